theorem mj_d278_0 : mj_dchk 278 0 35 = true := by decide +kernel
theorem mj_d278 : ∀ p, p < 35 → ∀ q, mj_ins 278 p = some q → decode (mj_cd 278) p = .ok q := by
  intro p hp q hq
  by_cases h0 : p < 35
  · exact mj_dchk_use mj_d278_0 (by omega) (by omega) hq
  omega
theorem mj_d279_0 : mj_dchk 279 0 23 = true := by decide +kernel
theorem mj_d279 : ∀ p, p < 23 → ∀ q, mj_ins 279 p = some q → decode (mj_cd 279) p = .ok q := by
  intro p hp q hq
  by_cases h0 : p < 23
  · exact mj_dchk_use mj_d279_0 (by omega) (by omega) hq
  omega
theorem mj_d280_0 : mj_dchk 280 0 35 = true := by decide +kernel
theorem mj_d280 : ∀ p, p < 35 → ∀ q, mj_ins 280 p = some q → decode (mj_cd 280) p = .ok q := by
  intro p hp q hq
  by_cases h0 : p < 35
  · exact mj_dchk_use mj_d280_0 (by omega) (by omega) hq
  omega
theorem mj_d281_0 : mj_dchk 281 0 19 = true := by decide +kernel
theorem mj_d281 : ∀ p, p < 19 → ∀ q, mj_ins 281 p = some q → decode (mj_cd 281) p = .ok q := by
  intro p hp q hq
  by_cases h0 : p < 19
  · exact mj_dchk_use mj_d281_0 (by omega) (by omega) hq
  omega
theorem mj_d282_0 : mj_dchk 282 0 22 = true := by decide +kernel
theorem mj_d282 : ∀ p, p < 22 → ∀ q, mj_ins 282 p = some q → decode (mj_cd 282) p = .ok q := by
  intro p hp q hq
  by_cases h0 : p < 22
  · exact mj_dchk_use mj_d282_0 (by omega) (by omega) hq
  omega
theorem mj_d283_0 : mj_dchk 283 0 55 = true := by decide +kernel
theorem mj_d283 : ∀ p, p < 55 → ∀ q, mj_ins 283 p = some q → decode (mj_cd 283) p = .ok q := by
  intro p hp q hq
  by_cases h0 : p < 55
  · exact mj_dchk_use mj_d283_0 (by omega) (by omega) hq
  omega
theorem mj_d284_0 : mj_dchk 284 0 34 = true := by decide +kernel
theorem mj_d284 : ∀ p, p < 34 → ∀ q, mj_ins 284 p = some q → decode (mj_cd 284) p = .ok q := by
  intro p hp q hq
  by_cases h0 : p < 34
  · exact mj_dchk_use mj_d284_0 (by omega) (by omega) hq
  omega
theorem mj_d285_0 : mj_dchk 285 0 80 = true := by decide +kernel
theorem mj_d285_80 : mj_dchk 285 80 40 = true := by decide +kernel
theorem mj_d285 : ∀ p, p < 120 → ∀ q, mj_ins 285 p = some q → decode (mj_cd 285) p = .ok q := by
  intro p hp q hq
  by_cases h0 : p < 80
  · exact mj_dchk_use mj_d285_0 (by omega) (by omega) hq
  by_cases h80 : p < 120
  · exact mj_dchk_use mj_d285_80 (by omega) (by omega) hq
  omega
theorem mj_d286_0 : mj_dchk 286 0 42 = true := by decide +kernel
theorem mj_d286 : ∀ p, p < 42 → ∀ q, mj_ins 286 p = some q → decode (mj_cd 286) p = .ok q := by
  intro p hp q hq
  by_cases h0 : p < 42
  · exact mj_dchk_use mj_d286_0 (by omega) (by omega) hq
  omega
theorem mj_d287_0 : mj_dchk 287 0 43 = true := by decide +kernel
theorem mj_d287 : ∀ p, p < 43 → ∀ q, mj_ins 287 p = some q → decode (mj_cd 287) p = .ok q := by
  intro p hp q hq
  by_cases h0 : p < 43
  · exact mj_dchk_use mj_d287_0 (by omega) (by omega) hq
  omega
theorem mj_d288_0 : mj_dchk 288 0 35 = true := by decide +kernel
theorem mj_d288 : ∀ p, p < 35 → ∀ q, mj_ins 288 p = some q → decode (mj_cd 288) p = .ok q := by
  intro p hp q hq
  by_cases h0 : p < 35
  · exact mj_dchk_use mj_d288_0 (by omega) (by omega) hq
  omega
theorem mj_d289_0 : mj_dchk 289 0 80 = true := by decide +kernel
theorem mj_d289_80 : mj_dchk 289 80 68 = true := by decide +kernel
theorem mj_d289 : ∀ p, p < 148 → ∀ q, mj_ins 289 p = some q → decode (mj_cd 289) p = .ok q := by
  intro p hp q hq
  by_cases h0 : p < 80
  · exact mj_dchk_use mj_d289_0 (by omega) (by omega) hq
  by_cases h80 : p < 148
  · exact mj_dchk_use mj_d289_80 (by omega) (by omega) hq
  omega
theorem mj_d290_0 : mj_dchk 290 0 25 = true := by decide +kernel
theorem mj_d290 : ∀ p, p < 25 → ∀ q, mj_ins 290 p = some q → decode (mj_cd 290) p = .ok q := by
  intro p hp q hq
  by_cases h0 : p < 25
  · exact mj_dchk_use mj_d290_0 (by omega) (by omega) hq
  omega
theorem mj_d291_0 : mj_dchk 291 0 29 = true := by decide +kernel
theorem mj_d291 : ∀ p, p < 29 → ∀ q, mj_ins 291 p = some q → decode (mj_cd 291) p = .ok q := by
  intro p hp q hq
  by_cases h0 : p < 29
  · exact mj_dchk_use mj_d291_0 (by omega) (by omega) hq
  omega
theorem mj_d292_0 : mj_dchk 292 0 63 = true := by decide +kernel
theorem mj_d292 : ∀ p, p < 63 → ∀ q, mj_ins 292 p = some q → decode (mj_cd 292) p = .ok q := by
  intro p hp q hq
  by_cases h0 : p < 63
  · exact mj_dchk_use mj_d292_0 (by omega) (by omega) hq
  omega
theorem mj_d293_0 : mj_dchk 293 0 80 = true := by decide +kernel
theorem mj_d293_80 : mj_dchk 293 80 77 = true := by decide +kernel
theorem mj_d293 : ∀ p, p < 157 → ∀ q, mj_ins 293 p = some q → decode (mj_cd 293) p = .ok q := by
  intro p hp q hq
  by_cases h0 : p < 80
  · exact mj_dchk_use mj_d293_0 (by omega) (by omega) hq
  by_cases h80 : p < 157
  · exact mj_dchk_use mj_d293_80 (by omega) (by omega) hq
  omega
theorem mj_d294_0 : mj_dchk 294 0 80 = true := by decide +kernel
theorem mj_d294_80 : mj_dchk 294 80 1 = true := by decide +kernel
theorem mj_d294 : ∀ p, p < 81 → ∀ q, mj_ins 294 p = some q → decode (mj_cd 294) p = .ok q := by
  intro p hp q hq
  by_cases h0 : p < 80
  · exact mj_dchk_use mj_d294_0 (by omega) (by omega) hq
  by_cases h80 : p < 81
  · exact mj_dchk_use mj_d294_80 (by omega) (by omega) hq
  omega
theorem mj_d295_0 : mj_dchk 295 0 80 = true := by decide +kernel
theorem mj_d295_80 : mj_dchk 295 80 80 = true := by decide +kernel
theorem mj_d295_160 : mj_dchk 295 160 17 = true := by decide +kernel
theorem mj_d295 : ∀ p, p < 177 → ∀ q, mj_ins 295 p = some q → decode (mj_cd 295) p = .ok q := by
  intro p hp q hq
  by_cases h0 : p < 80
  · exact mj_dchk_use mj_d295_0 (by omega) (by omega) hq
  by_cases h80 : p < 160
  · exact mj_dchk_use mj_d295_80 (by omega) (by omega) hq
  by_cases h160 : p < 177
  · exact mj_dchk_use mj_d295_160 (by omega) (by omega) hq
  omega
theorem mj_d296_0 : mj_dchk 296 0 65 = true := by decide +kernel
theorem mj_d296 : ∀ p, p < 65 → ∀ q, mj_ins 296 p = some q → decode (mj_cd 296) p = .ok q := by
  intro p hp q hq
  by_cases h0 : p < 65
  · exact mj_dchk_use mj_d296_0 (by omega) (by omega) hq
  omega
theorem mj_d297_0 : mj_dchk 297 0 50 = true := by decide +kernel
theorem mj_d297 : ∀ p, p < 50 → ∀ q, mj_ins 297 p = some q → decode (mj_cd 297) p = .ok q := by
  intro p hp q hq
  by_cases h0 : p < 50
  · exact mj_dchk_use mj_d297_0 (by omega) (by omega) hq
  omega
theorem mj_d298_0 : mj_dchk 298 0 45 = true := by decide +kernel
theorem mj_d298 : ∀ p, p < 45 → ∀ q, mj_ins 298 p = some q → decode (mj_cd 298) p = .ok q := by
  intro p hp q hq
  by_cases h0 : p < 45
  · exact mj_dchk_use mj_d298_0 (by omega) (by omega) hq
  omega
theorem mj_d299_0 : mj_dchk 299 0 50 = true := by decide +kernel
theorem mj_d299 : ∀ p, p < 50 → ∀ q, mj_ins 299 p = some q → decode (mj_cd 299) p = .ok q := by
  intro p hp q hq
  by_cases h0 : p < 50
  · exact mj_dchk_use mj_d299_0 (by omega) (by omega) hq
  omega
theorem mj_d300_0 : mj_dchk 300 0 31 = true := by decide +kernel
theorem mj_d300 : ∀ p, p < 31 → ∀ q, mj_ins 300 p = some q → decode (mj_cd 300) p = .ok q := by
  intro p hp q hq
  by_cases h0 : p < 31
  · exact mj_dchk_use mj_d300_0 (by omega) (by omega) hq
  omega
theorem mj_d301_0 : mj_dchk 301 0 51 = true := by decide +kernel
theorem mj_d301 : ∀ p, p < 51 → ∀ q, mj_ins 301 p = some q → decode (mj_cd 301) p = .ok q := by
  intro p hp q hq
  by_cases h0 : p < 51
  · exact mj_dchk_use mj_d301_0 (by omega) (by omega) hq
  omega
theorem mj_d302_0 : mj_dchk 302 0 58 = true := by decide +kernel
theorem mj_d302 : ∀ p, p < 58 → ∀ q, mj_ins 302 p = some q → decode (mj_cd 302) p = .ok q := by
  intro p hp q hq
  by_cases h0 : p < 58
  · exact mj_dchk_use mj_d302_0 (by omega) (by omega) hq
  omega
theorem mj_d303_0 : mj_dchk 303 0 67 = true := by decide +kernel
theorem mj_d303 : ∀ p, p < 67 → ∀ q, mj_ins 303 p = some q → decode (mj_cd 303) p = .ok q := by
  intro p hp q hq
  by_cases h0 : p < 67
  · exact mj_dchk_use mj_d303_0 (by omega) (by omega) hq
  omega
theorem mj_d304_0 : mj_dchk 304 0 54 = true := by decide +kernel
theorem mj_d304 : ∀ p, p < 54 → ∀ q, mj_ins 304 p = some q → decode (mj_cd 304) p = .ok q := by
  intro p hp q hq
  by_cases h0 : p < 54
  · exact mj_dchk_use mj_d304_0 (by omega) (by omega) hq
  omega
theorem mj_d305_0 : mj_dchk 305 0 56 = true := by decide +kernel
theorem mj_d305 : ∀ p, p < 56 → ∀ q, mj_ins 305 p = some q → decode (mj_cd 305) p = .ok q := by
  intro p hp q hq
  by_cases h0 : p < 56
  · exact mj_dchk_use mj_d305_0 (by omega) (by omega) hq
  omega
theorem mj_d306_0 : mj_dchk 306 0 54 = true := by decide +kernel
theorem mj_d306 : ∀ p, p < 54 → ∀ q, mj_ins 306 p = some q → decode (mj_cd 306) p = .ok q := by
  intro p hp q hq
  by_cases h0 : p < 54
  · exact mj_dchk_use mj_d306_0 (by omega) (by omega) hq
  omega
theorem mj_d307_0 : mj_dchk 307 0 80 = true := by decide +kernel
theorem mj_d307_80 : mj_dchk 307 80 72 = true := by decide +kernel
theorem mj_d307 : ∀ p, p < 152 → ∀ q, mj_ins 307 p = some q → decode (mj_cd 307) p = .ok q := by
  intro p hp q hq
  by_cases h0 : p < 80
  · exact mj_dchk_use mj_d307_0 (by omega) (by omega) hq
  by_cases h80 : p < 152
  · exact mj_dchk_use mj_d307_80 (by omega) (by omega) hq
  omega
theorem mj_d308_0 : mj_dchk 308 0 32 = true := by decide +kernel
theorem mj_d308 : ∀ p, p < 32 → ∀ q, mj_ins 308 p = some q → decode (mj_cd 308) p = .ok q := by
  intro p hp q hq
  by_cases h0 : p < 32
  · exact mj_dchk_use mj_d308_0 (by omega) (by omega) hq
  omega
theorem mj_d309_0 : mj_dchk 309 0 71 = true := by decide +kernel
theorem mj_d309 : ∀ p, p < 71 → ∀ q, mj_ins 309 p = some q → decode (mj_cd 309) p = .ok q := by
  intro p hp q hq
  by_cases h0 : p < 71
  · exact mj_dchk_use mj_d309_0 (by omega) (by omega) hq
  omega
theorem mj_d310_0 : mj_dchk 310 0 57 = true := by decide +kernel
theorem mj_d310 : ∀ p, p < 57 → ∀ q, mj_ins 310 p = some q → decode (mj_cd 310) p = .ok q := by
  intro p hp q hq
  by_cases h0 : p < 57
  · exact mj_dchk_use mj_d310_0 (by omega) (by omega) hq
  omega
theorem mj_d311_0 : mj_dchk 311 0 38 = true := by decide +kernel
theorem mj_d311 : ∀ p, p < 38 → ∀ q, mj_ins 311 p = some q → decode (mj_cd 311) p = .ok q := by
  intro p hp q hq
  by_cases h0 : p < 38
  · exact mj_dchk_use mj_d311_0 (by omega) (by omega) hq
  omega
theorem mj_d312_0 : mj_dchk 312 0 80 = true := by decide +kernel
theorem mj_d312_80 : mj_dchk 312 80 20 = true := by decide +kernel
theorem mj_d312 : ∀ p, p < 100 → ∀ q, mj_ins 312 p = some q → decode (mj_cd 312) p = .ok q := by
  intro p hp q hq
  by_cases h0 : p < 80
  · exact mj_dchk_use mj_d312_0 (by omega) (by omega) hq
  by_cases h80 : p < 100
  · exact mj_dchk_use mj_d312_80 (by omega) (by omega) hq
  omega
theorem mj_d313_0 : mj_dchk 313 0 49 = true := by decide +kernel
theorem mj_d313 : ∀ p, p < 49 → ∀ q, mj_ins 313 p = some q → decode (mj_cd 313) p = .ok q := by
  intro p hp q hq
  by_cases h0 : p < 49
  · exact mj_dchk_use mj_d313_0 (by omega) (by omega) hq
  omega
theorem mj_d314_0 : mj_dchk 314 0 59 = true := by decide +kernel
theorem mj_d314 : ∀ p, p < 59 → ∀ q, mj_ins 314 p = some q → decode (mj_cd 314) p = .ok q := by
  intro p hp q hq
  by_cases h0 : p < 59
  · exact mj_dchk_use mj_d314_0 (by omega) (by omega) hq
  omega
theorem mj_d315_0 : mj_dchk 315 0 67 = true := by decide +kernel
theorem mj_d315 : ∀ p, p < 67 → ∀ q, mj_ins 315 p = some q → decode (mj_cd 315) p = .ok q := by
  intro p hp q hq
  by_cases h0 : p < 67
  · exact mj_dchk_use mj_d315_0 (by omega) (by omega) hq
  omega
theorem mj_d316_0 : mj_dchk 316 0 54 = true := by decide +kernel
theorem mj_d316 : ∀ p, p < 54 → ∀ q, mj_ins 316 p = some q → decode (mj_cd 316) p = .ok q := by
  intro p hp q hq
  by_cases h0 : p < 54
  · exact mj_dchk_use mj_d316_0 (by omega) (by omega) hq
  omega
theorem mj_d317_0 : mj_dchk 317 0 34 = true := by decide +kernel
theorem mj_d317 : ∀ p, p < 34 → ∀ q, mj_ins 317 p = some q → decode (mj_cd 317) p = .ok q := by
  intro p hp q hq
  by_cases h0 : p < 34
  · exact mj_dchk_use mj_d317_0 (by omega) (by omega) hq
  omega
theorem mj_d318_0 : mj_dchk 318 0 63 = true := by decide +kernel
theorem mj_d318 : ∀ p, p < 63 → ∀ q, mj_ins 318 p = some q → decode (mj_cd 318) p = .ok q := by
  intro p hp q hq
  by_cases h0 : p < 63
  · exact mj_dchk_use mj_d318_0 (by omega) (by omega) hq
  omega
theorem mj_d319_0 : mj_dchk 319 0 80 = true := by decide +kernel
theorem mj_d319_80 : mj_dchk 319 80 23 = true := by decide +kernel
theorem mj_d319 : ∀ p, p < 103 → ∀ q, mj_ins 319 p = some q → decode (mj_cd 319) p = .ok q := by
  intro p hp q hq
  by_cases h0 : p < 80
  · exact mj_dchk_use mj_d319_0 (by omega) (by omega) hq
  by_cases h80 : p < 103
  · exact mj_dchk_use mj_d319_80 (by omega) (by omega) hq
  omega
theorem mj_d320_0 : mj_dchk 320 0 80 = true := by decide +kernel
theorem mj_d320_80 : mj_dchk 320 80 39 = true := by decide +kernel
theorem mj_d320 : ∀ p, p < 119 → ∀ q, mj_ins 320 p = some q → decode (mj_cd 320) p = .ok q := by
  intro p hp q hq
  by_cases h0 : p < 80
  · exact mj_dchk_use mj_d320_0 (by omega) (by omega) hq
  by_cases h80 : p < 119
  · exact mj_dchk_use mj_d320_80 (by omega) (by omega) hq
  omega
theorem mj_d321_0 : mj_dchk 321 0 42 = true := by decide +kernel
theorem mj_d321 : ∀ p, p < 42 → ∀ q, mj_ins 321 p = some q → decode (mj_cd 321) p = .ok q := by
  intro p hp q hq
  by_cases h0 : p < 42
  · exact mj_dchk_use mj_d321_0 (by omega) (by omega) hq
  omega
theorem mj_d322_0 : mj_dchk 322 0 67 = true := by decide +kernel
theorem mj_d322 : ∀ p, p < 67 → ∀ q, mj_ins 322 p = some q → decode (mj_cd 322) p = .ok q := by
  intro p hp q hq
  by_cases h0 : p < 67
  · exact mj_dchk_use mj_d322_0 (by omega) (by omega) hq
  omega
theorem mj_d323_0 : mj_dchk 323 0 39 = true := by decide +kernel
theorem mj_d323 : ∀ p, p < 39 → ∀ q, mj_ins 323 p = some q → decode (mj_cd 323) p = .ok q := by
  intro p hp q hq
  by_cases h0 : p < 39
  · exact mj_dchk_use mj_d323_0 (by omega) (by omega) hq
  omega
theorem mj_d324_0 : mj_dchk 324 0 46 = true := by decide +kernel
theorem mj_d324 : ∀ p, p < 46 → ∀ q, mj_ins 324 p = some q → decode (mj_cd 324) p = .ok q := by
  intro p hp q hq
  by_cases h0 : p < 46
  · exact mj_dchk_use mj_d324_0 (by omega) (by omega) hq
  omega
theorem mj_d325_0 : mj_dchk 325 0 31 = true := by decide +kernel
theorem mj_d325 : ∀ p, p < 31 → ∀ q, mj_ins 325 p = some q → decode (mj_cd 325) p = .ok q := by
  intro p hp q hq
  by_cases h0 : p < 31
  · exact mj_dchk_use mj_d325_0 (by omega) (by omega) hq
  omega
theorem mj_d326_0 : mj_dchk 326 0 80 = true := by decide +kernel
theorem mj_d326_80 : mj_dchk 326 80 12 = true := by decide +kernel
theorem mj_d326 : ∀ p, p < 92 → ∀ q, mj_ins 326 p = some q → decode (mj_cd 326) p = .ok q := by
  intro p hp q hq
  by_cases h0 : p < 80
  · exact mj_dchk_use mj_d326_0 (by omega) (by omega) hq
  by_cases h80 : p < 92
  · exact mj_dchk_use mj_d326_80 (by omega) (by omega) hq
  omega
theorem mj_d327_0 : mj_dchk 327 0 80 = true := by decide +kernel
theorem mj_d327_80 : mj_dchk 327 80 8 = true := by decide +kernel
theorem mj_d327 : ∀ p, p < 88 → ∀ q, mj_ins 327 p = some q → decode (mj_cd 327) p = .ok q := by
  intro p hp q hq
  by_cases h0 : p < 80
  · exact mj_dchk_use mj_d327_0 (by omega) (by omega) hq
  by_cases h80 : p < 88
  · exact mj_dchk_use mj_d327_80 (by omega) (by omega) hq
  omega
theorem mj_d328_0 : mj_dchk 328 0 80 = true := by decide +kernel
theorem mj_d328_80 : mj_dchk 328 80 72 = true := by decide +kernel
theorem mj_d328 : ∀ p, p < 152 → ∀ q, mj_ins 328 p = some q → decode (mj_cd 328) p = .ok q := by
  intro p hp q hq
  by_cases h0 : p < 80
  · exact mj_dchk_use mj_d328_0 (by omega) (by omega) hq
  by_cases h80 : p < 152
  · exact mj_dchk_use mj_d328_80 (by omega) (by omega) hq
  omega
theorem mj_d329_0 : mj_dchk 329 0 73 = true := by decide +kernel
theorem mj_d329 : ∀ p, p < 73 → ∀ q, mj_ins 329 p = some q → decode (mj_cd 329) p = .ok q := by
  intro p hp q hq
  by_cases h0 : p < 73
  · exact mj_dchk_use mj_d329_0 (by omega) (by omega) hq
  omega
theorem mj_d330_0 : mj_dchk 330 0 80 = true := by decide +kernel
theorem mj_d330_80 : mj_dchk 330 80 25 = true := by decide +kernel
theorem mj_d330 : ∀ p, p < 105 → ∀ q, mj_ins 330 p = some q → decode (mj_cd 330) p = .ok q := by
  intro p hp q hq
  by_cases h0 : p < 80
  · exact mj_dchk_use mj_d330_0 (by omega) (by omega) hq
  by_cases h80 : p < 105
  · exact mj_dchk_use mj_d330_80 (by omega) (by omega) hq
  omega
theorem mj_d331_0 : mj_dchk 331 0 80 = true := by decide +kernel
theorem mj_d331_80 : mj_dchk 331 80 24 = true := by decide +kernel
theorem mj_d331 : ∀ p, p < 104 → ∀ q, mj_ins 331 p = some q → decode (mj_cd 331) p = .ok q := by
  intro p hp q hq
  by_cases h0 : p < 80
  · exact mj_dchk_use mj_d331_0 (by omega) (by omega) hq
  by_cases h80 : p < 104
  · exact mj_dchk_use mj_d331_80 (by omega) (by omega) hq
  omega
theorem mj_d332_0 : mj_dchk 332 0 19 = true := by decide +kernel
theorem mj_d332 : ∀ p, p < 19 → ∀ q, mj_ins 332 p = some q → decode (mj_cd 332) p = .ok q := by
  intro p hp q hq
  by_cases h0 : p < 19
  · exact mj_dchk_use mj_d332_0 (by omega) (by omega) hq
  omega
theorem mj_d333_0 : mj_dchk 333 0 19 = true := by decide +kernel
theorem mj_d333 : ∀ p, p < 19 → ∀ q, mj_ins 333 p = some q → decode (mj_cd 333) p = .ok q := by
  intro p hp q hq
  by_cases h0 : p < 19
  · exact mj_dchk_use mj_d333_0 (by omega) (by omega) hq
  omega
theorem mj_d334_0 : mj_dchk 334 0 35 = true := by decide +kernel
theorem mj_d334 : ∀ p, p < 35 → ∀ q, mj_ins 334 p = some q → decode (mj_cd 334) p = .ok q := by
  intro p hp q hq
  by_cases h0 : p < 35
  · exact mj_dchk_use mj_d334_0 (by omega) (by omega) hq
  omega
theorem mj_d335_0 : mj_dchk 335 0 40 = true := by decide +kernel
theorem mj_d335_40 : mj_dchk 335 40 40 = true := by decide +kernel
theorem mj_d335_80 : mj_dchk 335 80 40 = true := by decide +kernel
theorem mj_d335_120 : mj_dchk 335 120 40 = true := by decide +kernel
theorem mj_d335_160 : mj_dchk 335 160 40 = true := by decide +kernel
theorem mj_d335_200 : mj_dchk 335 200 40 = true := by decide +kernel
theorem mj_d335_240 : mj_dchk 335 240 40 = true := by decide +kernel
theorem mj_d335_280 : mj_dchk 335 280 40 = true := by decide +kernel
theorem mj_d335_320 : mj_dchk 335 320 40 = true := by decide +kernel
theorem mj_d335_360 : mj_dchk 335 360 40 = true := by decide +kernel
theorem mj_d335_400 : mj_dchk 335 400 40 = true := by decide +kernel
theorem mj_d335_440 : mj_dchk 335 440 40 = true := by decide +kernel
theorem mj_d335_480 : mj_dchk 335 480 40 = true := by decide +kernel
theorem mj_d335_520 : mj_dchk 335 520 40 = true := by decide +kernel
theorem mj_d335_560 : mj_dchk 335 560 40 = true := by decide +kernel
theorem mj_d335_600 : mj_dchk 335 600 40 = true := by decide +kernel
theorem mj_d335_640 : mj_dchk 335 640 40 = true := by decide +kernel
theorem mj_d335_680 : mj_dchk 335 680 40 = true := by decide +kernel
theorem mj_d335_720 : mj_dchk 335 720 40 = true := by decide +kernel
theorem mj_d335_760 : mj_dchk 335 760 40 = true := by decide +kernel
theorem mj_d335_800 : mj_dchk 335 800 40 = true := by decide +kernel
theorem mj_d335_840 : mj_dchk 335 840 40 = true := by decide +kernel
theorem mj_d335_880 : mj_dchk 335 880 40 = true := by decide +kernel
theorem mj_d335_920 : mj_dchk 335 920 40 = true := by decide +kernel
theorem mj_d335_960 : mj_dchk 335 960 40 = true := by decide +kernel
theorem mj_d335_1000 : mj_dchk 335 1000 40 = true := by decide +kernel
theorem mj_d335_1040 : mj_dchk 335 1040 40 = true := by decide +kernel
theorem mj_d335_1080 : mj_dchk 335 1080 40 = true := by decide +kernel
theorem mj_d335_1120 : mj_dchk 335 1120 40 = true := by decide +kernel
theorem mj_d335_1160 : mj_dchk 335 1160 40 = true := by decide +kernel
theorem mj_d335_1200 : mj_dchk 335 1200 40 = true := by decide +kernel
theorem mj_d335_1240 : mj_dchk 335 1240 40 = true := by decide +kernel
theorem mj_d335_1280 : mj_dchk 335 1280 40 = true := by decide +kernel
theorem mj_d335_1320 : mj_dchk 335 1320 40 = true := by decide +kernel
theorem mj_d335_1360 : mj_dchk 335 1360 40 = true := by decide +kernel
theorem mj_d335_1400 : mj_dchk 335 1400 40 = true := by decide +kernel
theorem mj_d335_1440 : mj_dchk 335 1440 40 = true := by decide +kernel
theorem mj_d335_1480 : mj_dchk 335 1480 40 = true := by decide +kernel
theorem mj_d335_1520 : mj_dchk 335 1520 40 = true := by decide +kernel
theorem mj_d335_1560 : mj_dchk 335 1560 40 = true := by decide +kernel
theorem mj_d335_1600 : mj_dchk 335 1600 40 = true := by decide +kernel
theorem mj_d335_1640 : mj_dchk 335 1640 30 = true := by decide +kernel
theorem mj_d335 : ∀ p, p < 1670 → ∀ q, mj_ins 335 p = some q → decode (mj_cd 335) p = .ok q := by
  intro p hp q hq
  by_cases h0 : p < 40
  · exact mj_dchk_use mj_d335_0 (by omega) (by omega) hq
  by_cases h40 : p < 80
  · exact mj_dchk_use mj_d335_40 (by omega) (by omega) hq
  by_cases h80 : p < 120
  · exact mj_dchk_use mj_d335_80 (by omega) (by omega) hq
  by_cases h120 : p < 160
  · exact mj_dchk_use mj_d335_120 (by omega) (by omega) hq
  by_cases h160 : p < 200
  · exact mj_dchk_use mj_d335_160 (by omega) (by omega) hq
  by_cases h200 : p < 240
  · exact mj_dchk_use mj_d335_200 (by omega) (by omega) hq
  by_cases h240 : p < 280
  · exact mj_dchk_use mj_d335_240 (by omega) (by omega) hq
  by_cases h280 : p < 320
  · exact mj_dchk_use mj_d335_280 (by omega) (by omega) hq
  by_cases h320 : p < 360
  · exact mj_dchk_use mj_d335_320 (by omega) (by omega) hq
  by_cases h360 : p < 400
  · exact mj_dchk_use mj_d335_360 (by omega) (by omega) hq
  by_cases h400 : p < 440
  · exact mj_dchk_use mj_d335_400 (by omega) (by omega) hq
  by_cases h440 : p < 480
  · exact mj_dchk_use mj_d335_440 (by omega) (by omega) hq
  by_cases h480 : p < 520
  · exact mj_dchk_use mj_d335_480 (by omega) (by omega) hq
  by_cases h520 : p < 560
  · exact mj_dchk_use mj_d335_520 (by omega) (by omega) hq
  by_cases h560 : p < 600
  · exact mj_dchk_use mj_d335_560 (by omega) (by omega) hq
  by_cases h600 : p < 640
  · exact mj_dchk_use mj_d335_600 (by omega) (by omega) hq
  by_cases h640 : p < 680
  · exact mj_dchk_use mj_d335_640 (by omega) (by omega) hq
  by_cases h680 : p < 720
  · exact mj_dchk_use mj_d335_680 (by omega) (by omega) hq
  by_cases h720 : p < 760
  · exact mj_dchk_use mj_d335_720 (by omega) (by omega) hq
  by_cases h760 : p < 800
  · exact mj_dchk_use mj_d335_760 (by omega) (by omega) hq
  by_cases h800 : p < 840
  · exact mj_dchk_use mj_d335_800 (by omega) (by omega) hq
  by_cases h840 : p < 880
  · exact mj_dchk_use mj_d335_840 (by omega) (by omega) hq
  by_cases h880 : p < 920
  · exact mj_dchk_use mj_d335_880 (by omega) (by omega) hq
  by_cases h920 : p < 960
  · exact mj_dchk_use mj_d335_920 (by omega) (by omega) hq
  by_cases h960 : p < 1000
  · exact mj_dchk_use mj_d335_960 (by omega) (by omega) hq
  by_cases h1000 : p < 1040
  · exact mj_dchk_use mj_d335_1000 (by omega) (by omega) hq
  by_cases h1040 : p < 1080
  · exact mj_dchk_use mj_d335_1040 (by omega) (by omega) hq
  by_cases h1080 : p < 1120
  · exact mj_dchk_use mj_d335_1080 (by omega) (by omega) hq
  by_cases h1120 : p < 1160
  · exact mj_dchk_use mj_d335_1120 (by omega) (by omega) hq
  by_cases h1160 : p < 1200
  · exact mj_dchk_use mj_d335_1160 (by omega) (by omega) hq
  by_cases h1200 : p < 1240
  · exact mj_dchk_use mj_d335_1200 (by omega) (by omega) hq
  by_cases h1240 : p < 1280
  · exact mj_dchk_use mj_d335_1240 (by omega) (by omega) hq
  by_cases h1280 : p < 1320
  · exact mj_dchk_use mj_d335_1280 (by omega) (by omega) hq
  by_cases h1320 : p < 1360
  · exact mj_dchk_use mj_d335_1320 (by omega) (by omega) hq
  by_cases h1360 : p < 1400
  · exact mj_dchk_use mj_d335_1360 (by omega) (by omega) hq
  by_cases h1400 : p < 1440
  · exact mj_dchk_use mj_d335_1400 (by omega) (by omega) hq
  by_cases h1440 : p < 1480
  · exact mj_dchk_use mj_d335_1440 (by omega) (by omega) hq
  by_cases h1480 : p < 1520
  · exact mj_dchk_use mj_d335_1480 (by omega) (by omega) hq
  by_cases h1520 : p < 1560
  · exact mj_dchk_use mj_d335_1520 (by omega) (by omega) hq
  by_cases h1560 : p < 1600
  · exact mj_dchk_use mj_d335_1560 (by omega) (by omega) hq
  by_cases h1600 : p < 1640
  · exact mj_dchk_use mj_d335_1600 (by omega) (by omega) hq
  by_cases h1640 : p < 1670
  · exact mj_dchk_use mj_d335_1640 (by omega) (by omega) hq
  omega
