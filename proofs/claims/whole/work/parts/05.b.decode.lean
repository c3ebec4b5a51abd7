theorem mj_d83_0 : mj_dchk 83 0 40 = true := by decide +kernel
theorem mj_d83_40 : mj_dchk 83 40 40 = true := by decide +kernel
theorem mj_d83_80 : mj_dchk 83 80 40 = true := by decide +kernel
theorem mj_d83_120 : mj_dchk 83 120 40 = true := by decide +kernel
theorem mj_d83_160 : mj_dchk 83 160 40 = true := by decide +kernel
theorem mj_d83_200 : mj_dchk 83 200 40 = true := by decide +kernel
theorem mj_d83_240 : mj_dchk 83 240 40 = true := by decide +kernel
theorem mj_d83_280 : mj_dchk 83 280 40 = true := by decide +kernel
theorem mj_d83_320 : mj_dchk 83 320 4 = true := by decide +kernel
theorem mj_d83 : ∀ p, p < 324 → ∀ q, mj_ins 83 p = some q → decode (mj_cd 83) p = .ok q := by
  intro p hp q hq
  by_cases h0 : p < 40
  · exact mj_dchk_use mj_d83_0 (by omega) (by omega) hq
  by_cases h40 : p < 80
  · exact mj_dchk_use mj_d83_40 (by omega) (by omega) hq
  by_cases h80 : p < 120
  · exact mj_dchk_use mj_d83_80 (by omega) (by omega) hq
  by_cases h120 : p < 160
  · exact mj_dchk_use mj_d83_120 (by omega) (by omega) hq
  by_cases h160 : p < 200
  · exact mj_dchk_use mj_d83_160 (by omega) (by omega) hq
  by_cases h200 : p < 240
  · exact mj_dchk_use mj_d83_200 (by omega) (by omega) hq
  by_cases h240 : p < 280
  · exact mj_dchk_use mj_d83_240 (by omega) (by omega) hq
  by_cases h280 : p < 320
  · exact mj_dchk_use mj_d83_280 (by omega) (by omega) hq
  by_cases h320 : p < 324
  · exact mj_dchk_use mj_d83_320 (by omega) (by omega) hq
  omega
theorem mj_d84_0 : mj_dchk 84 0 80 = true := by decide +kernel
theorem mj_d84_80 : mj_dchk 84 80 48 = true := by decide +kernel
theorem mj_d84 : ∀ p, p < 128 → ∀ q, mj_ins 84 p = some q → decode (mj_cd 84) p = .ok q := by
  intro p hp q hq
  by_cases h0 : p < 80
  · exact mj_dchk_use mj_d84_0 (by omega) (by omega) hq
  by_cases h80 : p < 128
  · exact mj_dchk_use mj_d84_80 (by omega) (by omega) hq
  omega
theorem mj_d85_0 : mj_dchk 85 0 53 = true := by decide +kernel
theorem mj_d85 : ∀ p, p < 53 → ∀ q, mj_ins 85 p = some q → decode (mj_cd 85) p = .ok q := by
  intro p hp q hq
  by_cases h0 : p < 53
  · exact mj_dchk_use mj_d85_0 (by omega) (by omega) hq
  omega
theorem mj_d86_0 : mj_dchk 86 0 45 = true := by decide +kernel
theorem mj_d86 : ∀ p, p < 45 → ∀ q, mj_ins 86 p = some q → decode (mj_cd 86) p = .ok q := by
  intro p hp q hq
  by_cases h0 : p < 45
  · exact mj_dchk_use mj_d86_0 (by omega) (by omega) hq
  omega
theorem mj_d87_0 : mj_dchk 87 0 49 = true := by decide +kernel
theorem mj_d87 : ∀ p, p < 49 → ∀ q, mj_ins 87 p = some q → decode (mj_cd 87) p = .ok q := by
  intro p hp q hq
  by_cases h0 : p < 49
  · exact mj_dchk_use mj_d87_0 (by omega) (by omega) hq
  omega
theorem mj_d88_0 : mj_dchk 88 0 80 = true := by decide +kernel
theorem mj_d88_80 : mj_dchk 88 80 80 = true := by decide +kernel
theorem mj_d88_160 : mj_dchk 88 160 80 = true := by decide +kernel
theorem mj_d88_240 : mj_dchk 88 240 10 = true := by decide +kernel
theorem mj_d88 : ∀ p, p < 250 → ∀ q, mj_ins 88 p = some q → decode (mj_cd 88) p = .ok q := by
  intro p hp q hq
  by_cases h0 : p < 80
  · exact mj_dchk_use mj_d88_0 (by omega) (by omega) hq
  by_cases h80 : p < 160
  · exact mj_dchk_use mj_d88_80 (by omega) (by omega) hq
  by_cases h160 : p < 240
  · exact mj_dchk_use mj_d88_160 (by omega) (by omega) hq
  by_cases h240 : p < 250
  · exact mj_dchk_use mj_d88_240 (by omega) (by omega) hq
  omega
theorem mj_d89_0 : mj_dchk 89 0 63 = true := by decide +kernel
theorem mj_d89 : ∀ p, p < 63 → ∀ q, mj_ins 89 p = some q → decode (mj_cd 89) p = .ok q := by
  intro p hp q hq
  by_cases h0 : p < 63
  · exact mj_dchk_use mj_d89_0 (by omega) (by omega) hq
  omega
theorem mj_d90_0 : mj_dchk 90 0 14 = true := by decide +kernel
theorem mj_d90 : ∀ p, p < 14 → ∀ q, mj_ins 90 p = some q → decode (mj_cd 90) p = .ok q := by
  intro p hp q hq
  by_cases h0 : p < 14
  · exact mj_dchk_use mj_d90_0 (by omega) (by omega) hq
  omega
theorem mj_d91_0 : mj_dchk 91 0 80 = true := by decide +kernel
theorem mj_d91_80 : mj_dchk 91 80 15 = true := by decide +kernel
theorem mj_d91 : ∀ p, p < 95 → ∀ q, mj_ins 91 p = some q → decode (mj_cd 91) p = .ok q := by
  intro p hp q hq
  by_cases h0 : p < 80
  · exact mj_dchk_use mj_d91_0 (by omega) (by omega) hq
  by_cases h80 : p < 95
  · exact mj_dchk_use mj_d91_80 (by omega) (by omega) hq
  omega
theorem mj_d92_0 : mj_dchk 92 0 11 = true := by decide +kernel
theorem mj_d92 : ∀ p, p < 11 → ∀ q, mj_ins 92 p = some q → decode (mj_cd 92) p = .ok q := by
  intro p hp q hq
  by_cases h0 : p < 11
  · exact mj_dchk_use mj_d92_0 (by omega) (by omega) hq
  omega
theorem mj_d93_0 : mj_dchk 93 0 72 = true := by decide +kernel
theorem mj_d93 : ∀ p, p < 72 → ∀ q, mj_ins 93 p = some q → decode (mj_cd 93) p = .ok q := by
  intro p hp q hq
  by_cases h0 : p < 72
  · exact mj_dchk_use mj_d93_0 (by omega) (by omega) hq
  omega
theorem mj_d94_0 : mj_dchk 94 0 11 = true := by decide +kernel
theorem mj_d94 : ∀ p, p < 11 → ∀ q, mj_ins 94 p = some q → decode (mj_cd 94) p = .ok q := by
  intro p hp q hq
  by_cases h0 : p < 11
  · exact mj_dchk_use mj_d94_0 (by omega) (by omega) hq
  omega
theorem mj_d95_0 : mj_dchk 95 0 80 = true := by decide +kernel
theorem mj_d95_80 : mj_dchk 95 80 25 = true := by decide +kernel
theorem mj_d95 : ∀ p, p < 105 → ∀ q, mj_ins 95 p = some q → decode (mj_cd 95) p = .ok q := by
  intro p hp q hq
  by_cases h0 : p < 80
  · exact mj_dchk_use mj_d95_0 (by omega) (by omega) hq
  by_cases h80 : p < 105
  · exact mj_dchk_use mj_d95_80 (by omega) (by omega) hq
  omega
theorem mj_d96_0 : mj_dchk 96 0 18 = true := by decide +kernel
theorem mj_d96 : ∀ p, p < 18 → ∀ q, mj_ins 96 p = some q → decode (mj_cd 96) p = .ok q := by
  intro p hp q hq
  by_cases h0 : p < 18
  · exact mj_dchk_use mj_d96_0 (by omega) (by omega) hq
  omega
theorem mj_d97_0 : mj_dchk 97 0 20 = true := by decide +kernel
theorem mj_d97 : ∀ p, p < 20 → ∀ q, mj_ins 97 p = some q → decode (mj_cd 97) p = .ok q := by
  intro p hp q hq
  by_cases h0 : p < 20
  · exact mj_dchk_use mj_d97_0 (by omega) (by omega) hq
  omega
theorem mj_d98_0 : mj_dchk 98 0 56 = true := by decide +kernel
theorem mj_d98 : ∀ p, p < 56 → ∀ q, mj_ins 98 p = some q → decode (mj_cd 98) p = .ok q := by
  intro p hp q hq
  by_cases h0 : p < 56
  · exact mj_dchk_use mj_d98_0 (by omega) (by omega) hq
  omega
theorem mj_d99_0 : mj_dchk 99 0 80 = true := by decide +kernel
theorem mj_d99_80 : mj_dchk 99 80 18 = true := by decide +kernel
theorem mj_d99 : ∀ p, p < 98 → ∀ q, mj_ins 99 p = some q → decode (mj_cd 99) p = .ok q := by
  intro p hp q hq
  by_cases h0 : p < 80
  · exact mj_dchk_use mj_d99_0 (by omega) (by omega) hq
  by_cases h80 : p < 98
  · exact mj_dchk_use mj_d99_80 (by omega) (by omega) hq
  omega
theorem mj_d100_0 : mj_dchk 100 0 21 = true := by decide +kernel
theorem mj_d100 : ∀ p, p < 21 → ∀ q, mj_ins 100 p = some q → decode (mj_cd 100) p = .ok q := by
  intro p hp q hq
  by_cases h0 : p < 21
  · exact mj_dchk_use mj_d100_0 (by omega) (by omega) hq
  omega
theorem mj_d101_0 : mj_dchk 101 0 66 = true := by decide +kernel
theorem mj_d101 : ∀ p, p < 66 → ∀ q, mj_ins 101 p = some q → decode (mj_cd 101) p = .ok q := by
  intro p hp q hq
  by_cases h0 : p < 66
  · exact mj_dchk_use mj_d101_0 (by omega) (by omega) hq
  omega
theorem mj_d102_0 : mj_dchk 102 0 80 = true := by decide +kernel
theorem mj_d102_80 : mj_dchk 102 80 10 = true := by decide +kernel
theorem mj_d102 : ∀ p, p < 90 → ∀ q, mj_ins 102 p = some q → decode (mj_cd 102) p = .ok q := by
  intro p hp q hq
  by_cases h0 : p < 80
  · exact mj_dchk_use mj_d102_0 (by omega) (by omega) hq
  by_cases h80 : p < 90
  · exact mj_dchk_use mj_d102_80 (by omega) (by omega) hq
  omega
theorem mj_d103_0 : mj_dchk 103 0 40 = true := by decide +kernel
theorem mj_d103 : ∀ p, p < 40 → ∀ q, mj_ins 103 p = some q → decode (mj_cd 103) p = .ok q := by
  intro p hp q hq
  by_cases h0 : p < 40
  · exact mj_dchk_use mj_d103_0 (by omega) (by omega) hq
  omega
theorem mj_d104_0 : mj_dchk 104 0 54 = true := by decide +kernel
theorem mj_d104 : ∀ p, p < 54 → ∀ q, mj_ins 104 p = some q → decode (mj_cd 104) p = .ok q := by
  intro p hp q hq
  by_cases h0 : p < 54
  · exact mj_dchk_use mj_d104_0 (by omega) (by omega) hq
  omega
theorem mj_d105_0 : mj_dchk 105 0 80 = true := by decide +kernel
theorem mj_d105_80 : mj_dchk 105 80 80 = true := by decide +kernel
theorem mj_d105_160 : mj_dchk 105 160 6 = true := by decide +kernel
theorem mj_d105 : ∀ p, p < 166 → ∀ q, mj_ins 105 p = some q → decode (mj_cd 105) p = .ok q := by
  intro p hp q hq
  by_cases h0 : p < 80
  · exact mj_dchk_use mj_d105_0 (by omega) (by omega) hq
  by_cases h80 : p < 160
  · exact mj_dchk_use mj_d105_80 (by omega) (by omega) hq
  by_cases h160 : p < 166
  · exact mj_dchk_use mj_d105_160 (by omega) (by omega) hq
  omega
theorem mj_d106_0 : mj_dchk 106 0 27 = true := by decide +kernel
theorem mj_d106 : ∀ p, p < 27 → ∀ q, mj_ins 106 p = some q → decode (mj_cd 106) p = .ok q := by
  intro p hp q hq
  by_cases h0 : p < 27
  · exact mj_dchk_use mj_d106_0 (by omega) (by omega) hq
  omega
theorem mj_d107_0 : mj_dchk 107 0 68 = true := by decide +kernel
theorem mj_d107 : ∀ p, p < 68 → ∀ q, mj_ins 107 p = some q → decode (mj_cd 107) p = .ok q := by
  intro p hp q hq
  by_cases h0 : p < 68
  · exact mj_dchk_use mj_d107_0 (by omega) (by omega) hq
  omega
theorem mj_d108_0 : mj_dchk 108 0 48 = true := by decide +kernel
theorem mj_d108 : ∀ p, p < 48 → ∀ q, mj_ins 108 p = some q → decode (mj_cd 108) p = .ok q := by
  intro p hp q hq
  by_cases h0 : p < 48
  · exact mj_dchk_use mj_d108_0 (by omega) (by omega) hq
  omega
theorem mj_d109_0 : mj_dchk 109 0 80 = true := by decide +kernel
theorem mj_d109_80 : mj_dchk 109 80 80 = true := by decide +kernel
theorem mj_d109_160 : mj_dchk 109 160 63 = true := by decide +kernel
theorem mj_d109 : ∀ p, p < 223 → ∀ q, mj_ins 109 p = some q → decode (mj_cd 109) p = .ok q := by
  intro p hp q hq
  by_cases h0 : p < 80
  · exact mj_dchk_use mj_d109_0 (by omega) (by omega) hq
  by_cases h80 : p < 160
  · exact mj_dchk_use mj_d109_80 (by omega) (by omega) hq
  by_cases h160 : p < 223
  · exact mj_dchk_use mj_d109_160 (by omega) (by omega) hq
  omega
theorem mj_d110_0 : mj_dchk 110 0 46 = true := by decide +kernel
theorem mj_d110 : ∀ p, p < 46 → ∀ q, mj_ins 110 p = some q → decode (mj_cd 110) p = .ok q := by
  intro p hp q hq
  by_cases h0 : p < 46
  · exact mj_dchk_use mj_d110_0 (by omega) (by omega) hq
  omega
theorem mj_d111_0 : mj_dchk 111 0 80 = true := by decide +kernel
theorem mj_d111_80 : mj_dchk 111 80 9 = true := by decide +kernel
theorem mj_d111 : ∀ p, p < 89 → ∀ q, mj_ins 111 p = some q → decode (mj_cd 111) p = .ok q := by
  intro p hp q hq
  by_cases h0 : p < 80
  · exact mj_dchk_use mj_d111_0 (by omega) (by omega) hq
  by_cases h80 : p < 89
  · exact mj_dchk_use mj_d111_80 (by omega) (by omega) hq
  omega
theorem mj_d112_0 : mj_dchk 112 0 80 = true := by decide +kernel
theorem mj_d112_80 : mj_dchk 112 80 80 = true := by decide +kernel
theorem mj_d112_160 : mj_dchk 112 160 28 = true := by decide +kernel
theorem mj_d112 : ∀ p, p < 188 → ∀ q, mj_ins 112 p = some q → decode (mj_cd 112) p = .ok q := by
  intro p hp q hq
  by_cases h0 : p < 80
  · exact mj_dchk_use mj_d112_0 (by omega) (by omega) hq
  by_cases h80 : p < 160
  · exact mj_dchk_use mj_d112_80 (by omega) (by omega) hq
  by_cases h160 : p < 188
  · exact mj_dchk_use mj_d112_160 (by omega) (by omega) hq
  omega
theorem mj_d113_0 : mj_dchk 113 0 8 = true := by decide +kernel
theorem mj_d113 : ∀ p, p < 8 → ∀ q, mj_ins 113 p = some q → decode (mj_cd 113) p = .ok q := by
  intro p hp q hq
  by_cases h0 : p < 8
  · exact mj_dchk_use mj_d113_0 (by omega) (by omega) hq
  omega
theorem mj_d114_0 : mj_dchk 114 0 49 = true := by decide +kernel
theorem mj_d114 : ∀ p, p < 49 → ∀ q, mj_ins 114 p = some q → decode (mj_cd 114) p = .ok q := by
  intro p hp q hq
  by_cases h0 : p < 49
  · exact mj_dchk_use mj_d114_0 (by omega) (by omega) hq
  omega
theorem mj_d115_0 : mj_dchk 115 0 80 = true := by decide +kernel
theorem mj_d115_80 : mj_dchk 115 80 5 = true := by decide +kernel
theorem mj_d115 : ∀ p, p < 85 → ∀ q, mj_ins 115 p = some q → decode (mj_cd 115) p = .ok q := by
  intro p hp q hq
  by_cases h0 : p < 80
  · exact mj_dchk_use mj_d115_0 (by omega) (by omega) hq
  by_cases h80 : p < 85
  · exact mj_dchk_use mj_d115_80 (by omega) (by omega) hq
  omega
theorem mj_d116_0 : mj_dchk 116 0 24 = true := by decide +kernel
theorem mj_d116 : ∀ p, p < 24 → ∀ q, mj_ins 116 p = some q → decode (mj_cd 116) p = .ok q := by
  intro p hp q hq
  by_cases h0 : p < 24
  · exact mj_dchk_use mj_d116_0 (by omega) (by omega) hq
  omega
theorem mj_d117_0 : mj_dchk 117 0 15 = true := by decide +kernel
theorem mj_d117 : ∀ p, p < 15 → ∀ q, mj_ins 117 p = some q → decode (mj_cd 117) p = .ok q := by
  intro p hp q hq
  by_cases h0 : p < 15
  · exact mj_dchk_use mj_d117_0 (by omega) (by omega) hq
  omega
theorem mj_d118_0 : mj_dchk 118 0 80 = true := by decide +kernel
theorem mj_d118_80 : mj_dchk 118 80 30 = true := by decide +kernel
theorem mj_d118 : ∀ p, p < 110 → ∀ q, mj_ins 118 p = some q → decode (mj_cd 118) p = .ok q := by
  intro p hp q hq
  by_cases h0 : p < 80
  · exact mj_dchk_use mj_d118_0 (by omega) (by omega) hq
  by_cases h80 : p < 110
  · exact mj_dchk_use mj_d118_80 (by omega) (by omega) hq
  omega
theorem mj_d119_0 : mj_dchk 119 0 40 = true := by decide +kernel
theorem mj_d119 : ∀ p, p < 40 → ∀ q, mj_ins 119 p = some q → decode (mj_cd 119) p = .ok q := by
  intro p hp q hq
  by_cases h0 : p < 40
  · exact mj_dchk_use mj_d119_0 (by omega) (by omega) hq
  omega
theorem mj_d120_0 : mj_dchk 120 0 80 = true := by decide +kernel
theorem mj_d120_80 : mj_dchk 120 80 4 = true := by decide +kernel
theorem mj_d120 : ∀ p, p < 84 → ∀ q, mj_ins 120 p = some q → decode (mj_cd 120) p = .ok q := by
  intro p hp q hq
  by_cases h0 : p < 80
  · exact mj_dchk_use mj_d120_0 (by omega) (by omega) hq
  by_cases h80 : p < 84
  · exact mj_dchk_use mj_d120_80 (by omega) (by omega) hq
  omega
theorem mj_d121_0 : mj_dchk 121 0 80 = true := by decide +kernel
theorem mj_d121_80 : mj_dchk 121 80 25 = true := by decide +kernel
theorem mj_d121 : ∀ p, p < 105 → ∀ q, mj_ins 121 p = some q → decode (mj_cd 121) p = .ok q := by
  intro p hp q hq
  by_cases h0 : p < 80
  · exact mj_dchk_use mj_d121_0 (by omega) (by omega) hq
  by_cases h80 : p < 105
  · exact mj_dchk_use mj_d121_80 (by omega) (by omega) hq
  omega
theorem mj_d122_0 : mj_dchk 122 0 76 = true := by decide +kernel
theorem mj_d122 : ∀ p, p < 76 → ∀ q, mj_ins 122 p = some q → decode (mj_cd 122) p = .ok q := by
  intro p hp q hq
  by_cases h0 : p < 76
  · exact mj_dchk_use mj_d122_0 (by omega) (by omega) hq
  omega
theorem mj_d123_0 : mj_dchk 123 0 29 = true := by decide +kernel
theorem mj_d123 : ∀ p, p < 29 → ∀ q, mj_ins 123 p = some q → decode (mj_cd 123) p = .ok q := by
  intro p hp q hq
  by_cases h0 : p < 29
  · exact mj_dchk_use mj_d123_0 (by omega) (by omega) hq
  omega
theorem mj_d124_0 : mj_dchk 124 0 29 = true := by decide +kernel
theorem mj_d124 : ∀ p, p < 29 → ∀ q, mj_ins 124 p = some q → decode (mj_cd 124) p = .ok q := by
  intro p hp q hq
  by_cases h0 : p < 29
  · exact mj_dchk_use mj_d124_0 (by omega) (by omega) hq
  omega
theorem mj_d125_0 : mj_dchk 125 0 47 = true := by decide +kernel
theorem mj_d125 : ∀ p, p < 47 → ∀ q, mj_ins 125 p = some q → decode (mj_cd 125) p = .ok q := by
  intro p hp q hq
  by_cases h0 : p < 47
  · exact mj_dchk_use mj_d125_0 (by omega) (by omega) hq
  omega
theorem mj_d126_0 : mj_dchk 126 0 68 = true := by decide +kernel
theorem mj_d126 : ∀ p, p < 68 → ∀ q, mj_ins 126 p = some q → decode (mj_cd 126) p = .ok q := by
  intro p hp q hq
  by_cases h0 : p < 68
  · exact mj_dchk_use mj_d126_0 (by omega) (by omega) hq
  omega
theorem mj_d127_0 : mj_dchk 127 0 54 = true := by decide +kernel
theorem mj_d127 : ∀ p, p < 54 → ∀ q, mj_ins 127 p = some q → decode (mj_cd 127) p = .ok q := by
  intro p hp q hq
  by_cases h0 : p < 54
  · exact mj_dchk_use mj_d127_0 (by omega) (by omega) hq
  omega
theorem mj_d128_0 : mj_dchk 128 0 10 = true := by decide +kernel
theorem mj_d128 : ∀ p, p < 10 → ∀ q, mj_ins 128 p = some q → decode (mj_cd 128) p = .ok q := by
  intro p hp q hq
  by_cases h0 : p < 10
  · exact mj_dchk_use mj_d128_0 (by omega) (by omega) hq
  omega
theorem mj_d129_0 : mj_dchk 129 0 31 = true := by decide +kernel
theorem mj_d129 : ∀ p, p < 31 → ∀ q, mj_ins 129 p = some q → decode (mj_cd 129) p = .ok q := by
  intro p hp q hq
  by_cases h0 : p < 31
  · exact mj_dchk_use mj_d129_0 (by omega) (by omega) hq
  omega
theorem mj_d130_0 : mj_dchk 130 0 15 = true := by decide +kernel
theorem mj_d130 : ∀ p, p < 15 → ∀ q, mj_ins 130 p = some q → decode (mj_cd 130) p = .ok q := by
  intro p hp q hq
  by_cases h0 : p < 15
  · exact mj_dchk_use mj_d130_0 (by omega) (by omega) hq
  omega
theorem mj_d131_0 : mj_dchk 131 0 78 = true := by decide +kernel
theorem mj_d131 : ∀ p, p < 78 → ∀ q, mj_ins 131 p = some q → decode (mj_cd 131) p = .ok q := by
  intro p hp q hq
  by_cases h0 : p < 78
  · exact mj_dchk_use mj_d131_0 (by omega) (by omega) hq
  omega
theorem mj_d132_0 : mj_dchk 132 0 38 = true := by decide +kernel
theorem mj_d132 : ∀ p, p < 38 → ∀ q, mj_ins 132 p = some q → decode (mj_cd 132) p = .ok q := by
  intro p hp q hq
  by_cases h0 : p < 38
  · exact mj_dchk_use mj_d132_0 (by omega) (by omega) hq
  omega
theorem mj_d133_0 : mj_dchk 133 0 61 = true := by decide +kernel
theorem mj_d133 : ∀ p, p < 61 → ∀ q, mj_ins 133 p = some q → decode (mj_cd 133) p = .ok q := by
  intro p hp q hq
  by_cases h0 : p < 61
  · exact mj_dchk_use mj_d133_0 (by omega) (by omega) hq
  omega
theorem mj_d134_0 : mj_dchk 134 0 15 = true := by decide +kernel
theorem mj_d134 : ∀ p, p < 15 → ∀ q, mj_ins 134 p = some q → decode (mj_cd 134) p = .ok q := by
  intro p hp q hq
  by_cases h0 : p < 15
  · exact mj_dchk_use mj_d134_0 (by omega) (by omega) hq
  omega
theorem mj_d135_0 : mj_dchk 135 0 80 = true := by decide +kernel
theorem mj_d135_80 : mj_dchk 135 80 49 = true := by decide +kernel
theorem mj_d135 : ∀ p, p < 129 → ∀ q, mj_ins 135 p = some q → decode (mj_cd 135) p = .ok q := by
  intro p hp q hq
  by_cases h0 : p < 80
  · exact mj_dchk_use mj_d135_0 (by omega) (by omega) hq
  by_cases h80 : p < 129
  · exact mj_dchk_use mj_d135_80 (by omega) (by omega) hq
  omega
theorem mj_d136_0 : mj_dchk 136 0 29 = true := by decide +kernel
theorem mj_d136 : ∀ p, p < 29 → ∀ q, mj_ins 136 p = some q → decode (mj_cd 136) p = .ok q := by
  intro p hp q hq
  by_cases h0 : p < 29
  · exact mj_dchk_use mj_d136_0 (by omega) (by omega) hq
  omega
theorem mj_d137_0 : mj_dchk 137 0 43 = true := by decide +kernel
theorem mj_d137 : ∀ p, p < 43 → ∀ q, mj_ins 137 p = some q → decode (mj_cd 137) p = .ok q := by
  intro p hp q hq
  by_cases h0 : p < 43
  · exact mj_dchk_use mj_d137_0 (by omega) (by omega) hq
  omega
theorem mj_d138_0 : mj_dchk 138 0 6 = true := by decide +kernel
theorem mj_d138 : ∀ p, p < 6 → ∀ q, mj_ins 138 p = some q → decode (mj_cd 138) p = .ok q := by
  intro p hp q hq
  by_cases h0 : p < 6
  · exact mj_dchk_use mj_d138_0 (by omega) (by omega) hq
  omega
theorem mj_d139_0 : mj_dchk 139 0 63 = true := by decide +kernel
theorem mj_d139 : ∀ p, p < 63 → ∀ q, mj_ins 139 p = some q → decode (mj_cd 139) p = .ok q := by
  intro p hp q hq
  by_cases h0 : p < 63
  · exact mj_dchk_use mj_d139_0 (by omega) (by omega) hq
  omega
theorem mj_d140_0 : mj_dchk 140 0 39 = true := by decide +kernel
theorem mj_d140 : ∀ p, p < 39 → ∀ q, mj_ins 140 p = some q → decode (mj_cd 140) p = .ok q := by
  intro p hp q hq
  by_cases h0 : p < 39
  · exact mj_dchk_use mj_d140_0 (by omega) (by omega) hq
  omega
theorem mj_d141_0 : mj_dchk 141 0 52 = true := by decide +kernel
theorem mj_d141 : ∀ p, p < 52 → ∀ q, mj_ins 141 p = some q → decode (mj_cd 141) p = .ok q := by
  intro p hp q hq
  by_cases h0 : p < 52
  · exact mj_dchk_use mj_d141_0 (by omega) (by omega) hq
  omega
theorem mj_d142_0 : mj_dchk 142 0 61 = true := by decide +kernel
theorem mj_d142 : ∀ p, p < 61 → ∀ q, mj_ins 142 p = some q → decode (mj_cd 142) p = .ok q := by
  intro p hp q hq
  by_cases h0 : p < 61
  · exact mj_dchk_use mj_d142_0 (by omega) (by omega) hq
  omega
theorem mj_d143_0 : mj_dchk 143 0 46 = true := by decide +kernel
theorem mj_d143 : ∀ p, p < 46 → ∀ q, mj_ins 143 p = some q → decode (mj_cd 143) p = .ok q := by
  intro p hp q hq
  by_cases h0 : p < 46
  · exact mj_dchk_use mj_d143_0 (by omega) (by omega) hq
  omega
theorem mj_d144_0 : mj_dchk 144 0 80 = true := by decide +kernel
theorem mj_d144_80 : mj_dchk 144 80 6 = true := by decide +kernel
theorem mj_d144 : ∀ p, p < 86 → ∀ q, mj_ins 144 p = some q → decode (mj_cd 144) p = .ok q := by
  intro p hp q hq
  by_cases h0 : p < 80
  · exact mj_dchk_use mj_d144_0 (by omega) (by omega) hq
  by_cases h80 : p < 86
  · exact mj_dchk_use mj_d144_80 (by omega) (by omega) hq
  omega
theorem mj_d145_0 : mj_dchk 145 0 44 = true := by decide +kernel
theorem mj_d145 : ∀ p, p < 44 → ∀ q, mj_ins 145 p = some q → decode (mj_cd 145) p = .ok q := by
  intro p hp q hq
  by_cases h0 : p < 44
  · exact mj_dchk_use mj_d145_0 (by omega) (by omega) hq
  omega
theorem mj_d146_0 : mj_dchk 146 0 21 = true := by decide +kernel
theorem mj_d146 : ∀ p, p < 21 → ∀ q, mj_ins 146 p = some q → decode (mj_cd 146) p = .ok q := by
  intro p hp q hq
  by_cases h0 : p < 21
  · exact mj_dchk_use mj_d146_0 (by omega) (by omega) hq
  omega
theorem mj_d147_0 : mj_dchk 147 0 48 = true := by decide +kernel
theorem mj_d147 : ∀ p, p < 48 → ∀ q, mj_ins 147 p = some q → decode (mj_cd 147) p = .ok q := by
  intro p hp q hq
  by_cases h0 : p < 48
  · exact mj_dchk_use mj_d147_0 (by omega) (by omega) hq
  omega
