theorem mj_dec_ok : ∀ k, k < 336 → ∀ p q, mj_ins k p = some q → decode (mj_cd k) p = .ok q := by
  intro k hk p q hq
  have hl : p < mj_len k := by
    cases hb : Nat.blt p (mj_len k) with
    | true => exact Nat.le_of_ble_eq_true hb
    | false =>
      unfold mj_ins at hq
      rw [hb] at hq
      cases hq
  by_cases h0 : k < 24
  · rcases (show k = 0 ∨ k = 1 ∨ k = 2 ∨ k = 3 ∨ k = 4 ∨ k = 5 ∨ k = 6 ∨ k = 7 ∨ k = 8 ∨ k = 9 ∨ k = 10 ∨ k = 11 ∨ k = 12 ∨ k = 13 ∨ k = 14 ∨ k = 15 ∨ k = 16 ∨ k = 17 ∨ k = 18 ∨ k = 19 ∨ k = 20 ∨ k = 21 ∨ k = 22 ∨ k = 23 by omega) with rfl | rfl | rfl | rfl | rfl | rfl | rfl | rfl | rfl | rfl | rfl | rfl | rfl | rfl | rfl | rfl | rfl | rfl | rfl | rfl | rfl | rfl | rfl | rfl
    · exact mj_d0 p hl q hq
    · exact mj_d1 p hl q hq
    · exact mj_d2 p hl q hq
    · exact mj_d3 p hl q hq
    · exact mj_d4 p hl q hq
    · exact mj_d5 p hl q hq
    · exact mj_d6 p hl q hq
    · exact mj_d7 p hl q hq
    · exact mj_d8 p hl q hq
    · exact mj_d9 p hl q hq
    · exact mj_d10 p hl q hq
    · exact mj_d11 p hl q hq
    · exact mj_d12 p hl q hq
    · exact mj_d13 p hl q hq
    · exact mj_d14 p hl q hq
    · exact mj_d15 p hl q hq
    · exact mj_d16 p hl q hq
    · exact mj_d17 p hl q hq
    · exact mj_d18 p hl q hq
    · exact mj_d19 p hl q hq
    · exact mj_d20 p hl q hq
    · exact mj_d21 p hl q hq
    · exact mj_d22 p hl q hq
    · exact mj_d23 p hl q hq
  by_cases h24 : k < 48
  · rcases (show k = 24 ∨ k = 25 ∨ k = 26 ∨ k = 27 ∨ k = 28 ∨ k = 29 ∨ k = 30 ∨ k = 31 ∨ k = 32 ∨ k = 33 ∨ k = 34 ∨ k = 35 ∨ k = 36 ∨ k = 37 ∨ k = 38 ∨ k = 39 ∨ k = 40 ∨ k = 41 ∨ k = 42 ∨ k = 43 ∨ k = 44 ∨ k = 45 ∨ k = 46 ∨ k = 47 by omega) with rfl | rfl | rfl | rfl | rfl | rfl | rfl | rfl | rfl | rfl | rfl | rfl | rfl | rfl | rfl | rfl | rfl | rfl | rfl | rfl | rfl | rfl | rfl | rfl
    · exact mj_d24 p hl q hq
    · exact mj_d25 p hl q hq
    · exact mj_d26 p hl q hq
    · exact mj_d27 p hl q hq
    · exact mj_d28 p hl q hq
    · exact mj_d29 p hl q hq
    · exact mj_d30 p hl q hq
    · exact mj_d31 p hl q hq
    · exact mj_d32 p hl q hq
    · exact mj_d33 p hl q hq
    · exact mj_d34 p hl q hq
    · exact mj_d35 p hl q hq
    · exact mj_d36 p hl q hq
    · exact mj_d37 p hl q hq
    · exact mj_d38 p hl q hq
    · exact mj_d39 p hl q hq
    · exact mj_d40 p hl q hq
    · exact mj_d41 p hl q hq
    · exact mj_d42 p hl q hq
    · exact mj_d43 p hl q hq
    · exact mj_d44 p hl q hq
    · exact mj_d45 p hl q hq
    · exact mj_d46 p hl q hq
    · exact mj_d47 p hl q hq
  by_cases h48 : k < 72
  · rcases (show k = 48 ∨ k = 49 ∨ k = 50 ∨ k = 51 ∨ k = 52 ∨ k = 53 ∨ k = 54 ∨ k = 55 ∨ k = 56 ∨ k = 57 ∨ k = 58 ∨ k = 59 ∨ k = 60 ∨ k = 61 ∨ k = 62 ∨ k = 63 ∨ k = 64 ∨ k = 65 ∨ k = 66 ∨ k = 67 ∨ k = 68 ∨ k = 69 ∨ k = 70 ∨ k = 71 by omega) with rfl | rfl | rfl | rfl | rfl | rfl | rfl | rfl | rfl | rfl | rfl | rfl | rfl | rfl | rfl | rfl | rfl | rfl | rfl | rfl | rfl | rfl | rfl | rfl
    · exact mj_d48 p hl q hq
    · exact mj_d49 p hl q hq
    · exact mj_d50 p hl q hq
    · exact mj_d51 p hl q hq
    · exact mj_d52 p hl q hq
    · exact mj_d53 p hl q hq
    · exact mj_d54 p hl q hq
    · exact mj_d55 p hl q hq
    · exact mj_d56 p hl q hq
    · exact mj_d57 p hl q hq
    · exact mj_d58 p hl q hq
    · exact mj_d59 p hl q hq
    · exact mj_d60 p hl q hq
    · exact mj_d61 p hl q hq
    · exact mj_d62 p hl q hq
    · exact mj_d63 p hl q hq
    · exact mj_d64 p hl q hq
    · exact mj_d65 p hl q hq
    · exact mj_d66 p hl q hq
    · exact mj_d67 p hl q hq
    · exact mj_d68 p hl q hq
    · exact mj_d69 p hl q hq
    · exact mj_d70 p hl q hq
    · exact mj_d71 p hl q hq
  by_cases h72 : k < 96
  · rcases (show k = 72 ∨ k = 73 ∨ k = 74 ∨ k = 75 ∨ k = 76 ∨ k = 77 ∨ k = 78 ∨ k = 79 ∨ k = 80 ∨ k = 81 ∨ k = 82 ∨ k = 83 ∨ k = 84 ∨ k = 85 ∨ k = 86 ∨ k = 87 ∨ k = 88 ∨ k = 89 ∨ k = 90 ∨ k = 91 ∨ k = 92 ∨ k = 93 ∨ k = 94 ∨ k = 95 by omega) with rfl | rfl | rfl | rfl | rfl | rfl | rfl | rfl | rfl | rfl | rfl | rfl | rfl | rfl | rfl | rfl | rfl | rfl | rfl | rfl | rfl | rfl | rfl | rfl
    · exact mj_d72 p hl q hq
    · exact mj_d73 p hl q hq
    · exact mj_d74 p hl q hq
    · exact mj_d75 p hl q hq
    · exact mj_d76 p hl q hq
    · exact mj_d77 p hl q hq
    · exact mj_d78 p hl q hq
    · exact mj_d79 p hl q hq
    · exact mj_d80 p hl q hq
    · exact mj_d81 p hl q hq
    · exact mj_d82 p hl q hq
    · exact mj_d83 p hl q hq
    · exact mj_d84 p hl q hq
    · exact mj_d85 p hl q hq
    · exact mj_d86 p hl q hq
    · exact mj_d87 p hl q hq
    · exact mj_d88 p hl q hq
    · exact mj_d89 p hl q hq
    · exact mj_d90 p hl q hq
    · exact mj_d91 p hl q hq
    · exact mj_d92 p hl q hq
    · exact mj_d93 p hl q hq
    · exact mj_d94 p hl q hq
    · exact mj_d95 p hl q hq
  by_cases h96 : k < 120
  · rcases (show k = 96 ∨ k = 97 ∨ k = 98 ∨ k = 99 ∨ k = 100 ∨ k = 101 ∨ k = 102 ∨ k = 103 ∨ k = 104 ∨ k = 105 ∨ k = 106 ∨ k = 107 ∨ k = 108 ∨ k = 109 ∨ k = 110 ∨ k = 111 ∨ k = 112 ∨ k = 113 ∨ k = 114 ∨ k = 115 ∨ k = 116 ∨ k = 117 ∨ k = 118 ∨ k = 119 by omega) with rfl | rfl | rfl | rfl | rfl | rfl | rfl | rfl | rfl | rfl | rfl | rfl | rfl | rfl | rfl | rfl | rfl | rfl | rfl | rfl | rfl | rfl | rfl | rfl
    · exact mj_d96 p hl q hq
    · exact mj_d97 p hl q hq
    · exact mj_d98 p hl q hq
    · exact mj_d99 p hl q hq
    · exact mj_d100 p hl q hq
    · exact mj_d101 p hl q hq
    · exact mj_d102 p hl q hq
    · exact mj_d103 p hl q hq
    · exact mj_d104 p hl q hq
    · exact mj_d105 p hl q hq
    · exact mj_d106 p hl q hq
    · exact mj_d107 p hl q hq
    · exact mj_d108 p hl q hq
    · exact mj_d109 p hl q hq
    · exact mj_d110 p hl q hq
    · exact mj_d111 p hl q hq
    · exact mj_d112 p hl q hq
    · exact mj_d113 p hl q hq
    · exact mj_d114 p hl q hq
    · exact mj_d115 p hl q hq
    · exact mj_d116 p hl q hq
    · exact mj_d117 p hl q hq
    · exact mj_d118 p hl q hq
    · exact mj_d119 p hl q hq
  by_cases h120 : k < 144
  · rcases (show k = 120 ∨ k = 121 ∨ k = 122 ∨ k = 123 ∨ k = 124 ∨ k = 125 ∨ k = 126 ∨ k = 127 ∨ k = 128 ∨ k = 129 ∨ k = 130 ∨ k = 131 ∨ k = 132 ∨ k = 133 ∨ k = 134 ∨ k = 135 ∨ k = 136 ∨ k = 137 ∨ k = 138 ∨ k = 139 ∨ k = 140 ∨ k = 141 ∨ k = 142 ∨ k = 143 by omega) with rfl | rfl | rfl | rfl | rfl | rfl | rfl | rfl | rfl | rfl | rfl | rfl | rfl | rfl | rfl | rfl | rfl | rfl | rfl | rfl | rfl | rfl | rfl | rfl
    · exact mj_d120 p hl q hq
    · exact mj_d121 p hl q hq
    · exact mj_d122 p hl q hq
    · exact mj_d123 p hl q hq
    · exact mj_d124 p hl q hq
    · exact mj_d125 p hl q hq
    · exact mj_d126 p hl q hq
    · exact mj_d127 p hl q hq
    · exact mj_d128 p hl q hq
    · exact mj_d129 p hl q hq
    · exact mj_d130 p hl q hq
    · exact mj_d131 p hl q hq
    · exact mj_d132 p hl q hq
    · exact mj_d133 p hl q hq
    · exact mj_d134 p hl q hq
    · exact mj_d135 p hl q hq
    · exact mj_d136 p hl q hq
    · exact mj_d137 p hl q hq
    · exact mj_d138 p hl q hq
    · exact mj_d139 p hl q hq
    · exact mj_d140 p hl q hq
    · exact mj_d141 p hl q hq
    · exact mj_d142 p hl q hq
    · exact mj_d143 p hl q hq
  by_cases h144 : k < 168
  · rcases (show k = 144 ∨ k = 145 ∨ k = 146 ∨ k = 147 ∨ k = 148 ∨ k = 149 ∨ k = 150 ∨ k = 151 ∨ k = 152 ∨ k = 153 ∨ k = 154 ∨ k = 155 ∨ k = 156 ∨ k = 157 ∨ k = 158 ∨ k = 159 ∨ k = 160 ∨ k = 161 ∨ k = 162 ∨ k = 163 ∨ k = 164 ∨ k = 165 ∨ k = 166 ∨ k = 167 by omega) with rfl | rfl | rfl | rfl | rfl | rfl | rfl | rfl | rfl | rfl | rfl | rfl | rfl | rfl | rfl | rfl | rfl | rfl | rfl | rfl | rfl | rfl | rfl | rfl
    · exact mj_d144 p hl q hq
    · exact mj_d145 p hl q hq
    · exact mj_d146 p hl q hq
    · exact mj_d147 p hl q hq
    · exact mj_d148 p hl q hq
    · exact mj_d149 p hl q hq
    · exact mj_d150 p hl q hq
    · exact mj_d151 p hl q hq
    · exact mj_d152 p hl q hq
    · exact mj_d153 p hl q hq
    · exact mj_d154 p hl q hq
    · exact mj_d155 p hl q hq
    · exact mj_d156 p hl q hq
    · exact mj_d157 p hl q hq
    · exact mj_d158 p hl q hq
    · exact mj_d159 p hl q hq
    · exact mj_d160 p hl q hq
    · exact mj_d161 p hl q hq
    · exact mj_d162 p hl q hq
    · exact mj_d163 p hl q hq
    · exact mj_d164 p hl q hq
    · exact mj_d165 p hl q hq
    · exact mj_d166 p hl q hq
    · exact mj_d167 p hl q hq
  by_cases h168 : k < 192
  · rcases (show k = 168 ∨ k = 169 ∨ k = 170 ∨ k = 171 ∨ k = 172 ∨ k = 173 ∨ k = 174 ∨ k = 175 ∨ k = 176 ∨ k = 177 ∨ k = 178 ∨ k = 179 ∨ k = 180 ∨ k = 181 ∨ k = 182 ∨ k = 183 ∨ k = 184 ∨ k = 185 ∨ k = 186 ∨ k = 187 ∨ k = 188 ∨ k = 189 ∨ k = 190 ∨ k = 191 by omega) with rfl | rfl | rfl | rfl | rfl | rfl | rfl | rfl | rfl | rfl | rfl | rfl | rfl | rfl | rfl | rfl | rfl | rfl | rfl | rfl | rfl | rfl | rfl | rfl
    · exact mj_d168 p hl q hq
    · exact mj_d169 p hl q hq
    · exact mj_d170 p hl q hq
    · exact mj_d171 p hl q hq
    · exact mj_d172 p hl q hq
    · exact mj_d173 p hl q hq
    · exact mj_d174 p hl q hq
    · exact mj_d175 p hl q hq
    · exact mj_d176 p hl q hq
    · exact mj_d177 p hl q hq
    · exact mj_d178 p hl q hq
    · exact mj_d179 p hl q hq
    · exact mj_d180 p hl q hq
    · exact mj_d181 p hl q hq
    · exact mj_d182 p hl q hq
    · exact mj_d183 p hl q hq
    · exact mj_d184 p hl q hq
    · exact mj_d185 p hl q hq
    · exact mj_d186 p hl q hq
    · exact mj_d187 p hl q hq
    · exact mj_d188 p hl q hq
    · exact mj_d189 p hl q hq
    · exact mj_d190 p hl q hq
    · exact mj_d191 p hl q hq
  by_cases h192 : k < 216
  · rcases (show k = 192 ∨ k = 193 ∨ k = 194 ∨ k = 195 ∨ k = 196 ∨ k = 197 ∨ k = 198 ∨ k = 199 ∨ k = 200 ∨ k = 201 ∨ k = 202 ∨ k = 203 ∨ k = 204 ∨ k = 205 ∨ k = 206 ∨ k = 207 ∨ k = 208 ∨ k = 209 ∨ k = 210 ∨ k = 211 ∨ k = 212 ∨ k = 213 ∨ k = 214 ∨ k = 215 by omega) with rfl | rfl | rfl | rfl | rfl | rfl | rfl | rfl | rfl | rfl | rfl | rfl | rfl | rfl | rfl | rfl | rfl | rfl | rfl | rfl | rfl | rfl | rfl | rfl
    · exact mj_d192 p hl q hq
    · exact mj_d193 p hl q hq
    · exact mj_d194 p hl q hq
    · exact mj_d195 p hl q hq
    · exact mj_d196 p hl q hq
    · exact mj_d197 p hl q hq
    · exact mj_d198 p hl q hq
    · exact mj_d199 p hl q hq
    · exact mj_d200 p hl q hq
    · exact mj_d201 p hl q hq
    · exact mj_d202 p hl q hq
    · exact mj_d203 p hl q hq
    · exact mj_d204 p hl q hq
    · exact mj_d205 p hl q hq
    · exact mj_d206 p hl q hq
    · exact mj_d207 p hl q hq
    · exact mj_d208 p hl q hq
    · exact mj_d209 p hl q hq
    · exact mj_d210 p hl q hq
    · exact mj_d211 p hl q hq
    · exact mj_d212 p hl q hq
    · exact mj_d213 p hl q hq
    · exact mj_d214 p hl q hq
    · exact mj_d215 p hl q hq
  by_cases h216 : k < 240
  · rcases (show k = 216 ∨ k = 217 ∨ k = 218 ∨ k = 219 ∨ k = 220 ∨ k = 221 ∨ k = 222 ∨ k = 223 ∨ k = 224 ∨ k = 225 ∨ k = 226 ∨ k = 227 ∨ k = 228 ∨ k = 229 ∨ k = 230 ∨ k = 231 ∨ k = 232 ∨ k = 233 ∨ k = 234 ∨ k = 235 ∨ k = 236 ∨ k = 237 ∨ k = 238 ∨ k = 239 by omega) with rfl | rfl | rfl | rfl | rfl | rfl | rfl | rfl | rfl | rfl | rfl | rfl | rfl | rfl | rfl | rfl | rfl | rfl | rfl | rfl | rfl | rfl | rfl | rfl
    · exact mj_d216 p hl q hq
    · exact mj_d217 p hl q hq
    · exact mj_d218 p hl q hq
    · exact mj_d219 p hl q hq
    · exact mj_d220 p hl q hq
    · exact mj_d221 p hl q hq
    · exact mj_d222 p hl q hq
    · exact mj_d223 p hl q hq
    · exact mj_d224 p hl q hq
    · exact mj_d225 p hl q hq
    · exact mj_d226 p hl q hq
    · exact mj_d227 p hl q hq
    · exact mj_d228 p hl q hq
    · exact mj_d229 p hl q hq
    · exact mj_d230 p hl q hq
    · exact mj_d231 p hl q hq
    · exact mj_d232 p hl q hq
    · exact mj_d233 p hl q hq
    · exact mj_d234 p hl q hq
    · exact mj_d235 p hl q hq
    · exact mj_d236 p hl q hq
    · exact mj_d237 p hl q hq
    · exact mj_d238 p hl q hq
    · exact mj_d239 p hl q hq
  by_cases h240 : k < 264
  · rcases (show k = 240 ∨ k = 241 ∨ k = 242 ∨ k = 243 ∨ k = 244 ∨ k = 245 ∨ k = 246 ∨ k = 247 ∨ k = 248 ∨ k = 249 ∨ k = 250 ∨ k = 251 ∨ k = 252 ∨ k = 253 ∨ k = 254 ∨ k = 255 ∨ k = 256 ∨ k = 257 ∨ k = 258 ∨ k = 259 ∨ k = 260 ∨ k = 261 ∨ k = 262 ∨ k = 263 by omega) with rfl | rfl | rfl | rfl | rfl | rfl | rfl | rfl | rfl | rfl | rfl | rfl | rfl | rfl | rfl | rfl | rfl | rfl | rfl | rfl | rfl | rfl | rfl | rfl
    · exact mj_d240 p hl q hq
    · exact mj_d241 p hl q hq
    · exact mj_d242 p hl q hq
    · exact mj_d243 p hl q hq
    · exact mj_d244 p hl q hq
    · exact mj_d245 p hl q hq
    · exact mj_d246 p hl q hq
    · exact mj_d247 p hl q hq
    · exact mj_d248 p hl q hq
    · exact mj_d249 p hl q hq
    · exact mj_d250 p hl q hq
    · exact mj_d251 p hl q hq
    · exact mj_d252 p hl q hq
    · exact mj_d253 p hl q hq
    · exact mj_d254 p hl q hq
    · exact mj_d255 p hl q hq
    · exact mj_d256 p hl q hq
    · exact mj_d257 p hl q hq
    · exact mj_d258 p hl q hq
    · exact mj_d259 p hl q hq
    · exact mj_d260 p hl q hq
    · exact mj_d261 p hl q hq
    · exact mj_d262 p hl q hq
    · exact mj_d263 p hl q hq
  by_cases h264 : k < 288
  · rcases (show k = 264 ∨ k = 265 ∨ k = 266 ∨ k = 267 ∨ k = 268 ∨ k = 269 ∨ k = 270 ∨ k = 271 ∨ k = 272 ∨ k = 273 ∨ k = 274 ∨ k = 275 ∨ k = 276 ∨ k = 277 ∨ k = 278 ∨ k = 279 ∨ k = 280 ∨ k = 281 ∨ k = 282 ∨ k = 283 ∨ k = 284 ∨ k = 285 ∨ k = 286 ∨ k = 287 by omega) with rfl | rfl | rfl | rfl | rfl | rfl | rfl | rfl | rfl | rfl | rfl | rfl | rfl | rfl | rfl | rfl | rfl | rfl | rfl | rfl | rfl | rfl | rfl | rfl
    · exact mj_d264 p hl q hq
    · exact mj_d265 p hl q hq
    · exact mj_d266 p hl q hq
    · exact mj_d267 p hl q hq
    · exact mj_d268 p hl q hq
    · exact mj_d269 p hl q hq
    · exact mj_d270 p hl q hq
    · exact mj_d271 p hl q hq
    · exact mj_d272 p hl q hq
    · exact mj_d273 p hl q hq
    · exact mj_d274 p hl q hq
    · exact mj_d275 p hl q hq
    · exact mj_d276 p hl q hq
    · exact mj_d277 p hl q hq
    · exact mj_d278 p hl q hq
    · exact mj_d279 p hl q hq
    · exact mj_d280 p hl q hq
    · exact mj_d281 p hl q hq
    · exact mj_d282 p hl q hq
    · exact mj_d283 p hl q hq
    · exact mj_d284 p hl q hq
    · exact mj_d285 p hl q hq
    · exact mj_d286 p hl q hq
    · exact mj_d287 p hl q hq
  by_cases h288 : k < 312
  · rcases (show k = 288 ∨ k = 289 ∨ k = 290 ∨ k = 291 ∨ k = 292 ∨ k = 293 ∨ k = 294 ∨ k = 295 ∨ k = 296 ∨ k = 297 ∨ k = 298 ∨ k = 299 ∨ k = 300 ∨ k = 301 ∨ k = 302 ∨ k = 303 ∨ k = 304 ∨ k = 305 ∨ k = 306 ∨ k = 307 ∨ k = 308 ∨ k = 309 ∨ k = 310 ∨ k = 311 by omega) with rfl | rfl | rfl | rfl | rfl | rfl | rfl | rfl | rfl | rfl | rfl | rfl | rfl | rfl | rfl | rfl | rfl | rfl | rfl | rfl | rfl | rfl | rfl | rfl
    · exact mj_d288 p hl q hq
    · exact mj_d289 p hl q hq
    · exact mj_d290 p hl q hq
    · exact mj_d291 p hl q hq
    · exact mj_d292 p hl q hq
    · exact mj_d293 p hl q hq
    · exact mj_d294 p hl q hq
    · exact mj_d295 p hl q hq
    · exact mj_d296 p hl q hq
    · exact mj_d297 p hl q hq
    · exact mj_d298 p hl q hq
    · exact mj_d299 p hl q hq
    · exact mj_d300 p hl q hq
    · exact mj_d301 p hl q hq
    · exact mj_d302 p hl q hq
    · exact mj_d303 p hl q hq
    · exact mj_d304 p hl q hq
    · exact mj_d305 p hl q hq
    · exact mj_d306 p hl q hq
    · exact mj_d307 p hl q hq
    · exact mj_d308 p hl q hq
    · exact mj_d309 p hl q hq
    · exact mj_d310 p hl q hq
    · exact mj_d311 p hl q hq
  by_cases h312 : k < 336
  · rcases (show k = 312 ∨ k = 313 ∨ k = 314 ∨ k = 315 ∨ k = 316 ∨ k = 317 ∨ k = 318 ∨ k = 319 ∨ k = 320 ∨ k = 321 ∨ k = 322 ∨ k = 323 ∨ k = 324 ∨ k = 325 ∨ k = 326 ∨ k = 327 ∨ k = 328 ∨ k = 329 ∨ k = 330 ∨ k = 331 ∨ k = 332 ∨ k = 333 ∨ k = 334 ∨ k = 335 by omega) with rfl | rfl | rfl | rfl | rfl | rfl | rfl | rfl | rfl | rfl | rfl | rfl | rfl | rfl | rfl | rfl | rfl | rfl | rfl | rfl | rfl | rfl | rfl | rfl
    · exact mj_d312 p hl q hq
    · exact mj_d313 p hl q hq
    · exact mj_d314 p hl q hq
    · exact mj_d315 p hl q hq
    · exact mj_d316 p hl q hq
    · exact mj_d317 p hl q hq
    · exact mj_d318 p hl q hq
    · exact mj_d319 p hl q hq
    · exact mj_d320 p hl q hq
    · exact mj_d321 p hl q hq
    · exact mj_d322 p hl q hq
    · exact mj_d323 p hl q hq
    · exact mj_d324 p hl q hq
    · exact mj_d325 p hl q hq
    · exact mj_d326 p hl q hq
    · exact mj_d327 p hl q hq
    · exact mj_d328 p hl q hq
    · exact mj_d329 p hl q hq
    · exact mj_d330 p hl q hq
    · exact mj_d331 p hl q hq
    · exact mj_d332 p hl q hq
    · exact mj_d333 p hl q hq
    · exact mj_d334 p hl q hq
    · exact mj_d335 p hl q hq
  omega
