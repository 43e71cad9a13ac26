theorem lzC13 : lz_C 13 0 2 172 rxM172 := ⟨TX11, 20, rfl, (rx_in (rx_at3 (n := 91) rfl) rfl), (rx_in (rx_at3 (n := 92) rfl) rfl), (rx_in (rx_at3 (n := 93) rfl) rfl), by decide +kernel, ⟨rfl, rfl⟩, by decide +kernel, rfl⟩
theorem lzC17 : lz_C 17 480 2 193 rxM193 := ⟨TX12, 76, rfl, (rx_in (rx_at8 (n := 53) rfl) rfl), (rx_in (rx_at8 (n := 54) rfl) rfl), (rx_in (rx_at8 (n := 55) rfl) rfl), by decide +kernel, ⟨rfl, rfl⟩, by decide +kernel, rfl⟩
set_option maxRecDepth 100000 in
theorem lzD0 : lz_cs false 2 13 17 240 = true := by decide +kernel
theorem lzC18 : lz_C 18 0 5 199 rxM199 := ⟨TX11, 20, rfl, (rx_in (rx_at3 (n := 108) rfl) rfl), (rx_in (rx_at3 (n := 109) rfl) rfl), (rx_in (rx_at3 (n := 110) rfl) rfl), by decide +kernel, ⟨rfl, rfl⟩, by decide +kernel, rfl⟩
theorem lzC22 : lz_C 22 480 5 216 rxM216 := ⟨TX12, 76, rfl, (rx_in (rx_at8 (n := 59) rfl) rfl), (rx_in (rx_at8 (n := 60) rfl) rfl), (rx_in (rx_at8 (n := 61) rfl) rfl), by decide +kernel, ⟨rfl, rfl⟩, by decide +kernel, rfl⟩
set_option maxRecDepth 100000 in
theorem lzD1 : lz_cs false 5 18 22 273 = true := by decide +kernel
theorem lzC23 : lz_C 23 0 3 217 rxM217 := ⟨TX11, 20, rfl, (rx_in (rx_at3 (n := 132) rfl) rfl), (rx_in (rx_at3 (n := 133) rfl) rfl), (rx_in (rx_at3 (n := 134) rfl) rfl), by decide +kernel, ⟨rfl, rfl⟩, by decide +kernel, rfl⟩
theorem lzC27 : lz_C 27 480 3 218 rxM218 := ⟨TX12, 76, rfl, (rx_in (rx_at8 (n := 86) rfl) rfl), (rx_in (rx_at8 (n := 87) rfl) rfl), (rx_in (rx_at8 (n := 88) rfl) rfl), by decide +kernel, ⟨rfl, rfl⟩, by decide +kernel, rfl⟩
set_option maxRecDepth 100000 in
theorem lzD2 : lz_cs false 3 23 27 336 = true := by decide +kernel
theorem lzC28 : lz_C 28 0 4 219 rxM219 := ⟨TX11, 20, rfl, (rx_in (rx_at3 (n := 141) rfl) rfl), (rx_in (rx_at3 (n := 142) rfl) rfl), (rx_in (rx_at3 (n := 143) rfl) rfl), by decide +kernel, ⟨rfl, rfl⟩, by decide +kernel, rfl⟩
theorem lzC32 : lz_C 32 480 4 220 rxM220 := ⟨TX12, 76, rfl, (rx_in (rx_at8 (n := 90) rfl) rfl), (rx_in (rx_at8 (n := 91) rfl) rfl), (rx_in (rx_at8 (n := 92) rfl) rfl), by decide +kernel, ⟨rfl, rfl⟩, by decide +kernel, rfl⟩
set_option maxRecDepth 100000 in
theorem lzD3 : lz_cs false 4 28 32 379 = true := by decide +kernel
theorem lzC33 : lz_C 33 0 2 221 rxM221 := ⟨TX11, 20, rfl, (rx_in (rx_at3 (n := 152) rfl) rfl), (rx_in (rx_at3 (n := 153) rfl) rfl), (rx_in (rx_at3 (n := 154) rfl) rfl), by decide +kernel, ⟨rfl, rfl⟩, by decide +kernel, rfl⟩
theorem lzC36 : lz_C 36 480 2 222 rxM222 := ⟨TX12, 76, rfl, (rx_in (rx_at8 (n := 100) rfl) rfl), (rx_in (rx_at8 (n := 101) rfl) rfl), (rx_in (rx_at8 (n := 102) rfl) rfl), by decide +kernel, ⟨rfl, rfl⟩, by decide +kernel, rfl⟩
set_option maxRecDepth 100000 in
theorem lzD4 : lz_cs false 2 33 36 432 = true := by decide +kernel
theorem lzC37 : lz_C 37 0 3 223 rxM223 := ⟨TX11, 20, rfl, (rx_in (rx_at3 (n := 164) rfl) rfl), (rx_in (rx_at3 (n := 165) rfl) rfl), (rx_in (rx_at3 (n := 166) rfl) rfl), by decide +kernel, ⟨rfl, rfl⟩, by decide +kernel, rfl⟩
theorem lzC40 : lz_C 40 480 3 224 rxM224 := ⟨TX12, 76, rfl, (rx_in (rx_at8 (n := 109) rfl) rfl), (rx_in (rx_at8 (n := 110) rfl) rfl), (rx_in (rx_at8 (n := 111) rfl) rfl), by decide +kernel, ⟨rfl, rfl⟩, by decide +kernel, rfl⟩
set_option maxRecDepth 100000 in
theorem lzD5 : lz_cs false 3 37 40 465 = true := by decide +kernel
theorem lzC41 : lz_C 41 0 3 225 rxM225 := ⟨TX11, 20, rfl, (rx_in (rx_at3 (n := 175) rfl) rfl), (rx_in (rx_at3 (n := 176) rfl) rfl), (rx_in (rx_at3 (n := 177) rfl) rfl), by decide +kernel, ⟨rfl, rfl⟩, by decide +kernel, rfl⟩
theorem lzC44 : lz_C 44 480 3 226 rxM226 := ⟨TX12, 76, rfl, (rx_in (rx_at8 (n := 115) rfl) rfl), (rx_in (rx_at8 (n := 116) rfl) rfl), (rx_in (rx_at8 (n := 117) rfl) rfl), by decide +kernel, ⟨rfl, rfl⟩, by decide +kernel, rfl⟩
set_option maxRecDepth 100000 in
theorem lzD6 : lz_cs false 3 41 44 508 = true := by decide +kernel
theorem lzC45 : lz_C 45 0 2 227 rxM227 := ⟨TX11, 20, rfl, (rx_in (rx_at3 (n := 186) rfl) rfl), (rx_in (rx_at3 (n := 187) rfl) rfl), (rx_in (rx_at3 (n := 188) rfl) rfl), by decide +kernel, ⟨rfl, rfl⟩, by decide +kernel, rfl⟩
theorem lzC48 : lz_C 48 480 2 228 rxM228 := ⟨TX12, 76, rfl, (rx_in (rx_at8 (n := 127) rfl) rfl), (rx_in (rx_at8 (n := 128) rfl) rfl), (rx_in (rx_at8 (n := 129) rfl) rfl), by decide +kernel, ⟨rfl, rfl⟩, by decide +kernel, rfl⟩
set_option maxRecDepth 100000 in
theorem lzD7 : lz_cs false 2 45 48 551 = true := by decide +kernel
theorem lzC49 : lz_C 49 0 2 229 rxM229 := ⟨TX11, 20, rfl, (rx_in (rx_at3 (n := 199) rfl) rfl), (rx_in (rx_at3 (n := 200) rfl) rfl), (rx_in (rx_at3 (n := 201) rfl) rfl), by decide +kernel, ⟨rfl, rfl⟩, by decide +kernel, rfl⟩
theorem lzC52 : lz_C 52 480 2 230 rxM230 := ⟨TX12, 76, rfl, (rx_in (rx_at8 (n := 139) rfl) rfl), (rx_in (rx_at8 (n := 140) rfl) rfl), (rx_in (rx_at8 (n := 141) rfl) rfl), by decide +kernel, ⟨rfl, rfl⟩, by decide +kernel, rfl⟩
set_option maxRecDepth 100000 in
theorem lzD8 : lz_cs false 2 49 52 584 = true := by decide +kernel
theorem lzC53 : lz_C 53 0 5 231 rxM231 := ⟨TX11, 20, rfl, (rx_in (rx_at3 (n := 206) rfl) rfl), (rx_in (rx_at3 (n := 207) rfl) rfl), (rx_in (rx_at3 (n := 208) rfl) rfl), by decide +kernel, ⟨rfl, rfl⟩, by decide +kernel, rfl⟩
theorem lzC56 : lz_C 56 480 5 232 rxM232 := ⟨TX12, 76, rfl, (rx_in (rx_at8 (n := 152) rfl) rfl), (rx_in (rx_at8 (n := 153) rfl) rfl), (rx_in (rx_at8 (n := 154) rfl) rfl), by decide +kernel, ⟨rfl, rfl⟩, by decide +kernel, rfl⟩
set_option maxRecDepth 100000 in
theorem lzD9 : lz_cs false 5 53 56 617 = true := by decide +kernel
theorem lzC57 : lz_C 57 0 1 233 rxM233 := ⟨TX11, 20, rfl, (rx_in (rx_at3 (n := 214) rfl) rfl), (rx_in (rx_at3 (n := 215) rfl) rfl), (rx_in (rx_at3 (n := 216) rfl) rfl), by decide +kernel, ⟨rfl, rfl⟩, by decide +kernel, rfl⟩
theorem lzC61 : lz_C 61 480 1 234 rxM234 := ⟨TX12, 76, rfl, (rx_in (rx_at8 (n := 160) rfl) rfl), (rx_in (rx_at8 (n := 161) rfl) rfl), (rx_in (rx_at8 (n := 162) rfl) rfl), by decide +kernel, ⟨rfl, rfl⟩, by decide +kernel, rfl⟩
set_option maxRecDepth 100000 in
theorem lzD10 : lz_cs false 1 57 61 680 = true := by decide +kernel
theorem lzC62 : lz_C 62 0 1 235 rxM235 := ⟨TX11, 20, rfl, (rx_in (rx_at3 (n := 218) rfl) rfl), (rx_in (rx_at3 (n := 219) rfl) rfl), (rx_in (rx_at3 (n := 220) rfl) rfl), by decide +kernel, ⟨rfl, rfl⟩, by decide +kernel, rfl⟩
theorem lzC65 : lz_C 65 480 1 236 rxM236 := ⟨TX12, 76, rfl, (rx_in (rx_at8 (n := 144) rfl) rfl), (rx_in (rx_at8 (n := 145) rfl) rfl), (rx_in (rx_at8 (n := 146) rfl) rfl), by decide +kernel, ⟨rfl, rfl⟩, by decide +kernel, rfl⟩
set_option maxRecDepth 100000 in
theorem lzD11 : lz_cs false 1 62 65 703 = true := by decide +kernel
theorem lzC66 : lz_C 66 0 0 237 rxM237 := ⟨TX11, 20, rfl, (rx_in (rx_at3 (n := 226) rfl) rfl), (rx_in (rx_at3 (n := 227) rfl) rfl), (rx_in (rx_at3 (n := 228) rfl) rfl), by decide +kernel, ⟨rfl, rfl⟩, by decide +kernel, rfl⟩
theorem lzC70 : lz_C 70 480 0 238 rxM238 := ⟨TX12, 76, rfl, (rx_in (rx_at8 (n := 148) rfl) rfl), (rx_in (rx_at8 (n := 149) rfl) rfl), (rx_in (rx_at8 (n := 150) rfl) rfl), by decide +kernel, ⟨rfl, rfl⟩, by decide +kernel, rfl⟩
set_option maxRecDepth 100000 in
theorem lzD12 : lz_cs false 0 66 70 726 = true := by decide +kernel
theorem lzC71 : lz_C 71 0 1 239 rxM239 := ⟨TX11, 20, rfl, (rx_in (rx_at3 (n := 230) rfl) rfl), (rx_in (rx_at3 (n := 231) rfl) rfl), (rx_in (rx_at3 (n := 232) rfl) rfl), by decide +kernel, ⟨rfl, rfl⟩, by decide +kernel, rfl⟩
theorem lzC74 : lz_C 74 480 1 240 rxM240 := ⟨TX12, 76, rfl, (rx_in (rx_at9 (n := 88) rfl) rfl), (rx_in (rx_at9 (n := 89) rfl) rfl), (rx_in (rx_at9 (n := 90) rfl) rfl), by decide +kernel, ⟨rfl, rfl⟩, by decide +kernel, rfl⟩
set_option maxRecDepth 100000 in
theorem lzD13 : lz_cs false 1 71 74 739 = true := by decide +kernel
theorem lzC75 : lz_C 75 0 0 241 rxM241 := ⟨TX11, 20, rfl, (rx_in (rx_at5 (n := 13) rfl) rfl), (rx_in (rx_at5 (n := 14) rfl) rfl), (rx_in (rx_at5 (n := 15) rfl) rfl), by decide +kernel, ⟨rfl, rfl⟩, by decide +kernel, rfl⟩
theorem lzC78 : lz_C 78 480 0 242 rxM242 := ⟨TX12, 76, rfl, (rx_in (rx_at8 (n := 168) rfl) rfl), (rx_in (rx_at8 (n := 169) rfl) rfl), (rx_in (rx_at8 (n := 170) rfl) rfl), by decide +kernel, ⟨rfl, rfl⟩, by decide +kernel, rfl⟩
set_option maxRecDepth 100000 in
theorem lzD14 : lz_cs false 0 75 78 762 = true := by decide +kernel
theorem lzC79 : lz_C 79 0 0 243 rxM243 := ⟨TX11, 20, rfl, (rx_in (rx_at5 (n := 28) rfl) rfl), (rx_in (rx_at5 (n := 29) rfl) rfl), (rx_in (rx_at5 (n := 30) rfl) rfl), by decide +kernel, ⟨rfl, rfl⟩, by decide +kernel, rfl⟩
theorem lzC82 : lz_C 82 480 0 244 rxM244 := ⟨TX12, 76, rfl, (rx_in (rx_at8 (n := 164) rfl) rfl), (rx_in (rx_at8 (n := 165) rfl) rfl), (rx_in (rx_at8 (n := 166) rfl) rfl), by decide +kernel, ⟨rfl, rfl⟩, by decide +kernel, rfl⟩
set_option maxRecDepth 100000 in
theorem lzD15 : lz_cs false 0 79 82 775 = true := by decide +kernel
theorem lzC83 : lz_C 83 0 1 245 rxM245 := ⟨TX11, 20, rfl, (rx_in (rx_at5 (n := 32) rfl) rfl), (rx_in (rx_at5 (n := 33) rfl) rfl), (rx_in (rx_at5 (n := 34) rfl) rfl), by decide +kernel, ⟨rfl, rfl⟩, by decide +kernel, rfl⟩
theorem lzC86 : lz_C 86 480 1 246 rxM246 := ⟨TX12, 76, rfl, (rx_in (rx_at9 (n := 46) rfl) rfl), (rx_in (rx_at9 (n := 47) rfl) rfl), (rx_in (rx_at9 (n := 48) rfl) rfl), by decide +kernel, ⟨rfl, rfl⟩, by decide +kernel, rfl⟩
set_option maxRecDepth 100000 in
theorem lzD16 : lz_cs false 1 83 86 788 = true := by decide +kernel
theorem lzC87 : lz_C 87 0 4 247 rxM247 := ⟨TX11, 20, rfl, (rx_in (rx_at5 (n := 40) rfl) rfl), (rx_in (rx_at5 (n := 41) rfl) rfl), (rx_in (rx_at5 (n := 42) rfl) rfl), by decide +kernel, ⟨rfl, rfl⟩, by decide +kernel, rfl⟩
theorem lzC90 : lz_C 90 480 4 248 rxM248 := ⟨TX12, 76, rfl, (rx_in (rx_at9 (n := 50) rfl) rfl), (rx_in (rx_at9 (n := 51) rfl) rfl), (rx_in (rx_at9 (n := 52) rfl) rfl), by decide +kernel, ⟨rfl, rfl⟩, by decide +kernel, rfl⟩
set_option maxRecDepth 100000 in
theorem lzD17 : lz_cs false 4 87 90 811 = true := by decide +kernel
theorem lzC91 : lz_C 91 0 1 249 rxM249 := ⟨TX11, 20, rfl, (rx_in (rx_at5 (n := 54) rfl) rfl), (rx_in (rx_at5 (n := 55) rfl) rfl), (rx_in (rx_at5 (n := 56) rfl) rfl), by decide +kernel, ⟨rfl, rfl⟩, by decide +kernel, rfl⟩
theorem lzC94 : lz_C 94 480 1 250 rxM250 := ⟨TX12, 76, rfl, (rx_in (rx_at9 (n := 114) rfl) rfl), (rx_in (rx_at9 (n := 115) rfl) rfl), (rx_in (rx_at9 (n := 116) rfl) rfl), by decide +kernel, ⟨rfl, rfl⟩, by decide +kernel, rfl⟩
set_option maxRecDepth 100000 in
theorem lzD18 : lz_cs false 1 91 94 864 = true := by decide +kernel
theorem lzC95 : lz_C 95 0 0 251 rxM251 := ⟨TX11, 20, rfl, (rx_in (rx_at5 (n := 62) rfl) rfl), (rx_in (rx_at5 (n := 63) rfl) rfl), (rx_in (rx_at5 (n := 64) rfl) rfl), by decide +kernel, ⟨rfl, rfl⟩, by decide +kernel, rfl⟩
theorem lzC98 : lz_C 98 480 0 252 rxM252 := ⟨TX12, 76, rfl, (rx_in (rx_at9 (n := 118) rfl) rfl), (rx_in (rx_at9 (n := 119) rfl) rfl), (rx_in (rx_at9 (n := 120) rfl) rfl), by decide +kernel, ⟨rfl, rfl⟩, by decide +kernel, rfl⟩
set_option maxRecDepth 100000 in
theorem lzD19 : lz_cs false 0 95 98 887 = true := by decide +kernel
theorem lzC99 : lz_C 99 0 2 253 rxM253 := ⟨TX11, 20, rfl, (rx_in (rx_at5 (n := 66) rfl) rfl), (rx_in (rx_at5 (n := 67) rfl) rfl), (rx_in (rx_at5 (n := 68) rfl) rfl), by decide +kernel, ⟨rfl, rfl⟩, by decide +kernel, rfl⟩
theorem lzC102 : lz_C 102 480 2 158 rxM158 := ⟨TX12, 76, rfl, (rx_in (rx_at9 (n := 122) rfl) rfl), (rx_in (rx_at9 (n := 123) rfl) rfl), (rx_in (rx_at9 (n := 124) rfl) rfl), by decide +kernel, ⟨rfl, rfl⟩, by decide +kernel, rfl⟩
set_option maxRecDepth 100000 in
theorem lzD20 : lz_cs false 2 99 102 900 = true := by decide +kernel
theorem lzC103 : lz_C 103 0 3 159 rxM159 := ⟨TX11, 20, rfl, (rx_in (rx_at5 (n := 89) rfl) rfl), (rx_in (rx_at5 (n := 90) rfl) rfl), (rx_in (rx_at5 (n := 91) rfl) rfl), by decide +kernel, ⟨rfl, rfl⟩, by decide +kernel, rfl⟩
theorem lzC106 : lz_C 106 480 3 160 rxM160 := ⟨TX12, 76, rfl, (rx_in (rx_at9 (n := 130) rfl) rfl), (rx_in (rx_at9 (n := 131) rfl) rfl), (rx_in (rx_at9 (n := 132) rfl) rfl), by decide +kernel, ⟨rfl, rfl⟩, by decide +kernel, rfl⟩
set_option maxRecDepth 100000 in
theorem lzD21 : lz_cs false 3 103 106 933 = true := by decide +kernel
theorem lzC107 : lz_C 107 0 0 161 rxM161 := ⟨TX11, 20, rfl, (rx_in (rx_at5 (n := 123) rfl) rfl), (rx_in (rx_at5 (n := 124) rfl) rfl), (rx_in (rx_at5 (n := 125) rfl) rfl), by decide +kernel, ⟨rfl, rfl⟩, by decide +kernel, rfl⟩
theorem lzC110 : lz_C 110 480 0 162 rxM162 := ⟨TX12, 76, rfl, (rx_in (rx_at9 (n := 146) rfl) rfl), (rx_in (rx_at9 (n := 147) rfl) rfl), (rx_in (rx_at9 (n := 148) rfl) rfl), by decide +kernel, ⟨rfl, rfl⟩, by decide +kernel, rfl⟩
set_option maxRecDepth 100000 in
theorem lzD22 : lz_cs false 0 107 110 976 = true := by decide +kernel
theorem lzC111 : lz_C 111 0 2 163 rxM163 := ⟨TX11, 20, rfl, (rx_in (rx_at5 (n := 127) rfl) rfl), (rx_in (rx_at5 (n := 128) rfl) rfl), (rx_in (rx_at5 (n := 129) rfl) rfl), by decide +kernel, ⟨rfl, rfl⟩, by decide +kernel, rfl⟩
theorem lzC114 : lz_C 114 480 2 164 rxM164 := ⟨TX12, 76, rfl, (rx_in (rx_at9 (n := 150) rfl) rfl), (rx_in (rx_at9 (n := 151) rfl) rfl), (rx_in (rx_at9 (n := 152) rfl) rfl), by decide +kernel, ⟨rfl, rfl⟩, by decide +kernel, rfl⟩
set_option maxRecDepth 100000 in
theorem lzD23 : lz_cs false 2 111 114 989 = true := by decide +kernel
theorem lzC115 : lz_C 115 0 4 165 rxM165 := ⟨TX11, 20, rfl, (rx_in (rx_at5 (n := 135) rfl) rfl), (rx_in (rx_at5 (n := 136) rfl) rfl), (rx_in (rx_at5 (n := 137) rfl) rfl), by decide +kernel, ⟨rfl, rfl⟩, by decide +kernel, rfl⟩
theorem lzC118 : lz_C 118 480 4 166 rxM166 := ⟨TX12, 76, rfl, (rx_in (rx_at9 (n := 155) rfl) rfl), (rx_in (rx_at9 (n := 156) rfl) rfl), (rx_in (rx_at9 (n := 157) rfl) rfl), by decide +kernel, ⟨rfl, rfl⟩, by decide +kernel, rfl⟩
set_option maxRecDepth 100000 in
theorem lzD24 : lz_cs false 4 115 118 1022 = true := by decide +kernel
theorem lzC119 : lz_C 119 0 2 167 rxM167 := ⟨TX11, 20, rfl, (rx_in (rx_at5 (n := 139) rfl) rfl), (rx_in (rx_at5 (n := 140) rfl) rfl), (rx_in (rx_at5 (n := 141) rfl) rfl), by decide +kernel, ⟨rfl, rfl⟩, by decide +kernel, rfl⟩
theorem lzC122 : lz_C 122 480 2 168 rxM168 := ⟨TX12, 76, rfl, (rx_in (rx_at9 (n := 159) rfl) rfl), (rx_in (rx_at9 (n := 160) rfl) rfl), (rx_in (rx_at9 (n := 161) rfl) rfl), by decide +kernel, ⟨rfl, rfl⟩, by decide +kernel, rfl⟩
set_option maxRecDepth 100000 in
theorem lzD25 : lz_ci2 2 119 122 1075 = true := by decide +kernel
theorem lzC123 : lz_C 123 0 1 169 rxM169 := ⟨TX11, 20, rfl, (rx_in (rx_at5 (n := 147) rfl) rfl), (rx_in (rx_at5 (n := 148) rfl) rfl), (rx_in (rx_at5 (n := 149) rfl) rfl), by decide +kernel, ⟨rfl, rfl⟩, by decide +kernel, rfl⟩
theorem lzC126 : lz_C 126 480 1 170 rxM170 := ⟨TX12, 76, rfl, (rx_in (rx_at9 (n := 167) rfl) rfl), (rx_in (rx_at9 (n := 168) rfl) rfl), (rx_in (rx_at9 (n := 169) rfl) rfl), by decide +kernel, ⟨rfl, rfl⟩, by decide +kernel, rfl⟩
set_option maxRecDepth 100000 in
theorem lzD26 : lz_cs false 1 123 126 1108 = true := by decide +kernel
theorem lzC127 : lz_C 127 0 3 171 rxM171 := ⟨TX11, 20, rfl, (rx_in (rx_at5 (n := 151) rfl) rfl), (rx_in (rx_at5 (n := 152) rfl) rfl), (rx_in (rx_at5 (n := 153) rfl) rfl), by decide +kernel, ⟨rfl, rfl⟩, by decide +kernel, rfl⟩
theorem lzC130 : lz_C 130 480 3 173 rxM173 := ⟨TX12, 76, rfl, (rx_in (rx_at9 (n := 171) rfl) rfl), (rx_in (rx_at9 (n := 172) rfl) rfl), (rx_in (rx_at9 (n := 173) rfl) rfl), by decide +kernel, ⟨rfl, rfl⟩, by decide +kernel, rfl⟩
set_option maxRecDepth 100000 in
theorem lzD27 : lz_cs false 3 127 130 1131 = true := by decide +kernel
theorem lzC131 : lz_C 131 0 2 174 rxM174 := ⟨TX11, 20, rfl, (rx_in (rx_at5 (n := 173) rfl) rfl), (rx_in (rx_at5 (n := 174) rfl) rfl), (rx_in (rx_at5 (n := 175) rfl) rfl), by decide +kernel, ⟨rfl, rfl⟩, by decide +kernel, rfl⟩
theorem lzC134 : lz_C 134 480 2 175 rxM175 := ⟨TX12, 76, rfl, (rx_in (rx_at9 (n := 187) rfl) rfl), (rx_in (rx_at9 (n := 188) rfl) rfl), (rx_in (rx_at9 (n := 189) rfl) rfl), by decide +kernel, ⟨rfl, rfl⟩, by decide +kernel, rfl⟩
set_option maxRecDepth 100000 in
theorem lzD28 : lz_cs false 2 131 134 1174 = true := by decide +kernel
theorem lzC135 : lz_C 135 0 4 176 rxM176 := ⟨TX11, 20, rfl, (rx_in (rx_at5 (n := 177) rfl) rfl), (rx_in (rx_at5 (n := 178) rfl) rfl), (rx_in (rx_at5 (n := 179) rfl) rfl), by decide +kernel, ⟨rfl, rfl⟩, by decide +kernel, rfl⟩
theorem lzC138 : lz_C 138 480 4 177 rxM177 := ⟨TX12, 76, rfl, (rx_in (rx_at9 (n := 191) rfl) rfl), (rx_in (rx_at9 (n := 192) rfl) rfl), (rx_in (rx_at9 (n := 193) rfl) rfl), by decide +kernel, ⟨rfl, rfl⟩, by decide +kernel, rfl⟩
set_option maxRecDepth 100000 in
theorem lzD29 : lz_cs false 4 135 138 1207 = true := by decide +kernel
theorem lzC139 : lz_C 139 0 4 178 rxM178 := ⟨TX11, 20, rfl, (rx_in (rx_at5 (n := 220) rfl) rfl), (rx_in (rx_at5 (n := 221) rfl) rfl), (rx_in (rx_at5 (n := 222) rfl) rfl), by decide +kernel, ⟨rfl, rfl⟩, by decide +kernel, rfl⟩
theorem lzC142 : lz_C 142 480 4 179 rxM179 := ⟨TX12, 76, rfl, (rx_in (rx_at9 (n := 204) rfl) rfl), (rx_in (rx_at9 (n := 205) rfl) rfl), (rx_in (rx_at9 (n := 206) rfl) rfl), by decide +kernel, ⟨rfl, rfl⟩, by decide +kernel, rfl⟩
set_option maxRecDepth 100000 in
theorem lzD30 : lz_cs false 4 139 142 1260 = true := by decide +kernel
theorem lzC143 : lz_C 143 0 2 180 rxM180 := ⟨TX11, 20, rfl, (rx_in (rx_at5 (n := 234) rfl) rfl), (rx_in (rx_at5 (n := 235) rfl) rfl), (rx_in (rx_at5 (n := 236) rfl) rfl), by decide +kernel, ⟨rfl, rfl⟩, by decide +kernel, rfl⟩
theorem lzC146 : lz_C 146 480 2 181 rxM181 := ⟨TX12, 76, rfl, (rx_in (rx_at9 (n := 208) rfl) rfl), (rx_in (rx_at9 (n := 209) rfl) rfl), (rx_in (rx_at9 (n := 210) rfl) rfl), by decide +kernel, ⟨rfl, rfl⟩, by decide +kernel, rfl⟩
set_option maxRecDepth 100000 in
theorem lzD31 : lz_cs false 2 143 146 1313 = true := by decide +kernel
theorem lzC147 : lz_C 147 0 2 182 rxM182 := ⟨TX11, 20, rfl, (rx_in (rx_at6 (n := 13) rfl) rfl), (rx_in (rx_at6 (n := 14) rfl) rfl), (rx_in (rx_at6 (n := 15) rfl) rfl), by decide +kernel, ⟨rfl, rfl⟩, by decide +kernel, rfl⟩
theorem lzC151 : lz_C 151 480 2 183 rxM183 := ⟨TX12, 76, rfl, (rx_in (rx_at9 (n := 216) rfl) rfl), (rx_in (rx_at9 (n := 217) rfl) rfl), (rx_in (rx_at9 (n := 218) rfl) rfl), by decide +kernel, ⟨rfl, rfl⟩, by decide +kernel, rfl⟩
set_option maxRecDepth 100000 in
theorem lzD32 : lz_cs true 2 147 151 1346 = true := by decide +kernel
theorem lzC152 : lz_C 152 0 3 184 rxM184 := ⟨TX11, 20, rfl, (rx_in (rx_at6 (n := 21) rfl) rfl), (rx_in (rx_at6 (n := 22) rfl) rfl), (rx_in (rx_at6 (n := 23) rfl) rfl), by decide +kernel, ⟨rfl, rfl⟩, by decide +kernel, rfl⟩
theorem lzC155 : lz_C 155 480 3 185 rxM185 := ⟨TX12, 76, rfl, (rx_in (rx_at9 (n := 221) rfl) rfl), (rx_in (rx_at9 (n := 222) rfl) rfl), (rx_in (rx_at9 (n := 223) rfl) rfl), by decide +kernel, ⟨rfl, rfl⟩, by decide +kernel, rfl⟩
set_option maxRecDepth 100000 in
theorem lzD33 : lz_cs false 3 152 155 1379 = true := by decide +kernel
theorem lzC156 : lz_C 156 0 2 186 rxM186 := ⟨TX11, 20, rfl, (rx_in (rx_at6 (n := 33) rfl) rfl), (rx_in (rx_at6 (n := 34) rfl) rfl), (rx_in (rx_at6 (n := 35) rfl) rfl), by decide +kernel, ⟨rfl, rfl⟩, by decide +kernel, rfl⟩
theorem lzC159 : lz_C 159 480 2 187 rxM187 := ⟨TX12, 76, rfl, (rx_in (rx_at9 (n := 233) rfl) rfl), (rx_in (rx_at9 (n := 234) rfl) rfl), (rx_in (rx_at9 (n := 235) rfl) rfl), by decide +kernel, ⟨rfl, rfl⟩, by decide +kernel, rfl⟩
set_option maxRecDepth 100000 in
theorem lzD34 : lz_cs true 2 156 159 1422 = true := by decide +kernel
theorem lzC160 : lz_C 160 0 3 188 rxM188 := ⟨TX11, 20, rfl, (rx_in (rx_at6 (n := 51) rfl) rfl), (rx_in (rx_at6 (n := 52) rfl) rfl), (rx_in (rx_at6 (n := 53) rfl) rfl), by decide +kernel, ⟨rfl, rfl⟩, by decide +kernel, rfl⟩
theorem lzC163 : lz_C 163 480 3 189 rxM189 := ⟨TX12, 76, rfl, (rx_in (rx_at9 (n := 238) rfl) rfl), (rx_in (rx_at9 (n := 239) rfl) rfl), (rx_in (rx_at10 (n := 0) rfl) rfl), by decide +kernel, ⟨rfl, rfl⟩, by decide +kernel, rfl⟩
set_option maxRecDepth 100000 in
theorem lzD35 : lz_cs false 3 160 163 1455 = true := by decide +kernel
theorem lzC164 : lz_C 164 0 1 190 rxM190 := ⟨TX11, 20, rfl, (rx_in (rx_at6 (n := 84) rfl) rfl), (rx_in (rx_at6 (n := 85) rfl) rfl), (rx_in (rx_at6 (n := 86) rfl) rfl), by decide +kernel, ⟨rfl, rfl⟩, by decide +kernel, rfl⟩
theorem lzC167 : lz_C 167 480 1 191 rxM191 := ⟨TX12, 76, rfl, (rx_in (rx_at10 (n := 21) rfl) rfl), (rx_in (rx_at10 (n := 22) rfl) rfl), (rx_in (rx_at10 (n := 23) rfl) rfl), by decide +kernel, ⟨rfl, rfl⟩, by decide +kernel, rfl⟩
set_option maxRecDepth 100000 in
theorem lzD36 : lz_cs false 1 164 167 1498 = true := by decide +kernel
theorem lzC168 : lz_C 168 0 3 192 rxM192 := ⟨TX11, 20, rfl, (rx_in (rx_at6 (n := 123) rfl) rfl), (rx_in (rx_at6 (n := 124) rfl) rfl), (rx_in (rx_at6 (n := 125) rfl) rfl), by decide +kernel, ⟨rfl, rfl⟩, by decide +kernel, rfl⟩
theorem lzC171 : lz_C 171 480 3 194 rxM194 := ⟨TX12, 76, rfl, (rx_in (rx_at10 (n := 42) rfl) rfl), (rx_in (rx_at10 (n := 43) rfl) rfl), (rx_in (rx_at10 (n := 44) rfl) rfl), by decide +kernel, ⟨rfl, rfl⟩, by decide +kernel, rfl⟩
set_option maxRecDepth 100000 in
theorem lzD37 : lz_cs false 3 168 171 1521 = true := by decide +kernel
theorem lzC172 : lz_C 172 0 0 195 rxM195 := ⟨TX11, 20, rfl, (rx_in (rx_at6 (n := 131) rfl) rfl), (rx_in (rx_at6 (n := 132) rfl) rfl), (rx_in (rx_at6 (n := 133) rfl) rfl), by decide +kernel, ⟨rfl, rfl⟩, by decide +kernel, rfl⟩
theorem lzC175 : lz_C 175 480 0 196 rxM196 := ⟨TX12, 76, rfl, (rx_in (rx_at10 (n := 46) rfl) rfl), (rx_in (rx_at10 (n := 47) rfl) rfl), (rx_in (rx_at10 (n := 48) rfl) rfl), by decide +kernel, ⟨rfl, rfl⟩, by decide +kernel, rfl⟩
set_option maxRecDepth 100000 in
theorem lzD38 : lz_cs false 0 172 175 1564 = true := by decide +kernel
theorem lzC176 : lz_C 176 0 1 197 rxM197 := ⟨TX11, 20, rfl, (rx_in (rx_at6 (n := 135) rfl) rfl), (rx_in (rx_at6 (n := 136) rfl) rfl), (rx_in (rx_at6 (n := 137) rfl) rfl), by decide +kernel, ⟨rfl, rfl⟩, by decide +kernel, rfl⟩
theorem lzC179 : lz_C 179 480 1 198 rxM198 := ⟨TX12, 76, rfl, (rx_in (rx_at10 (n := 50) rfl) rfl), (rx_in (rx_at10 (n := 51) rfl) rfl), (rx_in (rx_at10 (n := 52) rfl) rfl), by decide +kernel, ⟨rfl, rfl⟩, by decide +kernel, rfl⟩
set_option maxRecDepth 100000 in
theorem lzD39 : lz_cs false 1 176 179 1577 = true := by decide +kernel
theorem lzC180 : lz_C 180 0 1 200 rxM200 := ⟨TX11, 20, rfl, (rx_in (rx_at6 (n := 146) rfl) rfl), (rx_in (rx_at6 (n := 147) rfl) rfl), (rx_in (rx_at6 (n := 148) rfl) rfl), by decide +kernel, ⟨rfl, rfl⟩, by decide +kernel, rfl⟩
theorem lzC183 : lz_C 183 480 1 201 rxM201 := ⟨TX12, 76, rfl, (rx_in (rx_at10 (n := 54) rfl) rfl), (rx_in (rx_at10 (n := 55) rfl) rfl), (rx_in (rx_at10 (n := 56) rfl) rfl), by decide +kernel, ⟨rfl, rfl⟩, by decide +kernel, rfl⟩
set_option maxRecDepth 100000 in
theorem lzD40 : lz_cs false 1 180 183 1600 = true := by decide +kernel
theorem lzC184 : lz_C 184 0 2 202 rxM202 := ⟨TX11, 20, rfl, (rx_in (rx_at6 (n := 196) rfl) rfl), (rx_in (rx_at6 (n := 197) rfl) rfl), (rx_in (rx_at6 (n := 198) rfl) rfl), by decide +kernel, ⟨rfl, rfl⟩, by decide +kernel, rfl⟩
theorem lzC187 : lz_C 187 480 2 203 rxM203 := ⟨TX12, 76, rfl, (rx_in (rx_at10 (n := 86) rfl) rfl), (rx_in (rx_at10 (n := 87) rfl) rfl), (rx_in (rx_at10 (n := 88) rfl) rfl), by decide +kernel, ⟨rfl, rfl⟩, by decide +kernel, rfl⟩
set_option maxRecDepth 100000 in
theorem lzD41 : lz_cs false 2 184 187 1623 = true := by decide +kernel
theorem lzC188 : lz_C 188 0 3 204 rxM204 := ⟨TX11, 20, rfl, (rx_in (rx_at6 (n := 204) rfl) rfl), (rx_in (rx_at6 (n := 205) rfl) rfl), (rx_in (rx_at6 (n := 206) rfl) rfl), by decide +kernel, ⟨rfl, rfl⟩, by decide +kernel, rfl⟩
theorem lzC191 : lz_C 191 480 3 205 rxM205 := ⟨TX12, 76, rfl, (rx_in (rx_at10 (n := 90) rfl) rfl), (rx_in (rx_at10 (n := 91) rfl) rfl), (rx_in (rx_at10 (n := 92) rfl) rfl), by decide +kernel, ⟨rfl, rfl⟩, by decide +kernel, rfl⟩
set_option maxRecDepth 100000 in
theorem lzD42 : lz_cs false 3 188 191 1656 = true := by decide +kernel
theorem lzC192 : lz_C 192 0 3 206 rxM206 := ⟨TX11, 20, rfl, (rx_in (rx_at6 (n := 231) rfl) rfl), (rx_in (rx_at6 (n := 232) rfl) rfl), (rx_in (rx_at6 (n := 233) rfl) rfl), by decide +kernel, ⟨rfl, rfl⟩, by decide +kernel, rfl⟩
theorem lzC195 : lz_C 195 480 3 207 rxM207 := ⟨TX12, 76, rfl, (rx_in (rx_at10 (n := 101) rfl) rfl), (rx_in (rx_at10 (n := 102) rfl) rfl), (rx_in (rx_at10 (n := 103) rfl) rfl), by decide +kernel, ⟨rfl, rfl⟩, by decide +kernel, rfl⟩
set_option maxRecDepth 100000 in
theorem lzD43 : lz_cs false 3 192 195 1699 = true := by decide +kernel
theorem lzC196 : lz_C 196 0 1 208 rxM208 := ⟨TX11, 20, rfl, (rx_in (rx_at6 (n := 239) rfl) rfl), (rx_in (rx_at7 (n := 0) rfl) rfl), (rx_in (rx_at7 (n := 1) rfl) rfl), by decide +kernel, ⟨rfl, rfl⟩, by decide +kernel, rfl⟩
theorem lzC199 : lz_C 199 480 1 209 rxM209 := ⟨TX12, 76, rfl, (rx_in (rx_at8 (n := 38) rfl) rfl), (rx_in (rx_at8 (n := 39) rfl) rfl), (rx_in (rx_at8 (n := 40) rfl) rfl), by decide +kernel, ⟨rfl, rfl⟩, by decide +kernel, rfl⟩
set_option maxRecDepth 100000 in
theorem lzD44 : lz_cs false 1 196 199 1742 = true := by decide +kernel
theorem lzC200 : lz_C 200 0 1 210 rxM210 := ⟨TX11, 20, rfl, (rx_in (rx_at7 (n := 19) rfl) rfl), (rx_in (rx_at7 (n := 20) rfl) rfl), (rx_in (rx_at7 (n := 21) rfl) rfl), by decide +kernel, ⟨rfl, rfl⟩, by decide +kernel, rfl⟩
theorem lzC203 : lz_C 203 480 1 211 rxM211 := ⟨TX12, 76, rfl, (rx_in (rx_at8 (n := 49) rfl) rfl), (rx_in (rx_at8 (n := 50) rfl) rfl), (rx_in (rx_at8 (n := 51) rfl) rfl), by decide +kernel, ⟨rfl, rfl⟩, by decide +kernel, rfl⟩
set_option maxRecDepth 100000 in
theorem lzD45 : lz_cs false 1 200 203 1765 = true := by decide +kernel
theorem lzC204 : lz_C 204 0 1 212 rxM212 := ⟨TX11, 20, rfl, (rx_in (rx_at7 (n := 23) rfl) rfl), (rx_in (rx_at7 (n := 24) rfl) rfl), (rx_in (rx_at7 (n := 25) rfl) rfl), by decide +kernel, ⟨rfl, rfl⟩, by decide +kernel, rfl⟩
theorem lzC207 : lz_C 207 480 1 213 rxM213 := ⟨TX12, 76, rfl, (rx_in (rx_at10 (n := 105) rfl) rfl), (rx_in (rx_at10 (n := 106) rfl) rfl), (rx_in (rx_at10 (n := 107) rfl) rfl), by decide +kernel, ⟨rfl, rfl⟩, by decide +kernel, rfl⟩
set_option maxRecDepth 100000 in
theorem lzD46 : lz_cs false 1 204 207 1788 = true := by decide +kernel
theorem lzC208 : lz_C 208 0 0 214 rxM214 := ⟨TX11, 20, rfl, (rx_in (rx_at7 (n := 27) rfl) rfl), (rx_in (rx_at7 (n := 28) rfl) rfl), (rx_in (rx_at7 (n := 29) rfl) rfl), by decide +kernel, ⟨rfl, rfl⟩, by decide +kernel, rfl⟩
theorem lzC211 : lz_C 211 480 0 215 rxM215 := ⟨TX12, 76, rfl, (rx_in (rx_at10 (n := 111) rfl) rfl), (rx_in (rx_at10 (n := 112) rfl) rfl), (rx_in (rx_at10 (n := 113) rfl) rfl), by decide +kernel, ⟨rfl, rfl⟩, by decide +kernel, rfl⟩
set_option maxRecDepth 100000 in
theorem lzD47 : lz_cs false 0 208 211 1811 = true := by decide +kernel
