section
theorem rxH0_0 : rx_ok 0 rxM0 rxC0_0 rxT0_0 := by
  show _ = true
  decide +kernel
theorem rxH0_1 : rx_ok 0 rxM0 rxC0_1 rxT0_1 := by
  show _ = true
  decide +kernel
theorem rxH0_2 : rx_ok 0 rxM0 rxC0_2 rxT0_2 := by
  show _ = true
  decide +kernel
theorem rxH0_3 : rx_ok 0 rxM0 rxC0_3 rxT0_3 := by
  show _ = true
  decide +kernel
theorem rxH0_4 : rx_ok 0 rxM0 rxC0_4 rxT0_4 := by
  show _ = true
  decide +kernel
theorem rxH0_5 : rx_ok 0 rxM0 rxC0_5 rxT0_5 := by
  show _ = true
  decide +kernel
theorem rxH0_6 : rx_ok 0 rxM0 rxC0_6 rxT0_6 := by
  show _ = true
  decide +kernel
theorem rxH0_7 : rx_ok 0 rxM0 rxC0_7 rxT0_7 := by
  show _ = true
  decide +kernel
theorem rxH0_8 : rx_ok 0 rxM0 rxC0_8 rxT0_8 := by
  show _ = true
  decide +kernel
theorem rxH237 : rx_ok 237 rxM237 rxC237 [] := by
  show _ = true
  decide +kernel
theorem rxH214 : rx_ok 214 rxM214 rxC214 [] := by
  show _ = true
  decide +kernel
theorem rxH243 : rx_ok 243 rxM243 rxC243 [] := by
  show _ = true
  decide +kernel
theorem rxH244 : rx_ok 244 rxM244 rxC244 [] := by
  show _ = true
  decide +kernel
theorem rxH238 : rx_ok 238 rxM238 rxC238 [] := by
  show _ = true
  decide +kernel
theorem rxH215 : rx_ok 215 rxM215 rxC215 [] := by
  show _ = true
  decide +kernel
theorem rxH149 : rx_ok 149 rxM149 rxC149 [] := by
  show _ = true
  decide +kernel
theorem rxH150 : rx_ok 150 rxM150 rxC150 [] := by
  show _ = true
  decide +kernel
theorem rxH94 : rx_ok 94 rxM94 rxC94 [] := by
  show _ = true
  decide +kernel
theorem rxH251 : rx_ok 251 rxM251 rxC251 [] := by
  show _ = true
  decide +kernel
theorem rxH155 : rx_ok 155 rxM155 rxC155 [] := by
  show _ = true
  decide +kernel
theorem rxH195 : rx_ok 195 rxM195 rxC195 [] := by
  show _ = true
  decide +kernel
theorem rxH87 : rx_ok 87 rxM87 rxC87 [] := by
  show _ = true
  decide +kernel
theorem rxH233 : rx_ok 233 rxM233 rxC233 [] := by
  show _ = true
  decide +kernel
theorem rxH196 : rx_ok 196 rxM196 rxC196 [] := by
  show _ = true
  decide +kernel
theorem rxH292 : rx_ok 292 rxM292 rxC292 [] := by
  show _ = true
  decide +kernel
theorem rxH252 : rx_ok 252 rxM252 rxC252 [] := by
  show _ = true
  decide +kernel
theorem rxH91 : rx_ok 91 rxM91 rxC91 [] := by
  show _ = true
  decide +kernel
theorem rxH90 : rx_ok 90 rxM90 rxC90 [] := by
  show _ = true
  decide +kernel
theorem rxH42 : rx_ok 42 rxM42 rxC42 [] := by
  show _ = true
  decide +kernel
theorem rxH234 : rx_ok 234 rxM234 rxC234 [] := by
  show _ = true
  decide +kernel
theorem rxH101 : rx_ok 101 rxM101 rxC101 [] := by
  show _ = true
  decide +kernel
theorem rxH121 : rx_ok 121 rxM121 rxC121 [] := by
  show _ = true
  decide +kernel
theorem rxH231 : rx_ok 231 rxM231 rxC231 [] := by
  show _ = true
  decide +kernel
theorem rxH4 : rx_ok 4 rxM4 rxC4 [] := by
  show _ = true
  decide +kernel
theorem rxH182 : rx_ok 182 rxM182 rxC182 [] := by
  show _ = true
  decide +kernel
theorem rxH161 : rx_ok 161 rxM161 rxC161 [] := by
  show _ = true
  decide +kernel
theorem rxH291 : rx_ok 291 rxM291 rxC291 [] := by
  show _ = true
  decide +kernel
theorem rxH200 : rx_ok 200 rxM200 rxC200 [] := by
  show _ = true
  decide +kernel
theorem rxH208 : rx_ok 208 rxM208 rxC208 [] := by
  show _ = true
  decide +kernel
theorem rxH111 : rx_ok 111 rxM111 rxC111 [] := by
  show _ = true
  decide +kernel
theorem rxH178 : rx_ok 178 rxM178 rxC178 [] := by
  show _ = true
  decide +kernel
theorem rxH290 : rx_ok 290 rxM290 rxC290 [] := by
  show _ = true
  decide +kernel
theorem rxH210 : rx_ok 210 rxM210 rxC210 [] := by
  show _ = true
  decide +kernel
theorem rxH52 : rx_ok 52 rxM52 rxC52 [] := by
  show _ = true
  decide +kernel
theorem rxH202 : rx_ok 202 rxM202 rxC202 [] := by
  show _ = true
  decide +kernel
theorem rxH123 : rx_ok 123 rxM123 rxC123 [] := by
  show _ = true
  decide +kernel
theorem rxH201 : rx_ok 201 rxM201 rxC201 [] := by
  show _ = true
  decide +kernel
theorem rxH241 : rx_ok 241 rxM241 rxC241 [] := by
  show _ = true
  decide +kernel
theorem rxH170 : rx_ok 170 rxM170 rxC170 [] := by
  show _ = true
  decide +kernel
theorem rxH197 : rx_ok 197 rxM197 rxC197 [] := by
  show _ = true
  decide +kernel
theorem rxH60 : rx_ok 60 rxM60 rxC60 [] := by
  show _ = true
  decide +kernel
theorem rxH172 : rx_ok 172 rxM172 rxC172 [] := by
  show _ = true
  decide +kernel
theorem rxH176 : rx_ok 176 rxM176 rxC176 [] := by
  show _ = true
  decide +kernel
theorem rxH92 : rx_ok 92 rxM92 rxC92 [] := by
  show _ = true
  decide +kernel
theorem rxH190 : rx_ok 190 rxM190 rxC190 [] := by
  show _ = true
  decide +kernel
end
section
theorem rxH249 : rx_ok 249 rxM249 rxC249 [] := by
  show _ = true
  decide +kernel
theorem rxH167 : rx_ok 167 rxM167 rxC167 [] := by
  show _ = true
  decide +kernel
theorem rxH57 : rx_ok 57 rxM57 rxC57 [] := by
  show _ = true
  decide +kernel
theorem rxH36 : rx_ok 36 rxM36 rxC36 [] := by
  show _ = true
  decide +kernel
theorem rxH64 : rx_ok 64 rxM64 rxC64 [] := by
  show _ = true
  decide +kernel
theorem rxH162 : rx_ok 162 rxM162 rxC162 [] := by
  show _ = true
  decide +kernel
theorem rxH203 : rx_ok 203 rxM203 rxC203 [] := by
  show _ = true
  decide +kernel
theorem rxH3 : rx_ok 3 rxM3 rxC3 [] := by
  show _ = true
  decide +kernel
theorem rxH239 : rx_ok 239 rxM239 rxC239 [] := by
  show _ = true
  decide +kernel
theorem rxH221 : rx_ok 221 rxM221 rxC221 [] := by
  show _ = true
  decide +kernel
theorem rxH148 : rx_ok 148 rxM148 rxC148 rxT148 := by
  show _ = true
  decide +kernel
theorem rxH245 : rx_ok 245 rxM245 rxC245 [] := by
  show _ = true
  decide +kernel
theorem rxH110 : rx_ok 110 rxM110 rxC110 [] := by
  show _ = true
  decide +kernel
theorem rxH180 : rx_ok 180 rxM180 rxC180 [] := by
  show _ = true
  decide +kernel
theorem rxH191 : rx_ok 191 rxM191 rxC191 [] := by
  show _ = true
  decide +kernel
theorem rxH95 : rx_ok 95 rxM95 rxC95 [] := by
  show _ = true
  decide +kernel
theorem rxH212 : rx_ok 212 rxM212 rxC212 [] := by
  show _ = true
  decide +kernel
theorem rxH174 : rx_ok 174 rxM174 rxC174 [] := by
  show _ = true
  decide +kernel
theorem rxH27 : rx_ok 27 rxM27 rxC27 [] := by
  show _ = true
  decide +kernel
theorem rxH184 : rx_ok 184 rxM184 rxC184 [] := by
  show _ = true
  decide +kernel
theorem rxH204 : rx_ok 204 rxM204 rxC204 [] := by
  show _ = true
  decide +kernel
theorem rxH102 : rx_ok 102 rxM102 rxC102 [] := by
  show _ = true
  decide +kernel
theorem rxH73 : rx_ok 73 rxM73 rxC73 [] := by
  show _ = true
  decide +kernel
theorem rxH163 : rx_ok 163 rxM163 rxC163 [] := by
  show _ = true
  decide +kernel
theorem rxH86 : rx_ok 86 rxM86 rxC86 [] := by
  show _ = true
  decide +kernel
theorem rxH192 : rx_ok 192 rxM192 rxC192 [] := by
  show _ = true
  decide +kernel
theorem rxH168 : rx_ok 168 rxM168 rxC168 [] := by
  show _ = true
  decide +kernel
theorem rxH130 : rx_ok 130 rxM130 rxC130 [] := by
  show _ = true
  decide +kernel
theorem rxH175 : rx_ok 175 rxM175 rxC175 [] := by
  show _ = true
  decide +kernel
theorem rxH223 : rx_ok 223 rxM223 rxC223 [] := by
  show _ = true
  decide +kernel
theorem rxH227 : rx_ok 227 rxM227 rxC227 [] := by
  show _ = true
  decide +kernel
theorem rxH213 : rx_ok 213 rxM213 rxC213 [] := by
  show _ = true
  decide +kernel
theorem rxH188 : rx_ok 188 rxM188 rxC188 [] := by
  show _ = true
  decide +kernel
theorem rxH229 : rx_ok 229 rxM229 rxC229 [] := by
  show _ = true
  decide +kernel
theorem rxH85 : rx_ok 85 rxM85 rxC85 [] := by
  show _ = true
  decide +kernel
theorem rxH118 : rx_ok 118 rxM118 rxC118 [] := by
  show _ = true
  decide +kernel
theorem rxH246 : rx_ok 246 rxM246 rxC246 [] := by
  show _ = true
  decide +kernel
theorem rxH171 : rx_ok 171 rxM171 rxC171 [] := by
  show _ = true
  decide +kernel
theorem rxH185 : rx_ok 185 rxM185 rxC185 [] := by
  show _ = true
  decide +kernel
theorem rxH80 : rx_ok 80 rxM80 rxC80 rxT80 := by
  show _ = true
  decide +kernel
theorem rxH117 : rx_ok 117 rxM117 rxC117 rxT117 := by
  show _ = true
  decide +kernel
theorem rxH250 : rx_ok 250 rxM250 rxC250 [] := by
  show _ = true
  decide +kernel
end
section
theorem rxH138 : rx_ok 138 rxM138 rxC138 rxT138 := by
  show _ = true
  decide +kernel
theorem rxH247 : rx_ok 247 rxM247 rxC247 [] := by
  show _ = true
  decide +kernel
theorem rxH228 : rx_ok 228 rxM228 rxC228 [] := by
  show _ = true
  decide +kernel
theorem rxH68 : rx_ok 68 rxM68 rxC68 [] := by
  show _ = true
  decide +kernel
theorem rxH173 : rx_ok 173 rxM173 rxC173 [] := by
  show _ = true
  decide +kernel
theorem rxH135 : rx_ok 135 rxM135 rxC135 rxT135 := by
  show _ = true
  decide +kernel
theorem rxH32_5 : rx_ok 32 rxM32 rxC32_5 [] := by
  show _ = true
  decide +kernel
theorem rxH32_4 : rx_ok 32 rxM32 rxC32_4 [] := by
  show _ = true
  decide +kernel
theorem rxH32_3 : rx_ok 32 rxM32 rxC32_3 [] := by
  show _ = true
  decide +kernel
theorem rxH32_2 : rx_ok 32 rxM32 rxC32_2 [] := by
  show _ = true
  decide +kernel
theorem rxH32_1 : rx_ok 32 rxM32 rxC32_1 [] := by
  show _ = true
  decide +kernel
theorem rxH32_0 : rx_ok 32 rxM32 rxC32_0 [] := by
  show _ = true
  decide +kernel
theorem rxH206 : rx_ok 206 rxM206 rxC206 [] := by
  show _ = true
  decide +kernel
theorem rxH30_6 : rx_ok 30 rxM30 rxC30_6 rxT30_6 := by
  show _ = true
  decide +kernel
theorem rxH30_5 : rx_ok 30 rxM30 rxC30_5 rxT30_5 := by
  show _ = true
  decide +kernel
theorem rxH30_4 : rx_ok 30 rxM30 rxC30_4 rxT30_4 := by
  show _ = true
  decide +kernel
theorem rxH30_3 : rx_ok 30 rxM30 rxC30_3 rxT30_3 := by
  show _ = true
  decide +kernel
theorem rxH30_2 : rx_ok 30 rxM30 rxC30_2 rxT30_2 := by
  show _ = true
  decide +kernel
theorem rxH30_1 : rx_ok 30 rxM30 rxC30_1 rxT30_1 := by
  show _ = true
  decide +kernel
theorem rxH30_0 : rx_ok 30 rxM30 rxC30_0 rxT30_0 := by
  show _ = true
  decide +kernel
theorem rxH253 : rx_ok 253 rxM253 rxC253 [] := by
  show _ = true
  decide +kernel
theorem rxH159 : rx_ok 159 rxM159 rxC159 [] := by
  show _ = true
  decide +kernel
theorem rxH207 : rx_ok 207 rxM207 rxC207 [] := by
  show _ = true
  decide +kernel
theorem rxH125 : rx_ok 125 rxM125 rxC125 [] := by
  show _ = true
  decide +kernel
theorem rxH217 : rx_ok 217 rxM217 rxC217 [] := by
  show _ = true
  decide +kernel
theorem rxH165 : rx_ok 165 rxM165 rxC165 [] := by
  show _ = true
  decide +kernel
theorem rxH219 : rx_ok 219 rxM219 rxC219 [] := by
  show _ = true
  decide +kernel
theorem rxH31 : rx_ok 31 rxM31 rxC31 rxT31 := by
  show _ = true
  decide +kernel
theorem rxH220 : rx_ok 220 rxM220 rxC220 [] := by
  show _ = true
  decide +kernel
theorem rxH166 : rx_ok 166 rxM166 rxC166 [] := by
  show _ = true
  decide +kernel
theorem rxH199 : rx_ok 199 rxM199 rxC199 [] := by
  show _ = true
  decide +kernel
theorem rxH225 : rx_ok 225 rxM225 rxC225 [] := by
  show _ = true
  decide +kernel
theorem rxH137 : rx_ok 137 rxM137 rxC137 rxT137 := by
  show _ = true
  decide +kernel
theorem rxH70 : rx_ok 70 rxM70 rxC70 [] := by
  show _ = true
  decide +kernel
end
section
theorem rxH248 : rx_ok 248 rxM248 rxC248 [] := by
  show _ = true
  decide +kernel
theorem rxH29 : rx_ok 29 rxM29 rxC29 rxT29 := by
  show _ = true
  decide +kernel
theorem rxH35 : rx_ok 35 rxM35 rxC35 [] := by
  show _ = true
  decide +kernel
theorem rxH134 : rx_ok 134 rxM134 rxC134 rxT134 := by
  show _ = true
  decide +kernel
theorem rxH53_12 : rx_ok 53 rxM53 rxC53_12 [] := by
  show _ = true
  decide +kernel
theorem rxH53_11 : rx_ok 53 rxM53 rxC53_11 [] := by
  show _ = true
  decide +kernel
theorem rxH53_10 : rx_ok 53 rxM53 rxC53_10 [] := by
  show _ = true
  decide +kernel
theorem rxH53_9 : rx_ok 53 rxM53 rxC53_9 [] := by
  show _ = true
  decide +kernel
theorem rxH53_8 : rx_ok 53 rxM53 rxC53_8 [] := by
  show _ = true
  decide +kernel
theorem rxH53_7 : rx_ok 53 rxM53 rxC53_7 [] := by
  show _ = true
  decide +kernel
theorem rxH53_6 : rx_ok 53 rxM53 rxC53_6 [] := by
  show _ = true
  decide +kernel
theorem rxH53_5 : rx_ok 53 rxM53 rxC53_5 [] := by
  show _ = true
  decide +kernel
theorem rxH53_4 : rx_ok 53 rxM53 rxC53_4 [] := by
  show _ = true
  decide +kernel
theorem rxH53_3 : rx_ok 53 rxM53 rxC53_3 [] := by
  show _ = true
  decide +kernel
theorem rxH53_2 : rx_ok 53 rxM53 rxC53_2 [] := by
  show _ = true
  decide +kernel
theorem rxH53_1 : rx_ok 53 rxM53 rxC53_1 [] := by
  show _ = true
  decide +kernel
theorem rxH53_0 : rx_ok 53 rxM53 rxC53_0 [] := by
  show _ = true
  decide +kernel
theorem rxH169 : rx_ok 169 rxM169 rxC169 rxT169 := by
  show _ = true
  decide +kernel
theorem rxH140 : rx_ok 140 rxM140 rxC140 rxT140 := by
  show _ = true
  decide +kernel
theorem rxH224 : rx_ok 224 rxM224 rxC224 [] := by
  show _ = true
  decide +kernel
theorem rxH194 : rx_ok 194 rxM194 rxC194 [] := by
  show _ = true
  decide +kernel
theorem rxH218 : rx_ok 218 rxM218 rxC218 [] := by
  show _ = true
  decide +kernel
theorem rxH143 : rx_ok 143 rxM143 rxC143 rxT143 := by
  show _ = true
  decide +kernel
theorem rxH54 : rx_ok 54 rxM54 rxC54 rxT54 := by
  show _ = true
  decide +kernel
theorem rxH230 : rx_ok 230 rxM230 rxC230 [] := by
  show _ = true
  decide +kernel
end
section
theorem rxH55_11 : rx_ok 55 rxM55 rxC55_11 rxT55_11 := by
  show _ = true
  decide +kernel
theorem rxH55_10 : rx_ok 55 rxM55 rxC55_10 rxT55_10 := by
  show _ = true
  decide +kernel
theorem rxH55_9 : rx_ok 55 rxM55 rxC55_9 rxT55_9 := by
  show _ = true
  decide +kernel
theorem rxH55_8 : rx_ok 55 rxM55 rxC55_8 rxT55_8 := by
  show _ = true
  decide +kernel
theorem rxH55_7 : rx_ok 55 rxM55 rxC55_7 rxT55_7 := by
  show _ = true
  decide +kernel
theorem rxH55_6 : rx_ok 55 rxM55 rxC55_6 rxT55_6 := by
  show _ = true
  decide +kernel
theorem rxH55_5 : rx_ok 55 rxM55 rxC55_5 rxT55_5 := by
  show _ = true
  decide +kernel
theorem rxH55_4 : rx_ok 55 rxM55 rxC55_4 rxT55_4 := by
  show _ = true
  decide +kernel
theorem rxH55_3 : rx_ok 55 rxM55 rxC55_3 rxT55_3 := by
  show _ = true
  decide +kernel
theorem rxH55_2 : rx_ok 55 rxM55 rxC55_2 rxT55_2 := by
  show _ = true
  decide +kernel
theorem rxH55_1 : rx_ok 55 rxM55 rxC55_1 rxT55_1 := by
  show _ = true
  decide +kernel
theorem rxH55_0 : rx_ok 55 rxM55 rxC55_0 rxT55_0 := by
  show _ = true
  decide +kernel
theorem rxH309 : rx_ok 309 rxM309 rxC309 rxT309 := by
  show _ = true
  decide +kernel
theorem rxH65 : rx_ok 65 rxM65 rxC65 [] := by
  show _ = true
  decide +kernel
theorem rxH37 : rx_ok 37 rxM37 rxC37 rxT37 := by
  show _ = true
  decide +kernel
theorem rxH84 : rx_ok 84 rxM84 rxC84 rxT84 := by
  show _ = true
  decide +kernel
theorem rxH98 : rx_ok 98 rxM98 rxC98 rxT98 := by
  show _ = true
  decide +kernel
theorem rxH47 : rx_ok 47 rxM47 rxC47 [] := by
  show _ = true
  decide +kernel
theorem rxH216 : rx_ok 216 rxM216 rxC216 [] := by
  show _ = true
  decide +kernel
theorem rxH226 : rx_ok 226 rxM226 rxC226 [] := by
  show _ = true
  decide +kernel
theorem rxH232 : rx_ok 232 rxM232 rxC232 [] := by
  show _ = true
  decide +kernel
end
section
theorem rxH12 : rx_ok 12 rxM12 rxC12 rxT12 := by
  show _ = true
  decide +kernel
theorem rxH183 : rx_ok 183 rxM183 rxC183 rxT183 := by
  show _ = true
  decide +kernel
theorem rxH74 : rx_ok 74 rxM74 rxC74 rxT74 := by
  show _ = true
  decide +kernel
theorem rxH307 : rx_ok 307 rxM307 rxC307 rxT307 := by
  show _ = true
  decide +kernel
theorem rxH154 : rx_ok 154 rxM154 rxC154 rxT154 := by
  show _ = true
  decide +kernel
theorem rxH71 : rx_ok 71 rxM71 rxC71 [] := by
  show _ = true
  decide +kernel
theorem rxH193 : rx_ok 193 rxM193 rxC193 rxT193 := by
  show _ = true
  decide +kernel
theorem rxH39 : rx_ok 39 rxM39 rxC39 rxT39 := by
  show _ = true
  decide +kernel
theorem rxH104 : rx_ok 104 rxM104 rxC104 [] := by
  show _ = true
  decide +kernel
theorem rxH136 : rx_ok 136 rxM136 rxC136 rxT136 := by
  show _ = true
  decide +kernel
theorem rxH147 : rx_ok 147 rxM147 rxC147 rxT147 := by
  show _ = true
  decide +kernel
theorem rxH142 : rx_ok 142 rxM142 rxC142 rxT142 := by
  show _ = true
  decide +kernel
theorem rxH131 : rx_ok 131 rxM131 rxC131 rxT131 := by
  show _ = true
  decide +kernel
end
section
theorem rxH66 : rx_ok 66 rxM66 rxC66 [] := by
  show _ = true
  decide +kernel
theorem rxH301 : rx_ok 301 rxM301 rxC301 rxT301 := by
  show _ = true
  decide +kernel
theorem rxH158 : rx_ok 158 rxM158 rxC158 rxT158 := by
  show _ = true
  decide +kernel
theorem rxH107 : rx_ok 107 rxM107 rxC107 rxT107 := by
  show _ = true
  decide +kernel
theorem rxH198 : rx_ok 198 rxM198 rxC198 rxT198 := by
  show _ = true
  decide +kernel
theorem rxH119 : rx_ok 119 rxM119 rxC119 rxT119 := by
  show _ = true
  decide +kernel
theorem rxH146 : rx_ok 146 rxM146 rxC146 rxT146 := by
  show _ = true
  decide +kernel
theorem rxH133 : rx_ok 133 rxM133 rxC133 rxT133 := by
  show _ = true
  decide +kernel
end
section
theorem rxH93 : rx_ok 93 rxM93 rxC93 rxT93 := by
  show _ = true
  decide +kernel
theorem rxH69 : rx_ok 69 rxM69 rxC69 [] := by
  show _ = true
  decide +kernel
theorem rxH28 : rx_ok 28 rxM28 rxC28 rxT28 := by
  show _ = true
  decide +kernel
theorem rxH114 : rx_ok 114 rxM114 rxC114 rxT114 := by
  show _ = true
  decide +kernel
theorem rxH186 : rx_ok 186 rxM186 rxC186 rxT186 := by
  show _ = true
  decide +kernel
end
section
theorem rxH151 : rx_ok 151 rxM151 rxC151 rxT151 := by
  show _ = true
  decide +kernel
theorem rxH152 : rx_ok 152 rxM152 rxC152 rxT152 := by
  show _ = true
  decide +kernel
theorem rxH115 : rx_ok 115 rxM115 rxC115 rxT115 := by
  show _ = true
  decide +kernel
end
section
theorem rxH156 : rx_ok 156 rxM156 rxC156 rxT156 := by
  show _ = true
  decide +kernel
theorem rxH260 : rx_ok 260 rxM260 rxC260 rxT260 := by
  show _ = true
  decide +kernel
theorem rxH127 : rx_ok 127 rxM127 rxC127 rxT127 := by
  show _ = true
  decide +kernel
end
section
theorem rxH235 : rx_ok 235 rxM235 rxC235 rxT235 := by
  show _ = true
  decide +kernel
theorem rxH222 : rx_ok 222 rxM222 rxC222 rxT222 := by
  show _ = true
  decide +kernel
end
section
theorem rxH164 : rx_ok 164 rxM164 rxC164 rxT164 := by
  show _ = true
  decide +kernel
theorem rxH205 : rx_ok 205 rxM205 rxC205 rxT205 := by
  show _ = true
  decide +kernel
end
section
theorem rxH128 : rx_ok 128 rxM128 rxC128 rxT128 := by
  show _ = true
  decide +kernel
end
section
theorem rxH48 : rx_ok 48 rxM48 rxC48 rxT48 := by
  show _ = true
  decide +kernel
end
section
theorem rxH179 : rx_ok 179 rxM179 rxC179 rxT179 := by
  show _ = true
  decide +kernel
end
section
theorem rxH58 : rx_ok 58 rxM58 rxC58 rxT58 := by
  show _ = true
  decide +kernel
end
section
theorem rxH308 : rx_ok 308 rxM308 rxC308 rxT308 := by
  show _ = true
  decide +kernel
end
section
theorem rxH120 : rx_ok 120 rxM120 rxC120 rxT120 := by
  show _ = true
  decide +kernel
end
section
theorem rxH139 : rx_ok 139 rxM139 rxC139 rxT139 := by
  show _ = true
  decide +kernel
end
section
theorem rxH61 : rx_ok 61 rxM61 rxC61 rxT61 := by
  show _ = true
  decide +kernel
end
section
theorem rxH132 : rx_ok 132 rxM132 rxC132 rxT132 := by
  show _ = true
  decide +kernel
end
section
theorem rxH160 : rx_ok 160 rxM160 rxC160 rxT160 := by
  show _ = true
  decide +kernel
end
section
theorem rxH126 : rx_ok 126 rxM126 rxC126 rxT126 := by
  show _ = true
  decide +kernel
end
section
noncomputable def rxHandL : List Nat := [59, 177, 181, 187, 189, 209, 211, 236, 240, 242, 289, 303, 306, 311, 313, 317, 324]
noncomputable def rxHand (j : Nat) : Bool := rxHandL.any (fun i => i == j)
noncomputable def rxXok (ms : List (Nat × Nat)) : Bool := !(bx_mdl ms 1063 1) && (!(bx_mdl ms 1064 0) && (!(bx_mdl ms 1064 1) && !(bx_mdl ms 12 15)))
noncomputable def rx_cP (j : Nat) (ct : bx_Ct) : Prop := rxHand j = true ∨ ∃ (M : rx_Mt) (tab : bx_tab), rxT.2.2.2.2.2 j = some M ∧ rxXok ct.2.2.1 = true ∧ rx_ok j M ct tab
theorem rx_c1 {j : Nat} {M : rx_Mt} {ct : bx_Ct} {tab : bx_tab} (h1 : rxT.2.2.2.2.2 j = some M) (h2 : rxXok ct.2.2.1 = true) (h3 : rx_ok j M ct tab) : rx_cP j ct := Or.inr ⟨M, tab, h1, h2, h3⟩
noncomputable def rx_clP : Nat → List (List bx_Ct) → Prop
  | _, [] => True
  | j, c :: l => (∀ ct ∈ c, rx_cP j ct) ∧ rx_clP (j + 1) l
noncomputable def rx_cgP : Nat → List (List (List bx_Ct)) → Prop
  | _, [] => True
  | j, c :: l => rx_clP j c ∧ rx_cgP (j + 16) l
theorem rx_cl_at : ∀ {L : List (List bx_Ct)} {b k : Nat} {c : List bx_Ct}, rx_clP b L → rx_nth L k = some c → ∀ ct ∈ c, rx_cP (b + k) ct
  | [], _, _, _, _, h => by cases h
  | c0 :: l, b, 0, c, hc, h => by
    cases h
    exact hc.1
  | c0 :: l, b, k + 1, c, hc, h => by
    have := rx_cl_at (L := l) (b := b + 1) (k := k) (c := c) hc.2 h
    rw [show b + 1 + k = b + (k + 1) by omega] at this
    exact this
theorem rx_cg_at : ∀ {L : List (List (List bx_Ct))} {b k : Nat} {c : List (List bx_Ct)}, rx_cgP b L → rx_nth L k = some c → rx_clP (b + 16 * k) c
  | [], _, _, _, _, h => by cases h
  | c0 :: l, b, 0, c, hc, h => by
    cases h
    exact hc.1
  | c0 :: l, b, k + 1, c, hc, h => by
    have := rx_cg_at (L := l) (b := b + 16) (k := k) (c := c) hc.2 h
    rw [show b + 16 + 16 * k = b + 16 * (k + 1) by omega] at this
    exact this
theorem rxCP0 : rx_clP 0 rxCls0 := ⟨rx_all_cons (rx_c1 (M := rxM0) rfl (by decide +kernel) rxH0_0) (rx_all_cons (rx_c1 (M := rxM0) rfl (by decide +kernel) rxH0_1) (rx_all_cons (rx_c1 (M := rxM0) rfl (by decide +kernel) rxH0_2) (rx_all_cons (rx_c1 (M := rxM0) rfl (by decide +kernel) rxH0_3) (rx_all_cons (rx_c1 (M := rxM0) rfl (by decide +kernel) rxH0_4) (rx_all_cons (rx_c1 (M := rxM0) rfl (by decide +kernel) rxH0_5) (rx_all_cons (rx_c1 (M := rxM0) rfl (by decide +kernel) rxH0_6) (rx_all_cons (rx_c1 (M := rxM0) rfl (by decide +kernel) rxH0_7) (rx_all_cons (rx_c1 (M := rxM0) rfl (by decide +kernel) rxH0_8) (rx_all_nil))))))))), ⟨rx_all_nil, ⟨rx_all_nil, ⟨rx_all_cons (rx_c1 (M := rxM3) rfl (by decide +kernel) rxH3) (rx_all_nil), ⟨rx_all_cons (rx_c1 (M := rxM4) rfl (by decide +kernel) rxH4) (rx_all_nil), ⟨rx_all_nil, ⟨rx_all_nil, ⟨rx_all_nil, ⟨rx_all_nil, ⟨rx_all_nil, ⟨rx_all_nil, ⟨rx_all_nil, ⟨rx_all_cons (rx_c1 (M := rxM12) rfl (by decide +kernel) rxH12) (rx_all_nil), ⟨rx_all_nil, ⟨rx_all_nil, ⟨rx_all_nil, trivial⟩⟩⟩⟩⟩⟩⟩⟩⟩⟩⟩⟩⟩⟩⟩⟩
theorem rxCP1 : rx_clP 16 rxCls1 := ⟨rx_all_nil, ⟨rx_all_nil, ⟨rx_all_nil, ⟨rx_all_nil, ⟨rx_all_nil, ⟨rx_all_nil, ⟨rx_all_nil, ⟨rx_all_nil, ⟨rx_all_nil, ⟨rx_all_nil, ⟨rx_all_nil, ⟨rx_all_cons (rx_c1 (M := rxM27) rfl (by decide +kernel) rxH27) (rx_all_nil), ⟨rx_all_cons (rx_c1 (M := rxM28) rfl (by decide +kernel) rxH28) (rx_all_nil), ⟨rx_all_cons (rx_c1 (M := rxM29) rfl (by decide +kernel) rxH29) (rx_all_nil), ⟨rx_all_cons (rx_c1 (M := rxM30) rfl (by decide +kernel) rxH30_6) (rx_all_cons (rx_c1 (M := rxM30) rfl (by decide +kernel) rxH30_5) (rx_all_cons (rx_c1 (M := rxM30) rfl (by decide +kernel) rxH30_4) (rx_all_cons (rx_c1 (M := rxM30) rfl (by decide +kernel) rxH30_3) (rx_all_cons (rx_c1 (M := rxM30) rfl (by decide +kernel) rxH30_2) (rx_all_cons (rx_c1 (M := rxM30) rfl (by decide +kernel) rxH30_1) (rx_all_cons (rx_c1 (M := rxM30) rfl (by decide +kernel) rxH30_0) (rx_all_nil))))))), ⟨rx_all_cons (rx_c1 (M := rxM31) rfl (by decide +kernel) rxH31) (rx_all_nil), trivial⟩⟩⟩⟩⟩⟩⟩⟩⟩⟩⟩⟩⟩⟩⟩⟩
theorem rxCP2 : rx_clP 32 rxCls2 := ⟨rx_all_cons (rx_c1 (M := rxM32) rfl (by decide +kernel) rxH32_5) (rx_all_cons (rx_c1 (M := rxM32) rfl (by decide +kernel) rxH32_4) (rx_all_cons (rx_c1 (M := rxM32) rfl (by decide +kernel) rxH32_3) (rx_all_cons (rx_c1 (M := rxM32) rfl (by decide +kernel) rxH32_2) (rx_all_cons (rx_c1 (M := rxM32) rfl (by decide +kernel) rxH32_1) (rx_all_cons (rx_c1 (M := rxM32) rfl (by decide +kernel) rxH32_0) (rx_all_nil)))))), ⟨rx_all_nil, ⟨rx_all_nil, ⟨rx_all_cons (rx_c1 (M := rxM35) rfl (by decide +kernel) rxH35) (rx_all_nil), ⟨rx_all_cons (rx_c1 (M := rxM36) rfl (by decide +kernel) rxH36) (rx_all_nil), ⟨rx_all_cons (rx_c1 (M := rxM37) rfl (by decide +kernel) rxH37) (rx_all_nil), ⟨rx_all_nil, ⟨rx_all_cons (rx_c1 (M := rxM39) rfl (by decide +kernel) rxH39) (rx_all_nil), ⟨rx_all_nil, ⟨rx_all_nil, ⟨rx_all_cons (rx_c1 (M := rxM42) rfl (by decide +kernel) rxH42) (rx_all_nil), ⟨rx_all_nil, ⟨rx_all_nil, ⟨rx_all_nil, ⟨rx_all_nil, ⟨rx_all_cons (rx_c1 (M := rxM47) rfl (by decide +kernel) rxH47) (rx_all_nil), trivial⟩⟩⟩⟩⟩⟩⟩⟩⟩⟩⟩⟩⟩⟩⟩⟩
theorem rxCP3 : rx_clP 48 rxCls3 := ⟨rx_all_cons (rx_c1 (M := rxM48) rfl (by decide +kernel) rxH48) (rx_all_nil), ⟨rx_all_nil, ⟨rx_all_nil, ⟨rx_all_nil, ⟨rx_all_cons (rx_c1 (M := rxM52) rfl (by decide +kernel) rxH52) (rx_all_nil), ⟨rx_all_cons (rx_c1 (M := rxM53) rfl (by decide +kernel) rxH53_12) (rx_all_cons (rx_c1 (M := rxM53) rfl (by decide +kernel) rxH53_11) (rx_all_cons (rx_c1 (M := rxM53) rfl (by decide +kernel) rxH53_10) (rx_all_cons (rx_c1 (M := rxM53) rfl (by decide +kernel) rxH53_9) (rx_all_cons (rx_c1 (M := rxM53) rfl (by decide +kernel) rxH53_8) (rx_all_cons (rx_c1 (M := rxM53) rfl (by decide +kernel) rxH53_7) (rx_all_cons (rx_c1 (M := rxM53) rfl (by decide +kernel) rxH53_6) (rx_all_cons (rx_c1 (M := rxM53) rfl (by decide +kernel) rxH53_5) (rx_all_cons (rx_c1 (M := rxM53) rfl (by decide +kernel) rxH53_4) (rx_all_cons (rx_c1 (M := rxM53) rfl (by decide +kernel) rxH53_3) (rx_all_cons (rx_c1 (M := rxM53) rfl (by decide +kernel) rxH53_2) (rx_all_cons (rx_c1 (M := rxM53) rfl (by decide +kernel) rxH53_1) (rx_all_cons (rx_c1 (M := rxM53) rfl (by decide +kernel) rxH53_0) (rx_all_nil))))))))))))), ⟨rx_all_cons (rx_c1 (M := rxM54) rfl (by decide +kernel) rxH54) (rx_all_nil), ⟨rx_all_cons (rx_c1 (M := rxM55) rfl (by decide +kernel) rxH55_11) (rx_all_cons (rx_c1 (M := rxM55) rfl (by decide +kernel) rxH55_10) (rx_all_cons (rx_c1 (M := rxM55) rfl (by decide +kernel) rxH55_9) (rx_all_cons (rx_c1 (M := rxM55) rfl (by decide +kernel) rxH55_8) (rx_all_cons (rx_c1 (M := rxM55) rfl (by decide +kernel) rxH55_7) (rx_all_cons (rx_c1 (M := rxM55) rfl (by decide +kernel) rxH55_6) (rx_all_cons (rx_c1 (M := rxM55) rfl (by decide +kernel) rxH55_5) (rx_all_cons (rx_c1 (M := rxM55) rfl (by decide +kernel) rxH55_4) (rx_all_cons (rx_c1 (M := rxM55) rfl (by decide +kernel) rxH55_3) (rx_all_cons (rx_c1 (M := rxM55) rfl (by decide +kernel) rxH55_2) (rx_all_cons (rx_c1 (M := rxM55) rfl (by decide +kernel) rxH55_1) (rx_all_cons (rx_c1 (M := rxM55) rfl (by decide +kernel) rxH55_0) (rx_all_nil)))))))))))), ⟨rx_all_nil, ⟨rx_all_cons (rx_c1 (M := rxM57) rfl (by decide +kernel) rxH57) (rx_all_nil), ⟨rx_all_cons (rx_c1 (M := rxM58) rfl (by decide +kernel) rxH58) (rx_all_nil), ⟨rx_all_cons (Or.inl (by decide +kernel)) (rx_all_nil), ⟨rx_all_cons (rx_c1 (M := rxM60) rfl (by decide +kernel) rxH60) (rx_all_nil), ⟨rx_all_cons (rx_c1 (M := rxM61) rfl (by decide +kernel) rxH61) (rx_all_nil), ⟨rx_all_nil, ⟨rx_all_nil, trivial⟩⟩⟩⟩⟩⟩⟩⟩⟩⟩⟩⟩⟩⟩⟩⟩
theorem rxCP4 : rx_clP 64 rxCls4 := ⟨rx_all_cons (rx_c1 (M := rxM64) rfl (by decide +kernel) rxH64) (rx_all_nil), ⟨rx_all_cons (rx_c1 (M := rxM65) rfl (by decide +kernel) rxH65) (rx_all_nil), ⟨rx_all_cons (rx_c1 (M := rxM66) rfl (by decide +kernel) rxH66) (rx_all_nil), ⟨rx_all_nil, ⟨rx_all_cons (rx_c1 (M := rxM68) rfl (by decide +kernel) rxH68) (rx_all_nil), ⟨rx_all_cons (rx_c1 (M := rxM69) rfl (by decide +kernel) rxH69) (rx_all_nil), ⟨rx_all_cons (rx_c1 (M := rxM70) rfl (by decide +kernel) rxH70) (rx_all_nil), ⟨rx_all_cons (rx_c1 (M := rxM71) rfl (by decide +kernel) rxH71) (rx_all_nil), ⟨rx_all_nil, ⟨rx_all_cons (rx_c1 (M := rxM73) rfl (by decide +kernel) rxH73) (rx_all_nil), ⟨rx_all_cons (rx_c1 (M := rxM74) rfl (by decide +kernel) rxH74) (rx_all_nil), ⟨rx_all_nil, ⟨rx_all_nil, ⟨rx_all_nil, ⟨rx_all_nil, ⟨rx_all_nil, trivial⟩⟩⟩⟩⟩⟩⟩⟩⟩⟩⟩⟩⟩⟩⟩⟩
theorem rxCP5 : rx_clP 80 rxCls5 := ⟨rx_all_cons (rx_c1 (M := rxM80) rfl (by decide +kernel) rxH80) (rx_all_nil), ⟨rx_all_nil, ⟨rx_all_nil, ⟨rx_all_nil, ⟨rx_all_cons (rx_c1 (M := rxM84) rfl (by decide +kernel) rxH84) (rx_all_nil), ⟨rx_all_cons (rx_c1 (M := rxM85) rfl (by decide +kernel) rxH85) (rx_all_nil), ⟨rx_all_cons (rx_c1 (M := rxM86) rfl (by decide +kernel) rxH86) (rx_all_nil), ⟨rx_all_cons (rx_c1 (M := rxM87) rfl (by decide +kernel) rxH87) (rx_all_nil), ⟨rx_all_nil, ⟨rx_all_nil, ⟨rx_all_cons (rx_c1 (M := rxM90) rfl (by decide +kernel) rxH90) (rx_all_nil), ⟨rx_all_cons (rx_c1 (M := rxM91) rfl (by decide +kernel) rxH91) (rx_all_nil), ⟨rx_all_cons (rx_c1 (M := rxM92) rfl (by decide +kernel) rxH92) (rx_all_nil), ⟨rx_all_cons (rx_c1 (M := rxM93) rfl (by decide +kernel) rxH93) (rx_all_nil), ⟨rx_all_cons (rx_c1 (M := rxM94) rfl (by decide +kernel) rxH94) (rx_all_nil), ⟨rx_all_cons (rx_c1 (M := rxM95) rfl (by decide +kernel) rxH95) (rx_all_nil), trivial⟩⟩⟩⟩⟩⟩⟩⟩⟩⟩⟩⟩⟩⟩⟩⟩
theorem rxCP6 : rx_clP 96 rxCls6 := ⟨rx_all_nil, ⟨rx_all_nil, ⟨rx_all_cons (rx_c1 (M := rxM98) rfl (by decide +kernel) rxH98) (rx_all_nil), ⟨rx_all_nil, ⟨rx_all_nil, ⟨rx_all_cons (rx_c1 (M := rxM101) rfl (by decide +kernel) rxH101) (rx_all_nil), ⟨rx_all_cons (rx_c1 (M := rxM102) rfl (by decide +kernel) rxH102) (rx_all_nil), ⟨rx_all_nil, ⟨rx_all_cons (rx_c1 (M := rxM104) rfl (by decide +kernel) rxH104) (rx_all_nil), ⟨rx_all_nil, ⟨rx_all_nil, ⟨rx_all_cons (rx_c1 (M := rxM107) rfl (by decide +kernel) rxH107) (rx_all_nil), ⟨rx_all_nil, ⟨rx_all_nil, ⟨rx_all_cons (rx_c1 (M := rxM110) rfl (by decide +kernel) rxH110) (rx_all_nil), ⟨rx_all_cons (rx_c1 (M := rxM111) rfl (by decide +kernel) rxH111) (rx_all_nil), trivial⟩⟩⟩⟩⟩⟩⟩⟩⟩⟩⟩⟩⟩⟩⟩⟩
theorem rxCP7 : rx_clP 112 rxCls7 := ⟨rx_all_nil, ⟨rx_all_nil, ⟨rx_all_cons (rx_c1 (M := rxM114) rfl (by decide +kernel) rxH114) (rx_all_nil), ⟨rx_all_cons (rx_c1 (M := rxM115) rfl (by decide +kernel) rxH115) (rx_all_nil), ⟨rx_all_nil, ⟨rx_all_cons (rx_c1 (M := rxM117) rfl (by decide +kernel) rxH117) (rx_all_nil), ⟨rx_all_cons (rx_c1 (M := rxM118) rfl (by decide +kernel) rxH118) (rx_all_nil), ⟨rx_all_cons (rx_c1 (M := rxM119) rfl (by decide +kernel) rxH119) (rx_all_nil), ⟨rx_all_cons (rx_c1 (M := rxM120) rfl (by decide +kernel) rxH120) (rx_all_nil), ⟨rx_all_cons (rx_c1 (M := rxM121) rfl (by decide +kernel) rxH121) (rx_all_nil), ⟨rx_all_nil, ⟨rx_all_cons (rx_c1 (M := rxM123) rfl (by decide +kernel) rxH123) (rx_all_nil), ⟨rx_all_nil, ⟨rx_all_cons (rx_c1 (M := rxM125) rfl (by decide +kernel) rxH125) (rx_all_nil), ⟨rx_all_cons (rx_c1 (M := rxM126) rfl (by decide +kernel) rxH126) (rx_all_nil), ⟨rx_all_cons (rx_c1 (M := rxM127) rfl (by decide +kernel) rxH127) (rx_all_nil), trivial⟩⟩⟩⟩⟩⟩⟩⟩⟩⟩⟩⟩⟩⟩⟩⟩
theorem rxCP8 : rx_clP 128 rxCls8 := ⟨rx_all_cons (rx_c1 (M := rxM128) rfl (by decide +kernel) rxH128) (rx_all_nil), ⟨rx_all_nil, ⟨rx_all_cons (rx_c1 (M := rxM130) rfl (by decide +kernel) rxH130) (rx_all_nil), ⟨rx_all_cons (rx_c1 (M := rxM131) rfl (by decide +kernel) rxH131) (rx_all_nil), ⟨rx_all_cons (rx_c1 (M := rxM132) rfl (by decide +kernel) rxH132) (rx_all_nil), ⟨rx_all_cons (rx_c1 (M := rxM133) rfl (by decide +kernel) rxH133) (rx_all_nil), ⟨rx_all_cons (rx_c1 (M := rxM134) rfl (by decide +kernel) rxH134) (rx_all_nil), ⟨rx_all_cons (rx_c1 (M := rxM135) rfl (by decide +kernel) rxH135) (rx_all_nil), ⟨rx_all_cons (rx_c1 (M := rxM136) rfl (by decide +kernel) rxH136) (rx_all_nil), ⟨rx_all_cons (rx_c1 (M := rxM137) rfl (by decide +kernel) rxH137) (rx_all_nil), ⟨rx_all_cons (rx_c1 (M := rxM138) rfl (by decide +kernel) rxH138) (rx_all_nil), ⟨rx_all_cons (rx_c1 (M := rxM139) rfl (by decide +kernel) rxH139) (rx_all_nil), ⟨rx_all_cons (rx_c1 (M := rxM140) rfl (by decide +kernel) rxH140) (rx_all_nil), ⟨rx_all_nil, ⟨rx_all_cons (rx_c1 (M := rxM142) rfl (by decide +kernel) rxH142) (rx_all_nil), ⟨rx_all_cons (rx_c1 (M := rxM143) rfl (by decide +kernel) rxH143) (rx_all_nil), trivial⟩⟩⟩⟩⟩⟩⟩⟩⟩⟩⟩⟩⟩⟩⟩⟩
theorem rxCP9 : rx_clP 144 rxCls9 := ⟨rx_all_nil, ⟨rx_all_nil, ⟨rx_all_cons (rx_c1 (M := rxM146) rfl (by decide +kernel) rxH146) (rx_all_nil), ⟨rx_all_cons (rx_c1 (M := rxM147) rfl (by decide +kernel) rxH147) (rx_all_nil), ⟨rx_all_cons (rx_c1 (M := rxM148) rfl (by decide +kernel) rxH148) (rx_all_nil), ⟨rx_all_cons (rx_c1 (M := rxM149) rfl (by decide +kernel) rxH149) (rx_all_nil), ⟨rx_all_cons (rx_c1 (M := rxM150) rfl (by decide +kernel) rxH150) (rx_all_nil), ⟨rx_all_cons (rx_c1 (M := rxM151) rfl (by decide +kernel) rxH151) (rx_all_nil), ⟨rx_all_cons (rx_c1 (M := rxM152) rfl (by decide +kernel) rxH152) (rx_all_nil), ⟨rx_all_nil, ⟨rx_all_cons (rx_c1 (M := rxM154) rfl (by decide +kernel) rxH154) (rx_all_nil), ⟨rx_all_cons (rx_c1 (M := rxM155) rfl (by decide +kernel) rxH155) (rx_all_nil), ⟨rx_all_cons (rx_c1 (M := rxM156) rfl (by decide +kernel) rxH156) (rx_all_nil), ⟨rx_all_nil, ⟨rx_all_cons (rx_c1 (M := rxM158) rfl (by decide +kernel) rxH158) (rx_all_nil), ⟨rx_all_cons (rx_c1 (M := rxM159) rfl (by decide +kernel) rxH159) (rx_all_nil), trivial⟩⟩⟩⟩⟩⟩⟩⟩⟩⟩⟩⟩⟩⟩⟩⟩
theorem rxCP10 : rx_clP 160 rxCls10 := ⟨rx_all_cons (rx_c1 (M := rxM160) rfl (by decide +kernel) rxH160) (rx_all_nil), ⟨rx_all_cons (rx_c1 (M := rxM161) rfl (by decide +kernel) rxH161) (rx_all_nil), ⟨rx_all_cons (rx_c1 (M := rxM162) rfl (by decide +kernel) rxH162) (rx_all_nil), ⟨rx_all_cons (rx_c1 (M := rxM163) rfl (by decide +kernel) rxH163) (rx_all_nil), ⟨rx_all_cons (rx_c1 (M := rxM164) rfl (by decide +kernel) rxH164) (rx_all_nil), ⟨rx_all_cons (rx_c1 (M := rxM165) rfl (by decide +kernel) rxH165) (rx_all_nil), ⟨rx_all_cons (rx_c1 (M := rxM166) rfl (by decide +kernel) rxH166) (rx_all_nil), ⟨rx_all_cons (rx_c1 (M := rxM167) rfl (by decide +kernel) rxH167) (rx_all_nil), ⟨rx_all_cons (rx_c1 (M := rxM168) rfl (by decide +kernel) rxH168) (rx_all_nil), ⟨rx_all_cons (rx_c1 (M := rxM169) rfl (by decide +kernel) rxH169) (rx_all_nil), ⟨rx_all_cons (rx_c1 (M := rxM170) rfl (by decide +kernel) rxH170) (rx_all_nil), ⟨rx_all_cons (rx_c1 (M := rxM171) rfl (by decide +kernel) rxH171) (rx_all_nil), ⟨rx_all_cons (rx_c1 (M := rxM172) rfl (by decide +kernel) rxH172) (rx_all_nil), ⟨rx_all_cons (rx_c1 (M := rxM173) rfl (by decide +kernel) rxH173) (rx_all_nil), ⟨rx_all_cons (rx_c1 (M := rxM174) rfl (by decide +kernel) rxH174) (rx_all_nil), ⟨rx_all_cons (rx_c1 (M := rxM175) rfl (by decide +kernel) rxH175) (rx_all_nil), trivial⟩⟩⟩⟩⟩⟩⟩⟩⟩⟩⟩⟩⟩⟩⟩⟩
theorem rxCP11 : rx_clP 176 rxCls11 := ⟨rx_all_cons (rx_c1 (M := rxM176) rfl (by decide +kernel) rxH176) (rx_all_nil), ⟨rx_all_cons (Or.inl (by decide +kernel)) (rx_all_nil), ⟨rx_all_cons (rx_c1 (M := rxM178) rfl (by decide +kernel) rxH178) (rx_all_nil), ⟨rx_all_cons (rx_c1 (M := rxM179) rfl (by decide +kernel) rxH179) (rx_all_nil), ⟨rx_all_cons (rx_c1 (M := rxM180) rfl (by decide +kernel) rxH180) (rx_all_nil), ⟨rx_all_cons (Or.inl (by decide +kernel)) (rx_all_nil), ⟨rx_all_cons (rx_c1 (M := rxM182) rfl (by decide +kernel) rxH182) (rx_all_nil), ⟨rx_all_cons (rx_c1 (M := rxM183) rfl (by decide +kernel) rxH183) (rx_all_nil), ⟨rx_all_cons (rx_c1 (M := rxM184) rfl (by decide +kernel) rxH184) (rx_all_nil), ⟨rx_all_cons (rx_c1 (M := rxM185) rfl (by decide +kernel) rxH185) (rx_all_nil), ⟨rx_all_cons (rx_c1 (M := rxM186) rfl (by decide +kernel) rxH186) (rx_all_nil), ⟨rx_all_cons (Or.inl (by decide +kernel)) (rx_all_nil), ⟨rx_all_cons (rx_c1 (M := rxM188) rfl (by decide +kernel) rxH188) (rx_all_nil), ⟨rx_all_cons (Or.inl (by decide +kernel)) (rx_all_nil), ⟨rx_all_cons (rx_c1 (M := rxM190) rfl (by decide +kernel) rxH190) (rx_all_nil), ⟨rx_all_cons (rx_c1 (M := rxM191) rfl (by decide +kernel) rxH191) (rx_all_nil), trivial⟩⟩⟩⟩⟩⟩⟩⟩⟩⟩⟩⟩⟩⟩⟩⟩
theorem rxCP12 : rx_clP 192 rxCls12 := ⟨rx_all_cons (rx_c1 (M := rxM192) rfl (by decide +kernel) rxH192) (rx_all_nil), ⟨rx_all_cons (rx_c1 (M := rxM193) rfl (by decide +kernel) rxH193) (rx_all_nil), ⟨rx_all_cons (rx_c1 (M := rxM194) rfl (by decide +kernel) rxH194) (rx_all_nil), ⟨rx_all_cons (rx_c1 (M := rxM195) rfl (by decide +kernel) rxH195) (rx_all_nil), ⟨rx_all_cons (rx_c1 (M := rxM196) rfl (by decide +kernel) rxH196) (rx_all_nil), ⟨rx_all_cons (rx_c1 (M := rxM197) rfl (by decide +kernel) rxH197) (rx_all_nil), ⟨rx_all_cons (rx_c1 (M := rxM198) rfl (by decide +kernel) rxH198) (rx_all_nil), ⟨rx_all_cons (rx_c1 (M := rxM199) rfl (by decide +kernel) rxH199) (rx_all_nil), ⟨rx_all_cons (rx_c1 (M := rxM200) rfl (by decide +kernel) rxH200) (rx_all_nil), ⟨rx_all_cons (rx_c1 (M := rxM201) rfl (by decide +kernel) rxH201) (rx_all_nil), ⟨rx_all_cons (rx_c1 (M := rxM202) rfl (by decide +kernel) rxH202) (rx_all_nil), ⟨rx_all_cons (rx_c1 (M := rxM203) rfl (by decide +kernel) rxH203) (rx_all_nil), ⟨rx_all_cons (rx_c1 (M := rxM204) rfl (by decide +kernel) rxH204) (rx_all_nil), ⟨rx_all_cons (rx_c1 (M := rxM205) rfl (by decide +kernel) rxH205) (rx_all_nil), ⟨rx_all_cons (rx_c1 (M := rxM206) rfl (by decide +kernel) rxH206) (rx_all_nil), ⟨rx_all_cons (rx_c1 (M := rxM207) rfl (by decide +kernel) rxH207) (rx_all_nil), trivial⟩⟩⟩⟩⟩⟩⟩⟩⟩⟩⟩⟩⟩⟩⟩⟩
theorem rxCP13 : rx_clP 208 rxCls13 := ⟨rx_all_cons (rx_c1 (M := rxM208) rfl (by decide +kernel) rxH208) (rx_all_nil), ⟨rx_all_cons (Or.inl (by decide +kernel)) (rx_all_nil), ⟨rx_all_cons (rx_c1 (M := rxM210) rfl (by decide +kernel) rxH210) (rx_all_nil), ⟨rx_all_cons (Or.inl (by decide +kernel)) (rx_all_nil), ⟨rx_all_cons (rx_c1 (M := rxM212) rfl (by decide +kernel) rxH212) (rx_all_nil), ⟨rx_all_cons (rx_c1 (M := rxM213) rfl (by decide +kernel) rxH213) (rx_all_nil), ⟨rx_all_cons (rx_c1 (M := rxM214) rfl (by decide +kernel) rxH214) (rx_all_nil), ⟨rx_all_cons (rx_c1 (M := rxM215) rfl (by decide +kernel) rxH215) (rx_all_nil), ⟨rx_all_cons (rx_c1 (M := rxM216) rfl (by decide +kernel) rxH216) (rx_all_nil), ⟨rx_all_cons (rx_c1 (M := rxM217) rfl (by decide +kernel) rxH217) (rx_all_nil), ⟨rx_all_cons (rx_c1 (M := rxM218) rfl (by decide +kernel) rxH218) (rx_all_nil), ⟨rx_all_cons (rx_c1 (M := rxM219) rfl (by decide +kernel) rxH219) (rx_all_nil), ⟨rx_all_cons (rx_c1 (M := rxM220) rfl (by decide +kernel) rxH220) (rx_all_nil), ⟨rx_all_cons (rx_c1 (M := rxM221) rfl (by decide +kernel) rxH221) (rx_all_nil), ⟨rx_all_cons (rx_c1 (M := rxM222) rfl (by decide +kernel) rxH222) (rx_all_nil), ⟨rx_all_cons (rx_c1 (M := rxM223) rfl (by decide +kernel) rxH223) (rx_all_nil), trivial⟩⟩⟩⟩⟩⟩⟩⟩⟩⟩⟩⟩⟩⟩⟩⟩
theorem rxCP14 : rx_clP 224 rxCls14 := ⟨rx_all_cons (rx_c1 (M := rxM224) rfl (by decide +kernel) rxH224) (rx_all_nil), ⟨rx_all_cons (rx_c1 (M := rxM225) rfl (by decide +kernel) rxH225) (rx_all_nil), ⟨rx_all_cons (rx_c1 (M := rxM226) rfl (by decide +kernel) rxH226) (rx_all_nil), ⟨rx_all_cons (rx_c1 (M := rxM227) rfl (by decide +kernel) rxH227) (rx_all_nil), ⟨rx_all_cons (rx_c1 (M := rxM228) rfl (by decide +kernel) rxH228) (rx_all_nil), ⟨rx_all_cons (rx_c1 (M := rxM229) rfl (by decide +kernel) rxH229) (rx_all_nil), ⟨rx_all_cons (rx_c1 (M := rxM230) rfl (by decide +kernel) rxH230) (rx_all_nil), ⟨rx_all_cons (rx_c1 (M := rxM231) rfl (by decide +kernel) rxH231) (rx_all_nil), ⟨rx_all_cons (rx_c1 (M := rxM232) rfl (by decide +kernel) rxH232) (rx_all_nil), ⟨rx_all_cons (rx_c1 (M := rxM233) rfl (by decide +kernel) rxH233) (rx_all_nil), ⟨rx_all_cons (rx_c1 (M := rxM234) rfl (by decide +kernel) rxH234) (rx_all_nil), ⟨rx_all_cons (rx_c1 (M := rxM235) rfl (by decide +kernel) rxH235) (rx_all_nil), ⟨rx_all_cons (Or.inl (by decide +kernel)) (rx_all_nil), ⟨rx_all_cons (rx_c1 (M := rxM237) rfl (by decide +kernel) rxH237) (rx_all_nil), ⟨rx_all_cons (rx_c1 (M := rxM238) rfl (by decide +kernel) rxH238) (rx_all_nil), ⟨rx_all_cons (rx_c1 (M := rxM239) rfl (by decide +kernel) rxH239) (rx_all_nil), trivial⟩⟩⟩⟩⟩⟩⟩⟩⟩⟩⟩⟩⟩⟩⟩⟩
theorem rxCP15 : rx_clP 240 rxCls15 := ⟨rx_all_cons (Or.inl (by decide +kernel)) (rx_all_nil), ⟨rx_all_cons (rx_c1 (M := rxM241) rfl (by decide +kernel) rxH241) (rx_all_nil), ⟨rx_all_cons (Or.inl (by decide +kernel)) (rx_all_nil), ⟨rx_all_cons (rx_c1 (M := rxM243) rfl (by decide +kernel) rxH243) (rx_all_nil), ⟨rx_all_cons (rx_c1 (M := rxM244) rfl (by decide +kernel) rxH244) (rx_all_nil), ⟨rx_all_cons (rx_c1 (M := rxM245) rfl (by decide +kernel) rxH245) (rx_all_nil), ⟨rx_all_cons (rx_c1 (M := rxM246) rfl (by decide +kernel) rxH246) (rx_all_nil), ⟨rx_all_cons (rx_c1 (M := rxM247) rfl (by decide +kernel) rxH247) (rx_all_nil), ⟨rx_all_cons (rx_c1 (M := rxM248) rfl (by decide +kernel) rxH248) (rx_all_nil), ⟨rx_all_cons (rx_c1 (M := rxM249) rfl (by decide +kernel) rxH249) (rx_all_nil), ⟨rx_all_cons (rx_c1 (M := rxM250) rfl (by decide +kernel) rxH250) (rx_all_nil), ⟨rx_all_cons (rx_c1 (M := rxM251) rfl (by decide +kernel) rxH251) (rx_all_nil), ⟨rx_all_cons (rx_c1 (M := rxM252) rfl (by decide +kernel) rxH252) (rx_all_nil), ⟨rx_all_cons (rx_c1 (M := rxM253) rfl (by decide +kernel) rxH253) (rx_all_nil), ⟨rx_all_nil, ⟨rx_all_nil, trivial⟩⟩⟩⟩⟩⟩⟩⟩⟩⟩⟩⟩⟩⟩⟩⟩
theorem rxCP16 : rx_clP 256 rxCls16 := ⟨rx_all_nil, ⟨rx_all_nil, ⟨rx_all_nil, ⟨rx_all_nil, ⟨rx_all_cons (rx_c1 (M := rxM260) rfl (by decide +kernel) rxH260) (rx_all_nil), ⟨rx_all_nil, ⟨rx_all_nil, ⟨rx_all_nil, ⟨rx_all_nil, ⟨rx_all_nil, ⟨rx_all_nil, ⟨rx_all_nil, ⟨rx_all_nil, ⟨rx_all_nil, ⟨rx_all_nil, ⟨rx_all_nil, trivial⟩⟩⟩⟩⟩⟩⟩⟩⟩⟩⟩⟩⟩⟩⟩⟩
theorem rxCP17 : rx_clP 272 rxCls17 := ⟨rx_all_nil, ⟨rx_all_nil, ⟨rx_all_nil, ⟨rx_all_nil, ⟨rx_all_nil, ⟨rx_all_nil, ⟨rx_all_nil, ⟨rx_all_nil, ⟨rx_all_nil, ⟨rx_all_nil, ⟨rx_all_nil, ⟨rx_all_nil, ⟨rx_all_nil, ⟨rx_all_nil, ⟨rx_all_nil, ⟨rx_all_nil, trivial⟩⟩⟩⟩⟩⟩⟩⟩⟩⟩⟩⟩⟩⟩⟩⟩
theorem rxCP18 : rx_clP 288 rxCls18 := ⟨rx_all_nil, ⟨rx_all_cons (Or.inl (by decide +kernel)) (rx_all_nil), ⟨rx_all_cons (rx_c1 (M := rxM290) rfl (by decide +kernel) rxH290) (rx_all_nil), ⟨rx_all_cons (rx_c1 (M := rxM291) rfl (by decide +kernel) rxH291) (rx_all_nil), ⟨rx_all_cons (rx_c1 (M := rxM292) rfl (by decide +kernel) rxH292) (rx_all_nil), ⟨rx_all_nil, ⟨rx_all_nil, ⟨rx_all_nil, ⟨rx_all_nil, ⟨rx_all_nil, ⟨rx_all_nil, ⟨rx_all_nil, ⟨rx_all_nil, ⟨rx_all_cons (rx_c1 (M := rxM301) rfl (by decide +kernel) rxH301) (rx_all_nil), ⟨rx_all_nil, ⟨rx_all_cons (Or.inl (by decide +kernel)) (rx_all_nil), trivial⟩⟩⟩⟩⟩⟩⟩⟩⟩⟩⟩⟩⟩⟩⟩⟩
theorem rxCP19 : rx_clP 304 rxCls19 := ⟨rx_all_nil, ⟨rx_all_nil, ⟨rx_all_cons (Or.inl (by decide +kernel)) (rx_all_nil), ⟨rx_all_cons (rx_c1 (M := rxM307) rfl (by decide +kernel) rxH307) (rx_all_nil), ⟨rx_all_cons (rx_c1 (M := rxM308) rfl (by decide +kernel) rxH308) (rx_all_nil), ⟨rx_all_cons (rx_c1 (M := rxM309) rfl (by decide +kernel) rxH309) (rx_all_nil), ⟨rx_all_nil, ⟨rx_all_nil, ⟨rx_all_nil, ⟨rx_all_nil, ⟨rx_all_nil, ⟨rx_all_nil, ⟨rx_all_nil, ⟨rx_all_cons (Or.inl (by decide +kernel)) (rx_all_nil), ⟨rx_all_nil, ⟨rx_all_nil, trivial⟩⟩⟩⟩⟩⟩⟩⟩⟩⟩⟩⟩⟩⟩⟩⟩
theorem rxCP20 : rx_clP 320 rxCls20 := ⟨rx_all_nil, ⟨rx_all_nil, ⟨rx_all_nil, ⟨rx_all_nil, ⟨rx_all_cons (Or.inl (by decide +kernel)) (rx_all_nil), ⟨rx_all_nil, trivial⟩⟩⟩⟩⟩⟩
theorem rxCP : rx_cgP 0 rxCls := ⟨rxCP0, ⟨rxCP1, ⟨rxCP2, ⟨rxCP3, ⟨rxCP4, ⟨rxCP5, ⟨rxCP6, ⟨rxCP7, ⟨rxCP8, ⟨rxCP9, ⟨rxCP10, ⟨rxCP11, ⟨rxCP12, ⟨rxCP13, ⟨rxCP14, ⟨rxCP15, ⟨rxCP16, ⟨rxCP17, ⟨rxCP18, ⟨rxCP19, ⟨rxCP20, trivial⟩⟩⟩⟩⟩⟩⟩⟩⟩⟩⟩⟩⟩⟩⟩⟩⟩⟩⟩⟩⟩
theorem rxCn_ok {j : Nat} {ct : bx_Ct} (h : ct ∈ rxCn j) : rx_cP j ct := by
  unfold rxCn at h
  split at h
  · rename_i l hl
    split at h
    · rename_i c hc
      have h1 := rx_cl_at (rx_cg_at rxCP hl) hc ct h
      have ej : 0 + 16 * (Nat.div j 16) + Nat.mod j 16 = j := by
        have := Nat.div_add_mod j 16
        show 0 + 16 * (j / 16) + j % 16 = j
        omega
      rw [ej] at h1
      exact h1
    · exact absurd h List.not_mem_nil
  · exact absurd h List.not_mem_nil
section RXALL
variable {PX : State → Prop} {Dg : va_G} {A : Nat → Prop} {ad xa : Nat → Nat} {l : Launch} {X : (Nat → Int → Int) → Prop}
noncomputable def rx_Xkept (X : (Nat → Int → Int) → Prop) : Prop := ∀ (ms : List (Nat × Nat)), rxXok ms = true → ∀ S S_p : Nat → Int → Int, X S → bx_same rxL (bx_mdl ms) S S_p → X S_p
theorem rxStep {n : Nat} (hPX : rx_PXOK rxNW A PX) (hX : rx_Xkept X) (hsl : ∀ s : State, PX s → ∀ o idx n : Nat, rxSl o idx = some n → ∃ tx : String, vk_R (rxNm o) idx tx (ad n) s)
    (ih : ∀ (j : Nat) (ct : bx_Ct) (M : rx_Mt), ct ∈ rxCn j → ct.2.2.2.1 + 1 ≤ n → rxT.2.2.2.2.2 j = some M → bx_Con rxG rxNW rxAO PX Dg rxL X vwCl A ad l M ct)
    {j : Nat} {ct : bx_Ct} {M : rx_Mt} {tab : bx_tab} (hj : rxT.2.2.2.2.2 j = some M) (hx : rxXok ct.2.2.1 = true) (hd : ct.2.2.2.1 ≤ n) (h : rx_ok j M ct tab) : bx_Con rxG rxNW rxAO PX Dg rxL X vwCl A ad l M ct :=
  bx_con (B := rxB ct.2.2.1) (T := rxT) (nm := rxNm) (xh := bx_xh (rxB ct.2.2.1) rxT rxCn rxCp rxSl) (xa := fun n => n) (mk := bx_mk) (f := 30000) (tab := tab) rxGgood hPX rxFr_ok rxKc_ok rxMl_ok rxCj_ok rxVok rfl rfl rfl (fun S S_p => hX _ hx S S_p)
    (fun S0 hX0 => bx_xh_ok rxVok rfl (bx_hook_ok rxGgood hPX rxMl_ok rxCj_ok rxVok rfl rfl rfl (fun S hs => hX _ hx S0 S hX0 hs) (fun j2 ct2 M2 hc hd2 hM => ih j2 ct2 M2 hc (Nat.le_trans hd2 hd) hM)) rxCp_ok rxMw_ok rxCw_ok hsl)
    hj (bx_chk2_ok (fun j M pc e hm he => rxCT_ok j M pc e hm he) hj h)
theorem rxAll (hPX : rx_PXOK rxNW A PX) (hX : rx_Xkept X) (hsl : ∀ s : State, PX s → ∀ o idx n : Nat, rxSl o idx = some n → ∃ tx : String, vk_R (rxNm o) idx tx (ad n) s)
    (hand : ∀ n : Nat, (∀ (j : Nat) (ct : bx_Ct) (M : rx_Mt), ct ∈ rxCn j → ct.2.2.2.1 + 1 ≤ n → rxT.2.2.2.2.2 j = some M → bx_Con rxG rxNW rxAO PX Dg rxL X vwCl A ad l M ct) →
      ∀ (j : Nat) (ct : bx_Ct) (M : rx_Mt), rxHand j = true → ct ∈ rxCn j → ct.2.2.2.1 ≤ n → rxT.2.2.2.2.2 j = some M → bx_Con rxG rxNW rxAO PX Dg rxL X vwCl A ad l M ct) :
    ∀ (n j : Nat) (ct : bx_Ct) (M : rx_Mt), ct ∈ rxCn j → ct.2.2.2.1 ≤ n → rxT.2.2.2.2.2 j = some M → bx_Con rxG rxNW rxAO PX Dg rxL X vwCl A ad l M ct := by
  intro n
  induction n using Nat.strongRecOn with
  | _ n ih =>
    intro j ct M hct hd hM
    have ih2 : ∀ (j : Nat) (ct : bx_Ct) (M : rx_Mt), ct ∈ rxCn j → ct.2.2.2.1 + 1 ≤ n → rxT.2.2.2.2.2 j = some M → bx_Con rxG rxNW rxAO PX Dg rxL X vwCl A ad l M ct := fun j2 ct2 M2 h1 h2 h3 => ih (n - 1) (by omega) j2 ct2 M2 h1 (by omega) h3
    rcases rxCn_ok hct with h | ⟨M2, tab, h1, h2, h3⟩
    · exact hand n ih2 j ct M h hct hd hM
    · rw [hM] at h1
      cases h1
      exact rxStep hPX hX hsl ih2 hM h2 hd h3
end RXALL
end
section
noncomputable def bx_qV (a b : rx_V) : Bool := match a, b with
  | .inl none, .inl none => true
  | .inr (k, e), .inr (j, f) => Nat.beq k j && (Nat.beq e.1 f.1 && decide (e.2 = f.2))
  | _, _ => false
noncomputable def bx_qC (a b : rx_C) : Bool := Nat.beq a.1.2 b.1.2 && (Nat.beq a.1.1.1 b.1.1.1 && (decide (a.1.1.2 = b.1.1.2) && bx_qV a.2 b.2))
noncomputable def bx_qI (a b : Nat × rx_V) : Bool := Nat.beq a.1 b.1 && bx_qV a.2 b.2
noncomputable def bx_qF (a b : Nat × rx_E × rx_E) : Bool := Nat.beq a.1 b.1 && (Nat.beq a.2.1.1 b.2.1.1 && (decide (a.2.1.2 = b.2.1.2) && (Nat.beq a.2.2.1 b.2.2.1 && decide (a.2.2.2 = b.2.2.2))))
noncomputable def bx_qB (a b : Int × Int) : Bool := decide (a.1 = b.1) && decide (a.2 = b.2)
noncomputable def bx_qL {α : Type} (f : α → α → Bool) : List α → List α → Bool
  | [], [] => true
  | a :: l, b :: m => f a b && bx_qL f l m
  | _, _ => false
noncomputable def bx_qZ (z y : rx_Z) : Bool := match z, y with
  | (I, F, ht, c, s, pc, lv, st), (I_p, F_p, ht_p, c_p, s_p, pc_p, lv_p, st_p) => Nat.beq pc pc_p && (Nat.beq c c_p && (Nat.beq s s_p && (bx_qL bx_qV st st_p && (bx_qL bx_qI lv lv_p && (bx_qL bx_qB I I_p && (bx_qL bx_qF F F_p && bx_qL bx_qC ht ht_p))))))
theorem bx_qV_ok {a b : rx_V} (h : bx_qV a b = true) : a = b := by
  match a, b, h with
  | .inl none, .inl none, _ => rfl
  | .inl none, .inl (some _), h => exact absurd (show false = true from h) Bool.false_ne_true
  | .inl (some _), .inl _, h => exact absurd (show false = true from h) Bool.false_ne_true
  | .inl none, .inr _, h => exact absurd (show false = true from h) Bool.false_ne_true
  | .inl (some _), .inr _, h => exact absurd (show false = true from h) Bool.false_ne_true
  | .inr _, .inl none, h => exact absurd (show false = true from h) Bool.false_ne_true
  | .inr _, .inl (some _), h => exact absurd (show false = true from h) Bool.false_ne_true
  | .inr (k, e1, e2), .inr (j, f1, f2), h =>
    have h : (Nat.beq k j && (Nat.beq e1 f1 && decide (e2 = f2))) = true := h
    rw [Bool.and_eq_true, Bool.and_eq_true, decide_eq_true_eq] at h
    obtain ⟨h1, h2, h3⟩ := h
    rw [Nat.eq_of_beq_eq_true h1, Nat.eq_of_beq_eq_true h2, h3]
theorem bx_qL_ok {α : Type} {f : α → α → Bool} (hf : ∀ a b, f a b = true → a = b) : ∀ {l m : List α}, bx_qL f l m = true → l = m
  | [], [], _ => rfl
  | [], _ :: _, h => absurd (show false = true from h) Bool.false_ne_true
  | _ :: _, [], h => absurd (show false = true from h) Bool.false_ne_true
  | a :: l, b :: m, h => by
    have h : (f a b && bx_qL f l m) = true := h
    rw [Bool.and_eq_true] at h
    rw [hf a b h.1, bx_qL_ok hf h.2]
theorem bx_qC_ok (a b : rx_C) (h : bx_qC a b = true) : a = b := by
  obtain ⟨⟨⟨a1, a2⟩, a3⟩, a4⟩ := a
  obtain ⟨⟨⟨b1, b2⟩, b3⟩, b4⟩ := b
  have h : (Nat.beq a3 b3 && (Nat.beq a1 b1 && (decide (a2 = b2) && bx_qV a4 b4))) = true := h
  rw [Bool.and_eq_true, Bool.and_eq_true, Bool.and_eq_true, decide_eq_true_eq] at h
  obtain ⟨h1, h2, h3, h4⟩ := h
  rw [Nat.eq_of_beq_eq_true h1, Nat.eq_of_beq_eq_true h2, h3, bx_qV_ok h4]
theorem bx_qI_ok (a b : Nat × rx_V) (h : bx_qI a b = true) : a = b := by
  obtain ⟨a1, a2⟩ := a
  obtain ⟨b1, b2⟩ := b
  have h : (Nat.beq a1 b1 && bx_qV a2 b2) = true := h
  rw [Bool.and_eq_true] at h
  rw [Nat.eq_of_beq_eq_true h.1, bx_qV_ok h.2]
theorem bx_qF_ok (a b : Nat × rx_E × rx_E) (h : bx_qF a b = true) : a = b := by
  obtain ⟨a1, ⟨a2, a3⟩, a4, a5⟩ := a
  obtain ⟨b1, ⟨b2, b3⟩, b4, b5⟩ := b
  have h : (Nat.beq a1 b1 && (Nat.beq a2 b2 && (decide (a3 = b3) && (Nat.beq a4 b4 && decide (a5 = b5))))) = true := h
  rw [Bool.and_eq_true, Bool.and_eq_true, Bool.and_eq_true, Bool.and_eq_true, decide_eq_true_eq, decide_eq_true_eq] at h
  obtain ⟨h1, h2, h3, h4, h5⟩ := h
  rw [Nat.eq_of_beq_eq_true h1, Nat.eq_of_beq_eq_true h2, h3, Nat.eq_of_beq_eq_true h4, h5]
theorem bx_qB_ok (a b : Int × Int) (h : bx_qB a b = true) : a = b := by
  obtain ⟨a1, a2⟩ := a
  obtain ⟨b1, b2⟩ := b
  have h : (decide (a1 = b1) && decide (a2 = b2)) = true := h
  rw [Bool.and_eq_true, decide_eq_true_eq, decide_eq_true_eq] at h
  rw [h.1, h.2]
theorem bx_qZ_ok {z y : rx_Z} (h : bx_qZ z y = true) : z = y := by
  obtain ⟨I, F, ht, c, s, pc, lv, st⟩ := z
  obtain ⟨I_p, F_p, ht_p, c_p, s_p, pc_p, lv_p, st_p⟩ := y
  have h : (Nat.beq pc pc_p && (Nat.beq c c_p && (Nat.beq s s_p && (bx_qL bx_qV st st_p && (bx_qL bx_qI lv lv_p && (bx_qL bx_qB I I_p && (bx_qL bx_qF F F_p && bx_qL bx_qC ht ht_p))))))) = true := h
  simp only [Bool.and_eq_true] at h
  obtain ⟨h1, h2, h3, h4, h5, h6, h7, h8⟩ := h
  rw [Nat.eq_of_beq_eq_true h1, Nat.eq_of_beq_eq_true h2, Nat.eq_of_beq_eq_true h3, bx_qL_ok (fun a b => bx_qV_ok) h4, bx_qL_ok bx_qI_ok h5, bx_qL_ok bx_qB_ok h6, bx_qL_ok bx_qF_ok h7, bx_qL_ok bx_qC_ok h8]
noncomputable def bx_nar : List (Nat × Int × Int) → rx_I → rx_I
  | [], I => I
  | q :: l, I => bx_nar l (rx_cap I q.1 q.2.1 q.2.2)
noncomputable def bx_zn (nar : List (Nat × Int × Int)) (nf : rx_F) (z : rx_Z) : rx_Z := match z with
  | (I, F, ht, c, s, pc, lv, st) => (bx_nar nar I, nf ++ F, ht, c, s, pc, lv, st)
theorem bx_nar_ok {r : Nat → Int} : ∀ {l : List (Nat × Int × Int)} {I : rx_I}, rx_sat I r → (∀ q ∈ l, q.2.1 ≤ r q.1 ∧ r q.1 ≤ q.2.2) → rx_sat (bx_nar l I) r ∧ (bx_nar l I).length = I.length
  | [], I, h, _ => ⟨h, rfl⟩
  | q :: l, I, h, hq => by
    obtain ⟨h1, h2⟩ := hq q List.mem_cons_self
    obtain ⟨h3, h4⟩ := bx_nar_ok (l := l) (rx_cap_ok h h1 h2) (fun y hy => hq y (List.mem_cons_of_mem _ hy))
    exact ⟨h3, h4.trans rx_cap_len⟩
noncomputable abbrev bx_HO : Type := rx_Z × List (Nat × Int × Int) × rx_F × List rx_E × Nat
noncomputable abbrev bx_SP : Type := (Nat → Int → Int) → (Nat → Int) → Prop
noncomputable abbrev bx_HE : Type := rx_Z × List bx_HO × List (rx_End × List (Nat × Int × Int))
noncomputable def bx_cutH (os : List bx_HO) (z_p : rx_Z) : Bool := os.any (fun o => bx_qZ z_p o.1)
noncomputable def bx_mdH (ms : List (Nat × Nat)) (a b : Nat) : Bool := (Nat.beq a 999999 && Nat.beq b 0) || bx_mdl ms a b
noncomputable def bx_noE (ht : List rx_C) : Bool := ht.all (fun q => !(bx_isE q))
theorem bx_noE_chain {L : bx_L} {N : Nat} {r : Nat → Int} {S : Nat → Int → Int} : ∀ {ht : List rx_C}, bx_noE ht = true → bx_chain L N r S ht S
  | [], _ => rfl
  | q :: l, h => by
    have h : (!(bx_isE q) && bx_noE l) = true := h
    rw [Bool.and_eq_true, Bool.not_eq_true'] at h
    exact bx_chain_skip (by rw [h.1]; exact Bool.false_ne_true) (bx_noE_chain h.2)
noncomputable def bx_scF (N : Nat) (f : Nat × rx_E × rx_E) : Bool := decide (f.2.1.1 < N) && (decide (f.2.2.1 < N) && decide (f.1 < 1000000))
section BXT2
variable {s : State} {D : bx_D} {cl : List vw_C} {A : Nat → Prop} {xa : Nat → Nat} {nL : Nat} {H0 H : Heap} {locs : List Loc} {ls : Array Slot} {r : Nat → Int} {ad : Nat → Nat} {σ : List rx_E} {z y : rx_Z}
theorem bx_sub_okS {dmf : Nat → Int → Bool} {S : Nat → Int → Int} (hdm : dmf = D.2.1.2.2.2) (hsat : rx_sat z.1 r) (hFc : rx_facts z.2.1 r) (hfs : rx_fsc z.1.length z.2.1) (hkn : bx_kns D ad xa S z.1.length z.2.2.1 r) (hl : lv_has ls nL (rx_lvs r ad xa (rx_zlv z))) (h : bx_sub dmf σ z y = true) :
    rx_sat y.1 (bx_val σ r) ∧ rx_facts y.2.1 (bx_val σ r) ∧ rx_fsc y.1.length y.2.1 ∧ bx_kns D ad xa S y.1.length y.2.2.1 (bx_val σ r) ∧ lv_has ls nL (rx_lvs (bx_val σ r) ad xa (rx_zlv y)) ∧ (∀ q ∈ rx_zlv y, rx_sc y.1.length y.2.2.1.length q.2) ∧ (∀ v ∈ rx_zst y, rx_sc y.1.length y.2.2.1.length v) ∧ rx_zpc z = rx_zpc y ∧ z.2.2.2.1 = y.2.2.2.1 ∧ z.2.2.2.2.1 = y.2.2.2.2.1 ∧ (rx_zst z).map (rx_iv r ad xa) = (rx_zst y).map (rx_iv (bx_val σ r) ad xa) ∧ σ.length = y.1.length := by
  subst hdm
  unfold bx_sub at h
  simp only [Bool.and_eq_true, decide_eq_true_eq, beq_iff_eq, List.all_eq_true] at h
  obtain ⟨h0, h8, hI, hF, hH, hc, hs, hpc, hlv, hst, hsS⟩ := h
  obtain ⟨i1, i2⟩ := bx_subI_ok hsat hI
  have hz : bx_val σ r 0 = 0 := by
    split at h0
    · show rx_ev r (0, 0) = 0
      exact rx_ev0 hsat 0
    · exact absurd h0 Bool.false_ne_true
  have hsat2 : rx_sat y.1 (bx_val σ r) := ⟨hz, h8, fun n lo hi hn => by
    obtain ⟨e, g1, g2, g3⟩ := i2 n lo hi hn
    unfold bx_val
    rw [g1]
    exact ⟨g2, g3⟩⟩
  have hF0 : ∀ f ∈ y.2.1, rx_fact (bx_val σ r) f ∧ f.2.1.1 < y.1.length ∧ f.2.2.1 < y.1.length ∧ (1000000 ≤ f.1 → (bx_de (f.1 / 1000000)).1 < y.1.length) := fun f hf => by
    have h1 := hF f hf
    unfold bx_subF at h1
    rw [Bool.and_eq_true, Bool.and_eq_true, decide_eq_true_eq, decide_eq_true_eq] at h1
    obtain ⟨k1, k2, k3⟩ := h1
    have ea : rx_ev r (bx_sE σ f.2.1) = rx_ev (bx_val σ r) f.2.1 := bx_sE_ok (by rw [← i1]; exact k1)
    have eb : rx_ev r (bx_sE σ f.2.2) = rx_ev (bx_val σ r) f.2.2 := bx_sE_ok (by rw [← i1]; exact k2)
    obtain ⟨fk, fa, fb⟩ := f
    dsimp only at k1 k2 k3 ea eb
    split at k3
    · rename_i hk
      refine ⟨?_, k1, k2, fun q => absurd q (by show ¬ 1000000 ≤ fk; omega)⟩
      have h2 := bx_ent_ok hsat hFc hfs k3
      rcases (show fk = 0 ∨ fk = 1 by omega) with rfl | rfl
      · have h2 : rx_ev r (bx_sE σ fa) < rx_ev r (bx_sE σ fb) := h2
        rw [ea, eb] at h2
        exact h2
      · have h2 : rx_ev r (bx_sE σ fa) ≤ rx_ev r (bx_sE σ fb) := h2
        rw [ea, eb] at h2
        exact h2
    · rw [Bool.and_eq_true, Bool.and_eq_true, decide_eq_true_eq, decide_eq_true_eq] at k3
      obtain ⟨k3, k4, k5⟩ := k3
      refine ⟨?_, k1, k2, fun q => absurd q (by show ¬ 1000000 ≤ fk; omega)⟩
      obtain ⟨g, hg, k6⟩ := List.any_eq_true.mp k5
      rw [Bool.and_eq_true, Bool.and_eq_true, beq_iff_eq] at k6
      obtain ⟨k6, k7, k8⟩ := k6
      have h2 := hFc g hg
      obtain ⟨gk, ga, gb⟩ := g
      dsimp only at k6 k7 k8
      subst k6
      obtain ⟨j, rfl⟩ : ∃ j, gk = j + 4 := ⟨gk - 4, by omega⟩
      have h2 : if j < 999996 then rx_ev r ga = (j : Int) * rx_ev r gb else rx_ev r ga = rx_ev r gb + rx_ev r (bx_de ((j + 4) / 1000000)) := h2
      rw [if_pos (by omega), bx_eqE_ok hsat k7, bx_eqE_ok hsat k8, ea, eb] at h2
      exact rx_fact_mul (by omega) h2
  have hkn2 : bx_kns D ad xa S y.1.length y.2.2.1 (bx_val σ r) := fun q hq => by
    obtain ⟨g1, g2, g3⟩ := hH q hq
    refine ⟨g1, bx_scV_ok g2, ?_⟩
    have hev : rx_ev r (bx_sE σ q.1.1) = rx_ev (bx_val σ r) q.1.1 := bx_sE_ok (by rw [← i1]; exact g1)
    unfold bx_subH at g3
    unfold bx_kn
    split
    · rename_i hcc
      rw [if_pos hcc] at g3
      rw [← hev]
      simp only [Bool.or_eq_true, Bool.and_eq_true, beq_iff_eq] at g3
      rcases g3 with ⟨k1, k2⟩ | ⟨k1, k2⟩
      · have e1 : rx_ev r (bx_sE σ q.1.1) = (bx_sE σ q.1.1).2 := by
          unfold rx_ev
          rw [k1, hsat.1, Int.zero_add]
        rw [e1]
        exact k2
      · have e1 : rx_ev r (bx_sE σ q.1.1) = r (bx_sE σ q.1.1).1 := by
          unfold rx_ev
          rw [k1, Int.add_zero]
        rw [e1]
        exact (bx_fd_ok hkn k2).1
    · rename_i hcc
      rw [if_neg hcc] at g3
      split at g3
      · rename_i v hck
        obtain ⟨p1, p2, p3⟩ := hkn _ (bx_ck_ok hck)
        unfold bx_kn at p3
        rw [if_neg hcc] at p3
        have p3 : 0 ≤ rx_ev r (bx_sE σ q.1.1) ∧ (rx_ev r (bx_sE σ q.1.1)).toNat < D.2.1.2.1 ∧ ∃ tc : Nat, bx_tcs (D.2.1.1 (rx_ev r (bx_sE σ q.1.1)).toNat) q.1.2 = some tc ∧ rx_iv r ad xa v = bx_fv ad tc (S (rx_ev r (bx_sE σ q.1.1)).toNat (q.1.2 : Int)) := p3
        rw [hev] at p3
        obtain ⟨a1, a2, tc, a4, a5⟩ := p3
        refine ⟨a1, a2, tc, a4, ?_⟩
        rw [← a5]
        exact (bx_eqV_ok hsat (by rw [← i1]; exact g2) g3).symm
      · exact absurd g3 Bool.false_ne_true
  refine ⟨hsat2, fun f hf => ?_, fun f hf => ?_, hkn2, ?_, fun q hq => bx_scV_ok (hlv q hq).1, fun v hv => bx_scV_ok (hst v hv), hpc, hc, hs, ?_, i1.symm⟩
  · exact (hF0 f hf).1
  · exact (hF0 f hf).2
  · refine ⟨hl.1, hl.2.1, fun q hq => ?_⟩
    obtain ⟨q0, hq0, rfl⟩ := List.mem_map.mp hq
    obtain ⟨g1, g2⟩ := hlv q0 hq0
    split at g2
    · rename_i v hv
      have := rx_lv_get hl hv
      rw [bx_eqV_ok hsat (by rw [← i1]; exact g1) g2] at this
      exact this
    · exact absurd g2 Bool.false_ne_true
  · exact bx_subS_ok hsat (List.all_eq_true.mpr fun v hv => by rw [← i1]; exact hst v hv) hsS
end BXT2
section BXHL
variable {B : bx_B} {G NW : List Jvm.Cond} {AO : List String} {cl : List vw_C} {T : rx_Tb} {nm : Nat → String} {xh : rx_Xh} {l : Launch} {Dg : va_G} {L : bx_L} {A : Nat → Prop} {xa : Nat → Nat} {PX : State → Prop} {X : (Nat → Int → Int) → Prop}
variable {p : Program} {e : Env} {R : Room} {s : State} {m : MethodId} {args : Array Value} {below : List Frame} {meth : Method} {c : Code} {Q : State → Prop} {H0 : Heap} {ad : Nat → Nat}
noncomputable def bx_Seg (L : bx_L) (z : rx_Z) (I : rx_I) (F : rx_F) (ht : List rx_C) (S0 S : Nat → Int → Int) (r r_p : Nat → Int) : Prop :=
  bx_Inv L S0 ∧ bx_Inv L S ∧ rx_sat z.1 r ∧ rx_same z.1.length r r_p ∧ rx_sat I r_p ∧ rx_facts F r_p ∧ bx_chain L I.length r_p S0 ht S
noncomputable def bx_obC (L : bx_L) (X : (Nat → Int → Int) → Prop) (Sin : Nat → Int → Int) (ms : List (Nat × Nat)) (inv : Nat → bx_SP) (mea : Nat → (Nat → Int → Int) → (Nat → Int) → Nat) (i : Nat) (z : rx_Z) (o : bx_HO) : Prop :=
  ∀ (S0 S : Nat → Int → Int) (r r_p : Nat → Int), inv i S0 r → X S0 → bx_same L (bx_mdl ms) Sin S0 → bx_same L (bx_mdl ms) S0 S → bx_Seg L z o.1.1 o.1.2.1 o.1.2.2.1 S0 S r r_p →
    (∀ b ∈ o.2.1, b.2.1 ≤ r_p b.1 ∧ r_p b.1 ≤ b.2.2) ∧ (∀ f ∈ o.2.2.1, rx_fact r_p f) ∧ inv o.2.2.2.2 S (bx_val o.2.2.2.1 r_p) ∧ mea o.2.2.2.2 S (bx_val o.2.2.2.1 r_p) < mea i S0 r
noncomputable def bx_obE (L : bx_L) (X : (Nat → Int → Int) → Prop) (Sin : Nat → Int → Int) (ms : List (Nat × Nat)) (inv : Nat → bx_SP) (PS : (Nat → Int → Int) → Option Int → Prop) (i : Nat) (z : rx_Z) (E : rx_End × List (Nat × Int × Int)) : Prop :=
  ∀ (S0 S : Nat → Int → Int) (r r_p : Nat → Int), inv i S0 r → X S0 → bx_same L (bx_mdl ms) Sin S0 → bx_same L (bx_mdl ms) S0 S → bx_Seg L z E.1.1 E.1.2.1 E.1.2.2.1 S0 S r r_p → (∀ b ∈ E.2, b.2.1 ≤ r_p b.1 ∧ r_p b.1 ≤ b.2.2) ∧ PS S (E.1.2.2.2.map (bx_num r_p))
noncomputable def bx_en1 (nar : List (Nat × Int × Int)) (E : rx_End) : rx_End := match E with
  | (I, F, ht, v) => (bx_nar nar I, F, ht, v)
noncomputable def bx_qO (a b : Option rx_V) : Bool := match a, b with
  | none, none => true
  | some x, some y => bx_qV x y
  | _, _ => false
noncomputable def bx_qE (a b : rx_End) : Bool := bx_qO a.2.2.2 b.2.2.2 && (bx_qL bx_qB a.1 b.1 && (bx_qL bx_qF a.2.1 b.2.1 && bx_qL bx_qC a.2.2.1 b.2.2.1))
theorem bx_qE_ok {a b : rx_End} (h : bx_qE a b = true) : a = b := by
  obtain ⟨a1, a2, a3, a4⟩ := a
  obtain ⟨b1, b2, b3, b4⟩ := b
  have h : (bx_qO a4 b4 && (bx_qL bx_qB a1 b1 && (bx_qL bx_qF a2 b2 && bx_qL bx_qC a3 b3))) = true := h
  simp only [Bool.and_eq_true] at h
  obtain ⟨h1, h2, h3, h4⟩ := h
  have e4 : a4 = b4 := by
    unfold bx_qO at h1
    split at h1
    · rfl
    · rw [bx_qV_ok h1]
    · exact absurd h1 Bool.false_ne_true
  rw [bx_qL_ok bx_qB_ok h2, bx_qL_ok bx_qF_ok h3, bx_qL_ok bx_qC_ok h4, e4]
noncomputable def bx_okH (dmf : Nat → Int → Bool) (ret : Option (Nat × bx_T)) (tab : List bx_HE) (q : bx_HE) (run : (rx_Z → Bool) → rx_Z → Option (List rx_End)) : Bool :=
  bx_noE q.1.2.2.1 && (q.2.1.all (fun o => o.2.2.1.all (bx_scF o.1.1.length) && (match tab[o.2.2.2.2]? with
    | some q_p => bx_sub dmf o.2.2.2.1 (bx_zn o.2.1 o.2.2.1 o.1) q_p.1
    | none => false)) && (match run (bx_cutH q.2.1) q.1 with
    | some Es => Es.all (fun E => q.2.2.any (fun E_p => bx_qE E E_p.1 && bx_fE dmf ret (bx_en1 E_p.2 E_p.1)))
    | none => false))
noncomputable def bx_RetH (p : Program) (l : Launch) (e : Env) (R : Room) (s : State) (m : MethodId) (args : Array Value) (below : List Frame) (meth : Method) (c : Code) (Q : State → Prop) (Dg : va_G) (L : bx_L) (X : (Nat → Int → Int) → Prop) (cl : List vw_C) (A : Nat → Prop) (xa : Nat → Nat) (H0 : Heap) (ad : Nat → Nat) (M : rx_Mt) (dmf : Nat → Int → Bool) (ret : Option (Nat × bx_T)) (Sin : Nat → Int → Int) (ms : List (Nat × Nat)) (PS : (Nat → Int → Int) → Option Int → Prop) : Prop :=
  ∀ (E : rx_End) (S : Nat → Int → Int) (r_p : Nat → Int) (H_p : Heap) (locs_p : List Loc) (ls_p : Array Slot) (pc_p k_p n_p : Nat), bx_fE dmf ret E = true → rx_sat E.1 r_p → bx_kns (Dg, L, Sin, bx_mdH ms) ad xa S E.1.length E.2.2.1 r_p → bx_W0 (Dg, L, Sin, bx_mdH ms) cl A s ad S H_p → bx_same L (bx_mdl ms) Sin S → PS S (E.2.2.2.map (bx_num r_p)) → va_S A H0 H_p locs_p → k_p ≤ M.2.2.2.2.2.2.1 → n_p ≤ M.2.2.2.2.2.2.2 → rx_rti M pc_p r_p ad xa E.2.2.2 →
    W p l e R s m args below meth c H_p locs_p k_p n_p Q (F0 m pc_p ls_p (E.2.2.2.toList.map (rx_iv r_p ad xa)))
theorem bx_mdH_same {ms : List (Nat × Nat)} {S S_p : Nat → Int → Int} (hcl : ∀ p i : Nat, (bx_mc (L.1 p) i).1 ≠ 999999) (h : bx_same L (bx_mdH ms) S S_p) : bx_same L (bx_mdl ms) S S_p := fun p i hp hi hm => h p i hp hi (by
  unfold bx_mdH
  rw [hm, Bool.or_false, Bool.and_eq_false_iff]
  exact Or.inl (by
    refine Bool.eq_false_iff.mpr fun h2 => ?_
    exact hcl p i (Nat.eq_of_beq_eq_true h2)))
theorem bx_same_tr {md : Nat → Nat → Bool} {S1 S2 S3 : Nat → Int → Int} (h1 : bx_same L md S1 S2) (h2 : bx_same L md S2 S3) : bx_same L md S1 S3 := fun p i hp hi hm => (h2 p i hp hi hm).trans (h1 p i hp hi hm)
noncomputable def bx_Step (p : Program) (l : Launch) (e : Env) (R : Room) (s : State) (m : MethodId) (args : Array Value) (below : List Frame) (meth : Method) (c : Code) (Q : State → Prop) (Dg : va_G) (L : bx_L) (X : (Nat → Int → Int) → Prop) (cl : List vw_C) (A : Nat → Prop) (xa : Nat → Nat) (H0 : Heap) (ad : Nat → Nat) (M : rx_Mt) (tab : List bx_HE) (inv : Nat → bx_SP) (mea : Nat → (Nat → Int → Int) → (Nat → Int) → Nat) (Sin : Nat → Int → Int) (ms : List (Nat × Nat)) (i : Nat) (q : bx_HE) : Prop :=
  ∀ (S : Nat → Int → Int) (r : Nat → Int) (H : Heap) (locs : List Loc) (ls : Array Slot), inv i S r → X S → bx_same L (bx_mdl ms) Sin S → rx_R (Dg, L, S, bx_mdH ms) cl A s xa M.2.2.1 H0 q.1 r ad H locs ls →
    (∀ (i_p : Nat) (q_p : bx_HE) (S_p : Nat → Int → Int) (r_p : Nat → Int) (H_p : Heap) (locs_p : List Loc) (ls_p : Array Slot), tab[i_p]? = some q_p → inv i_p S_p r_p → mea i_p S_p r_p < mea i S r → X S_p → bx_same L (bx_mdl ms) Sin S_p → rx_R (Dg, L, S_p, bx_mdH ms) cl A s xa M.2.2.1 H0 q_p.1 r_p ad H_p locs_p ls_p →
      W p l e R s m args below meth c H_p locs_p q_p.1.2.2.2.1 q_p.1.2.2.2.2.1 Q (F0 m (rx_zpc q_p.1) ls_p ((rx_zst q_p.1).map (rx_iv r_p ad xa)))) →
    W p l e R s m args below meth c H locs q.1.2.2.2.1 q.1.2.2.2.2.1 Q (F0 m (rx_zpc q.1) ls ((rx_zst q.1).map (rx_iv r ad xa)))
theorem bx_loopS {M : rx_Mt} {tab : List bx_HE} {inv : Nat → bx_SP} {mea : Nat → (Nat → Int → Int) → (Nat → Int) → Nat} {Sin : Nat → Int → Int} {ms : List (Nat × Nat)}
    (hst : ∀ (i : Nat) (q : bx_HE), tab[i]? = some q → bx_Step p l e R s m args below meth c Q Dg L X cl A xa H0 ad M tab inv mea Sin ms i q) :
    ∀ (n i : Nat) (q : bx_HE), tab[i]? = some q → ∀ (S : Nat → Int → Int) (r : Nat → Int) (H : Heap) (locs : List Loc) (ls : Array Slot), mea i S r = n → inv i S r → X S → bx_same L (bx_mdl ms) Sin S → rx_R (Dg, L, S, bx_mdH ms) cl A s xa M.2.2.1 H0 q.1 r ad H locs ls →
      W p l e R s m args below meth c H locs q.1.2.2.2.1 q.1.2.2.2.2.1 Q (F0 m (rx_zpc q.1) ls ((rx_zst q.1).map (rx_iv r ad xa))) := by
  intro n
  induction n using Nat.strongRecOn with
  | _ n ih =>
    intro i q hq S r H locs ls hen hinv hXS hsin hR
    refine hst i q hq S r H locs ls hinv hXS hsin hR fun i_p q_p S_p r_p H_p locs_p ls_p h1 h2 h3 h4 h5 h6 => ?_
    exact ih _ (by rw [← hen]; exact h3) i_p q_p h1 S_p r_p H_p locs_p ls_p rfl h2 h4 h5 h6
theorem bx_runStep {dmf : Nat → Int → Bool} {f d : Nat} {M : rx_Mt} {ret : Option (Nat × bx_T)} {tab : List bx_HE} {inv : Nat → bx_SP} {mea : Nat → (Nat → Int → Int) → (Nat → Int) → Nat} {Sin : Nat → Int → Int} {ms : List (Nat × Nat)} {PS : (Nat → Int → Int) → Option Int → Prop}
    (hcl : ∀ p i : Nat, (bx_mc (L.1 p) i).1 ≠ 999999) (hdm : dmf = L.2.2.2) (hX : ∀ S S_p : Nat → Int → Int, X S → bx_same L (bx_mdl ms) S S_p → X S_p)
    (hg : ∀ (S : Nat → Int → Int), X S → ∀ cut, rx_Goal f d cut B xh T G NW AO cl nm A xa PX l (Dg, L, S, bx_mdH ms) ad) (hn : nm M.1 = M.2.2.2.2.1.cls)
    {i : Nat} {q : bx_HE} (hnoA : ∀ q ∈ tab, bx_noE q.1.2.2.1 = true) (hok : bx_okH dmf ret tab q (fun cut z => rx_exec B xh T cut f d M z) = true)
    (hC : ∀ o ∈ q.2.1, bx_obC L X Sin ms inv mea i q.1 o) (hE : ∀ E ∈ q.2.2, bx_obE L X Sin ms inv PS i q.1 E)
    (hF : rx_Fr G NW AO PX p s m args meth c M) (hA : ∀ q, H0.size ≤ q → A q) (hH0 : H0 = s.heap) (hmc : M.2.2.2.2.2.2.1 ≤ R.cells) (hms : M.2.2.2.2.2.2.2 ≤ R.slots) (hd : d ≤ R.frames) (hdl : d * 40 ≤ R.locals)
    (hret : bx_RetH p l e R s m args below meth c Q Dg L X cl A xa H0 ad M dmf ret Sin ms PS) : bx_Step p l e R s m args below meth c Q Dg L X cl A xa H0 ad M tab inv mea Sin ms i q := by
  intro S r H locs ls hinv hXS hsin hR K
  have hlg : bx_lg (bx_mdH ms) = true := rfl
  have hk := hok
  unfold bx_okH at hk
  rw [Bool.and_eq_true, Bool.and_eq_true] at hk
  obtain ⟨hnoE, houts, hrun⟩ := hk
  split at hrun
  case h_2 => exact absurd hrun Bool.false_ne_true
  rename_i Es hex
  obtain ⟨Sq, ⟨ws0, tys0, hInv0, hrest0⟩, -, ⟨-, hch0⟩, -⟩ := id hR.2.2.2.1
  have eSq : Sq = S := by
    have h1 := hch0 hlg
    have h2 : ∀ (ht : List rx_C) (S_p : Nat → Int → Int), bx_noE ht = true → bx_chain L q.1.1.length r S ht S_p → S_p = S := by
      intro ht
      induction ht with
      | nil => exact fun S_p _ h => h
      | cons a t iht =>
        intro S_p hne hc
        have hne : (!(bx_isE a) && bx_noE t) = true := hne
        rw [Bool.and_eq_true, Bool.not_eq_true'] at hne
        rcases bx_chain_cases hc with ⟨-, h3⟩ | ⟨h3, -⟩
        · exact iht S_p hne.2 h3
        · rw [hne.1] at h3
          exact absurd h3 Bool.false_ne_true
    exact h2 _ _ hnoE h1
  rw [eSq] at hInv0
  have hInv0 : bx_Inv L S := hInv0
  refine hg S hXS _ M q.1 Es hex hn (N0 := q.1.1.length) (r0 := r) hF hA hH0 hmc hms hd hdl (Nat.le_refl _) rx_same.rf ?_ hR ?_
  · intro z_p hcut r_p H_p locs_p ls_p hN hr hR_p
    obtain ⟨⟨⟨zI, zF, zh, zc, zs, zp, zl, zt⟩, onar, onf, oσ, oi⟩, ho, hz⟩ := List.any_eq_true.mp hcut
    have hz := bx_qZ_ok hz
    subst hz
    obtain ⟨S_p, hW_p, hS_p, ⟨hsm_p, hch_p⟩, hkn_p⟩ := id hR_p.2.2.2.1
    have hInv_p : bx_Inv L S_p := by
      obtain ⟨ws, tys, hI, -⟩ := hW_p
      exact hI
    have hsame : bx_same L (bx_mdl ms) S S_p := bx_mdH_same hcl hsm_p
    obtain ⟨b1, b2, b3, b4⟩ := hC _ ho S S_p r r_p hinv hXS hsin hsame ⟨hInv0, hInv_p, hR.1, hr, hR_p.1, hR_p.2.1, hch_p hlg⟩
    have ho2 := List.all_eq_true.mp houts _ ho
    rw [Bool.and_eq_true] at ho2
    obtain ⟨hsf, hsub⟩ := ho2
    split at hsub
    case h_2 => exact absurd hsub Bool.false_ne_true
    rename_i q_p hq_p
    obtain ⟨n1, n2⟩ := bx_nar_ok hR_p.1 b1
    have := bx_sub_okS (D := (Dg, L, S_p, bx_mdH ms)) (xa := xa) (nL := M.2.2.1) (ls := ls_p) (r := r_p) (ad := ad) (S := S_p) hdm (z := bx_zn onar onf (zI, zF, zh, zc, zs, zp, zl, zt)) (y := q_p.1) n1 (fun f hf => by
      rcases List.mem_append.mp hf with h | h
      · exact b2 f h
      · exact hR_p.2.1 f h) (fun f hf => by
      show f.2.1.1 < (bx_nar onar zI).length ∧ f.2.2.1 < (bx_nar onar zI).length ∧ (1000000 ≤ f.1 → (bx_de (f.1 / 1000000)).1 < (bx_nar onar zI).length)
      rw [n2]
      rcases List.mem_append.mp hf with h | h
      · have h5 := List.all_eq_true.mp hsf f h
        unfold bx_scF at h5
        rw [Bool.and_eq_true, Bool.and_eq_true, decide_eq_true_eq, decide_eq_true_eq, decide_eq_true_eq] at h5
        exact ⟨h5.1, h5.2.1, fun q => absurd q (by omega)⟩
      · exact hR_p.2.2.1 f h) (by
      show bx_kns _ ad xa S_p (bx_nar onar zI).length zh r_p
      rw [n2]
      exact hkn_p) (show lv_has ls_p M.2.2.1 (rx_lvs r_p ad xa zl) from rx_lvh hR_p) hsub
    obtain ⟨g1, g2, g3, g4, g5, g6, g7, g8, g9, g10, g11, g12⟩ := this
    have := K oi q_p S_p (bx_val oσ r_p) H_p locs_p ls_p hq_p b3 b4 (hX S S_p hXS hsame) (bx_same_tr hsin hsame) ⟨g1, g2, g3, ⟨S_p, bx_W0_md hW_p, hS_p, ⟨fun _ _ _ _ _ => rfl, fun _ => bx_noE_chain (hnoA q_p (List.mem_of_getElem? hq_p))⟩, g4⟩, g5, g6, g7⟩
    have e8 : zp = rx_zpc q_p.1 := g8
    have e9 : zc = q_p.1.2.2.2.1 := g9
    have e10 : zs = q_p.1.2.2.2.2.1 := g10
    have e11 : zt.map (rx_iv r_p ad xa) = _ := g11
    show W p l e R s m args below meth c H_p locs_p zc zs Q (F0 m zp ls_p (zt.map (rx_iv r_p ad xa)))
    rw [e8, e9, e10, e11]
    exact this
  · intro E hEm r_p H_p locs_p ls_p pc_p k_p n_p hN hr hRE hS hk2 hn2 hrt
    have h7 := List.all_eq_true.mp hrun E hEm
    obtain ⟨E_p, hE_p, h8⟩ := List.any_eq_true.mp h7
    rw [Bool.and_eq_true] at h8
    have e0 := bx_qE_ok h8.1
    subst e0
    obtain ⟨b1, b2, b3, ⟨S_p, hW_p, ⟨hsm_p, hch_p⟩, hkn_p⟩, b5⟩ := hRE
    have hInv_p : bx_Inv L S_p := by
      obtain ⟨ws, tys, hI, -⟩ := hW_p
      exact hI
    have hsame : bx_same L (bx_mdl ms) S S_p := bx_mdH_same hcl hsm_p
    obtain ⟨o1, o2⟩ := hE E_p hE_p S S_p r r_p hinv hXS hsin hsame ⟨hInv0, hInv_p, hR.1, hr, b1, b2, hch_p hlg⟩
    obtain ⟨n1, n2⟩ := bx_nar_ok b1 o1
    have hf := h8.2
    obtain ⟨⟨eI, eF, eh, ev⟩, enar⟩ := E_p
    refine hret (bx_en1 enar (eI, eF, eh, ev)) S_p r_p H_p locs_p ls_p pc_p k_p n_p hf n1 ?_ (bx_W0_md hW_p) (bx_same_tr hsin hsame) o2 hS hk2 hn2 hrt
    show bx_kns _ ad xa S_p (bx_nar enar eI).length eh r_p
    rw [n2]
    exact hkn_p
noncomputable def bx_argIs (L : bx_L) : List (Nat × bx_T) → List Int → Prop
  | [], ws => ws = []
  | a :: as, ws => ∃ (w : Int) (wt : List Int), ws = w :: wt ∧ bx_okR L 0 a.2 w ∧ bx_argIs L as wt
noncomputable def bx_avs (ad : Nat → Nat) : List (Nat × bx_T) → List Int → List Value
  | a :: as, w :: ws => bx_fv ad a.1 w :: bx_avs ad as ws
  | _, _ => []
theorem bx_argOK_is : ∀ {args : List (Nat × bx_T)} {vs : List Value}, bx_argOK L ad args vs → ∃ ws, bx_argIs L args ws ∧ vs = bx_avs ad args ws
  | [], vs, h => by
    have h : vs = [] := h
    exact ⟨[], rfl, h⟩
  | a :: args, vs, h => by
    obtain ⟨w, vt, h1, h2, h3⟩ := h
    obtain ⟨ws, h4, h5⟩ := bx_argOK_is h3
    exact ⟨w :: ws, ⟨w, ws, rfl, h2, h4⟩, by rw [h1, h5]; rfl⟩
theorem bx_args_okN {D : bx_D} {V : bx_V} {np : Nat} {S : Nat → Int → Int} (hV : bx_VOK D.2.1 V) (hnp : np = D.2.1.2.1) : ∀ {args : List (Nat × bx_T)} {ws : List Int} {I I2 : rx_I} {ht ht2 : List rx_C} {as : List rx_V} {r : Nat → Int}, bx_argIs D.2.1 args ws → rx_sat I r → bx_kns D ad xa S I.length ht r → bx_ent0 np args I ht = some (I2, ht2, as) →
    ∃ r_p : Nat → Int, rx_same I.length r r_p ∧ rx_sat I2 r_p ∧ I.length ≤ I2.length ∧ bx_kns D ad xa S I2.length ht2 r_p ∧ as.map (rx_iv r_p ad xa) = bx_avs ad args ws ∧ as.map (bx_num r_p) = ws ∧ ∀ v ∈ as, rx_sc I2.length 0 v
  | [], ws, I, I2, ht, ht2, as, r, ha, hs, hk, h => by
    have ha : ws = [] := ha
    rw [bx_ent0] at h
    cases h
    subst ha
    exact ⟨r, rx_same.rf, hs, Nat.le_refl _, hk, rfl, rfl, fun v hv => absurd hv List.not_mem_nil⟩
  | a :: args, ws, I, I2, ht, ht2, as, r, ha, hs, hk, h => by
    obtain ⟨w, wt, hws, hok, hrest⟩ := ha
    subst hws
    rw [bx_ent0] at h
    split at h
    · cases h
    · rename_i q hq
      split at h
      · cases h
      · rename_i q2 hq2
        cases h
        obtain ⟨Iq, hq_p, vq⟩ := q
        obtain ⟨I3, ht3, as3⟩ := q2
        obtain ⟨r1, a1, a2, a3, a4, a5, a6, a7, -⟩ := bx_nv_ok (w := w) hV hnp hs (rx_pos hs) hk hq (by rw [hs.1]; exact hok)
        obtain ⟨r2, b1, b2, b3, b4, b5, b7, b6⟩ := bx_args_okN hV hnp hrest a2 a5 hq2
        refine ⟨r2, a1.tr b1 a3, b2, Nat.le_trans a3 b3, b4, ?_, ?_, fun v hv => ?_⟩
        · rw [List.map_cons, b5, rx_iv_ext (M := 0) (ad_p := ad) a4 b1 rx_sameA.rf, a6]
          rfl
        · rw [List.map_cons, b7, bx_num_ext a4 b1, a7]
        · rcases List.mem_cons.mp hv with h | h
          · subst h
            exact rx_sc.mono a4 b3 trivial
          · exact b6 v h
noncomputable def bx_PostP (Dg : va_G) (L : bx_L) (X : (Nat → Int → Int) → Prop) (cl : List vw_C) (A : Nat → Prop) (ad : Nat → Nat) (S0 : Nat → Int → Int) (ret : Option (Nat × bx_T)) (ms : List (Nat × Nat)) (PS : (Nat → Int → Int) → Option Int → Prop) : Array Value → State → Outcome → State → Prop := fun _ st oc t =>
  (∃ (S_p : Nat → Int → Int) (rv : Option Value), oc = .returned rv ∧ bx_retOK L ad ret rv ∧ bx_W0 (Dg, L, S0, fun _ _ => false) cl A t ad S_p t.heap ∧ bx_same L (bx_mdl ms) S0 S_p ∧ X S_p ∧ ∃ w : Option Int, PS S_p w ∧ ∀ a, ret = some a → ∃ x, w = some x ∧ rv = some (bx_fv ad a.1 x) ∧ bx_okR L 0 a.2 x) ∧ va_F A st t
noncomputable def bx_ConP (G NW : List Jvm.Cond) (AO : List String) (PX : State → Prop) (Dg : va_G) (L : bx_L) (X : (Nat → Int → Int) → Prop) (cl : List vw_C) (A : Nat → Prop) (ad : Nat → Nat) (l : Launch) (M : rx_Mt) (ct : bx_Ct) (P : (Nat → Int → Int) → List Int → Prop) (PS : (Nat → Int → Int) → List Int → (Nat → Int → Int) → Option Int → Prop) : Prop :=
  ∀ (S0 : Nat → Int → Int) (ws : List Int), X S0 → bx_argIs L ct.1 ws → bx_preOK L ad S0 ct.2.2.2.2 → P S0 ws → ∀ Qc : Array Value → State → Outcome → State → Prop, (∀ x st oc t, bx_PostP Dg L X cl A ad S0 ct.2.1 ct.2.2.1 (PS S0 ws) x st oc t → Qc x st oc t) →
    Met l M.2.2.2.2.1 (Jvm.Cond.code M.2.2.2.2.1 M.2.1 M.2.2.1 M.2.2.2.1 :: G) { frames := ct.2.2.2.1, cells := M.2.2.2.2.2.2.1, slots := M.2.2.2.2.2.2.2, locals := ct.2.2.2.1 * 40 } (va_Pc (bx_avs ad ct.1 ws) (bx_PreC NW AO PX Dg L cl A ad S0)) Qc M.2.2.2.2.2.2.1 M.2.2.2.2.2.2.2 A
noncomputable def bx_chkH (B : bx_B) (M : rx_Mt) (ct : bx_Ct) (tab : List bx_HE) (run : (bx_HE → Bool) × ((rx_Z → Bool) → rx_Z → Option (List rx_End))) : Bool := match bx_ent0 B.2.1 ct.1 bx_I0 [] with
  | some (I0, ht0, as) => match bx_ent1 B ct.2.2.2.2 I0 ht0 with
    | some (I, ht) => decide (rx_cats as ≤ M.2.2.1) && ((match tab[0]? with
      | some q => bx_qZ q.1 (I, [], ht, 0, 0, 0, rx_largs 0 as, [])
      | none => false) && tab.all (fun q => bx_noE q.1.2.2.1 && (run.1 q || bx_okH B.2.2.1 ct.2.1 tab q run.2)))
    | none => false
  | none => false
theorem bx_conH {f j : Nat} {M : rx_Mt} {ct : bx_Ct} {tab : List bx_HE} {P : (Nat → Int → Int) → List Int → Prop} {PS : (Nat → Int → Int) → List Int → (Nat → Int → Int) → Option Int → Prop} (hGG : ∀ w ∈ G, goodWord w = true) (hPX : rx_PXOK NW A PX) (t1 : rx_frOK G NW cl nm T) (t4 : rx_kcOK G nm T) (tm : rx_mlOK G nm T) (tc : rx_cjOK G NW cl nm T) (hV : bx_VOK L B.1) (hnp : B.2.1 = L.2.1) (hdm : B.2.2.1 = L.2.2.2) (hmd : B.2.2.2 = bx_mdH ct.2.2.1)
    (hcl : ∀ p i : Nat, (bx_mc (L.1 p) i).1 ≠ 999999) (hX : ∀ S S_p : Nat → Int → Int, X S → bx_same L (bx_mdl ct.2.2.1) S S_p → X S_p)
    (hxh : ∀ S0, X S0 → rx_xhOK xh G NW AO cl nm A xa PX l (Dg, L, S0, bx_mdH ct.2.2.1) ad ct.2.2.2.1) (hj : T.2.2.2.2.2 j = some M) {us : bx_HE → Bool} (hc : bx_chkH B M ct tab (us, fun cut z => rx_exec B xh T cut f ct.2.2.2.1 M z) = true)
    (inv : (Nat → Int → Int) → List Int → Nat → bx_SP) (mea : Nat → (Nat → Int → Int) → (Nat → Int) → Nat)
    (h0 : ∀ (S0 : Nat → Int → Int) (ws : List Int) (r : Nat → Int) (I0 I : rx_I) (ht0 ht : List rx_C) (as : List rx_V), bx_ent0 B.2.1 ct.1 bx_I0 [] = some (I0, ht0, as) → bx_ent1 B ct.2.2.2.2 I0 ht0 = some (I, ht) → X S0 → bx_Inv L S0 → P S0 ws → rx_sat I r → as.map (bx_num r) = ws → inv S0 ws 0 S0 r)
    (hU : ∀ (S0 : Nat → Int → Int) (ws : List Int), P S0 ws → ∀ (i : Nat) (q : bx_HE), tab[i]? = some q → us q = true → ∀ {p : Program} {e : Env} {R : Room} {s : State} {m : MethodId} {args : Array Value} {below : List Frame} {meth : Method} {c : Code} {Q : State → Prop} {H0 : Heap}, rx_Fr G NW AO PX p s m args meth c M → (∀ q, H0.size ≤ q → A q) → H0 = s.heap → M.2.2.2.2.2.2.1 ≤ R.cells → M.2.2.2.2.2.2.2 ≤ R.slots → ct.2.2.2.1 ≤ R.frames → ct.2.2.2.1 * 40 ≤ R.locals → bx_Step p l e R s m args below meth c Q Dg L X cl A xa H0 ad M tab (inv S0 ws) mea S0 ct.2.2.1 i q)
    (hC : ∀ (S0 : Nat → Int → Int) (ws : List Int), P S0 ws → ∀ (i : Nat) (q : bx_HE), tab[i]? = some q → us q = false → ∀ o ∈ q.2.1, bx_obC L X S0 ct.2.2.1 (inv S0 ws) mea i q.1 o)
    (hE : ∀ (S0 : Nat → Int → Int) (ws : List Int), P S0 ws → ∀ (i : Nat) (q : bx_HE), tab[i]? = some q → us q = false → ∀ E ∈ q.2.2, bx_obE L X S0 ct.2.2.1 (inv S0 ws) (PS S0 ws) i q.1 E) : bx_ConP G NW AO PX Dg L X cl A ad l M ct P PS := by
  intro S0 ws hX0 hvs hpr hP Qc hQc
  obtain ⟨m1, m2, m3, m4, m5, m6⟩ := tm j M hj
  unfold bx_chkH at hc
  split at hc
  · rename_i I0 ht0 as hent
    split at hc
    case h_2 => exact absurd hc Bool.false_ne_true
    rename_i I ht hen1
    rw [Bool.and_eq_true, Bool.and_eq_true, decide_eq_true_eq] at hc
    obtain ⟨hcats, hq0, hall⟩ := hc
    split at hq0
    case h_2 => exact absurd hq0 Bool.false_ne_true
    rename_i q0 hq0t
    have hq0 := bx_qZ_ok hq0
    refine Met.ofW (cc := M.2.1) (maxL := M.2.2.1) (ret := M.2.2.2.1) m3 rfl ?_
    intro p e s m args below meth c s₁ B0 hml hv
    obtain ⟨hargs, hnw, hao, hpx, hW0, hA⟩ := hv
    subst hargs
    have hx := B0.exec
    have hb := B0.bytes
    have hr := B0.returns
    have hts0 := atoms_spec (ws := Jvm.Cond.code M.2.2.2.2.1 M.2.1 M.2.2.1 M.2.2.2.1 :: G) B0.pre
    have hts : ∀ w ∈ G, w.before (bx_avs ad ct.1 ws).toArray s = true := fun w hw => hts0 w (List.mem_cons_of_mem _ hw)
    have hown : s.vm.findClass M.2.2.2.2.1.cls = some m.cls := findClass_of_methodNamed B0.named
    have hlocks := B0.notSynchronized
    have hname : meth.name = M.2.2.2.2.1.name := (name_of_methodNamed B0.named B0.method).1
    have hF : rx_Fr G NW AO PX p s m (bx_avs ad ct.1 ws).toArray meth c M := ⟨hx, hb, hr, hml, hown, hlocks, hts, hnw, hao, hpx, fun hi => hname.trans (m6 hi)⟩
    obtain ⟨r0, -, a20, a30, a40, a50, a70, a60⟩ := bx_args_okN (D := (Dg, L, S0, bx_mdH ct.2.2.1)) (ad := ad) (xa := xa) (S := S0) hV hnp hvs bx_I0_sat (fun q hq => absurd hq List.not_mem_nil) hent
    obtain ⟨r, b1, a2, b3, a4⟩ := bx_pre_ok (D := (Dg, L, S0, bx_mdH ct.2.2.1)) (ad := ad) (xa := xa) (S := S0) hV hnp hpr a20 a40 hen1
    have a5 : as.map (rx_iv r ad xa) = bx_avs ad ct.1 ws := by
      rw [rx_st_ext (M := 0) (fun v hv => a60 v hv) b1 rx_sameA.rf, a50]
    have a7 : as.map (bx_num r) = ws := by
      rw [← a70]
      exact List.map_congr_left fun v hv => bx_num_ext (a60 v hv) b1
    have a6 : ∀ v ∈ as, rx_sc I.length 0 v := fun v hv => rx_sc.mono (a60 v hv) b3 trivial
    have hl := lv_entry (bx_avs ad ct.1 ws) (n := M.2.2.1) (by rw [← a5, rx_cats_sl]; exact hcats)
    rw [lg_entry_eq]
    generalize (lg_sl (bx_avs ad ct.1 ws) ++ List.replicate (M.2.2.1 - (lg_sl (bx_avs ad ct.1 ws)).length) Slot.unset).toArray = ls at hl ⊢
    rw [← a5, ← rx_largs_lv] at hl
    have hInv0 : bx_Inv L S0 := by
      obtain ⟨ws_p, tys, hI, -⟩ := hW0
      exact hI
    have hnoA : ∀ q ∈ tab, bx_noE q.1.2.2.1 = true := fun q hq => by
      have h6 := List.all_eq_true.mp hall q hq
      rw [Bool.and_eq_true] at h6
      exact h6.1
    have hne : bx_noE ht = true := by
      have h6 := hnoA q0 (List.mem_of_getElem? hq0t)
      rw [hq0] at h6
      exact h6
    have hR0 : rx_R (Dg, L, S0, bx_mdH ct.2.2.1) cl A s xa M.2.2.1 s.heap (I, [], ht, 0, 0, 0, rx_largs 0 as, []) r ad s.heap [] ls :=
      ⟨a2, fun f h => absurd h List.not_mem_nil, fun f h => absurd h List.not_mem_nil, ⟨S0, bx_W0_md hW0, va_S.rf, ⟨fun _ _ _ _ _ => rfl, fun _ => bx_noE_chain hne⟩, a4⟩, hl, fun q hq => rx_sc.any (a6 _ (rx_largs_mem hq)), fun v hv => absurd hv List.not_mem_nil⟩
    suffices hret : bx_RetH p l e { frames := ct.2.2.2.1, cells := M.2.2.2.2.2.2.1, slots := M.2.2.2.2.2.2.2, locals := ct.2.2.2.1 * 40 } s m (bx_avs ad ct.1 ws).toArray below meth c (MQ below Qc (bx_avs ad ct.1 ws).toArray s M.2.2.2.2.2.2.1 M.2.2.2.2.2.2.2 A) Dg L X cl A xa s.heap ad M B.2.2.1 ct.2.1 S0 ct.2.2.1 (PS S0 ws) by
      have main := bx_loopS (R := { frames := ct.2.2.2.1, cells := M.2.2.2.2.2.2.1, slots := M.2.2.2.2.2.2.2, locals := ct.2.2.2.1 * 40 }) (p := p) (e := e) (below := below) (m := m) (meth := meth) (c := c) (args := (bx_avs ad ct.1 ws).toArray) (s := s) (H0 := s.heap) (inv := inv S0 ws) (mea := mea) (Sin := S0) (ms := ct.2.2.1) (tab := tab) (Dg := Dg) (L := L) (X := X) (cl := cl) (A := A) (xa := xa) (ad := ad) (M := M) (l := l) (Q := MQ below Qc (bx_avs ad ct.1 ws).toArray s M.2.2.2.2.2.2.1 M.2.2.2.2.2.2.2 A) (fun i q hq => by
        cases hus : us q with
        | true => exact hU S0 ws hP i q hq hus hF hA rfl (Nat.le_refl _) (Nat.le_refl _) (Nat.le_refl _) (Nat.le_refl _)
        | false =>
          refine bx_runStep hcl hdm hX (fun S hXS cut => rx_goal (D := (Dg, L, S, bx_mdH ct.2.2.1)) hGG hPX t1 t4 tm tc hV hnp hdm hmd (hxh S hXS) f ct.2.2.2.1 (Nat.le_refl _) cut) m1 hnoA ?_ (hC S0 ws hP i q hq hus) (hE S0 ws hP i q hq hus) hF hA rfl (Nat.le_refl _) (Nat.le_refl _) (Nat.le_refl _) (Nat.le_refl _) hret
          have h6 := List.all_eq_true.mp hall q (List.mem_of_getElem? hq)
          rw [Bool.and_eq_true, Bool.or_eq_true] at h6
          rcases h6.2 with h7 | h7
          · rw [show us q = true from h7] at hus
            cases hus
          · exact h7) _ 0 q0 hq0t S0 r s.heap [] ls rfl (h0 S0 ws r I0 I ht0 ht as hent hen1 hX0 hInv0 hP a2 a7) hX0 (fun _ _ _ _ _ => rfl) (by rw [hq0]; exact hR0)
      rw [hq0] at main
      exact main
    · intro E S_p r_p H_p locs_p ls_p pc_p k_p n_p hfE hsat hkn hW_p hsame hPS hS hk hn hrt
      have hpost : ∀ t : State, t.heap = H_p → s.WarmedH t.vm → Qc (bx_avs ad ct.1 ws).toArray s (.returned (E.2.2.2.map (rx_iv r_p ad xa))) t := by
        intro t ht_p hWm
        refine hQc _ _ _ _ ?_
        have hret : bx_retOK L ad ct.2.1 (E.2.2.2.map (rx_iv r_p ad xa)) ∧ ∀ a, ct.2.1 = some a → ∃ x, E.2.2.2.map (bx_num r_p) = some x ∧ E.2.2.2.map (rx_iv r_p ad xa) = some (bx_fv ad a.1 x) ∧ bx_okR L 0 a.2 x := by
          unfold bx_fE at hfE
          unfold bx_retOK
          split at hfE
          · rename_i h1 h2
            rw [h1, h2]
            exact ⟨rfl, fun a ha => by cases ha⟩
          · rename_i a v h1 h2
            rw [hdm] at hfE
            obtain ⟨n1, n2, -⟩ := bx_fits_ok (D := (Dg, L, S0, bx_mdH ct.2.2.1)) (ad := ad) (xa := xa) hsat hkn hfE
            rw [h1, h2]
            rw [hsat.1] at n2
            exact ⟨⟨_, congrArg some n1, n2⟩, fun a_p ha => by
              cases ha
              exact ⟨_, rfl, congrArg some n1, n2⟩⟩
          · exact absurd hfE Bool.false_ne_true
        refine ⟨⟨S_p, _, rfl, hret.1, ?_, hsame, hX _ _ hX0 hsame, _, hPS, hret.2⟩, hS.F ht_p⟩
        rw [ht_p]
        exact bx_W0_md (hW_p.moved hWm.alike)
      exact W.widen hk hn (bx_leave hx hb hr hlocks hrt hpost hS.2.2)
  · exact absurd hc Bool.false_ne_true
theorem bx_ConP.con {M : rx_Mt} {ct : bx_Ct} {P : (Nat → Int → Int) → List Int → Prop} {PS : (Nat → Int → Int) → List Int → (Nat → Int → Int) → Option Int → Prop} (h : bx_ConP G NW AO PX Dg L X cl A ad l M ct P PS) (hP : ∀ S0 ws, P S0 ws) : bx_Con G NW AO PX Dg L X cl A ad l M ct := by
  intro S0 vs hX0 hvs hpr
  obtain ⟨ws, h1, h2⟩ := bx_argOK_is hvs
  rw [h2]
  refine h S0 ws hX0 h1 hpr (hP _ _) _ fun x st oc t hq => ?_
  obtain ⟨⟨S_p, rv, g1, g2, g3, g4, g5, -⟩, g6⟩ := hq
  exact ⟨⟨S_p, rv, g1, g2, g3, g4, g5⟩, g6⟩
end BXHL
end
section
section BXST
variable {p : Program} {l : Launch} {e : Env} {R : Room} {s : State} {m : MethodId} {args : Array Value} {below : List Frame} {meth : Method} {c : Code} {Q : State → Prop}
variable {Dg : va_G} {L : bx_L} {cl : List vw_C} {A : Nat → Prop} {xa : Nat → Nat} {nL : Nat} {H0 H : Heap} {locs : List Loc} {ls : Array Slot} {r : Nat → Int} {ad : Nat → Nat}
variable {cc : ByteArray} {z : rx_Z} {V : bx_V} {S : Nat → Int → Int} {md : Nat → Nat → Bool}
theorem bx_noE_eq {N : Nat} {S_p : Nat → Int → Int} : ∀ {ht : List rx_C}, bx_noE ht = true → bx_chain L N r S ht S_p → S_p = S
  | [], _, h => h
  | a :: t, hne, hc => by
    have hne : (!(bx_isE a) && bx_noE t) = true := hne
    rw [Bool.and_eq_true, Bool.not_eq_true'] at hne
    rcases bx_chain_cases hc with ⟨-, h3⟩ | ⟨h3, -⟩
    · exact bx_noE_eq hne.2 h3
    · rw [hne.1] at h3
      exact absurd h3 Bool.false_ne_true
theorem bx_noE_filter {g : rx_C → Bool} : ∀ {ht : List rx_C}, bx_noE ht = true → bx_noE (ht.filter g) = true := fun {ht} h => List.all_eq_true.mpr fun q hq => List.all_eq_true.mp h q (List.mem_filter.mp hq).1
theorem bx_storeI {dmf : Nat → Int → Bool} {v : rx_V} {ix e0 : rx_E} {t : List rx_V} {d : Option Nat} {n g : Nat} {lo hi : Int} {ty : bx_T} (hexec : p.tables.exec = Jvm.exec) (hb : c.code = cc) (hlg : bx_lg md = true) (hV : bx_VOK L V) (hdm : dmf = L.2.2.2) (hdg : decode cc (rx_zpc z) = .ok (.iastore, 1)) (hne : bx_noE z.2.2.1 = true)
    (hR : rx_R (Dg, L, S, md) cl A s xa nL H0 z r ad H locs ls) (hst : rx_zst z = v :: .inr (0, ix) :: .inr (3, e0) :: t) (hd : bx_dm z.2.2.1 e0.1 = some d) (hk : V.1 d e0.2 = some (.inr (0, n, g))) (hbi : rx_bi z.1 ix = some (lo, hi)) (c3 : 0 ≤ lo) (c4 : hi < (n : Int)) (c5 : bx_fits dmf z.1 z.2.2.1 0 e0.1 ty v = true)
    (hokT : bx_okT L (L.2.2.1 (rx_ev r e0).toNat (rx_ev r ix)) (bx_num r v))
    (K : ∀ (H1 : Heap) (locs1 : List Loc), rx_R (Dg, L, bx_up S (rx_ev r e0).toNat (rx_ev r ix) (bx_num r v), md) cl A s xa nL H0 (rx_nxh (z.2.2.1.filter (bx_keepR V z.2.2.1 lo hi g)) z 1 t) r ad H1 locs1 ls → W p l e R s m args below meth c H1 locs1 z.2.2.2.1 z.2.2.2.2.1 Q (F0 m (rx_zpc z + 1) ls (t.map (rx_iv r ad xa)))) :
    W p l e R s m args below meth c H locs z.2.2.2.1 z.2.2.2.2.1 Q (F0 m (rx_zpc z) ls ((rx_zst z).map (rx_iv r ad xa))) := by
  subst hdm
  obtain ⟨S_p, ⟨ws, tys, hInv, hK, hP, hD, hl, hcell⟩, hS, ⟨-, hch⟩, hkn⟩ := id hR.2.2.2.1
  have eS : S_p = S := bx_noE_eq hne (hch hlg)
  subst eS
  have hInv : bx_Inv L S_p := hInv
  have hin := bx_dm_ok hR.1 hkn hd
  obtain ⟨p1, p2, p3⟩ := hV.1 d e0.2 _ hk _ hin
  have p2 : (rx_ev r e0).toNat < L.2.1 := p2
  have p3 : L.1 (rx_ev r e0).toNat = .inr (0, n, g) := p3
  obtain ⟨c0, hw, hce⟩ := hcell _ p2
  have hce : bx_cell cl tys ad (L.1 (rx_ev r e0).toNat) (S_p (rx_ev r e0).toNat) c0 := hce
  rw [p3] at hce
  obtain ⟨cA, t0, x, hc0, htys, hsh, hel⟩ := hce
  subst hc0
  obtain ⟨i1, i2, i3, i4, i5⟩ := rx_ixIn hR.1 hbi c3 c4
  have hsc := rx_stsc hR
  rw [hst] at hsc ⊢
  have hvsc : rx_sc z.1.length 0 v := rx_sc.any (hsc _ List.mem_cons_self)
  have hjn : (rx_ev r ix).toNat < n := by omega
  have hjz : (((rx_ev r ix).toNat : Nat) : Int) = rx_ev r ix := by omega
  obtain ⟨n1, n2, n3⟩ := bx_fits_ok (D := (Dg, L, S_p, md)) (ad := ad) (xa := xa) hR.1 hkn c5
  have hwlen : (rx_ev r e0).toNat < ws.length := by
    rw [hl]
    exact p2
  have hkf : bx_kns (Dg, L, S_p, md) ad xa (bx_up S_p (rx_ev r e0).toNat (rx_ev r ix) (bx_num r v)) z.1.length (z.2.2.1.filter (bx_keepR V z.2.2.1 lo hi g)) r := fun y hy => bx_keepR_ok (D := (Dg, L, S_p, md)) hV hR.1 hkn p3 i3 i4 hy
  obtain ⟨f, hf⟩ := hsh
  subst hf
  obtain ⟨y, hy⟩ := bx_fv_int n1
  show W p l e R s m args below meth c H locs z.2.2.2.1 z.2.2.2.2.1 Q (F0 m (rx_zpc z) ls (rx_iv r ad xa v :: .int (Int32.ofInt (rx_ev r ix)) :: .ref (ad (rx_ev r e0).toNat) :: t.map (rx_iv r ad xa)))
  rw [hy]
  refine va_iast hexec hb hK hP hD hS (rx_ev r e0).toNat t0 hw htys i1 hdg fun H1 locs1 hP1 hD1 hS1 => ?_
  refine K H1 locs1 ⟨hR.1, hR.2.1, hR.2.2.1, ⟨bx_up S_p (rx_ev r e0).toNat (rx_ev r ix) (bx_num r v), ⟨_, tys, ?_, hK, hP1, hD1, by rw [List.length_set]; exact hl, ?_⟩, hS1, ⟨fun _ _ _ _ _ => rfl, fun _ => bx_noE_chain (bx_noE_filter hne)⟩, hkf⟩, hR.2.2.2.2.1, fun q hq => rx_sc.any (hR.2.2.2.2.2.1 q hq), fun w hw => rx_sc.any (hsc w (List.mem_cons_of_mem _ (List.mem_cons_of_mem _ (List.mem_cons_of_mem _ hw))))⟩
  · intro p_p j_p hp_p hj_p
    by_cases hpj : p_p = (rx_ev r e0).toNat ∧ (j_p : Int) = rx_ev r ix
    · obtain ⟨h1, h2⟩ := hpj
      subst h1
      rw [h2, bx_up_at]
      exact hokT
    · rw [bx_up_ne hpj]
      exact hInv p_p j_p hp_p hj_p
  · intro p_p hp_p
    by_cases hpe : p_p = (rx_ev r e0).toNat
    · subst hpe
      refine ⟨_, List.getElem?_set_self hwlen, ?_⟩
      show bx_cell cl tys ad (L.1 (rx_ev r e0).toNat) _ _
      rw [p3]
      refine ⟨cA, t0, _, rfl, htys, ⟨_, rfl⟩, fun j hj => ?_⟩
      show Value.int (upd f (Int32.ofInt (rx_ev r ix)).toNatClampNeg y j) = _
      rw [i2]
      unfold upd
      by_cases hji : j = (rx_ev r ix).toNat
      · rw [if_pos hji, hji, hjz, bx_up_at, ← n1, hy]
      · rw [if_neg hji, bx_up_ne (fun h => hji (by omega))]
        exact hel j hj
    · obtain ⟨e1, h1, h2⟩ := hcell p_p hp_p
      refine ⟨e1, by
        rw [List.getElem?_set_ne (Ne.symm hpe)]
        exact h1, ?_⟩
      show bx_cell cl tys ad (L.1 p_p) (bx_up S_p (rx_ev r e0).toNat (rx_ev r ix) (bx_num r v) p_p) e1
      rw [bx_up_row hpe]
      exact h2
end BXST
end
section
section BXCP
variable {X : (Nat → Int → Int) → Prop} {B : bx_B} {G NW : List Jvm.Cond} {AO : List String} {cl : List vw_C} {T : rx_Tb} {nm : Nat → String} {l : Launch} {Dg : va_G} {L : bx_L} {A : Nat → Prop} {xa : Nat → Nat} {PX : State → Prop} {ad : Nat → Nat}
variable {p : Program} {e : Env} {R : Room} {s : State} {m : MethodId} {args : Array Value} {below : List Frame} {meth : Method} {c : Code} {Q : State → Prop} {H0 H : Heap} {locs : List Loc} {ls : Array Slot} {r : Nat → Int}
theorem bx_fitL_is {D : bx_D} {S : Nat → Int → Int} {I : rx_I} {ht : List rx_C} (hs : rx_sat I r) (hk : bx_kns D ad xa S I.length ht r) : ∀ {args : List (Nat × bx_T)} {as : List rx_V}, bx_fitL D.2.1.2.2.2 I ht args as = true → bx_argIs D.2.1 args (as.map (bx_num r)) ∧ as.map (rx_iv r ad xa) = bx_avs ad args (as.map (bx_num r))
  | [], [], _ => ⟨rfl, rfl⟩
  | [], _ :: _, h => absurd (show false = true from h) Bool.false_ne_true
  | _ :: _, [], h => absurd (show false = true from h) Bool.false_ne_true
  | a :: args, v :: vs, h => by
    rw [bx_fitL, Bool.and_eq_true] at h
    obtain ⟨n1, n2, -⟩ := bx_fits_ok (ad := ad) (xa := xa) hs hk h.1
    rw [hs.1] at n2
    obtain ⟨k1, k2⟩ := bx_fitL_is hs hk h.2
    refine ⟨⟨_, _, rfl, n2, k1⟩, ?_⟩
    rw [List.map_cons, n1, k2]
    rfl
theorem bx_callP {z : rx_Z} {M M_p : rx_Mt} {i : Instr} {len d : Nat} {q : rx_J} {as t : List rx_V} {ct : bx_Ct} {S : Nat → Int → Int} {md : Nat → Nat → Bool} {P : (Nat → Int → Int) → List Int → Prop} {PS : (Nat → Int → Int) → List Int → (Nat → Int → Int) → Option Int → Prop}
    (hGG : ∀ w ∈ G, goodWord w = true) (hPX : rx_PXOK NW A PX) (tm : rx_mlOK G nm T) (tc : rx_cjOK G NW cl nm T) (hV : bx_VOK L B.1) (hnp : B.2.1 = L.2.1) (hdm : B.2.2.1 = L.2.2.2) (hlg : bx_lg md = true) (hne : bx_noE z.2.2.1 = true) (hXS : X S)
    (hF : rx_Fr G NW AO PX p s m args meth c M) (hn : nm M.1 = M.2.2.2.2.1.cls) (hA : ∀ q, H0.size ≤ q → A q) (hH0 : H0 = s.heap) (hmc : M.2.2.2.2.2.2.1 ≤ R.cells) (hms : M.2.2.2.2.2.2.2 ≤ R.slots) (hd : d ≤ R.frames) (hdl : d * 40 ≤ R.locals) (hdg : decode M.2.1 (rx_zpc z) = .ok (i, len))
    (hR : rx_R (Dg, L, S, md) cl A s xa M.2.2.1 H0 z r ad H locs ls) (hprep : rx_prep B T M i len z = some (q, M_p, as, t)) (g1 : ct.2.2.2.1 + 1 ≤ d) (g2 : bx_fitP B z ct as = true)
    (hC : bx_ConP G NW AO PX Dg L X cl A ad l M_p ct P PS) (hP : P S (as.map (bx_num r)))
    (K : ∀ (S_p : Nat → Int → Int) (w : Option Int) (H1 : Heap) (locs1 : List Loc), PS S (as.map (bx_num r)) S_p w → X S_p → bx_Inv L S_p → bx_same L (bx_mdl ct.2.2.1) S S_p →
      (ct.2.1 = none → rx_R (Dg, L, S_p, md) cl A s xa M.2.2.1 H0 (bx_bk M_p z.1 (z.2.2.1.filter (bx_keepC B.1 z.2.2.1 ct.2.2.1)) z t) r ad H1 locs1 ls → W p l e R s m args below meth c H1 locs1 (z.2.2.2.1 + M_p.2.2.2.2.2.2.1) (z.2.2.2.2.1 + M_p.2.2.2.2.2.2.2) Q (F0 m (rx_zpc z + 3) ls (t.map (rx_iv r ad xa)))) ∧
      (∀ (a : Nat × bx_T) (I2 : rx_I) (ht2 : List rx_C) (v2 : rx_V), ct.2.1 = some a → bx_nv a.1 0 B.2.1 a.2 z.1 (z.2.2.1.filter (bx_keepC B.1 z.2.2.1 ct.2.2.1)) = some (I2, ht2, v2) → ∀ r_p : Nat → Int, rx_same z.1.length r r_p → w = some (bx_num r_p v2) → rx_R (Dg, L, S_p, md) cl A s xa M.2.2.1 H0 (bx_bk M_p I2 ht2 z (v2 :: t)) r_p ad H1 locs1 ls →
        W p l e R s m args below meth c H1 locs1 (z.2.2.2.1 + M_p.2.2.2.2.2.2.1) (z.2.2.2.2.1 + M_p.2.2.2.2.2.2.2) Q (F0 m (rx_zpc z + 3) ls ((v2 :: t).map (rx_iv r_p ad xa)))))
    (hnv : ∀ a, ct.2.1 = some a → ∃ y, bx_nv a.1 0 B.2.1 a.2 z.1 (z.2.2.1.filter (bx_keepC B.1 z.2.2.1 ct.2.2.1)) = some y ∧ bx_noE y.2.1 = true) :
    W p l e R s m args below meth c H locs z.2.2.2.1 z.2.2.2.2.1 Q (F0 m (rx_zpc z) ls ((rx_zst z).map (rx_iv r ad xa))) := by
  unfold bx_fitP at g2
  rw [Bool.and_eq_true] at g2
  obtain ⟨g2, g2p⟩ := g2
  obtain ⟨has, htsc, hcats, hlen3, hM_p⟩ := rx_prep_sc hR hprep
  subst hlen3
  obtain ⟨S1, hW, hS, ⟨-, hch⟩, hkn⟩ := id hR.2.2.2.1
  have eS : S1 = S := bx_noE_eq hne (hch hlg)
  subst eS
  rw [hdm] at g2
  obtain ⟨hargs, hav⟩ := bx_fitL_is (D := (Dg, L, S1, md)) (ad := ad) (xa := xa) hR.1 hkn g2
  have hprC := bx_preC_ok (D := (Dg, L, S1, md)) (ad := ad) (xa := xa) hV hdm hR.1 hkn (by obtain ⟨ws, tys, hI, -⟩ := hW; exact hI) g2p
  have hMet := hC S1 _ hXS hargs hprC hP _ (fun _ _ _ _ h => h)
  rw [← hav] at hMet
  have hblind : FrameBlind (va_Pc (as.map (rx_iv r ad xa)) (bx_PreC NW AO PX Dg L cl A ad S1)) := fun a U g mk h => by
    obtain ⟨h0, h1, h2, h3, h4, h5⟩ := h
    exact ⟨h0, fun w hw => va_Nw.same (u := U) (U := U.calling g mk a) (hPX.1 w hw).1 rfl (h1 w hw), fun C hC => va_AO.moved (Vm.Alike.refl U.vm) (h2 C hC), hPX.2.1 U g mk a h3, h4.moved (U := U.calling g mk a) (Vm.Alike.refl U.vm), h5⟩
  have hpre : ∀ U : State, U.heap = H → s.WarmedH U.vm → bx_PreC NW AO PX Dg L cl A ad S1 U := fun U hU hWm => by
    obtain ⟨k1, k2, k3, -, k5⟩ := rx_pre_at hPX hF hA hH0 hR U hU hWm
    refine ⟨k1, k2, k3, ?_, k5⟩
    rw [hU]
    exact bx_W0_md (hW.moved hWm.alike)
  have hrun := bx_call (l := l) (D := (Dg, L, S1, md)) (below := below) (e := e) hGG tm tc hV hn hF hmc hms (Nat.le_trans g1 hd) (by have := Nat.mul_le_mul_right 40 g1; omega) hR hdg hprep hMet hblind hpre
  refine rx_call hrun hS (fun _ _ _ h => h.2) fun v st tt H1 locs1 ht hst hvm hpost hS1 => ?_
  obtain ⟨⟨S_p, rv, hov, hret, hW_p, hsame, hX_p, w, hPS, hw⟩, -⟩ := hpost
  cases hov
  rw [ht] at hW_p
  have hW1 : bx_W0 (Dg, L, S_p, md) cl A s ad S_p H1 := bx_W0_md (hW_p.moved hvm.symm)
  have hInv_p : bx_Inv L S_p := by
    obtain ⟨ws, tys, hI, -⟩ := hW1
    exact hI
  have hkn1 := bx_keepC_ok (D := (Dg, L, S1, md)) (B := B) hV hR.1 hkn hsame
  have hkn1 : bx_kns (Dg, L, S_p, md) ad xa S_p z.1.length (z.2.2.1.filter (bx_keepC B.1 z.2.2.1 ct.2.2.1)) r := hkn1
  have hne1 : bx_noE (z.2.2.1.filter (bx_keepC B.1 z.2.2.1 ct.2.2.1)) = true := bx_noE_filter hne
  obtain ⟨K1, K2⟩ := K S_p w H1 locs1 hPS hX_p hInv_p hsame
  cases hr0 : ct.2.1 with
  | none =>
    rw [hr0] at hret
    have hret : v = none := hret
    subst hret
    exact K1 hr0 ⟨hR.1, hR.2.1, hR.2.2.1, ⟨S_p, hW1, hS1, ⟨fun _ _ _ _ _ => rfl, fun _ => bx_noE_chain hne1⟩, hkn1⟩, hR.2.2.2.2.1, fun y hy => rx_sc.any (hR.2.2.2.2.2.1 y hy), fun y hy => rx_sc.any (htsc y hy)⟩
  | some a =>
    obtain ⟨x, hx1, hx2, hx3⟩ := hw a hr0
    subst hx2
    obtain ⟨⟨I2, ht2, v2⟩, hnv1, hne2⟩ := hnv a hr0
    obtain ⟨r_p, q1, q2, q3, q4, q5, q6, q7, -⟩ := bx_nv_ok (D := (Dg, L, S_p, md)) (S := S_p) (w := x) hV hnp hR.1 (rx_pos hR.1) hkn1 hnv1 (by rw [hR.1.1]; exact hx3)
    have := K2 a I2 ht2 v2 hr0 hnv1 r_p q1 (by rw [hx1, q7]) ⟨q2, rx_facts_ext hR.2.1 hR.2.2.1 q1, hR.2.2.1.mono q3, ⟨S_p, hW1, hS1, ⟨fun _ _ _ _ _ => rfl, fun _ => bx_noE_chain hne2⟩, q5⟩, by
      have hl := rx_lvh hR
      show lv_has ls M.2.2.1 (rx_lvs r_p ad xa (rx_zlv z))
      rw [rx_lvs_ext (rx_lvsc hR) q1 rx_sameA.rf]
      exact hl, fun y hy => rx_sc.any (rx_sc.mono (M_p := 0) (rx_lvsc hR y hy) q3 trivial), fun y hy => by
      rcases List.mem_cons.mp hy with h | h
      · subst h; exact rx_sc.any q4
      · exact rx_sc.any (rx_sc.mono (M_p := 0) (htsc y h) q3 trivial)⟩
    rw [List.map_cons, q6, rx_st_ext htsc q1 rx_sameA.rf] at this
    exact this
end BXCP
end
