/-! CONTRACTS HOLD, by program -/
theorem rxH0_0 : rx_ok 0 rxM0 rxC0_0 rxT0_0 := by
  show _ = true
  decide +kernel
theorem rxH0_1 : rx_ok 0 rxM0 rxC0_1 rxT0_1 := by
  show _ = true
  decide +kernel
theorem rxH0_2 : rx_ok 0 rxM0 rxC0_2 rxT0_2 := by
  show _ = true
  decide +kernel
theorem rxH0_3 : rx_ok 0 rxM0 rxC0_3 rxT0_3 := by
  show _ = true
  decide +kernel
theorem rxH0_4 : rx_ok 0 rxM0 rxC0_4 rxT0_4 := by
  show _ = true
  decide +kernel
theorem rxH0_5 : rx_ok 0 rxM0 rxC0_5 rxT0_5 := by
  show _ = true
  decide +kernel
theorem rxH0_6 : rx_ok 0 rxM0 rxC0_6 rxT0_6 := by
  show _ = true
  decide +kernel
theorem rxH0_7 : rx_ok 0 rxM0 rxC0_7 rxT0_7 := by
  show _ = true
  decide +kernel
theorem rxH0_8 : rx_ok 0 rxM0 rxC0_8 rxT0_8 := by
  show _ = true
  decide +kernel
theorem rxH237 : rx_ok 237 rxM237 rxC237 [] := by
  show _ = true
  decide +kernel
theorem rxH214 : rx_ok 214 rxM214 rxC214 [] := by
  show _ = true
  decide +kernel
theorem rxH243 : rx_ok 243 rxM243 rxC243 [] := by
  show _ = true
  decide +kernel
theorem rxH244 : rx_ok 244 rxM244 rxC244 [] := by
  show _ = true
  decide +kernel
theorem rxH238 : rx_ok 238 rxM238 rxC238 [] := by
  show _ = true
  decide +kernel
theorem rxH215 : rx_ok 215 rxM215 rxC215 [] := by
  show _ = true
  decide +kernel
theorem rxH149 : rx_ok 149 rxM149 rxC149 [] := by
  show _ = true
  decide +kernel
theorem rxH150 : rx_ok 150 rxM150 rxC150 [] := by
  show _ = true
  decide +kernel
theorem rxH94 : rx_ok 94 rxM94 rxC94 [] := by
  show _ = true
  decide +kernel
theorem rxH251 : rx_ok 251 rxM251 rxC251 [] := by
  show _ = true
  decide +kernel
theorem rxH155 : rx_ok 155 rxM155 rxC155 [] := by
  show _ = true
  decide +kernel
theorem rxH195 : rx_ok 195 rxM195 rxC195 [] := by
  show _ = true
  decide +kernel
theorem rxH87 : rx_ok 87 rxM87 rxC87 [] := by
  show _ = true
  decide +kernel
theorem rxH233 : rx_ok 233 rxM233 rxC233 [] := by
  show _ = true
  decide +kernel
theorem rxH196 : rx_ok 196 rxM196 rxC196 [] := by
  show _ = true
  decide +kernel
theorem rxH292 : rx_ok 292 rxM292 rxC292 [] := by
  show _ = true
  decide +kernel
theorem rxH252 : rx_ok 252 rxM252 rxC252 [] := by
  show _ = true
  decide +kernel
theorem rxH91 : rx_ok 91 rxM91 rxC91 [] := by
  show _ = true
  decide +kernel
theorem rxH90 : rx_ok 90 rxM90 rxC90 [] := by
  show _ = true
  decide +kernel
theorem rxH42 : rx_ok 42 rxM42 rxC42 [] := by
  show _ = true
  decide +kernel
theorem rxH234 : rx_ok 234 rxM234 rxC234 [] := by
  show _ = true
  decide +kernel
theorem rxH101 : rx_ok 101 rxM101 rxC101 [] := by
  show _ = true
  decide +kernel
theorem rxH121 : rx_ok 121 rxM121 rxC121 [] := by
  show _ = true
  decide +kernel
theorem rxH231 : rx_ok 231 rxM231 rxC231 [] := by
  show _ = true
  decide +kernel
theorem rxH4 : rx_ok 4 rxM4 rxC4 [] := by
  show _ = true
  decide +kernel
theorem rxH182 : rx_ok 182 rxM182 rxC182 [] := by
  show _ = true
  decide +kernel
theorem rxH161 : rx_ok 161 rxM161 rxC161 [] := by
  show _ = true
  decide +kernel
theorem rxH291 : rx_ok 291 rxM291 rxC291 [] := by
  show _ = true
  decide +kernel
theorem rxH200 : rx_ok 200 rxM200 rxC200 [] := by
  show _ = true
  decide +kernel
theorem rxH208 : rx_ok 208 rxM208 rxC208 [] := by
  show _ = true
  decide +kernel
theorem rxH111 : rx_ok 111 rxM111 rxC111 [] := by
  show _ = true
  decide +kernel
theorem rxH178 : rx_ok 178 rxM178 rxC178 [] := by
  show _ = true
  decide +kernel
theorem rxH290 : rx_ok 290 rxM290 rxC290 [] := by
  show _ = true
  decide +kernel
theorem rxH210 : rx_ok 210 rxM210 rxC210 [] := by
  show _ = true
  decide +kernel
theorem rxH52 : rx_ok 52 rxM52 rxC52 [] := by
  show _ = true
  decide +kernel
theorem rxH202 : rx_ok 202 rxM202 rxC202 [] := by
  show _ = true
  decide +kernel
theorem rxH123 : rx_ok 123 rxM123 rxC123 [] := by
  show _ = true
  decide +kernel
theorem rxH201 : rx_ok 201 rxM201 rxC201 [] := by
  show _ = true
  decide +kernel
theorem rxH241 : rx_ok 241 rxM241 rxC241 [] := by
  show _ = true
  decide +kernel
theorem rxH170 : rx_ok 170 rxM170 rxC170 [] := by
  show _ = true
  decide +kernel
theorem rxH197 : rx_ok 197 rxM197 rxC197 [] := by
  show _ = true
  decide +kernel
theorem rxH60 : rx_ok 60 rxM60 rxC60 [] := by
  show _ = true
  decide +kernel
theorem rxH172 : rx_ok 172 rxM172 rxC172 [] := by
  show _ = true
  decide +kernel
theorem rxH176 : rx_ok 176 rxM176 rxC176 [] := by
  show _ = true
  decide +kernel
theorem rxH92 : rx_ok 92 rxM92 rxC92 [] := by
  show _ = true
  decide +kernel
theorem rxH190 : rx_ok 190 rxM190 rxC190 [] := by
  show _ = true
  decide +kernel
