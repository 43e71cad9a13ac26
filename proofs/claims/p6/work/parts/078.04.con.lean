/-! CONTRACTS HOLD, by program -/
theorem rxH55_11 : rx_ok 55 rxM55 rxC55_11 rxT55_11 := by
  show _ = true
  decide +kernel
theorem rxH55_10 : rx_ok 55 rxM55 rxC55_10 rxT55_10 := by
  show _ = true
  decide +kernel
theorem rxH55_9 : rx_ok 55 rxM55 rxC55_9 rxT55_9 := by
  show _ = true
  decide +kernel
theorem rxH55_8 : rx_ok 55 rxM55 rxC55_8 rxT55_8 := by
  show _ = true
  decide +kernel
theorem rxH55_7 : rx_ok 55 rxM55 rxC55_7 rxT55_7 := by
  show _ = true
  decide +kernel
theorem rxH55_6 : rx_ok 55 rxM55 rxC55_6 rxT55_6 := by
  show _ = true
  decide +kernel
theorem rxH55_5 : rx_ok 55 rxM55 rxC55_5 rxT55_5 := by
  show _ = true
  decide +kernel
theorem rxH55_4 : rx_ok 55 rxM55 rxC55_4 rxT55_4 := by
  show _ = true
  decide +kernel
theorem rxH55_3 : rx_ok 55 rxM55 rxC55_3 rxT55_3 := by
  show _ = true
  decide +kernel
theorem rxH55_2 : rx_ok 55 rxM55 rxC55_2 rxT55_2 := by
  show _ = true
  decide +kernel
theorem rxH55_1 : rx_ok 55 rxM55 rxC55_1 rxT55_1 := by
  show _ = true
  decide +kernel
theorem rxH55_0 : rx_ok 55 rxM55 rxC55_0 rxT55_0 := by
  show _ = true
  decide +kernel
theorem rxH309 : rx_ok 309 rxM309 rxC309 rxT309 := by
  show _ = true
  decide +kernel
theorem rxH65 : rx_ok 65 rxM65 rxC65 [] := by
  show _ = true
  decide +kernel
theorem rxH37 : rx_ok 37 rxM37 rxC37 rxT37 := by
  show _ = true
  decide +kernel
theorem rxH84 : rx_ok 84 rxM84 rxC84 rxT84 := by
  show _ = true
  decide +kernel
theorem rxH98 : rx_ok 98 rxM98 rxC98 rxT98 := by
  show _ = true
  decide +kernel
theorem rxH47 : rx_ok 47 rxM47 rxC47 [] := by
  show _ = true
  decide +kernel
theorem rxH216 : rx_ok 216 rxM216 rxC216 [] := by
  show _ = true
  decide +kernel
theorem rxH226 : rx_ok 226 rxM226 rxC226 [] := by
  show _ = true
  decide +kernel
theorem rxH232 : rx_ok 232 rxM232 rxC232 [] := by
  show _ = true
  decide +kernel
