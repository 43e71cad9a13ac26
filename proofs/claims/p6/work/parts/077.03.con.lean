/-! CONTRACTS HOLD, by program -/
theorem rxH248 : rx_ok 248 rxM248 rxC248 [] := by
  show _ = true
  decide +kernel
theorem rxH29 : rx_ok 29 rxM29 rxC29 rxT29 := by
  show _ = true
  decide +kernel
theorem rxH35 : rx_ok 35 rxM35 rxC35 [] := by
  show _ = true
  decide +kernel
theorem rxH134 : rx_ok 134 rxM134 rxC134 rxT134 := by
  show _ = true
  decide +kernel
theorem rxH53_12 : rx_ok 53 rxM53 rxC53_12 [] := by
  show _ = true
  decide +kernel
theorem rxH53_11 : rx_ok 53 rxM53 rxC53_11 [] := by
  show _ = true
  decide +kernel
theorem rxH53_10 : rx_ok 53 rxM53 rxC53_10 [] := by
  show _ = true
  decide +kernel
theorem rxH53_9 : rx_ok 53 rxM53 rxC53_9 [] := by
  show _ = true
  decide +kernel
theorem rxH53_8 : rx_ok 53 rxM53 rxC53_8 [] := by
  show _ = true
  decide +kernel
theorem rxH53_7 : rx_ok 53 rxM53 rxC53_7 [] := by
  show _ = true
  decide +kernel
theorem rxH53_6 : rx_ok 53 rxM53 rxC53_6 [] := by
  show _ = true
  decide +kernel
theorem rxH53_5 : rx_ok 53 rxM53 rxC53_5 [] := by
  show _ = true
  decide +kernel
theorem rxH53_4 : rx_ok 53 rxM53 rxC53_4 [] := by
  show _ = true
  decide +kernel
theorem rxH53_3 : rx_ok 53 rxM53 rxC53_3 [] := by
  show _ = true
  decide +kernel
theorem rxH53_2 : rx_ok 53 rxM53 rxC53_2 [] := by
  show _ = true
  decide +kernel
theorem rxH53_1 : rx_ok 53 rxM53 rxC53_1 [] := by
  show _ = true
  decide +kernel
theorem rxH53_0 : rx_ok 53 rxM53 rxC53_0 [] := by
  show _ = true
  decide +kernel
theorem rxH169 : rx_ok 169 rxM169 rxC169 rxT169 := by
  show _ = true
  decide +kernel
theorem rxH140 : rx_ok 140 rxM140 rxC140 rxT140 := by
  show _ = true
  decide +kernel
theorem rxH224 : rx_ok 224 rxM224 rxC224 [] := by
  show _ = true
  decide +kernel
theorem rxH194 : rx_ok 194 rxM194 rxC194 [] := by
  show _ = true
  decide +kernel
theorem rxH218 : rx_ok 218 rxM218 rxC218 [] := by
  show _ = true
  decide +kernel
theorem rxH143 : rx_ok 143 rxM143 rxC143 rxT143 := by
  show _ = true
  decide +kernel
theorem rxH54 : rx_ok 54 rxM54 rxC54 rxT54 := by
  show _ = true
  decide +kernel
theorem rxH230 : rx_ok 230 rxM230 rxC230 [] := by
  show _ = true
  decide +kernel
