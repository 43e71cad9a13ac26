/-! CONTRACTS HOLD, by program -/
theorem rxH138 : rx_ok 138 rxM138 rxC138 rxT138 := by
  show _ = true
  decide +kernel
theorem rxH247 : rx_ok 247 rxM247 rxC247 [] := by
  show _ = true
  decide +kernel
theorem rxH228 : rx_ok 228 rxM228 rxC228 [] := by
  show _ = true
  decide +kernel
theorem rxH68 : rx_ok 68 rxM68 rxC68 [] := by
  show _ = true
  decide +kernel
theorem rxH173 : rx_ok 173 rxM173 rxC173 [] := by
  show _ = true
  decide +kernel
theorem rxH135 : rx_ok 135 rxM135 rxC135 rxT135 := by
  show _ = true
  decide +kernel
theorem rxH32_5 : rx_ok 32 rxM32 rxC32_5 [] := by
  show _ = true
  decide +kernel
theorem rxH32_4 : rx_ok 32 rxM32 rxC32_4 [] := by
  show _ = true
  decide +kernel
theorem rxH32_3 : rx_ok 32 rxM32 rxC32_3 [] := by
  show _ = true
  decide +kernel
theorem rxH32_2 : rx_ok 32 rxM32 rxC32_2 [] := by
  show _ = true
  decide +kernel
theorem rxH32_1 : rx_ok 32 rxM32 rxC32_1 [] := by
  show _ = true
  decide +kernel
theorem rxH32_0 : rx_ok 32 rxM32 rxC32_0 [] := by
  show _ = true
  decide +kernel
theorem rxH206 : rx_ok 206 rxM206 rxC206 [] := by
  show _ = true
  decide +kernel
theorem rxH30_6 : rx_ok 30 rxM30 rxC30_6 rxT30_6 := by
  show _ = true
  decide +kernel
theorem rxH30_5 : rx_ok 30 rxM30 rxC30_5 rxT30_5 := by
  show _ = true
  decide +kernel
theorem rxH30_4 : rx_ok 30 rxM30 rxC30_4 rxT30_4 := by
  show _ = true
  decide +kernel
theorem rxH30_3 : rx_ok 30 rxM30 rxC30_3 rxT30_3 := by
  show _ = true
  decide +kernel
theorem rxH30_2 : rx_ok 30 rxM30 rxC30_2 rxT30_2 := by
  show _ = true
  decide +kernel
theorem rxH30_1 : rx_ok 30 rxM30 rxC30_1 rxT30_1 := by
  show _ = true
  decide +kernel
theorem rxH30_0 : rx_ok 30 rxM30 rxC30_0 rxT30_0 := by
  show _ = true
  decide +kernel
theorem rxH253 : rx_ok 253 rxM253 rxC253 [] := by
  show _ = true
  decide +kernel
theorem rxH159 : rx_ok 159 rxM159 rxC159 [] := by
  show _ = true
  decide +kernel
theorem rxH207 : rx_ok 207 rxM207 rxC207 [] := by
  show _ = true
  decide +kernel
theorem rxH125 : rx_ok 125 rxM125 rxC125 [] := by
  show _ = true
  decide +kernel
theorem rxH217 : rx_ok 217 rxM217 rxC217 [] := by
  show _ = true
  decide +kernel
theorem rxH165 : rx_ok 165 rxM165 rxC165 [] := by
  show _ = true
  decide +kernel
theorem rxH219 : rx_ok 219 rxM219 rxC219 [] := by
  show _ = true
  decide +kernel
theorem rxH31 : rx_ok 31 rxM31 rxC31 rxT31 := by
  show _ = true
  decide +kernel
theorem rxH220 : rx_ok 220 rxM220 rxC220 [] := by
  show _ = true
  decide +kernel
theorem rxH166 : rx_ok 166 rxM166 rxC166 [] := by
  show _ = true
  decide +kernel
theorem rxH199 : rx_ok 199 rxM199 rxC199 [] := by
  show _ = true
  decide +kernel
theorem rxH225 : rx_ok 225 rxM225 rxC225 [] := by
  show _ = true
  decide +kernel
theorem rxH137 : rx_ok 137 rxM137 rxC137 rxT137 := by
  show _ = true
  decide +kernel
theorem rxH70 : rx_ok 70 rxM70 rxC70 [] := by
  show _ = true
  decide +kernel
