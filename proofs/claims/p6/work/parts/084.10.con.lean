/-! CONTRACTS HOLD, by program -/
theorem rxH235 : rx_ok 235 rxM235 rxC235 rxT235 := by
  show _ = true
  decide +kernel
theorem rxH222 : rx_ok 222 rxM222 rxC222 rxT222 := by
  show _ = true
  decide +kernel
