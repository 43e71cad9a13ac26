/-! CONTRACTS HOLD, by program -/
theorem rxH164 : rx_ok 164 rxM164 rxC164 rxT164 := by
  show _ = true
  decide +kernel
theorem rxH205 : rx_ok 205 rxM205 rxC205 rxT205 := by
  show _ = true
  decide +kernel
