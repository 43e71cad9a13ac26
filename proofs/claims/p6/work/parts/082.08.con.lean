/-! CONTRACTS HOLD, by program -/
theorem rxH151 : rx_ok 151 rxM151 rxC151 rxT151 := by
  show _ = true
  decide +kernel
theorem rxH152 : rx_ok 152 rxM152 rxC152 rxT152 := by
  show _ = true
  decide +kernel
theorem rxH115 : rx_ok 115 rxM115 rxC115 rxT115 := by
  show _ = true
  decide +kernel
