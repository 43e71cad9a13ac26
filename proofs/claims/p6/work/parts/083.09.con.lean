/-! CONTRACTS HOLD, by program -/
theorem rxH156 : rx_ok 156 rxM156 rxC156 rxT156 := by
  show _ = true
  decide +kernel
theorem rxH260 : rx_ok 260 rxM260 rxC260 rxT260 := by
  show _ = true
  decide +kernel
theorem rxH127 : rx_ok 127 rxM127 rxC127 rxT127 := by
  show _ = true
  decide +kernel
