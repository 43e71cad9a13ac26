/-! CONTRACTS HOLD, by program -/
theorem rxH58 : rx_ok 58 rxM58 rxC58 rxT58 := by
  show _ = true
  decide +kernel
