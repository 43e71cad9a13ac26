/-! CONTRACTS HOLD, by program -/
theorem rxH120 : rx_ok 120 rxM120 rxC120 rxT120 := by
  show _ = true
  decide +kernel
