/-! CONTRACTS HOLD, by program -/
theorem rxH128 : rx_ok 128 rxM128 rxC128 rxT128 := by
  show _ = true
  decide +kernel
