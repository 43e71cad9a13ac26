/-! CONTRACTS HOLD, by program -/
theorem rxH308 : rx_ok 308 rxM308 rxC308 rxT308 := by
  show _ = true
  decide +kernel
