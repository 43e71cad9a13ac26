/-! CONTRACTS HOLD, by program -/
theorem rxH126 : rx_ok 126 rxM126 rxC126 rxT126 := by
  show _ = true
  decide +kernel
