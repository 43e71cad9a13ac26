/-! CONTRACTS HOLD, by program -/
theorem rxH132 : rx_ok 132 rxM132 rxC132 rxT132 := by
  show _ = true
  decide +kernel
