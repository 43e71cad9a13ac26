/-! CONTRACTS HOLD, by program -/
theorem rxH48 : rx_ok 48 rxM48 rxC48 rxT48 := by
  show _ = true
  decide +kernel
