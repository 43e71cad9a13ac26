/-! CONTRACTS HOLD, by program -/
theorem rxH61 : rx_ok 61 rxM61 rxC61 rxT61 := by
  show _ = true
  decide +kernel
