/-! CONTRACTS HOLD, by program -/
theorem rxH139 : rx_ok 139 rxM139 rxC139 rxT139 := by
  show _ = true
  decide +kernel
