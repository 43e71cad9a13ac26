/-! CONTRACTS HOLD, by program -/
theorem rxH179 : rx_ok 179 rxM179 rxC179 rxT179 := by
  show _ = true
  decide +kernel
