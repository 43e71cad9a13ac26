/-! CONTRACTS HOLD, by program -/
theorem rxH160 : rx_ok 160 rxM160 rxC160 rxT160 := by
  show _ = true
  decide +kernel
