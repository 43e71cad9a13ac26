/-! CONTRACTS HOLD, by program -/
theorem rxH93 : rx_ok 93 rxM93 rxC93 rxT93 := by
  show _ = true
  decide +kernel
theorem rxH69 : rx_ok 69 rxM69 rxC69 [] := by
  show _ = true
  decide +kernel
theorem rxH28 : rx_ok 28 rxM28 rxC28 rxT28 := by
  show _ = true
  decide +kernel
theorem rxH114 : rx_ok 114 rxM114 rxC114 rxT114 := by
  show _ = true
  decide +kernel
theorem rxH186 : rx_ok 186 rxM186 rxC186 rxT186 := by
  show _ = true
  decide +kernel
