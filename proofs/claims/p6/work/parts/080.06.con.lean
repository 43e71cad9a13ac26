/-! CONTRACTS HOLD, by program -/
theorem rxH66 : rx_ok 66 rxM66 rxC66 [] := by
  show _ = true
  decide +kernel
theorem rxH301 : rx_ok 301 rxM301 rxC301 rxT301 := by
  show _ = true
  decide +kernel
theorem rxH158 : rx_ok 158 rxM158 rxC158 rxT158 := by
  show _ = true
  decide +kernel
theorem rxH107 : rx_ok 107 rxM107 rxC107 rxT107 := by
  show _ = true
  decide +kernel
theorem rxH198 : rx_ok 198 rxM198 rxC198 rxT198 := by
  show _ = true
  decide +kernel
theorem rxH119 : rx_ok 119 rxM119 rxC119 rxT119 := by
  show _ = true
  decide +kernel
theorem rxH146 : rx_ok 146 rxM146 rxC146 rxT146 := by
  show _ = true
  decide +kernel
theorem rxH133 : rx_ok 133 rxM133 rxC133 rxT133 := by
  show _ = true
  decide +kernel
