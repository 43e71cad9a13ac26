/-! CONTRACTS HOLD, by program -/
theorem rxH12 : rx_ok 12 rxM12 rxC12 rxT12 := by
  show _ = true
  decide +kernel
theorem rxH183 : rx_ok 183 rxM183 rxC183 rxT183 := by
  show _ = true
  decide +kernel
theorem rxH74 : rx_ok 74 rxM74 rxC74 rxT74 := by
  show _ = true
  decide +kernel
theorem rxH307 : rx_ok 307 rxM307 rxC307 rxT307 := by
  show _ = true
  decide +kernel
theorem rxH154 : rx_ok 154 rxM154 rxC154 rxT154 := by
  show _ = true
  decide +kernel
theorem rxH71 : rx_ok 71 rxM71 rxC71 [] := by
  show _ = true
  decide +kernel
theorem rxH193 : rx_ok 193 rxM193 rxC193 rxT193 := by
  show _ = true
  decide +kernel
theorem rxH39 : rx_ok 39 rxM39 rxC39 rxT39 := by
  show _ = true
  decide +kernel
theorem rxH104 : rx_ok 104 rxM104 rxC104 [] := by
  show _ = true
  decide +kernel
theorem rxH136 : rx_ok 136 rxM136 rxC136 rxT136 := by
  show _ = true
  decide +kernel
theorem rxH147 : rx_ok 147 rxM147 rxC147 rxT147 := by
  show _ = true
  decide +kernel
theorem rxH142 : rx_ok 142 rxM142 rxC142 rxT142 := by
  show _ = true
  decide +kernel
theorem rxH131 : rx_ok 131 rxM131 rxC131 rxT131 := by
  show _ = true
  decide +kernel
