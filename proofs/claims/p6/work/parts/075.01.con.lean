/-! CONTRACTS HOLD, by program -/
theorem rxH249 : rx_ok 249 rxM249 rxC249 [] := by
  show _ = true
  decide +kernel
theorem rxH167 : rx_ok 167 rxM167 rxC167 [] := by
  show _ = true
  decide +kernel
theorem rxH57 : rx_ok 57 rxM57 rxC57 [] := by
  show _ = true
  decide +kernel
theorem rxH36 : rx_ok 36 rxM36 rxC36 [] := by
  show _ = true
  decide +kernel
theorem rxH64 : rx_ok 64 rxM64 rxC64 [] := by
  show _ = true
  decide +kernel
theorem rxH162 : rx_ok 162 rxM162 rxC162 [] := by
  show _ = true
  decide +kernel
theorem rxH203 : rx_ok 203 rxM203 rxC203 [] := by
  show _ = true
  decide +kernel
theorem rxH3 : rx_ok 3 rxM3 rxC3 [] := by
  show _ = true
  decide +kernel
theorem rxH239 : rx_ok 239 rxM239 rxC239 [] := by
  show _ = true
  decide +kernel
theorem rxH221 : rx_ok 221 rxM221 rxC221 [] := by
  show _ = true
  decide +kernel
theorem rxH148 : rx_ok 148 rxM148 rxC148 rxT148 := by
  show _ = true
  decide +kernel
theorem rxH245 : rx_ok 245 rxM245 rxC245 [] := by
  show _ = true
  decide +kernel
theorem rxH110 : rx_ok 110 rxM110 rxC110 [] := by
  show _ = true
  decide +kernel
theorem rxH180 : rx_ok 180 rxM180 rxC180 [] := by
  show _ = true
  decide +kernel
theorem rxH191 : rx_ok 191 rxM191 rxC191 [] := by
  show _ = true
  decide +kernel
theorem rxH95 : rx_ok 95 rxM95 rxC95 [] := by
  show _ = true
  decide +kernel
theorem rxH212 : rx_ok 212 rxM212 rxC212 [] := by
  show _ = true
  decide +kernel
theorem rxH174 : rx_ok 174 rxM174 rxC174 [] := by
  show _ = true
  decide +kernel
theorem rxH27 : rx_ok 27 rxM27 rxC27 [] := by
  show _ = true
  decide +kernel
theorem rxH184 : rx_ok 184 rxM184 rxC184 [] := by
  show _ = true
  decide +kernel
theorem rxH204 : rx_ok 204 rxM204 rxC204 [] := by
  show _ = true
  decide +kernel
theorem rxH102 : rx_ok 102 rxM102 rxC102 [] := by
  show _ = true
  decide +kernel
theorem rxH73 : rx_ok 73 rxM73 rxC73 [] := by
  show _ = true
  decide +kernel
theorem rxH163 : rx_ok 163 rxM163 rxC163 [] := by
  show _ = true
  decide +kernel
theorem rxH86 : rx_ok 86 rxM86 rxC86 [] := by
  show _ = true
  decide +kernel
theorem rxH192 : rx_ok 192 rxM192 rxC192 [] := by
  show _ = true
  decide +kernel
theorem rxH168 : rx_ok 168 rxM168 rxC168 [] := by
  show _ = true
  decide +kernel
theorem rxH130 : rx_ok 130 rxM130 rxC130 [] := by
  show _ = true
  decide +kernel
theorem rxH175 : rx_ok 175 rxM175 rxC175 [] := by
  show _ = true
  decide +kernel
theorem rxH223 : rx_ok 223 rxM223 rxC223 [] := by
  show _ = true
  decide +kernel
theorem rxH227 : rx_ok 227 rxM227 rxC227 [] := by
  show _ = true
  decide +kernel
theorem rxH213 : rx_ok 213 rxM213 rxC213 [] := by
  show _ = true
  decide +kernel
theorem rxH188 : rx_ok 188 rxM188 rxC188 [] := by
  show _ = true
  decide +kernel
theorem rxH229 : rx_ok 229 rxM229 rxC229 [] := by
  show _ = true
  decide +kernel
theorem rxH85 : rx_ok 85 rxM85 rxC85 [] := by
  show _ = true
  decide +kernel
theorem rxH118 : rx_ok 118 rxM118 rxC118 [] := by
  show _ = true
  decide +kernel
theorem rxH246 : rx_ok 246 rxM246 rxC246 [] := by
  show _ = true
  decide +kernel
theorem rxH171 : rx_ok 171 rxM171 rxC171 [] := by
  show _ = true
  decide +kernel
theorem rxH185 : rx_ok 185 rxM185 rxC185 [] := by
  show _ = true
  decide +kernel
theorem rxH80 : rx_ok 80 rxM80 rxC80 rxT80 := by
  show _ = true
  decide +kernel
theorem rxH117 : rx_ok 117 rxM117 rxC117 rxT117 := by
  show _ = true
  decide +kernel
theorem rxH250 : rx_ok 250 rxM250 rxC250 [] := by
  show _ = true
  decide +kernel
