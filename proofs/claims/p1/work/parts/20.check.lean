def rxI0 : rx_I := [(0, 0), (0, 6), (-2147483648, 2147483647), (-2147483648, 2147483647), (-2147483648, 2147483647), (-2147483648, 2147483647), (-2147483648, 2147483647), (-2147483648, 2147483647)]
def rxOb (ci : Nat) (tcs : List Nat) : rx_C := .inl (ci, tcs.map (fun tc => .inl (rx_dv tc)))
theorem rx_try1 : (rx_ex2 rxCT 1000 12 1 (rxI0, [], [rxOb 9 [3, 3]], 0, 0, 0, [(0, .inl (some 0))], [])).isSome = true := by decide +kernel
theorem rx_try2 : (rx_ex2 rxCT 1000 12 11 (rxI0, [], [rxOb 12 [0, 0, 3, 3, 3, 3, 0, 3, 0, 0, 0, 0, 2, 0, 1, 1, 0, 3, 0, 3, 3, 0, 3, 3, 0, 0, 3, 3, 0, 3, 3, 3, 1, 2, 2, 3, 3, 0, 3, 3, 3, 3, 0, 3, 3, 0, 0, 0, 0, 0, 3, 3, 3, 3, 0, 3, 3, 3, 0, 0, 3, 3, 3, 3, 3, 3, 3, 3, 3, 0, 0, 2, 3, 3, 0, 1]], 0, 0, 0, [(0, .inl (some 0))], [])).isSome = true := by decide +kernel
theorem rx_try3 : (rx_ex2 rxCT 10000 12 12 (rxI0, [], [rxOb 11 [3, 3, 3, 3, 0, 3, 3, 0, 0, 3, 3, 3, 3, 3, 3, 3, 1, 3, 3, 0]], 0, 0, 0, [(0, .inl (some 0))], [])).isSome = true := by decide +kernel
