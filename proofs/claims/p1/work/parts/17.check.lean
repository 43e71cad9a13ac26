def rxXh : rx_Xh := rx_xh (fun o i => rx_lku (rxXtL o) i) (fun o i => rx_lku (rxStL o) i) rxSlen
def rxI0 : rx_I := [(0, 0), (0, 6), (-2147483648, 2147483647), (-2147483648, 2147483647), (-2147483648, 2147483647), (-2147483648, 2147483647), (-2147483648, 2147483647), (-2147483648, 2147483647)]
def rxOb (ci : Nat) (tcs : List Nat) : rx_C := .inl (ci, tcs.map (fun tc => .inl (rx_dv tc)))
theorem rx_try1 : (rx_exec rxXh rxT 1000 12 false (9, cX9_init, 1, none, yX9_init, true, 2, 72) (rxI0, [], [rxOb 9 [3, 3]], 0, 0, 0, [(0, .inl (some 0))], [])).isSome = true := by decide +kernel
