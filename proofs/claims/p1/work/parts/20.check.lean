def rxI0 : rx_I := [(0, 0), (0, 6), (-2147483648, 2147483647), (-2147483648, 2147483647), (-2147483648, 2147483647), (-2147483648, 2147483647), (-2147483648, 2147483647), (-2147483648, 2147483647)]
def rxEnds (o : Option (List rx_End)) : Bool := match o with
  | some Es => Es.all (fun E => match E.2.2.2 with
    | some (.inr (0, (0, 1))) => true
    | _ => false)
  | none => false
theorem rx_whole : rxEnds (rx_ex2 rxCT 10000 12 176 (rxI0, [], [], 0, 0, 0, [(0, .inr (2, (0, 0)))], [])) = true := by decide +kernel
