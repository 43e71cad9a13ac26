/-! THE CASES: one a word of the script -/
noncomputable def rxCs : Option (List rx_Z) := rx_sg rxCT (fun pc => Nat.ble 240 pc) 200 12 176 rxZ15
def rxEnds (o : Option (List rx_End)) : Bool := match o with
  | some Es => Es.all (fun E => match E.2.2.2 with
    | some (.inr (0, (0, 1))) => true
    | _ => false)
  | none => false
noncomputable def rxCase (k : Nat) : Bool := match rxCs with
  | some zs => match rx_nth zs k with
    | some z => rxEnds (rx_ex2 rxCT 4000 12 176 z)
    | none => true
  | none => false
theorem rx_cases_n : (match rxCs with
  | some zs => Nat.ble zs.length 52
  | none => false) = true := by decide +kernel
