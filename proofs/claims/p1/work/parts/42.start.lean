def rx_dV : DecidableEq rx_V := inferInstanceAs (DecidableEq (Option Nat ⊕ (Nat × (Nat × Int))))
def rx_dX : DecidableEq rx_X := @instDecidableEqSum _ _ rx_dV (inferInstanceAs (DecidableEq (Nat × Int × Int)))
def rx_dO : DecidableEq (List (Nat × rx_V)) := @instDecidableEqList _ (@instDecidableEqProd _ _ inferInstance rx_dV)
def rx_dC : DecidableEq rx_C := @instDecidableEqSum _ _ (@instDecidableEqProd _ _ inferInstance (@instDecidableEqList _ rx_dX)) (@instDecidableEqProd _ _ inferInstance (@instDecidableEqProd _ _ inferInstance (@instDecidableEqProd _ _ rx_dX rx_dO)))
def rx_dZ : DecidableEq rx_Z := @instDecidableEqProd _ _ (inferInstanceAs (DecidableEq (List (Int × Int)))) (@instDecidableEqProd _ _ (inferInstanceAs (DecidableEq (List (Nat × (Nat × Int) × (Nat × Int))))) (@instDecidableEqProd _ _ (@instDecidableEqList _ rx_dC) (@instDecidableEqProd _ _ inferInstance (@instDecidableEqProd _ _ inferInstance (@instDecidableEqProd _ _ inferInstance (@instDecidableEqProd _ _ rx_dO (@instDecidableEqList _ rx_dV)))))))
def rx_isZ (o : Option (List rx_Z)) (z : rx_Z) : Bool := match o with
  | some [w] => @decide (w = z) (rx_dZ w z)
  | _ => false
theorem rx_isZ_ok {o : Option (List rx_Z)} {z : rx_Z} (h : rx_isZ o z = true) : o = some [z] := by
  unfold rx_isZ at h
  split at h
  · rename_i w
    rw [@of_decide_eq_true _ (rx_dZ w z) h]
  · cases h
theorem rx_start : rx_isZ (rx_sg rxCT (fun pc => Nat.beq pc 15) 10000 12 176 rxZ0) rxZ15 = true := by decide +kernel
