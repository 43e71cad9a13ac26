def ry_dV : DecidableEq ry_V := inferInstanceAs (DecidableEq (Option Nat ⊕ (Nat × (Nat × Int))))
def ry_dX : DecidableEq ry_X := @instDecidableEqSum _ _ ry_dV (inferInstanceAs (DecidableEq (Nat × Int × Int)))
def ry_dO : DecidableEq (List (Nat × ry_V)) := @instDecidableEqList _ (@instDecidableEqProd _ _ inferInstance ry_dV)
def ry_dC : DecidableEq ry_C := @instDecidableEqSum _ _ (@instDecidableEqProd _ _ inferInstance (@instDecidableEqList _ ry_dX)) (@instDecidableEqProd _ _ inferInstance (@instDecidableEqProd _ _ inferInstance (@instDecidableEqProd _ _ ry_dX ry_dO)))
def ry_dZ : DecidableEq ry_Z := @instDecidableEqProd _ _ (inferInstanceAs (DecidableEq (List (Int × Int)))) (@instDecidableEqProd _ _ (inferInstanceAs (DecidableEq (List (Nat × (Nat × Int) × (Nat × Int))))) (@instDecidableEqProd _ _ (@instDecidableEqList _ ry_dC) (@instDecidableEqProd _ _ inferInstance (@instDecidableEqProd _ _ inferInstance (@instDecidableEqProd _ _ inferInstance (@instDecidableEqProd _ _ ry_dO (@instDecidableEqList _ ry_dV)))))))
def ry_isZ (o : Option (List ry_Z)) (z : ry_Z) : Bool := match o with
  | some [w] => @decide (w = z) (ry_dZ w z)
  | _ => false
theorem ry_isZ_ok {o : Option (List ry_Z)} {z : ry_Z} (h : ry_isZ o z = true) : o = some [z] := by
  unfold ry_isZ at h
  split at h
  · rename_i w
    rw [@of_decide_eq_true _ (ry_dZ w z) h]
  · cases h
theorem ry_start : ry_isZ (ry_sg ryCT (fun pc => Nat.beq pc 15) 10000 12 14 ryZ0) ryZ15 = true := by decide +kernel
