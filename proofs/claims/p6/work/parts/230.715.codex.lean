theorem rzOp_ge {T : Int → Int} {n f s st : Int} (h : st ≠ -1) (e : st = rzOp T n f s) : 4 ≤ st := by
  unfold rzOp at e
  (repeat' split at e) <;> subst e <;> first | exact absurd rfl h | decide
