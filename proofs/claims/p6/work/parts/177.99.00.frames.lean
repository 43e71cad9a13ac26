/-! copyFrom of towns: what stays, by kinds of places -/
theorem bx_mc1 (k : bx_K) (i : Nat) : (bx_mc k i).1 = (bx_mc k 0).1 := by
  cases k with
  | inl q => rfl
  | inr q => rfl
/-- what a call may not write, at places of a list -/
theorem rx_frH {S T : Nat → Int → Int} {c f : Nat} (v : ∀ (p i : Nat), p < rxL.2.1 → i < bx_wd (rxL.1 p) → bx_mc (rxL.1 p) i ≠ (c, f) → T p (i : Int) = S p (i : Int)) {l : List Nat} (hl : l.all (fun p => Nat.blt p 522 && !(Nat.beq (bx_mc (rxL.1 p) 0).1 c)) = true) {p i : Nat} (hp : p ∈ l) (hi : i < bx_wd (rxL.1 p)) : T p (i : Int) = S p (i : Int) := by
  have h := List.all_eq_true.mp hl p hp
  rw [Bool.and_eq_true, Nat.blt_eq, Bool.not_eq_true'] at h
  refine v p i h.1 hi fun e => ?_
  have e1 : (bx_mc (rxL.1 p) 0).1 = c := by rw [← bx_mc1 (rxL.1 p) i, e]
  rw [e1, Nat.beq_refl] at h
  exact absurd h.2 (by decide)
def rxNum : List Nat := [1, 2, 3, 5, 6, 7, 8, 9, 10, 11, 13, 14, 15, 16, 17, 19, 138, 139, 140, 142, 143, 144, 145, 146, 147, 148, 150, 151, 152, 153, 154, 156, 274, 275, 276, 278, 279, 280, 281, 282, 283, 284, 286, 287, 288, 289, 290, 292]
def rxFl1 : List Nat := [138, 139, 140, 142, 143, 144, 145, 146, 147, 148, 150, 151, 152, 153, 154, 156, 274, 275, 276, 278, 279, 280, 281, 282, 283, 284, 286, 287, 288, 289, 290, 292]
theorem rxFl1_in : ∀ q ∈ rxFl1, q ∈ rxNum := by decide
def rxFl138 : List Nat := [1, 2, 3, 5, 6, 7, 8, 9, 10, 11, 13, 14, 15, 16, 17, 19, 274, 275, 276, 278, 279, 280, 281, 282, 283, 284, 286, 287, 288, 289, 290, 292]
theorem rxFl138_in : ∀ q ∈ rxFl138, q ∈ rxNum := by decide
def rxFl274 : List Nat := [1, 2, 3, 5, 6, 7, 8, 9, 10, 11, 13, 14, 15, 16, 17, 19, 138, 139, 140, 142, 143, 144, 145, 146, 147, 148, 150, 151, 152, 153, 154, 156]
theorem rxFl274_in : ∀ q ∈ rxFl274, q ∈ rxNum := by decide
