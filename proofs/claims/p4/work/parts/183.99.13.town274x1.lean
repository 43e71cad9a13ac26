/-! CONTRACT BY HAND, by program (wip/sim/genhand.py): DeadUnderstudies$Town.copyFrom -/
def rxCCF274x1 : bx_Ct := ([(3, (1, 274, 0)), (3, (1, 1, 0))], none, [(2, 0), (5, 0), (6, 0), (6, 4), (10, 0), (10, 5), (10, 10), (10, 14), (10, 15), (1000, 0), (1001, 0), (1003, 0), (1004, 0), (1005, 0), (1006, 0), (1007, 0), (1008, 0), (1010, 0), (1011, 0), (1012, 0), (1013, 0), (1015, 0), (1019, 0), (1020, 0), (1021, 0), (1022, 0), (1024, 0), (1025, 0), (1026, 0), (1027, 0)], 2, [])
def rxICF274x1_0 (S0 : Nat → Int → Int) (ws : List Int) (S : Nat → Int → Int) : Prop := S = S0 ∧ ws = [274, 1]
def rxmCF274x1_0 (S0 : Nat → Int → Int) (ws : List Int) (S : Nat → Int → Int) : Nat := 1000
def rxzCF274x1_0 : rx_Z := ([(0, 0), (0, 0), (0, 0), (0, 0), (0, 0), (0, 0), (0, 0), (0, 0)], [], [], 0, 0, 0, [(0, .inr (3, (0, 274))), (1, .inr (3, (0, 1)))], [])
def rxICF274x1_1 (S0 : Nat → Int → Int) (ws : List Int) (S : Nat → Int → Int) : Prop := S 274 0 = S0 1 0 ∧ (∀ p i : Nat, p ∈ rxFl274 → i < bx_wd (rxL.1 p) → S p (i : Int) = S0 p (i : Int))
def rxmCF274x1_1 (S0 : Nat → Int → Int) (ws : List Int) (S : Nat → Int → Int) : Nat := 990
def rxzCF274x1_1 : rx_Z := ([(0, 0), (0, 0), (0, 0), (0, 0), (0, 0), (0, 0), (0, 0), (0, 0)], [], [], 0, 0, 20, [(0, .inr (3, (0, 274))), (1, .inr (3, (0, 1)))], [.inr (0, (0, 6)), .inr (0, (0, 0)), .inr (3, (0, 275)), .inr (0, (0, 0)), .inr (3, (0, 2))])
def rxICF274x1_2 (S0 : Nat → Int → Int) (ws : List Int) (S : Nat → Int → Int) : Prop := S 274 0 = S0 1 0 ∧ (∀ i : Nat, i < 6 → S 275 (i : Int) = S0 2 (i : Int)) ∧ (∀ p i : Nat, p ∈ rxFl274 → i < bx_wd (rxL.1 p) → S p (i : Int) = S0 p (i : Int))
def rxmCF274x1_2 (S0 : Nat → Int → Int) (ws : List Int) (S : Nat → Int → Int) : Nat := 985
def rxzCF274x1_2 : rx_Z := ([(0, 0), (0, 0), (0, 0), (0, 0), (0, 0), (0, 0), (0, 0), (0, 0)], [], [], 0, 0, 23, [(0, .inr (3, (0, 274))), (1, .inr (3, (0, 1)))], [])
def rxICF274x1_3 (S0 : Nat → Int → Int) (ws : List Int) (S : Nat → Int → Int) : Prop := S 274 0 = S0 1 0 ∧ (∀ i : Nat, i < 6 → S 275 (i : Int) = S0 2 (i : Int)) ∧ (∀ p i : Nat, p ∈ rxFl274 → i < bx_wd (rxL.1 p) → S p (i : Int) = S0 p (i : Int))
def rxmCF274x1_3 (S0 : Nat → Int → Int) (ws : List Int) (S : Nat → Int → Int) : Nat := 980
def rxzCF274x1_3 : rx_Z := ([(0, 0), (0, 0), (0, 0), (0, 0), (0, 0), (0, 0), (0, 0), (0, 0)], [], [], 0, 0, 35, [(0, .inr (3, (0, 274))), (1, .inr (3, (0, 1)))], [.inr (0, (0, 6)), .inr (0, (0, 0)), .inr (3, (0, 276)), .inr (0, (0, 0)), .inr (3, (0, 3))])
def rxICF274x1_4 (S0 : Nat → Int → Int) (ws : List Int) (S : Nat → Int → Int) : Prop := S 274 0 = S0 1 0 ∧ (∀ i : Nat, i < 6 → S 275 (i : Int) = S0 2 (i : Int)) ∧ (∀ i : Nat, i < 6 → S 276 (i : Int) = S0 3 (i : Int)) ∧ (∀ p i : Nat, p ∈ rxFl274 → i < bx_wd (rxL.1 p) → S p (i : Int) = S0 p (i : Int))
def rxmCF274x1_4 (S0 : Nat → Int → Int) (ws : List Int) (S : Nat → Int → Int) : Nat := 975
def rxzCF274x1_4 : rx_Z := ([(0, 0), (0, 0), (0, 0), (0, 0), (0, 0), (0, 0), (0, 0), (0, 0)], [], [], 0, 0, 38, [(0, .inr (3, (0, 274))), (1, .inr (3, (0, 1)))], [])
def rxICF274x1_5 (S0 : Nat → Int → Int) (ws : List Int) (S : Nat → Int → Int) (i : Int) : Prop := S 274 0 = S0 1 0 ∧ (∀ i : Nat, i < 6 → S 275 (i : Int) = S0 2 (i : Int)) ∧ (∀ i : Nat, i < 6 → S 276 (i : Int) = S0 3 (i : Int)) ∧ (∀ p i : Nat, p ∈ rxFl274 → i < bx_wd (rxL.1 p) → S p (i : Int) = S0 p (i : Int))
def rxmCF274x1_5 (S0 : Nat → Int → Int) (ws : List Int) (S : Nat → Int → Int) (i : Int) : Nat := 940 + (20 - i).toNat
def rxzCF274x1_5 : rx_Z := ([(0, 0), (0, 0), (0, 0), (0, 0), (0, 0), (0, 0), (0, 0), (0, 0), (0, 6)], [], [], 0, 0, 40, [(0, .inr (3, (0, 274))), (1, .inr (3, (0, 1))), (2, .inr (0, (8, 0)))], [])
def rxICF274x1_6 (S0 : Nat → Int → Int) (ws : List Int) (S : Nat → Int → Int) : Prop := S 274 0 = S0 1 0 ∧ (∀ i : Nat, i < 6 → S 275 (i : Int) = S0 2 (i : Int)) ∧ (∀ i : Nat, i < 6 → S 276 (i : Int) = S0 3 (i : Int)) ∧ (∀ p i : Nat, p ∈ rxFl274 → i < bx_wd (rxL.1 p) → S p (i : Int) = S0 p (i : Int))
def rxmCF274x1_6 (S0 : Nat → Int → Int) (ws : List Int) (S : Nat → Int → Int) : Nat := 930
def rxzCF274x1_6 : rx_Z := ([(0, 0), (0, 0), (0, 0), (0, 0), (0, 0), (0, 0), (0, 0), (0, 0)], [], [], 0, 0, 75, [(0, .inr (3, (0, 274))), (1, .inr (3, (0, 1))), (2, .inr (0, (0, 6)))], [.inr (3, (0, 5)), .inr (3, (0, 278))])
def rxICF274x1_7 (S0 : Nat → Int → Int) (ws : List Int) (S : Nat → Int → Int) : Prop := S 274 0 = S0 1 0 ∧ (∀ i : Nat, i < 6 → S 275 (i : Int) = S0 2 (i : Int)) ∧ (∀ i : Nat, i < 6 → S 276 (i : Int) = S0 3 (i : Int)) ∧ S 278 0 = S0 5 0 ∧ (∀ i : Nat, i < 8 → S 279 (i : Int) = S0 6 (i : Int)) ∧ (∀ i : Nat, i < 8 → S 280 (i : Int) = S0 7 (i : Int)) ∧ (∀ i : Nat, i < 8 → S 281 (i : Int) = S0 8 (i : Int)) ∧ (∀ p i : Nat, p ∈ rxFl274 → i < bx_wd (rxL.1 p) → S p (i : Int) = S0 p (i : Int))
def rxmCF274x1_7 (S0 : Nat → Int → Int) (ws : List Int) (S : Nat → Int → Int) : Nat := 925
def rxzCF274x1_7 : rx_Z := ([(0, 0), (0, 0), (0, 0), (0, 0), (0, 0), (0, 0), (0, 0), (0, 0)], [], [], 0, 0, 78, [(0, .inr (3, (0, 274))), (1, .inr (3, (0, 1))), (2, .inr (0, (0, 6)))], [])
def rxICF274x1_8 (S0 : Nat → Int → Int) (ws : List Int) (S : Nat → Int → Int) : Prop := S 274 0 = S0 1 0 ∧ (∀ i : Nat, i < 6 → S 275 (i : Int) = S0 2 (i : Int)) ∧ (∀ i : Nat, i < 6 → S 276 (i : Int) = S0 3 (i : Int)) ∧ S 278 0 = S0 5 0 ∧ (∀ i : Nat, i < 8 → S 279 (i : Int) = S0 6 (i : Int)) ∧ (∀ i : Nat, i < 8 → S 280 (i : Int) = S0 7 (i : Int)) ∧ (∀ i : Nat, i < 8 → S 281 (i : Int) = S0 8 (i : Int)) ∧ S 274 5 = S0 1 5 ∧ (∀ p i : Nat, p ∈ rxFl274 → i < bx_wd (rxL.1 p) → S p (i : Int) = S0 p (i : Int))
def rxmCF274x1_8 (S0 : Nat → Int → Int) (ws : List Int) (S : Nat → Int → Int) : Nat := 920
def rxzCF274x1_8 : rx_Z := ([(0, 0), (0, 0), (0, 0), (0, 0), (0, 0), (0, 0), (0, 0), (0, 0)], [], [], 0, 0, 98, [(0, .inr (3, (0, 274))), (1, .inr (3, (0, 1))), (2, .inr (0, (0, 6)))], [.inr (0, (0, 12)), .inr (0, (0, 0)), .inr (3, (0, 282)), .inr (0, (0, 0)), .inr (3, (0, 9))])
def rxICF274x1_9 (S0 : Nat → Int → Int) (ws : List Int) (S : Nat → Int → Int) : Prop := S 274 0 = S0 1 0 ∧ (∀ i : Nat, i < 6 → S 275 (i : Int) = S0 2 (i : Int)) ∧ (∀ i : Nat, i < 6 → S 276 (i : Int) = S0 3 (i : Int)) ∧ S 278 0 = S0 5 0 ∧ (∀ i : Nat, i < 8 → S 279 (i : Int) = S0 6 (i : Int)) ∧ (∀ i : Nat, i < 8 → S 280 (i : Int) = S0 7 (i : Int)) ∧ (∀ i : Nat, i < 8 → S 281 (i : Int) = S0 8 (i : Int)) ∧ S 274 5 = S0 1 5 ∧ (∀ i : Nat, i < 12 → S 282 (i : Int) = S0 9 (i : Int)) ∧ (∀ p i : Nat, p ∈ rxFl274 → i < bx_wd (rxL.1 p) → S p (i : Int) = S0 p (i : Int))
def rxmCF274x1_9 (S0 : Nat → Int → Int) (ws : List Int) (S : Nat → Int → Int) : Nat := 915
def rxzCF274x1_9 : rx_Z := ([(0, 0), (0, 0), (0, 0), (0, 0), (0, 0), (0, 0), (0, 0), (0, 0)], [], [], 0, 0, 101, [(0, .inr (3, (0, 274))), (1, .inr (3, (0, 1))), (2, .inr (0, (0, 6)))], [])
def rxICF274x1_10 (S0 : Nat → Int → Int) (ws : List Int) (S : Nat → Int → Int) : Prop := S 274 0 = S0 1 0 ∧ (∀ i : Nat, i < 6 → S 275 (i : Int) = S0 2 (i : Int)) ∧ (∀ i : Nat, i < 6 → S 276 (i : Int) = S0 3 (i : Int)) ∧ S 278 0 = S0 5 0 ∧ (∀ i : Nat, i < 8 → S 279 (i : Int) = S0 6 (i : Int)) ∧ (∀ i : Nat, i < 8 → S 280 (i : Int) = S0 7 (i : Int)) ∧ (∀ i : Nat, i < 8 → S 281 (i : Int) = S0 8 (i : Int)) ∧ S 274 5 = S0 1 5 ∧ (∀ i : Nat, i < 12 → S 282 (i : Int) = S0 9 (i : Int)) ∧ (∀ p i : Nat, p ∈ rxFl274 → i < bx_wd (rxL.1 p) → S p (i : Int) = S0 p (i : Int))
def rxmCF274x1_10 (S0 : Nat → Int → Int) (ws : List Int) (S : Nat → Int → Int) : Nat := 910
def rxzCF274x1_10 : rx_Z := ([(0, 0), (0, 0), (0, 0), (0, 0), (0, 0), (0, 0), (0, 0), (0, 0)], [], [], 0, 0, 113, [(0, .inr (3, (0, 274))), (1, .inr (3, (0, 1))), (2, .inr (0, (0, 6)))], [.inr (0, (0, 12)), .inr (0, (0, 0)), .inr (3, (0, 283)), .inr (0, (0, 0)), .inr (3, (0, 10))])
def rxICF274x1_11 (S0 : Nat → Int → Int) (ws : List Int) (S : Nat → Int → Int) : Prop := S 274 0 = S0 1 0 ∧ (∀ i : Nat, i < 6 → S 275 (i : Int) = S0 2 (i : Int)) ∧ (∀ i : Nat, i < 6 → S 276 (i : Int) = S0 3 (i : Int)) ∧ S 278 0 = S0 5 0 ∧ (∀ i : Nat, i < 8 → S 279 (i : Int) = S0 6 (i : Int)) ∧ (∀ i : Nat, i < 8 → S 280 (i : Int) = S0 7 (i : Int)) ∧ (∀ i : Nat, i < 8 → S 281 (i : Int) = S0 8 (i : Int)) ∧ S 274 5 = S0 1 5 ∧ (∀ i : Nat, i < 12 → S 282 (i : Int) = S0 9 (i : Int)) ∧ (∀ i : Nat, i < 12 → S 283 (i : Int) = S0 10 (i : Int)) ∧ (∀ p i : Nat, p ∈ rxFl274 → i < bx_wd (rxL.1 p) → S p (i : Int) = S0 p (i : Int))
def rxmCF274x1_11 (S0 : Nat → Int → Int) (ws : List Int) (S : Nat → Int → Int) : Nat := 905
def rxzCF274x1_11 : rx_Z := ([(0, 0), (0, 0), (0, 0), (0, 0), (0, 0), (0, 0), (0, 0), (0, 0)], [], [], 0, 0, 116, [(0, .inr (3, (0, 274))), (1, .inr (3, (0, 1))), (2, .inr (0, (0, 6)))], [])
def rxICF274x1_12 (S0 : Nat → Int → Int) (ws : List Int) (S : Nat → Int → Int) : Prop := S 274 0 = S0 1 0 ∧ (∀ i : Nat, i < 6 → S 275 (i : Int) = S0 2 (i : Int)) ∧ (∀ i : Nat, i < 6 → S 276 (i : Int) = S0 3 (i : Int)) ∧ S 278 0 = S0 5 0 ∧ (∀ i : Nat, i < 8 → S 279 (i : Int) = S0 6 (i : Int)) ∧ (∀ i : Nat, i < 8 → S 280 (i : Int) = S0 7 (i : Int)) ∧ (∀ i : Nat, i < 8 → S 281 (i : Int) = S0 8 (i : Int)) ∧ S 274 5 = S0 1 5 ∧ (∀ i : Nat, i < 12 → S 282 (i : Int) = S0 9 (i : Int)) ∧ (∀ i : Nat, i < 12 → S 283 (i : Int) = S0 10 (i : Int)) ∧ (∀ p i : Nat, p ∈ rxFl274 → i < bx_wd (rxL.1 p) → S p (i : Int) = S0 p (i : Int))
def rxmCF274x1_12 (S0 : Nat → Int → Int) (ws : List Int) (S : Nat → Int → Int) : Nat := 900
def rxzCF274x1_12 : rx_Z := ([(0, 0), (0, 0), (0, 0), (0, 0), (0, 0), (0, 0), (0, 0), (0, 0)], [], [], 0, 0, 128, [(0, .inr (3, (0, 274))), (1, .inr (3, (0, 1))), (2, .inr (0, (0, 6)))], [.inr (0, (0, 12)), .inr (0, (0, 0)), .inr (3, (0, 284)), .inr (0, (0, 0)), .inr (3, (0, 11))])
def rxICF274x1_13 (S0 : Nat → Int → Int) (ws : List Int) (S : Nat → Int → Int) : Prop := S 274 0 = S0 1 0 ∧ (∀ i : Nat, i < 6 → S 275 (i : Int) = S0 2 (i : Int)) ∧ (∀ i : Nat, i < 6 → S 276 (i : Int) = S0 3 (i : Int)) ∧ S 278 0 = S0 5 0 ∧ (∀ i : Nat, i < 8 → S 279 (i : Int) = S0 6 (i : Int)) ∧ (∀ i : Nat, i < 8 → S 280 (i : Int) = S0 7 (i : Int)) ∧ (∀ i : Nat, i < 8 → S 281 (i : Int) = S0 8 (i : Int)) ∧ S 274 5 = S0 1 5 ∧ (∀ i : Nat, i < 12 → S 282 (i : Int) = S0 9 (i : Int)) ∧ (∀ i : Nat, i < 12 → S 283 (i : Int) = S0 10 (i : Int)) ∧ (∀ i : Nat, i < 12 → S 284 (i : Int) = S0 11 (i : Int)) ∧ (∀ p i : Nat, p ∈ rxFl274 → i < bx_wd (rxL.1 p) → S p (i : Int) = S0 p (i : Int))
def rxmCF274x1_13 (S0 : Nat → Int → Int) (ws : List Int) (S : Nat → Int → Int) : Nat := 895
def rxzCF274x1_13 : rx_Z := ([(0, 0), (0, 0), (0, 0), (0, 0), (0, 0), (0, 0), (0, 0), (0, 0)], [], [], 0, 0, 131, [(0, .inr (3, (0, 274))), (1, .inr (3, (0, 1))), (2, .inr (0, (0, 6)))], [])
def rxICF274x1_14 (S0 : Nat → Int → Int) (ws : List Int) (S : Nat → Int → Int) (i : Int) : Prop := S 274 0 = S0 1 0 ∧ (∀ i : Nat, i < 6 → S 275 (i : Int) = S0 2 (i : Int)) ∧ (∀ i : Nat, i < 6 → S 276 (i : Int) = S0 3 (i : Int)) ∧ S 278 0 = S0 5 0 ∧ (∀ i : Nat, i < 8 → S 279 (i : Int) = S0 6 (i : Int)) ∧ (∀ i : Nat, i < 8 → S 280 (i : Int) = S0 7 (i : Int)) ∧ (∀ i : Nat, i < 8 → S 281 (i : Int) = S0 8 (i : Int)) ∧ S 274 5 = S0 1 5 ∧ (∀ i : Nat, i < 12 → S 282 (i : Int) = S0 9 (i : Int)) ∧ (∀ i : Nat, i < 12 → S 283 (i : Int) = S0 10 (i : Int)) ∧ (∀ i : Nat, i < 12 → S 284 (i : Int) = S0 11 (i : Int)) ∧ (∀ p i : Nat, p ∈ rxFl274 → i < bx_wd (rxL.1 p) → S p (i : Int) = S0 p (i : Int))
def rxmCF274x1_14 (S0 : Nat → Int → Int) (ws : List Int) (S : Nat → Int → Int) (i : Int) : Nat := 860 + (20 - i).toNat
def rxzCF274x1_14 : rx_Z := ([(0, 0), (0, 0), (0, 0), (0, 0), (0, 0), (0, 0), (0, 0), (0, 0), (0, 12)], [], [], 0, 0, 133, [(0, .inr (3, (0, 274))), (1, .inr (3, (0, 1))), (2, .inr (0, (8, 0)))], [])
def rxICF274x1_15 (S0 : Nat → Int → Int) (ws : List Int) (S : Nat → Int → Int) : Prop := S 274 0 = S0 1 0 ∧ (∀ i : Nat, i < 6 → S 275 (i : Int) = S0 2 (i : Int)) ∧ (∀ i : Nat, i < 6 → S 276 (i : Int) = S0 3 (i : Int)) ∧ S 278 0 = S0 5 0 ∧ (∀ i : Nat, i < 8 → S 279 (i : Int) = S0 6 (i : Int)) ∧ (∀ i : Nat, i < 8 → S 280 (i : Int) = S0 7 (i : Int)) ∧ (∀ i : Nat, i < 8 → S 281 (i : Int) = S0 8 (i : Int)) ∧ S 274 5 = S0 1 5 ∧ (∀ i : Nat, i < 12 → S 282 (i : Int) = S0 9 (i : Int)) ∧ (∀ i : Nat, i < 12 → S 283 (i : Int) = S0 10 (i : Int)) ∧ (∀ i : Nat, i < 12 → S 284 (i : Int) = S0 11 (i : Int)) ∧ S 274 10 = S0 1 10 ∧ (∀ p i : Nat, p ∈ rxFl274 → i < bx_wd (rxL.1 p) → S p (i : Int) = S0 p (i : Int))
def rxmCF274x1_15 (S0 : Nat → Int → Int) (ws : List Int) (S : Nat → Int → Int) : Nat := 850
def rxzCF274x1_15 : rx_Z := ([(0, 0), (0, 0), (0, 0), (0, 0), (0, 0), (0, 0), (0, 0), (0, 0)], [], [], 0, 0, 180, [(0, .inr (3, (0, 274))), (1, .inr (3, (0, 1))), (2, .inr (0, (0, 12)))], [.inr (0, (0, 12)), .inr (0, (0, 0)), .inr (3, (0, 286)), .inr (0, (0, 0)), .inr (3, (0, 13))])
def rxICF274x1_16 (S0 : Nat → Int → Int) (ws : List Int) (S : Nat → Int → Int) : Prop := S 274 0 = S0 1 0 ∧ (∀ i : Nat, i < 6 → S 275 (i : Int) = S0 2 (i : Int)) ∧ (∀ i : Nat, i < 6 → S 276 (i : Int) = S0 3 (i : Int)) ∧ S 278 0 = S0 5 0 ∧ (∀ i : Nat, i < 8 → S 279 (i : Int) = S0 6 (i : Int)) ∧ (∀ i : Nat, i < 8 → S 280 (i : Int) = S0 7 (i : Int)) ∧ (∀ i : Nat, i < 8 → S 281 (i : Int) = S0 8 (i : Int)) ∧ S 274 5 = S0 1 5 ∧ (∀ i : Nat, i < 12 → S 282 (i : Int) = S0 9 (i : Int)) ∧ (∀ i : Nat, i < 12 → S 283 (i : Int) = S0 10 (i : Int)) ∧ (∀ i : Nat, i < 12 → S 284 (i : Int) = S0 11 (i : Int)) ∧ S 274 10 = S0 1 10 ∧ (∀ i : Nat, i < 12 → S 286 (i : Int) = S0 13 (i : Int)) ∧ (∀ p i : Nat, p ∈ rxFl274 → i < bx_wd (rxL.1 p) → S p (i : Int) = S0 p (i : Int))
def rxmCF274x1_16 (S0 : Nat → Int → Int) (ws : List Int) (S : Nat → Int → Int) : Nat := 845
def rxzCF274x1_16 : rx_Z := ([(0, 0), (0, 0), (0, 0), (0, 0), (0, 0), (0, 0), (0, 0), (0, 0)], [], [], 0, 0, 183, [(0, .inr (3, (0, 274))), (1, .inr (3, (0, 1))), (2, .inr (0, (0, 12)))], [])
def rxICF274x1_17 (S0 : Nat → Int → Int) (ws : List Int) (S : Nat → Int → Int) : Prop := S 274 0 = S0 1 0 ∧ (∀ i : Nat, i < 6 → S 275 (i : Int) = S0 2 (i : Int)) ∧ (∀ i : Nat, i < 6 → S 276 (i : Int) = S0 3 (i : Int)) ∧ S 278 0 = S0 5 0 ∧ (∀ i : Nat, i < 8 → S 279 (i : Int) = S0 6 (i : Int)) ∧ (∀ i : Nat, i < 8 → S 280 (i : Int) = S0 7 (i : Int)) ∧ (∀ i : Nat, i < 8 → S 281 (i : Int) = S0 8 (i : Int)) ∧ S 274 5 = S0 1 5 ∧ (∀ i : Nat, i < 12 → S 282 (i : Int) = S0 9 (i : Int)) ∧ (∀ i : Nat, i < 12 → S 283 (i : Int) = S0 10 (i : Int)) ∧ (∀ i : Nat, i < 12 → S 284 (i : Int) = S0 11 (i : Int)) ∧ S 274 10 = S0 1 10 ∧ (∀ i : Nat, i < 12 → S 286 (i : Int) = S0 13 (i : Int)) ∧ (∀ p i : Nat, p ∈ rxFl274 → i < bx_wd (rxL.1 p) → S p (i : Int) = S0 p (i : Int))
def rxmCF274x1_17 (S0 : Nat → Int → Int) (ws : List Int) (S : Nat → Int → Int) : Nat := 840
def rxzCF274x1_17 : rx_Z := ([(0, 0), (0, 0), (0, 0), (0, 0), (0, 0), (0, 0), (0, 0), (0, 0)], [], [], 0, 0, 191, [(0, .inr (3, (0, 274))), (1, .inr (3, (0, 1))), (2, .inr (0, (0, 12)))], [.inr (3, (0, 14)), .inr (3, (0, 287))])
def rxICF274x1_18 (S0 : Nat → Int → Int) (ws : List Int) (S : Nat → Int → Int) : Prop := S 274 0 = S0 1 0 ∧ (∀ i : Nat, i < 6 → S 275 (i : Int) = S0 2 (i : Int)) ∧ (∀ i : Nat, i < 6 → S 276 (i : Int) = S0 3 (i : Int)) ∧ S 278 0 = S0 5 0 ∧ (∀ i : Nat, i < 8 → S 279 (i : Int) = S0 6 (i : Int)) ∧ (∀ i : Nat, i < 8 → S 280 (i : Int) = S0 7 (i : Int)) ∧ (∀ i : Nat, i < 8 → S 281 (i : Int) = S0 8 (i : Int)) ∧ S 274 5 = S0 1 5 ∧ (∀ i : Nat, i < 12 → S 282 (i : Int) = S0 9 (i : Int)) ∧ (∀ i : Nat, i < 12 → S 283 (i : Int) = S0 10 (i : Int)) ∧ (∀ i : Nat, i < 12 → S 284 (i : Int) = S0 11 (i : Int)) ∧ S 274 10 = S0 1 10 ∧ (∀ i : Nat, i < 12 → S 286 (i : Int) = S0 13 (i : Int)) ∧ S 287 0 = S0 14 0 ∧ (∀ i : Nat, i < 12 → S 288 (i : Int) = S0 15 (i : Int)) ∧ (∀ i : Nat, i < 12 → S 289 (i : Int) = S0 16 (i : Int)) ∧ (∀ i : Nat, i < 12 → S 290 (i : Int) = S0 17 (i : Int)) ∧ (∀ p i : Nat, p ∈ rxFl274 → i < bx_wd (rxL.1 p) → S p (i : Int) = S0 p (i : Int))
def rxmCF274x1_18 (S0 : Nat → Int → Int) (ws : List Int) (S : Nat → Int → Int) : Nat := 835
def rxzCF274x1_18 : rx_Z := ([(0, 0), (0, 0), (0, 0), (0, 0), (0, 0), (0, 0), (0, 0), (0, 0)], [], [], 0, 0, 194, [(0, .inr (3, (0, 274))), (1, .inr (3, (0, 1))), (2, .inr (0, (0, 12)))], [])
def rxICF274x1_19 (S0 : Nat → Int → Int) (ws : List Int) (S : Nat → Int → Int) : Prop := S 274 0 = S0 1 0 ∧ (∀ i : Nat, i < 6 → S 275 (i : Int) = S0 2 (i : Int)) ∧ (∀ i : Nat, i < 6 → S 276 (i : Int) = S0 3 (i : Int)) ∧ S 278 0 = S0 5 0 ∧ (∀ i : Nat, i < 8 → S 279 (i : Int) = S0 6 (i : Int)) ∧ (∀ i : Nat, i < 8 → S 280 (i : Int) = S0 7 (i : Int)) ∧ (∀ i : Nat, i < 8 → S 281 (i : Int) = S0 8 (i : Int)) ∧ S 274 5 = S0 1 5 ∧ (∀ i : Nat, i < 12 → S 282 (i : Int) = S0 9 (i : Int)) ∧ (∀ i : Nat, i < 12 → S 283 (i : Int) = S0 10 (i : Int)) ∧ (∀ i : Nat, i < 12 → S 284 (i : Int) = S0 11 (i : Int)) ∧ S 274 10 = S0 1 10 ∧ (∀ i : Nat, i < 12 → S 286 (i : Int) = S0 13 (i : Int)) ∧ S 287 0 = S0 14 0 ∧ (∀ i : Nat, i < 12 → S 288 (i : Int) = S0 15 (i : Int)) ∧ (∀ i : Nat, i < 12 → S 289 (i : Int) = S0 16 (i : Int)) ∧ (∀ i : Nat, i < 12 → S 290 (i : Int) = S0 17 (i : Int)) ∧ (∀ p i : Nat, p ∈ rxFl274 → i < bx_wd (rxL.1 p) → S p (i : Int) = S0 p (i : Int))
def rxmCF274x1_19 (S0 : Nat → Int → Int) (ws : List Int) (S : Nat → Int → Int) : Nat := 830
def rxzCF274x1_19 : rx_Z := ([(0, 0), (0, 0), (0, 0), (0, 0), (0, 0), (0, 0), (0, 0), (0, 0)], [], [], 0, 0, 205, [(0, .inr (3, (0, 274))), (1, .inr (3, (0, 1))), (2, .inr (0, (0, 12)))], [.inr (0, (0, 3)), .inr (0, (0, 0)), .inr (3, (0, 292)), .inr (0, (0, 0)), .inr (3, (0, 19))])
def rxICF274x1_20 (S0 : Nat → Int → Int) (ws : List Int) (S : Nat → Int → Int) : Prop := S 274 0 = S0 1 0 ∧ (∀ i : Nat, i < 6 → S 275 (i : Int) = S0 2 (i : Int)) ∧ (∀ i : Nat, i < 6 → S 276 (i : Int) = S0 3 (i : Int)) ∧ S 278 0 = S0 5 0 ∧ (∀ i : Nat, i < 8 → S 279 (i : Int) = S0 6 (i : Int)) ∧ (∀ i : Nat, i < 8 → S 280 (i : Int) = S0 7 (i : Int)) ∧ (∀ i : Nat, i < 8 → S 281 (i : Int) = S0 8 (i : Int)) ∧ S 274 5 = S0 1 5 ∧ (∀ i : Nat, i < 12 → S 282 (i : Int) = S0 9 (i : Int)) ∧ (∀ i : Nat, i < 12 → S 283 (i : Int) = S0 10 (i : Int)) ∧ (∀ i : Nat, i < 12 → S 284 (i : Int) = S0 11 (i : Int)) ∧ S 274 10 = S0 1 10 ∧ (∀ i : Nat, i < 12 → S 286 (i : Int) = S0 13 (i : Int)) ∧ S 287 0 = S0 14 0 ∧ (∀ i : Nat, i < 12 → S 288 (i : Int) = S0 15 (i : Int)) ∧ (∀ i : Nat, i < 12 → S 289 (i : Int) = S0 16 (i : Int)) ∧ (∀ i : Nat, i < 12 → S 290 (i : Int) = S0 17 (i : Int)) ∧ (∀ i : Nat, i < 3 → S 292 (i : Int) = S0 19 (i : Int)) ∧ (∀ p i : Nat, p ∈ rxFl274 → i < bx_wd (rxL.1 p) → S p (i : Int) = S0 p (i : Int))
def rxmCF274x1_20 (S0 : Nat → Int → Int) (ws : List Int) (S : Nat → Int → Int) : Nat := 825
def rxzCF274x1_20 : rx_Z := ([(0, 0), (0, 0), (0, 0), (0, 0), (0, 0), (0, 0), (0, 0), (0, 0)], [], [], 0, 0, 208, [(0, .inr (3, (0, 274))), (1, .inr (3, (0, 1))), (2, .inr (0, (0, 12)))], [])
def rxICF274x1_21 (S0 : Nat → Int → Int) (ws : List Int) (S : Nat → Int → Int) (i : Int) : Prop := S 274 0 = S0 1 0 ∧ (∀ i : Nat, i < 6 → S 275 (i : Int) = S0 2 (i : Int)) ∧ (∀ i : Nat, i < 6 → S 276 (i : Int) = S0 3 (i : Int)) ∧ S 278 0 = S0 5 0 ∧ (∀ i : Nat, i < 8 → S 279 (i : Int) = S0 6 (i : Int)) ∧ (∀ i : Nat, i < 8 → S 280 (i : Int) = S0 7 (i : Int)) ∧ (∀ i : Nat, i < 8 → S 281 (i : Int) = S0 8 (i : Int)) ∧ S 274 5 = S0 1 5 ∧ (∀ i : Nat, i < 12 → S 282 (i : Int) = S0 9 (i : Int)) ∧ (∀ i : Nat, i < 12 → S 283 (i : Int) = S0 10 (i : Int)) ∧ (∀ i : Nat, i < 12 → S 284 (i : Int) = S0 11 (i : Int)) ∧ S 274 10 = S0 1 10 ∧ (∀ i : Nat, i < 12 → S 286 (i : Int) = S0 13 (i : Int)) ∧ S 287 0 = S0 14 0 ∧ (∀ i : Nat, i < 12 → S 288 (i : Int) = S0 15 (i : Int)) ∧ (∀ i : Nat, i < 12 → S 289 (i : Int) = S0 16 (i : Int)) ∧ (∀ i : Nat, i < 12 → S 290 (i : Int) = S0 17 (i : Int)) ∧ (∀ i : Nat, i < 3 → S 292 (i : Int) = S0 19 (i : Int)) ∧ S 274 14 = S0 1 14 ∧ S 274 15 = S0 1 15 ∧ (∀ p i : Nat, p ∈ rxFl274 → i < bx_wd (rxL.1 p) → S p (i : Int) = S0 p (i : Int))
def rxmCF274x1_21 (S0 : Nat → Int → Int) (ws : List Int) (S : Nat → Int → Int) (i : Int) : Nat := 790 + (20 - i).toNat
def rxzCF274x1_21 : rx_Z := ([(0, 0), (0, 0), (0, 0), (0, 0), (0, 0), (0, 0), (0, 0), (0, 0), (0, 6)], [], [], 0, 0, 226, [(0, .inr (3, (0, 274))), (1, .inr (3, (0, 1))), (2, .inr (0, (8, 0)))], [])
def rxoCF274x1_0_0 : bx_HO := (([(0, 0), (0, 0), (0, 0), (0, 0), (0, 0), (0, 0), (0, 0), (0, 0), (0, 6)], [], [(((0, 274), 1), .inr (3, (0, 275))), (((0, 1), 1), .inr (3, (0, 2))), (((0, 0), 1851192626986356797424340330377019318111018015026043177714974723000000), .inr (0, (8, 0))), (((0, 274), 0), .inr (0, (8, 0))), (((0, 0), 1851192626986356797424340330377019318111018015026043177553952768000000), .inr (0, (8, 0)))], 0, 0, 20, [(0, .inr (3, (0, 274))), (1, .inr (3, (0, 1)))], [.inr (0, (0, 6)), .inr (0, (0, 0)), .inr (3, (0, 275)), .inr (0, (0, 0)), .inr (3, (0, 2))]), [], [], [(0, 0), (0, 0), (0, 0), (0, 0), (0, 0), (0, 0), (0, 0), (0, 0)], 1)
def rxoCF274x1_2_0 : bx_HO := (([(0, 0), (0, 0), (0, 0), (0, 0), (0, 0), (0, 0), (0, 0), (0, 0)], [], [(((0, 274), 2), .inr (3, (0, 276))), (((0, 1), 2), .inr (3, (0, 3)))], 0, 0, 35, [(0, .inr (3, (0, 274))), (1, .inr (3, (0, 1)))], [.inr (0, (0, 6)), .inr (0, (0, 0)), .inr (3, (0, 276)), .inr (0, (0, 0)), .inr (3, (0, 3))]), [], [], [(0, 0), (0, 0), (0, 0), (0, 0), (0, 0), (0, 0), (0, 0), (0, 0)], 3)
def rxoCF274x1_4_0 : bx_HO := (([(0, 0), (0, 0), (0, 0), (0, 0), (0, 0), (0, 0), (0, 0), (0, 0)], [], [], 0, 0, 40, [(2, .inr (0, (0, 0))), (0, .inr (3, (0, 274))), (1, .inr (3, (0, 1)))], []), [], [], [(0, 0), (0, 0), (0, 0), (0, 0), (0, 0), (0, 0), (0, 0), (0, 0), (0, 0)], 5)
def rxoCF274x1_5_0 : bx_HO := (([(0, 0), (0, 0), (0, 0), (0, 0), (0, 0), (0, 0), (0, 0), (0, 0), (0, 5), (0, 1522), (0, 1522)], [], [(((0, 0), 917100006000000), .inl none), (((0, 0), 918000006000000), .inl none), (((0, 0), 89999100006000000), .inl none), (((0, 0), 1851192626986356797424364830707437625680387377997778264866947072000000), .inr (3, (10, 0))), (((10, 0), 1000010), .inl none), (((0, 1), 3), .inr (3, (0, 4))), (((0, 0), 1851192626986356797424364830707437625680387377997778265027969024000000), .inr (3, (9, 0))), (((9, 0), 1000010), .inl none), (((0, 274), 3), .inr (3, (0, 277)))], 0, 0, 40, [(2, .inr (0, (8, 1))), (0, .inr (3, (0, 274))), (1, .inr (3, (0, 1)))], []), [], [], [(0, 0), (0, 0), (0, 0), (0, 0), (0, 0), (0, 0), (0, 0), (0, 0), (8, 1)], 5)
def rxoCF274x1_5_1 : bx_HO := (([(0, 0), (0, 0), (0, 0), (0, 0), (0, 0), (0, 0), (0, 0), (0, 0), (6, 6)], [], [(((0, 1), 4), .inr (3, (0, 5))), (((0, 274), 4), .inr (3, (0, 278)))], 0, 0, 75, [(0, .inr (3, (0, 274))), (1, .inr (3, (0, 1))), (2, .inr (0, (8, 0)))], [.inr (3, (0, 5)), .inr (3, (0, 278))]), [], [], [(0, 0), (0, 0), (0, 0), (0, 0), (0, 0), (0, 0), (0, 0), (0, 0)], 6)
def rxoCF274x1_7_0 : bx_HO := (([(0, 0), (0, 0), (0, 0), (0, 0), (0, 0), (0, 0), (0, 0), (0, 0), (0, 12)], [], [(((0, 274), 6), .inr (3, (0, 282))), (((0, 1), 6), .inr (3, (0, 9))), (((0, 0), 1851192626986356798427873864310897359480125337295219445484093443000000), .inr (0, (8, 0))), (((0, 274), 5), .inr (0, (8, 0))), (((0, 0), 1851192626986356798427873864310897359480125337295219445323071488000000), .inr (0, (8, 0)))], 0, 0, 98, [(0, .inr (3, (0, 274))), (1, .inr (3, (0, 1))), (2, .inr (0, (0, 6)))], [.inr (0, (0, 12)), .inr (0, (0, 0)), .inr (3, (0, 282)), .inr (0, (0, 0)), .inr (3, (0, 9))]), [], [], [(0, 0), (0, 0), (0, 0), (0, 0), (0, 0), (0, 0), (0, 0), (0, 0)], 8)
def rxoCF274x1_9_0 : bx_HO := (([(0, 0), (0, 0), (0, 0), (0, 0), (0, 0), (0, 0), (0, 0), (0, 0)], [], [(((0, 274), 7), .inr (3, (0, 283))), (((0, 1), 7), .inr (3, (0, 10)))], 0, 0, 113, [(0, .inr (3, (0, 274))), (1, .inr (3, (0, 1))), (2, .inr (0, (0, 6)))], [.inr (0, (0, 12)), .inr (0, (0, 0)), .inr (3, (0, 283)), .inr (0, (0, 0)), .inr (3, (0, 10))]), [], [], [(0, 0), (0, 0), (0, 0), (0, 0), (0, 0), (0, 0), (0, 0), (0, 0)], 10)
def rxoCF274x1_11_0 : bx_HO := (([(0, 0), (0, 0), (0, 0), (0, 0), (0, 0), (0, 0), (0, 0), (0, 0)], [], [(((0, 274), 8), .inr (3, (0, 284))), (((0, 1), 8), .inr (3, (0, 11)))], 0, 0, 128, [(0, .inr (3, (0, 274))), (1, .inr (3, (0, 1))), (2, .inr (0, (0, 6)))], [.inr (0, (0, 12)), .inr (0, (0, 0)), .inr (3, (0, 284)), .inr (0, (0, 0)), .inr (3, (0, 11))]), [], [], [(0, 0), (0, 0), (0, 0), (0, 0), (0, 0), (0, 0), (0, 0), (0, 0)], 12)
def rxoCF274x1_13_0 : bx_HO := (([(0, 0), (0, 0), (0, 0), (0, 0), (0, 0), (0, 0), (0, 0), (0, 0)], [], [], 0, 0, 133, [(2, .inr (0, (0, 0))), (0, .inr (3, (0, 274))), (1, .inr (3, (0, 1)))], []), [], [], [(0, 0), (0, 0), (0, 0), (0, 0), (0, 0), (0, 0), (0, 0), (0, 0), (0, 0)], 14)
def rxoCF274x1_14_0 : bx_HO := (([(0, 0), (0, 0), (0, 0), (0, 0), (0, 0), (0, 0), (0, 0), (0, 0), (0, 11), (0, 1522), (0, 1522)], [], [(((0, 0), 917100006000000), .inl none), (((0, 0), 918000006000000), .inl none), (((0, 0), 89999100006000000), .inl none), (((0, 0), 1851192626986356797424364830707437625680387377997778264871665664000000), .inr (3, (10, 0))), (((10, 0), 1000010), .inl none), (((0, 1), 9), .inr (3, (0, 12))), (((0, 0), 1851192626986356797424364830707437625680387377997778265032687616000000), .inr (3, (9, 0))), (((9, 0), 1000010), .inl none), (((0, 274), 9), .inr (3, (0, 285)))], 0, 0, 133, [(2, .inr (0, (8, 1))), (0, .inr (3, (0, 274))), (1, .inr (3, (0, 1)))], []), [], [], [(0, 0), (0, 0), (0, 0), (0, 0), (0, 0), (0, 0), (0, 0), (0, 0), (8, 1)], 14)
def rxoCF274x1_14_1 : bx_HO := (([(0, 0), (0, 0), (0, 0), (0, 0), (0, 0), (0, 0), (0, 0), (0, 0), (12, 12), (0, 12)], [], [(((0, 274), 11), .inr (3, (0, 286))), (((0, 1), 11), .inr (3, (0, 13))), (((0, 0), 1851192626986356799431407398244775400849232659564395713253212163000000), .inr (0, (9, 0))), (((0, 274), 10), .inr (0, (9, 0))), (((0, 0), 1851192626986356799431407398244775400849232659564395713092190208000000), .inr (0, (9, 0)))], 0, 0, 180, [(0, .inr (3, (0, 274))), (1, .inr (3, (0, 1))), (2, .inr (0, (8, 0)))], [.inr (0, (0, 12)), .inr (0, (0, 0)), .inr (3, (0, 286)), .inr (0, (0, 0)), .inr (3, (0, 13))]), [], [], [(0, 0), (0, 0), (0, 0), (0, 0), (0, 0), (0, 0), (0, 0), (0, 0)], 15)
def rxoCF274x1_16_0 : bx_HO := (([(0, 0), (0, 0), (0, 0), (0, 0), (0, 0), (0, 0), (0, 0), (0, 0)], [], [(((0, 1), 12), .inr (3, (0, 14))), (((0, 274), 12), .inr (3, (0, 287)))], 0, 0, 191, [(0, .inr (3, (0, 274))), (1, .inr (3, (0, 1))), (2, .inr (0, (0, 12)))], [.inr (3, (0, 14)), .inr (3, (0, 287))]), [], [], [(0, 0), (0, 0), (0, 0), (0, 0), (0, 0), (0, 0), (0, 0), (0, 0)], 17)
def rxoCF274x1_18_0 : bx_HO := (([(0, 0), (0, 0), (0, 0), (0, 0), (0, 0), (0, 0), (0, 0), (0, 0)], [], [(((0, 274), 13), .inr (3, (0, 292))), (((0, 1), 13), .inr (3, (0, 19)))], 0, 0, 205, [(0, .inr (3, (0, 274))), (1, .inr (3, (0, 1))), (2, .inr (0, (0, 12)))], [.inr (0, (0, 3)), .inr (0, (0, 0)), .inr (3, (0, 292)), .inr (0, (0, 0)), .inr (3, (0, 19))]), [], [], [(0, 0), (0, 0), (0, 0), (0, 0), (0, 0), (0, 0), (0, 0), (0, 0)], 19)
def rxoCF274x1_20_0 : bx_HO := (([(0, 0), (0, 0), (0, 0), (0, 0), (0, 0), (0, 0), (0, 0), (0, 0), (0, 6), ((-1), 5)], [], [(((0, 0), 1851192626986356800434940932178653442218339981833571981022330883000000), .inr (0, (9, 0))), (((0, 274), 15), .inr (0, (9, 0))), (((0, 0), 1851192626986356800434940932178653442218339981833571980861308928000000), .inr (0, (9, 0))), (((0, 0), 1851192626986356800234234225391877833944518517379736727468507139000000), .inr (0, (8, 0))), (((0, 274), 14), .inr (0, (8, 0))), (((0, 0), 1851192626986356800234234225391877833944518517379736727307485184000000), .inr (0, (8, 0)))], 0, 0, 226, [(2, .inr (0, (0, 0))), (0, .inr (3, (0, 274))), (1, .inr (3, (0, 1)))], []), [], [], [(0, 0), (0, 0), (0, 0), (0, 0), (0, 0), (0, 0), (0, 0), (0, 0), (0, 0)], 21)
def rxoCF274x1_21_0 : bx_HO := (([(0, 0), (0, 0), (0, 0), (0, 0), (0, 0), (0, 0), (0, 0), (0, 0), (0, 5), (1, 6), (0, 1522), (0, 1522)], [(0, (8, 0), (9, 0))], [(((0, 0), 5400006000000), .inl none), (((0, 0), 5400042000000), .inl none), (((0, 0), 918900006000000), .inl none), (((0, 0), 919800006000000), .inl none), (((0, 0), 921600006000000), .inl none), (((0, 0), 922500006000000), .inl none), (((0, 0), 923400006000000), .inl none), (((0, 0), 924300006000000), .inl none), (((0, 0), 89999100006000000), .inl none), (((0, 0), 1851192626986356797424364830707437625680387377997778264876384256000000), .inr (3, (11, 0))), (((11, 0), 1000007), .inl none), (((0, 1), 16), .inr (3, (0, 20))), (((0, 0), 1851192626986356797424364830707437625680387377997778265037406208000000), .inr (3, (10, 0))), (((10, 0), 1000007), .inl none), (((0, 274), 16), .inr (3, (0, 293))), (((0, 0), 1851192626986356800234234225391877833944518517379736727468507136000000), .inr (0, (9, 0))), (((0, 274), 14), .inr (0, (9, 0)))], 0, 0, 226, [(2, .inr (0, (8, 1))), (0, .inr (3, (0, 274))), (1, .inr (3, (0, 1)))], []), [], [], [(0, 0), (0, 0), (0, 0), (0, 0), (0, 0), (0, 0), (0, 0), (0, 0), (8, 1)], 21)
def rxeCF274x1_21_0 : rx_End × List (Nat × Int × Int) := (([(0, 0), (0, 0), (0, 0), (0, 0), (0, 0), (0, 0), (0, 0), (0, 0), (0, 6), (0, 6)], [(1, (9, 0), (8, 0))], [(((0, 0), 1851192626986356800234234225391877833944518517379736727468507136000000), .inr (0, (9, 0))), (((0, 274), 14), .inr (0, (9, 0)))], none), [])
def rxYCF274x1 : List bx_HE := [(rxzCF274x1_0, [rxoCF274x1_0_0], []), (rxzCF274x1_1, [], []), (rxzCF274x1_2, [rxoCF274x1_2_0], []), (rxzCF274x1_3, [], []), (rxzCF274x1_4, [rxoCF274x1_4_0], []), (rxzCF274x1_5, [rxoCF274x1_5_0, rxoCF274x1_5_1], []), (rxzCF274x1_6, [], []), (rxzCF274x1_7, [rxoCF274x1_7_0], []), (rxzCF274x1_8, [], []), (rxzCF274x1_9, [rxoCF274x1_9_0], []), (rxzCF274x1_10, [], []), (rxzCF274x1_11, [rxoCF274x1_11_0], []), (rxzCF274x1_12, [], []), (rxzCF274x1_13, [rxoCF274x1_13_0], []), (rxzCF274x1_14, [rxoCF274x1_14_0, rxoCF274x1_14_1], []), (rxzCF274x1_15, [], []), (rxzCF274x1_16, [rxoCF274x1_16_0], []), (rxzCF274x1_17, [], []), (rxzCF274x1_18, [rxoCF274x1_18_0], []), (rxzCF274x1_19, [], []), (rxzCF274x1_20, [rxoCF274x1_20_0], []), (rxzCF274x1_21, [rxoCF274x1_21_0], [rxeCF274x1_21_0])]
def rxUCF274x1 (q : bx_HE) : Bool := Nat.beq (rx_zpc q.1) 20 || Nat.beq (rx_zpc q.1) 35 || Nat.beq (rx_zpc q.1) 75 || Nat.beq (rx_zpc q.1) 98 || Nat.beq (rx_zpc q.1) 113 || Nat.beq (rx_zpc q.1) 128 || Nat.beq (rx_zpc q.1) 180 || Nat.beq (rx_zpc q.1) 191 || Nat.beq (rx_zpc q.1) 205
def rxYBCF274x1 : bx_B := (rxV, rxNP, rxDmf, bx_mdH rxCCF274x1.2.2.1)
set_option maxRecDepth 100000 in
theorem rxYcCF274x1 : bx_chkH rxYBCF274x1 rxM154 rxCCF274x1 rxYCF274x1 (rxUCF274x1, fun cut z => rx_ex2 (rxCT rxYBCF274x1 rxCn) cut 30000 rxCCF274x1.2.2.2.1 154 z) = true := by decide +kernel
def rxICF274x1 (S0 : Nat → Int → Int) (ws : List Int) (i : Nat) : bx_SP := fun S r => match i with | 0 => rxICF274x1_0 S0 ws S | 1 => rxICF274x1_1 S0 ws S | 2 => rxICF274x1_2 S0 ws S | 3 => rxICF274x1_3 S0 ws S | 4 => rxICF274x1_4 S0 ws S | 5 => rxICF274x1_5 S0 ws S (r 8) | 6 => rxICF274x1_6 S0 ws S | 7 => rxICF274x1_7 S0 ws S | 8 => rxICF274x1_8 S0 ws S | 9 => rxICF274x1_9 S0 ws S | 10 => rxICF274x1_10 S0 ws S | 11 => rxICF274x1_11 S0 ws S | 12 => rxICF274x1_12 S0 ws S | 13 => rxICF274x1_13 S0 ws S | 14 => rxICF274x1_14 S0 ws S (r 8) | 15 => rxICF274x1_15 S0 ws S | 16 => rxICF274x1_16 S0 ws S | 17 => rxICF274x1_17 S0 ws S | 18 => rxICF274x1_18 S0 ws S | 19 => rxICF274x1_19 S0 ws S | 20 => rxICF274x1_20 S0 ws S | 21 => rxICF274x1_21 S0 ws S (r 8) | _ => False
def rxmCF274x1 (S0 : Nat → Int → Int) (ws : List Int) (i : Nat) (S : Nat → Int → Int) (r : Nat → Int) : Nat := match i with | 0 => rxmCF274x1_0 S0 ws S | 1 => rxmCF274x1_1 S0 ws S | 2 => rxmCF274x1_2 S0 ws S | 3 => rxmCF274x1_3 S0 ws S | 4 => rxmCF274x1_4 S0 ws S | 5 => rxmCF274x1_5 S0 ws S (r 8) | 6 => rxmCF274x1_6 S0 ws S | 7 => rxmCF274x1_7 S0 ws S | 8 => rxmCF274x1_8 S0 ws S | 9 => rxmCF274x1_9 S0 ws S | 10 => rxmCF274x1_10 S0 ws S | 11 => rxmCF274x1_11 S0 ws S | 12 => rxmCF274x1_12 S0 ws S | 13 => rxmCF274x1_13 S0 ws S | 14 => rxmCF274x1_14 S0 ws S (r 8) | 15 => rxmCF274x1_15 S0 ws S | 16 => rxmCF274x1_16 S0 ws S | 17 => rxmCF274x1_17 S0 ws S | 18 => rxmCF274x1_18 S0 ws S | 19 => rxmCF274x1_19 S0 ws S | 20 => rxmCF274x1_20 S0 ws S | 21 => rxmCF274x1_21 S0 ws S (r 8) | _ => 0
def rxPCF274x1 (S0 : Nat → Int → Int) (ws : List Int) : Prop := True
def rxPSCF274x1 (S0 : Nat → Int → Int) (ws : List Int) (S : Nat → Int → Int) (w : Option Int) : Prop := w = none ∧ S 274 0 = S0 1 0 ∧ (∀ i : Nat, i < 6 → S 275 (i : Int) = S0 2 (i : Int)) ∧ (∀ i : Nat, i < 6 → S 276 (i : Int) = S0 3 (i : Int)) ∧ S 278 0 = S0 5 0 ∧ (∀ i : Nat, i < 8 → S 279 (i : Int) = S0 6 (i : Int)) ∧ (∀ i : Nat, i < 8 → S 280 (i : Int) = S0 7 (i : Int)) ∧ (∀ i : Nat, i < 8 → S 281 (i : Int) = S0 8 (i : Int)) ∧ S 274 5 = S0 1 5 ∧ (∀ i : Nat, i < 12 → S 282 (i : Int) = S0 9 (i : Int)) ∧ (∀ i : Nat, i < 12 → S 283 (i : Int) = S0 10 (i : Int)) ∧ (∀ i : Nat, i < 12 → S 284 (i : Int) = S0 11 (i : Int)) ∧ S 274 10 = S0 1 10 ∧ (∀ i : Nat, i < 12 → S 286 (i : Int) = S0 13 (i : Int)) ∧ S 287 0 = S0 14 0 ∧ (∀ i : Nat, i < 12 → S 288 (i : Int) = S0 15 (i : Int)) ∧ (∀ i : Nat, i < 12 → S 289 (i : Int) = S0 16 (i : Int)) ∧ (∀ i : Nat, i < 12 → S 290 (i : Int) = S0 17 (i : Int)) ∧ (∀ i : Nat, i < 3 → S 292 (i : Int) = S0 19 (i : Int)) ∧ S 274 14 = S0 1 14 ∧ S 274 15 = S0 1 15 ∧ (∀ p i : Nat, p ∈ rxFl274 → i < bx_wd (rxL.1 p) → S p (i : Int) = S0 p (i : Int))
theorem rxtCF274x1_1 {S0 : Nat → Int → Int} {ws : List Int} {S : Nat → Int → Int} (hP : rxPCF274x1 S0 ws) (hin : bx_same rxL (bx_mdl rxCCF274x1.2.2.1) S0 S) (I0 : bx_Inv rxL S) (hinv : rxICF274x1_1 S0 ws S)  : rxICF274x1_2 S0 ws (bx_cpS S 2 275 6) ∧ rxmCF274x1_2 S0 ws (bx_cpS S 2 275 6) < rxmCF274x1_1 S0 ws S := by
  obtain ⟨h0, hf⟩ := hinv
  refine ⟨⟨?_, ?_, ?_⟩, by unfold rxmCF274x1_1 rxmCF274x1_2; omega⟩
  · exact (bx_cpS_ne (by decide)).trans h0
  · exact fun i hi => (bx_cpS_in (by omega) (by omega)).trans (hf 2 i (by decide) (show i < 6 from hi))
  · exact fun p i hp hi => (bx_cpS_ne (fun e => by subst e; revert hp; decide)).trans (hf p i hp hi)
theorem rxsCF274x1_1 {X : (Nat → Int → Int) → Prop} {S0 : Nat → Int → Int} {ws : List Int} (hP : rxPCF274x1 S0 ws) (hX : ∀ S S1 : Nat → Int → Int, X S → bx_same rxL (bx_mdl rxCCF274x1.2.2.1) S S1 → X S1) : rx_obY X S0 rxCCF274x1.2.2.1 (rxICF274x1 S0 ws) (rxmCF274x1 S0 ws) 1 2 rxzCF274x1_1 2 275 6 := by
  intro S r hinv hXS I0 hin hs_ hf_
  have b_ := bx_bds_sat hs_
  have f_ := bx_fcl_ok hs_.1 hf_
  have g := rxtCF274x1_1 hP hin I0 hinv 
  exact ⟨g.1, g.2, hX _ _ hXS (rx_same_cp (fun _ _ _ _ _ => rfl) (g1 := 0) rfl (by decide +kernel)), rx_same_cp hin (g1 := 0) rfl (by decide +kernel)⟩
theorem rxtCF274x1_3 {S0 : Nat → Int → Int} {ws : List Int} {S : Nat → Int → Int} (hP : rxPCF274x1 S0 ws) (hin : bx_same rxL (bx_mdl rxCCF274x1.2.2.1) S0 S) (I0 : bx_Inv rxL S) (hinv : rxICF274x1_3 S0 ws S)  : rxICF274x1_4 S0 ws (bx_cpS S 3 276 6) ∧ rxmCF274x1_4 S0 ws (bx_cpS S 3 276 6) < rxmCF274x1_3 S0 ws S := by
  obtain ⟨h0, h1, hf⟩ := hinv
  refine ⟨⟨?_, ?_, ?_, ?_⟩, by unfold rxmCF274x1_3 rxmCF274x1_4; omega⟩
  · exact (bx_cpS_ne (by decide)).trans h0
  · exact fun i hi => (bx_cpS_ne (by decide)).trans (h1 i hi)
  · exact fun i hi => (bx_cpS_in (by omega) (by omega)).trans (hf 3 i (by decide) (show i < 6 from hi))
  · exact fun p i hp hi => (bx_cpS_ne (fun e => by subst e; revert hp; decide)).trans (hf p i hp hi)
theorem rxsCF274x1_3 {X : (Nat → Int → Int) → Prop} {S0 : Nat → Int → Int} {ws : List Int} (hP : rxPCF274x1 S0 ws) (hX : ∀ S S1 : Nat → Int → Int, X S → bx_same rxL (bx_mdl rxCCF274x1.2.2.1) S S1 → X S1) : rx_obY X S0 rxCCF274x1.2.2.1 (rxICF274x1 S0 ws) (rxmCF274x1 S0 ws) 3 4 rxzCF274x1_3 3 276 6 := by
  intro S r hinv hXS I0 hin hs_ hf_
  have b_ := bx_bds_sat hs_
  have f_ := bx_fcl_ok hs_.1 hf_
  have g := rxtCF274x1_3 hP hin I0 hinv 
  exact ⟨g.1, g.2, hX _ _ hXS (rx_same_cp (fun _ _ _ _ _ => rfl) (g1 := 1) rfl (by decide +kernel)), rx_same_cp hin (g1 := 1) rfl (by decide +kernel)⟩
theorem rxkCF274x1_6 {S0 : Nat → Int → Int} {ws : List Int} {S : Nat → Int → Int} (hP : rxPCF274x1 S0 ws) (hin : bx_same rxL (bx_mdl rxCCF274x1.2.2.1) S0 S) (I0 : bx_Inv rxL S) (hinv : rxICF274x1_6 S0 ws S)  : rxPPC278x5 S [278, 5] ∧ ∀ (S_p : Nat → Int → Int), rxPSPC278x5 S [278, 5] S_p none → bx_Inv rxL S_p → bx_same rxL (bx_mdl rxCPC278x5.2.2.1) S S_p → rxICF274x1_7 S0 ws S_p ∧ rxmCF274x1_7 S0 ws S_p < rxmCF274x1_6 S0 ws S := by
  obtain ⟨h0, h1, h2, hf⟩ := hinv
  refine ⟨trivial, fun S_p hq _ hsm => ⟨⟨?_, ?_, ?_, ?_, ?_, ?_, ?_, ?_⟩, by unfold rxmCF274x1_6 rxmCF274x1_7; omega⟩⟩
  all_goals obtain ⟨-, q0, q1, q2, q3, qf⟩ := hq
  · exact (qf _ _ (by decide) (by decide) (by decide) (by decide)).trans h0
  · exact fun i hi => (qf _ _ (by decide) (by decide) (by decide) (by decide)).trans (h1 i hi)
  · exact fun i hi => (qf _ _ (by decide) (by decide) (by decide) (by decide)).trans (h2 i hi)
  · exact q0.trans (hf 5 0 (by decide) (by decide))
  · exact fun i hi => (q1 i (by omega) (by omega)).trans (hf 6 i (by decide) (show i < 8 from hi))
  · exact fun i hi => (q2 i (by omega) (by omega)).trans (hf 7 i (by decide) (show i < 8 from hi))
  · exact fun i hi => (q3 i (by omega) (by omega)).trans (hf 8 i (by decide) (show i < 8 from hi))
  · exact fun p i hp hi => (qf p i (fun e => by subst e; revert hp; decide) (fun e => by subst e; revert hp; decide) (fun e => by subst e; revert hp; decide) (fun e => by subst e; revert hp; decide)).trans (hf p i hp hi)
theorem rxsCF274x1_6 {X : (Nat → Int → Int) → Prop} {S0 : Nat → Int → Int} {ws : List Int} (hP : rxPCF274x1 S0 ws) : rx_obK X S0 rxCCF274x1.2.2.1 rxCPC278x5.2.2.1 (rxICF274x1 S0 ws) (rxmCF274x1 S0 ws) 6 7 rxzCF274x1_6 rxzCF274x1_7 [.inr (3, (0, 278)), .inr (3, (0, 5))] none rxPPC278x5 rxPSPC278x5 := by
  intro S r hinv hXS I0 hin hs_ hf_
  have b_ := bx_bds_sat hs_
  have f_ := bx_fcl_ok hs_.1 hf_
  have g := rxkCF274x1_6 hP hin I0 hinv 
  have ea : List.map (bx_num r) [.inr (3, (0, 278)), .inr (3, (0, 5))] = [278, 5] := by
    simp only [List.map_cons, List.map_nil, bx_xv_ok hs_.1]
    rfl
  rw [ea]
  refine ⟨g.1, fun S_p w r_p hPS hX_p I1 hsm hr hw hs_p => ?_⟩
  have hw : w = none := hPS.1
  subst hw
  have g2 := g.2 S_p hPS I1 hsm
  show rxICF274x1_7 S0 ws S_p ∧ rxmCF274x1_7 S0 ws S_p < _
  exact g2
theorem rxtCF274x1_8 {S0 : Nat → Int → Int} {ws : List Int} {S : Nat → Int → Int} (hP : rxPCF274x1 S0 ws) (hin : bx_same rxL (bx_mdl rxCCF274x1.2.2.1) S0 S) (I0 : bx_Inv rxL S) (hinv : rxICF274x1_8 S0 ws S)  : rxICF274x1_9 S0 ws (bx_cpS S 9 282 12) ∧ rxmCF274x1_9 S0 ws (bx_cpS S 9 282 12) < rxmCF274x1_8 S0 ws S := by
  obtain ⟨h0, h1, h2, h3, h4, h5, h6, h7, hf⟩ := hinv
  refine ⟨⟨?_, ?_, ?_, ?_, ?_, ?_, ?_, ?_, ?_, ?_⟩, by unfold rxmCF274x1_8 rxmCF274x1_9; omega⟩
  · exact (bx_cpS_ne (by decide)).trans h0
  · exact fun i hi => (bx_cpS_ne (by decide)).trans (h1 i hi)
  · exact fun i hi => (bx_cpS_ne (by decide)).trans (h2 i hi)
  · exact (bx_cpS_ne (by decide)).trans h3
  · exact fun i hi => (bx_cpS_ne (by decide)).trans (h4 i hi)
  · exact fun i hi => (bx_cpS_ne (by decide)).trans (h5 i hi)
  · exact fun i hi => (bx_cpS_ne (by decide)).trans (h6 i hi)
  · exact (bx_cpS_ne (by decide)).trans h7
  · exact fun i hi => (bx_cpS_in (by omega) (by omega)).trans (hf 9 i (by decide) (show i < 12 from hi))
  · exact fun p i hp hi => (bx_cpS_ne (fun e => by subst e; revert hp; decide)).trans (hf p i hp hi)
theorem rxsCF274x1_8 {X : (Nat → Int → Int) → Prop} {S0 : Nat → Int → Int} {ws : List Int} (hP : rxPCF274x1 S0 ws) (hX : ∀ S S1 : Nat → Int → Int, X S → bx_same rxL (bx_mdl rxCCF274x1.2.2.1) S S1 → X S1) : rx_obY X S0 rxCCF274x1.2.2.1 (rxICF274x1 S0 ws) (rxmCF274x1 S0 ws) 8 9 rxzCF274x1_8 9 282 12 := by
  intro S r hinv hXS I0 hin hs_ hf_
  have b_ := bx_bds_sat hs_
  have f_ := bx_fcl_ok hs_.1 hf_
  have g := rxtCF274x1_8 hP hin I0 hinv 
  exact ⟨g.1, g.2, hX _ _ hXS (rx_same_cp (fun _ _ _ _ _ => rfl) (g1 := 6) rfl (by decide +kernel)), rx_same_cp hin (g1 := 6) rfl (by decide +kernel)⟩
theorem rxtCF274x1_10 {S0 : Nat → Int → Int} {ws : List Int} {S : Nat → Int → Int} (hP : rxPCF274x1 S0 ws) (hin : bx_same rxL (bx_mdl rxCCF274x1.2.2.1) S0 S) (I0 : bx_Inv rxL S) (hinv : rxICF274x1_10 S0 ws S)  : rxICF274x1_11 S0 ws (bx_cpS S 10 283 12) ∧ rxmCF274x1_11 S0 ws (bx_cpS S 10 283 12) < rxmCF274x1_10 S0 ws S := by
  obtain ⟨h0, h1, h2, h3, h4, h5, h6, h7, h8, hf⟩ := hinv
  refine ⟨⟨?_, ?_, ?_, ?_, ?_, ?_, ?_, ?_, ?_, ?_, ?_⟩, by unfold rxmCF274x1_10 rxmCF274x1_11; omega⟩
  · exact (bx_cpS_ne (by decide)).trans h0
  · exact fun i hi => (bx_cpS_ne (by decide)).trans (h1 i hi)
  · exact fun i hi => (bx_cpS_ne (by decide)).trans (h2 i hi)
  · exact (bx_cpS_ne (by decide)).trans h3
  · exact fun i hi => (bx_cpS_ne (by decide)).trans (h4 i hi)
  · exact fun i hi => (bx_cpS_ne (by decide)).trans (h5 i hi)
  · exact fun i hi => (bx_cpS_ne (by decide)).trans (h6 i hi)
  · exact (bx_cpS_ne (by decide)).trans h7
  · exact fun i hi => (bx_cpS_ne (by decide)).trans (h8 i hi)
  · exact fun i hi => (bx_cpS_in (by omega) (by omega)).trans (hf 10 i (by decide) (show i < 12 from hi))
  · exact fun p i hp hi => (bx_cpS_ne (fun e => by subst e; revert hp; decide)).trans (hf p i hp hi)
theorem rxsCF274x1_10 {X : (Nat → Int → Int) → Prop} {S0 : Nat → Int → Int} {ws : List Int} (hP : rxPCF274x1 S0 ws) (hX : ∀ S S1 : Nat → Int → Int, X S → bx_same rxL (bx_mdl rxCCF274x1.2.2.1) S S1 → X S1) : rx_obY X S0 rxCCF274x1.2.2.1 (rxICF274x1 S0 ws) (rxmCF274x1 S0 ws) 10 11 rxzCF274x1_10 10 283 12 := by
  intro S r hinv hXS I0 hin hs_ hf_
  have b_ := bx_bds_sat hs_
  have f_ := bx_fcl_ok hs_.1 hf_
  have g := rxtCF274x1_10 hP hin I0 hinv 
  exact ⟨g.1, g.2, hX _ _ hXS (rx_same_cp (fun _ _ _ _ _ => rfl) (g1 := 7) rfl (by decide +kernel)), rx_same_cp hin (g1 := 7) rfl (by decide +kernel)⟩
theorem rxtCF274x1_12 {S0 : Nat → Int → Int} {ws : List Int} {S : Nat → Int → Int} (hP : rxPCF274x1 S0 ws) (hin : bx_same rxL (bx_mdl rxCCF274x1.2.2.1) S0 S) (I0 : bx_Inv rxL S) (hinv : rxICF274x1_12 S0 ws S)  : rxICF274x1_13 S0 ws (bx_cpS S 11 284 12) ∧ rxmCF274x1_13 S0 ws (bx_cpS S 11 284 12) < rxmCF274x1_12 S0 ws S := by
  obtain ⟨h0, h1, h2, h3, h4, h5, h6, h7, h8, h9, hf⟩ := hinv
  refine ⟨⟨?_, ?_, ?_, ?_, ?_, ?_, ?_, ?_, ?_, ?_, ?_, ?_⟩, by unfold rxmCF274x1_12 rxmCF274x1_13; omega⟩
  · exact (bx_cpS_ne (by decide)).trans h0
  · exact fun i hi => (bx_cpS_ne (by decide)).trans (h1 i hi)
  · exact fun i hi => (bx_cpS_ne (by decide)).trans (h2 i hi)
  · exact (bx_cpS_ne (by decide)).trans h3
  · exact fun i hi => (bx_cpS_ne (by decide)).trans (h4 i hi)
  · exact fun i hi => (bx_cpS_ne (by decide)).trans (h5 i hi)
  · exact fun i hi => (bx_cpS_ne (by decide)).trans (h6 i hi)
  · exact (bx_cpS_ne (by decide)).trans h7
  · exact fun i hi => (bx_cpS_ne (by decide)).trans (h8 i hi)
  · exact fun i hi => (bx_cpS_ne (by decide)).trans (h9 i hi)
  · exact fun i hi => (bx_cpS_in (by omega) (by omega)).trans (hf 11 i (by decide) (show i < 12 from hi))
  · exact fun p i hp hi => (bx_cpS_ne (fun e => by subst e; revert hp; decide)).trans (hf p i hp hi)
theorem rxsCF274x1_12 {X : (Nat → Int → Int) → Prop} {S0 : Nat → Int → Int} {ws : List Int} (hP : rxPCF274x1 S0 ws) (hX : ∀ S S1 : Nat → Int → Int, X S → bx_same rxL (bx_mdl rxCCF274x1.2.2.1) S S1 → X S1) : rx_obY X S0 rxCCF274x1.2.2.1 (rxICF274x1 S0 ws) (rxmCF274x1 S0 ws) 12 13 rxzCF274x1_12 11 284 12 := by
  intro S r hinv hXS I0 hin hs_ hf_
  have b_ := bx_bds_sat hs_
  have f_ := bx_fcl_ok hs_.1 hf_
  have g := rxtCF274x1_12 hP hin I0 hinv 
  exact ⟨g.1, g.2, hX _ _ hXS (rx_same_cp (fun _ _ _ _ _ => rfl) (g1 := 8) rfl (by decide +kernel)), rx_same_cp hin (g1 := 8) rfl (by decide +kernel)⟩
theorem rxtCF274x1_15 {S0 : Nat → Int → Int} {ws : List Int} {S : Nat → Int → Int} (hP : rxPCF274x1 S0 ws) (hin : bx_same rxL (bx_mdl rxCCF274x1.2.2.1) S0 S) (I0 : bx_Inv rxL S) (hinv : rxICF274x1_15 S0 ws S)  : rxICF274x1_16 S0 ws (bx_cpS S 13 286 12) ∧ rxmCF274x1_16 S0 ws (bx_cpS S 13 286 12) < rxmCF274x1_15 S0 ws S := by
  obtain ⟨h0, h1, h2, h3, h4, h5, h6, h7, h8, h9, h10, h11, hf⟩ := hinv
  refine ⟨⟨?_, ?_, ?_, ?_, ?_, ?_, ?_, ?_, ?_, ?_, ?_, ?_, ?_, ?_⟩, by unfold rxmCF274x1_15 rxmCF274x1_16; omega⟩
  · exact (bx_cpS_ne (by decide)).trans h0
  · exact fun i hi => (bx_cpS_ne (by decide)).trans (h1 i hi)
  · exact fun i hi => (bx_cpS_ne (by decide)).trans (h2 i hi)
  · exact (bx_cpS_ne (by decide)).trans h3
  · exact fun i hi => (bx_cpS_ne (by decide)).trans (h4 i hi)
  · exact fun i hi => (bx_cpS_ne (by decide)).trans (h5 i hi)
  · exact fun i hi => (bx_cpS_ne (by decide)).trans (h6 i hi)
  · exact (bx_cpS_ne (by decide)).trans h7
  · exact fun i hi => (bx_cpS_ne (by decide)).trans (h8 i hi)
  · exact fun i hi => (bx_cpS_ne (by decide)).trans (h9 i hi)
  · exact fun i hi => (bx_cpS_ne (by decide)).trans (h10 i hi)
  · exact (bx_cpS_ne (by decide)).trans h11
  · exact fun i hi => (bx_cpS_in (by omega) (by omega)).trans (hf 13 i (by decide) (show i < 12 from hi))
  · exact fun p i hp hi => (bx_cpS_ne (fun e => by subst e; revert hp; decide)).trans (hf p i hp hi)
theorem rxsCF274x1_15 {X : (Nat → Int → Int) → Prop} {S0 : Nat → Int → Int} {ws : List Int} (hP : rxPCF274x1 S0 ws) (hX : ∀ S S1 : Nat → Int → Int, X S → bx_same rxL (bx_mdl rxCCF274x1.2.2.1) S S1 → X S1) : rx_obY X S0 rxCCF274x1.2.2.1 (rxICF274x1 S0 ws) (rxmCF274x1 S0 ws) 15 16 rxzCF274x1_15 13 286 12 := by
  intro S r hinv hXS I0 hin hs_ hf_
  have b_ := bx_bds_sat hs_
  have f_ := bx_fcl_ok hs_.1 hf_
  have g := rxtCF274x1_15 hP hin I0 hinv 
  exact ⟨g.1, g.2, hX _ _ hXS (rx_same_cp (fun _ _ _ _ _ => rfl) (g1 := 10) rfl (by decide +kernel)), rx_same_cp hin (g1 := 10) rfl (by decide +kernel)⟩
theorem rxkCF274x1_17 {S0 : Nat → Int → Int} {ws : List Int} {S : Nat → Int → Int} (hP : rxPCF274x1 S0 ws) (hin : bx_same rxL (bx_mdl rxCCF274x1.2.2.1) S0 S) (I0 : bx_Inv rxL S) (hinv : rxICF274x1_17 S0 ws S)  : rxPDC287x14 S [287, 14] ∧ ∀ (S_p : Nat → Int → Int), rxPSDC287x14 S [287, 14] S_p none → bx_Inv rxL S_p → bx_same rxL (bx_mdl rxCDC287x14.2.2.1) S S_p → rxICF274x1_18 S0 ws S_p ∧ rxmCF274x1_18 S0 ws S_p < rxmCF274x1_17 S0 ws S := by
  obtain ⟨h0, h1, h2, h3, h4, h5, h6, h7, h8, h9, h10, h11, h12, hf⟩ := hinv
  refine ⟨trivial, fun S_p hq _ hsm => ⟨⟨?_, ?_, ?_, ?_, ?_, ?_, ?_, ?_, ?_, ?_, ?_, ?_, ?_, ?_, ?_, ?_, ?_, ?_⟩, by unfold rxmCF274x1_17 rxmCF274x1_18; omega⟩⟩
  all_goals obtain ⟨-, q0, q1, q2, q3, qf⟩ := hq
  · exact (qf _ _ (by decide) (by decide) (by decide) (by decide)).trans h0
  · exact fun i hi => (qf _ _ (by decide) (by decide) (by decide) (by decide)).trans (h1 i hi)
  · exact fun i hi => (qf _ _ (by decide) (by decide) (by decide) (by decide)).trans (h2 i hi)
  · exact (qf _ _ (by decide) (by decide) (by decide) (by decide)).trans h3
  · exact fun i hi => (qf _ _ (by decide) (by decide) (by decide) (by decide)).trans (h4 i hi)
  · exact fun i hi => (qf _ _ (by decide) (by decide) (by decide) (by decide)).trans (h5 i hi)
  · exact fun i hi => (qf _ _ (by decide) (by decide) (by decide) (by decide)).trans (h6 i hi)
  · exact (qf _ _ (by decide) (by decide) (by decide) (by decide)).trans h7
  · exact fun i hi => (qf _ _ (by decide) (by decide) (by decide) (by decide)).trans (h8 i hi)
  · exact fun i hi => (qf _ _ (by decide) (by decide) (by decide) (by decide)).trans (h9 i hi)
  · exact fun i hi => (qf _ _ (by decide) (by decide) (by decide) (by decide)).trans (h10 i hi)
  · exact (qf _ _ (by decide) (by decide) (by decide) (by decide)).trans h11
  · exact fun i hi => (qf _ _ (by decide) (by decide) (by decide) (by decide)).trans (h12 i hi)
  · exact q0.trans (hf 14 0 (by decide) (by decide))
  · exact fun i hi => (q1 i (by omega) (by omega)).trans (hf 15 i (by decide) (show i < 12 from hi))
  · exact fun i hi => (q2 i (by omega) (by omega)).trans (hf 16 i (by decide) (show i < 12 from hi))
  · exact fun i hi => (q3 i (by omega) (by omega)).trans (hf 17 i (by decide) (show i < 12 from hi))
  · exact fun p i hp hi => (qf p i (fun e => by subst e; revert hp; decide) (fun e => by subst e; revert hp; decide) (fun e => by subst e; revert hp; decide) (fun e => by subst e; revert hp; decide)).trans (hf p i hp hi)
theorem rxsCF274x1_17 {X : (Nat → Int → Int) → Prop} {S0 : Nat → Int → Int} {ws : List Int} (hP : rxPCF274x1 S0 ws) : rx_obK X S0 rxCCF274x1.2.2.1 rxCDC287x14.2.2.1 (rxICF274x1 S0 ws) (rxmCF274x1 S0 ws) 17 18 rxzCF274x1_17 rxzCF274x1_18 [.inr (3, (0, 287)), .inr (3, (0, 14))] none rxPDC287x14 rxPSDC287x14 := by
  intro S r hinv hXS I0 hin hs_ hf_
  have b_ := bx_bds_sat hs_
  have f_ := bx_fcl_ok hs_.1 hf_
  have g := rxkCF274x1_17 hP hin I0 hinv 
  have ea : List.map (bx_num r) [.inr (3, (0, 287)), .inr (3, (0, 14))] = [287, 14] := by
    simp only [List.map_cons, List.map_nil, bx_xv_ok hs_.1]
    rfl
  rw [ea]
  refine ⟨g.1, fun S_p w r_p hPS hX_p I1 hsm hr hw hs_p => ?_⟩
  have hw : w = none := hPS.1
  subst hw
  have g2 := g.2 S_p hPS I1 hsm
  show rxICF274x1_18 S0 ws S_p ∧ rxmCF274x1_18 S0 ws S_p < _
  exact g2
theorem rxtCF274x1_19 {S0 : Nat → Int → Int} {ws : List Int} {S : Nat → Int → Int} (hP : rxPCF274x1 S0 ws) (hin : bx_same rxL (bx_mdl rxCCF274x1.2.2.1) S0 S) (I0 : bx_Inv rxL S) (hinv : rxICF274x1_19 S0 ws S)  : rxICF274x1_20 S0 ws (bx_cpS S 19 292 3) ∧ rxmCF274x1_20 S0 ws (bx_cpS S 19 292 3) < rxmCF274x1_19 S0 ws S := by
  obtain ⟨h0, h1, h2, h3, h4, h5, h6, h7, h8, h9, h10, h11, h12, h13, h14, h15, h16, hf⟩ := hinv
  refine ⟨⟨?_, ?_, ?_, ?_, ?_, ?_, ?_, ?_, ?_, ?_, ?_, ?_, ?_, ?_, ?_, ?_, ?_, ?_, ?_⟩, by unfold rxmCF274x1_19 rxmCF274x1_20; omega⟩
  · exact (bx_cpS_ne (by decide)).trans h0
  · exact fun i hi => (bx_cpS_ne (by decide)).trans (h1 i hi)
  · exact fun i hi => (bx_cpS_ne (by decide)).trans (h2 i hi)
  · exact (bx_cpS_ne (by decide)).trans h3
  · exact fun i hi => (bx_cpS_ne (by decide)).trans (h4 i hi)
  · exact fun i hi => (bx_cpS_ne (by decide)).trans (h5 i hi)
  · exact fun i hi => (bx_cpS_ne (by decide)).trans (h6 i hi)
  · exact (bx_cpS_ne (by decide)).trans h7
  · exact fun i hi => (bx_cpS_ne (by decide)).trans (h8 i hi)
  · exact fun i hi => (bx_cpS_ne (by decide)).trans (h9 i hi)
  · exact fun i hi => (bx_cpS_ne (by decide)).trans (h10 i hi)
  · exact (bx_cpS_ne (by decide)).trans h11
  · exact fun i hi => (bx_cpS_ne (by decide)).trans (h12 i hi)
  · exact (bx_cpS_ne (by decide)).trans h13
  · exact fun i hi => (bx_cpS_ne (by decide)).trans (h14 i hi)
  · exact fun i hi => (bx_cpS_ne (by decide)).trans (h15 i hi)
  · exact fun i hi => (bx_cpS_ne (by decide)).trans (h16 i hi)
  · exact fun i hi => (bx_cpS_in (by omega) (by omega)).trans (hf 19 i (by decide) (show i < 3 from hi))
  · exact fun p i hp hi => (bx_cpS_ne (fun e => by subst e; revert hp; decide)).trans (hf p i hp hi)
theorem rxsCF274x1_19 {X : (Nat → Int → Int) → Prop} {S0 : Nat → Int → Int} {ws : List Int} (hP : rxPCF274x1 S0 ws) (hX : ∀ S S1 : Nat → Int → Int, X S → bx_same rxL (bx_mdl rxCCF274x1.2.2.1) S S1 → X S1) : rx_obY X S0 rxCCF274x1.2.2.1 (rxICF274x1 S0 ws) (rxmCF274x1 S0 ws) 19 20 rxzCF274x1_19 19 292 3 := by
  intro S r hinv hXS I0 hin hs_ hf_
  have b_ := bx_bds_sat hs_
  have f_ := bx_fcl_ok hs_.1 hf_
  have g := rxtCF274x1_19 hP hin I0 hinv 
  exact ⟨g.1, g.2, hX _ _ hXS (rx_same_cp (fun _ _ _ _ _ => rfl) (g1 := 15) rfl (by decide +kernel)), rx_same_cp hin (g1 := 15) rfl (by decide +kernel)⟩
theorem rxcCF274x1_0_0 {S0 : Nat → Int → Int} {ws : List Int} {S : Nat → Int → Int} {x8 : Int} (hP : rxPCF274x1 S0 ws) (hin : bx_same rxL (bx_mdl rxCCF274x1.2.2.1) S0 S) (I0 : bx_Inv rxL S) (hinv : rxICF274x1_0 S0 ws S) (l8 : 0 ≤ x8) (u8 : x8 ≤ 6) (e1 : S 1 0 = x8) : (True) ∧ (True) ∧ rxICF274x1_1 S0 ws (bx_up S 274 0 x8) ∧ rxmCF274x1_1 S0 ws (bx_up S 274 0 x8) < rxmCF274x1_0 S0 ws S := by
  obtain ⟨rfl, hw⟩ := hinv
  exact ⟨trivial, trivial, ⟨bx_up_at.trans e1.symm, fun p i hp hi => bx_up_ne (fun h => by have e := h.1; subst e; revert hp; decide)⟩, by unfold rxmCF274x1_0 rxmCF274x1_1; omega⟩
theorem rxgCF274x1_0_0 {X : (Nat → Int → Int) → Prop} {S0 : Nat → Int → Int} {ws : List Int} (hP : rxPCF274x1 S0 ws) : bx_obC rxL X S0 rxCCF274x1.2.2.1 (rxICF274x1 S0 ws) (rxmCF274x1 S0 ws) 0 rxzCF274x1_0 rxoCF274x1_0_0 := by
  intro S S_p r r_p hinv hX hin hsm_ hseg
  obtain ⟨I0, I1, h0_, hr_, b_, f_, d_⟩ := bx_cl (evs := [(1, (0, 274), (0, 0), .inr (0, (8, 0))), (0, (0, 1), (0, 0), .inr (0, (8, 0)))]) (fvs := []) hseg (by decide +kernel) (by decide +kernel)
  have hinv : rxICF274x1_0 S0 ws S := hinv
  obtain ⟨⟨l8, u8⟩, -⟩ := b_
  obtain ⟨T0, ⟨e1, w_⟩, w0⟩ := d_
  subst w0
  subst w_
  have g := rxcCF274x1_0_0 hP hin I0 hinv l8 u8 e1
  refine ⟨bx_narP_ok (l := []) g.1, bx_nfP_ok h0_ (fvs := []) (by decide +kernel) g.2.1, ?_, ?_⟩
  · show rxICF274x1_1 S0 ws (bx_up T0 274 (0) (r_p 8))
    exact g.2.2.1
  · show rxmCF274x1_1 S0 ws (bx_up T0 274 (0) (r_p 8)) < rxmCF274x1_0 S0 ws T0
    exact g.2.2.2
theorem rxcCF274x1_2_0 {S0 : Nat → Int → Int} {ws : List Int} {S : Nat → Int → Int} (hP : rxPCF274x1 S0 ws) (hin : bx_same rxL (bx_mdl rxCCF274x1.2.2.1) S0 S) (I0 : bx_Inv rxL S) (hinv : rxICF274x1_2 S0 ws S)  : (True) ∧ (True) ∧ rxICF274x1_3 S0 ws S ∧ rxmCF274x1_3 S0 ws S < rxmCF274x1_2 S0 ws S := by
  exact ⟨trivial, trivial, hinv, by unfold rxmCF274x1_2 rxmCF274x1_3; omega⟩
theorem rxgCF274x1_2_0 {X : (Nat → Int → Int) → Prop} {S0 : Nat → Int → Int} {ws : List Int} (hP : rxPCF274x1 S0 ws) : bx_obC rxL X S0 rxCCF274x1.2.2.1 (rxICF274x1 S0 ws) (rxmCF274x1 S0 ws) 2 rxzCF274x1_2 rxoCF274x1_2_0 := by
  intro S S_p r r_p hinv hX hin hsm_ hseg
  obtain ⟨I0, I1, h0_, hr_, b_, f_, d_⟩ := bx_cl (evs := []) (fvs := []) hseg (by decide +kernel) (by decide +kernel)
  have hinv : rxICF274x1_2 S0 ws S := hinv
  have w_ := d_
  subst w_
  have g := rxcCF274x1_2_0 hP hin I0 hinv 
  refine ⟨bx_narP_ok (l := []) g.1, bx_nfP_ok h0_ (fvs := []) (by decide +kernel) g.2.1, ?_, ?_⟩
  · show rxICF274x1_3 S0 ws S_p
    exact g.2.2.1
  · show rxmCF274x1_3 S0 ws S_p < rxmCF274x1_2 S0 ws S_p
    exact g.2.2.2
theorem rxcCF274x1_4_0 {S0 : Nat → Int → Int} {ws : List Int} {S : Nat → Int → Int} (hP : rxPCF274x1 S0 ws) (hin : bx_same rxL (bx_mdl rxCCF274x1.2.2.1) S0 S) (I0 : bx_Inv rxL S) (hinv : rxICF274x1_4 S0 ws S)  : (True) ∧ (True) ∧ rxICF274x1_5 S0 ws S 0 ∧ rxmCF274x1_5 S0 ws S 0 < rxmCF274x1_4 S0 ws S := by
  exact ⟨trivial, trivial, hinv, by unfold rxmCF274x1_4 rxmCF274x1_5; omega⟩
theorem rxgCF274x1_4_0 {X : (Nat → Int → Int) → Prop} {S0 : Nat → Int → Int} {ws : List Int} (hP : rxPCF274x1 S0 ws) : bx_obC rxL X S0 rxCCF274x1.2.2.1 (rxICF274x1 S0 ws) (rxmCF274x1 S0 ws) 4 rxzCF274x1_4 rxoCF274x1_4_0 := by
  intro S S_p r r_p hinv hX hin hsm_ hseg
  obtain ⟨I0, I1, h0_, hr_, b_, f_, d_⟩ := bx_cl (evs := []) (fvs := []) hseg (by decide +kernel) (by decide +kernel)
  have hinv : rxICF274x1_4 S0 ws S := hinv
  have w_ := d_
  subst w_
  have g := rxcCF274x1_4_0 hP hin I0 hinv 
  refine ⟨bx_narP_ok (l := []) g.1, bx_nfP_ok h0_ (fvs := []) (by decide +kernel) g.2.1, ?_, ?_⟩
  · show rxICF274x1_5 S0 ws S_p (bx_val [(0, 0), (0, 0), (0, 0), (0, 0), (0, 0), (0, 0), (0, 0), (0, 0), (0, 0)] r_p 8)
    rw [bx_val_x (n := 8) (e := (0, 0)) h0_ rfl]
    exact g.2.2.1
  · show rxmCF274x1_5 S0 ws S_p (bx_val [(0, 0), (0, 0), (0, 0), (0, 0), (0, 0), (0, 0), (0, 0), (0, 0), (0, 0)] r_p 8) < rxmCF274x1_4 S0 ws S_p
    rw [bx_val_x (n := 8) (e := (0, 0)) h0_ rfl]
    exact g.2.2.2
theorem rxcCF274x1_5_0 {S0 : Nat → Int → Int} {ws : List Int} {S T2 T1 T0 : Nat → Int → Int} {i x9 x10 : Int} (hP : rxPCF274x1 S0 ws) (hin : bx_same rxL (bx_mdl rxCCF274x1.2.2.1) S0 S) (I0 : bx_Inv rxL S) (hinv : rxICF274x1_5 S0 ws S i) (l8 : 0 ≤ i) (u8 : i ≤ 5) (l9 : 0 ≤ x9) (u9 : x9 ≤ 1522) (l10 : 0 ≤ x10) (u10 : x10 ≤ 1522) (e4 : S 277 i = x9) (e3 : S 4 i = x10) (v2 : ∀ (p i : Nat), p < rxL.2.1 → i < bx_wd (rxL.1 p) → bx_mc (rxL.1 p) i ≠ (99999, 0) → T2 p (i : Int) = S p (i : Int)) (v1 : ∀ (p i : Nat), p < rxL.2.1 → i < bx_wd (rxL.1 p) → bx_mc (rxL.1 p) i ≠ (1020, 0) → T1 p (i : Int) = T2 p (i : Int)) (v0 : ∀ (p i : Nat), p < rxL.2.1 → i < bx_wd (rxL.1 p) → bx_mc (rxL.1 p) i ≠ (1019, 0) → T0 p (i : Int) = T1 p (i : Int)) : (True) ∧ (True) ∧ rxICF274x1_5 S0 ws T0 (i + 1) ∧ rxmCF274x1_5 S0 ws T0 (i + 1) < rxmCF274x1_5 S0 ws S i := by
  obtain ⟨h0, h1, h2, hf⟩ := hinv
  have HV : ∀ p n : Nat, p ∈ rxNum → n < bx_wd (rxL.1 p) → T0 p (n : Int) = S p (n : Int) := fun p n hp hi => (rx_frH v0 (l := rxNum) (by decide +kernel) hp hi).trans ((rx_frH v1 (l := rxNum) (by decide +kernel) hp hi).trans (rx_frH v2 (l := rxNum) (by decide +kernel) hp hi))
  exact ⟨trivial, trivial, ⟨(HV 274 0 (by decide) (by decide)).trans h0, fun n hn => (HV 275 n (by decide) (show n < 6 from hn)).trans (h1 n hn), fun n hn => (HV 276 n (by decide) (show n < 6 from hn)).trans (h2 n hn), fun p n hp hi => (HV p n (rxFl274_in p hp) hi).trans (hf p n hp hi)⟩, by unfold rxmCF274x1_5; omega⟩
theorem rxgCF274x1_5_0 {X : (Nat → Int → Int) → Prop} {S0 : Nat → Int → Int} {ws : List Int} (hP : rxPCF274x1 S0 ws) : bx_obC rxL X S0 rxCCF274x1.2.2.1 (rxICF274x1 S0 ws) (rxmCF274x1 S0 ws) 5 rxzCF274x1_5 rxoCF274x1_5_0 := by
  intro S S_p r r_p hinv hX hin hsm_ hseg
  obtain ⟨I0, I1, h0_, hr_, b_, f_, d_⟩ := bx_cl (evs := [(2, (1019, 0), (0, 0), .inl none), (2, (1020, 0), (0, 0), .inl none), (2, (99999, 0), (0, 0), .inl none), (0, (0, 4), (8, 0), .inr (3, (10, 0))), (0, (0, 277), (8, 0), .inr (3, (9, 0)))]) (fvs := []) hseg (by decide +kernel) (by decide +kernel)
  have hinv : rxICF274x1_5 S0 ws S (r 8) := hinv
  rw [← hr_ 8 (by decide)] at hinv
  obtain ⟨⟨l8, u8⟩, ⟨l9, u9⟩, ⟨l10, u10⟩, -⟩ := b_
  obtain ⟨T0, ⟨T1, ⟨T2, ⟨e3, ⟨e4, w_⟩⟩, v2⟩, v1⟩, v0⟩ := d_
  subst w_
  have g := rxcCF274x1_5_0 hP hin I0 hinv l8 u8 l9 u9 l10 u10 e4 e3 v2 v1 v0
  refine ⟨bx_narP_ok (l := []) g.1, bx_nfP_ok h0_ (fvs := []) (by decide +kernel) g.2.1, ?_, ?_⟩
  · show rxICF274x1_5 S0 ws S_p (bx_val [(0, 0), (0, 0), (0, 0), (0, 0), (0, 0), (0, 0), (0, 0), (0, 0), (8, 1)] r_p 8)
    rw [bx_val_x (n := 8) (e := (8, 1)) h0_ rfl]
    exact g.2.2.1
  · show rxmCF274x1_5 S0 ws S_p (bx_val [(0, 0), (0, 0), (0, 0), (0, 0), (0, 0), (0, 0), (0, 0), (0, 0), (8, 1)] r_p 8) < rxmCF274x1_5 S0 ws T2 (r 8)
    rw [bx_val_x (n := 8) (e := (8, 1)) h0_ rfl, ← hr_ 8 (by decide)]
    exact g.2.2.2
theorem rxcCF274x1_5_1 {S0 : Nat → Int → Int} {ws : List Int} {S : Nat → Int → Int} {i : Int} (hP : rxPCF274x1 S0 ws) (hin : bx_same rxL (bx_mdl rxCCF274x1.2.2.1) S0 S) (I0 : bx_Inv rxL S) (hinv : rxICF274x1_5 S0 ws S i) (l8 : 6 ≤ i) (u8 : i ≤ 6) : (True) ∧ (True) ∧ rxICF274x1_6 S0 ws S ∧ rxmCF274x1_6 S0 ws S < rxmCF274x1_5 S0 ws S i := by
  exact ⟨trivial, trivial, hinv, by unfold rxmCF274x1_5 rxmCF274x1_6; omega⟩
theorem rxgCF274x1_5_1 {X : (Nat → Int → Int) → Prop} {S0 : Nat → Int → Int} {ws : List Int} (hP : rxPCF274x1 S0 ws) : bx_obC rxL X S0 rxCCF274x1.2.2.1 (rxICF274x1 S0 ws) (rxmCF274x1 S0 ws) 5 rxzCF274x1_5 rxoCF274x1_5_1 := by
  intro S S_p r r_p hinv hX hin hsm_ hseg
  obtain ⟨I0, I1, h0_, hr_, b_, f_, d_⟩ := bx_cl (evs := []) (fvs := []) hseg (by decide +kernel) (by decide +kernel)
  have hinv : rxICF274x1_5 S0 ws S (r 8) := hinv
  rw [← hr_ 8 (by decide)] at hinv
  obtain ⟨⟨l8, u8⟩, -⟩ := b_
  have w_ := d_
  subst w_
  have g := rxcCF274x1_5_1 hP hin I0 hinv l8 u8
  refine ⟨bx_narP_ok (l := []) g.1, bx_nfP_ok h0_ (fvs := []) (by decide +kernel) g.2.1, ?_, ?_⟩
  · show rxICF274x1_6 S0 ws S_p
    exact g.2.2.1
  · show rxmCF274x1_6 S0 ws S_p < rxmCF274x1_5 S0 ws S_p (r 8)
    rw [← hr_ 8 (by decide)]
    exact g.2.2.2
theorem rxcCF274x1_7_0 {S0 : Nat → Int → Int} {ws : List Int} {S : Nat → Int → Int} {x8 : Int} (hP : rxPCF274x1 S0 ws) (hin : bx_same rxL (bx_mdl rxCCF274x1.2.2.1) S0 S) (I0 : bx_Inv rxL S) (hinv : rxICF274x1_7 S0 ws S) (l8 : 0 ≤ x8) (u8 : x8 ≤ 12) (e1 : S 1 5 = x8) : (True) ∧ (True) ∧ rxICF274x1_8 S0 ws (bx_up S 274 5 x8) ∧ rxmCF274x1_8 S0 ws (bx_up S 274 5 x8) < rxmCF274x1_7 S0 ws S := by
  obtain ⟨h0, h1, h2, h3, h4, h5, h6, hf⟩ := hinv
  exact ⟨trivial, trivial, ⟨(bx_up_ne (by omega)).trans (h0), fun n hn => (bx_up_ne (by omega)).trans (h1 n hn), fun n hn => (bx_up_ne (by omega)).trans (h2 n hn), (bx_up_ne (by omega)).trans (h3), fun n hn => (bx_up_ne (by omega)).trans (h4 n hn), fun n hn => (bx_up_ne (by omega)).trans (h5 n hn), fun n hn => (bx_up_ne (by omega)).trans (h6 n hn), bx_up_at.trans (e1.symm.trans (hf 1 5 (by decide) (by decide))), fun p n hp hi => (bx_up_ne (fun h => by have e := h.1; subst e; revert hp; decide)).trans (hf p n hp hi)⟩, by unfold rxmCF274x1_7 rxmCF274x1_8; omega⟩
theorem rxgCF274x1_7_0 {X : (Nat → Int → Int) → Prop} {S0 : Nat → Int → Int} {ws : List Int} (hP : rxPCF274x1 S0 ws) : bx_obC rxL X S0 rxCCF274x1.2.2.1 (rxICF274x1 S0 ws) (rxmCF274x1 S0 ws) 7 rxzCF274x1_7 rxoCF274x1_7_0 := by
  intro S S_p r r_p hinv hX hin hsm_ hseg
  obtain ⟨I0, I1, h0_, hr_, b_, f_, d_⟩ := bx_cl (evs := [(1, (0, 274), (0, 5), .inr (0, (8, 0))), (0, (0, 1), (0, 5), .inr (0, (8, 0)))]) (fvs := []) hseg (by decide +kernel) (by decide +kernel)
  have hinv : rxICF274x1_7 S0 ws S := hinv
  obtain ⟨⟨l8, u8⟩, -⟩ := b_
  obtain ⟨T0, ⟨e1, w_⟩, w0⟩ := d_
  subst w0
  subst w_
  have g := rxcCF274x1_7_0 hP hin I0 hinv l8 u8 e1
  refine ⟨bx_narP_ok (l := []) g.1, bx_nfP_ok h0_ (fvs := []) (by decide +kernel) g.2.1, ?_, ?_⟩
  · show rxICF274x1_8 S0 ws (bx_up T0 274 (5) (r_p 8))
    exact g.2.2.1
  · show rxmCF274x1_8 S0 ws (bx_up T0 274 (5) (r_p 8)) < rxmCF274x1_7 S0 ws T0
    exact g.2.2.2
theorem rxcCF274x1_9_0 {S0 : Nat → Int → Int} {ws : List Int} {S : Nat → Int → Int} (hP : rxPCF274x1 S0 ws) (hin : bx_same rxL (bx_mdl rxCCF274x1.2.2.1) S0 S) (I0 : bx_Inv rxL S) (hinv : rxICF274x1_9 S0 ws S)  : (True) ∧ (True) ∧ rxICF274x1_10 S0 ws S ∧ rxmCF274x1_10 S0 ws S < rxmCF274x1_9 S0 ws S := by
  exact ⟨trivial, trivial, hinv, by unfold rxmCF274x1_9 rxmCF274x1_10; omega⟩
theorem rxgCF274x1_9_0 {X : (Nat → Int → Int) → Prop} {S0 : Nat → Int → Int} {ws : List Int} (hP : rxPCF274x1 S0 ws) : bx_obC rxL X S0 rxCCF274x1.2.2.1 (rxICF274x1 S0 ws) (rxmCF274x1 S0 ws) 9 rxzCF274x1_9 rxoCF274x1_9_0 := by
  intro S S_p r r_p hinv hX hin hsm_ hseg
  obtain ⟨I0, I1, h0_, hr_, b_, f_, d_⟩ := bx_cl (evs := []) (fvs := []) hseg (by decide +kernel) (by decide +kernel)
  have hinv : rxICF274x1_9 S0 ws S := hinv
  have w_ := d_
  subst w_
  have g := rxcCF274x1_9_0 hP hin I0 hinv 
  refine ⟨bx_narP_ok (l := []) g.1, bx_nfP_ok h0_ (fvs := []) (by decide +kernel) g.2.1, ?_, ?_⟩
  · show rxICF274x1_10 S0 ws S_p
    exact g.2.2.1
  · show rxmCF274x1_10 S0 ws S_p < rxmCF274x1_9 S0 ws S_p
    exact g.2.2.2
theorem rxcCF274x1_11_0 {S0 : Nat → Int → Int} {ws : List Int} {S : Nat → Int → Int} (hP : rxPCF274x1 S0 ws) (hin : bx_same rxL (bx_mdl rxCCF274x1.2.2.1) S0 S) (I0 : bx_Inv rxL S) (hinv : rxICF274x1_11 S0 ws S)  : (True) ∧ (True) ∧ rxICF274x1_12 S0 ws S ∧ rxmCF274x1_12 S0 ws S < rxmCF274x1_11 S0 ws S := by
  exact ⟨trivial, trivial, hinv, by unfold rxmCF274x1_11 rxmCF274x1_12; omega⟩
theorem rxgCF274x1_11_0 {X : (Nat → Int → Int) → Prop} {S0 : Nat → Int → Int} {ws : List Int} (hP : rxPCF274x1 S0 ws) : bx_obC rxL X S0 rxCCF274x1.2.2.1 (rxICF274x1 S0 ws) (rxmCF274x1 S0 ws) 11 rxzCF274x1_11 rxoCF274x1_11_0 := by
  intro S S_p r r_p hinv hX hin hsm_ hseg
  obtain ⟨I0, I1, h0_, hr_, b_, f_, d_⟩ := bx_cl (evs := []) (fvs := []) hseg (by decide +kernel) (by decide +kernel)
  have hinv : rxICF274x1_11 S0 ws S := hinv
  have w_ := d_
  subst w_
  have g := rxcCF274x1_11_0 hP hin I0 hinv 
  refine ⟨bx_narP_ok (l := []) g.1, bx_nfP_ok h0_ (fvs := []) (by decide +kernel) g.2.1, ?_, ?_⟩
  · show rxICF274x1_12 S0 ws S_p
    exact g.2.2.1
  · show rxmCF274x1_12 S0 ws S_p < rxmCF274x1_11 S0 ws S_p
    exact g.2.2.2
theorem rxcCF274x1_13_0 {S0 : Nat → Int → Int} {ws : List Int} {S : Nat → Int → Int} (hP : rxPCF274x1 S0 ws) (hin : bx_same rxL (bx_mdl rxCCF274x1.2.2.1) S0 S) (I0 : bx_Inv rxL S) (hinv : rxICF274x1_13 S0 ws S)  : (True) ∧ (True) ∧ rxICF274x1_14 S0 ws S 0 ∧ rxmCF274x1_14 S0 ws S 0 < rxmCF274x1_13 S0 ws S := by
  exact ⟨trivial, trivial, hinv, by unfold rxmCF274x1_13 rxmCF274x1_14; omega⟩
theorem rxgCF274x1_13_0 {X : (Nat → Int → Int) → Prop} {S0 : Nat → Int → Int} {ws : List Int} (hP : rxPCF274x1 S0 ws) : bx_obC rxL X S0 rxCCF274x1.2.2.1 (rxICF274x1 S0 ws) (rxmCF274x1 S0 ws) 13 rxzCF274x1_13 rxoCF274x1_13_0 := by
  intro S S_p r r_p hinv hX hin hsm_ hseg
  obtain ⟨I0, I1, h0_, hr_, b_, f_, d_⟩ := bx_cl (evs := []) (fvs := []) hseg (by decide +kernel) (by decide +kernel)
  have hinv : rxICF274x1_13 S0 ws S := hinv
  have w_ := d_
  subst w_
  have g := rxcCF274x1_13_0 hP hin I0 hinv 
  refine ⟨bx_narP_ok (l := []) g.1, bx_nfP_ok h0_ (fvs := []) (by decide +kernel) g.2.1, ?_, ?_⟩
  · show rxICF274x1_14 S0 ws S_p (bx_val [(0, 0), (0, 0), (0, 0), (0, 0), (0, 0), (0, 0), (0, 0), (0, 0), (0, 0)] r_p 8)
    rw [bx_val_x (n := 8) (e := (0, 0)) h0_ rfl]
    exact g.2.2.1
  · show rxmCF274x1_14 S0 ws S_p (bx_val [(0, 0), (0, 0), (0, 0), (0, 0), (0, 0), (0, 0), (0, 0), (0, 0), (0, 0)] r_p 8) < rxmCF274x1_13 S0 ws S_p
    rw [bx_val_x (n := 8) (e := (0, 0)) h0_ rfl]
    exact g.2.2.2
theorem rxcCF274x1_14_0 {S0 : Nat → Int → Int} {ws : List Int} {S T2 T1 T0 : Nat → Int → Int} {i x9 x10 : Int} (hP : rxPCF274x1 S0 ws) (hin : bx_same rxL (bx_mdl rxCCF274x1.2.2.1) S0 S) (I0 : bx_Inv rxL S) (hinv : rxICF274x1_14 S0 ws S i) (l8 : 0 ≤ i) (u8 : i ≤ 11) (l9 : 0 ≤ x9) (u9 : x9 ≤ 1522) (l10 : 0 ≤ x10) (u10 : x10 ≤ 1522) (e4 : S 285 i = x9) (e3 : S 12 i = x10) (v2 : ∀ (p i : Nat), p < rxL.2.1 → i < bx_wd (rxL.1 p) → bx_mc (rxL.1 p) i ≠ (99999, 0) → T2 p (i : Int) = S p (i : Int)) (v1 : ∀ (p i : Nat), p < rxL.2.1 → i < bx_wd (rxL.1 p) → bx_mc (rxL.1 p) i ≠ (1020, 0) → T1 p (i : Int) = T2 p (i : Int)) (v0 : ∀ (p i : Nat), p < rxL.2.1 → i < bx_wd (rxL.1 p) → bx_mc (rxL.1 p) i ≠ (1019, 0) → T0 p (i : Int) = T1 p (i : Int)) : (True) ∧ (True) ∧ rxICF274x1_14 S0 ws T0 (i + 1) ∧ rxmCF274x1_14 S0 ws T0 (i + 1) < rxmCF274x1_14 S0 ws S i := by
  obtain ⟨h0, h1, h2, h3, h4, h5, h6, h7, h8, h9, h10, hf⟩ := hinv
  have HV : ∀ p n : Nat, p ∈ rxNum → n < bx_wd (rxL.1 p) → T0 p (n : Int) = S p (n : Int) := fun p n hp hi => (rx_frH v0 (l := rxNum) (by decide +kernel) hp hi).trans ((rx_frH v1 (l := rxNum) (by decide +kernel) hp hi).trans (rx_frH v2 (l := rxNum) (by decide +kernel) hp hi))
  exact ⟨trivial, trivial, ⟨(HV 274 0 (by decide) (by decide)).trans h0, fun n hn => (HV 275 n (by decide) (show n < 6 from hn)).trans (h1 n hn), fun n hn => (HV 276 n (by decide) (show n < 6 from hn)).trans (h2 n hn), (HV 278 0 (by decide) (by decide)).trans h3, fun n hn => (HV 279 n (by decide) (show n < 8 from hn)).trans (h4 n hn), fun n hn => (HV 280 n (by decide) (show n < 8 from hn)).trans (h5 n hn), fun n hn => (HV 281 n (by decide) (show n < 8 from hn)).trans (h6 n hn), (HV 274 5 (by decide) (by decide)).trans h7, fun n hn => (HV 282 n (by decide) (show n < 12 from hn)).trans (h8 n hn), fun n hn => (HV 283 n (by decide) (show n < 12 from hn)).trans (h9 n hn), fun n hn => (HV 284 n (by decide) (show n < 12 from hn)).trans (h10 n hn), fun p n hp hi => (HV p n (rxFl274_in p hp) hi).trans (hf p n hp hi)⟩, by unfold rxmCF274x1_14; omega⟩
theorem rxgCF274x1_14_0 {X : (Nat → Int → Int) → Prop} {S0 : Nat → Int → Int} {ws : List Int} (hP : rxPCF274x1 S0 ws) : bx_obC rxL X S0 rxCCF274x1.2.2.1 (rxICF274x1 S0 ws) (rxmCF274x1 S0 ws) 14 rxzCF274x1_14 rxoCF274x1_14_0 := by
  intro S S_p r r_p hinv hX hin hsm_ hseg
  obtain ⟨I0, I1, h0_, hr_, b_, f_, d_⟩ := bx_cl (evs := [(2, (1019, 0), (0, 0), .inl none), (2, (1020, 0), (0, 0), .inl none), (2, (99999, 0), (0, 0), .inl none), (0, (0, 12), (8, 0), .inr (3, (10, 0))), (0, (0, 285), (8, 0), .inr (3, (9, 0)))]) (fvs := []) hseg (by decide +kernel) (by decide +kernel)
  have hinv : rxICF274x1_14 S0 ws S (r 8) := hinv
  rw [← hr_ 8 (by decide)] at hinv
  obtain ⟨⟨l8, u8⟩, ⟨l9, u9⟩, ⟨l10, u10⟩, -⟩ := b_
  obtain ⟨T0, ⟨T1, ⟨T2, ⟨e3, ⟨e4, w_⟩⟩, v2⟩, v1⟩, v0⟩ := d_
  subst w_
  have g := rxcCF274x1_14_0 hP hin I0 hinv l8 u8 l9 u9 l10 u10 e4 e3 v2 v1 v0
  refine ⟨bx_narP_ok (l := []) g.1, bx_nfP_ok h0_ (fvs := []) (by decide +kernel) g.2.1, ?_, ?_⟩
  · show rxICF274x1_14 S0 ws S_p (bx_val [(0, 0), (0, 0), (0, 0), (0, 0), (0, 0), (0, 0), (0, 0), (0, 0), (8, 1)] r_p 8)
    rw [bx_val_x (n := 8) (e := (8, 1)) h0_ rfl]
    exact g.2.2.1
  · show rxmCF274x1_14 S0 ws S_p (bx_val [(0, 0), (0, 0), (0, 0), (0, 0), (0, 0), (0, 0), (0, 0), (0, 0), (8, 1)] r_p 8) < rxmCF274x1_14 S0 ws T2 (r 8)
    rw [bx_val_x (n := 8) (e := (8, 1)) h0_ rfl, ← hr_ 8 (by decide)]
    exact g.2.2.2
theorem rxcCF274x1_14_1 {S0 : Nat → Int → Int} {ws : List Int} {S : Nat → Int → Int} {i x9 : Int} (hP : rxPCF274x1 S0 ws) (hin : bx_same rxL (bx_mdl rxCCF274x1.2.2.1) S0 S) (I0 : bx_Inv rxL S) (hinv : rxICF274x1_14 S0 ws S i) (l8 : 12 ≤ i) (u8 : i ≤ 12) (l9 : 0 ≤ x9) (u9 : x9 ≤ 12) (e1 : S 1 10 = x9) : (True) ∧ (True) ∧ rxICF274x1_15 S0 ws (bx_up S 274 10 x9) ∧ rxmCF274x1_15 S0 ws (bx_up S 274 10 x9) < rxmCF274x1_14 S0 ws S i := by
  obtain ⟨h0, h1, h2, h3, h4, h5, h6, h7, h8, h9, h10, hf⟩ := hinv
  exact ⟨trivial, trivial, ⟨(bx_up_ne (by omega)).trans (h0), fun n hn => (bx_up_ne (by omega)).trans (h1 n hn), fun n hn => (bx_up_ne (by omega)).trans (h2 n hn), (bx_up_ne (by omega)).trans (h3), fun n hn => (bx_up_ne (by omega)).trans (h4 n hn), fun n hn => (bx_up_ne (by omega)).trans (h5 n hn), fun n hn => (bx_up_ne (by omega)).trans (h6 n hn), (bx_up_ne (by omega)).trans (h7), fun n hn => (bx_up_ne (by omega)).trans (h8 n hn), fun n hn => (bx_up_ne (by omega)).trans (h9 n hn), fun n hn => (bx_up_ne (by omega)).trans (h10 n hn), bx_up_at.trans (e1.symm.trans (hf 1 10 (by decide) (by decide))), fun p n hp hi => (bx_up_ne (fun h => by have e := h.1; subst e; revert hp; decide)).trans (hf p n hp hi)⟩, by unfold rxmCF274x1_14 rxmCF274x1_15; omega⟩
theorem rxgCF274x1_14_1 {X : (Nat → Int → Int) → Prop} {S0 : Nat → Int → Int} {ws : List Int} (hP : rxPCF274x1 S0 ws) : bx_obC rxL X S0 rxCCF274x1.2.2.1 (rxICF274x1 S0 ws) (rxmCF274x1 S0 ws) 14 rxzCF274x1_14 rxoCF274x1_14_1 := by
  intro S S_p r r_p hinv hX hin hsm_ hseg
  obtain ⟨I0, I1, h0_, hr_, b_, f_, d_⟩ := bx_cl (evs := [(1, (0, 274), (0, 10), .inr (0, (9, 0))), (0, (0, 1), (0, 10), .inr (0, (9, 0)))]) (fvs := []) hseg (by decide +kernel) (by decide +kernel)
  have hinv : rxICF274x1_14 S0 ws S (r 8) := hinv
  rw [← hr_ 8 (by decide)] at hinv
  obtain ⟨⟨l8, u8⟩, ⟨l9, u9⟩, -⟩ := b_
  obtain ⟨T0, ⟨e1, w_⟩, w0⟩ := d_
  subst w0
  subst w_
  have g := rxcCF274x1_14_1 hP hin I0 hinv l8 u8 l9 u9 e1
  refine ⟨bx_narP_ok (l := []) g.1, bx_nfP_ok h0_ (fvs := []) (by decide +kernel) g.2.1, ?_, ?_⟩
  · show rxICF274x1_15 S0 ws (bx_up T0 274 (10) (r_p 9))
    exact g.2.2.1
  · show rxmCF274x1_15 S0 ws (bx_up T0 274 (10) (r_p 9)) < rxmCF274x1_14 S0 ws T0 (r 8)
    rw [← hr_ 8 (by decide)]
    exact g.2.2.2
theorem rxcCF274x1_16_0 {S0 : Nat → Int → Int} {ws : List Int} {S : Nat → Int → Int} (hP : rxPCF274x1 S0 ws) (hin : bx_same rxL (bx_mdl rxCCF274x1.2.2.1) S0 S) (I0 : bx_Inv rxL S) (hinv : rxICF274x1_16 S0 ws S)  : (True) ∧ (True) ∧ rxICF274x1_17 S0 ws S ∧ rxmCF274x1_17 S0 ws S < rxmCF274x1_16 S0 ws S := by
  exact ⟨trivial, trivial, hinv, by unfold rxmCF274x1_16 rxmCF274x1_17; omega⟩
theorem rxgCF274x1_16_0 {X : (Nat → Int → Int) → Prop} {S0 : Nat → Int → Int} {ws : List Int} (hP : rxPCF274x1 S0 ws) : bx_obC rxL X S0 rxCCF274x1.2.2.1 (rxICF274x1 S0 ws) (rxmCF274x1 S0 ws) 16 rxzCF274x1_16 rxoCF274x1_16_0 := by
  intro S S_p r r_p hinv hX hin hsm_ hseg
  obtain ⟨I0, I1, h0_, hr_, b_, f_, d_⟩ := bx_cl (evs := []) (fvs := []) hseg (by decide +kernel) (by decide +kernel)
  have hinv : rxICF274x1_16 S0 ws S := hinv
  have w_ := d_
  subst w_
  have g := rxcCF274x1_16_0 hP hin I0 hinv 
  refine ⟨bx_narP_ok (l := []) g.1, bx_nfP_ok h0_ (fvs := []) (by decide +kernel) g.2.1, ?_, ?_⟩
  · show rxICF274x1_17 S0 ws S_p
    exact g.2.2.1
  · show rxmCF274x1_17 S0 ws S_p < rxmCF274x1_16 S0 ws S_p
    exact g.2.2.2
theorem rxcCF274x1_18_0 {S0 : Nat → Int → Int} {ws : List Int} {S : Nat → Int → Int} (hP : rxPCF274x1 S0 ws) (hin : bx_same rxL (bx_mdl rxCCF274x1.2.2.1) S0 S) (I0 : bx_Inv rxL S) (hinv : rxICF274x1_18 S0 ws S)  : (True) ∧ (True) ∧ rxICF274x1_19 S0 ws S ∧ rxmCF274x1_19 S0 ws S < rxmCF274x1_18 S0 ws S := by
  exact ⟨trivial, trivial, hinv, by unfold rxmCF274x1_18 rxmCF274x1_19; omega⟩
theorem rxgCF274x1_18_0 {X : (Nat → Int → Int) → Prop} {S0 : Nat → Int → Int} {ws : List Int} (hP : rxPCF274x1 S0 ws) : bx_obC rxL X S0 rxCCF274x1.2.2.1 (rxICF274x1 S0 ws) (rxmCF274x1 S0 ws) 18 rxzCF274x1_18 rxoCF274x1_18_0 := by
  intro S S_p r r_p hinv hX hin hsm_ hseg
  obtain ⟨I0, I1, h0_, hr_, b_, f_, d_⟩ := bx_cl (evs := []) (fvs := []) hseg (by decide +kernel) (by decide +kernel)
  have hinv : rxICF274x1_18 S0 ws S := hinv
  have w_ := d_
  subst w_
  have g := rxcCF274x1_18_0 hP hin I0 hinv 
  refine ⟨bx_narP_ok (l := []) g.1, bx_nfP_ok h0_ (fvs := []) (by decide +kernel) g.2.1, ?_, ?_⟩
  · show rxICF274x1_19 S0 ws S_p
    exact g.2.2.1
  · show rxmCF274x1_19 S0 ws S_p < rxmCF274x1_18 S0 ws S_p
    exact g.2.2.2
theorem rxcCF274x1_20_0 {S0 : Nat → Int → Int} {ws : List Int} {S : Nat → Int → Int} {x8 x9 : Int} (hP : rxPCF274x1 S0 ws) (hin : bx_same rxL (bx_mdl rxCCF274x1.2.2.1) S0 S) (I0 : bx_Inv rxL S) (hinv : rxICF274x1_20 S0 ws S) (l8 : 0 ≤ x8) (u8 : x8 ≤ 6) (l9 : (-1) ≤ x9) (u9 : x9 ≤ 5) (e3 : S 1 14 = x8) (e1 : (bx_up S 274 14 x8) 1 15 = x9) : (True) ∧ (True) ∧ rxICF274x1_21 S0 ws (bx_up (bx_up S 274 14 x8) 274 15 x9) 0 ∧ rxmCF274x1_21 S0 ws (bx_up (bx_up S 274 14 x8) 274 15 x9) 0 < rxmCF274x1_20 S0 ws S := by
  obtain ⟨h0, h1, h2, h3, h4, h5, h6, h7, h8, h9, h10, h11, h12, h13, h14, h15, h16, h17, hf⟩ := hinv
  exact ⟨trivial, trivial, ⟨(bx_up_ne (by omega)).trans ((bx_up_ne (by omega)).trans (h0)), fun n hn => (bx_up_ne (by omega)).trans ((bx_up_ne (by omega)).trans (h1 n hn)), fun n hn => (bx_up_ne (by omega)).trans ((bx_up_ne (by omega)).trans (h2 n hn)), (bx_up_ne (by omega)).trans ((bx_up_ne (by omega)).trans (h3)), fun n hn => (bx_up_ne (by omega)).trans ((bx_up_ne (by omega)).trans (h4 n hn)), fun n hn => (bx_up_ne (by omega)).trans ((bx_up_ne (by omega)).trans (h5 n hn)), fun n hn => (bx_up_ne (by omega)).trans ((bx_up_ne (by omega)).trans (h6 n hn)), (bx_up_ne (by omega)).trans ((bx_up_ne (by omega)).trans (h7)), fun n hn => (bx_up_ne (by omega)).trans ((bx_up_ne (by omega)).trans (h8 n hn)), fun n hn => (bx_up_ne (by omega)).trans ((bx_up_ne (by omega)).trans (h9 n hn)), fun n hn => (bx_up_ne (by omega)).trans ((bx_up_ne (by omega)).trans (h10 n hn)), (bx_up_ne (by omega)).trans ((bx_up_ne (by omega)).trans (h11)), fun n hn => (bx_up_ne (by omega)).trans ((bx_up_ne (by omega)).trans (h12 n hn)), (bx_up_ne (by omega)).trans ((bx_up_ne (by omega)).trans (h13)), fun n hn => (bx_up_ne (by omega)).trans ((bx_up_ne (by omega)).trans (h14 n hn)), fun n hn => (bx_up_ne (by omega)).trans ((bx_up_ne (by omega)).trans (h15 n hn)), fun n hn => (bx_up_ne (by omega)).trans ((bx_up_ne (by omega)).trans (h16 n hn)), fun n hn => (bx_up_ne (by omega)).trans ((bx_up_ne (by omega)).trans (h17 n hn)), (bx_up_ne (by omega)).trans (bx_up_at.trans (e3.symm.trans (hf 1 14 (by decide) (by decide)))), bx_up_at.trans (e1.symm.trans ((bx_up_ne (by omega)).trans (hf 1 15 (by decide) (by decide)))), fun p n hp hi => (bx_up_ne (fun h => by have e := h.1; subst e; revert hp; decide)).trans ((bx_up_ne (fun h => by have e := h.1; subst e; revert hp; decide)).trans (hf p n hp hi))⟩, by unfold rxmCF274x1_20 rxmCF274x1_21; omega⟩
theorem rxgCF274x1_20_0 {X : (Nat → Int → Int) → Prop} {S0 : Nat → Int → Int} {ws : List Int} (hP : rxPCF274x1 S0 ws) : bx_obC rxL X S0 rxCCF274x1.2.2.1 (rxICF274x1 S0 ws) (rxmCF274x1 S0 ws) 20 rxzCF274x1_20 rxoCF274x1_20_0 := by
  intro S S_p r r_p hinv hX hin hsm_ hseg
  obtain ⟨I0, I1, h0_, hr_, b_, f_, d_⟩ := bx_cl (evs := [(1, (0, 274), (0, 15), .inr (0, (9, 0))), (0, (0, 1), (0, 15), .inr (0, (9, 0))), (1, (0, 274), (0, 14), .inr (0, (8, 0))), (0, (0, 1), (0, 14), .inr (0, (8, 0)))]) (fvs := []) hseg (by decide +kernel) (by decide +kernel)
  have hinv : rxICF274x1_20 S0 ws S := hinv
  obtain ⟨⟨l8, u8⟩, ⟨l9, u9⟩, -⟩ := b_
  obtain ⟨T0, ⟨e1, ⟨T2, ⟨e3, w_⟩, w2⟩⟩, w0⟩ := d_
  subst w0
  subst w2
  subst w_
  have g := rxcCF274x1_20_0 hP hin I0 hinv l8 u8 l9 u9 e3 e1
  refine ⟨bx_narP_ok (l := []) g.1, bx_nfP_ok h0_ (fvs := []) (by decide +kernel) g.2.1, ?_, ?_⟩
  · show rxICF274x1_21 S0 ws (bx_up (bx_up T2 274 (14) (r_p 8)) 274 (15) (r_p 9)) (bx_val [(0, 0), (0, 0), (0, 0), (0, 0), (0, 0), (0, 0), (0, 0), (0, 0), (0, 0)] r_p 8)
    rw [bx_val_x (n := 8) (e := (0, 0)) h0_ rfl]
    exact g.2.2.1
  · show rxmCF274x1_21 S0 ws (bx_up (bx_up T2 274 (14) (r_p 8)) 274 (15) (r_p 9)) (bx_val [(0, 0), (0, 0), (0, 0), (0, 0), (0, 0), (0, 0), (0, 0), (0, 0), (0, 0)] r_p 8) < rxmCF274x1_20 S0 ws T2
    rw [bx_val_x (n := 8) (e := (0, 0)) h0_ rfl]
    exact g.2.2.2
theorem rxcCF274x1_21_0 {S0 : Nat → Int → Int} {ws : List Int} {S T8 T7 T6 T5 T4 T3 T2 T1 T0 : Nat → Int → Int} {i x9 x10 x11 : Int} (hP : rxPCF274x1 S0 ws) (hin : bx_same rxL (bx_mdl rxCCF274x1.2.2.1) S0 S) (I0 : bx_Inv rxL S) (hinv : rxICF274x1_21 S0 ws S i) (l8 : 0 ≤ i) (u8 : i ≤ 5) (l9 : 1 ≤ x9) (u9 : x9 ≤ 6) (l10 : 0 ≤ x10) (u10 : x10 ≤ 1522) (l11 : 0 ≤ x11) (u11 : x11 ≤ 1522) (f0 : i < x9) (e11 : S 274 14 = x9) (e10 : S 293 i = x10) (e9 : S 20 i = x11) (v8 : ∀ (p i : Nat), p < rxL.2.1 → i < bx_wd (rxL.1 p) → bx_mc (rxL.1 p) i ≠ (99999, 0) → T8 p (i : Int) = S p (i : Int)) (v7 : ∀ (p i : Nat), p < rxL.2.1 → i < bx_wd (rxL.1 p) → bx_mc (rxL.1 p) i ≠ (1027, 0) → T7 p (i : Int) = T8 p (i : Int)) (v6 : ∀ (p i : Nat), p < rxL.2.1 → i < bx_wd (rxL.1 p) → bx_mc (rxL.1 p) i ≠ (1026, 0) → T6 p (i : Int) = T7 p (i : Int)) (v5 : ∀ (p i : Nat), p < rxL.2.1 → i < bx_wd (rxL.1 p) → bx_mc (rxL.1 p) i ≠ (1025, 0) → T5 p (i : Int) = T6 p (i : Int)) (v4 : ∀ (p i : Nat), p < rxL.2.1 → i < bx_wd (rxL.1 p) → bx_mc (rxL.1 p) i ≠ (1024, 0) → T4 p (i : Int) = T5 p (i : Int)) (v3 : ∀ (p i : Nat), p < rxL.2.1 → i < bx_wd (rxL.1 p) → bx_mc (rxL.1 p) i ≠ (1022, 0) → T3 p (i : Int) = T4 p (i : Int)) (v2 : ∀ (p i : Nat), p < rxL.2.1 → i < bx_wd (rxL.1 p) → bx_mc (rxL.1 p) i ≠ (1021, 0) → T2 p (i : Int) = T3 p (i : Int)) (v1 : ∀ (p i : Nat), p < rxL.2.1 → i < bx_wd (rxL.1 p) → bx_mc (rxL.1 p) i ≠ (6, 4) → T1 p (i : Int) = T2 p (i : Int)) (v0 : ∀ (p i : Nat), p < rxL.2.1 → i < bx_wd (rxL.1 p) → bx_mc (rxL.1 p) i ≠ (6, 0) → T0 p (i : Int) = T1 p (i : Int)) : (True) ∧ (True) ∧ rxICF274x1_21 S0 ws T0 (i + 1) ∧ rxmCF274x1_21 S0 ws T0 (i + 1) < rxmCF274x1_21 S0 ws S i := by
  obtain ⟨h0, h1, h2, h3, h4, h5, h6, h7, h8, h9, h10, h11, h12, h13, h14, h15, h16, h17, h18, h19, hf⟩ := hinv
  have HV : ∀ p n : Nat, p ∈ rxNum → n < bx_wd (rxL.1 p) → T0 p (n : Int) = S p (n : Int) := fun p n hp hi => (rx_frH v0 (l := rxNum) (by decide +kernel) hp hi).trans ((rx_frH v1 (l := rxNum) (by decide +kernel) hp hi).trans ((rx_frH v2 (l := rxNum) (by decide +kernel) hp hi).trans ((rx_frH v3 (l := rxNum) (by decide +kernel) hp hi).trans ((rx_frH v4 (l := rxNum) (by decide +kernel) hp hi).trans ((rx_frH v5 (l := rxNum) (by decide +kernel) hp hi).trans ((rx_frH v6 (l := rxNum) (by decide +kernel) hp hi).trans ((rx_frH v7 (l := rxNum) (by decide +kernel) hp hi).trans (rx_frH v8 (l := rxNum) (by decide +kernel) hp hi))))))))
  exact ⟨trivial, trivial, ⟨(HV 274 0 (by decide) (by decide)).trans h0, fun n hn => (HV 275 n (by decide) (show n < 6 from hn)).trans (h1 n hn), fun n hn => (HV 276 n (by decide) (show n < 6 from hn)).trans (h2 n hn), (HV 278 0 (by decide) (by decide)).trans h3, fun n hn => (HV 279 n (by decide) (show n < 8 from hn)).trans (h4 n hn), fun n hn => (HV 280 n (by decide) (show n < 8 from hn)).trans (h5 n hn), fun n hn => (HV 281 n (by decide) (show n < 8 from hn)).trans (h6 n hn), (HV 274 5 (by decide) (by decide)).trans h7, fun n hn => (HV 282 n (by decide) (show n < 12 from hn)).trans (h8 n hn), fun n hn => (HV 283 n (by decide) (show n < 12 from hn)).trans (h9 n hn), fun n hn => (HV 284 n (by decide) (show n < 12 from hn)).trans (h10 n hn), (HV 274 10 (by decide) (by decide)).trans h11, fun n hn => (HV 286 n (by decide) (show n < 12 from hn)).trans (h12 n hn), (HV 287 0 (by decide) (by decide)).trans h13, fun n hn => (HV 288 n (by decide) (show n < 12 from hn)).trans (h14 n hn), fun n hn => (HV 289 n (by decide) (show n < 12 from hn)).trans (h15 n hn), fun n hn => (HV 290 n (by decide) (show n < 12 from hn)).trans (h16 n hn), fun n hn => (HV 292 n (by decide) (show n < 3 from hn)).trans (h17 n hn), (HV 274 14 (by decide) (by decide)).trans h18, (HV 274 15 (by decide) (by decide)).trans h19, fun p n hp hi => (HV p n (rxFl274_in p hp) hi).trans (hf p n hp hi)⟩, by unfold rxmCF274x1_21; omega⟩
theorem rxgCF274x1_21_0 {X : (Nat → Int → Int) → Prop} {S0 : Nat → Int → Int} {ws : List Int} (hP : rxPCF274x1 S0 ws) : bx_obC rxL X S0 rxCCF274x1.2.2.1 (rxICF274x1 S0 ws) (rxmCF274x1 S0 ws) 21 rxzCF274x1_21 rxoCF274x1_21_0 := by
  intro S S_p r r_p hinv hX hin hsm_ hseg
  obtain ⟨I0, I1, h0_, hr_, b_, f_, d_⟩ := bx_cl (evs := [(2, (6, 0), (0, 0), .inl none), (2, (6, 0), (4, 0), .inl none), (2, (1021, 0), (0, 0), .inl none), (2, (1022, 0), (0, 0), .inl none), (2, (1024, 0), (0, 0), .inl none), (2, (1025, 0), (0, 0), .inl none), (2, (1026, 0), (0, 0), .inl none), (2, (1027, 0), (0, 0), .inl none), (2, (99999, 0), (0, 0), .inl none), (0, (0, 20), (8, 0), .inr (3, (11, 0))), (0, (0, 293), (8, 0), .inr (3, (10, 0))), (0, (0, 274), (0, 14), .inr (0, (9, 0)))]) (fvs := [(0, (8, 0), (9, 0), (0, 0))]) hseg (by decide +kernel) (by decide +kernel)
  have hinv : rxICF274x1_21 S0 ws S (r 8) := hinv
  rw [← hr_ 8 (by decide)] at hinv
  obtain ⟨⟨l8, u8⟩, ⟨l9, u9⟩, ⟨l10, u10⟩, ⟨l11, u11⟩, -⟩ := b_
  obtain ⟨f0, -⟩ := f_
  obtain ⟨T0, ⟨T1, ⟨T2, ⟨T3, ⟨T4, ⟨T5, ⟨T6, ⟨T7, ⟨T8, ⟨e9, ⟨e10, ⟨e11, w_⟩⟩⟩, v8⟩, v7⟩, v6⟩, v5⟩, v4⟩, v3⟩, v2⟩, v1⟩, v0⟩ := d_
  subst w_
  have g := rxcCF274x1_21_0 hP hin I0 hinv l8 u8 l9 u9 l10 u10 l11 u11 f0 e11 e10 e9 v8 v7 v6 v5 v4 v3 v2 v1 v0
  refine ⟨bx_narP_ok (l := []) g.1, bx_nfP_ok h0_ (fvs := []) (by decide +kernel) g.2.1, ?_, ?_⟩
  · show rxICF274x1_21 S0 ws S_p (bx_val [(0, 0), (0, 0), (0, 0), (0, 0), (0, 0), (0, 0), (0, 0), (0, 0), (8, 1)] r_p 8)
    rw [bx_val_x (n := 8) (e := (8, 1)) h0_ rfl]
    exact g.2.2.1
  · show rxmCF274x1_21 S0 ws S_p (bx_val [(0, 0), (0, 0), (0, 0), (0, 0), (0, 0), (0, 0), (0, 0), (0, 0), (8, 1)] r_p 8) < rxmCF274x1_21 S0 ws T8 (r 8)
    rw [bx_val_x (n := 8) (e := (8, 1)) h0_ rfl, ← hr_ 8 (by decide)]
    exact g.2.2.2
theorem rxdCF274x1_21_0 {S0 : Nat → Int → Int} {ws : List Int} {S : Nat → Int → Int} {i x9 : Int} (hP : rxPCF274x1 S0 ws) (hin : bx_same rxL (bx_mdl rxCCF274x1.2.2.1) S0 S) (hin2 : bx_same rxL (bx_mdl rxCCF274x1.2.2.1) S S) (I0 : bx_Inv rxL S) (I1 : bx_Inv rxL S) (hinv : rxICF274x1_21 S0 ws S i) (l8 : 0 ≤ i) (u8 : i ≤ 6) (l9 : 0 ≤ x9) (u9 : x9 ≤ 6) (f0 : x9 ≤ i) (e0 : S 274 14 = x9) : (True) ∧ rxPSCF274x1 S0 ws S none := by
  exact ⟨trivial, rfl, hinv⟩
theorem rxfCF274x1_21_0 {X : (Nat → Int → Int) → Prop} {S0 : Nat → Int → Int} {ws : List Int} (hP : rxPCF274x1 S0 ws) : bx_obE rxL X S0 rxCCF274x1.2.2.1 (rxICF274x1 S0 ws) (rxPSCF274x1 S0 ws) 21 rxzCF274x1_21 rxeCF274x1_21_0 := by
  intro S S_p r r_p hinv hX hin hsm_ hseg
  obtain ⟨I0, I1, h0_, hr_, b_, f_, d_⟩ := bx_cl (evs := [(0, (0, 274), (0, 14), .inr (0, (9, 0)))]) (fvs := [(1, (9, 0), (8, 0), (0, 0))]) hseg (by decide +kernel) (by decide +kernel)
  have hinv : rxICF274x1_21 S0 ws S (r 8) := hinv
  rw [← hr_ 8 (by decide)] at hinv
  obtain ⟨⟨l8, u8⟩, ⟨l9, u9⟩, -⟩ := b_
  obtain ⟨f0, -⟩ := f_
  obtain ⟨e0, w_⟩ := d_
  subst w_
  have g := rxdCF274x1_21_0 hP hin hsm_ I0 I1 hinv l8 u8 l9 u9 f0 e0
  refine ⟨bx_narP_ok (l := []) g.1, ?_⟩
  exact g.2
theorem rxgCCF274x1 {X : (Nat → Int → Int) → Prop} {S0 : Nat → Int → Int} {ws : List Int} (hP : rxPCF274x1 S0 ws) : bx_allI (fun i q => rxUCF274x1 q = true ∨ bx_allP (fun o => bx_obC rxL X S0 rxCCF274x1.2.2.1 (rxICF274x1 S0 ws) (rxmCF274x1 S0 ws) i q.1 o) q.2.1) 0 rxYCF274x1 := ⟨Or.inr ⟨rxgCF274x1_0_0 hP, trivial⟩, Or.inl rfl, Or.inr ⟨rxgCF274x1_2_0 hP, trivial⟩, Or.inl rfl, Or.inr ⟨rxgCF274x1_4_0 hP, trivial⟩, Or.inr ⟨rxgCF274x1_5_0 hP, rxgCF274x1_5_1 hP, trivial⟩, Or.inl rfl, Or.inr ⟨rxgCF274x1_7_0 hP, trivial⟩, Or.inl rfl, Or.inr ⟨rxgCF274x1_9_0 hP, trivial⟩, Or.inl rfl, Or.inr ⟨rxgCF274x1_11_0 hP, trivial⟩, Or.inl rfl, Or.inr ⟨rxgCF274x1_13_0 hP, trivial⟩, Or.inr ⟨rxgCF274x1_14_0 hP, rxgCF274x1_14_1 hP, trivial⟩, Or.inl rfl, Or.inr ⟨rxgCF274x1_16_0 hP, trivial⟩, Or.inl rfl, Or.inr ⟨rxgCF274x1_18_0 hP, trivial⟩, Or.inl rfl, Or.inr ⟨rxgCF274x1_20_0 hP, trivial⟩, Or.inr ⟨rxgCF274x1_21_0 hP, trivial⟩, trivial⟩
theorem rxgECF274x1 {X : (Nat → Int → Int) → Prop} {S0 : Nat → Int → Int} {ws : List Int} (hP : rxPCF274x1 S0 ws) : bx_allI (fun i q => rxUCF274x1 q = true ∨ bx_allP (fun E => bx_obE rxL X S0 rxCCF274x1.2.2.1 (rxICF274x1 S0 ws) (rxPSCF274x1 S0 ws) i q.1 E) q.2.2) 0 rxYCF274x1 := ⟨Or.inr trivial, Or.inl rfl, Or.inr trivial, Or.inl rfl, Or.inr trivial, Or.inr trivial, Or.inl rfl, Or.inr trivial, Or.inl rfl, Or.inr trivial, Or.inl rfl, Or.inr trivial, Or.inl rfl, Or.inr trivial, Or.inr trivial, Or.inl rfl, Or.inr trivial, Or.inl rfl, Or.inr trivial, Or.inl rfl, Or.inr trivial, Or.inr ⟨rxfCF274x1_21_0 hP, trivial⟩, trivial⟩
theorem rxuCF274x1 {PX : State → Prop} {Dg : va_G} {A : Nat → Prop} {ad xa : Nat → Nat} {l : Launch} {X : (Nat → Int → Int) → Prop} (hPX : rx_PXOK rxNW A PX) (hX : ∀ S S1 : Nat → Int → Int, X S → bx_same rxL (bx_mdl rxCCF274x1.2.2.1) S S1 → X S1) (hQPC278x5 : bx_ConP rxG rxNW rxAO PX Dg rxL X vwCl A ad l rxM108 rxCPC278x5 rxPPC278x5 rxPSPC278x5) (hQDC287x14 : bx_ConP rxG rxNW rxAO PX Dg rxL X vwCl A ad l rxM109 rxCDC287x14 rxPDC287x14 rxPSDC287x14) {S0 : Nat → Int → Int} {ws : List Int} (hP : rxPCF274x1 S0 ws) : ∀ (i : Nat) (q : bx_HE), rxYCF274x1[i]? = some q → rxUCF274x1 q = true → ∀ {p : Program} {e : Env} {R : Room} {s : State} {m : MethodId} {args : Array Value} {below : List Frame} {meth : Method} {c : Code} {Q : State → Prop} {H0 : Heap}, rx_Fr rxG rxNW rxAO PX p s m args meth c rxM154 → (∀ q, H0.size ≤ q → A q) → H0 = s.heap → rxM154.2.2.2.2.2.2.1 ≤ R.cells → rxM154.2.2.2.2.2.2.2 ≤ R.slots → rxCCF274x1.2.2.2.1 ≤ R.frames → rxCCF274x1.2.2.2.1 * 40 ≤ R.locals → bx_Step p l e R s m args below meth c Q Dg rxL X vwCl A xa H0 ad rxM154 rxYCF274x1 (rxICF274x1 S0 ws) (rxmCF274x1 S0 ws) S0 rxCCF274x1.2.2.1 i q := by
  intro i q hq hus p e R s m args below meth c Q H0 hF hA hH0 hmc hms hd hdl
  match i, hq with
  | 0, hq =>
    cases hq
    exact absurd (show false = true from hus) Bool.false_ne_true
  | 1, hq =>
    cases hq
    exact rx_stepY (i_p := 2) (idx := 86) (P0 := 2) (P1 := 275) (n := 6) (g0 := 0) (g1 := 0) (t := []) hF rfl (Nat.le_trans (by decide) hd) (Nat.le_trans (by decide) hdl) (by decide +kernel) (by decide +kernel) rfl rfl (by decide) (by decide) rfl rfl (by decide) (by decide) rfl rfl (by decide) (by decide) rfl rfl (rxsCF274x1_1 hP hX)
  | 2, hq =>
    cases hq
    exact absurd (show false = true from hus) Bool.false_ne_true
  | 3, hq =>
    cases hq
    exact rx_stepY (i_p := 4) (idx := 86) (P0 := 3) (P1 := 276) (n := 6) (g0 := 1) (g1 := 1) (t := []) hF rfl (Nat.le_trans (by decide) hd) (Nat.le_trans (by decide) hdl) (by decide +kernel) (by decide +kernel) rfl rfl (by decide) (by decide) rfl rfl (by decide) (by decide) rfl rfl (by decide) (by decide) rfl rfl (rxsCF274x1_3 hP hX)
  | 4, hq =>
    cases hq
    exact absurd (show false = true from hus) Bool.false_ne_true
  | 5, hq =>
    cases hq
    exact absurd (show false = true from hus) Bool.false_ne_true
  | 6, hq =>
    cases hq
    exact rx_stepC (ins := .invokevirtual 96) (len := 3) (i_p := 7) (M_p := rxM108) (d := rxCCF274x1.2.2.2.1) (as := [.inr (3, (0, 278)), .inr (3, (0, 5))]) (t := []) (ct := rxCPC278x5) hPX hF rfl hA hH0 hmc hms hd hdl (by decide +kernel) rfl rfl (by decide +kernel) (by decide +kernel) hQPC278x5 (by decide +kernel) rfl (Or.inl ⟨rfl, rfl, rfl⟩) (rxsCF274x1_6 hP)
  | 7, hq =>
    cases hq
    exact absurd (show false = true from hus) Bool.false_ne_true
  | 8, hq =>
    cases hq
    exact rx_stepY (i_p := 9) (idx := 86) (P0 := 9) (P1 := 282) (n := 12) (g0 := 6) (g1 := 6) (t := []) hF rfl (Nat.le_trans (by decide) hd) (Nat.le_trans (by decide) hdl) (by decide +kernel) (by decide +kernel) rfl rfl (by decide) (by decide) rfl rfl (by decide) (by decide) rfl rfl (by decide) (by decide) rfl rfl (rxsCF274x1_8 hP hX)
  | 9, hq =>
    cases hq
    exact absurd (show false = true from hus) Bool.false_ne_true
  | 10, hq =>
    cases hq
    exact rx_stepY (i_p := 11) (idx := 86) (P0 := 10) (P1 := 283) (n := 12) (g0 := 7) (g1 := 7) (t := []) hF rfl (Nat.le_trans (by decide) hd) (Nat.le_trans (by decide) hdl) (by decide +kernel) (by decide +kernel) rfl rfl (by decide) (by decide) rfl rfl (by decide) (by decide) rfl rfl (by decide) (by decide) rfl rfl (rxsCF274x1_10 hP hX)
  | 11, hq =>
    cases hq
    exact absurd (show false = true from hus) Bool.false_ne_true
  | 12, hq =>
    cases hq
    exact rx_stepY (i_p := 13) (idx := 86) (P0 := 11) (P1 := 284) (n := 12) (g0 := 8) (g1 := 8) (t := []) hF rfl (Nat.le_trans (by decide) hd) (Nat.le_trans (by decide) hdl) (by decide +kernel) (by decide +kernel) rfl rfl (by decide) (by decide) rfl rfl (by decide) (by decide) rfl rfl (by decide) (by decide) rfl rfl (rxsCF274x1_12 hP hX)
  | 13, hq =>
    cases hq
    exact absurd (show false = true from hus) Bool.false_ne_true
  | 14, hq =>
    cases hq
    exact absurd (show false = true from hus) Bool.false_ne_true
  | 15, hq =>
    cases hq
    exact rx_stepY (i_p := 16) (idx := 86) (P0 := 13) (P1 := 286) (n := 12) (g0 := 10) (g1 := 10) (t := []) hF rfl (Nat.le_trans (by decide) hd) (Nat.le_trans (by decide) hdl) (by decide +kernel) (by decide +kernel) rfl rfl (by decide) (by decide) rfl rfl (by decide) (by decide) rfl rfl (by decide) (by decide) rfl rfl (rxsCF274x1_15 hP hX)
  | 16, hq =>
    cases hq
    exact absurd (show false = true from hus) Bool.false_ne_true
  | 17, hq =>
    cases hq
    exact rx_stepC (ins := .invokevirtual 99) (len := 3) (i_p := 18) (M_p := rxM109) (d := rxCCF274x1.2.2.2.1) (as := [.inr (3, (0, 287)), .inr (3, (0, 14))]) (t := []) (ct := rxCDC287x14) hPX hF rfl hA hH0 hmc hms hd hdl (by decide +kernel) rfl rfl (by decide +kernel) (by decide +kernel) hQDC287x14 (by decide +kernel) rfl (Or.inl ⟨rfl, rfl, rfl⟩) (rxsCF274x1_17 hP)
  | 18, hq =>
    cases hq
    exact absurd (show false = true from hus) Bool.false_ne_true
  | 19, hq =>
    cases hq
    exact rx_stepY (i_p := 20) (idx := 86) (P0 := 19) (P1 := 292) (n := 3) (g0 := 15) (g1 := 15) (t := []) hF rfl (Nat.le_trans (by decide) hd) (Nat.le_trans (by decide) hdl) (by decide +kernel) (by decide +kernel) rfl rfl (by decide) (by decide) rfl rfl (by decide) (by decide) rfl rfl (by decide) (by decide) rfl rfl (rxsCF274x1_19 hP hX)
  | 20, hq =>
    cases hq
    exact absurd (show false = true from hus) Bool.false_ne_true
  | 21, hq =>
    cases hq
    exact absurd (show false = true from hus) Bool.false_ne_true
  | n + 22, hq => cases hq
theorem rxQCF274x1 {PX : State → Prop} {Dg : va_G} {A : Nat → Prop} {ad xa : Nat → Nat} {l : Launch} {X : (Nat → Int → Int) → Prop} (hPX : rx_PXOK rxNW A PX) (hsl : ∀ s : State, PX s → ∀ o idx n : Nat, rxSl o idx = some n → ∃ tx : String, vk_R (rxNm o) idx tx (ad n) s)
    (hX : ∀ S S_p : Nat → Int → Int, X S → bx_same rxL (bx_mdl rxCCF274x1.2.2.1) S S_p → X S_p)
    (ih : ∀ (j2 : Nat) (ct2 : bx_Ct) (M2 : rx_Mt), ct2 ∈ rxCn j2 → ct2.2.2.2.1 + 1 ≤ rxCCF274x1.2.2.2.1 → rxT.2.2.2.2.2 j2 = some M2 → bx_Con rxG rxNW rxAO PX Dg rxL X vwCl A ad l M2 ct2) (hQPC278x5 : bx_ConP rxG rxNW rxAO PX Dg rxL X vwCl A ad l rxM108 rxCPC278x5 rxPPC278x5 rxPSPC278x5) (hQDC287x14 : bx_ConP rxG rxNW rxAO PX Dg rxL X vwCl A ad l rxM109 rxCDC287x14 rxPDC287x14 rxPSDC287x14) : bx_ConP rxG rxNW rxAO PX Dg rxL X vwCl A ad l rxM154 rxCCF274x1 rxPCF274x1 rxPSCF274x1 :=
  rxQof (xa := xa) (Cn := rxCn) (f := 30000) (j := 154) (tab := rxYCF274x1) (us := rxUCF274x1) hPX hsl hX ih rfl rxYcCF274x1 rxICF274x1 rxmCF274x1
    (fun S0 ws r I0 I ht0 ht as he he1 hX0 hI0 hP hs ha => by
      have e := he.symm.trans (show bx_ent0 rxNP rxCCF274x1.1 bx_I0 [] = some ([(0, 0), (0, 0), (0, 0), (0, 0), (0, 0), (0, 0), (0, 0), (0, 0)], [], [.inr (3, (0, 274)), .inr (3, (0, 1))]) from rfl)
      cases e
      subst ha
      have h0 : r 0 = 0 := hs.1
      show rxICF274x1_0 S0 _ S0
      refine ⟨rfl, ?_⟩
      simp only [List.map_cons, List.map_nil, bx_xv_ok h0]
      rfl)
    (fun S0 ws hP => rxuCF274x1 (xa := xa) hPX hX hQPC278x5 hQDC287x14 hP) (fun S0 ws hP => rxgCCF274x1 hP) (fun S0 ws hP => rxgECF274x1 hP)
