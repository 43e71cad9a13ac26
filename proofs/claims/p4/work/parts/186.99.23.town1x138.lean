/-! CONTRACT BY HAND, by program (wip/sim/genhand.py): DeadUnderstudies$Town.copyFrom -/
def rxCCF1x138 : bx_Ct := ([(3, (1, 1, 0)), (3, (1, 138, 0))], none, [(2, 0), (5, 0), (6, 0), (6, 4), (10, 0), (10, 5), (10, 10), (10, 14), (10, 15), (1000, 0), (1001, 0), (1003, 0), (1004, 0), (1005, 0), (1006, 0), (1007, 0), (1008, 0), (1010, 0), (1011, 0), (1012, 0), (1013, 0), (1015, 0), (1019, 0), (1020, 0), (1021, 0), (1022, 0), (1024, 0), (1025, 0), (1026, 0), (1027, 0)], 2, [])
def rxICF1x138_0 (S0 : Nat → Int → Int) (ws : List Int) (S : Nat → Int → Int) : Prop := S = S0 ∧ ws = [1, 138]
def rxmCF1x138_0 (S0 : Nat → Int → Int) (ws : List Int) (S : Nat → Int → Int) : Nat := 1000
def rxzCF1x138_0 : rx_Z := ([(0, 0), (0, 0), (0, 0), (0, 0), (0, 0), (0, 0), (0, 0), (0, 0)], [], [], 0, 0, 0, [(0, .inr (3, (0, 1))), (1, .inr (3, (0, 138)))], [])
def rxICF1x138_1 (S0 : Nat → Int → Int) (ws : List Int) (S : Nat → Int → Int) : Prop := S 1 0 = S0 138 0 ∧ (∀ p i : Nat, p ∈ rxFl1 → i < bx_wd (rxL.1 p) → S p (i : Int) = S0 p (i : Int))
def rxmCF1x138_1 (S0 : Nat → Int → Int) (ws : List Int) (S : Nat → Int → Int) : Nat := 990
def rxzCF1x138_1 : rx_Z := ([(0, 0), (0, 0), (0, 0), (0, 0), (0, 0), (0, 0), (0, 0), (0, 0)], [], [], 0, 0, 20, [(0, .inr (3, (0, 1))), (1, .inr (3, (0, 138)))], [.inr (0, (0, 6)), .inr (0, (0, 0)), .inr (3, (0, 2)), .inr (0, (0, 0)), .inr (3, (0, 139))])
def rxICF1x138_2 (S0 : Nat → Int → Int) (ws : List Int) (S : Nat → Int → Int) : Prop := S 1 0 = S0 138 0 ∧ (∀ i : Nat, i < 6 → S 2 (i : Int) = S0 139 (i : Int)) ∧ (∀ p i : Nat, p ∈ rxFl1 → i < bx_wd (rxL.1 p) → S p (i : Int) = S0 p (i : Int))
def rxmCF1x138_2 (S0 : Nat → Int → Int) (ws : List Int) (S : Nat → Int → Int) : Nat := 985
def rxzCF1x138_2 : rx_Z := ([(0, 0), (0, 0), (0, 0), (0, 0), (0, 0), (0, 0), (0, 0), (0, 0)], [], [], 0, 0, 23, [(0, .inr (3, (0, 1))), (1, .inr (3, (0, 138)))], [])
def rxICF1x138_3 (S0 : Nat → Int → Int) (ws : List Int) (S : Nat → Int → Int) : Prop := S 1 0 = S0 138 0 ∧ (∀ i : Nat, i < 6 → S 2 (i : Int) = S0 139 (i : Int)) ∧ (∀ p i : Nat, p ∈ rxFl1 → i < bx_wd (rxL.1 p) → S p (i : Int) = S0 p (i : Int))
def rxmCF1x138_3 (S0 : Nat → Int → Int) (ws : List Int) (S : Nat → Int → Int) : Nat := 980
def rxzCF1x138_3 : rx_Z := ([(0, 0), (0, 0), (0, 0), (0, 0), (0, 0), (0, 0), (0, 0), (0, 0)], [], [], 0, 0, 35, [(0, .inr (3, (0, 1))), (1, .inr (3, (0, 138)))], [.inr (0, (0, 6)), .inr (0, (0, 0)), .inr (3, (0, 3)), .inr (0, (0, 0)), .inr (3, (0, 140))])
def rxICF1x138_4 (S0 : Nat → Int → Int) (ws : List Int) (S : Nat → Int → Int) : Prop := S 1 0 = S0 138 0 ∧ (∀ i : Nat, i < 6 → S 2 (i : Int) = S0 139 (i : Int)) ∧ (∀ i : Nat, i < 6 → S 3 (i : Int) = S0 140 (i : Int)) ∧ (∀ p i : Nat, p ∈ rxFl1 → i < bx_wd (rxL.1 p) → S p (i : Int) = S0 p (i : Int))
def rxmCF1x138_4 (S0 : Nat → Int → Int) (ws : List Int) (S : Nat → Int → Int) : Nat := 975
def rxzCF1x138_4 : rx_Z := ([(0, 0), (0, 0), (0, 0), (0, 0), (0, 0), (0, 0), (0, 0), (0, 0)], [], [], 0, 0, 38, [(0, .inr (3, (0, 1))), (1, .inr (3, (0, 138)))], [])
def rxICF1x138_5 (S0 : Nat → Int → Int) (ws : List Int) (S : Nat → Int → Int) (i : Int) : Prop := S 1 0 = S0 138 0 ∧ (∀ i : Nat, i < 6 → S 2 (i : Int) = S0 139 (i : Int)) ∧ (∀ i : Nat, i < 6 → S 3 (i : Int) = S0 140 (i : Int)) ∧ (∀ p i : Nat, p ∈ rxFl1 → i < bx_wd (rxL.1 p) → S p (i : Int) = S0 p (i : Int))
def rxmCF1x138_5 (S0 : Nat → Int → Int) (ws : List Int) (S : Nat → Int → Int) (i : Int) : Nat := 940 + (20 - i).toNat
def rxzCF1x138_5 : rx_Z := ([(0, 0), (0, 0), (0, 0), (0, 0), (0, 0), (0, 0), (0, 0), (0, 0), (0, 6)], [], [], 0, 0, 40, [(0, .inr (3, (0, 1))), (1, .inr (3, (0, 138))), (2, .inr (0, (8, 0)))], [])
def rxICF1x138_6 (S0 : Nat → Int → Int) (ws : List Int) (S : Nat → Int → Int) : Prop := S 1 0 = S0 138 0 ∧ (∀ i : Nat, i < 6 → S 2 (i : Int) = S0 139 (i : Int)) ∧ (∀ i : Nat, i < 6 → S 3 (i : Int) = S0 140 (i : Int)) ∧ (∀ p i : Nat, p ∈ rxFl1 → i < bx_wd (rxL.1 p) → S p (i : Int) = S0 p (i : Int))
def rxmCF1x138_6 (S0 : Nat → Int → Int) (ws : List Int) (S : Nat → Int → Int) : Nat := 930
def rxzCF1x138_6 : rx_Z := ([(0, 0), (0, 0), (0, 0), (0, 0), (0, 0), (0, 0), (0, 0), (0, 0)], [], [], 0, 0, 75, [(0, .inr (3, (0, 1))), (1, .inr (3, (0, 138))), (2, .inr (0, (0, 6)))], [.inr (3, (0, 142)), .inr (3, (0, 5))])
def rxICF1x138_7 (S0 : Nat → Int → Int) (ws : List Int) (S : Nat → Int → Int) : Prop := S 1 0 = S0 138 0 ∧ (∀ i : Nat, i < 6 → S 2 (i : Int) = S0 139 (i : Int)) ∧ (∀ i : Nat, i < 6 → S 3 (i : Int) = S0 140 (i : Int)) ∧ S 5 0 = S0 142 0 ∧ (∀ i : Nat, i < 8 → S 6 (i : Int) = S0 143 (i : Int)) ∧ (∀ i : Nat, i < 8 → S 7 (i : Int) = S0 144 (i : Int)) ∧ (∀ i : Nat, i < 8 → S 8 (i : Int) = S0 145 (i : Int)) ∧ (∀ p i : Nat, p ∈ rxFl1 → i < bx_wd (rxL.1 p) → S p (i : Int) = S0 p (i : Int))
def rxmCF1x138_7 (S0 : Nat → Int → Int) (ws : List Int) (S : Nat → Int → Int) : Nat := 925
def rxzCF1x138_7 : rx_Z := ([(0, 0), (0, 0), (0, 0), (0, 0), (0, 0), (0, 0), (0, 0), (0, 0)], [], [], 0, 0, 78, [(0, .inr (3, (0, 1))), (1, .inr (3, (0, 138))), (2, .inr (0, (0, 6)))], [])
def rxICF1x138_8 (S0 : Nat → Int → Int) (ws : List Int) (S : Nat → Int → Int) : Prop := S 1 0 = S0 138 0 ∧ (∀ i : Nat, i < 6 → S 2 (i : Int) = S0 139 (i : Int)) ∧ (∀ i : Nat, i < 6 → S 3 (i : Int) = S0 140 (i : Int)) ∧ S 5 0 = S0 142 0 ∧ (∀ i : Nat, i < 8 → S 6 (i : Int) = S0 143 (i : Int)) ∧ (∀ i : Nat, i < 8 → S 7 (i : Int) = S0 144 (i : Int)) ∧ (∀ i : Nat, i < 8 → S 8 (i : Int) = S0 145 (i : Int)) ∧ S 1 5 = S0 138 5 ∧ (∀ p i : Nat, p ∈ rxFl1 → i < bx_wd (rxL.1 p) → S p (i : Int) = S0 p (i : Int))
def rxmCF1x138_8 (S0 : Nat → Int → Int) (ws : List Int) (S : Nat → Int → Int) : Nat := 920
def rxzCF1x138_8 : rx_Z := ([(0, 0), (0, 0), (0, 0), (0, 0), (0, 0), (0, 0), (0, 0), (0, 0)], [], [], 0, 0, 98, [(0, .inr (3, (0, 1))), (1, .inr (3, (0, 138))), (2, .inr (0, (0, 6)))], [.inr (0, (0, 12)), .inr (0, (0, 0)), .inr (3, (0, 9)), .inr (0, (0, 0)), .inr (3, (0, 146))])
def rxICF1x138_9 (S0 : Nat → Int → Int) (ws : List Int) (S : Nat → Int → Int) : Prop := S 1 0 = S0 138 0 ∧ (∀ i : Nat, i < 6 → S 2 (i : Int) = S0 139 (i : Int)) ∧ (∀ i : Nat, i < 6 → S 3 (i : Int) = S0 140 (i : Int)) ∧ S 5 0 = S0 142 0 ∧ (∀ i : Nat, i < 8 → S 6 (i : Int) = S0 143 (i : Int)) ∧ (∀ i : Nat, i < 8 → S 7 (i : Int) = S0 144 (i : Int)) ∧ (∀ i : Nat, i < 8 → S 8 (i : Int) = S0 145 (i : Int)) ∧ S 1 5 = S0 138 5 ∧ (∀ i : Nat, i < 12 → S 9 (i : Int) = S0 146 (i : Int)) ∧ (∀ p i : Nat, p ∈ rxFl1 → i < bx_wd (rxL.1 p) → S p (i : Int) = S0 p (i : Int))
def rxmCF1x138_9 (S0 : Nat → Int → Int) (ws : List Int) (S : Nat → Int → Int) : Nat := 915
def rxzCF1x138_9 : rx_Z := ([(0, 0), (0, 0), (0, 0), (0, 0), (0, 0), (0, 0), (0, 0), (0, 0)], [], [], 0, 0, 101, [(0, .inr (3, (0, 1))), (1, .inr (3, (0, 138))), (2, .inr (0, (0, 6)))], [])
def rxICF1x138_10 (S0 : Nat → Int → Int) (ws : List Int) (S : Nat → Int → Int) : Prop := S 1 0 = S0 138 0 ∧ (∀ i : Nat, i < 6 → S 2 (i : Int) = S0 139 (i : Int)) ∧ (∀ i : Nat, i < 6 → S 3 (i : Int) = S0 140 (i : Int)) ∧ S 5 0 = S0 142 0 ∧ (∀ i : Nat, i < 8 → S 6 (i : Int) = S0 143 (i : Int)) ∧ (∀ i : Nat, i < 8 → S 7 (i : Int) = S0 144 (i : Int)) ∧ (∀ i : Nat, i < 8 → S 8 (i : Int) = S0 145 (i : Int)) ∧ S 1 5 = S0 138 5 ∧ (∀ i : Nat, i < 12 → S 9 (i : Int) = S0 146 (i : Int)) ∧ (∀ p i : Nat, p ∈ rxFl1 → i < bx_wd (rxL.1 p) → S p (i : Int) = S0 p (i : Int))
def rxmCF1x138_10 (S0 : Nat → Int → Int) (ws : List Int) (S : Nat → Int → Int) : Nat := 910
def rxzCF1x138_10 : rx_Z := ([(0, 0), (0, 0), (0, 0), (0, 0), (0, 0), (0, 0), (0, 0), (0, 0)], [], [], 0, 0, 113, [(0, .inr (3, (0, 1))), (1, .inr (3, (0, 138))), (2, .inr (0, (0, 6)))], [.inr (0, (0, 12)), .inr (0, (0, 0)), .inr (3, (0, 10)), .inr (0, (0, 0)), .inr (3, (0, 147))])
def rxICF1x138_11 (S0 : Nat → Int → Int) (ws : List Int) (S : Nat → Int → Int) : Prop := S 1 0 = S0 138 0 ∧ (∀ i : Nat, i < 6 → S 2 (i : Int) = S0 139 (i : Int)) ∧ (∀ i : Nat, i < 6 → S 3 (i : Int) = S0 140 (i : Int)) ∧ S 5 0 = S0 142 0 ∧ (∀ i : Nat, i < 8 → S 6 (i : Int) = S0 143 (i : Int)) ∧ (∀ i : Nat, i < 8 → S 7 (i : Int) = S0 144 (i : Int)) ∧ (∀ i : Nat, i < 8 → S 8 (i : Int) = S0 145 (i : Int)) ∧ S 1 5 = S0 138 5 ∧ (∀ i : Nat, i < 12 → S 9 (i : Int) = S0 146 (i : Int)) ∧ (∀ i : Nat, i < 12 → S 10 (i : Int) = S0 147 (i : Int)) ∧ (∀ p i : Nat, p ∈ rxFl1 → i < bx_wd (rxL.1 p) → S p (i : Int) = S0 p (i : Int))
def rxmCF1x138_11 (S0 : Nat → Int → Int) (ws : List Int) (S : Nat → Int → Int) : Nat := 905
def rxzCF1x138_11 : rx_Z := ([(0, 0), (0, 0), (0, 0), (0, 0), (0, 0), (0, 0), (0, 0), (0, 0)], [], [], 0, 0, 116, [(0, .inr (3, (0, 1))), (1, .inr (3, (0, 138))), (2, .inr (0, (0, 6)))], [])
def rxICF1x138_12 (S0 : Nat → Int → Int) (ws : List Int) (S : Nat → Int → Int) : Prop := S 1 0 = S0 138 0 ∧ (∀ i : Nat, i < 6 → S 2 (i : Int) = S0 139 (i : Int)) ∧ (∀ i : Nat, i < 6 → S 3 (i : Int) = S0 140 (i : Int)) ∧ S 5 0 = S0 142 0 ∧ (∀ i : Nat, i < 8 → S 6 (i : Int) = S0 143 (i : Int)) ∧ (∀ i : Nat, i < 8 → S 7 (i : Int) = S0 144 (i : Int)) ∧ (∀ i : Nat, i < 8 → S 8 (i : Int) = S0 145 (i : Int)) ∧ S 1 5 = S0 138 5 ∧ (∀ i : Nat, i < 12 → S 9 (i : Int) = S0 146 (i : Int)) ∧ (∀ i : Nat, i < 12 → S 10 (i : Int) = S0 147 (i : Int)) ∧ (∀ p i : Nat, p ∈ rxFl1 → i < bx_wd (rxL.1 p) → S p (i : Int) = S0 p (i : Int))
def rxmCF1x138_12 (S0 : Nat → Int → Int) (ws : List Int) (S : Nat → Int → Int) : Nat := 900
def rxzCF1x138_12 : rx_Z := ([(0, 0), (0, 0), (0, 0), (0, 0), (0, 0), (0, 0), (0, 0), (0, 0)], [], [], 0, 0, 128, [(0, .inr (3, (0, 1))), (1, .inr (3, (0, 138))), (2, .inr (0, (0, 6)))], [.inr (0, (0, 12)), .inr (0, (0, 0)), .inr (3, (0, 11)), .inr (0, (0, 0)), .inr (3, (0, 148))])
def rxICF1x138_13 (S0 : Nat → Int → Int) (ws : List Int) (S : Nat → Int → Int) : Prop := S 1 0 = S0 138 0 ∧ (∀ i : Nat, i < 6 → S 2 (i : Int) = S0 139 (i : Int)) ∧ (∀ i : Nat, i < 6 → S 3 (i : Int) = S0 140 (i : Int)) ∧ S 5 0 = S0 142 0 ∧ (∀ i : Nat, i < 8 → S 6 (i : Int) = S0 143 (i : Int)) ∧ (∀ i : Nat, i < 8 → S 7 (i : Int) = S0 144 (i : Int)) ∧ (∀ i : Nat, i < 8 → S 8 (i : Int) = S0 145 (i : Int)) ∧ S 1 5 = S0 138 5 ∧ (∀ i : Nat, i < 12 → S 9 (i : Int) = S0 146 (i : Int)) ∧ (∀ i : Nat, i < 12 → S 10 (i : Int) = S0 147 (i : Int)) ∧ (∀ i : Nat, i < 12 → S 11 (i : Int) = S0 148 (i : Int)) ∧ (∀ p i : Nat, p ∈ rxFl1 → i < bx_wd (rxL.1 p) → S p (i : Int) = S0 p (i : Int))
def rxmCF1x138_13 (S0 : Nat → Int → Int) (ws : List Int) (S : Nat → Int → Int) : Nat := 895
def rxzCF1x138_13 : rx_Z := ([(0, 0), (0, 0), (0, 0), (0, 0), (0, 0), (0, 0), (0, 0), (0, 0)], [], [], 0, 0, 131, [(0, .inr (3, (0, 1))), (1, .inr (3, (0, 138))), (2, .inr (0, (0, 6)))], [])
def rxICF1x138_14 (S0 : Nat → Int → Int) (ws : List Int) (S : Nat → Int → Int) (i : Int) : Prop := S 1 0 = S0 138 0 ∧ (∀ i : Nat, i < 6 → S 2 (i : Int) = S0 139 (i : Int)) ∧ (∀ i : Nat, i < 6 → S 3 (i : Int) = S0 140 (i : Int)) ∧ S 5 0 = S0 142 0 ∧ (∀ i : Nat, i < 8 → S 6 (i : Int) = S0 143 (i : Int)) ∧ (∀ i : Nat, i < 8 → S 7 (i : Int) = S0 144 (i : Int)) ∧ (∀ i : Nat, i < 8 → S 8 (i : Int) = S0 145 (i : Int)) ∧ S 1 5 = S0 138 5 ∧ (∀ i : Nat, i < 12 → S 9 (i : Int) = S0 146 (i : Int)) ∧ (∀ i : Nat, i < 12 → S 10 (i : Int) = S0 147 (i : Int)) ∧ (∀ i : Nat, i < 12 → S 11 (i : Int) = S0 148 (i : Int)) ∧ (∀ p i : Nat, p ∈ rxFl1 → i < bx_wd (rxL.1 p) → S p (i : Int) = S0 p (i : Int))
def rxmCF1x138_14 (S0 : Nat → Int → Int) (ws : List Int) (S : Nat → Int → Int) (i : Int) : Nat := 860 + (20 - i).toNat
def rxzCF1x138_14 : rx_Z := ([(0, 0), (0, 0), (0, 0), (0, 0), (0, 0), (0, 0), (0, 0), (0, 0), (0, 12)], [], [], 0, 0, 133, [(0, .inr (3, (0, 1))), (1, .inr (3, (0, 138))), (2, .inr (0, (8, 0)))], [])
def rxICF1x138_15 (S0 : Nat → Int → Int) (ws : List Int) (S : Nat → Int → Int) : Prop := S 1 0 = S0 138 0 ∧ (∀ i : Nat, i < 6 → S 2 (i : Int) = S0 139 (i : Int)) ∧ (∀ i : Nat, i < 6 → S 3 (i : Int) = S0 140 (i : Int)) ∧ S 5 0 = S0 142 0 ∧ (∀ i : Nat, i < 8 → S 6 (i : Int) = S0 143 (i : Int)) ∧ (∀ i : Nat, i < 8 → S 7 (i : Int) = S0 144 (i : Int)) ∧ (∀ i : Nat, i < 8 → S 8 (i : Int) = S0 145 (i : Int)) ∧ S 1 5 = S0 138 5 ∧ (∀ i : Nat, i < 12 → S 9 (i : Int) = S0 146 (i : Int)) ∧ (∀ i : Nat, i < 12 → S 10 (i : Int) = S0 147 (i : Int)) ∧ (∀ i : Nat, i < 12 → S 11 (i : Int) = S0 148 (i : Int)) ∧ S 1 10 = S0 138 10 ∧ (∀ p i : Nat, p ∈ rxFl1 → i < bx_wd (rxL.1 p) → S p (i : Int) = S0 p (i : Int))
def rxmCF1x138_15 (S0 : Nat → Int → Int) (ws : List Int) (S : Nat → Int → Int) : Nat := 850
def rxzCF1x138_15 : rx_Z := ([(0, 0), (0, 0), (0, 0), (0, 0), (0, 0), (0, 0), (0, 0), (0, 0)], [], [], 0, 0, 180, [(0, .inr (3, (0, 1))), (1, .inr (3, (0, 138))), (2, .inr (0, (0, 12)))], [.inr (0, (0, 12)), .inr (0, (0, 0)), .inr (3, (0, 13)), .inr (0, (0, 0)), .inr (3, (0, 150))])
def rxICF1x138_16 (S0 : Nat → Int → Int) (ws : List Int) (S : Nat → Int → Int) : Prop := S 1 0 = S0 138 0 ∧ (∀ i : Nat, i < 6 → S 2 (i : Int) = S0 139 (i : Int)) ∧ (∀ i : Nat, i < 6 → S 3 (i : Int) = S0 140 (i : Int)) ∧ S 5 0 = S0 142 0 ∧ (∀ i : Nat, i < 8 → S 6 (i : Int) = S0 143 (i : Int)) ∧ (∀ i : Nat, i < 8 → S 7 (i : Int) = S0 144 (i : Int)) ∧ (∀ i : Nat, i < 8 → S 8 (i : Int) = S0 145 (i : Int)) ∧ S 1 5 = S0 138 5 ∧ (∀ i : Nat, i < 12 → S 9 (i : Int) = S0 146 (i : Int)) ∧ (∀ i : Nat, i < 12 → S 10 (i : Int) = S0 147 (i : Int)) ∧ (∀ i : Nat, i < 12 → S 11 (i : Int) = S0 148 (i : Int)) ∧ S 1 10 = S0 138 10 ∧ (∀ i : Nat, i < 12 → S 13 (i : Int) = S0 150 (i : Int)) ∧ (∀ p i : Nat, p ∈ rxFl1 → i < bx_wd (rxL.1 p) → S p (i : Int) = S0 p (i : Int))
def rxmCF1x138_16 (S0 : Nat → Int → Int) (ws : List Int) (S : Nat → Int → Int) : Nat := 845
def rxzCF1x138_16 : rx_Z := ([(0, 0), (0, 0), (0, 0), (0, 0), (0, 0), (0, 0), (0, 0), (0, 0)], [], [], 0, 0, 183, [(0, .inr (3, (0, 1))), (1, .inr (3, (0, 138))), (2, .inr (0, (0, 12)))], [])
def rxICF1x138_17 (S0 : Nat → Int → Int) (ws : List Int) (S : Nat → Int → Int) : Prop := S 1 0 = S0 138 0 ∧ (∀ i : Nat, i < 6 → S 2 (i : Int) = S0 139 (i : Int)) ∧ (∀ i : Nat, i < 6 → S 3 (i : Int) = S0 140 (i : Int)) ∧ S 5 0 = S0 142 0 ∧ (∀ i : Nat, i < 8 → S 6 (i : Int) = S0 143 (i : Int)) ∧ (∀ i : Nat, i < 8 → S 7 (i : Int) = S0 144 (i : Int)) ∧ (∀ i : Nat, i < 8 → S 8 (i : Int) = S0 145 (i : Int)) ∧ S 1 5 = S0 138 5 ∧ (∀ i : Nat, i < 12 → S 9 (i : Int) = S0 146 (i : Int)) ∧ (∀ i : Nat, i < 12 → S 10 (i : Int) = S0 147 (i : Int)) ∧ (∀ i : Nat, i < 12 → S 11 (i : Int) = S0 148 (i : Int)) ∧ S 1 10 = S0 138 10 ∧ (∀ i : Nat, i < 12 → S 13 (i : Int) = S0 150 (i : Int)) ∧ (∀ p i : Nat, p ∈ rxFl1 → i < bx_wd (rxL.1 p) → S p (i : Int) = S0 p (i : Int))
def rxmCF1x138_17 (S0 : Nat → Int → Int) (ws : List Int) (S : Nat → Int → Int) : Nat := 840
def rxzCF1x138_17 : rx_Z := ([(0, 0), (0, 0), (0, 0), (0, 0), (0, 0), (0, 0), (0, 0), (0, 0)], [], [], 0, 0, 191, [(0, .inr (3, (0, 1))), (1, .inr (3, (0, 138))), (2, .inr (0, (0, 12)))], [.inr (3, (0, 151)), .inr (3, (0, 14))])
def rxICF1x138_18 (S0 : Nat → Int → Int) (ws : List Int) (S : Nat → Int → Int) : Prop := S 1 0 = S0 138 0 ∧ (∀ i : Nat, i < 6 → S 2 (i : Int) = S0 139 (i : Int)) ∧ (∀ i : Nat, i < 6 → S 3 (i : Int) = S0 140 (i : Int)) ∧ S 5 0 = S0 142 0 ∧ (∀ i : Nat, i < 8 → S 6 (i : Int) = S0 143 (i : Int)) ∧ (∀ i : Nat, i < 8 → S 7 (i : Int) = S0 144 (i : Int)) ∧ (∀ i : Nat, i < 8 → S 8 (i : Int) = S0 145 (i : Int)) ∧ S 1 5 = S0 138 5 ∧ (∀ i : Nat, i < 12 → S 9 (i : Int) = S0 146 (i : Int)) ∧ (∀ i : Nat, i < 12 → S 10 (i : Int) = S0 147 (i : Int)) ∧ (∀ i : Nat, i < 12 → S 11 (i : Int) = S0 148 (i : Int)) ∧ S 1 10 = S0 138 10 ∧ (∀ i : Nat, i < 12 → S 13 (i : Int) = S0 150 (i : Int)) ∧ S 14 0 = S0 151 0 ∧ (∀ i : Nat, i < 12 → S 15 (i : Int) = S0 152 (i : Int)) ∧ (∀ i : Nat, i < 12 → S 16 (i : Int) = S0 153 (i : Int)) ∧ (∀ i : Nat, i < 12 → S 17 (i : Int) = S0 154 (i : Int)) ∧ (∀ p i : Nat, p ∈ rxFl1 → i < bx_wd (rxL.1 p) → S p (i : Int) = S0 p (i : Int))
def rxmCF1x138_18 (S0 : Nat → Int → Int) (ws : List Int) (S : Nat → Int → Int) : Nat := 835
def rxzCF1x138_18 : rx_Z := ([(0, 0), (0, 0), (0, 0), (0, 0), (0, 0), (0, 0), (0, 0), (0, 0)], [], [], 0, 0, 194, [(0, .inr (3, (0, 1))), (1, .inr (3, (0, 138))), (2, .inr (0, (0, 12)))], [])
def rxICF1x138_19 (S0 : Nat → Int → Int) (ws : List Int) (S : Nat → Int → Int) : Prop := S 1 0 = S0 138 0 ∧ (∀ i : Nat, i < 6 → S 2 (i : Int) = S0 139 (i : Int)) ∧ (∀ i : Nat, i < 6 → S 3 (i : Int) = S0 140 (i : Int)) ∧ S 5 0 = S0 142 0 ∧ (∀ i : Nat, i < 8 → S 6 (i : Int) = S0 143 (i : Int)) ∧ (∀ i : Nat, i < 8 → S 7 (i : Int) = S0 144 (i : Int)) ∧ (∀ i : Nat, i < 8 → S 8 (i : Int) = S0 145 (i : Int)) ∧ S 1 5 = S0 138 5 ∧ (∀ i : Nat, i < 12 → S 9 (i : Int) = S0 146 (i : Int)) ∧ (∀ i : Nat, i < 12 → S 10 (i : Int) = S0 147 (i : Int)) ∧ (∀ i : Nat, i < 12 → S 11 (i : Int) = S0 148 (i : Int)) ∧ S 1 10 = S0 138 10 ∧ (∀ i : Nat, i < 12 → S 13 (i : Int) = S0 150 (i : Int)) ∧ S 14 0 = S0 151 0 ∧ (∀ i : Nat, i < 12 → S 15 (i : Int) = S0 152 (i : Int)) ∧ (∀ i : Nat, i < 12 → S 16 (i : Int) = S0 153 (i : Int)) ∧ (∀ i : Nat, i < 12 → S 17 (i : Int) = S0 154 (i : Int)) ∧ (∀ p i : Nat, p ∈ rxFl1 → i < bx_wd (rxL.1 p) → S p (i : Int) = S0 p (i : Int))
def rxmCF1x138_19 (S0 : Nat → Int → Int) (ws : List Int) (S : Nat → Int → Int) : Nat := 830
def rxzCF1x138_19 : rx_Z := ([(0, 0), (0, 0), (0, 0), (0, 0), (0, 0), (0, 0), (0, 0), (0, 0)], [], [], 0, 0, 205, [(0, .inr (3, (0, 1))), (1, .inr (3, (0, 138))), (2, .inr (0, (0, 12)))], [.inr (0, (0, 3)), .inr (0, (0, 0)), .inr (3, (0, 19)), .inr (0, (0, 0)), .inr (3, (0, 156))])
def rxICF1x138_20 (S0 : Nat → Int → Int) (ws : List Int) (S : Nat → Int → Int) : Prop := S 1 0 = S0 138 0 ∧ (∀ i : Nat, i < 6 → S 2 (i : Int) = S0 139 (i : Int)) ∧ (∀ i : Nat, i < 6 → S 3 (i : Int) = S0 140 (i : Int)) ∧ S 5 0 = S0 142 0 ∧ (∀ i : Nat, i < 8 → S 6 (i : Int) = S0 143 (i : Int)) ∧ (∀ i : Nat, i < 8 → S 7 (i : Int) = S0 144 (i : Int)) ∧ (∀ i : Nat, i < 8 → S 8 (i : Int) = S0 145 (i : Int)) ∧ S 1 5 = S0 138 5 ∧ (∀ i : Nat, i < 12 → S 9 (i : Int) = S0 146 (i : Int)) ∧ (∀ i : Nat, i < 12 → S 10 (i : Int) = S0 147 (i : Int)) ∧ (∀ i : Nat, i < 12 → S 11 (i : Int) = S0 148 (i : Int)) ∧ S 1 10 = S0 138 10 ∧ (∀ i : Nat, i < 12 → S 13 (i : Int) = S0 150 (i : Int)) ∧ S 14 0 = S0 151 0 ∧ (∀ i : Nat, i < 12 → S 15 (i : Int) = S0 152 (i : Int)) ∧ (∀ i : Nat, i < 12 → S 16 (i : Int) = S0 153 (i : Int)) ∧ (∀ i : Nat, i < 12 → S 17 (i : Int) = S0 154 (i : Int)) ∧ (∀ i : Nat, i < 3 → S 19 (i : Int) = S0 156 (i : Int)) ∧ (∀ p i : Nat, p ∈ rxFl1 → i < bx_wd (rxL.1 p) → S p (i : Int) = S0 p (i : Int))
def rxmCF1x138_20 (S0 : Nat → Int → Int) (ws : List Int) (S : Nat → Int → Int) : Nat := 825
def rxzCF1x138_20 : rx_Z := ([(0, 0), (0, 0), (0, 0), (0, 0), (0, 0), (0, 0), (0, 0), (0, 0)], [], [], 0, 0, 208, [(0, .inr (3, (0, 1))), (1, .inr (3, (0, 138))), (2, .inr (0, (0, 12)))], [])
def rxICF1x138_21 (S0 : Nat → Int → Int) (ws : List Int) (S : Nat → Int → Int) (i : Int) : Prop := S 1 0 = S0 138 0 ∧ (∀ i : Nat, i < 6 → S 2 (i : Int) = S0 139 (i : Int)) ∧ (∀ i : Nat, i < 6 → S 3 (i : Int) = S0 140 (i : Int)) ∧ S 5 0 = S0 142 0 ∧ (∀ i : Nat, i < 8 → S 6 (i : Int) = S0 143 (i : Int)) ∧ (∀ i : Nat, i < 8 → S 7 (i : Int) = S0 144 (i : Int)) ∧ (∀ i : Nat, i < 8 → S 8 (i : Int) = S0 145 (i : Int)) ∧ S 1 5 = S0 138 5 ∧ (∀ i : Nat, i < 12 → S 9 (i : Int) = S0 146 (i : Int)) ∧ (∀ i : Nat, i < 12 → S 10 (i : Int) = S0 147 (i : Int)) ∧ (∀ i : Nat, i < 12 → S 11 (i : Int) = S0 148 (i : Int)) ∧ S 1 10 = S0 138 10 ∧ (∀ i : Nat, i < 12 → S 13 (i : Int) = S0 150 (i : Int)) ∧ S 14 0 = S0 151 0 ∧ (∀ i : Nat, i < 12 → S 15 (i : Int) = S0 152 (i : Int)) ∧ (∀ i : Nat, i < 12 → S 16 (i : Int) = S0 153 (i : Int)) ∧ (∀ i : Nat, i < 12 → S 17 (i : Int) = S0 154 (i : Int)) ∧ (∀ i : Nat, i < 3 → S 19 (i : Int) = S0 156 (i : Int)) ∧ S 1 14 = S0 138 14 ∧ S 1 15 = S0 138 15 ∧ (∀ p i : Nat, p ∈ rxFl1 → i < bx_wd (rxL.1 p) → S p (i : Int) = S0 p (i : Int))
def rxmCF1x138_21 (S0 : Nat → Int → Int) (ws : List Int) (S : Nat → Int → Int) (i : Int) : Nat := 790 + (20 - i).toNat
def rxzCF1x138_21 : rx_Z := ([(0, 0), (0, 0), (0, 0), (0, 0), (0, 0), (0, 0), (0, 0), (0, 0), (0, 6)], [], [], 0, 0, 226, [(0, .inr (3, (0, 1))), (1, .inr (3, (0, 138))), (2, .inr (0, (8, 0)))], [])
def rxoCF1x138_0_0 : bx_HO := (([(0, 0), (0, 0), (0, 0), (0, 0), (0, 0), (0, 0), (0, 0), (0, 0), (0, 6)], [], [(((0, 1), 1), .inr (3, (0, 2))), (((0, 138), 1), .inr (3, (0, 139))), (((0, 0), 1851192626986356797424340330377019318111018015026043177553952771000000), .inr (0, (8, 0))), (((0, 1), 0), .inr (0, (8, 0))), (((0, 0), 1851192626986356797424340330377019318111018015026043177634758656000000), .inr (0, (8, 0)))], 0, 0, 20, [(0, .inr (3, (0, 1))), (1, .inr (3, (0, 138)))], [.inr (0, (0, 6)), .inr (0, (0, 0)), .inr (3, (0, 2)), .inr (0, (0, 0)), .inr (3, (0, 139))]), [], [], [(0, 0), (0, 0), (0, 0), (0, 0), (0, 0), (0, 0), (0, 0), (0, 0)], 1)
def rxoCF1x138_2_0 : bx_HO := (([(0, 0), (0, 0), (0, 0), (0, 0), (0, 0), (0, 0), (0, 0), (0, 0)], [], [(((0, 1), 2), .inr (3, (0, 3))), (((0, 138), 2), .inr (3, (0, 140)))], 0, 0, 35, [(0, .inr (3, (0, 1))), (1, .inr (3, (0, 138)))], [.inr (0, (0, 6)), .inr (0, (0, 0)), .inr (3, (0, 3)), .inr (0, (0, 0)), .inr (3, (0, 140))]), [], [], [(0, 0), (0, 0), (0, 0), (0, 0), (0, 0), (0, 0), (0, 0), (0, 0)], 3)
def rxoCF1x138_4_0 : bx_HO := (([(0, 0), (0, 0), (0, 0), (0, 0), (0, 0), (0, 0), (0, 0), (0, 0)], [], [], 0, 0, 40, [(2, .inr (0, (0, 0))), (0, .inr (3, (0, 1))), (1, .inr (3, (0, 138)))], []), [], [], [(0, 0), (0, 0), (0, 0), (0, 0), (0, 0), (0, 0), (0, 0), (0, 0), (0, 0)], 5)
def rxoCF1x138_5_0 : bx_HO := (([(0, 0), (0, 0), (0, 0), (0, 0), (0, 0), (0, 0), (0, 0), (0, 0), (0, 5), (0, 1522), (0, 1522)], [], [(((0, 0), 917100006000000), .inl none), (((0, 0), 918000006000000), .inl none), (((0, 0), 89999100006000000), .inl none), (((0, 0), 1851192626986356797424364830707437625680387377997778264947752960000000), .inr (3, (10, 0))), (((10, 0), 1000010), .inl none), (((0, 138), 3), .inr (3, (0, 141))), (((0, 0), 1851192626986356797424364830707437625680387377997778264866947072000000), .inr (3, (9, 0))), (((9, 0), 1000010), .inl none), (((0, 1), 3), .inr (3, (0, 4)))], 0, 0, 40, [(2, .inr (0, (8, 1))), (0, .inr (3, (0, 1))), (1, .inr (3, (0, 138)))], []), [], [], [(0, 0), (0, 0), (0, 0), (0, 0), (0, 0), (0, 0), (0, 0), (0, 0), (8, 1)], 5)
def rxoCF1x138_5_1 : bx_HO := (([(0, 0), (0, 0), (0, 0), (0, 0), (0, 0), (0, 0), (0, 0), (0, 0), (6, 6)], [], [(((0, 138), 4), .inr (3, (0, 142))), (((0, 1), 4), .inr (3, (0, 5)))], 0, 0, 75, [(0, .inr (3, (0, 1))), (1, .inr (3, (0, 138))), (2, .inr (0, (8, 0)))], [.inr (3, (0, 142)), .inr (3, (0, 5))]), [], [], [(0, 0), (0, 0), (0, 0), (0, 0), (0, 0), (0, 0), (0, 0), (0, 0)], 6)
def rxoCF1x138_7_0 : bx_HO := (([(0, 0), (0, 0), (0, 0), (0, 0), (0, 0), (0, 0), (0, 0), (0, 0), (0, 12)], [], [(((0, 1), 6), .inr (3, (0, 9))), (((0, 138), 6), .inr (3, (0, 146))), (((0, 0), 1851192626986356798427873864310897359480125337295219445323071491000000), .inr (0, (8, 0))), (((0, 1), 5), .inr (0, (8, 0))), (((0, 0), 1851192626986356798427873864310897359480125337295219445403877376000000), .inr (0, (8, 0)))], 0, 0, 98, [(0, .inr (3, (0, 1))), (1, .inr (3, (0, 138))), (2, .inr (0, (0, 6)))], [.inr (0, (0, 12)), .inr (0, (0, 0)), .inr (3, (0, 9)), .inr (0, (0, 0)), .inr (3, (0, 146))]), [], [], [(0, 0), (0, 0), (0, 0), (0, 0), (0, 0), (0, 0), (0, 0), (0, 0)], 8)
def rxoCF1x138_9_0 : bx_HO := (([(0, 0), (0, 0), (0, 0), (0, 0), (0, 0), (0, 0), (0, 0), (0, 0)], [], [(((0, 1), 7), .inr (3, (0, 10))), (((0, 138), 7), .inr (3, (0, 147)))], 0, 0, 113, [(0, .inr (3, (0, 1))), (1, .inr (3, (0, 138))), (2, .inr (0, (0, 6)))], [.inr (0, (0, 12)), .inr (0, (0, 0)), .inr (3, (0, 10)), .inr (0, (0, 0)), .inr (3, (0, 147))]), [], [], [(0, 0), (0, 0), (0, 0), (0, 0), (0, 0), (0, 0), (0, 0), (0, 0)], 10)
def rxoCF1x138_11_0 : bx_HO := (([(0, 0), (0, 0), (0, 0), (0, 0), (0, 0), (0, 0), (0, 0), (0, 0)], [], [(((0, 1), 8), .inr (3, (0, 11))), (((0, 138), 8), .inr (3, (0, 148)))], 0, 0, 128, [(0, .inr (3, (0, 1))), (1, .inr (3, (0, 138))), (2, .inr (0, (0, 6)))], [.inr (0, (0, 12)), .inr (0, (0, 0)), .inr (3, (0, 11)), .inr (0, (0, 0)), .inr (3, (0, 148))]), [], [], [(0, 0), (0, 0), (0, 0), (0, 0), (0, 0), (0, 0), (0, 0), (0, 0)], 12)
def rxoCF1x138_13_0 : bx_HO := (([(0, 0), (0, 0), (0, 0), (0, 0), (0, 0), (0, 0), (0, 0), (0, 0)], [], [], 0, 0, 133, [(2, .inr (0, (0, 0))), (0, .inr (3, (0, 1))), (1, .inr (3, (0, 138)))], []), [], [], [(0, 0), (0, 0), (0, 0), (0, 0), (0, 0), (0, 0), (0, 0), (0, 0), (0, 0)], 14)
def rxoCF1x138_14_0 : bx_HO := (([(0, 0), (0, 0), (0, 0), (0, 0), (0, 0), (0, 0), (0, 0), (0, 0), (0, 11), (0, 1522), (0, 1522)], [], [(((0, 0), 917100006000000), .inl none), (((0, 0), 918000006000000), .inl none), (((0, 0), 89999100006000000), .inl none), (((0, 0), 1851192626986356797424364830707437625680387377997778264952471552000000), .inr (3, (10, 0))), (((10, 0), 1000010), .inl none), (((0, 138), 9), .inr (3, (0, 149))), (((0, 0), 1851192626986356797424364830707437625680387377997778264871665664000000), .inr (3, (9, 0))), (((9, 0), 1000010), .inl none), (((0, 1), 9), .inr (3, (0, 12)))], 0, 0, 133, [(2, .inr (0, (8, 1))), (0, .inr (3, (0, 1))), (1, .inr (3, (0, 138)))], []), [], [], [(0, 0), (0, 0), (0, 0), (0, 0), (0, 0), (0, 0), (0, 0), (0, 0), (8, 1)], 14)
def rxoCF1x138_14_1 : bx_HO := (([(0, 0), (0, 0), (0, 0), (0, 0), (0, 0), (0, 0), (0, 0), (0, 0), (12, 12), (0, 12)], [], [(((0, 1), 11), .inr (3, (0, 13))), (((0, 138), 11), .inr (3, (0, 150))), (((0, 0), 1851192626986356799431407398244775400849232659564395713092190211000000), .inr (0, (9, 0))), (((0, 1), 10), .inr (0, (9, 0))), (((0, 0), 1851192626986356799431407398244775400849232659564395713172996096000000), .inr (0, (9, 0)))], 0, 0, 180, [(0, .inr (3, (0, 1))), (1, .inr (3, (0, 138))), (2, .inr (0, (8, 0)))], [.inr (0, (0, 12)), .inr (0, (0, 0)), .inr (3, (0, 13)), .inr (0, (0, 0)), .inr (3, (0, 150))]), [], [], [(0, 0), (0, 0), (0, 0), (0, 0), (0, 0), (0, 0), (0, 0), (0, 0)], 15)
def rxoCF1x138_16_0 : bx_HO := (([(0, 0), (0, 0), (0, 0), (0, 0), (0, 0), (0, 0), (0, 0), (0, 0)], [], [(((0, 138), 12), .inr (3, (0, 151))), (((0, 1), 12), .inr (3, (0, 14)))], 0, 0, 191, [(0, .inr (3, (0, 1))), (1, .inr (3, (0, 138))), (2, .inr (0, (0, 12)))], [.inr (3, (0, 151)), .inr (3, (0, 14))]), [], [], [(0, 0), (0, 0), (0, 0), (0, 0), (0, 0), (0, 0), (0, 0), (0, 0)], 17)
def rxoCF1x138_18_0 : bx_HO := (([(0, 0), (0, 0), (0, 0), (0, 0), (0, 0), (0, 0), (0, 0), (0, 0)], [], [(((0, 1), 13), .inr (3, (0, 19))), (((0, 138), 13), .inr (3, (0, 156)))], 0, 0, 205, [(0, .inr (3, (0, 1))), (1, .inr (3, (0, 138))), (2, .inr (0, (0, 12)))], [.inr (0, (0, 3)), .inr (0, (0, 0)), .inr (3, (0, 19)), .inr (0, (0, 0)), .inr (3, (0, 156))]), [], [], [(0, 0), (0, 0), (0, 0), (0, 0), (0, 0), (0, 0), (0, 0), (0, 0)], 19)
def rxoCF1x138_20_0 : bx_HO := (([(0, 0), (0, 0), (0, 0), (0, 0), (0, 0), (0, 0), (0, 0), (0, 0), (0, 6), ((-1), 5)], [], [(((0, 0), 1851192626986356800434940932178653442218339981833571980861308931000000), .inr (0, (9, 0))), (((0, 1), 15), .inr (0, (9, 0))), (((0, 0), 1851192626986356800434940932178653442218339981833571980942114816000000), .inr (0, (9, 0))), (((0, 0), 1851192626986356800234234225391877833944518517379736727307485187000000), .inr (0, (8, 0))), (((0, 1), 14), .inr (0, (8, 0))), (((0, 0), 1851192626986356800234234225391877833944518517379736727388291072000000), .inr (0, (8, 0)))], 0, 0, 226, [(2, .inr (0, (0, 0))), (0, .inr (3, (0, 1))), (1, .inr (3, (0, 138)))], []), [], [], [(0, 0), (0, 0), (0, 0), (0, 0), (0, 0), (0, 0), (0, 0), (0, 0), (0, 0)], 21)
def rxoCF1x138_21_0 : bx_HO := (([(0, 0), (0, 0), (0, 0), (0, 0), (0, 0), (0, 0), (0, 0), (0, 0), (0, 5), (1, 6), (0, 1522), (0, 1522)], [(0, (8, 0), (9, 0))], [(((0, 0), 5400006000000), .inl none), (((0, 0), 5400042000000), .inl none), (((0, 0), 918900006000000), .inl none), (((0, 0), 919800006000000), .inl none), (((0, 0), 921600006000000), .inl none), (((0, 0), 922500006000000), .inl none), (((0, 0), 923400006000000), .inl none), (((0, 0), 924300006000000), .inl none), (((0, 0), 89999100006000000), .inl none), (((0, 0), 1851192626986356797424364830707437625680387377997778264957190144000000), .inr (3, (11, 0))), (((11, 0), 1000007), .inl none), (((0, 138), 16), .inr (3, (0, 157))), (((0, 0), 1851192626986356797424364830707437625680387377997778264876384256000000), .inr (3, (10, 0))), (((10, 0), 1000007), .inl none), (((0, 1), 16), .inr (3, (0, 20))), (((0, 0), 1851192626986356800234234225391877833944518517379736727307485184000000), .inr (0, (9, 0))), (((0, 1), 14), .inr (0, (9, 0)))], 0, 0, 226, [(2, .inr (0, (8, 1))), (0, .inr (3, (0, 1))), (1, .inr (3, (0, 138)))], []), [], [], [(0, 0), (0, 0), (0, 0), (0, 0), (0, 0), (0, 0), (0, 0), (0, 0), (8, 1)], 21)
def rxeCF1x138_21_0 : rx_End × List (Nat × Int × Int) := (([(0, 0), (0, 0), (0, 0), (0, 0), (0, 0), (0, 0), (0, 0), (0, 0), (0, 6), (0, 6)], [(1, (9, 0), (8, 0))], [(((0, 0), 1851192626986356800234234225391877833944518517379736727307485184000000), .inr (0, (9, 0))), (((0, 1), 14), .inr (0, (9, 0)))], none), [])
def rxYCF1x138 : List bx_HE := [(rxzCF1x138_0, [rxoCF1x138_0_0], []), (rxzCF1x138_1, [], []), (rxzCF1x138_2, [rxoCF1x138_2_0], []), (rxzCF1x138_3, [], []), (rxzCF1x138_4, [rxoCF1x138_4_0], []), (rxzCF1x138_5, [rxoCF1x138_5_0, rxoCF1x138_5_1], []), (rxzCF1x138_6, [], []), (rxzCF1x138_7, [rxoCF1x138_7_0], []), (rxzCF1x138_8, [], []), (rxzCF1x138_9, [rxoCF1x138_9_0], []), (rxzCF1x138_10, [], []), (rxzCF1x138_11, [rxoCF1x138_11_0], []), (rxzCF1x138_12, [], []), (rxzCF1x138_13, [rxoCF1x138_13_0], []), (rxzCF1x138_14, [rxoCF1x138_14_0, rxoCF1x138_14_1], []), (rxzCF1x138_15, [], []), (rxzCF1x138_16, [rxoCF1x138_16_0], []), (rxzCF1x138_17, [], []), (rxzCF1x138_18, [rxoCF1x138_18_0], []), (rxzCF1x138_19, [], []), (rxzCF1x138_20, [rxoCF1x138_20_0], []), (rxzCF1x138_21, [rxoCF1x138_21_0], [rxeCF1x138_21_0])]
def rxUCF1x138 (q : bx_HE) : Bool := Nat.beq (rx_zpc q.1) 20 || Nat.beq (rx_zpc q.1) 35 || Nat.beq (rx_zpc q.1) 75 || Nat.beq (rx_zpc q.1) 98 || Nat.beq (rx_zpc q.1) 113 || Nat.beq (rx_zpc q.1) 128 || Nat.beq (rx_zpc q.1) 180 || Nat.beq (rx_zpc q.1) 191 || Nat.beq (rx_zpc q.1) 205
def rxYBCF1x138 : bx_B := (rxV, rxNP, rxDmf, bx_mdH rxCCF1x138.2.2.1)
set_option maxRecDepth 100000 in
theorem rxYcCF1x138 : bx_chkH rxYBCF1x138 rxM154 rxCCF1x138 rxYCF1x138 (rxUCF1x138, fun cut z => rx_ex2 (rxCT rxYBCF1x138 rxCn) cut 30000 rxCCF1x138.2.2.2.1 154 z) = true := by decide +kernel
def rxICF1x138 (S0 : Nat → Int → Int) (ws : List Int) (i : Nat) : bx_SP := fun S r => match i with | 0 => rxICF1x138_0 S0 ws S | 1 => rxICF1x138_1 S0 ws S | 2 => rxICF1x138_2 S0 ws S | 3 => rxICF1x138_3 S0 ws S | 4 => rxICF1x138_4 S0 ws S | 5 => rxICF1x138_5 S0 ws S (r 8) | 6 => rxICF1x138_6 S0 ws S | 7 => rxICF1x138_7 S0 ws S | 8 => rxICF1x138_8 S0 ws S | 9 => rxICF1x138_9 S0 ws S | 10 => rxICF1x138_10 S0 ws S | 11 => rxICF1x138_11 S0 ws S | 12 => rxICF1x138_12 S0 ws S | 13 => rxICF1x138_13 S0 ws S | 14 => rxICF1x138_14 S0 ws S (r 8) | 15 => rxICF1x138_15 S0 ws S | 16 => rxICF1x138_16 S0 ws S | 17 => rxICF1x138_17 S0 ws S | 18 => rxICF1x138_18 S0 ws S | 19 => rxICF1x138_19 S0 ws S | 20 => rxICF1x138_20 S0 ws S | 21 => rxICF1x138_21 S0 ws S (r 8) | _ => False
def rxmCF1x138 (S0 : Nat → Int → Int) (ws : List Int) (i : Nat) (S : Nat → Int → Int) (r : Nat → Int) : Nat := match i with | 0 => rxmCF1x138_0 S0 ws S | 1 => rxmCF1x138_1 S0 ws S | 2 => rxmCF1x138_2 S0 ws S | 3 => rxmCF1x138_3 S0 ws S | 4 => rxmCF1x138_4 S0 ws S | 5 => rxmCF1x138_5 S0 ws S (r 8) | 6 => rxmCF1x138_6 S0 ws S | 7 => rxmCF1x138_7 S0 ws S | 8 => rxmCF1x138_8 S0 ws S | 9 => rxmCF1x138_9 S0 ws S | 10 => rxmCF1x138_10 S0 ws S | 11 => rxmCF1x138_11 S0 ws S | 12 => rxmCF1x138_12 S0 ws S | 13 => rxmCF1x138_13 S0 ws S | 14 => rxmCF1x138_14 S0 ws S (r 8) | 15 => rxmCF1x138_15 S0 ws S | 16 => rxmCF1x138_16 S0 ws S | 17 => rxmCF1x138_17 S0 ws S | 18 => rxmCF1x138_18 S0 ws S | 19 => rxmCF1x138_19 S0 ws S | 20 => rxmCF1x138_20 S0 ws S | 21 => rxmCF1x138_21 S0 ws S (r 8) | _ => 0
def rxPCF1x138 (S0 : Nat → Int → Int) (ws : List Int) : Prop := True
def rxPSCF1x138 (S0 : Nat → Int → Int) (ws : List Int) (S : Nat → Int → Int) (w : Option Int) : Prop := w = none ∧ S 1 0 = S0 138 0 ∧ (∀ i : Nat, i < 6 → S 2 (i : Int) = S0 139 (i : Int)) ∧ (∀ i : Nat, i < 6 → S 3 (i : Int) = S0 140 (i : Int)) ∧ S 5 0 = S0 142 0 ∧ (∀ i : Nat, i < 8 → S 6 (i : Int) = S0 143 (i : Int)) ∧ (∀ i : Nat, i < 8 → S 7 (i : Int) = S0 144 (i : Int)) ∧ (∀ i : Nat, i < 8 → S 8 (i : Int) = S0 145 (i : Int)) ∧ S 1 5 = S0 138 5 ∧ (∀ i : Nat, i < 12 → S 9 (i : Int) = S0 146 (i : Int)) ∧ (∀ i : Nat, i < 12 → S 10 (i : Int) = S0 147 (i : Int)) ∧ (∀ i : Nat, i < 12 → S 11 (i : Int) = S0 148 (i : Int)) ∧ S 1 10 = S0 138 10 ∧ (∀ i : Nat, i < 12 → S 13 (i : Int) = S0 150 (i : Int)) ∧ S 14 0 = S0 151 0 ∧ (∀ i : Nat, i < 12 → S 15 (i : Int) = S0 152 (i : Int)) ∧ (∀ i : Nat, i < 12 → S 16 (i : Int) = S0 153 (i : Int)) ∧ (∀ i : Nat, i < 12 → S 17 (i : Int) = S0 154 (i : Int)) ∧ (∀ i : Nat, i < 3 → S 19 (i : Int) = S0 156 (i : Int)) ∧ S 1 14 = S0 138 14 ∧ S 1 15 = S0 138 15 ∧ (∀ p i : Nat, p ∈ rxFl1 → i < bx_wd (rxL.1 p) → S p (i : Int) = S0 p (i : Int))
theorem rxtCF1x138_1 {S0 : Nat → Int → Int} {ws : List Int} {S : Nat → Int → Int} (hP : rxPCF1x138 S0 ws) (hin : bx_same rxL (bx_mdl rxCCF1x138.2.2.1) S0 S) (I0 : bx_Inv rxL S) (hinv : rxICF1x138_1 S0 ws S)  : rxICF1x138_2 S0 ws (bx_cpS S 139 2 6) ∧ rxmCF1x138_2 S0 ws (bx_cpS S 139 2 6) < rxmCF1x138_1 S0 ws S := by
  obtain ⟨h0, hf⟩ := hinv
  refine ⟨⟨?_, ?_, ?_⟩, by unfold rxmCF1x138_1 rxmCF1x138_2; omega⟩
  · exact (bx_cpS_ne (by decide)).trans h0
  · exact fun i hi => (bx_cpS_in (by omega) (by omega)).trans (hf 139 i (by decide) (show i < 6 from hi))
  · exact fun p i hp hi => (bx_cpS_ne (fun e => by subst e; revert hp; decide)).trans (hf p i hp hi)
theorem rxsCF1x138_1 {X : (Nat → Int → Int) → Prop} {S0 : Nat → Int → Int} {ws : List Int} (hP : rxPCF1x138 S0 ws) (hX : ∀ S S1 : Nat → Int → Int, X S → bx_same rxL (bx_mdl rxCCF1x138.2.2.1) S S1 → X S1) : rx_obY X S0 rxCCF1x138.2.2.1 (rxICF1x138 S0 ws) (rxmCF1x138 S0 ws) 1 2 rxzCF1x138_1 139 2 6 := by
  intro S r hinv hXS I0 hin hs_ hf_
  have b_ := bx_bds_sat hs_
  have f_ := bx_fcl_ok hs_.1 hf_
  have g := rxtCF1x138_1 hP hin I0 hinv 
  exact ⟨g.1, g.2, hX _ _ hXS (rx_same_cp (fun _ _ _ _ _ => rfl) (g1 := 0) rfl (by decide +kernel)), rx_same_cp hin (g1 := 0) rfl (by decide +kernel)⟩
theorem rxtCF1x138_3 {S0 : Nat → Int → Int} {ws : List Int} {S : Nat → Int → Int} (hP : rxPCF1x138 S0 ws) (hin : bx_same rxL (bx_mdl rxCCF1x138.2.2.1) S0 S) (I0 : bx_Inv rxL S) (hinv : rxICF1x138_3 S0 ws S)  : rxICF1x138_4 S0 ws (bx_cpS S 140 3 6) ∧ rxmCF1x138_4 S0 ws (bx_cpS S 140 3 6) < rxmCF1x138_3 S0 ws S := by
  obtain ⟨h0, h1, hf⟩ := hinv
  refine ⟨⟨?_, ?_, ?_, ?_⟩, by unfold rxmCF1x138_3 rxmCF1x138_4; omega⟩
  · exact (bx_cpS_ne (by decide)).trans h0
  · exact fun i hi => (bx_cpS_ne (by decide)).trans (h1 i hi)
  · exact fun i hi => (bx_cpS_in (by omega) (by omega)).trans (hf 140 i (by decide) (show i < 6 from hi))
  · exact fun p i hp hi => (bx_cpS_ne (fun e => by subst e; revert hp; decide)).trans (hf p i hp hi)
theorem rxsCF1x138_3 {X : (Nat → Int → Int) → Prop} {S0 : Nat → Int → Int} {ws : List Int} (hP : rxPCF1x138 S0 ws) (hX : ∀ S S1 : Nat → Int → Int, X S → bx_same rxL (bx_mdl rxCCF1x138.2.2.1) S S1 → X S1) : rx_obY X S0 rxCCF1x138.2.2.1 (rxICF1x138 S0 ws) (rxmCF1x138 S0 ws) 3 4 rxzCF1x138_3 140 3 6 := by
  intro S r hinv hXS I0 hin hs_ hf_
  have b_ := bx_bds_sat hs_
  have f_ := bx_fcl_ok hs_.1 hf_
  have g := rxtCF1x138_3 hP hin I0 hinv 
  exact ⟨g.1, g.2, hX _ _ hXS (rx_same_cp (fun _ _ _ _ _ => rfl) (g1 := 1) rfl (by decide +kernel)), rx_same_cp hin (g1 := 1) rfl (by decide +kernel)⟩
theorem rxkCF1x138_6 {S0 : Nat → Int → Int} {ws : List Int} {S : Nat → Int → Int} (hP : rxPCF1x138 S0 ws) (hin : bx_same rxL (bx_mdl rxCCF1x138.2.2.1) S0 S) (I0 : bx_Inv rxL S) (hinv : rxICF1x138_6 S0 ws S)  : rxPPC5x142 S [5, 142] ∧ ∀ (S_p : Nat → Int → Int), rxPSPC5x142 S [5, 142] S_p none → bx_Inv rxL S_p → bx_same rxL (bx_mdl rxCPC5x142.2.2.1) S S_p → rxICF1x138_7 S0 ws S_p ∧ rxmCF1x138_7 S0 ws S_p < rxmCF1x138_6 S0 ws S := by
  obtain ⟨h0, h1, h2, hf⟩ := hinv
  refine ⟨trivial, fun S_p hq _ hsm => ⟨⟨?_, ?_, ?_, ?_, ?_, ?_, ?_, ?_⟩, by unfold rxmCF1x138_6 rxmCF1x138_7; omega⟩⟩
  all_goals obtain ⟨-, q0, q1, q2, q3, qf⟩ := hq
  · exact (qf _ _ (by decide) (by decide) (by decide) (by decide)).trans h0
  · exact fun i hi => (qf _ _ (by decide) (by decide) (by decide) (by decide)).trans (h1 i hi)
  · exact fun i hi => (qf _ _ (by decide) (by decide) (by decide) (by decide)).trans (h2 i hi)
  · exact q0.trans (hf 142 0 (by decide) (by decide))
  · exact fun i hi => (q1 i (by omega) (by omega)).trans (hf 143 i (by decide) (show i < 8 from hi))
  · exact fun i hi => (q2 i (by omega) (by omega)).trans (hf 144 i (by decide) (show i < 8 from hi))
  · exact fun i hi => (q3 i (by omega) (by omega)).trans (hf 145 i (by decide) (show i < 8 from hi))
  · exact fun p i hp hi => (qf p i (fun e => by subst e; revert hp; decide) (fun e => by subst e; revert hp; decide) (fun e => by subst e; revert hp; decide) (fun e => by subst e; revert hp; decide)).trans (hf p i hp hi)
theorem rxsCF1x138_6 {X : (Nat → Int → Int) → Prop} {S0 : Nat → Int → Int} {ws : List Int} (hP : rxPCF1x138 S0 ws) : rx_obK X S0 rxCCF1x138.2.2.1 rxCPC5x142.2.2.1 (rxICF1x138 S0 ws) (rxmCF1x138 S0 ws) 6 7 rxzCF1x138_6 rxzCF1x138_7 [.inr (3, (0, 5)), .inr (3, (0, 142))] none rxPPC5x142 rxPSPC5x142 := by
  intro S r hinv hXS I0 hin hs_ hf_
  have b_ := bx_bds_sat hs_
  have f_ := bx_fcl_ok hs_.1 hf_
  have g := rxkCF1x138_6 hP hin I0 hinv 
  have ea : List.map (bx_num r) [.inr (3, (0, 5)), .inr (3, (0, 142))] = [5, 142] := by
    simp only [List.map_cons, List.map_nil, bx_xv_ok hs_.1]
    rfl
  rw [ea]
  refine ⟨g.1, fun S_p w r_p hPS hX_p I1 hsm hr hw hs_p => ?_⟩
  have hw : w = none := hPS.1
  subst hw
  have g2 := g.2 S_p hPS I1 hsm
  show rxICF1x138_7 S0 ws S_p ∧ rxmCF1x138_7 S0 ws S_p < _
  exact g2
theorem rxtCF1x138_8 {S0 : Nat → Int → Int} {ws : List Int} {S : Nat → Int → Int} (hP : rxPCF1x138 S0 ws) (hin : bx_same rxL (bx_mdl rxCCF1x138.2.2.1) S0 S) (I0 : bx_Inv rxL S) (hinv : rxICF1x138_8 S0 ws S)  : rxICF1x138_9 S0 ws (bx_cpS S 146 9 12) ∧ rxmCF1x138_9 S0 ws (bx_cpS S 146 9 12) < rxmCF1x138_8 S0 ws S := by
  obtain ⟨h0, h1, h2, h3, h4, h5, h6, h7, hf⟩ := hinv
  refine ⟨⟨?_, ?_, ?_, ?_, ?_, ?_, ?_, ?_, ?_, ?_⟩, by unfold rxmCF1x138_8 rxmCF1x138_9; omega⟩
  · exact (bx_cpS_ne (by decide)).trans h0
  · exact fun i hi => (bx_cpS_ne (by decide)).trans (h1 i hi)
  · exact fun i hi => (bx_cpS_ne (by decide)).trans (h2 i hi)
  · exact (bx_cpS_ne (by decide)).trans h3
  · exact fun i hi => (bx_cpS_ne (by decide)).trans (h4 i hi)
  · exact fun i hi => (bx_cpS_ne (by decide)).trans (h5 i hi)
  · exact fun i hi => (bx_cpS_ne (by decide)).trans (h6 i hi)
  · exact (bx_cpS_ne (by decide)).trans h7
  · exact fun i hi => (bx_cpS_in (by omega) (by omega)).trans (hf 146 i (by decide) (show i < 12 from hi))
  · exact fun p i hp hi => (bx_cpS_ne (fun e => by subst e; revert hp; decide)).trans (hf p i hp hi)
theorem rxsCF1x138_8 {X : (Nat → Int → Int) → Prop} {S0 : Nat → Int → Int} {ws : List Int} (hP : rxPCF1x138 S0 ws) (hX : ∀ S S1 : Nat → Int → Int, X S → bx_same rxL (bx_mdl rxCCF1x138.2.2.1) S S1 → X S1) : rx_obY X S0 rxCCF1x138.2.2.1 (rxICF1x138 S0 ws) (rxmCF1x138 S0 ws) 8 9 rxzCF1x138_8 146 9 12 := by
  intro S r hinv hXS I0 hin hs_ hf_
  have b_ := bx_bds_sat hs_
  have f_ := bx_fcl_ok hs_.1 hf_
  have g := rxtCF1x138_8 hP hin I0 hinv 
  exact ⟨g.1, g.2, hX _ _ hXS (rx_same_cp (fun _ _ _ _ _ => rfl) (g1 := 6) rfl (by decide +kernel)), rx_same_cp hin (g1 := 6) rfl (by decide +kernel)⟩
theorem rxtCF1x138_10 {S0 : Nat → Int → Int} {ws : List Int} {S : Nat → Int → Int} (hP : rxPCF1x138 S0 ws) (hin : bx_same rxL (bx_mdl rxCCF1x138.2.2.1) S0 S) (I0 : bx_Inv rxL S) (hinv : rxICF1x138_10 S0 ws S)  : rxICF1x138_11 S0 ws (bx_cpS S 147 10 12) ∧ rxmCF1x138_11 S0 ws (bx_cpS S 147 10 12) < rxmCF1x138_10 S0 ws S := by
  obtain ⟨h0, h1, h2, h3, h4, h5, h6, h7, h8, hf⟩ := hinv
  refine ⟨⟨?_, ?_, ?_, ?_, ?_, ?_, ?_, ?_, ?_, ?_, ?_⟩, by unfold rxmCF1x138_10 rxmCF1x138_11; omega⟩
  · exact (bx_cpS_ne (by decide)).trans h0
  · exact fun i hi => (bx_cpS_ne (by decide)).trans (h1 i hi)
  · exact fun i hi => (bx_cpS_ne (by decide)).trans (h2 i hi)
  · exact (bx_cpS_ne (by decide)).trans h3
  · exact fun i hi => (bx_cpS_ne (by decide)).trans (h4 i hi)
  · exact fun i hi => (bx_cpS_ne (by decide)).trans (h5 i hi)
  · exact fun i hi => (bx_cpS_ne (by decide)).trans (h6 i hi)
  · exact (bx_cpS_ne (by decide)).trans h7
  · exact fun i hi => (bx_cpS_ne (by decide)).trans (h8 i hi)
  · exact fun i hi => (bx_cpS_in (by omega) (by omega)).trans (hf 147 i (by decide) (show i < 12 from hi))
  · exact fun p i hp hi => (bx_cpS_ne (fun e => by subst e; revert hp; decide)).trans (hf p i hp hi)
theorem rxsCF1x138_10 {X : (Nat → Int → Int) → Prop} {S0 : Nat → Int → Int} {ws : List Int} (hP : rxPCF1x138 S0 ws) (hX : ∀ S S1 : Nat → Int → Int, X S → bx_same rxL (bx_mdl rxCCF1x138.2.2.1) S S1 → X S1) : rx_obY X S0 rxCCF1x138.2.2.1 (rxICF1x138 S0 ws) (rxmCF1x138 S0 ws) 10 11 rxzCF1x138_10 147 10 12 := by
  intro S r hinv hXS I0 hin hs_ hf_
  have b_ := bx_bds_sat hs_
  have f_ := bx_fcl_ok hs_.1 hf_
  have g := rxtCF1x138_10 hP hin I0 hinv 
  exact ⟨g.1, g.2, hX _ _ hXS (rx_same_cp (fun _ _ _ _ _ => rfl) (g1 := 7) rfl (by decide +kernel)), rx_same_cp hin (g1 := 7) rfl (by decide +kernel)⟩
theorem rxtCF1x138_12 {S0 : Nat → Int → Int} {ws : List Int} {S : Nat → Int → Int} (hP : rxPCF1x138 S0 ws) (hin : bx_same rxL (bx_mdl rxCCF1x138.2.2.1) S0 S) (I0 : bx_Inv rxL S) (hinv : rxICF1x138_12 S0 ws S)  : rxICF1x138_13 S0 ws (bx_cpS S 148 11 12) ∧ rxmCF1x138_13 S0 ws (bx_cpS S 148 11 12) < rxmCF1x138_12 S0 ws S := by
  obtain ⟨h0, h1, h2, h3, h4, h5, h6, h7, h8, h9, hf⟩ := hinv
  refine ⟨⟨?_, ?_, ?_, ?_, ?_, ?_, ?_, ?_, ?_, ?_, ?_, ?_⟩, by unfold rxmCF1x138_12 rxmCF1x138_13; omega⟩
  · exact (bx_cpS_ne (by decide)).trans h0
  · exact fun i hi => (bx_cpS_ne (by decide)).trans (h1 i hi)
  · exact fun i hi => (bx_cpS_ne (by decide)).trans (h2 i hi)
  · exact (bx_cpS_ne (by decide)).trans h3
  · exact fun i hi => (bx_cpS_ne (by decide)).trans (h4 i hi)
  · exact fun i hi => (bx_cpS_ne (by decide)).trans (h5 i hi)
  · exact fun i hi => (bx_cpS_ne (by decide)).trans (h6 i hi)
  · exact (bx_cpS_ne (by decide)).trans h7
  · exact fun i hi => (bx_cpS_ne (by decide)).trans (h8 i hi)
  · exact fun i hi => (bx_cpS_ne (by decide)).trans (h9 i hi)
  · exact fun i hi => (bx_cpS_in (by omega) (by omega)).trans (hf 148 i (by decide) (show i < 12 from hi))
  · exact fun p i hp hi => (bx_cpS_ne (fun e => by subst e; revert hp; decide)).trans (hf p i hp hi)
theorem rxsCF1x138_12 {X : (Nat → Int → Int) → Prop} {S0 : Nat → Int → Int} {ws : List Int} (hP : rxPCF1x138 S0 ws) (hX : ∀ S S1 : Nat → Int → Int, X S → bx_same rxL (bx_mdl rxCCF1x138.2.2.1) S S1 → X S1) : rx_obY X S0 rxCCF1x138.2.2.1 (rxICF1x138 S0 ws) (rxmCF1x138 S0 ws) 12 13 rxzCF1x138_12 148 11 12 := by
  intro S r hinv hXS I0 hin hs_ hf_
  have b_ := bx_bds_sat hs_
  have f_ := bx_fcl_ok hs_.1 hf_
  have g := rxtCF1x138_12 hP hin I0 hinv 
  exact ⟨g.1, g.2, hX _ _ hXS (rx_same_cp (fun _ _ _ _ _ => rfl) (g1 := 8) rfl (by decide +kernel)), rx_same_cp hin (g1 := 8) rfl (by decide +kernel)⟩
theorem rxtCF1x138_15 {S0 : Nat → Int → Int} {ws : List Int} {S : Nat → Int → Int} (hP : rxPCF1x138 S0 ws) (hin : bx_same rxL (bx_mdl rxCCF1x138.2.2.1) S0 S) (I0 : bx_Inv rxL S) (hinv : rxICF1x138_15 S0 ws S)  : rxICF1x138_16 S0 ws (bx_cpS S 150 13 12) ∧ rxmCF1x138_16 S0 ws (bx_cpS S 150 13 12) < rxmCF1x138_15 S0 ws S := by
  obtain ⟨h0, h1, h2, h3, h4, h5, h6, h7, h8, h9, h10, h11, hf⟩ := hinv
  refine ⟨⟨?_, ?_, ?_, ?_, ?_, ?_, ?_, ?_, ?_, ?_, ?_, ?_, ?_, ?_⟩, by unfold rxmCF1x138_15 rxmCF1x138_16; omega⟩
  · exact (bx_cpS_ne (by decide)).trans h0
  · exact fun i hi => (bx_cpS_ne (by decide)).trans (h1 i hi)
  · exact fun i hi => (bx_cpS_ne (by decide)).trans (h2 i hi)
  · exact (bx_cpS_ne (by decide)).trans h3
  · exact fun i hi => (bx_cpS_ne (by decide)).trans (h4 i hi)
  · exact fun i hi => (bx_cpS_ne (by decide)).trans (h5 i hi)
  · exact fun i hi => (bx_cpS_ne (by decide)).trans (h6 i hi)
  · exact (bx_cpS_ne (by decide)).trans h7
  · exact fun i hi => (bx_cpS_ne (by decide)).trans (h8 i hi)
  · exact fun i hi => (bx_cpS_ne (by decide)).trans (h9 i hi)
  · exact fun i hi => (bx_cpS_ne (by decide)).trans (h10 i hi)
  · exact (bx_cpS_ne (by decide)).trans h11
  · exact fun i hi => (bx_cpS_in (by omega) (by omega)).trans (hf 150 i (by decide) (show i < 12 from hi))
  · exact fun p i hp hi => (bx_cpS_ne (fun e => by subst e; revert hp; decide)).trans (hf p i hp hi)
theorem rxsCF1x138_15 {X : (Nat → Int → Int) → Prop} {S0 : Nat → Int → Int} {ws : List Int} (hP : rxPCF1x138 S0 ws) (hX : ∀ S S1 : Nat → Int → Int, X S → bx_same rxL (bx_mdl rxCCF1x138.2.2.1) S S1 → X S1) : rx_obY X S0 rxCCF1x138.2.2.1 (rxICF1x138 S0 ws) (rxmCF1x138 S0 ws) 15 16 rxzCF1x138_15 150 13 12 := by
  intro S r hinv hXS I0 hin hs_ hf_
  have b_ := bx_bds_sat hs_
  have f_ := bx_fcl_ok hs_.1 hf_
  have g := rxtCF1x138_15 hP hin I0 hinv 
  exact ⟨g.1, g.2, hX _ _ hXS (rx_same_cp (fun _ _ _ _ _ => rfl) (g1 := 10) rfl (by decide +kernel)), rx_same_cp hin (g1 := 10) rfl (by decide +kernel)⟩
theorem rxkCF1x138_17 {S0 : Nat → Int → Int} {ws : List Int} {S : Nat → Int → Int} (hP : rxPCF1x138 S0 ws) (hin : bx_same rxL (bx_mdl rxCCF1x138.2.2.1) S0 S) (I0 : bx_Inv rxL S) (hinv : rxICF1x138_17 S0 ws S)  : rxPDC14x151 S [14, 151] ∧ ∀ (S_p : Nat → Int → Int), rxPSDC14x151 S [14, 151] S_p none → bx_Inv rxL S_p → bx_same rxL (bx_mdl rxCDC14x151.2.2.1) S S_p → rxICF1x138_18 S0 ws S_p ∧ rxmCF1x138_18 S0 ws S_p < rxmCF1x138_17 S0 ws S := by
  obtain ⟨h0, h1, h2, h3, h4, h5, h6, h7, h8, h9, h10, h11, h12, hf⟩ := hinv
  refine ⟨trivial, fun S_p hq _ hsm => ⟨⟨?_, ?_, ?_, ?_, ?_, ?_, ?_, ?_, ?_, ?_, ?_, ?_, ?_, ?_, ?_, ?_, ?_, ?_⟩, by unfold rxmCF1x138_17 rxmCF1x138_18; omega⟩⟩
  all_goals obtain ⟨-, q0, q1, q2, q3, qf⟩ := hq
  · exact (qf _ _ (by decide) (by decide) (by decide) (by decide)).trans h0
  · exact fun i hi => (qf _ _ (by decide) (by decide) (by decide) (by decide)).trans (h1 i hi)
  · exact fun i hi => (qf _ _ (by decide) (by decide) (by decide) (by decide)).trans (h2 i hi)
  · exact (qf _ _ (by decide) (by decide) (by decide) (by decide)).trans h3
  · exact fun i hi => (qf _ _ (by decide) (by decide) (by decide) (by decide)).trans (h4 i hi)
  · exact fun i hi => (qf _ _ (by decide) (by decide) (by decide) (by decide)).trans (h5 i hi)
  · exact fun i hi => (qf _ _ (by decide) (by decide) (by decide) (by decide)).trans (h6 i hi)
  · exact (qf _ _ (by decide) (by decide) (by decide) (by decide)).trans h7
  · exact fun i hi => (qf _ _ (by decide) (by decide) (by decide) (by decide)).trans (h8 i hi)
  · exact fun i hi => (qf _ _ (by decide) (by decide) (by decide) (by decide)).trans (h9 i hi)
  · exact fun i hi => (qf _ _ (by decide) (by decide) (by decide) (by decide)).trans (h10 i hi)
  · exact (qf _ _ (by decide) (by decide) (by decide) (by decide)).trans h11
  · exact fun i hi => (qf _ _ (by decide) (by decide) (by decide) (by decide)).trans (h12 i hi)
  · exact q0.trans (hf 151 0 (by decide) (by decide))
  · exact fun i hi => (q1 i (by omega) (by omega)).trans (hf 152 i (by decide) (show i < 12 from hi))
  · exact fun i hi => (q2 i (by omega) (by omega)).trans (hf 153 i (by decide) (show i < 12 from hi))
  · exact fun i hi => (q3 i (by omega) (by omega)).trans (hf 154 i (by decide) (show i < 12 from hi))
  · exact fun p i hp hi => (qf p i (fun e => by subst e; revert hp; decide) (fun e => by subst e; revert hp; decide) (fun e => by subst e; revert hp; decide) (fun e => by subst e; revert hp; decide)).trans (hf p i hp hi)
theorem rxsCF1x138_17 {X : (Nat → Int → Int) → Prop} {S0 : Nat → Int → Int} {ws : List Int} (hP : rxPCF1x138 S0 ws) : rx_obK X S0 rxCCF1x138.2.2.1 rxCDC14x151.2.2.1 (rxICF1x138 S0 ws) (rxmCF1x138 S0 ws) 17 18 rxzCF1x138_17 rxzCF1x138_18 [.inr (3, (0, 14)), .inr (3, (0, 151))] none rxPDC14x151 rxPSDC14x151 := by
  intro S r hinv hXS I0 hin hs_ hf_
  have b_ := bx_bds_sat hs_
  have f_ := bx_fcl_ok hs_.1 hf_
  have g := rxkCF1x138_17 hP hin I0 hinv 
  have ea : List.map (bx_num r) [.inr (3, (0, 14)), .inr (3, (0, 151))] = [14, 151] := by
    simp only [List.map_cons, List.map_nil, bx_xv_ok hs_.1]
    rfl
  rw [ea]
  refine ⟨g.1, fun S_p w r_p hPS hX_p I1 hsm hr hw hs_p => ?_⟩
  have hw : w = none := hPS.1
  subst hw
  have g2 := g.2 S_p hPS I1 hsm
  show rxICF1x138_18 S0 ws S_p ∧ rxmCF1x138_18 S0 ws S_p < _
  exact g2
theorem rxtCF1x138_19 {S0 : Nat → Int → Int} {ws : List Int} {S : Nat → Int → Int} (hP : rxPCF1x138 S0 ws) (hin : bx_same rxL (bx_mdl rxCCF1x138.2.2.1) S0 S) (I0 : bx_Inv rxL S) (hinv : rxICF1x138_19 S0 ws S)  : rxICF1x138_20 S0 ws (bx_cpS S 156 19 3) ∧ rxmCF1x138_20 S0 ws (bx_cpS S 156 19 3) < rxmCF1x138_19 S0 ws S := by
  obtain ⟨h0, h1, h2, h3, h4, h5, h6, h7, h8, h9, h10, h11, h12, h13, h14, h15, h16, hf⟩ := hinv
  refine ⟨⟨?_, ?_, ?_, ?_, ?_, ?_, ?_, ?_, ?_, ?_, ?_, ?_, ?_, ?_, ?_, ?_, ?_, ?_, ?_⟩, by unfold rxmCF1x138_19 rxmCF1x138_20; omega⟩
  · exact (bx_cpS_ne (by decide)).trans h0
  · exact fun i hi => (bx_cpS_ne (by decide)).trans (h1 i hi)
  · exact fun i hi => (bx_cpS_ne (by decide)).trans (h2 i hi)
  · exact (bx_cpS_ne (by decide)).trans h3
  · exact fun i hi => (bx_cpS_ne (by decide)).trans (h4 i hi)
  · exact fun i hi => (bx_cpS_ne (by decide)).trans (h5 i hi)
  · exact fun i hi => (bx_cpS_ne (by decide)).trans (h6 i hi)
  · exact (bx_cpS_ne (by decide)).trans h7
  · exact fun i hi => (bx_cpS_ne (by decide)).trans (h8 i hi)
  · exact fun i hi => (bx_cpS_ne (by decide)).trans (h9 i hi)
  · exact fun i hi => (bx_cpS_ne (by decide)).trans (h10 i hi)
  · exact (bx_cpS_ne (by decide)).trans h11
  · exact fun i hi => (bx_cpS_ne (by decide)).trans (h12 i hi)
  · exact (bx_cpS_ne (by decide)).trans h13
  · exact fun i hi => (bx_cpS_ne (by decide)).trans (h14 i hi)
  · exact fun i hi => (bx_cpS_ne (by decide)).trans (h15 i hi)
  · exact fun i hi => (bx_cpS_ne (by decide)).trans (h16 i hi)
  · exact fun i hi => (bx_cpS_in (by omega) (by omega)).trans (hf 156 i (by decide) (show i < 3 from hi))
  · exact fun p i hp hi => (bx_cpS_ne (fun e => by subst e; revert hp; decide)).trans (hf p i hp hi)
theorem rxsCF1x138_19 {X : (Nat → Int → Int) → Prop} {S0 : Nat → Int → Int} {ws : List Int} (hP : rxPCF1x138 S0 ws) (hX : ∀ S S1 : Nat → Int → Int, X S → bx_same rxL (bx_mdl rxCCF1x138.2.2.1) S S1 → X S1) : rx_obY X S0 rxCCF1x138.2.2.1 (rxICF1x138 S0 ws) (rxmCF1x138 S0 ws) 19 20 rxzCF1x138_19 156 19 3 := by
  intro S r hinv hXS I0 hin hs_ hf_
  have b_ := bx_bds_sat hs_
  have f_ := bx_fcl_ok hs_.1 hf_
  have g := rxtCF1x138_19 hP hin I0 hinv 
  exact ⟨g.1, g.2, hX _ _ hXS (rx_same_cp (fun _ _ _ _ _ => rfl) (g1 := 15) rfl (by decide +kernel)), rx_same_cp hin (g1 := 15) rfl (by decide +kernel)⟩
theorem rxcCF1x138_0_0 {S0 : Nat → Int → Int} {ws : List Int} {S : Nat → Int → Int} {x8 : Int} (hP : rxPCF1x138 S0 ws) (hin : bx_same rxL (bx_mdl rxCCF1x138.2.2.1) S0 S) (I0 : bx_Inv rxL S) (hinv : rxICF1x138_0 S0 ws S) (l8 : 0 ≤ x8) (u8 : x8 ≤ 6) (e1 : S 138 0 = x8) : (True) ∧ (True) ∧ rxICF1x138_1 S0 ws (bx_up S 1 0 x8) ∧ rxmCF1x138_1 S0 ws (bx_up S 1 0 x8) < rxmCF1x138_0 S0 ws S := by
  obtain ⟨rfl, hw⟩ := hinv
  exact ⟨trivial, trivial, ⟨bx_up_at.trans e1.symm, fun p i hp hi => bx_up_ne (fun h => by have e := h.1; subst e; revert hp; decide)⟩, by unfold rxmCF1x138_0 rxmCF1x138_1; omega⟩
theorem rxgCF1x138_0_0 {X : (Nat → Int → Int) → Prop} {S0 : Nat → Int → Int} {ws : List Int} (hP : rxPCF1x138 S0 ws) : bx_obC rxL X S0 rxCCF1x138.2.2.1 (rxICF1x138 S0 ws) (rxmCF1x138 S0 ws) 0 rxzCF1x138_0 rxoCF1x138_0_0 := by
  intro S S_p r r_p hinv hX hin hsm_ hseg
  obtain ⟨I0, I1, h0_, hr_, b_, f_, d_⟩ := bx_cl (evs := [(1, (0, 1), (0, 0), .inr (0, (8, 0))), (0, (0, 138), (0, 0), .inr (0, (8, 0)))]) (fvs := []) hseg (by decide +kernel) (by decide +kernel)
  have hinv : rxICF1x138_0 S0 ws S := hinv
  obtain ⟨⟨l8, u8⟩, -⟩ := b_
  obtain ⟨T0, ⟨e1, w_⟩, w0⟩ := d_
  subst w0
  subst w_
  have g := rxcCF1x138_0_0 hP hin I0 hinv l8 u8 e1
  refine ⟨bx_narP_ok (l := []) g.1, bx_nfP_ok h0_ (fvs := []) (by decide +kernel) g.2.1, ?_, ?_⟩
  · show rxICF1x138_1 S0 ws (bx_up T0 1 (0) (r_p 8))
    exact g.2.2.1
  · show rxmCF1x138_1 S0 ws (bx_up T0 1 (0) (r_p 8)) < rxmCF1x138_0 S0 ws T0
    exact g.2.2.2
theorem rxcCF1x138_2_0 {S0 : Nat → Int → Int} {ws : List Int} {S : Nat → Int → Int} (hP : rxPCF1x138 S0 ws) (hin : bx_same rxL (bx_mdl rxCCF1x138.2.2.1) S0 S) (I0 : bx_Inv rxL S) (hinv : rxICF1x138_2 S0 ws S)  : (True) ∧ (True) ∧ rxICF1x138_3 S0 ws S ∧ rxmCF1x138_3 S0 ws S < rxmCF1x138_2 S0 ws S := by
  exact ⟨trivial, trivial, hinv, by unfold rxmCF1x138_2 rxmCF1x138_3; omega⟩
theorem rxgCF1x138_2_0 {X : (Nat → Int → Int) → Prop} {S0 : Nat → Int → Int} {ws : List Int} (hP : rxPCF1x138 S0 ws) : bx_obC rxL X S0 rxCCF1x138.2.2.1 (rxICF1x138 S0 ws) (rxmCF1x138 S0 ws) 2 rxzCF1x138_2 rxoCF1x138_2_0 := by
  intro S S_p r r_p hinv hX hin hsm_ hseg
  obtain ⟨I0, I1, h0_, hr_, b_, f_, d_⟩ := bx_cl (evs := []) (fvs := []) hseg (by decide +kernel) (by decide +kernel)
  have hinv : rxICF1x138_2 S0 ws S := hinv
  have w_ := d_
  subst w_
  have g := rxcCF1x138_2_0 hP hin I0 hinv 
  refine ⟨bx_narP_ok (l := []) g.1, bx_nfP_ok h0_ (fvs := []) (by decide +kernel) g.2.1, ?_, ?_⟩
  · show rxICF1x138_3 S0 ws S_p
    exact g.2.2.1
  · show rxmCF1x138_3 S0 ws S_p < rxmCF1x138_2 S0 ws S_p
    exact g.2.2.2
theorem rxcCF1x138_4_0 {S0 : Nat → Int → Int} {ws : List Int} {S : Nat → Int → Int} (hP : rxPCF1x138 S0 ws) (hin : bx_same rxL (bx_mdl rxCCF1x138.2.2.1) S0 S) (I0 : bx_Inv rxL S) (hinv : rxICF1x138_4 S0 ws S)  : (True) ∧ (True) ∧ rxICF1x138_5 S0 ws S 0 ∧ rxmCF1x138_5 S0 ws S 0 < rxmCF1x138_4 S0 ws S := by
  exact ⟨trivial, trivial, hinv, by unfold rxmCF1x138_4 rxmCF1x138_5; omega⟩
theorem rxgCF1x138_4_0 {X : (Nat → Int → Int) → Prop} {S0 : Nat → Int → Int} {ws : List Int} (hP : rxPCF1x138 S0 ws) : bx_obC rxL X S0 rxCCF1x138.2.2.1 (rxICF1x138 S0 ws) (rxmCF1x138 S0 ws) 4 rxzCF1x138_4 rxoCF1x138_4_0 := by
  intro S S_p r r_p hinv hX hin hsm_ hseg
  obtain ⟨I0, I1, h0_, hr_, b_, f_, d_⟩ := bx_cl (evs := []) (fvs := []) hseg (by decide +kernel) (by decide +kernel)
  have hinv : rxICF1x138_4 S0 ws S := hinv
  have w_ := d_
  subst w_
  have g := rxcCF1x138_4_0 hP hin I0 hinv 
  refine ⟨bx_narP_ok (l := []) g.1, bx_nfP_ok h0_ (fvs := []) (by decide +kernel) g.2.1, ?_, ?_⟩
  · show rxICF1x138_5 S0 ws S_p (bx_val [(0, 0), (0, 0), (0, 0), (0, 0), (0, 0), (0, 0), (0, 0), (0, 0), (0, 0)] r_p 8)
    rw [bx_val_x (n := 8) (e := (0, 0)) h0_ rfl]
    exact g.2.2.1
  · show rxmCF1x138_5 S0 ws S_p (bx_val [(0, 0), (0, 0), (0, 0), (0, 0), (0, 0), (0, 0), (0, 0), (0, 0), (0, 0)] r_p 8) < rxmCF1x138_4 S0 ws S_p
    rw [bx_val_x (n := 8) (e := (0, 0)) h0_ rfl]
    exact g.2.2.2
theorem rxcCF1x138_5_0 {S0 : Nat → Int → Int} {ws : List Int} {S T2 T1 T0 : Nat → Int → Int} {i x9 x10 : Int} (hP : rxPCF1x138 S0 ws) (hin : bx_same rxL (bx_mdl rxCCF1x138.2.2.1) S0 S) (I0 : bx_Inv rxL S) (hinv : rxICF1x138_5 S0 ws S i) (l8 : 0 ≤ i) (u8 : i ≤ 5) (l9 : 0 ≤ x9) (u9 : x9 ≤ 1522) (l10 : 0 ≤ x10) (u10 : x10 ≤ 1522) (e4 : S 4 i = x9) (e3 : S 141 i = x10) (v2 : ∀ (p i : Nat), p < rxL.2.1 → i < bx_wd (rxL.1 p) → bx_mc (rxL.1 p) i ≠ (99999, 0) → T2 p (i : Int) = S p (i : Int)) (v1 : ∀ (p i : Nat), p < rxL.2.1 → i < bx_wd (rxL.1 p) → bx_mc (rxL.1 p) i ≠ (1020, 0) → T1 p (i : Int) = T2 p (i : Int)) (v0 : ∀ (p i : Nat), p < rxL.2.1 → i < bx_wd (rxL.1 p) → bx_mc (rxL.1 p) i ≠ (1019, 0) → T0 p (i : Int) = T1 p (i : Int)) : (True) ∧ (True) ∧ rxICF1x138_5 S0 ws T0 (i + 1) ∧ rxmCF1x138_5 S0 ws T0 (i + 1) < rxmCF1x138_5 S0 ws S i := by
  obtain ⟨h0, h1, h2, hf⟩ := hinv
  have HV : ∀ p n : Nat, p ∈ rxNum → n < bx_wd (rxL.1 p) → T0 p (n : Int) = S p (n : Int) := fun p n hp hi => (rx_frH v0 (l := rxNum) (by decide +kernel) hp hi).trans ((rx_frH v1 (l := rxNum) (by decide +kernel) hp hi).trans (rx_frH v2 (l := rxNum) (by decide +kernel) hp hi))
  exact ⟨trivial, trivial, ⟨(HV 1 0 (by decide) (by decide)).trans h0, fun n hn => (HV 2 n (by decide) (show n < 6 from hn)).trans (h1 n hn), fun n hn => (HV 3 n (by decide) (show n < 6 from hn)).trans (h2 n hn), fun p n hp hi => (HV p n (rxFl1_in p hp) hi).trans (hf p n hp hi)⟩, by unfold rxmCF1x138_5; omega⟩
theorem rxgCF1x138_5_0 {X : (Nat → Int → Int) → Prop} {S0 : Nat → Int → Int} {ws : List Int} (hP : rxPCF1x138 S0 ws) : bx_obC rxL X S0 rxCCF1x138.2.2.1 (rxICF1x138 S0 ws) (rxmCF1x138 S0 ws) 5 rxzCF1x138_5 rxoCF1x138_5_0 := by
  intro S S_p r r_p hinv hX hin hsm_ hseg
  obtain ⟨I0, I1, h0_, hr_, b_, f_, d_⟩ := bx_cl (evs := [(2, (1019, 0), (0, 0), .inl none), (2, (1020, 0), (0, 0), .inl none), (2, (99999, 0), (0, 0), .inl none), (0, (0, 141), (8, 0), .inr (3, (10, 0))), (0, (0, 4), (8, 0), .inr (3, (9, 0)))]) (fvs := []) hseg (by decide +kernel) (by decide +kernel)
  have hinv : rxICF1x138_5 S0 ws S (r 8) := hinv
  rw [← hr_ 8 (by decide)] at hinv
  obtain ⟨⟨l8, u8⟩, ⟨l9, u9⟩, ⟨l10, u10⟩, -⟩ := b_
  obtain ⟨T0, ⟨T1, ⟨T2, ⟨e3, ⟨e4, w_⟩⟩, v2⟩, v1⟩, v0⟩ := d_
  subst w_
  have g := rxcCF1x138_5_0 hP hin I0 hinv l8 u8 l9 u9 l10 u10 e4 e3 v2 v1 v0
  refine ⟨bx_narP_ok (l := []) g.1, bx_nfP_ok h0_ (fvs := []) (by decide +kernel) g.2.1, ?_, ?_⟩
  · show rxICF1x138_5 S0 ws S_p (bx_val [(0, 0), (0, 0), (0, 0), (0, 0), (0, 0), (0, 0), (0, 0), (0, 0), (8, 1)] r_p 8)
    rw [bx_val_x (n := 8) (e := (8, 1)) h0_ rfl]
    exact g.2.2.1
  · show rxmCF1x138_5 S0 ws S_p (bx_val [(0, 0), (0, 0), (0, 0), (0, 0), (0, 0), (0, 0), (0, 0), (0, 0), (8, 1)] r_p 8) < rxmCF1x138_5 S0 ws T2 (r 8)
    rw [bx_val_x (n := 8) (e := (8, 1)) h0_ rfl, ← hr_ 8 (by decide)]
    exact g.2.2.2
theorem rxcCF1x138_5_1 {S0 : Nat → Int → Int} {ws : List Int} {S : Nat → Int → Int} {i : Int} (hP : rxPCF1x138 S0 ws) (hin : bx_same rxL (bx_mdl rxCCF1x138.2.2.1) S0 S) (I0 : bx_Inv rxL S) (hinv : rxICF1x138_5 S0 ws S i) (l8 : 6 ≤ i) (u8 : i ≤ 6) : (True) ∧ (True) ∧ rxICF1x138_6 S0 ws S ∧ rxmCF1x138_6 S0 ws S < rxmCF1x138_5 S0 ws S i := by
  exact ⟨trivial, trivial, hinv, by unfold rxmCF1x138_5 rxmCF1x138_6; omega⟩
theorem rxgCF1x138_5_1 {X : (Nat → Int → Int) → Prop} {S0 : Nat → Int → Int} {ws : List Int} (hP : rxPCF1x138 S0 ws) : bx_obC rxL X S0 rxCCF1x138.2.2.1 (rxICF1x138 S0 ws) (rxmCF1x138 S0 ws) 5 rxzCF1x138_5 rxoCF1x138_5_1 := by
  intro S S_p r r_p hinv hX hin hsm_ hseg
  obtain ⟨I0, I1, h0_, hr_, b_, f_, d_⟩ := bx_cl (evs := []) (fvs := []) hseg (by decide +kernel) (by decide +kernel)
  have hinv : rxICF1x138_5 S0 ws S (r 8) := hinv
  rw [← hr_ 8 (by decide)] at hinv
  obtain ⟨⟨l8, u8⟩, -⟩ := b_
  have w_ := d_
  subst w_
  have g := rxcCF1x138_5_1 hP hin I0 hinv l8 u8
  refine ⟨bx_narP_ok (l := []) g.1, bx_nfP_ok h0_ (fvs := []) (by decide +kernel) g.2.1, ?_, ?_⟩
  · show rxICF1x138_6 S0 ws S_p
    exact g.2.2.1
  · show rxmCF1x138_6 S0 ws S_p < rxmCF1x138_5 S0 ws S_p (r 8)
    rw [← hr_ 8 (by decide)]
    exact g.2.2.2
theorem rxcCF1x138_7_0 {S0 : Nat → Int → Int} {ws : List Int} {S : Nat → Int → Int} {x8 : Int} (hP : rxPCF1x138 S0 ws) (hin : bx_same rxL (bx_mdl rxCCF1x138.2.2.1) S0 S) (I0 : bx_Inv rxL S) (hinv : rxICF1x138_7 S0 ws S) (l8 : 0 ≤ x8) (u8 : x8 ≤ 12) (e1 : S 138 5 = x8) : (True) ∧ (True) ∧ rxICF1x138_8 S0 ws (bx_up S 1 5 x8) ∧ rxmCF1x138_8 S0 ws (bx_up S 1 5 x8) < rxmCF1x138_7 S0 ws S := by
  obtain ⟨h0, h1, h2, h3, h4, h5, h6, hf⟩ := hinv
  exact ⟨trivial, trivial, ⟨(bx_up_ne (by omega)).trans (h0), fun n hn => (bx_up_ne (by omega)).trans (h1 n hn), fun n hn => (bx_up_ne (by omega)).trans (h2 n hn), (bx_up_ne (by omega)).trans (h3), fun n hn => (bx_up_ne (by omega)).trans (h4 n hn), fun n hn => (bx_up_ne (by omega)).trans (h5 n hn), fun n hn => (bx_up_ne (by omega)).trans (h6 n hn), bx_up_at.trans (e1.symm.trans (hf 138 5 (by decide) (by decide))), fun p n hp hi => (bx_up_ne (fun h => by have e := h.1; subst e; revert hp; decide)).trans (hf p n hp hi)⟩, by unfold rxmCF1x138_7 rxmCF1x138_8; omega⟩
theorem rxgCF1x138_7_0 {X : (Nat → Int → Int) → Prop} {S0 : Nat → Int → Int} {ws : List Int} (hP : rxPCF1x138 S0 ws) : bx_obC rxL X S0 rxCCF1x138.2.2.1 (rxICF1x138 S0 ws) (rxmCF1x138 S0 ws) 7 rxzCF1x138_7 rxoCF1x138_7_0 := by
  intro S S_p r r_p hinv hX hin hsm_ hseg
  obtain ⟨I0, I1, h0_, hr_, b_, f_, d_⟩ := bx_cl (evs := [(1, (0, 1), (0, 5), .inr (0, (8, 0))), (0, (0, 138), (0, 5), .inr (0, (8, 0)))]) (fvs := []) hseg (by decide +kernel) (by decide +kernel)
  have hinv : rxICF1x138_7 S0 ws S := hinv
  obtain ⟨⟨l8, u8⟩, -⟩ := b_
  obtain ⟨T0, ⟨e1, w_⟩, w0⟩ := d_
  subst w0
  subst w_
  have g := rxcCF1x138_7_0 hP hin I0 hinv l8 u8 e1
  refine ⟨bx_narP_ok (l := []) g.1, bx_nfP_ok h0_ (fvs := []) (by decide +kernel) g.2.1, ?_, ?_⟩
  · show rxICF1x138_8 S0 ws (bx_up T0 1 (5) (r_p 8))
    exact g.2.2.1
  · show rxmCF1x138_8 S0 ws (bx_up T0 1 (5) (r_p 8)) < rxmCF1x138_7 S0 ws T0
    exact g.2.2.2
theorem rxcCF1x138_9_0 {S0 : Nat → Int → Int} {ws : List Int} {S : Nat → Int → Int} (hP : rxPCF1x138 S0 ws) (hin : bx_same rxL (bx_mdl rxCCF1x138.2.2.1) S0 S) (I0 : bx_Inv rxL S) (hinv : rxICF1x138_9 S0 ws S)  : (True) ∧ (True) ∧ rxICF1x138_10 S0 ws S ∧ rxmCF1x138_10 S0 ws S < rxmCF1x138_9 S0 ws S := by
  exact ⟨trivial, trivial, hinv, by unfold rxmCF1x138_9 rxmCF1x138_10; omega⟩
theorem rxgCF1x138_9_0 {X : (Nat → Int → Int) → Prop} {S0 : Nat → Int → Int} {ws : List Int} (hP : rxPCF1x138 S0 ws) : bx_obC rxL X S0 rxCCF1x138.2.2.1 (rxICF1x138 S0 ws) (rxmCF1x138 S0 ws) 9 rxzCF1x138_9 rxoCF1x138_9_0 := by
  intro S S_p r r_p hinv hX hin hsm_ hseg
  obtain ⟨I0, I1, h0_, hr_, b_, f_, d_⟩ := bx_cl (evs := []) (fvs := []) hseg (by decide +kernel) (by decide +kernel)
  have hinv : rxICF1x138_9 S0 ws S := hinv
  have w_ := d_
  subst w_
  have g := rxcCF1x138_9_0 hP hin I0 hinv 
  refine ⟨bx_narP_ok (l := []) g.1, bx_nfP_ok h0_ (fvs := []) (by decide +kernel) g.2.1, ?_, ?_⟩
  · show rxICF1x138_10 S0 ws S_p
    exact g.2.2.1
  · show rxmCF1x138_10 S0 ws S_p < rxmCF1x138_9 S0 ws S_p
    exact g.2.2.2
theorem rxcCF1x138_11_0 {S0 : Nat → Int → Int} {ws : List Int} {S : Nat → Int → Int} (hP : rxPCF1x138 S0 ws) (hin : bx_same rxL (bx_mdl rxCCF1x138.2.2.1) S0 S) (I0 : bx_Inv rxL S) (hinv : rxICF1x138_11 S0 ws S)  : (True) ∧ (True) ∧ rxICF1x138_12 S0 ws S ∧ rxmCF1x138_12 S0 ws S < rxmCF1x138_11 S0 ws S := by
  exact ⟨trivial, trivial, hinv, by unfold rxmCF1x138_11 rxmCF1x138_12; omega⟩
theorem rxgCF1x138_11_0 {X : (Nat → Int → Int) → Prop} {S0 : Nat → Int → Int} {ws : List Int} (hP : rxPCF1x138 S0 ws) : bx_obC rxL X S0 rxCCF1x138.2.2.1 (rxICF1x138 S0 ws) (rxmCF1x138 S0 ws) 11 rxzCF1x138_11 rxoCF1x138_11_0 := by
  intro S S_p r r_p hinv hX hin hsm_ hseg
  obtain ⟨I0, I1, h0_, hr_, b_, f_, d_⟩ := bx_cl (evs := []) (fvs := []) hseg (by decide +kernel) (by decide +kernel)
  have hinv : rxICF1x138_11 S0 ws S := hinv
  have w_ := d_
  subst w_
  have g := rxcCF1x138_11_0 hP hin I0 hinv 
  refine ⟨bx_narP_ok (l := []) g.1, bx_nfP_ok h0_ (fvs := []) (by decide +kernel) g.2.1, ?_, ?_⟩
  · show rxICF1x138_12 S0 ws S_p
    exact g.2.2.1
  · show rxmCF1x138_12 S0 ws S_p < rxmCF1x138_11 S0 ws S_p
    exact g.2.2.2
theorem rxcCF1x138_13_0 {S0 : Nat → Int → Int} {ws : List Int} {S : Nat → Int → Int} (hP : rxPCF1x138 S0 ws) (hin : bx_same rxL (bx_mdl rxCCF1x138.2.2.1) S0 S) (I0 : bx_Inv rxL S) (hinv : rxICF1x138_13 S0 ws S)  : (True) ∧ (True) ∧ rxICF1x138_14 S0 ws S 0 ∧ rxmCF1x138_14 S0 ws S 0 < rxmCF1x138_13 S0 ws S := by
  exact ⟨trivial, trivial, hinv, by unfold rxmCF1x138_13 rxmCF1x138_14; omega⟩
theorem rxgCF1x138_13_0 {X : (Nat → Int → Int) → Prop} {S0 : Nat → Int → Int} {ws : List Int} (hP : rxPCF1x138 S0 ws) : bx_obC rxL X S0 rxCCF1x138.2.2.1 (rxICF1x138 S0 ws) (rxmCF1x138 S0 ws) 13 rxzCF1x138_13 rxoCF1x138_13_0 := by
  intro S S_p r r_p hinv hX hin hsm_ hseg
  obtain ⟨I0, I1, h0_, hr_, b_, f_, d_⟩ := bx_cl (evs := []) (fvs := []) hseg (by decide +kernel) (by decide +kernel)
  have hinv : rxICF1x138_13 S0 ws S := hinv
  have w_ := d_
  subst w_
  have g := rxcCF1x138_13_0 hP hin I0 hinv 
  refine ⟨bx_narP_ok (l := []) g.1, bx_nfP_ok h0_ (fvs := []) (by decide +kernel) g.2.1, ?_, ?_⟩
  · show rxICF1x138_14 S0 ws S_p (bx_val [(0, 0), (0, 0), (0, 0), (0, 0), (0, 0), (0, 0), (0, 0), (0, 0), (0, 0)] r_p 8)
    rw [bx_val_x (n := 8) (e := (0, 0)) h0_ rfl]
    exact g.2.2.1
  · show rxmCF1x138_14 S0 ws S_p (bx_val [(0, 0), (0, 0), (0, 0), (0, 0), (0, 0), (0, 0), (0, 0), (0, 0), (0, 0)] r_p 8) < rxmCF1x138_13 S0 ws S_p
    rw [bx_val_x (n := 8) (e := (0, 0)) h0_ rfl]
    exact g.2.2.2
theorem rxcCF1x138_14_0 {S0 : Nat → Int → Int} {ws : List Int} {S T2 T1 T0 : Nat → Int → Int} {i x9 x10 : Int} (hP : rxPCF1x138 S0 ws) (hin : bx_same rxL (bx_mdl rxCCF1x138.2.2.1) S0 S) (I0 : bx_Inv rxL S) (hinv : rxICF1x138_14 S0 ws S i) (l8 : 0 ≤ i) (u8 : i ≤ 11) (l9 : 0 ≤ x9) (u9 : x9 ≤ 1522) (l10 : 0 ≤ x10) (u10 : x10 ≤ 1522) (e4 : S 12 i = x9) (e3 : S 149 i = x10) (v2 : ∀ (p i : Nat), p < rxL.2.1 → i < bx_wd (rxL.1 p) → bx_mc (rxL.1 p) i ≠ (99999, 0) → T2 p (i : Int) = S p (i : Int)) (v1 : ∀ (p i : Nat), p < rxL.2.1 → i < bx_wd (rxL.1 p) → bx_mc (rxL.1 p) i ≠ (1020, 0) → T1 p (i : Int) = T2 p (i : Int)) (v0 : ∀ (p i : Nat), p < rxL.2.1 → i < bx_wd (rxL.1 p) → bx_mc (rxL.1 p) i ≠ (1019, 0) → T0 p (i : Int) = T1 p (i : Int)) : (True) ∧ (True) ∧ rxICF1x138_14 S0 ws T0 (i + 1) ∧ rxmCF1x138_14 S0 ws T0 (i + 1) < rxmCF1x138_14 S0 ws S i := by
  obtain ⟨h0, h1, h2, h3, h4, h5, h6, h7, h8, h9, h10, hf⟩ := hinv
  have HV : ∀ p n : Nat, p ∈ rxNum → n < bx_wd (rxL.1 p) → T0 p (n : Int) = S p (n : Int) := fun p n hp hi => (rx_frH v0 (l := rxNum) (by decide +kernel) hp hi).trans ((rx_frH v1 (l := rxNum) (by decide +kernel) hp hi).trans (rx_frH v2 (l := rxNum) (by decide +kernel) hp hi))
  exact ⟨trivial, trivial, ⟨(HV 1 0 (by decide) (by decide)).trans h0, fun n hn => (HV 2 n (by decide) (show n < 6 from hn)).trans (h1 n hn), fun n hn => (HV 3 n (by decide) (show n < 6 from hn)).trans (h2 n hn), (HV 5 0 (by decide) (by decide)).trans h3, fun n hn => (HV 6 n (by decide) (show n < 8 from hn)).trans (h4 n hn), fun n hn => (HV 7 n (by decide) (show n < 8 from hn)).trans (h5 n hn), fun n hn => (HV 8 n (by decide) (show n < 8 from hn)).trans (h6 n hn), (HV 1 5 (by decide) (by decide)).trans h7, fun n hn => (HV 9 n (by decide) (show n < 12 from hn)).trans (h8 n hn), fun n hn => (HV 10 n (by decide) (show n < 12 from hn)).trans (h9 n hn), fun n hn => (HV 11 n (by decide) (show n < 12 from hn)).trans (h10 n hn), fun p n hp hi => (HV p n (rxFl1_in p hp) hi).trans (hf p n hp hi)⟩, by unfold rxmCF1x138_14; omega⟩
theorem rxgCF1x138_14_0 {X : (Nat → Int → Int) → Prop} {S0 : Nat → Int → Int} {ws : List Int} (hP : rxPCF1x138 S0 ws) : bx_obC rxL X S0 rxCCF1x138.2.2.1 (rxICF1x138 S0 ws) (rxmCF1x138 S0 ws) 14 rxzCF1x138_14 rxoCF1x138_14_0 := by
  intro S S_p r r_p hinv hX hin hsm_ hseg
  obtain ⟨I0, I1, h0_, hr_, b_, f_, d_⟩ := bx_cl (evs := [(2, (1019, 0), (0, 0), .inl none), (2, (1020, 0), (0, 0), .inl none), (2, (99999, 0), (0, 0), .inl none), (0, (0, 149), (8, 0), .inr (3, (10, 0))), (0, (0, 12), (8, 0), .inr (3, (9, 0)))]) (fvs := []) hseg (by decide +kernel) (by decide +kernel)
  have hinv : rxICF1x138_14 S0 ws S (r 8) := hinv
  rw [← hr_ 8 (by decide)] at hinv
  obtain ⟨⟨l8, u8⟩, ⟨l9, u9⟩, ⟨l10, u10⟩, -⟩ := b_
  obtain ⟨T0, ⟨T1, ⟨T2, ⟨e3, ⟨e4, w_⟩⟩, v2⟩, v1⟩, v0⟩ := d_
  subst w_
  have g := rxcCF1x138_14_0 hP hin I0 hinv l8 u8 l9 u9 l10 u10 e4 e3 v2 v1 v0
  refine ⟨bx_narP_ok (l := []) g.1, bx_nfP_ok h0_ (fvs := []) (by decide +kernel) g.2.1, ?_, ?_⟩
  · show rxICF1x138_14 S0 ws S_p (bx_val [(0, 0), (0, 0), (0, 0), (0, 0), (0, 0), (0, 0), (0, 0), (0, 0), (8, 1)] r_p 8)
    rw [bx_val_x (n := 8) (e := (8, 1)) h0_ rfl]
    exact g.2.2.1
  · show rxmCF1x138_14 S0 ws S_p (bx_val [(0, 0), (0, 0), (0, 0), (0, 0), (0, 0), (0, 0), (0, 0), (0, 0), (8, 1)] r_p 8) < rxmCF1x138_14 S0 ws T2 (r 8)
    rw [bx_val_x (n := 8) (e := (8, 1)) h0_ rfl, ← hr_ 8 (by decide)]
    exact g.2.2.2
theorem rxcCF1x138_14_1 {S0 : Nat → Int → Int} {ws : List Int} {S : Nat → Int → Int} {i x9 : Int} (hP : rxPCF1x138 S0 ws) (hin : bx_same rxL (bx_mdl rxCCF1x138.2.2.1) S0 S) (I0 : bx_Inv rxL S) (hinv : rxICF1x138_14 S0 ws S i) (l8 : 12 ≤ i) (u8 : i ≤ 12) (l9 : 0 ≤ x9) (u9 : x9 ≤ 12) (e1 : S 138 10 = x9) : (True) ∧ (True) ∧ rxICF1x138_15 S0 ws (bx_up S 1 10 x9) ∧ rxmCF1x138_15 S0 ws (bx_up S 1 10 x9) < rxmCF1x138_14 S0 ws S i := by
  obtain ⟨h0, h1, h2, h3, h4, h5, h6, h7, h8, h9, h10, hf⟩ := hinv
  exact ⟨trivial, trivial, ⟨(bx_up_ne (by omega)).trans (h0), fun n hn => (bx_up_ne (by omega)).trans (h1 n hn), fun n hn => (bx_up_ne (by omega)).trans (h2 n hn), (bx_up_ne (by omega)).trans (h3), fun n hn => (bx_up_ne (by omega)).trans (h4 n hn), fun n hn => (bx_up_ne (by omega)).trans (h5 n hn), fun n hn => (bx_up_ne (by omega)).trans (h6 n hn), (bx_up_ne (by omega)).trans (h7), fun n hn => (bx_up_ne (by omega)).trans (h8 n hn), fun n hn => (bx_up_ne (by omega)).trans (h9 n hn), fun n hn => (bx_up_ne (by omega)).trans (h10 n hn), bx_up_at.trans (e1.symm.trans (hf 138 10 (by decide) (by decide))), fun p n hp hi => (bx_up_ne (fun h => by have e := h.1; subst e; revert hp; decide)).trans (hf p n hp hi)⟩, by unfold rxmCF1x138_14 rxmCF1x138_15; omega⟩
theorem rxgCF1x138_14_1 {X : (Nat → Int → Int) → Prop} {S0 : Nat → Int → Int} {ws : List Int} (hP : rxPCF1x138 S0 ws) : bx_obC rxL X S0 rxCCF1x138.2.2.1 (rxICF1x138 S0 ws) (rxmCF1x138 S0 ws) 14 rxzCF1x138_14 rxoCF1x138_14_1 := by
  intro S S_p r r_p hinv hX hin hsm_ hseg
  obtain ⟨I0, I1, h0_, hr_, b_, f_, d_⟩ := bx_cl (evs := [(1, (0, 1), (0, 10), .inr (0, (9, 0))), (0, (0, 138), (0, 10), .inr (0, (9, 0)))]) (fvs := []) hseg (by decide +kernel) (by decide +kernel)
  have hinv : rxICF1x138_14 S0 ws S (r 8) := hinv
  rw [← hr_ 8 (by decide)] at hinv
  obtain ⟨⟨l8, u8⟩, ⟨l9, u9⟩, -⟩ := b_
  obtain ⟨T0, ⟨e1, w_⟩, w0⟩ := d_
  subst w0
  subst w_
  have g := rxcCF1x138_14_1 hP hin I0 hinv l8 u8 l9 u9 e1
  refine ⟨bx_narP_ok (l := []) g.1, bx_nfP_ok h0_ (fvs := []) (by decide +kernel) g.2.1, ?_, ?_⟩
  · show rxICF1x138_15 S0 ws (bx_up T0 1 (10) (r_p 9))
    exact g.2.2.1
  · show rxmCF1x138_15 S0 ws (bx_up T0 1 (10) (r_p 9)) < rxmCF1x138_14 S0 ws T0 (r 8)
    rw [← hr_ 8 (by decide)]
    exact g.2.2.2
theorem rxcCF1x138_16_0 {S0 : Nat → Int → Int} {ws : List Int} {S : Nat → Int → Int} (hP : rxPCF1x138 S0 ws) (hin : bx_same rxL (bx_mdl rxCCF1x138.2.2.1) S0 S) (I0 : bx_Inv rxL S) (hinv : rxICF1x138_16 S0 ws S)  : (True) ∧ (True) ∧ rxICF1x138_17 S0 ws S ∧ rxmCF1x138_17 S0 ws S < rxmCF1x138_16 S0 ws S := by
  exact ⟨trivial, trivial, hinv, by unfold rxmCF1x138_16 rxmCF1x138_17; omega⟩
theorem rxgCF1x138_16_0 {X : (Nat → Int → Int) → Prop} {S0 : Nat → Int → Int} {ws : List Int} (hP : rxPCF1x138 S0 ws) : bx_obC rxL X S0 rxCCF1x138.2.2.1 (rxICF1x138 S0 ws) (rxmCF1x138 S0 ws) 16 rxzCF1x138_16 rxoCF1x138_16_0 := by
  intro S S_p r r_p hinv hX hin hsm_ hseg
  obtain ⟨I0, I1, h0_, hr_, b_, f_, d_⟩ := bx_cl (evs := []) (fvs := []) hseg (by decide +kernel) (by decide +kernel)
  have hinv : rxICF1x138_16 S0 ws S := hinv
  have w_ := d_
  subst w_
  have g := rxcCF1x138_16_0 hP hin I0 hinv 
  refine ⟨bx_narP_ok (l := []) g.1, bx_nfP_ok h0_ (fvs := []) (by decide +kernel) g.2.1, ?_, ?_⟩
  · show rxICF1x138_17 S0 ws S_p
    exact g.2.2.1
  · show rxmCF1x138_17 S0 ws S_p < rxmCF1x138_16 S0 ws S_p
    exact g.2.2.2
theorem rxcCF1x138_18_0 {S0 : Nat → Int → Int} {ws : List Int} {S : Nat → Int → Int} (hP : rxPCF1x138 S0 ws) (hin : bx_same rxL (bx_mdl rxCCF1x138.2.2.1) S0 S) (I0 : bx_Inv rxL S) (hinv : rxICF1x138_18 S0 ws S)  : (True) ∧ (True) ∧ rxICF1x138_19 S0 ws S ∧ rxmCF1x138_19 S0 ws S < rxmCF1x138_18 S0 ws S := by
  exact ⟨trivial, trivial, hinv, by unfold rxmCF1x138_18 rxmCF1x138_19; omega⟩
theorem rxgCF1x138_18_0 {X : (Nat → Int → Int) → Prop} {S0 : Nat → Int → Int} {ws : List Int} (hP : rxPCF1x138 S0 ws) : bx_obC rxL X S0 rxCCF1x138.2.2.1 (rxICF1x138 S0 ws) (rxmCF1x138 S0 ws) 18 rxzCF1x138_18 rxoCF1x138_18_0 := by
  intro S S_p r r_p hinv hX hin hsm_ hseg
  obtain ⟨I0, I1, h0_, hr_, b_, f_, d_⟩ := bx_cl (evs := []) (fvs := []) hseg (by decide +kernel) (by decide +kernel)
  have hinv : rxICF1x138_18 S0 ws S := hinv
  have w_ := d_
  subst w_
  have g := rxcCF1x138_18_0 hP hin I0 hinv 
  refine ⟨bx_narP_ok (l := []) g.1, bx_nfP_ok h0_ (fvs := []) (by decide +kernel) g.2.1, ?_, ?_⟩
  · show rxICF1x138_19 S0 ws S_p
    exact g.2.2.1
  · show rxmCF1x138_19 S0 ws S_p < rxmCF1x138_18 S0 ws S_p
    exact g.2.2.2
theorem rxcCF1x138_20_0 {S0 : Nat → Int → Int} {ws : List Int} {S : Nat → Int → Int} {x8 x9 : Int} (hP : rxPCF1x138 S0 ws) (hin : bx_same rxL (bx_mdl rxCCF1x138.2.2.1) S0 S) (I0 : bx_Inv rxL S) (hinv : rxICF1x138_20 S0 ws S) (l8 : 0 ≤ x8) (u8 : x8 ≤ 6) (l9 : (-1) ≤ x9) (u9 : x9 ≤ 5) (e3 : S 138 14 = x8) (e1 : (bx_up S 1 14 x8) 138 15 = x9) : (True) ∧ (True) ∧ rxICF1x138_21 S0 ws (bx_up (bx_up S 1 14 x8) 1 15 x9) 0 ∧ rxmCF1x138_21 S0 ws (bx_up (bx_up S 1 14 x8) 1 15 x9) 0 < rxmCF1x138_20 S0 ws S := by
  obtain ⟨h0, h1, h2, h3, h4, h5, h6, h7, h8, h9, h10, h11, h12, h13, h14, h15, h16, h17, hf⟩ := hinv
  exact ⟨trivial, trivial, ⟨(bx_up_ne (by omega)).trans ((bx_up_ne (by omega)).trans (h0)), fun n hn => (bx_up_ne (by omega)).trans ((bx_up_ne (by omega)).trans (h1 n hn)), fun n hn => (bx_up_ne (by omega)).trans ((bx_up_ne (by omega)).trans (h2 n hn)), (bx_up_ne (by omega)).trans ((bx_up_ne (by omega)).trans (h3)), fun n hn => (bx_up_ne (by omega)).trans ((bx_up_ne (by omega)).trans (h4 n hn)), fun n hn => (bx_up_ne (by omega)).trans ((bx_up_ne (by omega)).trans (h5 n hn)), fun n hn => (bx_up_ne (by omega)).trans ((bx_up_ne (by omega)).trans (h6 n hn)), (bx_up_ne (by omega)).trans ((bx_up_ne (by omega)).trans (h7)), fun n hn => (bx_up_ne (by omega)).trans ((bx_up_ne (by omega)).trans (h8 n hn)), fun n hn => (bx_up_ne (by omega)).trans ((bx_up_ne (by omega)).trans (h9 n hn)), fun n hn => (bx_up_ne (by omega)).trans ((bx_up_ne (by omega)).trans (h10 n hn)), (bx_up_ne (by omega)).trans ((bx_up_ne (by omega)).trans (h11)), fun n hn => (bx_up_ne (by omega)).trans ((bx_up_ne (by omega)).trans (h12 n hn)), (bx_up_ne (by omega)).trans ((bx_up_ne (by omega)).trans (h13)), fun n hn => (bx_up_ne (by omega)).trans ((bx_up_ne (by omega)).trans (h14 n hn)), fun n hn => (bx_up_ne (by omega)).trans ((bx_up_ne (by omega)).trans (h15 n hn)), fun n hn => (bx_up_ne (by omega)).trans ((bx_up_ne (by omega)).trans (h16 n hn)), fun n hn => (bx_up_ne (by omega)).trans ((bx_up_ne (by omega)).trans (h17 n hn)), (bx_up_ne (by omega)).trans (bx_up_at.trans (e3.symm.trans (hf 138 14 (by decide) (by decide)))), bx_up_at.trans (e1.symm.trans ((bx_up_ne (by omega)).trans (hf 138 15 (by decide) (by decide)))), fun p n hp hi => (bx_up_ne (fun h => by have e := h.1; subst e; revert hp; decide)).trans ((bx_up_ne (fun h => by have e := h.1; subst e; revert hp; decide)).trans (hf p n hp hi))⟩, by unfold rxmCF1x138_20 rxmCF1x138_21; omega⟩
theorem rxgCF1x138_20_0 {X : (Nat → Int → Int) → Prop} {S0 : Nat → Int → Int} {ws : List Int} (hP : rxPCF1x138 S0 ws) : bx_obC rxL X S0 rxCCF1x138.2.2.1 (rxICF1x138 S0 ws) (rxmCF1x138 S0 ws) 20 rxzCF1x138_20 rxoCF1x138_20_0 := by
  intro S S_p r r_p hinv hX hin hsm_ hseg
  obtain ⟨I0, I1, h0_, hr_, b_, f_, d_⟩ := bx_cl (evs := [(1, (0, 1), (0, 15), .inr (0, (9, 0))), (0, (0, 138), (0, 15), .inr (0, (9, 0))), (1, (0, 1), (0, 14), .inr (0, (8, 0))), (0, (0, 138), (0, 14), .inr (0, (8, 0)))]) (fvs := []) hseg (by decide +kernel) (by decide +kernel)
  have hinv : rxICF1x138_20 S0 ws S := hinv
  obtain ⟨⟨l8, u8⟩, ⟨l9, u9⟩, -⟩ := b_
  obtain ⟨T0, ⟨e1, ⟨T2, ⟨e3, w_⟩, w2⟩⟩, w0⟩ := d_
  subst w0
  subst w2
  subst w_
  have g := rxcCF1x138_20_0 hP hin I0 hinv l8 u8 l9 u9 e3 e1
  refine ⟨bx_narP_ok (l := []) g.1, bx_nfP_ok h0_ (fvs := []) (by decide +kernel) g.2.1, ?_, ?_⟩
  · show rxICF1x138_21 S0 ws (bx_up (bx_up T2 1 (14) (r_p 8)) 1 (15) (r_p 9)) (bx_val [(0, 0), (0, 0), (0, 0), (0, 0), (0, 0), (0, 0), (0, 0), (0, 0), (0, 0)] r_p 8)
    rw [bx_val_x (n := 8) (e := (0, 0)) h0_ rfl]
    exact g.2.2.1
  · show rxmCF1x138_21 S0 ws (bx_up (bx_up T2 1 (14) (r_p 8)) 1 (15) (r_p 9)) (bx_val [(0, 0), (0, 0), (0, 0), (0, 0), (0, 0), (0, 0), (0, 0), (0, 0), (0, 0)] r_p 8) < rxmCF1x138_20 S0 ws T2
    rw [bx_val_x (n := 8) (e := (0, 0)) h0_ rfl]
    exact g.2.2.2
theorem rxcCF1x138_21_0 {S0 : Nat → Int → Int} {ws : List Int} {S T8 T7 T6 T5 T4 T3 T2 T1 T0 : Nat → Int → Int} {i x9 x10 x11 : Int} (hP : rxPCF1x138 S0 ws) (hin : bx_same rxL (bx_mdl rxCCF1x138.2.2.1) S0 S) (I0 : bx_Inv rxL S) (hinv : rxICF1x138_21 S0 ws S i) (l8 : 0 ≤ i) (u8 : i ≤ 5) (l9 : 1 ≤ x9) (u9 : x9 ≤ 6) (l10 : 0 ≤ x10) (u10 : x10 ≤ 1522) (l11 : 0 ≤ x11) (u11 : x11 ≤ 1522) (f0 : i < x9) (e11 : S 1 14 = x9) (e10 : S 20 i = x10) (e9 : S 157 i = x11) (v8 : ∀ (p i : Nat), p < rxL.2.1 → i < bx_wd (rxL.1 p) → bx_mc (rxL.1 p) i ≠ (99999, 0) → T8 p (i : Int) = S p (i : Int)) (v7 : ∀ (p i : Nat), p < rxL.2.1 → i < bx_wd (rxL.1 p) → bx_mc (rxL.1 p) i ≠ (1027, 0) → T7 p (i : Int) = T8 p (i : Int)) (v6 : ∀ (p i : Nat), p < rxL.2.1 → i < bx_wd (rxL.1 p) → bx_mc (rxL.1 p) i ≠ (1026, 0) → T6 p (i : Int) = T7 p (i : Int)) (v5 : ∀ (p i : Nat), p < rxL.2.1 → i < bx_wd (rxL.1 p) → bx_mc (rxL.1 p) i ≠ (1025, 0) → T5 p (i : Int) = T6 p (i : Int)) (v4 : ∀ (p i : Nat), p < rxL.2.1 → i < bx_wd (rxL.1 p) → bx_mc (rxL.1 p) i ≠ (1024, 0) → T4 p (i : Int) = T5 p (i : Int)) (v3 : ∀ (p i : Nat), p < rxL.2.1 → i < bx_wd (rxL.1 p) → bx_mc (rxL.1 p) i ≠ (1022, 0) → T3 p (i : Int) = T4 p (i : Int)) (v2 : ∀ (p i : Nat), p < rxL.2.1 → i < bx_wd (rxL.1 p) → bx_mc (rxL.1 p) i ≠ (1021, 0) → T2 p (i : Int) = T3 p (i : Int)) (v1 : ∀ (p i : Nat), p < rxL.2.1 → i < bx_wd (rxL.1 p) → bx_mc (rxL.1 p) i ≠ (6, 4) → T1 p (i : Int) = T2 p (i : Int)) (v0 : ∀ (p i : Nat), p < rxL.2.1 → i < bx_wd (rxL.1 p) → bx_mc (rxL.1 p) i ≠ (6, 0) → T0 p (i : Int) = T1 p (i : Int)) : (True) ∧ (True) ∧ rxICF1x138_21 S0 ws T0 (i + 1) ∧ rxmCF1x138_21 S0 ws T0 (i + 1) < rxmCF1x138_21 S0 ws S i := by
  obtain ⟨h0, h1, h2, h3, h4, h5, h6, h7, h8, h9, h10, h11, h12, h13, h14, h15, h16, h17, h18, h19, hf⟩ := hinv
  have HV : ∀ p n : Nat, p ∈ rxNum → n < bx_wd (rxL.1 p) → T0 p (n : Int) = S p (n : Int) := fun p n hp hi => (rx_frH v0 (l := rxNum) (by decide +kernel) hp hi).trans ((rx_frH v1 (l := rxNum) (by decide +kernel) hp hi).trans ((rx_frH v2 (l := rxNum) (by decide +kernel) hp hi).trans ((rx_frH v3 (l := rxNum) (by decide +kernel) hp hi).trans ((rx_frH v4 (l := rxNum) (by decide +kernel) hp hi).trans ((rx_frH v5 (l := rxNum) (by decide +kernel) hp hi).trans ((rx_frH v6 (l := rxNum) (by decide +kernel) hp hi).trans ((rx_frH v7 (l := rxNum) (by decide +kernel) hp hi).trans (rx_frH v8 (l := rxNum) (by decide +kernel) hp hi))))))))
  exact ⟨trivial, trivial, ⟨(HV 1 0 (by decide) (by decide)).trans h0, fun n hn => (HV 2 n (by decide) (show n < 6 from hn)).trans (h1 n hn), fun n hn => (HV 3 n (by decide) (show n < 6 from hn)).trans (h2 n hn), (HV 5 0 (by decide) (by decide)).trans h3, fun n hn => (HV 6 n (by decide) (show n < 8 from hn)).trans (h4 n hn), fun n hn => (HV 7 n (by decide) (show n < 8 from hn)).trans (h5 n hn), fun n hn => (HV 8 n (by decide) (show n < 8 from hn)).trans (h6 n hn), (HV 1 5 (by decide) (by decide)).trans h7, fun n hn => (HV 9 n (by decide) (show n < 12 from hn)).trans (h8 n hn), fun n hn => (HV 10 n (by decide) (show n < 12 from hn)).trans (h9 n hn), fun n hn => (HV 11 n (by decide) (show n < 12 from hn)).trans (h10 n hn), (HV 1 10 (by decide) (by decide)).trans h11, fun n hn => (HV 13 n (by decide) (show n < 12 from hn)).trans (h12 n hn), (HV 14 0 (by decide) (by decide)).trans h13, fun n hn => (HV 15 n (by decide) (show n < 12 from hn)).trans (h14 n hn), fun n hn => (HV 16 n (by decide) (show n < 12 from hn)).trans (h15 n hn), fun n hn => (HV 17 n (by decide) (show n < 12 from hn)).trans (h16 n hn), fun n hn => (HV 19 n (by decide) (show n < 3 from hn)).trans (h17 n hn), (HV 1 14 (by decide) (by decide)).trans h18, (HV 1 15 (by decide) (by decide)).trans h19, fun p n hp hi => (HV p n (rxFl1_in p hp) hi).trans (hf p n hp hi)⟩, by unfold rxmCF1x138_21; omega⟩
theorem rxgCF1x138_21_0 {X : (Nat → Int → Int) → Prop} {S0 : Nat → Int → Int} {ws : List Int} (hP : rxPCF1x138 S0 ws) : bx_obC rxL X S0 rxCCF1x138.2.2.1 (rxICF1x138 S0 ws) (rxmCF1x138 S0 ws) 21 rxzCF1x138_21 rxoCF1x138_21_0 := by
  intro S S_p r r_p hinv hX hin hsm_ hseg
  obtain ⟨I0, I1, h0_, hr_, b_, f_, d_⟩ := bx_cl (evs := [(2, (6, 0), (0, 0), .inl none), (2, (6, 0), (4, 0), .inl none), (2, (1021, 0), (0, 0), .inl none), (2, (1022, 0), (0, 0), .inl none), (2, (1024, 0), (0, 0), .inl none), (2, (1025, 0), (0, 0), .inl none), (2, (1026, 0), (0, 0), .inl none), (2, (1027, 0), (0, 0), .inl none), (2, (99999, 0), (0, 0), .inl none), (0, (0, 157), (8, 0), .inr (3, (11, 0))), (0, (0, 20), (8, 0), .inr (3, (10, 0))), (0, (0, 1), (0, 14), .inr (0, (9, 0)))]) (fvs := [(0, (8, 0), (9, 0), (0, 0))]) hseg (by decide +kernel) (by decide +kernel)
  have hinv : rxICF1x138_21 S0 ws S (r 8) := hinv
  rw [← hr_ 8 (by decide)] at hinv
  obtain ⟨⟨l8, u8⟩, ⟨l9, u9⟩, ⟨l10, u10⟩, ⟨l11, u11⟩, -⟩ := b_
  obtain ⟨f0, -⟩ := f_
  obtain ⟨T0, ⟨T1, ⟨T2, ⟨T3, ⟨T4, ⟨T5, ⟨T6, ⟨T7, ⟨T8, ⟨e9, ⟨e10, ⟨e11, w_⟩⟩⟩, v8⟩, v7⟩, v6⟩, v5⟩, v4⟩, v3⟩, v2⟩, v1⟩, v0⟩ := d_
  subst w_
  have g := rxcCF1x138_21_0 hP hin I0 hinv l8 u8 l9 u9 l10 u10 l11 u11 f0 e11 e10 e9 v8 v7 v6 v5 v4 v3 v2 v1 v0
  refine ⟨bx_narP_ok (l := []) g.1, bx_nfP_ok h0_ (fvs := []) (by decide +kernel) g.2.1, ?_, ?_⟩
  · show rxICF1x138_21 S0 ws S_p (bx_val [(0, 0), (0, 0), (0, 0), (0, 0), (0, 0), (0, 0), (0, 0), (0, 0), (8, 1)] r_p 8)
    rw [bx_val_x (n := 8) (e := (8, 1)) h0_ rfl]
    exact g.2.2.1
  · show rxmCF1x138_21 S0 ws S_p (bx_val [(0, 0), (0, 0), (0, 0), (0, 0), (0, 0), (0, 0), (0, 0), (0, 0), (8, 1)] r_p 8) < rxmCF1x138_21 S0 ws T8 (r 8)
    rw [bx_val_x (n := 8) (e := (8, 1)) h0_ rfl, ← hr_ 8 (by decide)]
    exact g.2.2.2
theorem rxdCF1x138_21_0 {S0 : Nat → Int → Int} {ws : List Int} {S : Nat → Int → Int} {i x9 : Int} (hP : rxPCF1x138 S0 ws) (hin : bx_same rxL (bx_mdl rxCCF1x138.2.2.1) S0 S) (hin2 : bx_same rxL (bx_mdl rxCCF1x138.2.2.1) S S) (I0 : bx_Inv rxL S) (I1 : bx_Inv rxL S) (hinv : rxICF1x138_21 S0 ws S i) (l8 : 0 ≤ i) (u8 : i ≤ 6) (l9 : 0 ≤ x9) (u9 : x9 ≤ 6) (f0 : x9 ≤ i) (e0 : S 1 14 = x9) : (True) ∧ rxPSCF1x138 S0 ws S none := by
  exact ⟨trivial, rfl, hinv⟩
theorem rxfCF1x138_21_0 {X : (Nat → Int → Int) → Prop} {S0 : Nat → Int → Int} {ws : List Int} (hP : rxPCF1x138 S0 ws) : bx_obE rxL X S0 rxCCF1x138.2.2.1 (rxICF1x138 S0 ws) (rxPSCF1x138 S0 ws) 21 rxzCF1x138_21 rxeCF1x138_21_0 := by
  intro S S_p r r_p hinv hX hin hsm_ hseg
  obtain ⟨I0, I1, h0_, hr_, b_, f_, d_⟩ := bx_cl (evs := [(0, (0, 1), (0, 14), .inr (0, (9, 0)))]) (fvs := [(1, (9, 0), (8, 0), (0, 0))]) hseg (by decide +kernel) (by decide +kernel)
  have hinv : rxICF1x138_21 S0 ws S (r 8) := hinv
  rw [← hr_ 8 (by decide)] at hinv
  obtain ⟨⟨l8, u8⟩, ⟨l9, u9⟩, -⟩ := b_
  obtain ⟨f0, -⟩ := f_
  obtain ⟨e0, w_⟩ := d_
  subst w_
  have g := rxdCF1x138_21_0 hP hin hsm_ I0 I1 hinv l8 u8 l9 u9 f0 e0
  refine ⟨bx_narP_ok (l := []) g.1, ?_⟩
  exact g.2
theorem rxgCCF1x138 {X : (Nat → Int → Int) → Prop} {S0 : Nat → Int → Int} {ws : List Int} (hP : rxPCF1x138 S0 ws) : bx_allI (fun i q => rxUCF1x138 q = true ∨ bx_allP (fun o => bx_obC rxL X S0 rxCCF1x138.2.2.1 (rxICF1x138 S0 ws) (rxmCF1x138 S0 ws) i q.1 o) q.2.1) 0 rxYCF1x138 := ⟨Or.inr ⟨rxgCF1x138_0_0 hP, trivial⟩, Or.inl rfl, Or.inr ⟨rxgCF1x138_2_0 hP, trivial⟩, Or.inl rfl, Or.inr ⟨rxgCF1x138_4_0 hP, trivial⟩, Or.inr ⟨rxgCF1x138_5_0 hP, rxgCF1x138_5_1 hP, trivial⟩, Or.inl rfl, Or.inr ⟨rxgCF1x138_7_0 hP, trivial⟩, Or.inl rfl, Or.inr ⟨rxgCF1x138_9_0 hP, trivial⟩, Or.inl rfl, Or.inr ⟨rxgCF1x138_11_0 hP, trivial⟩, Or.inl rfl, Or.inr ⟨rxgCF1x138_13_0 hP, trivial⟩, Or.inr ⟨rxgCF1x138_14_0 hP, rxgCF1x138_14_1 hP, trivial⟩, Or.inl rfl, Or.inr ⟨rxgCF1x138_16_0 hP, trivial⟩, Or.inl rfl, Or.inr ⟨rxgCF1x138_18_0 hP, trivial⟩, Or.inl rfl, Or.inr ⟨rxgCF1x138_20_0 hP, trivial⟩, Or.inr ⟨rxgCF1x138_21_0 hP, trivial⟩, trivial⟩
theorem rxgECF1x138 {X : (Nat → Int → Int) → Prop} {S0 : Nat → Int → Int} {ws : List Int} (hP : rxPCF1x138 S0 ws) : bx_allI (fun i q => rxUCF1x138 q = true ∨ bx_allP (fun E => bx_obE rxL X S0 rxCCF1x138.2.2.1 (rxICF1x138 S0 ws) (rxPSCF1x138 S0 ws) i q.1 E) q.2.2) 0 rxYCF1x138 := ⟨Or.inr trivial, Or.inl rfl, Or.inr trivial, Or.inl rfl, Or.inr trivial, Or.inr trivial, Or.inl rfl, Or.inr trivial, Or.inl rfl, Or.inr trivial, Or.inl rfl, Or.inr trivial, Or.inl rfl, Or.inr trivial, Or.inr trivial, Or.inl rfl, Or.inr trivial, Or.inl rfl, Or.inr trivial, Or.inl rfl, Or.inr trivial, Or.inr ⟨rxfCF1x138_21_0 hP, trivial⟩, trivial⟩
theorem rxuCF1x138 {PX : State → Prop} {Dg : va_G} {A : Nat → Prop} {ad xa : Nat → Nat} {l : Launch} {X : (Nat → Int → Int) → Prop} (hPX : rx_PXOK rxNW A PX) (hX : ∀ S S1 : Nat → Int → Int, X S → bx_same rxL (bx_mdl rxCCF1x138.2.2.1) S S1 → X S1) (hQPC5x142 : bx_ConP rxG rxNW rxAO PX Dg rxL X vwCl A ad l rxM108 rxCPC5x142 rxPPC5x142 rxPSPC5x142) (hQDC14x151 : bx_ConP rxG rxNW rxAO PX Dg rxL X vwCl A ad l rxM109 rxCDC14x151 rxPDC14x151 rxPSDC14x151) {S0 : Nat → Int → Int} {ws : List Int} (hP : rxPCF1x138 S0 ws) : ∀ (i : Nat) (q : bx_HE), rxYCF1x138[i]? = some q → rxUCF1x138 q = true → ∀ {p : Program} {e : Env} {R : Room} {s : State} {m : MethodId} {args : Array Value} {below : List Frame} {meth : Method} {c : Code} {Q : State → Prop} {H0 : Heap}, rx_Fr rxG rxNW rxAO PX p s m args meth c rxM154 → (∀ q, H0.size ≤ q → A q) → H0 = s.heap → rxM154.2.2.2.2.2.2.1 ≤ R.cells → rxM154.2.2.2.2.2.2.2 ≤ R.slots → rxCCF1x138.2.2.2.1 ≤ R.frames → rxCCF1x138.2.2.2.1 * 40 ≤ R.locals → bx_Step p l e R s m args below meth c Q Dg rxL X vwCl A xa H0 ad rxM154 rxYCF1x138 (rxICF1x138 S0 ws) (rxmCF1x138 S0 ws) S0 rxCCF1x138.2.2.1 i q := by
  intro i q hq hus p e R s m args below meth c Q H0 hF hA hH0 hmc hms hd hdl
  match i, hq with
  | 0, hq =>
    cases hq
    exact absurd (show false = true from hus) Bool.false_ne_true
  | 1, hq =>
    cases hq
    exact rx_stepY (i_p := 2) (idx := 86) (P0 := 139) (P1 := 2) (n := 6) (g0 := 0) (g1 := 0) (t := []) hF rfl (Nat.le_trans (by decide) hd) (Nat.le_trans (by decide) hdl) (by decide +kernel) (by decide +kernel) rfl rfl (by decide) (by decide) rfl rfl (by decide) (by decide) rfl rfl (by decide) (by decide) rfl rfl (rxsCF1x138_1 hP hX)
  | 2, hq =>
    cases hq
    exact absurd (show false = true from hus) Bool.false_ne_true
  | 3, hq =>
    cases hq
    exact rx_stepY (i_p := 4) (idx := 86) (P0 := 140) (P1 := 3) (n := 6) (g0 := 1) (g1 := 1) (t := []) hF rfl (Nat.le_trans (by decide) hd) (Nat.le_trans (by decide) hdl) (by decide +kernel) (by decide +kernel) rfl rfl (by decide) (by decide) rfl rfl (by decide) (by decide) rfl rfl (by decide) (by decide) rfl rfl (rxsCF1x138_3 hP hX)
  | 4, hq =>
    cases hq
    exact absurd (show false = true from hus) Bool.false_ne_true
  | 5, hq =>
    cases hq
    exact absurd (show false = true from hus) Bool.false_ne_true
  | 6, hq =>
    cases hq
    exact rx_stepC (ins := .invokevirtual 96) (len := 3) (i_p := 7) (M_p := rxM108) (d := rxCCF1x138.2.2.2.1) (as := [.inr (3, (0, 5)), .inr (3, (0, 142))]) (t := []) (ct := rxCPC5x142) hPX hF rfl hA hH0 hmc hms hd hdl (by decide +kernel) rfl rfl (by decide +kernel) (by decide +kernel) hQPC5x142 (by decide +kernel) rfl (Or.inl ⟨rfl, rfl, rfl⟩) (rxsCF1x138_6 hP)
  | 7, hq =>
    cases hq
    exact absurd (show false = true from hus) Bool.false_ne_true
  | 8, hq =>
    cases hq
    exact rx_stepY (i_p := 9) (idx := 86) (P0 := 146) (P1 := 9) (n := 12) (g0 := 6) (g1 := 6) (t := []) hF rfl (Nat.le_trans (by decide) hd) (Nat.le_trans (by decide) hdl) (by decide +kernel) (by decide +kernel) rfl rfl (by decide) (by decide) rfl rfl (by decide) (by decide) rfl rfl (by decide) (by decide) rfl rfl (rxsCF1x138_8 hP hX)
  | 9, hq =>
    cases hq
    exact absurd (show false = true from hus) Bool.false_ne_true
  | 10, hq =>
    cases hq
    exact rx_stepY (i_p := 11) (idx := 86) (P0 := 147) (P1 := 10) (n := 12) (g0 := 7) (g1 := 7) (t := []) hF rfl (Nat.le_trans (by decide) hd) (Nat.le_trans (by decide) hdl) (by decide +kernel) (by decide +kernel) rfl rfl (by decide) (by decide) rfl rfl (by decide) (by decide) rfl rfl (by decide) (by decide) rfl rfl (rxsCF1x138_10 hP hX)
  | 11, hq =>
    cases hq
    exact absurd (show false = true from hus) Bool.false_ne_true
  | 12, hq =>
    cases hq
    exact rx_stepY (i_p := 13) (idx := 86) (P0 := 148) (P1 := 11) (n := 12) (g0 := 8) (g1 := 8) (t := []) hF rfl (Nat.le_trans (by decide) hd) (Nat.le_trans (by decide) hdl) (by decide +kernel) (by decide +kernel) rfl rfl (by decide) (by decide) rfl rfl (by decide) (by decide) rfl rfl (by decide) (by decide) rfl rfl (rxsCF1x138_12 hP hX)
  | 13, hq =>
    cases hq
    exact absurd (show false = true from hus) Bool.false_ne_true
  | 14, hq =>
    cases hq
    exact absurd (show false = true from hus) Bool.false_ne_true
  | 15, hq =>
    cases hq
    exact rx_stepY (i_p := 16) (idx := 86) (P0 := 150) (P1 := 13) (n := 12) (g0 := 10) (g1 := 10) (t := []) hF rfl (Nat.le_trans (by decide) hd) (Nat.le_trans (by decide) hdl) (by decide +kernel) (by decide +kernel) rfl rfl (by decide) (by decide) rfl rfl (by decide) (by decide) rfl rfl (by decide) (by decide) rfl rfl (rxsCF1x138_15 hP hX)
  | 16, hq =>
    cases hq
    exact absurd (show false = true from hus) Bool.false_ne_true
  | 17, hq =>
    cases hq
    exact rx_stepC (ins := .invokevirtual 99) (len := 3) (i_p := 18) (M_p := rxM109) (d := rxCCF1x138.2.2.2.1) (as := [.inr (3, (0, 14)), .inr (3, (0, 151))]) (t := []) (ct := rxCDC14x151) hPX hF rfl hA hH0 hmc hms hd hdl (by decide +kernel) rfl rfl (by decide +kernel) (by decide +kernel) hQDC14x151 (by decide +kernel) rfl (Or.inl ⟨rfl, rfl, rfl⟩) (rxsCF1x138_17 hP)
  | 18, hq =>
    cases hq
    exact absurd (show false = true from hus) Bool.false_ne_true
  | 19, hq =>
    cases hq
    exact rx_stepY (i_p := 20) (idx := 86) (P0 := 156) (P1 := 19) (n := 3) (g0 := 15) (g1 := 15) (t := []) hF rfl (Nat.le_trans (by decide) hd) (Nat.le_trans (by decide) hdl) (by decide +kernel) (by decide +kernel) rfl rfl (by decide) (by decide) rfl rfl (by decide) (by decide) rfl rfl (by decide) (by decide) rfl rfl (rxsCF1x138_19 hP hX)
  | 20, hq =>
    cases hq
    exact absurd (show false = true from hus) Bool.false_ne_true
  | 21, hq =>
    cases hq
    exact absurd (show false = true from hus) Bool.false_ne_true
  | n + 22, hq => cases hq
theorem rxQCF1x138 {PX : State → Prop} {Dg : va_G} {A : Nat → Prop} {ad xa : Nat → Nat} {l : Launch} {X : (Nat → Int → Int) → Prop} (hPX : rx_PXOK rxNW A PX) (hsl : ∀ s : State, PX s → ∀ o idx n : Nat, rxSl o idx = some n → ∃ tx : String, vk_R (rxNm o) idx tx (ad n) s)
    (hX : ∀ S S_p : Nat → Int → Int, X S → bx_same rxL (bx_mdl rxCCF1x138.2.2.1) S S_p → X S_p)
    (ih : ∀ (j2 : Nat) (ct2 : bx_Ct) (M2 : rx_Mt), ct2 ∈ rxCn j2 → ct2.2.2.2.1 + 1 ≤ rxCCF1x138.2.2.2.1 → rxT.2.2.2.2.2 j2 = some M2 → bx_Con rxG rxNW rxAO PX Dg rxL X vwCl A ad l M2 ct2) (hQPC5x142 : bx_ConP rxG rxNW rxAO PX Dg rxL X vwCl A ad l rxM108 rxCPC5x142 rxPPC5x142 rxPSPC5x142) (hQDC14x151 : bx_ConP rxG rxNW rxAO PX Dg rxL X vwCl A ad l rxM109 rxCDC14x151 rxPDC14x151 rxPSDC14x151) : bx_ConP rxG rxNW rxAO PX Dg rxL X vwCl A ad l rxM154 rxCCF1x138 rxPCF1x138 rxPSCF1x138 :=
  rxQof (xa := xa) (Cn := rxCn) (f := 30000) (j := 154) (tab := rxYCF1x138) (us := rxUCF1x138) hPX hsl hX ih rfl rxYcCF1x138 rxICF1x138 rxmCF1x138
    (fun S0 ws r I0 I ht0 ht as he he1 hX0 hI0 hP hs ha => by
      have e := he.symm.trans (show bx_ent0 rxNP rxCCF1x138.1 bx_I0 [] = some ([(0, 0), (0, 0), (0, 0), (0, 0), (0, 0), (0, 0), (0, 0), (0, 0)], [], [.inr (3, (0, 1)), .inr (3, (0, 138))]) from rfl)
      cases e
      subst ha
      have h0 : r 0 = 0 := hs.1
      show rxICF1x138_0 S0 _ S0
      refine ⟨rfl, ?_⟩
      simp only [List.map_cons, List.map_nil, bx_xv_ok h0]
      rfl)
    (fun S0 ws hP => rxuCF1x138 (xa := xa) hPX hX hQPC5x142 hQDC14x151 hP) (fun S0 ws hP => rxgCCF1x138 hP) (fun S0 ws hP => rxgECF1x138 hP)
