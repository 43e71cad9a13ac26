noncomputable def rxCCZ138x1 : bx_Ct := ([(3, (1, 138, 0)), (3, (1, 1, 0))], none, [(2, 0), (5, 0), (6, 0), (6, 4), (10, 0), (10, 5), (10, 10), (10, 14), (10, 15), (1000, 0), (1001, 0), (1003, 0), (1004, 0), (1005, 0), (1006, 0), (1007, 0), (1008, 0), (1010, 0), (1011, 0), (1012, 0), (1013, 0), (1015, 0), (1019, 0), (1020, 0), (1021, 0), (1022, 0), (1024, 0), (1025, 0), (1026, 0), (1027, 0)], 2, [])
noncomputable def rxICZ138x1_0 (S0 : Nat → Int → Int) (ws : List Int) (S : Nat → Int → Int) : Prop := S = S0 ∧ ws = [138, 1]
noncomputable def rxmCZ138x1_0 (S0 : Nat → Int → Int) (ws : List Int) (S : Nat → Int → Int) : Nat := 2000
noncomputable def rxzCZ138x1_0 : rx_Z := ([(0, 0), (0, 0), (0, 0), (0, 0), (0, 0), (0, 0), (0, 0), (0, 0)], [], [], 0, 0, 0, [(0, .inr (3, (0, 138))), (1, .inr (3, (0, 1)))], [])
noncomputable def rxICZ138x1_1 (S0 : Nat → Int → Int) (ws : List Int) (S : Nat → Int → Int) : Prop := S 138 0 = S0 1 0 ∧ (∀ p i : Nat, p ∈ rxFl138 → i < bx_wd (rxL.1 p) → S p (i : Int) = S0 p (i : Int)) ∧ rkWt4 S0 S 160 23 0 0 0
noncomputable def rxmCZ138x1_1 (S0 : Nat → Int → Int) (ws : List Int) (S : Nat → Int → Int) : Nat := 1990
noncomputable def rxzCZ138x1_1 : rx_Z := ([(0, 0), (0, 0), (0, 0), (0, 0), (0, 0), (0, 0), (0, 0), (0, 0)], [], [], 0, 0, 20, [(0, .inr (3, (0, 138))), (1, .inr (3, (0, 1)))], [.inr (0, (0, 6)), .inr (0, (0, 0)), .inr (3, (0, 139)), .inr (0, (0, 0)), .inr (3, (0, 2))])
noncomputable def rxICZ138x1_2 (S0 : Nat → Int → Int) (ws : List Int) (S : Nat → Int → Int) : Prop := S 138 0 = S0 1 0 ∧ (∀ i : Nat, i < 6 → S 139 (i : Int) = S0 2 (i : Int)) ∧ (∀ p i : Nat, p ∈ rxFl138 → i < bx_wd (rxL.1 p) → S p (i : Int) = S0 p (i : Int)) ∧ rkWt4 S0 S 160 23 0 0 0
noncomputable def rxmCZ138x1_2 (S0 : Nat → Int → Int) (ws : List Int) (S : Nat → Int → Int) : Nat := 1985
noncomputable def rxzCZ138x1_2 : rx_Z := ([(0, 0), (0, 0), (0, 0), (0, 0), (0, 0), (0, 0), (0, 0), (0, 0)], [], [], 0, 0, 23, [(0, .inr (3, (0, 138))), (1, .inr (3, (0, 1)))], [])
noncomputable def rxICZ138x1_3 (S0 : Nat → Int → Int) (ws : List Int) (S : Nat → Int → Int) : Prop := S 138 0 = S0 1 0 ∧ (∀ i : Nat, i < 6 → S 139 (i : Int) = S0 2 (i : Int)) ∧ (∀ p i : Nat, p ∈ rxFl138 → i < bx_wd (rxL.1 p) → S p (i : Int) = S0 p (i : Int)) ∧ rkWt4 S0 S 160 23 0 0 0
noncomputable def rxmCZ138x1_3 (S0 : Nat → Int → Int) (ws : List Int) (S : Nat → Int → Int) : Nat := 1980
noncomputable def rxzCZ138x1_3 : rx_Z := ([(0, 0), (0, 0), (0, 0), (0, 0), (0, 0), (0, 0), (0, 0), (0, 0)], [], [], 0, 0, 35, [(0, .inr (3, (0, 138))), (1, .inr (3, (0, 1)))], [.inr (0, (0, 6)), .inr (0, (0, 0)), .inr (3, (0, 140)), .inr (0, (0, 0)), .inr (3, (0, 3))])
noncomputable def rxICZ138x1_4 (S0 : Nat → Int → Int) (ws : List Int) (S : Nat → Int → Int) : Prop := S 138 0 = S0 1 0 ∧ (∀ i : Nat, i < 6 → S 139 (i : Int) = S0 2 (i : Int)) ∧ (∀ i : Nat, i < 6 → S 140 (i : Int) = S0 3 (i : Int)) ∧ (∀ p i : Nat, p ∈ rxFl138 → i < bx_wd (rxL.1 p) → S p (i : Int) = S0 p (i : Int)) ∧ rkWt4 S0 S 160 23 0 0 0
noncomputable def rxmCZ138x1_4 (S0 : Nat → Int → Int) (ws : List Int) (S : Nat → Int → Int) : Nat := 1975
noncomputable def rxzCZ138x1_4 : rx_Z := ([(0, 0), (0, 0), (0, 0), (0, 0), (0, 0), (0, 0), (0, 0), (0, 0)], [], [], 0, 0, 38, [(0, .inr (3, (0, 138))), (1, .inr (3, (0, 1)))], [])
noncomputable def rxICZ138x1_5 (S0 : Nat → Int → Int) (ws : List Int) (S : Nat → Int → Int) (i : Int) : Prop := S 138 0 = S0 1 0 ∧ (∀ i : Nat, i < 6 → S 139 (i : Int) = S0 2 (i : Int)) ∧ (∀ i : Nat, i < 6 → S 140 (i : Int) = S0 3 (i : Int)) ∧ (∀ p i : Nat, p ∈ rxFl138 → i < bx_wd (rxL.1 p) → S p (i : Int) = S0 p (i : Int)) ∧ rkWt4 S0 S 160 23 i 0 0
noncomputable def rxmCZ138x1_5 (S0 : Nat → Int → Int) (ws : List Int) (S : Nat → Int → Int) (i : Int) : Nat := 1670 + 10 * (20 - i).toNat
noncomputable def rxzCZ138x1_5 : rx_Z := ([(0, 0), (0, 0), (0, 0), (0, 0), (0, 0), (0, 0), (0, 0), (0, 0), (0, 6)], [], [], 0, 0, 40, [(0, .inr (3, (0, 138))), (1, .inr (3, (0, 1))), (2, .inr (0, (8, 0)))], [])
noncomputable def rxICZ138x1_6 (S0 : Nat → Int → Int) (ws : List Int) (S : Nat → Int → Int) (i rp rq : Int) : Prop := rp = ((160 + 3 * i.toNat : Nat) : Int) ∧ rq = ((23 + 3 * i.toNat : Nat) : Int) ∧ S 138 0 = S0 1 0 ∧ (∀ i : Nat, i < 6 → S 139 (i : Int) = S0 2 (i : Int)) ∧ (∀ i : Nat, i < 6 → S 140 (i : Int) = S0 3 (i : Int)) ∧ (∀ p i : Nat, p ∈ rxFl138 → i < bx_wd (rxL.1 p) → S p (i : Int) = S0 p (i : Int)) ∧ rkWt4 S0 S 160 23 i 0 0
noncomputable def rxmCZ138x1_6 (S0 : Nat → Int → Int) (ws : List Int) (S : Nat → Int → Int) (i rp rq : Int) : Nat := 1670 + 10 * (20 - i).toNat - 2
noncomputable def rxzCZ138x1_6 : rx_Z := ([(0, 0), (0, 0), (0, 0), (0, 0), (0, 0), (0, 0), (0, 0), (0, 0), (0, 5), (0, 1522), (0, 1522)], [], [(((9, 0), 1000010), .inl none), (((10, 0), 1000010), .inl none)], 0, 0, 58, [(0, .inr (3, (0, 138))), (1, .inr (3, (0, 1))), (2, .inr (0, (8, 0)))], [.inr (3, (10, 0)), .inr (3, (9, 0))])
noncomputable def rxICZ138x1_7 (S0 : Nat → Int → Int) (ws : List Int) (S : Nat → Int → Int) (i rp rq : Int) : Prop := S 138 0 = S0 1 0 ∧ (∀ i : Nat, i < 6 → S 139 (i : Int) = S0 2 (i : Int)) ∧ (∀ i : Nat, i < 6 → S 140 (i : Int) = S0 3 (i : Int)) ∧ (∀ p i : Nat, p ∈ rxFl138 → i < bx_wd (rxL.1 p) → S p (i : Int) = S0 p (i : Int)) ∧ rkWt4 S0 S 160 23 (i + 1) 0 0
noncomputable def rxmCZ138x1_7 (S0 : Nat → Int → Int) (ws : List Int) (S : Nat → Int → Int) (i rp rq : Int) : Nat := 1670 + 10 * (20 - i).toNat - 4
noncomputable def rxzCZ138x1_7 : rx_Z := ([(0, 0), (0, 0), (0, 0), (0, 0), (0, 0), (0, 0), (0, 0), (0, 0), (0, 5), (0, 1522), (0, 1522)], [], [(((9, 0), 1000010), .inl none), (((10, 0), 1000010), .inl none)], 0, 0, 61, [(0, .inr (3, (0, 138))), (1, .inr (3, (0, 1))), (2, .inr (0, (8, 0)))], [])
noncomputable def rxICZ138x1_8 (S0 : Nat → Int → Int) (ws : List Int) (S : Nat → Int → Int) : Prop := S 138 0 = S0 1 0 ∧ (∀ i : Nat, i < 6 → S 139 (i : Int) = S0 2 (i : Int)) ∧ (∀ i : Nat, i < 6 → S 140 (i : Int) = S0 3 (i : Int)) ∧ (∀ p i : Nat, p ∈ rxFl138 → i < bx_wd (rxL.1 p) → S p (i : Int) = S0 p (i : Int)) ∧ rkWt4 S0 S 160 23 6 0 0
noncomputable def rxmCZ138x1_8 (S0 : Nat → Int → Int) (ws : List Int) (S : Nat → Int → Int) : Nat := 1660
noncomputable def rxzCZ138x1_8 : rx_Z := ([(0, 0), (0, 0), (0, 0), (0, 0), (0, 0), (0, 0), (0, 0), (0, 0)], [], [], 0, 0, 75, [(0, .inr (3, (0, 138))), (1, .inr (3, (0, 1))), (2, .inr (0, (0, 6)))], [.inr (3, (0, 5)), .inr (3, (0, 142))])
noncomputable def rxICZ138x1_9 (S0 : Nat → Int → Int) (ws : List Int) (S : Nat → Int → Int) : Prop := S 138 0 = S0 1 0 ∧ (∀ i : Nat, i < 6 → S 139 (i : Int) = S0 2 (i : Int)) ∧ (∀ i : Nat, i < 6 → S 140 (i : Int) = S0 3 (i : Int)) ∧ S 142 0 = S0 5 0 ∧ (∀ i : Nat, i < 8 → S 143 (i : Int) = S0 6 (i : Int)) ∧ (∀ i : Nat, i < 8 → S 144 (i : Int) = S0 7 (i : Int)) ∧ (∀ i : Nat, i < 8 → S 145 (i : Int) = S0 8 (i : Int)) ∧ (∀ p i : Nat, p ∈ rxFl138 → i < bx_wd (rxL.1 p) → S p (i : Int) = S0 p (i : Int)) ∧ rkWt4 S0 S 160 23 6 0 0
noncomputable def rxmCZ138x1_9 (S0 : Nat → Int → Int) (ws : List Int) (S : Nat → Int → Int) : Nat := 1655
noncomputable def rxzCZ138x1_9 : rx_Z := ([(0, 0), (0, 0), (0, 0), (0, 0), (0, 0), (0, 0), (0, 0), (0, 0)], [], [], 0, 0, 78, [(0, .inr (3, (0, 138))), (1, .inr (3, (0, 1))), (2, .inr (0, (0, 6)))], [])
noncomputable def rxICZ138x1_10 (S0 : Nat → Int → Int) (ws : List Int) (S : Nat → Int → Int) : Prop := S 138 0 = S0 1 0 ∧ (∀ i : Nat, i < 6 → S 139 (i : Int) = S0 2 (i : Int)) ∧ (∀ i : Nat, i < 6 → S 140 (i : Int) = S0 3 (i : Int)) ∧ S 142 0 = S0 5 0 ∧ (∀ i : Nat, i < 8 → S 143 (i : Int) = S0 6 (i : Int)) ∧ (∀ i : Nat, i < 8 → S 144 (i : Int) = S0 7 (i : Int)) ∧ (∀ i : Nat, i < 8 → S 145 (i : Int) = S0 8 (i : Int)) ∧ S 138 5 = S0 1 5 ∧ (∀ p i : Nat, p ∈ rxFl138 → i < bx_wd (rxL.1 p) → S p (i : Int) = S0 p (i : Int)) ∧ rkWt4 S0 S 160 23 6 0 0
noncomputable def rxmCZ138x1_10 (S0 : Nat → Int → Int) (ws : List Int) (S : Nat → Int → Int) : Nat := 1650
noncomputable def rxzCZ138x1_10 : rx_Z := ([(0, 0), (0, 0), (0, 0), (0, 0), (0, 0), (0, 0), (0, 0), (0, 0)], [], [], 0, 0, 98, [(0, .inr (3, (0, 138))), (1, .inr (3, (0, 1))), (2, .inr (0, (0, 6)))], [.inr (0, (0, 12)), .inr (0, (0, 0)), .inr (3, (0, 146)), .inr (0, (0, 0)), .inr (3, (0, 9))])
noncomputable def rxICZ138x1_11 (S0 : Nat → Int → Int) (ws : List Int) (S : Nat → Int → Int) : Prop := S 138 0 = S0 1 0 ∧ (∀ i : Nat, i < 6 → S 139 (i : Int) = S0 2 (i : Int)) ∧ (∀ i : Nat, i < 6 → S 140 (i : Int) = S0 3 (i : Int)) ∧ S 142 0 = S0 5 0 ∧ (∀ i : Nat, i < 8 → S 143 (i : Int) = S0 6 (i : Int)) ∧ (∀ i : Nat, i < 8 → S 144 (i : Int) = S0 7 (i : Int)) ∧ (∀ i : Nat, i < 8 → S 145 (i : Int) = S0 8 (i : Int)) ∧ S 138 5 = S0 1 5 ∧ (∀ i : Nat, i < 12 → S 146 (i : Int) = S0 9 (i : Int)) ∧ (∀ p i : Nat, p ∈ rxFl138 → i < bx_wd (rxL.1 p) → S p (i : Int) = S0 p (i : Int)) ∧ rkWt4 S0 S 160 23 6 0 0
noncomputable def rxmCZ138x1_11 (S0 : Nat → Int → Int) (ws : List Int) (S : Nat → Int → Int) : Nat := 1645
noncomputable def rxzCZ138x1_11 : rx_Z := ([(0, 0), (0, 0), (0, 0), (0, 0), (0, 0), (0, 0), (0, 0), (0, 0)], [], [], 0, 0, 101, [(0, .inr (3, (0, 138))), (1, .inr (3, (0, 1))), (2, .inr (0, (0, 6)))], [])
noncomputable def rxICZ138x1_12 (S0 : Nat → Int → Int) (ws : List Int) (S : Nat → Int → Int) : Prop := S 138 0 = S0 1 0 ∧ (∀ i : Nat, i < 6 → S 139 (i : Int) = S0 2 (i : Int)) ∧ (∀ i : Nat, i < 6 → S 140 (i : Int) = S0 3 (i : Int)) ∧ S 142 0 = S0 5 0 ∧ (∀ i : Nat, i < 8 → S 143 (i : Int) = S0 6 (i : Int)) ∧ (∀ i : Nat, i < 8 → S 144 (i : Int) = S0 7 (i : Int)) ∧ (∀ i : Nat, i < 8 → S 145 (i : Int) = S0 8 (i : Int)) ∧ S 138 5 = S0 1 5 ∧ (∀ i : Nat, i < 12 → S 146 (i : Int) = S0 9 (i : Int)) ∧ (∀ p i : Nat, p ∈ rxFl138 → i < bx_wd (rxL.1 p) → S p (i : Int) = S0 p (i : Int)) ∧ rkWt4 S0 S 160 23 6 0 0
noncomputable def rxmCZ138x1_12 (S0 : Nat → Int → Int) (ws : List Int) (S : Nat → Int → Int) : Nat := 1640
noncomputable def rxzCZ138x1_12 : rx_Z := ([(0, 0), (0, 0), (0, 0), (0, 0), (0, 0), (0, 0), (0, 0), (0, 0)], [], [], 0, 0, 113, [(0, .inr (3, (0, 138))), (1, .inr (3, (0, 1))), (2, .inr (0, (0, 6)))], [.inr (0, (0, 12)), .inr (0, (0, 0)), .inr (3, (0, 147)), .inr (0, (0, 0)), .inr (3, (0, 10))])
noncomputable def rxICZ138x1_13 (S0 : Nat → Int → Int) (ws : List Int) (S : Nat → Int → Int) : Prop := S 138 0 = S0 1 0 ∧ (∀ i : Nat, i < 6 → S 139 (i : Int) = S0 2 (i : Int)) ∧ (∀ i : Nat, i < 6 → S 140 (i : Int) = S0 3 (i : Int)) ∧ S 142 0 = S0 5 0 ∧ (∀ i : Nat, i < 8 → S 143 (i : Int) = S0 6 (i : Int)) ∧ (∀ i : Nat, i < 8 → S 144 (i : Int) = S0 7 (i : Int)) ∧ (∀ i : Nat, i < 8 → S 145 (i : Int) = S0 8 (i : Int)) ∧ S 138 5 = S0 1 5 ∧ (∀ i : Nat, i < 12 → S 146 (i : Int) = S0 9 (i : Int)) ∧ (∀ i : Nat, i < 12 → S 147 (i : Int) = S0 10 (i : Int)) ∧ (∀ p i : Nat, p ∈ rxFl138 → i < bx_wd (rxL.1 p) → S p (i : Int) = S0 p (i : Int)) ∧ rkWt4 S0 S 160 23 6 0 0
noncomputable def rxmCZ138x1_13 (S0 : Nat → Int → Int) (ws : List Int) (S : Nat → Int → Int) : Nat := 1635
noncomputable def rxzCZ138x1_13 : rx_Z := ([(0, 0), (0, 0), (0, 0), (0, 0), (0, 0), (0, 0), (0, 0), (0, 0)], [], [], 0, 0, 116, [(0, .inr (3, (0, 138))), (1, .inr (3, (0, 1))), (2, .inr (0, (0, 6)))], [])
noncomputable def rxICZ138x1_14 (S0 : Nat → Int → Int) (ws : List Int) (S : Nat → Int → Int) : Prop := S 138 0 = S0 1 0 ∧ (∀ i : Nat, i < 6 → S 139 (i : Int) = S0 2 (i : Int)) ∧ (∀ i : Nat, i < 6 → S 140 (i : Int) = S0 3 (i : Int)) ∧ S 142 0 = S0 5 0 ∧ (∀ i : Nat, i < 8 → S 143 (i : Int) = S0 6 (i : Int)) ∧ (∀ i : Nat, i < 8 → S 144 (i : Int) = S0 7 (i : Int)) ∧ (∀ i : Nat, i < 8 → S 145 (i : Int) = S0 8 (i : Int)) ∧ S 138 5 = S0 1 5 ∧ (∀ i : Nat, i < 12 → S 146 (i : Int) = S0 9 (i : Int)) ∧ (∀ i : Nat, i < 12 → S 147 (i : Int) = S0 10 (i : Int)) ∧ (∀ p i : Nat, p ∈ rxFl138 → i < bx_wd (rxL.1 p) → S p (i : Int) = S0 p (i : Int)) ∧ rkWt4 S0 S 160 23 6 0 0
noncomputable def rxmCZ138x1_14 (S0 : Nat → Int → Int) (ws : List Int) (S : Nat → Int → Int) : Nat := 1630
noncomputable def rxzCZ138x1_14 : rx_Z := ([(0, 0), (0, 0), (0, 0), (0, 0), (0, 0), (0, 0), (0, 0), (0, 0)], [], [], 0, 0, 128, [(0, .inr (3, (0, 138))), (1, .inr (3, (0, 1))), (2, .inr (0, (0, 6)))], [.inr (0, (0, 12)), .inr (0, (0, 0)), .inr (3, (0, 148)), .inr (0, (0, 0)), .inr (3, (0, 11))])
noncomputable def rxICZ138x1_15 (S0 : Nat → Int → Int) (ws : List Int) (S : Nat → Int → Int) : Prop := S 138 0 = S0 1 0 ∧ (∀ i : Nat, i < 6 → S 139 (i : Int) = S0 2 (i : Int)) ∧ (∀ i : Nat, i < 6 → S 140 (i : Int) = S0 3 (i : Int)) ∧ S 142 0 = S0 5 0 ∧ (∀ i : Nat, i < 8 → S 143 (i : Int) = S0 6 (i : Int)) ∧ (∀ i : Nat, i < 8 → S 144 (i : Int) = S0 7 (i : Int)) ∧ (∀ i : Nat, i < 8 → S 145 (i : Int) = S0 8 (i : Int)) ∧ S 138 5 = S0 1 5 ∧ (∀ i : Nat, i < 12 → S 146 (i : Int) = S0 9 (i : Int)) ∧ (∀ i : Nat, i < 12 → S 147 (i : Int) = S0 10 (i : Int)) ∧ (∀ i : Nat, i < 12 → S 148 (i : Int) = S0 11 (i : Int)) ∧ (∀ p i : Nat, p ∈ rxFl138 → i < bx_wd (rxL.1 p) → S p (i : Int) = S0 p (i : Int)) ∧ rkWt4 S0 S 160 23 6 0 0
noncomputable def rxmCZ138x1_15 (S0 : Nat → Int → Int) (ws : List Int) (S : Nat → Int → Int) : Nat := 1625
noncomputable def rxzCZ138x1_15 : rx_Z := ([(0, 0), (0, 0), (0, 0), (0, 0), (0, 0), (0, 0), (0, 0), (0, 0)], [], [], 0, 0, 131, [(0, .inr (3, (0, 138))), (1, .inr (3, (0, 1))), (2, .inr (0, (0, 6)))], [])
noncomputable def rxICZ138x1_16 (S0 : Nat → Int → Int) (ws : List Int) (S : Nat → Int → Int) (i : Int) : Prop := S 138 0 = S0 1 0 ∧ (∀ i : Nat, i < 6 → S 139 (i : Int) = S0 2 (i : Int)) ∧ (∀ i : Nat, i < 6 → S 140 (i : Int) = S0 3 (i : Int)) ∧ S 142 0 = S0 5 0 ∧ (∀ i : Nat, i < 8 → S 143 (i : Int) = S0 6 (i : Int)) ∧ (∀ i : Nat, i < 8 → S 144 (i : Int) = S0 7 (i : Int)) ∧ (∀ i : Nat, i < 8 → S 145 (i : Int) = S0 8 (i : Int)) ∧ S 138 5 = S0 1 5 ∧ (∀ i : Nat, i < 12 → S 146 (i : Int) = S0 9 (i : Int)) ∧ (∀ i : Nat, i < 12 → S 147 (i : Int) = S0 10 (i : Int)) ∧ (∀ i : Nat, i < 12 → S 148 (i : Int) = S0 11 (i : Int)) ∧ (∀ p i : Nat, p ∈ rxFl138 → i < bx_wd (rxL.1 p) → S p (i : Int) = S0 p (i : Int)) ∧ rkWt4 S0 S 160 23 6 i 0
noncomputable def rxmCZ138x1_16 (S0 : Nat → Int → Int) (ws : List Int) (S : Nat → Int → Int) (i : Int) : Nat := 1320 + 10 * (20 - i).toNat
noncomputable def rxzCZ138x1_16 : rx_Z := ([(0, 0), (0, 0), (0, 0), (0, 0), (0, 0), (0, 0), (0, 0), (0, 0), (0, 12)], [], [], 0, 0, 133, [(0, .inr (3, (0, 138))), (1, .inr (3, (0, 1))), (2, .inr (0, (8, 0)))], [])
noncomputable def rxICZ138x1_17 (S0 : Nat → Int → Int) (ws : List Int) (S : Nat → Int → Int) (i rp rq : Int) : Prop := rp = ((178 + 3 * i.toNat : Nat) : Int) ∧ rq = ((41 + 3 * i.toNat : Nat) : Int) ∧ S 138 0 = S0 1 0 ∧ (∀ i : Nat, i < 6 → S 139 (i : Int) = S0 2 (i : Int)) ∧ (∀ i : Nat, i < 6 → S 140 (i : Int) = S0 3 (i : Int)) ∧ S 142 0 = S0 5 0 ∧ (∀ i : Nat, i < 8 → S 143 (i : Int) = S0 6 (i : Int)) ∧ (∀ i : Nat, i < 8 → S 144 (i : Int) = S0 7 (i : Int)) ∧ (∀ i : Nat, i < 8 → S 145 (i : Int) = S0 8 (i : Int)) ∧ S 138 5 = S0 1 5 ∧ (∀ i : Nat, i < 12 → S 146 (i : Int) = S0 9 (i : Int)) ∧ (∀ i : Nat, i < 12 → S 147 (i : Int) = S0 10 (i : Int)) ∧ (∀ i : Nat, i < 12 → S 148 (i : Int) = S0 11 (i : Int)) ∧ (∀ p i : Nat, p ∈ rxFl138 → i < bx_wd (rxL.1 p) → S p (i : Int) = S0 p (i : Int)) ∧ rkWt4 S0 S 160 23 6 i 0
noncomputable def rxmCZ138x1_17 (S0 : Nat → Int → Int) (ws : List Int) (S : Nat → Int → Int) (i rp rq : Int) : Nat := 1320 + 10 * (20 - i).toNat - 2
noncomputable def rxzCZ138x1_17 : rx_Z := ([(0, 0), (0, 0), (0, 0), (0, 0), (0, 0), (0, 0), (0, 0), (0, 0), (0, 11), (0, 1522), (0, 1522)], [], [(((9, 0), 1000010), .inl none), (((10, 0), 1000010), .inl none)], 0, 0, 151, [(0, .inr (3, (0, 138))), (1, .inr (3, (0, 1))), (2, .inr (0, (8, 0)))], [.inr (3, (10, 0)), .inr (3, (9, 0))])
noncomputable def rxICZ138x1_18 (S0 : Nat → Int → Int) (ws : List Int) (S : Nat → Int → Int) (i rp rq : Int) : Prop := S 138 0 = S0 1 0 ∧ (∀ i : Nat, i < 6 → S 139 (i : Int) = S0 2 (i : Int)) ∧ (∀ i : Nat, i < 6 → S 140 (i : Int) = S0 3 (i : Int)) ∧ S 142 0 = S0 5 0 ∧ (∀ i : Nat, i < 8 → S 143 (i : Int) = S0 6 (i : Int)) ∧ (∀ i : Nat, i < 8 → S 144 (i : Int) = S0 7 (i : Int)) ∧ (∀ i : Nat, i < 8 → S 145 (i : Int) = S0 8 (i : Int)) ∧ S 138 5 = S0 1 5 ∧ (∀ i : Nat, i < 12 → S 146 (i : Int) = S0 9 (i : Int)) ∧ (∀ i : Nat, i < 12 → S 147 (i : Int) = S0 10 (i : Int)) ∧ (∀ i : Nat, i < 12 → S 148 (i : Int) = S0 11 (i : Int)) ∧ (∀ p i : Nat, p ∈ rxFl138 → i < bx_wd (rxL.1 p) → S p (i : Int) = S0 p (i : Int)) ∧ rkWt4 S0 S 160 23 6 (i + 1) 0
noncomputable def rxmCZ138x1_18 (S0 : Nat → Int → Int) (ws : List Int) (S : Nat → Int → Int) (i rp rq : Int) : Nat := 1320 + 10 * (20 - i).toNat - 4
noncomputable def rxzCZ138x1_18 : rx_Z := ([(0, 0), (0, 0), (0, 0), (0, 0), (0, 0), (0, 0), (0, 0), (0, 0), (0, 11), (0, 1522), (0, 1522)], [], [(((9, 0), 1000010), .inl none), (((10, 0), 1000010), .inl none)], 0, 0, 154, [(0, .inr (3, (0, 138))), (1, .inr (3, (0, 1))), (2, .inr (0, (8, 0)))], [])
noncomputable def rxICZ138x1_19 (S0 : Nat → Int → Int) (ws : List Int) (S : Nat → Int → Int) : Prop := S 138 0 = S0 1 0 ∧ (∀ i : Nat, i < 6 → S 139 (i : Int) = S0 2 (i : Int)) ∧ (∀ i : Nat, i < 6 → S 140 (i : Int) = S0 3 (i : Int)) ∧ S 142 0 = S0 5 0 ∧ (∀ i : Nat, i < 8 → S 143 (i : Int) = S0 6 (i : Int)) ∧ (∀ i : Nat, i < 8 → S 144 (i : Int) = S0 7 (i : Int)) ∧ (∀ i : Nat, i < 8 → S 145 (i : Int) = S0 8 (i : Int)) ∧ S 138 5 = S0 1 5 ∧ (∀ i : Nat, i < 12 → S 146 (i : Int) = S0 9 (i : Int)) ∧ (∀ i : Nat, i < 12 → S 147 (i : Int) = S0 10 (i : Int)) ∧ (∀ i : Nat, i < 12 → S 148 (i : Int) = S0 11 (i : Int)) ∧ S 138 10 = S0 1 10 ∧ (∀ p i : Nat, p ∈ rxFl138 → i < bx_wd (rxL.1 p) → S p (i : Int) = S0 p (i : Int)) ∧ rkWt4 S0 S 160 23 6 12 0
noncomputable def rxmCZ138x1_19 (S0 : Nat → Int → Int) (ws : List Int) (S : Nat → Int → Int) : Nat := 1310
noncomputable def rxzCZ138x1_19 : rx_Z := ([(0, 0), (0, 0), (0, 0), (0, 0), (0, 0), (0, 0), (0, 0), (0, 0)], [], [], 0, 0, 180, [(0, .inr (3, (0, 138))), (1, .inr (3, (0, 1))), (2, .inr (0, (0, 12)))], [.inr (0, (0, 12)), .inr (0, (0, 0)), .inr (3, (0, 150)), .inr (0, (0, 0)), .inr (3, (0, 13))])
noncomputable def rxICZ138x1_20 (S0 : Nat → Int → Int) (ws : List Int) (S : Nat → Int → Int) : Prop := S 138 0 = S0 1 0 ∧ (∀ i : Nat, i < 6 → S 139 (i : Int) = S0 2 (i : Int)) ∧ (∀ i : Nat, i < 6 → S 140 (i : Int) = S0 3 (i : Int)) ∧ S 142 0 = S0 5 0 ∧ (∀ i : Nat, i < 8 → S 143 (i : Int) = S0 6 (i : Int)) ∧ (∀ i : Nat, i < 8 → S 144 (i : Int) = S0 7 (i : Int)) ∧ (∀ i : Nat, i < 8 → S 145 (i : Int) = S0 8 (i : Int)) ∧ S 138 5 = S0 1 5 ∧ (∀ i : Nat, i < 12 → S 146 (i : Int) = S0 9 (i : Int)) ∧ (∀ i : Nat, i < 12 → S 147 (i : Int) = S0 10 (i : Int)) ∧ (∀ i : Nat, i < 12 → S 148 (i : Int) = S0 11 (i : Int)) ∧ S 138 10 = S0 1 10 ∧ (∀ i : Nat, i < 12 → S 150 (i : Int) = S0 13 (i : Int)) ∧ (∀ p i : Nat, p ∈ rxFl138 → i < bx_wd (rxL.1 p) → S p (i : Int) = S0 p (i : Int)) ∧ rkWt4 S0 S 160 23 6 12 0
noncomputable def rxmCZ138x1_20 (S0 : Nat → Int → Int) (ws : List Int) (S : Nat → Int → Int) : Nat := 1305
noncomputable def rxzCZ138x1_20 : rx_Z := ([(0, 0), (0, 0), (0, 0), (0, 0), (0, 0), (0, 0), (0, 0), (0, 0)], [], [], 0, 0, 183, [(0, .inr (3, (0, 138))), (1, .inr (3, (0, 1))), (2, .inr (0, (0, 12)))], [])
noncomputable def rxICZ138x1_21 (S0 : Nat → Int → Int) (ws : List Int) (S : Nat → Int → Int) : Prop := S 138 0 = S0 1 0 ∧ (∀ i : Nat, i < 6 → S 139 (i : Int) = S0 2 (i : Int)) ∧ (∀ i : Nat, i < 6 → S 140 (i : Int) = S0 3 (i : Int)) ∧ S 142 0 = S0 5 0 ∧ (∀ i : Nat, i < 8 → S 143 (i : Int) = S0 6 (i : Int)) ∧ (∀ i : Nat, i < 8 → S 144 (i : Int) = S0 7 (i : Int)) ∧ (∀ i : Nat, i < 8 → S 145 (i : Int) = S0 8 (i : Int)) ∧ S 138 5 = S0 1 5 ∧ (∀ i : Nat, i < 12 → S 146 (i : Int) = S0 9 (i : Int)) ∧ (∀ i : Nat, i < 12 → S 147 (i : Int) = S0 10 (i : Int)) ∧ (∀ i : Nat, i < 12 → S 148 (i : Int) = S0 11 (i : Int)) ∧ S 138 10 = S0 1 10 ∧ (∀ i : Nat, i < 12 → S 150 (i : Int) = S0 13 (i : Int)) ∧ (∀ p i : Nat, p ∈ rxFl138 → i < bx_wd (rxL.1 p) → S p (i : Int) = S0 p (i : Int)) ∧ rkWt4 S0 S 160 23 6 12 0
noncomputable def rxmCZ138x1_21 (S0 : Nat → Int → Int) (ws : List Int) (S : Nat → Int → Int) : Nat := 1300
noncomputable def rxzCZ138x1_21 : rx_Z := ([(0, 0), (0, 0), (0, 0), (0, 0), (0, 0), (0, 0), (0, 0), (0, 0)], [], [], 0, 0, 191, [(0, .inr (3, (0, 138))), (1, .inr (3, (0, 1))), (2, .inr (0, (0, 12)))], [.inr (3, (0, 14)), .inr (3, (0, 151))])
noncomputable def rxICZ138x1_22 (S0 : Nat → Int → Int) (ws : List Int) (S : Nat → Int → Int) : Prop := S 138 0 = S0 1 0 ∧ (∀ i : Nat, i < 6 → S 139 (i : Int) = S0 2 (i : Int)) ∧ (∀ i : Nat, i < 6 → S 140 (i : Int) = S0 3 (i : Int)) ∧ S 142 0 = S0 5 0 ∧ (∀ i : Nat, i < 8 → S 143 (i : Int) = S0 6 (i : Int)) ∧ (∀ i : Nat, i < 8 → S 144 (i : Int) = S0 7 (i : Int)) ∧ (∀ i : Nat, i < 8 → S 145 (i : Int) = S0 8 (i : Int)) ∧ S 138 5 = S0 1 5 ∧ (∀ i : Nat, i < 12 → S 146 (i : Int) = S0 9 (i : Int)) ∧ (∀ i : Nat, i < 12 → S 147 (i : Int) = S0 10 (i : Int)) ∧ (∀ i : Nat, i < 12 → S 148 (i : Int) = S0 11 (i : Int)) ∧ S 138 10 = S0 1 10 ∧ (∀ i : Nat, i < 12 → S 150 (i : Int) = S0 13 (i : Int)) ∧ S 151 0 = S0 14 0 ∧ (∀ i : Nat, i < 12 → S 152 (i : Int) = S0 15 (i : Int)) ∧ (∀ i : Nat, i < 12 → S 153 (i : Int) = S0 16 (i : Int)) ∧ (∀ i : Nat, i < 12 → S 154 (i : Int) = S0 17 (i : Int)) ∧ (∀ p i : Nat, p ∈ rxFl138 → i < bx_wd (rxL.1 p) → S p (i : Int) = S0 p (i : Int)) ∧ rkWt4 S0 S 160 23 6 12 0
noncomputable def rxmCZ138x1_22 (S0 : Nat → Int → Int) (ws : List Int) (S : Nat → Int → Int) : Nat := 1295
noncomputable def rxzCZ138x1_22 : rx_Z := ([(0, 0), (0, 0), (0, 0), (0, 0), (0, 0), (0, 0), (0, 0), (0, 0)], [], [], 0, 0, 194, [(0, .inr (3, (0, 138))), (1, .inr (3, (0, 1))), (2, .inr (0, (0, 12)))], [])
noncomputable def rxICZ138x1_23 (S0 : Nat → Int → Int) (ws : List Int) (S : Nat → Int → Int) : Prop := S 138 0 = S0 1 0 ∧ (∀ i : Nat, i < 6 → S 139 (i : Int) = S0 2 (i : Int)) ∧ (∀ i : Nat, i < 6 → S 140 (i : Int) = S0 3 (i : Int)) ∧ S 142 0 = S0 5 0 ∧ (∀ i : Nat, i < 8 → S 143 (i : Int) = S0 6 (i : Int)) ∧ (∀ i : Nat, i < 8 → S 144 (i : Int) = S0 7 (i : Int)) ∧ (∀ i : Nat, i < 8 → S 145 (i : Int) = S0 8 (i : Int)) ∧ S 138 5 = S0 1 5 ∧ (∀ i : Nat, i < 12 → S 146 (i : Int) = S0 9 (i : Int)) ∧ (∀ i : Nat, i < 12 → S 147 (i : Int) = S0 10 (i : Int)) ∧ (∀ i : Nat, i < 12 → S 148 (i : Int) = S0 11 (i : Int)) ∧ S 138 10 = S0 1 10 ∧ (∀ i : Nat, i < 12 → S 150 (i : Int) = S0 13 (i : Int)) ∧ S 151 0 = S0 14 0 ∧ (∀ i : Nat, i < 12 → S 152 (i : Int) = S0 15 (i : Int)) ∧ (∀ i : Nat, i < 12 → S 153 (i : Int) = S0 16 (i : Int)) ∧ (∀ i : Nat, i < 12 → S 154 (i : Int) = S0 17 (i : Int)) ∧ (∀ p i : Nat, p ∈ rxFl138 → i < bx_wd (rxL.1 p) → S p (i : Int) = S0 p (i : Int)) ∧ rkWt4 S0 S 160 23 6 12 0
noncomputable def rxmCZ138x1_23 (S0 : Nat → Int → Int) (ws : List Int) (S : Nat → Int → Int) : Nat := 1290
noncomputable def rxzCZ138x1_23 : rx_Z := ([(0, 0), (0, 0), (0, 0), (0, 0), (0, 0), (0, 0), (0, 0), (0, 0)], [], [], 0, 0, 205, [(0, .inr (3, (0, 138))), (1, .inr (3, (0, 1))), (2, .inr (0, (0, 12)))], [.inr (0, (0, 3)), .inr (0, (0, 0)), .inr (3, (0, 156)), .inr (0, (0, 0)), .inr (3, (0, 19))])
noncomputable def rxICZ138x1_24 (S0 : Nat → Int → Int) (ws : List Int) (S : Nat → Int → Int) : Prop := S 138 0 = S0 1 0 ∧ (∀ i : Nat, i < 6 → S 139 (i : Int) = S0 2 (i : Int)) ∧ (∀ i : Nat, i < 6 → S 140 (i : Int) = S0 3 (i : Int)) ∧ S 142 0 = S0 5 0 ∧ (∀ i : Nat, i < 8 → S 143 (i : Int) = S0 6 (i : Int)) ∧ (∀ i : Nat, i < 8 → S 144 (i : Int) = S0 7 (i : Int)) ∧ (∀ i : Nat, i < 8 → S 145 (i : Int) = S0 8 (i : Int)) ∧ S 138 5 = S0 1 5 ∧ (∀ i : Nat, i < 12 → S 146 (i : Int) = S0 9 (i : Int)) ∧ (∀ i : Nat, i < 12 → S 147 (i : Int) = S0 10 (i : Int)) ∧ (∀ i : Nat, i < 12 → S 148 (i : Int) = S0 11 (i : Int)) ∧ S 138 10 = S0 1 10 ∧ (∀ i : Nat, i < 12 → S 150 (i : Int) = S0 13 (i : Int)) ∧ S 151 0 = S0 14 0 ∧ (∀ i : Nat, i < 12 → S 152 (i : Int) = S0 15 (i : Int)) ∧ (∀ i : Nat, i < 12 → S 153 (i : Int) = S0 16 (i : Int)) ∧ (∀ i : Nat, i < 12 → S 154 (i : Int) = S0 17 (i : Int)) ∧ (∀ i : Nat, i < 3 → S 156 (i : Int) = S0 19 (i : Int)) ∧ (∀ p i : Nat, p ∈ rxFl138 → i < bx_wd (rxL.1 p) → S p (i : Int) = S0 p (i : Int)) ∧ rkWt4 S0 S 160 23 6 12 0
noncomputable def rxmCZ138x1_24 (S0 : Nat → Int → Int) (ws : List Int) (S : Nat → Int → Int) : Nat := 1285
noncomputable def rxzCZ138x1_24 : rx_Z := ([(0, 0), (0, 0), (0, 0), (0, 0), (0, 0), (0, 0), (0, 0), (0, 0)], [], [], 0, 0, 208, [(0, .inr (3, (0, 138))), (1, .inr (3, (0, 1))), (2, .inr (0, (0, 12)))], [])
noncomputable def rxICZ138x1_25 (S0 : Nat → Int → Int) (ws : List Int) (S : Nat → Int → Int) (i : Int) : Prop := S 138 0 = S0 1 0 ∧ (∀ i : Nat, i < 6 → S 139 (i : Int) = S0 2 (i : Int)) ∧ (∀ i : Nat, i < 6 → S 140 (i : Int) = S0 3 (i : Int)) ∧ S 142 0 = S0 5 0 ∧ (∀ i : Nat, i < 8 → S 143 (i : Int) = S0 6 (i : Int)) ∧ (∀ i : Nat, i < 8 → S 144 (i : Int) = S0 7 (i : Int)) ∧ (∀ i : Nat, i < 8 → S 145 (i : Int) = S0 8 (i : Int)) ∧ S 138 5 = S0 1 5 ∧ (∀ i : Nat, i < 12 → S 146 (i : Int) = S0 9 (i : Int)) ∧ (∀ i : Nat, i < 12 → S 147 (i : Int) = S0 10 (i : Int)) ∧ (∀ i : Nat, i < 12 → S 148 (i : Int) = S0 11 (i : Int)) ∧ S 138 10 = S0 1 10 ∧ (∀ i : Nat, i < 12 → S 150 (i : Int) = S0 13 (i : Int)) ∧ S 151 0 = S0 14 0 ∧ (∀ i : Nat, i < 12 → S 152 (i : Int) = S0 15 (i : Int)) ∧ (∀ i : Nat, i < 12 → S 153 (i : Int) = S0 16 (i : Int)) ∧ (∀ i : Nat, i < 12 → S 154 (i : Int) = S0 17 (i : Int)) ∧ (∀ i : Nat, i < 3 → S 156 (i : Int) = S0 19 (i : Int)) ∧ S 138 14 = S0 1 14 ∧ S 138 15 = S0 1 15 ∧ (∀ p i : Nat, p ∈ rxFl138 → i < bx_wd (rxL.1 p) → S p (i : Int) = S0 p (i : Int)) ∧ rkWt4 S0 S 160 23 6 12 i
noncomputable def rxmCZ138x1_25 (S0 : Nat → Int → Int) (ws : List Int) (S : Nat → Int → Int) (i : Int) : Nat := 980 + 10 * (20 - i).toNat
noncomputable def rxzCZ138x1_25 : rx_Z := ([(0, 0), (0, 0), (0, 0), (0, 0), (0, 0), (0, 0), (0, 0), (0, 0), (0, 6)], [], [], 0, 0, 226, [(0, .inr (3, (0, 138))), (1, .inr (3, (0, 1))), (2, .inr (0, (8, 0)))], [])
noncomputable def rxICZ138x1_26 (S0 : Nat → Int → Int) (ws : List Int) (S : Nat → Int → Int) (i rp rq : Int) : Prop := rp = ((214 + 10 * i.toNat : Nat) : Int) ∧ rq = ((77 + 10 * i.toNat : Nat) : Int) ∧ S 138 0 = S0 1 0 ∧ (∀ i : Nat, i < 6 → S 139 (i : Int) = S0 2 (i : Int)) ∧ (∀ i : Nat, i < 6 → S 140 (i : Int) = S0 3 (i : Int)) ∧ S 142 0 = S0 5 0 ∧ (∀ i : Nat, i < 8 → S 143 (i : Int) = S0 6 (i : Int)) ∧ (∀ i : Nat, i < 8 → S 144 (i : Int) = S0 7 (i : Int)) ∧ (∀ i : Nat, i < 8 → S 145 (i : Int) = S0 8 (i : Int)) ∧ S 138 5 = S0 1 5 ∧ (∀ i : Nat, i < 12 → S 146 (i : Int) = S0 9 (i : Int)) ∧ (∀ i : Nat, i < 12 → S 147 (i : Int) = S0 10 (i : Int)) ∧ (∀ i : Nat, i < 12 → S 148 (i : Int) = S0 11 (i : Int)) ∧ S 138 10 = S0 1 10 ∧ (∀ i : Nat, i < 12 → S 150 (i : Int) = S0 13 (i : Int)) ∧ S 151 0 = S0 14 0 ∧ (∀ i : Nat, i < 12 → S 152 (i : Int) = S0 15 (i : Int)) ∧ (∀ i : Nat, i < 12 → S 153 (i : Int) = S0 16 (i : Int)) ∧ (∀ i : Nat, i < 12 → S 154 (i : Int) = S0 17 (i : Int)) ∧ (∀ i : Nat, i < 3 → S 156 (i : Int) = S0 19 (i : Int)) ∧ S 138 14 = S0 1 14 ∧ S 138 15 = S0 1 15 ∧ (∀ p i : Nat, p ∈ rxFl138 → i < bx_wd (rxL.1 p) → S p (i : Int) = S0 p (i : Int)) ∧ rkWt4 S0 S 160 23 6 12 i
noncomputable def rxmCZ138x1_26 (S0 : Nat → Int → Int) (ws : List Int) (S : Nat → Int → Int) (i rp rq : Int) : Nat := 980 + 10 * (20 - i).toNat - 2
noncomputable def rxzCZ138x1_26 : rx_Z := ([(0, 0), (0, 0), (0, 0), (0, 0), (0, 0), (0, 0), (0, 0), (0, 0), (0, 5), (0, 1522), (0, 1522)], [], [(((9, 0), 1000007), .inl none), (((10, 0), 1000007), .inl none)], 0, 0, 252, [(0, .inr (3, (0, 138))), (1, .inr (3, (0, 1))), (2, .inr (0, (8, 0)))], [.inr (3, (10, 0)), .inr (3, (9, 0))])
noncomputable def rxICZ138x1_27 (S0 : Nat → Int → Int) (ws : List Int) (S : Nat → Int → Int) (i rp rq : Int) : Prop := S 138 0 = S0 1 0 ∧ (∀ i : Nat, i < 6 → S 139 (i : Int) = S0 2 (i : Int)) ∧ (∀ i : Nat, i < 6 → S 140 (i : Int) = S0 3 (i : Int)) ∧ S 142 0 = S0 5 0 ∧ (∀ i : Nat, i < 8 → S 143 (i : Int) = S0 6 (i : Int)) ∧ (∀ i : Nat, i < 8 → S 144 (i : Int) = S0 7 (i : Int)) ∧ (∀ i : Nat, i < 8 → S 145 (i : Int) = S0 8 (i : Int)) ∧ S 138 5 = S0 1 5 ∧ (∀ i : Nat, i < 12 → S 146 (i : Int) = S0 9 (i : Int)) ∧ (∀ i : Nat, i < 12 → S 147 (i : Int) = S0 10 (i : Int)) ∧ (∀ i : Nat, i < 12 → S 148 (i : Int) = S0 11 (i : Int)) ∧ S 138 10 = S0 1 10 ∧ (∀ i : Nat, i < 12 → S 150 (i : Int) = S0 13 (i : Int)) ∧ S 151 0 = S0 14 0 ∧ (∀ i : Nat, i < 12 → S 152 (i : Int) = S0 15 (i : Int)) ∧ (∀ i : Nat, i < 12 → S 153 (i : Int) = S0 16 (i : Int)) ∧ (∀ i : Nat, i < 12 → S 154 (i : Int) = S0 17 (i : Int)) ∧ (∀ i : Nat, i < 3 → S 156 (i : Int) = S0 19 (i : Int)) ∧ S 138 14 = S0 1 14 ∧ S 138 15 = S0 1 15 ∧ (∀ p i : Nat, p ∈ rxFl138 → i < bx_wd (rxL.1 p) → S p (i : Int) = S0 p (i : Int)) ∧ rkWt4 S0 S 160 23 6 12 (i + 1)
noncomputable def rxmCZ138x1_27 (S0 : Nat → Int → Int) (ws : List Int) (S : Nat → Int → Int) (i rp rq : Int) : Nat := 980 + 10 * (20 - i).toNat - 4
noncomputable def rxzCZ138x1_27 : rx_Z := ([(0, 0), (0, 0), (0, 0), (0, 0), (0, 0), (0, 0), (0, 0), (0, 0), (0, 5), (0, 1522), (0, 1522)], [], [(((9, 0), 1000007), .inl none), (((10, 0), 1000007), .inl none)], 0, 0, 255, [(0, .inr (3, (0, 138))), (1, .inr (3, (0, 1))), (2, .inr (0, (8, 0)))], [])
noncomputable def rxoCZ138x1_0_0 : bx_HO := (([(0, 0), (0, 0), (0, 0), (0, 0), (0, 0), (0, 0), (0, 0), (0, 0), (0, 6)], [], [(((0, 138), 1), .inr (3, (0, 139))), (((0, 1), 1), .inr (3, (0, 2))), (((0, 0), 1851192626986356797424340330377019318111018015026043177634758659000000), .inr (0, (8, 0))), (((0, 138), 0), .inr (0, (8, 0))), (((0, 0), 1851192626986356797424340330377019318111018015026043177553952768000000), .inr (0, (8, 0)))], 0, 0, 20, [(0, .inr (3, (0, 138))), (1, .inr (3, (0, 1)))], [.inr (0, (0, 6)), .inr (0, (0, 0)), .inr (3, (0, 139)), .inr (0, (0, 0)), .inr (3, (0, 2))]), [], [], [(0, 0), (0, 0), (0, 0), (0, 0), (0, 0), (0, 0), (0, 0), (0, 0)], 1)
noncomputable def rxoCZ138x1_2_0 : bx_HO := (([(0, 0), (0, 0), (0, 0), (0, 0), (0, 0), (0, 0), (0, 0), (0, 0)], [], [(((0, 138), 2), .inr (3, (0, 140))), (((0, 1), 2), .inr (3, (0, 3)))], 0, 0, 35, [(0, .inr (3, (0, 138))), (1, .inr (3, (0, 1)))], [.inr (0, (0, 6)), .inr (0, (0, 0)), .inr (3, (0, 140)), .inr (0, (0, 0)), .inr (3, (0, 3))]), [], [], [(0, 0), (0, 0), (0, 0), (0, 0), (0, 0), (0, 0), (0, 0), (0, 0)], 3)
noncomputable def rxoCZ138x1_4_0 : bx_HO := (([(0, 0), (0, 0), (0, 0), (0, 0), (0, 0), (0, 0), (0, 0), (0, 0)], [], [], 0, 0, 40, [(2, .inr (0, (0, 0))), (0, .inr (3, (0, 138))), (1, .inr (3, (0, 1)))], []), [], [], [(0, 0), (0, 0), (0, 0), (0, 0), (0, 0), (0, 0), (0, 0), (0, 0), (0, 0)], 5)
noncomputable def rxoCZ138x1_5_0 : bx_HO := (([(0, 0), (0, 0), (0, 0), (0, 0), (0, 0), (0, 0), (0, 0), (0, 0), (0, 5), (0, 1522), (0, 1522)], [], [(((0, 0), 1851192626986356797424364830707437625680387377997778264866947072000000), .inr (3, (10, 0))), (((10, 0), 1000010), .inl none), (((0, 1), 3), .inr (3, (0, 4))), (((0, 0), 1851192626986356797424364830707437625680387377997778264947752960000000), .inr (3, (9, 0))), (((9, 0), 1000010), .inl none), (((0, 138), 3), .inr (3, (0, 141)))], 0, 0, 58, [(0, .inr (3, (0, 138))), (1, .inr (3, (0, 1))), (2, .inr (0, (8, 0)))], [.inr (3, (10, 0)), .inr (3, (9, 0))]), [], [], [(0, 0), (0, 0), (0, 0), (0, 0), (0, 0), (0, 0), (0, 0), (0, 0), (8, 0), (9, 0), (10, 0)], 6)
noncomputable def rxoCZ138x1_5_1 : bx_HO := (([(0, 0), (0, 0), (0, 0), (0, 0), (0, 0), (0, 0), (0, 0), (0, 0), (6, 6)], [], [(((0, 1), 4), .inr (3, (0, 5))), (((0, 138), 4), .inr (3, (0, 142)))], 0, 0, 75, [(0, .inr (3, (0, 138))), (1, .inr (3, (0, 1))), (2, .inr (0, (8, 0)))], [.inr (3, (0, 5)), .inr (3, (0, 142))]), [], [], [(0, 0), (0, 0), (0, 0), (0, 0), (0, 0), (0, 0), (0, 0), (0, 0)], 8)
noncomputable def rxoCZ138x1_7_0 : bx_HO := (([(0, 0), (0, 0), (0, 0), (0, 0), (0, 0), (0, 0), (0, 0), (0, 0), (0, 5), (0, 1522), (0, 1522)], [], [(((9, 0), 1000010), .inl none), (((10, 0), 1000010), .inl none)], 0, 0, 40, [(2, .inr (0, (8, 1))), (0, .inr (3, (0, 138))), (1, .inr (3, (0, 1)))], []), [], [], [(0, 0), (0, 0), (0, 0), (0, 0), (0, 0), (0, 0), (0, 0), (0, 0), (8, 1)], 5)
noncomputable def rxoCZ138x1_9_0 : bx_HO := (([(0, 0), (0, 0), (0, 0), (0, 0), (0, 0), (0, 0), (0, 0), (0, 0), (0, 12)], [], [(((0, 138), 6), .inr (3, (0, 146))), (((0, 1), 6), .inr (3, (0, 9))), (((0, 0), 1851192626986356798427873864310897359480125337295219445403877379000000), .inr (0, (8, 0))), (((0, 138), 5), .inr (0, (8, 0))), (((0, 0), 1851192626986356798427873864310897359480125337295219445323071488000000), .inr (0, (8, 0)))], 0, 0, 98, [(0, .inr (3, (0, 138))), (1, .inr (3, (0, 1))), (2, .inr (0, (0, 6)))], [.inr (0, (0, 12)), .inr (0, (0, 0)), .inr (3, (0, 146)), .inr (0, (0, 0)), .inr (3, (0, 9))]), [], [], [(0, 0), (0, 0), (0, 0), (0, 0), (0, 0), (0, 0), (0, 0), (0, 0)], 10)
noncomputable def rxoCZ138x1_11_0 : bx_HO := (([(0, 0), (0, 0), (0, 0), (0, 0), (0, 0), (0, 0), (0, 0), (0, 0)], [], [(((0, 138), 7), .inr (3, (0, 147))), (((0, 1), 7), .inr (3, (0, 10)))], 0, 0, 113, [(0, .inr (3, (0, 138))), (1, .inr (3, (0, 1))), (2, .inr (0, (0, 6)))], [.inr (0, (0, 12)), .inr (0, (0, 0)), .inr (3, (0, 147)), .inr (0, (0, 0)), .inr (3, (0, 10))]), [], [], [(0, 0), (0, 0), (0, 0), (0, 0), (0, 0), (0, 0), (0, 0), (0, 0)], 12)
noncomputable def rxoCZ138x1_13_0 : bx_HO := (([(0, 0), (0, 0), (0, 0), (0, 0), (0, 0), (0, 0), (0, 0), (0, 0)], [], [(((0, 138), 8), .inr (3, (0, 148))), (((0, 1), 8), .inr (3, (0, 11)))], 0, 0, 128, [(0, .inr (3, (0, 138))), (1, .inr (3, (0, 1))), (2, .inr (0, (0, 6)))], [.inr (0, (0, 12)), .inr (0, (0, 0)), .inr (3, (0, 148)), .inr (0, (0, 0)), .inr (3, (0, 11))]), [], [], [(0, 0), (0, 0), (0, 0), (0, 0), (0, 0), (0, 0), (0, 0), (0, 0)], 14)
noncomputable def rxoCZ138x1_15_0 : bx_HO := (([(0, 0), (0, 0), (0, 0), (0, 0), (0, 0), (0, 0), (0, 0), (0, 0)], [], [], 0, 0, 133, [(2, .inr (0, (0, 0))), (0, .inr (3, (0, 138))), (1, .inr (3, (0, 1)))], []), [], [], [(0, 0), (0, 0), (0, 0), (0, 0), (0, 0), (0, 0), (0, 0), (0, 0), (0, 0)], 16)
noncomputable def rxoCZ138x1_16_0 : bx_HO := (([(0, 0), (0, 0), (0, 0), (0, 0), (0, 0), (0, 0), (0, 0), (0, 0), (0, 11), (0, 1522), (0, 1522)], [], [(((0, 0), 1851192626986356797424364830707437625680387377997778264871665664000000), .inr (3, (10, 0))), (((10, 0), 1000010), .inl none), (((0, 1), 9), .inr (3, (0, 12))), (((0, 0), 1851192626986356797424364830707437625680387377997778264952471552000000), .inr (3, (9, 0))), (((9, 0), 1000010), .inl none), (((0, 138), 9), .inr (3, (0, 149)))], 0, 0, 151, [(0, .inr (3, (0, 138))), (1, .inr (3, (0, 1))), (2, .inr (0, (8, 0)))], [.inr (3, (10, 0)), .inr (3, (9, 0))]), [], [], [(0, 0), (0, 0), (0, 0), (0, 0), (0, 0), (0, 0), (0, 0), (0, 0), (8, 0), (9, 0), (10, 0)], 17)
noncomputable def rxoCZ138x1_16_1 : bx_HO := (([(0, 0), (0, 0), (0, 0), (0, 0), (0, 0), (0, 0), (0, 0), (0, 0), (12, 12), (0, 12)], [], [(((0, 138), 11), .inr (3, (0, 150))), (((0, 1), 11), .inr (3, (0, 13))), (((0, 0), 1851192626986356799431407398244775400849232659564395713172996099000000), .inr (0, (9, 0))), (((0, 138), 10), .inr (0, (9, 0))), (((0, 0), 1851192626986356799431407398244775400849232659564395713092190208000000), .inr (0, (9, 0)))], 0, 0, 180, [(0, .inr (3, (0, 138))), (1, .inr (3, (0, 1))), (2, .inr (0, (8, 0)))], [.inr (0, (0, 12)), .inr (0, (0, 0)), .inr (3, (0, 150)), .inr (0, (0, 0)), .inr (3, (0, 13))]), [], [], [(0, 0), (0, 0), (0, 0), (0, 0), (0, 0), (0, 0), (0, 0), (0, 0)], 19)
noncomputable def rxoCZ138x1_18_0 : bx_HO := (([(0, 0), (0, 0), (0, 0), (0, 0), (0, 0), (0, 0), (0, 0), (0, 0), (0, 11), (0, 1522), (0, 1522)], [], [(((9, 0), 1000010), .inl none), (((10, 0), 1000010), .inl none)], 0, 0, 133, [(2, .inr (0, (8, 1))), (0, .inr (3, (0, 138))), (1, .inr (3, (0, 1)))], []), [], [], [(0, 0), (0, 0), (0, 0), (0, 0), (0, 0), (0, 0), (0, 0), (0, 0), (8, 1)], 16)
noncomputable def rxoCZ138x1_20_0 : bx_HO := (([(0, 0), (0, 0), (0, 0), (0, 0), (0, 0), (0, 0), (0, 0), (0, 0)], [], [(((0, 1), 12), .inr (3, (0, 14))), (((0, 138), 12), .inr (3, (0, 151)))], 0, 0, 191, [(0, .inr (3, (0, 138))), (1, .inr (3, (0, 1))), (2, .inr (0, (0, 12)))], [.inr (3, (0, 14)), .inr (3, (0, 151))]), [], [], [(0, 0), (0, 0), (0, 0), (0, 0), (0, 0), (0, 0), (0, 0), (0, 0)], 21)
noncomputable def rxoCZ138x1_22_0 : bx_HO := (([(0, 0), (0, 0), (0, 0), (0, 0), (0, 0), (0, 0), (0, 0), (0, 0)], [], [(((0, 138), 13), .inr (3, (0, 156))), (((0, 1), 13), .inr (3, (0, 19)))], 0, 0, 205, [(0, .inr (3, (0, 138))), (1, .inr (3, (0, 1))), (2, .inr (0, (0, 12)))], [.inr (0, (0, 3)), .inr (0, (0, 0)), .inr (3, (0, 156)), .inr (0, (0, 0)), .inr (3, (0, 19))]), [], [], [(0, 0), (0, 0), (0, 0), (0, 0), (0, 0), (0, 0), (0, 0), (0, 0)], 23)
noncomputable def rxoCZ138x1_24_0 : bx_HO := (([(0, 0), (0, 0), (0, 0), (0, 0), (0, 0), (0, 0), (0, 0), (0, 0), (0, 6), ((-1), 5)], [], [(((0, 0), 1851192626986356800434940932178653442218339981833571980942114819000000), .inr (0, (9, 0))), (((0, 138), 15), .inr (0, (9, 0))), (((0, 0), 1851192626986356800434940932178653442218339981833571980861308928000000), .inr (0, (9, 0))), (((0, 0), 1851192626986356800234234225391877833944518517379736727388291075000000), .inr (0, (8, 0))), (((0, 138), 14), .inr (0, (8, 0))), (((0, 0), 1851192626986356800234234225391877833944518517379736727307485184000000), .inr (0, (8, 0)))], 0, 0, 226, [(2, .inr (0, (0, 0))), (0, .inr (3, (0, 138))), (1, .inr (3, (0, 1)))], []), [], [], [(0, 0), (0, 0), (0, 0), (0, 0), (0, 0), (0, 0), (0, 0), (0, 0), (0, 0)], 25)
noncomputable def rxoCZ138x1_25_0 : bx_HO := (([(0, 0), (0, 0), (0, 0), (0, 0), (0, 0), (0, 0), (0, 0), (0, 0), (0, 5), (1, 6), (0, 1522), (0, 1522)], [(0, (8, 0), (9, 0))], [(((0, 0), 1851192626986356797424364830707437625680387377997778264876384256000000), .inr (3, (11, 0))), (((11, 0), 1000007), .inl none), (((0, 1), 16), .inr (3, (0, 20))), (((0, 0), 1851192626986356797424364830707437625680387377997778264957190144000000), .inr (3, (10, 0))), (((10, 0), 1000007), .inl none), (((0, 138), 16), .inr (3, (0, 157))), (((0, 0), 1851192626986356800234234225391877833944518517379736727388291072000000), .inr (0, (9, 0))), (((0, 138), 14), .inr (0, (9, 0)))], 0, 0, 252, [(0, .inr (3, (0, 138))), (1, .inr (3, (0, 1))), (2, .inr (0, (8, 0)))], [.inr (3, (11, 0)), .inr (3, (10, 0))]), [], [], [(0, 0), (0, 0), (0, 0), (0, 0), (0, 0), (0, 0), (0, 0), (0, 0), (8, 0), (10, 0), (11, 0)], 26)
noncomputable def rxeCZ138x1_25_0 : rx_End × List (Nat × Int × Int) := (([(0, 0), (0, 0), (0, 0), (0, 0), (0, 0), (0, 0), (0, 0), (0, 0), (0, 6), (0, 6)], [(1, (9, 0), (8, 0))], [(((0, 0), 1851192626986356800234234225391877833944518517379736727388291072000000), .inr (0, (9, 0))), (((0, 138), 14), .inr (0, (9, 0)))], none), [])
noncomputable def rxoCZ138x1_27_0 : bx_HO := (([(0, 0), (0, 0), (0, 0), (0, 0), (0, 0), (0, 0), (0, 0), (0, 0), (0, 5), (0, 1522), (0, 1522)], [], [(((9, 0), 1000007), .inl none), (((10, 0), 1000007), .inl none)], 0, 0, 226, [(2, .inr (0, (8, 1))), (0, .inr (3, (0, 138))), (1, .inr (3, (0, 1)))], []), [], [], [(0, 0), (0, 0), (0, 0), (0, 0), (0, 0), (0, 0), (0, 0), (0, 0), (8, 1)], 25)
noncomputable def rxYCZ138x1 : List bx_HE := [(rxzCZ138x1_0, [rxoCZ138x1_0_0], []), (rxzCZ138x1_1, [], []), (rxzCZ138x1_2, [rxoCZ138x1_2_0], []), (rxzCZ138x1_3, [], []), (rxzCZ138x1_4, [rxoCZ138x1_4_0], []), (rxzCZ138x1_5, [rxoCZ138x1_5_0, rxoCZ138x1_5_1], []), (rxzCZ138x1_6, [], []), (rxzCZ138x1_7, [rxoCZ138x1_7_0], []), (rxzCZ138x1_8, [], []), (rxzCZ138x1_9, [rxoCZ138x1_9_0], []), (rxzCZ138x1_10, [], []), (rxzCZ138x1_11, [rxoCZ138x1_11_0], []), (rxzCZ138x1_12, [], []), (rxzCZ138x1_13, [rxoCZ138x1_13_0], []), (rxzCZ138x1_14, [], []), (rxzCZ138x1_15, [rxoCZ138x1_15_0], []), (rxzCZ138x1_16, [rxoCZ138x1_16_0, rxoCZ138x1_16_1], []), (rxzCZ138x1_17, [], []), (rxzCZ138x1_18, [rxoCZ138x1_18_0], []), (rxzCZ138x1_19, [], []), (rxzCZ138x1_20, [rxoCZ138x1_20_0], []), (rxzCZ138x1_21, [], []), (rxzCZ138x1_22, [rxoCZ138x1_22_0], []), (rxzCZ138x1_23, [], []), (rxzCZ138x1_24, [rxoCZ138x1_24_0], []), (rxzCZ138x1_25, [rxoCZ138x1_25_0], [rxeCZ138x1_25_0]), (rxzCZ138x1_26, [], []), (rxzCZ138x1_27, [rxoCZ138x1_27_0], [])]
noncomputable def rxUCZ138x1 (q : bx_HE) : Bool := Nat.beq (rx_zpc q.1) 20 || Nat.beq (rx_zpc q.1) 35 || Nat.beq (rx_zpc q.1) 58 || Nat.beq (rx_zpc q.1) 75 || Nat.beq (rx_zpc q.1) 98 || Nat.beq (rx_zpc q.1) 113 || Nat.beq (rx_zpc q.1) 128 || Nat.beq (rx_zpc q.1) 151 || Nat.beq (rx_zpc q.1) 180 || Nat.beq (rx_zpc q.1) 191 || Nat.beq (rx_zpc q.1) 205 || Nat.beq (rx_zpc q.1) 252
noncomputable def rxYBCZ138x1 : bx_B := (rxV, rxNP, rxDmf, bx_mdH rxCCZ138x1.2.2.1)
set_option maxRecDepth 100000 in
theorem rxYcCZ138x1 : bx_chkH rxYBCZ138x1 rxM154 rxCCZ138x1 rxYCZ138x1 (rxUCZ138x1, fun cut z => rx_ex2 (rxCT rxYBCZ138x1 rxCnE) cut 30000 rxCCZ138x1.2.2.2.1 154 z) = true := by decide +kernel
noncomputable def rxICZ138x1 (S0 : Nat → Int → Int) (ws : List Int) (i : Nat) : bx_SP := fun S r => match i with | 0 => rxICZ138x1_0 S0 ws S | 1 => rxICZ138x1_1 S0 ws S | 2 => rxICZ138x1_2 S0 ws S | 3 => rxICZ138x1_3 S0 ws S | 4 => rxICZ138x1_4 S0 ws S | 5 => rxICZ138x1_5 S0 ws S (r 8) | 6 => rxICZ138x1_6 S0 ws S (r 8) (r 9) (r 10) | 7 => rxICZ138x1_7 S0 ws S (r 8) (r 9) (r 10) | 8 => rxICZ138x1_8 S0 ws S | 9 => rxICZ138x1_9 S0 ws S | 10 => rxICZ138x1_10 S0 ws S | 11 => rxICZ138x1_11 S0 ws S | 12 => rxICZ138x1_12 S0 ws S | 13 => rxICZ138x1_13 S0 ws S | 14 => rxICZ138x1_14 S0 ws S | 15 => rxICZ138x1_15 S0 ws S | 16 => rxICZ138x1_16 S0 ws S (r 8) | 17 => rxICZ138x1_17 S0 ws S (r 8) (r 9) (r 10) | 18 => rxICZ138x1_18 S0 ws S (r 8) (r 9) (r 10) | 19 => rxICZ138x1_19 S0 ws S | 20 => rxICZ138x1_20 S0 ws S | 21 => rxICZ138x1_21 S0 ws S | 22 => rxICZ138x1_22 S0 ws S | 23 => rxICZ138x1_23 S0 ws S | 24 => rxICZ138x1_24 S0 ws S | 25 => rxICZ138x1_25 S0 ws S (r 8) | 26 => rxICZ138x1_26 S0 ws S (r 8) (r 9) (r 10) | 27 => rxICZ138x1_27 S0 ws S (r 8) (r 9) (r 10) | _ => False
noncomputable def rxmCZ138x1 (S0 : Nat → Int → Int) (ws : List Int) (i : Nat) (S : Nat → Int → Int) (r : Nat → Int) : Nat := match i with | 0 => rxmCZ138x1_0 S0 ws S | 1 => rxmCZ138x1_1 S0 ws S | 2 => rxmCZ138x1_2 S0 ws S | 3 => rxmCZ138x1_3 S0 ws S | 4 => rxmCZ138x1_4 S0 ws S | 5 => rxmCZ138x1_5 S0 ws S (r 8) | 6 => rxmCZ138x1_6 S0 ws S (r 8) (r 9) (r 10) | 7 => rxmCZ138x1_7 S0 ws S (r 8) (r 9) (r 10) | 8 => rxmCZ138x1_8 S0 ws S | 9 => rxmCZ138x1_9 S0 ws S | 10 => rxmCZ138x1_10 S0 ws S | 11 => rxmCZ138x1_11 S0 ws S | 12 => rxmCZ138x1_12 S0 ws S | 13 => rxmCZ138x1_13 S0 ws S | 14 => rxmCZ138x1_14 S0 ws S | 15 => rxmCZ138x1_15 S0 ws S | 16 => rxmCZ138x1_16 S0 ws S (r 8) | 17 => rxmCZ138x1_17 S0 ws S (r 8) (r 9) (r 10) | 18 => rxmCZ138x1_18 S0 ws S (r 8) (r 9) (r 10) | 19 => rxmCZ138x1_19 S0 ws S | 20 => rxmCZ138x1_20 S0 ws S | 21 => rxmCZ138x1_21 S0 ws S | 22 => rxmCZ138x1_22 S0 ws S | 23 => rxmCZ138x1_23 S0 ws S | 24 => rxmCZ138x1_24 S0 ws S | 25 => rxmCZ138x1_25 S0 ws S (r 8) | 26 => rxmCZ138x1_26 S0 ws S (r 8) (r 9) (r 10) | 27 => rxmCZ138x1_27 S0 ws S (r 8) (r 9) (r 10) | _ => 0
noncomputable def rxPCZ138x1 (S0 : Nat → Int → Int) (ws : List Int) : Prop := rkPl S0
noncomputable def rxPSCZ138x1 (S0 : Nat → Int → Int) (ws : List Int) (S : Nat → Int → Int) (w : Option Int) : Prop := w = none ∧ S 138 0 = S0 1 0 ∧ (∀ i : Nat, i < 6 → S 139 (i : Int) = S0 2 (i : Int)) ∧ (∀ i : Nat, i < 6 → S 140 (i : Int) = S0 3 (i : Int)) ∧ S 142 0 = S0 5 0 ∧ (∀ i : Nat, i < 8 → S 143 (i : Int) = S0 6 (i : Int)) ∧ (∀ i : Nat, i < 8 → S 144 (i : Int) = S0 7 (i : Int)) ∧ (∀ i : Nat, i < 8 → S 145 (i : Int) = S0 8 (i : Int)) ∧ S 138 5 = S0 1 5 ∧ (∀ i : Nat, i < 12 → S 146 (i : Int) = S0 9 (i : Int)) ∧ (∀ i : Nat, i < 12 → S 147 (i : Int) = S0 10 (i : Int)) ∧ (∀ i : Nat, i < 12 → S 148 (i : Int) = S0 11 (i : Int)) ∧ S 138 10 = S0 1 10 ∧ (∀ i : Nat, i < 12 → S 150 (i : Int) = S0 13 (i : Int)) ∧ S 151 0 = S0 14 0 ∧ (∀ i : Nat, i < 12 → S 152 (i : Int) = S0 15 (i : Int)) ∧ (∀ i : Nat, i < 12 → S 153 (i : Int) = S0 16 (i : Int)) ∧ (∀ i : Nat, i < 12 → S 154 (i : Int) = S0 17 (i : Int)) ∧ (∀ i : Nat, i < 3 → S 156 (i : Int) = S0 19 (i : Int)) ∧ S 138 14 = S0 1 14 ∧ S 138 15 = S0 1 15 ∧ (∀ p i : Nat, p ∈ rxFl138 → i < bx_wd (rxL.1 p) → S p (i : Int) = S0 p (i : Int)) ∧ rkWt4 S0 S 160 23 6 12 (S0 1 14)
theorem rxtCZ138x1_1 {S0 : Nat → Int → Int} {ws : List Int} {S : Nat → Int → Int} (hP : rxPCZ138x1 S0 ws) (hin : bx_same rxL (bx_mdl rxCCZ138x1.2.2.1) S0 S) (I0 : bx_Inv rxL S) (hinv : rxICZ138x1_1 S0 ws S)  : rxICZ138x1_2 S0 ws (bx_cpS S 2 139 6) ∧ rxmCZ138x1_2 S0 ws (bx_cpS S 2 139 6) < rxmCZ138x1_1 S0 ws S := by
  obtain ⟨h0, hf, hW⟩ := hinv
  refine ⟨⟨?_, ?_, ?_, ?_⟩, by unfold rxmCZ138x1_1 rxmCZ138x1_2; omega⟩
  · exact (bx_cpS_ne (by decide)).trans h0
  · exact fun i hi => (bx_cpS_in (by omega) (by omega)).trans (hf 2 i (by decide) (show i < 6 from hi))
  · exact fun p i hp hi => (bx_cpS_ne (fun e => by subst e; revert hp; decide)).trans (hf p i hp hi)
  · exact rkWt4_ne (by unfold rkTb; omega) hW (fun p j hp => by have hp : (23 ≤ p ∧ p < 137) ∨ (160 ≤ p ∧ p < 274) ∨ (296 ≤ p ∧ p < 410) := hp; exact bx_cpS_ne (by omega))
theorem rxsCZ138x1_1 {X : (Nat → Int → Int) → Prop} {S0 : Nat → Int → Int} {ws : List Int} (hP : rxPCZ138x1 S0 ws) (hX : ∀ S S1 : Nat → Int → Int, X S → bx_same rxL (bx_mdl rxCCZ138x1.2.2.1) S S1 → X S1) : rx_obY X S0 rxCCZ138x1.2.2.1 (rxICZ138x1 S0 ws) (rxmCZ138x1 S0 ws) 1 2 rxzCZ138x1_1 2 139 6 := by
  intro S r hinv hXS I0 hin hs_ hf_
  have b_ := bx_bds_sat hs_
  have f_ := bx_fcl_ok hs_.1 hf_
  have g := rxtCZ138x1_1 hP hin I0 hinv 
  exact ⟨g.1, g.2, hX _ _ hXS (rx_same_cp (fun _ _ _ _ _ => rfl) (g1 := 0) rfl (by decide +kernel)), rx_same_cp hin (g1 := 0) rfl (by decide +kernel)⟩
theorem rxtCZ138x1_3 {S0 : Nat → Int → Int} {ws : List Int} {S : Nat → Int → Int} (hP : rxPCZ138x1 S0 ws) (hin : bx_same rxL (bx_mdl rxCCZ138x1.2.2.1) S0 S) (I0 : bx_Inv rxL S) (hinv : rxICZ138x1_3 S0 ws S)  : rxICZ138x1_4 S0 ws (bx_cpS S 3 140 6) ∧ rxmCZ138x1_4 S0 ws (bx_cpS S 3 140 6) < rxmCZ138x1_3 S0 ws S := by
  obtain ⟨h0, h1, hf, hW⟩ := hinv
  refine ⟨⟨?_, ?_, ?_, ?_, ?_⟩, by unfold rxmCZ138x1_3 rxmCZ138x1_4; omega⟩
  · exact (bx_cpS_ne (by decide)).trans h0
  · exact fun i hi => (bx_cpS_ne (by decide)).trans (h1 i hi)
  · exact fun i hi => (bx_cpS_in (by omega) (by omega)).trans (hf 3 i (by decide) (show i < 6 from hi))
  · exact fun p i hp hi => (bx_cpS_ne (fun e => by subst e; revert hp; decide)).trans (hf p i hp hi)
  · exact rkWt4_ne (by unfold rkTb; omega) hW (fun p j hp => by have hp : (23 ≤ p ∧ p < 137) ∨ (160 ≤ p ∧ p < 274) ∨ (296 ≤ p ∧ p < 410) := hp; exact bx_cpS_ne (by omega))
theorem rxsCZ138x1_3 {X : (Nat → Int → Int) → Prop} {S0 : Nat → Int → Int} {ws : List Int} (hP : rxPCZ138x1 S0 ws) (hX : ∀ S S1 : Nat → Int → Int, X S → bx_same rxL (bx_mdl rxCCZ138x1.2.2.1) S S1 → X S1) : rx_obY X S0 rxCCZ138x1.2.2.1 (rxICZ138x1 S0 ws) (rxmCZ138x1 S0 ws) 3 4 rxzCZ138x1_3 3 140 6 := by
  intro S r hinv hXS I0 hin hs_ hf_
  have b_ := bx_bds_sat hs_
  have f_ := bx_fcl_ok hs_.1 hf_
  have g := rxtCZ138x1_3 hP hin I0 hinv 
  exact ⟨g.1, g.2, hX _ _ hXS (rx_same_cp (fun _ _ _ _ _ => rfl) (g1 := 1) rfl (by decide +kernel)), rx_same_cp hin (g1 := 1) rfl (by decide +kernel)⟩
theorem rxkCZ138x1_6 {S0 : Nat → Int → Int} {ws : List Int} {S : Nat → Int → Int} {i rp rq : Int} (hP : rxPCZ138x1 S0 ws) (hin : bx_same rxL (bx_mdl rxCCZ138x1.2.2.1) S0 S) (I0 : bx_Inv rxL S) (hinv : rxICZ138x1_6 S0 ws S i rp rq) (l8 : 0 ≤ i) (u8 : i ≤ 5) (l9 : 0 ≤ rp) (u9 : rp ≤ 1522) (l10 : 0 ≤ rq) (u10 : rq ≤ 1522) : rxPSCZ S [rp, rq] ∧ ∀ (S_p : Nat → Int → Int), rxPSSCZ S [rp, rq] S_p none → bx_Inv rxL S_p → bx_same rxL (bx_mdl rxCSCZ.2.2.1) S S_p → rxICZ138x1_7 S0 ws S_p i rp rq ∧ rxmCZ138x1_7 S0 ws S_p i rp rq < rxmCZ138x1_6 S0 ws S i rp rq := by
  obtain ⟨hrp, hrq, h0, h1, h2, hf, hW⟩ := hinv
  have hpl := rkPl_sm hin (by decide +kernel) hP
  have gb := (hpl.2.2.1.1 i.toNat (by omega)).2
  have gs := (hpl.2.1.1 i.toNat (by omega)).2
  refine ⟨⟨160 + 3 * i.toNat, 23 + 3 * i.toNat, by rw [hrp, hrq], ⟨(by
      have g := rkSg_t (tb := 160) (k := i.toNat) (by unfold rkTb; omega) (by omega)
      rw [show 160 + 3 * (i.toNat) = 160 + 3 * i.toNat by omega] at g
      exact g), (by
      have g := rkSg_t (tb := 23) (k := i.toNat) (by unfold rkTb; omega) (by omega)
      rw [show 23 + 3 * (i.toNat) = 23 + 3 * i.toNat by omega] at g
      exact g), by omega⟩, gs, gb⟩, fun S_p hq _ hsm => ?_⟩
  have q := hq.2 (160 + 3 * i.toNat) (23 + 3 * i.toNat) (by rw [hrp, hrq])
  have e : ∀ (p : Nat) (j : Int), ¬ rkRgn p → S_p p j = S p j := rkSc_o q (tb := 160) (by unfold rkTb; omega) (by omega) (by omega)
  refine ⟨⟨(e _ _ (by unfold rkRgn; omega)).trans h0, fun n hn => (e _ _ (by unfold rkRgn; omega)).trans (h1 n hn), fun n hn => (e _ _ (by unfold rkRgn; omega)).trans (h2 n hn), fun p n hp hi => (e p n (rkNum_n (rxFl138_in p hp))).trans (hf p n hp hi), ?_⟩, by unfold rxmCZ138x1_6 rxmCZ138x1_7; omega⟩
  have ei : ((i.toNat : Nat) : Int) = i := Int.toNat_of_nonneg (by omega)
  have hW_p : rkWt4 S0 S 160 23 ((i.toNat : Nat) : Int) 0 0 := by rw [ei]; exact hW
  have g := rkWt4_a (by unfold rkTb; omega) (by unfold rkTb; omega) (by decide) (by omega) hW_p q
  rw [ei] at g
  exact g
theorem rxsCZ138x1_6 {X : (Nat → Int → Int) → Prop} {S0 : Nat → Int → Int} {ws : List Int} (hP : rxPCZ138x1 S0 ws) : rx_obK X S0 rxCCZ138x1.2.2.1 rxCSCZ.2.2.1 (rxICZ138x1 S0 ws) (rxmCZ138x1 S0 ws) 6 7 rxzCZ138x1_6 rxzCZ138x1_7 [.inr (3, (9, 0)), .inr (3, (10, 0))] none rxPSCZ rxPSSCZ := by
  intro S r hinv hXS I0 hin hs_ hf_
  have b_ := bx_bds_sat hs_
  have f_ := bx_fcl_ok hs_.1 hf_
  obtain ⟨⟨l8, u8⟩, ⟨l9, u9⟩, ⟨l10, u10⟩, -⟩ := b_
  have g := rxkCZ138x1_6 hP hin I0 hinv l8 u8 l9 u9 l10 u10
  have ea : List.map (bx_num r) [.inr (3, (9, 0)), .inr (3, (10, 0))] = [(r 9), (r 10)] := by
    simp only [List.map_cons, List.map_nil, bx_xv_ok hs_.1]
    rfl
  rw [ea]
  refine ⟨g.1, fun S_p w r_p hPS hX_p I1 hsm hr hw hs_p => ?_⟩
  have hw : w = none := hPS.1
  subst hw
  have g2 := g.2 S_p hPS I1 hsm
  show rxICZ138x1_7 S0 ws S_p (r_p 8) (r_p 9) (r_p 10) ∧ rxmCZ138x1_7 S0 ws S_p (r_p 8) (r_p 9) (r_p 10) < _
  rw [hr 8 (by decide), hr 9 (by decide), hr 10 (by decide)]
  exact g2
theorem rxkCZ138x1_8 {S0 : Nat → Int → Int} {ws : List Int} {S : Nat → Int → Int} (hP : rxPCZ138x1 S0 ws) (hin : bx_same rxL (bx_mdl rxCCZ138x1.2.2.1) S0 S) (I0 : bx_Inv rxL S) (hinv : rxICZ138x1_8 S0 ws S)  : rxPPC142x5 S [142, 5] ∧ ∀ (S_p : Nat → Int → Int), rxPSPC142x5 S [142, 5] S_p none → bx_Inv rxL S_p → bx_same rxL (bx_mdl rxCPC142x5.2.2.1) S S_p → rxICZ138x1_9 S0 ws S_p ∧ rxmCZ138x1_9 S0 ws S_p < rxmCZ138x1_8 S0 ws S := by
  obtain ⟨h0, h1, h2, hf, hW⟩ := hinv
  refine ⟨trivial, fun S_p hq _ hsm => ⟨⟨?_, ?_, ?_, ?_, ?_, ?_, ?_, ?_, ?_⟩, by unfold rxmCZ138x1_8 rxmCZ138x1_9; omega⟩⟩
  all_goals obtain ⟨-, q0, q1, q2, q3, qf⟩ := hq
  · exact (qf _ _ (by decide) (by decide) (by decide) (by decide)).trans h0
  · exact fun i hi => (qf _ _ (by decide) (by decide) (by decide) (by decide)).trans (h1 i hi)
  · exact fun i hi => (qf _ _ (by decide) (by decide) (by decide) (by decide)).trans (h2 i hi)
  · exact q0.trans (hf 5 0 (by decide) (by decide))
  · exact fun i hi => (q1 i (by omega) (by omega)).trans (hf 6 i (by decide) (show i < 8 from hi))
  · exact fun i hi => (q2 i (by omega) (by omega)).trans (hf 7 i (by decide) (show i < 8 from hi))
  · exact fun i hi => (q3 i (by omega) (by omega)).trans (hf 8 i (by decide) (show i < 8 from hi))
  · exact fun p i hp hi => (qf p i (fun e => by subst e; revert hp; decide) (fun e => by subst e; revert hp; decide) (fun e => by subst e; revert hp; decide) (fun e => by subst e; revert hp; decide)).trans (hf p i hp hi)
  · exact rkWt4_ne (by unfold rkTb; omega) hW (fun p j hp => by have hp : (23 ≤ p ∧ p < 137) ∨ (160 ≤ p ∧ p < 274) ∨ (296 ≤ p ∧ p < 410) := hp; exact qf p j (by omega) (by omega) (by omega) (by omega))
theorem rxsCZ138x1_8 {X : (Nat → Int → Int) → Prop} {S0 : Nat → Int → Int} {ws : List Int} (hP : rxPCZ138x1 S0 ws) : rx_obK X S0 rxCCZ138x1.2.2.1 rxCPC142x5.2.2.1 (rxICZ138x1 S0 ws) (rxmCZ138x1 S0 ws) 8 9 rxzCZ138x1_8 rxzCZ138x1_9 [.inr (3, (0, 142)), .inr (3, (0, 5))] none rxPPC142x5 rxPSPC142x5 := by
  intro S r hinv hXS I0 hin hs_ hf_
  have b_ := bx_bds_sat hs_
  have f_ := bx_fcl_ok hs_.1 hf_
  have g := rxkCZ138x1_8 hP hin I0 hinv 
  have ea : List.map (bx_num r) [.inr (3, (0, 142)), .inr (3, (0, 5))] = [142, 5] := by
    simp only [List.map_cons, List.map_nil, bx_xv_ok hs_.1]
    rfl
  rw [ea]
  refine ⟨g.1, fun S_p w r_p hPS hX_p I1 hsm hr hw hs_p => ?_⟩
  have hw : w = none := hPS.1
  subst hw
  have g2 := g.2 S_p hPS I1 hsm
  show rxICZ138x1_9 S0 ws S_p ∧ rxmCZ138x1_9 S0 ws S_p < _
  exact g2
theorem rxtCZ138x1_10 {S0 : Nat → Int → Int} {ws : List Int} {S : Nat → Int → Int} (hP : rxPCZ138x1 S0 ws) (hin : bx_same rxL (bx_mdl rxCCZ138x1.2.2.1) S0 S) (I0 : bx_Inv rxL S) (hinv : rxICZ138x1_10 S0 ws S)  : rxICZ138x1_11 S0 ws (bx_cpS S 9 146 12) ∧ rxmCZ138x1_11 S0 ws (bx_cpS S 9 146 12) < rxmCZ138x1_10 S0 ws S := by
  obtain ⟨h0, h1, h2, h3, h4, h5, h6, h7, hf, hW⟩ := hinv
  refine ⟨⟨?_, ?_, ?_, ?_, ?_, ?_, ?_, ?_, ?_, ?_, ?_⟩, by unfold rxmCZ138x1_10 rxmCZ138x1_11; omega⟩
  · exact (bx_cpS_ne (by decide)).trans h0
  · exact fun i hi => (bx_cpS_ne (by decide)).trans (h1 i hi)
  · exact fun i hi => (bx_cpS_ne (by decide)).trans (h2 i hi)
  · exact (bx_cpS_ne (by decide)).trans h3
  · exact fun i hi => (bx_cpS_ne (by decide)).trans (h4 i hi)
  · exact fun i hi => (bx_cpS_ne (by decide)).trans (h5 i hi)
  · exact fun i hi => (bx_cpS_ne (by decide)).trans (h6 i hi)
  · exact (bx_cpS_ne (by decide)).trans h7
  · exact fun i hi => (bx_cpS_in (by omega) (by omega)).trans (hf 9 i (by decide) (show i < 12 from hi))
  · exact fun p i hp hi => (bx_cpS_ne (fun e => by subst e; revert hp; decide)).trans (hf p i hp hi)
  · exact rkWt4_ne (by unfold rkTb; omega) hW (fun p j hp => by have hp : (23 ≤ p ∧ p < 137) ∨ (160 ≤ p ∧ p < 274) ∨ (296 ≤ p ∧ p < 410) := hp; exact bx_cpS_ne (by omega))
theorem rxsCZ138x1_10 {X : (Nat → Int → Int) → Prop} {S0 : Nat → Int → Int} {ws : List Int} (hP : rxPCZ138x1 S0 ws) (hX : ∀ S S1 : Nat → Int → Int, X S → bx_same rxL (bx_mdl rxCCZ138x1.2.2.1) S S1 → X S1) : rx_obY X S0 rxCCZ138x1.2.2.1 (rxICZ138x1 S0 ws) (rxmCZ138x1 S0 ws) 10 11 rxzCZ138x1_10 9 146 12 := by
  intro S r hinv hXS I0 hin hs_ hf_
  have b_ := bx_bds_sat hs_
  have f_ := bx_fcl_ok hs_.1 hf_
  have g := rxtCZ138x1_10 hP hin I0 hinv 
  exact ⟨g.1, g.2, hX _ _ hXS (rx_same_cp (fun _ _ _ _ _ => rfl) (g1 := 6) rfl (by decide +kernel)), rx_same_cp hin (g1 := 6) rfl (by decide +kernel)⟩
theorem rxtCZ138x1_12 {S0 : Nat → Int → Int} {ws : List Int} {S : Nat → Int → Int} (hP : rxPCZ138x1 S0 ws) (hin : bx_same rxL (bx_mdl rxCCZ138x1.2.2.1) S0 S) (I0 : bx_Inv rxL S) (hinv : rxICZ138x1_12 S0 ws S)  : rxICZ138x1_13 S0 ws (bx_cpS S 10 147 12) ∧ rxmCZ138x1_13 S0 ws (bx_cpS S 10 147 12) < rxmCZ138x1_12 S0 ws S := by
  obtain ⟨h0, h1, h2, h3, h4, h5, h6, h7, h8, hf, hW⟩ := hinv
  refine ⟨⟨?_, ?_, ?_, ?_, ?_, ?_, ?_, ?_, ?_, ?_, ?_, ?_⟩, by unfold rxmCZ138x1_12 rxmCZ138x1_13; omega⟩
  · exact (bx_cpS_ne (by decide)).trans h0
  · exact fun i hi => (bx_cpS_ne (by decide)).trans (h1 i hi)
  · exact fun i hi => (bx_cpS_ne (by decide)).trans (h2 i hi)
  · exact (bx_cpS_ne (by decide)).trans h3
  · exact fun i hi => (bx_cpS_ne (by decide)).trans (h4 i hi)
  · exact fun i hi => (bx_cpS_ne (by decide)).trans (h5 i hi)
  · exact fun i hi => (bx_cpS_ne (by decide)).trans (h6 i hi)
  · exact (bx_cpS_ne (by decide)).trans h7
  · exact fun i hi => (bx_cpS_ne (by decide)).trans (h8 i hi)
  · exact fun i hi => (bx_cpS_in (by omega) (by omega)).trans (hf 10 i (by decide) (show i < 12 from hi))
  · exact fun p i hp hi => (bx_cpS_ne (fun e => by subst e; revert hp; decide)).trans (hf p i hp hi)
  · exact rkWt4_ne (by unfold rkTb; omega) hW (fun p j hp => by have hp : (23 ≤ p ∧ p < 137) ∨ (160 ≤ p ∧ p < 274) ∨ (296 ≤ p ∧ p < 410) := hp; exact bx_cpS_ne (by omega))
theorem rxsCZ138x1_12 {X : (Nat → Int → Int) → Prop} {S0 : Nat → Int → Int} {ws : List Int} (hP : rxPCZ138x1 S0 ws) (hX : ∀ S S1 : Nat → Int → Int, X S → bx_same rxL (bx_mdl rxCCZ138x1.2.2.1) S S1 → X S1) : rx_obY X S0 rxCCZ138x1.2.2.1 (rxICZ138x1 S0 ws) (rxmCZ138x1 S0 ws) 12 13 rxzCZ138x1_12 10 147 12 := by
  intro S r hinv hXS I0 hin hs_ hf_
  have b_ := bx_bds_sat hs_
  have f_ := bx_fcl_ok hs_.1 hf_
  have g := rxtCZ138x1_12 hP hin I0 hinv 
  exact ⟨g.1, g.2, hX _ _ hXS (rx_same_cp (fun _ _ _ _ _ => rfl) (g1 := 7) rfl (by decide +kernel)), rx_same_cp hin (g1 := 7) rfl (by decide +kernel)⟩
theorem rxtCZ138x1_14 {S0 : Nat → Int → Int} {ws : List Int} {S : Nat → Int → Int} (hP : rxPCZ138x1 S0 ws) (hin : bx_same rxL (bx_mdl rxCCZ138x1.2.2.1) S0 S) (I0 : bx_Inv rxL S) (hinv : rxICZ138x1_14 S0 ws S)  : rxICZ138x1_15 S0 ws (bx_cpS S 11 148 12) ∧ rxmCZ138x1_15 S0 ws (bx_cpS S 11 148 12) < rxmCZ138x1_14 S0 ws S := by
  obtain ⟨h0, h1, h2, h3, h4, h5, h6, h7, h8, h9, hf, hW⟩ := hinv
  refine ⟨⟨?_, ?_, ?_, ?_, ?_, ?_, ?_, ?_, ?_, ?_, ?_, ?_, ?_⟩, by unfold rxmCZ138x1_14 rxmCZ138x1_15; omega⟩
  · exact (bx_cpS_ne (by decide)).trans h0
  · exact fun i hi => (bx_cpS_ne (by decide)).trans (h1 i hi)
  · exact fun i hi => (bx_cpS_ne (by decide)).trans (h2 i hi)
  · exact (bx_cpS_ne (by decide)).trans h3
  · exact fun i hi => (bx_cpS_ne (by decide)).trans (h4 i hi)
  · exact fun i hi => (bx_cpS_ne (by decide)).trans (h5 i hi)
  · exact fun i hi => (bx_cpS_ne (by decide)).trans (h6 i hi)
  · exact (bx_cpS_ne (by decide)).trans h7
  · exact fun i hi => (bx_cpS_ne (by decide)).trans (h8 i hi)
  · exact fun i hi => (bx_cpS_ne (by decide)).trans (h9 i hi)
  · exact fun i hi => (bx_cpS_in (by omega) (by omega)).trans (hf 11 i (by decide) (show i < 12 from hi))
  · exact fun p i hp hi => (bx_cpS_ne (fun e => by subst e; revert hp; decide)).trans (hf p i hp hi)
  · exact rkWt4_ne (by unfold rkTb; omega) hW (fun p j hp => by have hp : (23 ≤ p ∧ p < 137) ∨ (160 ≤ p ∧ p < 274) ∨ (296 ≤ p ∧ p < 410) := hp; exact bx_cpS_ne (by omega))
theorem rxsCZ138x1_14 {X : (Nat → Int → Int) → Prop} {S0 : Nat → Int → Int} {ws : List Int} (hP : rxPCZ138x1 S0 ws) (hX : ∀ S S1 : Nat → Int → Int, X S → bx_same rxL (bx_mdl rxCCZ138x1.2.2.1) S S1 → X S1) : rx_obY X S0 rxCCZ138x1.2.2.1 (rxICZ138x1 S0 ws) (rxmCZ138x1 S0 ws) 14 15 rxzCZ138x1_14 11 148 12 := by
  intro S r hinv hXS I0 hin hs_ hf_
  have b_ := bx_bds_sat hs_
  have f_ := bx_fcl_ok hs_.1 hf_
  have g := rxtCZ138x1_14 hP hin I0 hinv 
  exact ⟨g.1, g.2, hX _ _ hXS (rx_same_cp (fun _ _ _ _ _ => rfl) (g1 := 8) rfl (by decide +kernel)), rx_same_cp hin (g1 := 8) rfl (by decide +kernel)⟩
theorem rxkCZ138x1_17 {S0 : Nat → Int → Int} {ws : List Int} {S : Nat → Int → Int} {i rp rq : Int} (hP : rxPCZ138x1 S0 ws) (hin : bx_same rxL (bx_mdl rxCCZ138x1.2.2.1) S0 S) (I0 : bx_Inv rxL S) (hinv : rxICZ138x1_17 S0 ws S i rp rq) (l8 : 0 ≤ i) (u8 : i ≤ 11) (l9 : 0 ≤ rp) (u9 : rp ≤ 1522) (l10 : 0 ≤ rq) (u10 : rq ≤ 1522) : rxPSCZ S [rp, rq] ∧ ∀ (S_p : Nat → Int → Int), rxPSSCZ S [rp, rq] S_p none → bx_Inv rxL S_p → bx_same rxL (bx_mdl rxCSCZ.2.2.1) S S_p → rxICZ138x1_18 S0 ws S_p i rp rq ∧ rxmCZ138x1_18 S0 ws S_p i rp rq < rxmCZ138x1_17 S0 ws S i rp rq := by
  obtain ⟨hrp, hrq, h0, h1, h2, h3, h4, h5, h6, h7, h8, h9, h10, hf, hW⟩ := hinv
  have hpl := rkPl_sm hin (by decide +kernel) hP
  have gb := (hpl.2.2.1.2 i.toNat (by omega)).2
  have gs := (hpl.2.1.2 i.toNat (by omega)).2
  refine ⟨⟨178 + 3 * i.toNat, 41 + 3 * i.toNat, by rw [hrp, hrq], ⟨(by
      have g := rkSg_t (tb := 160) (k := 6 + i.toNat) (by unfold rkTb; omega) (by omega)
      rw [show 160 + 3 * (6 + i.toNat) = 178 + 3 * i.toNat by omega] at g
      exact g), (by
      have g := rkSg_t (tb := 23) (k := 6 + i.toNat) (by unfold rkTb; omega) (by omega)
      rw [show 23 + 3 * (6 + i.toNat) = 41 + 3 * i.toNat by omega] at g
      exact g), by omega⟩, gs, gb⟩, fun S_p hq _ hsm => ?_⟩
  have q := hq.2 (178 + 3 * i.toNat) (41 + 3 * i.toNat) (by rw [hrp, hrq])
  have e : ∀ (p : Nat) (j : Int), ¬ rkRgn p → S_p p j = S p j := rkSc_o q (tb := 160) (by unfold rkTb; omega) (by omega) (by omega)
  refine ⟨⟨(e _ _ (by unfold rkRgn; omega)).trans h0, fun n hn => (e _ _ (by unfold rkRgn; omega)).trans (h1 n hn), fun n hn => (e _ _ (by unfold rkRgn; omega)).trans (h2 n hn), (e _ _ (by unfold rkRgn; omega)).trans h3, fun n hn => (e _ _ (by unfold rkRgn; omega)).trans (h4 n hn), fun n hn => (e _ _ (by unfold rkRgn; omega)).trans (h5 n hn), fun n hn => (e _ _ (by unfold rkRgn; omega)).trans (h6 n hn), (e _ _ (by unfold rkRgn; omega)).trans h7, fun n hn => (e _ _ (by unfold rkRgn; omega)).trans (h8 n hn), fun n hn => (e _ _ (by unfold rkRgn; omega)).trans (h9 n hn), fun n hn => (e _ _ (by unfold rkRgn; omega)).trans (h10 n hn), fun p n hp hi => (e p n (rkNum_n (rxFl138_in p hp))).trans (hf p n hp hi), ?_⟩, by unfold rxmCZ138x1_17 rxmCZ138x1_18; omega⟩
  have ei : ((i.toNat : Nat) : Int) = i := Int.toNat_of_nonneg (by omega)
  have hW_p : rkWt4 S0 S 160 23 6 ((i.toNat : Nat) : Int) 0 := by rw [ei]; exact hW
  have g := rkWt4_v (by unfold rkTb; omega) (by unfold rkTb; omega) (by decide) (by omega) hW_p q
  rw [ei] at g
  exact g
theorem rxsCZ138x1_17 {X : (Nat → Int → Int) → Prop} {S0 : Nat → Int → Int} {ws : List Int} (hP : rxPCZ138x1 S0 ws) : rx_obK X S0 rxCCZ138x1.2.2.1 rxCSCZ.2.2.1 (rxICZ138x1 S0 ws) (rxmCZ138x1 S0 ws) 17 18 rxzCZ138x1_17 rxzCZ138x1_18 [.inr (3, (9, 0)), .inr (3, (10, 0))] none rxPSCZ rxPSSCZ := by
  intro S r hinv hXS I0 hin hs_ hf_
  have b_ := bx_bds_sat hs_
  have f_ := bx_fcl_ok hs_.1 hf_
  obtain ⟨⟨l8, u8⟩, ⟨l9, u9⟩, ⟨l10, u10⟩, -⟩ := b_
  have g := rxkCZ138x1_17 hP hin I0 hinv l8 u8 l9 u9 l10 u10
  have ea : List.map (bx_num r) [.inr (3, (9, 0)), .inr (3, (10, 0))] = [(r 9), (r 10)] := by
    simp only [List.map_cons, List.map_nil, bx_xv_ok hs_.1]
    rfl
  rw [ea]
  refine ⟨g.1, fun S_p w r_p hPS hX_p I1 hsm hr hw hs_p => ?_⟩
  have hw : w = none := hPS.1
  subst hw
  have g2 := g.2 S_p hPS I1 hsm
  show rxICZ138x1_18 S0 ws S_p (r_p 8) (r_p 9) (r_p 10) ∧ rxmCZ138x1_18 S0 ws S_p (r_p 8) (r_p 9) (r_p 10) < _
  rw [hr 8 (by decide), hr 9 (by decide), hr 10 (by decide)]
  exact g2
theorem rxtCZ138x1_19 {S0 : Nat → Int → Int} {ws : List Int} {S : Nat → Int → Int} (hP : rxPCZ138x1 S0 ws) (hin : bx_same rxL (bx_mdl rxCCZ138x1.2.2.1) S0 S) (I0 : bx_Inv rxL S) (hinv : rxICZ138x1_19 S0 ws S)  : rxICZ138x1_20 S0 ws (bx_cpS S 13 150 12) ∧ rxmCZ138x1_20 S0 ws (bx_cpS S 13 150 12) < rxmCZ138x1_19 S0 ws S := by
  obtain ⟨h0, h1, h2, h3, h4, h5, h6, h7, h8, h9, h10, h11, hf, hW⟩ := hinv
  refine ⟨⟨?_, ?_, ?_, ?_, ?_, ?_, ?_, ?_, ?_, ?_, ?_, ?_, ?_, ?_, ?_⟩, by unfold rxmCZ138x1_19 rxmCZ138x1_20; omega⟩
  · exact (bx_cpS_ne (by decide)).trans h0
  · exact fun i hi => (bx_cpS_ne (by decide)).trans (h1 i hi)
  · exact fun i hi => (bx_cpS_ne (by decide)).trans (h2 i hi)
  · exact (bx_cpS_ne (by decide)).trans h3
  · exact fun i hi => (bx_cpS_ne (by decide)).trans (h4 i hi)
  · exact fun i hi => (bx_cpS_ne (by decide)).trans (h5 i hi)
  · exact fun i hi => (bx_cpS_ne (by decide)).trans (h6 i hi)
  · exact (bx_cpS_ne (by decide)).trans h7
  · exact fun i hi => (bx_cpS_ne (by decide)).trans (h8 i hi)
  · exact fun i hi => (bx_cpS_ne (by decide)).trans (h9 i hi)
  · exact fun i hi => (bx_cpS_ne (by decide)).trans (h10 i hi)
  · exact (bx_cpS_ne (by decide)).trans h11
  · exact fun i hi => (bx_cpS_in (by omega) (by omega)).trans (hf 13 i (by decide) (show i < 12 from hi))
  · exact fun p i hp hi => (bx_cpS_ne (fun e => by subst e; revert hp; decide)).trans (hf p i hp hi)
  · exact rkWt4_ne (by unfold rkTb; omega) hW (fun p j hp => by have hp : (23 ≤ p ∧ p < 137) ∨ (160 ≤ p ∧ p < 274) ∨ (296 ≤ p ∧ p < 410) := hp; exact bx_cpS_ne (by omega))
theorem rxsCZ138x1_19 {X : (Nat → Int → Int) → Prop} {S0 : Nat → Int → Int} {ws : List Int} (hP : rxPCZ138x1 S0 ws) (hX : ∀ S S1 : Nat → Int → Int, X S → bx_same rxL (bx_mdl rxCCZ138x1.2.2.1) S S1 → X S1) : rx_obY X S0 rxCCZ138x1.2.2.1 (rxICZ138x1 S0 ws) (rxmCZ138x1 S0 ws) 19 20 rxzCZ138x1_19 13 150 12 := by
  intro S r hinv hXS I0 hin hs_ hf_
  have b_ := bx_bds_sat hs_
  have f_ := bx_fcl_ok hs_.1 hf_
  have g := rxtCZ138x1_19 hP hin I0 hinv 
  exact ⟨g.1, g.2, hX _ _ hXS (rx_same_cp (fun _ _ _ _ _ => rfl) (g1 := 10) rfl (by decide +kernel)), rx_same_cp hin (g1 := 10) rfl (by decide +kernel)⟩
theorem rxkCZ138x1_21 {S0 : Nat → Int → Int} {ws : List Int} {S : Nat → Int → Int} (hP : rxPCZ138x1 S0 ws) (hin : bx_same rxL (bx_mdl rxCCZ138x1.2.2.1) S0 S) (I0 : bx_Inv rxL S) (hinv : rxICZ138x1_21 S0 ws S)  : rxPDC151x14 S [151, 14] ∧ ∀ (S_p : Nat → Int → Int), rxPSDC151x14 S [151, 14] S_p none → bx_Inv rxL S_p → bx_same rxL (bx_mdl rxCDC151x14.2.2.1) S S_p → rxICZ138x1_22 S0 ws S_p ∧ rxmCZ138x1_22 S0 ws S_p < rxmCZ138x1_21 S0 ws S := by
  obtain ⟨h0, h1, h2, h3, h4, h5, h6, h7, h8, h9, h10, h11, h12, hf, hW⟩ := hinv
  refine ⟨trivial, fun S_p hq _ hsm => ⟨⟨?_, ?_, ?_, ?_, ?_, ?_, ?_, ?_, ?_, ?_, ?_, ?_, ?_, ?_, ?_, ?_, ?_, ?_, ?_⟩, by unfold rxmCZ138x1_21 rxmCZ138x1_22; omega⟩⟩
  all_goals obtain ⟨-, q0, q1, q2, q3, qf⟩ := hq
  · exact (qf _ _ (by decide) (by decide) (by decide) (by decide)).trans h0
  · exact fun i hi => (qf _ _ (by decide) (by decide) (by decide) (by decide)).trans (h1 i hi)
  · exact fun i hi => (qf _ _ (by decide) (by decide) (by decide) (by decide)).trans (h2 i hi)
  · exact (qf _ _ (by decide) (by decide) (by decide) (by decide)).trans h3
  · exact fun i hi => (qf _ _ (by decide) (by decide) (by decide) (by decide)).trans (h4 i hi)
  · exact fun i hi => (qf _ _ (by decide) (by decide) (by decide) (by decide)).trans (h5 i hi)
  · exact fun i hi => (qf _ _ (by decide) (by decide) (by decide) (by decide)).trans (h6 i hi)
  · exact (qf _ _ (by decide) (by decide) (by decide) (by decide)).trans h7
  · exact fun i hi => (qf _ _ (by decide) (by decide) (by decide) (by decide)).trans (h8 i hi)
  · exact fun i hi => (qf _ _ (by decide) (by decide) (by decide) (by decide)).trans (h9 i hi)
  · exact fun i hi => (qf _ _ (by decide) (by decide) (by decide) (by decide)).trans (h10 i hi)
  · exact (qf _ _ (by decide) (by decide) (by decide) (by decide)).trans h11
  · exact fun i hi => (qf _ _ (by decide) (by decide) (by decide) (by decide)).trans (h12 i hi)
  · exact q0.trans (hf 14 0 (by decide) (by decide))
  · exact fun i hi => (q1 i (by omega) (by omega)).trans (hf 15 i (by decide) (show i < 12 from hi))
  · exact fun i hi => (q2 i (by omega) (by omega)).trans (hf 16 i (by decide) (show i < 12 from hi))
  · exact fun i hi => (q3 i (by omega) (by omega)).trans (hf 17 i (by decide) (show i < 12 from hi))
  · exact fun p i hp hi => (qf p i (fun e => by subst e; revert hp; decide) (fun e => by subst e; revert hp; decide) (fun e => by subst e; revert hp; decide) (fun e => by subst e; revert hp; decide)).trans (hf p i hp hi)
  · exact rkWt4_ne (by unfold rkTb; omega) hW (fun p j hp => by have hp : (23 ≤ p ∧ p < 137) ∨ (160 ≤ p ∧ p < 274) ∨ (296 ≤ p ∧ p < 410) := hp; exact qf p j (by omega) (by omega) (by omega) (by omega))
theorem rxsCZ138x1_21 {X : (Nat → Int → Int) → Prop} {S0 : Nat → Int → Int} {ws : List Int} (hP : rxPCZ138x1 S0 ws) : rx_obK X S0 rxCCZ138x1.2.2.1 rxCDC151x14.2.2.1 (rxICZ138x1 S0 ws) (rxmCZ138x1 S0 ws) 21 22 rxzCZ138x1_21 rxzCZ138x1_22 [.inr (3, (0, 151)), .inr (3, (0, 14))] none rxPDC151x14 rxPSDC151x14 := by
  intro S r hinv hXS I0 hin hs_ hf_
  have b_ := bx_bds_sat hs_
  have f_ := bx_fcl_ok hs_.1 hf_
  have g := rxkCZ138x1_21 hP hin I0 hinv 
  have ea : List.map (bx_num r) [.inr (3, (0, 151)), .inr (3, (0, 14))] = [151, 14] := by
    simp only [List.map_cons, List.map_nil, bx_xv_ok hs_.1]
    rfl
  rw [ea]
  refine ⟨g.1, fun S_p w r_p hPS hX_p I1 hsm hr hw hs_p => ?_⟩
  have hw : w = none := hPS.1
  subst hw
  have g2 := g.2 S_p hPS I1 hsm
  show rxICZ138x1_22 S0 ws S_p ∧ rxmCZ138x1_22 S0 ws S_p < _
  exact g2
theorem rxtCZ138x1_23 {S0 : Nat → Int → Int} {ws : List Int} {S : Nat → Int → Int} (hP : rxPCZ138x1 S0 ws) (hin : bx_same rxL (bx_mdl rxCCZ138x1.2.2.1) S0 S) (I0 : bx_Inv rxL S) (hinv : rxICZ138x1_23 S0 ws S)  : rxICZ138x1_24 S0 ws (bx_cpS S 19 156 3) ∧ rxmCZ138x1_24 S0 ws (bx_cpS S 19 156 3) < rxmCZ138x1_23 S0 ws S := by
  obtain ⟨h0, h1, h2, h3, h4, h5, h6, h7, h8, h9, h10, h11, h12, h13, h14, h15, h16, hf, hW⟩ := hinv
  refine ⟨⟨?_, ?_, ?_, ?_, ?_, ?_, ?_, ?_, ?_, ?_, ?_, ?_, ?_, ?_, ?_, ?_, ?_, ?_, ?_, ?_⟩, by unfold rxmCZ138x1_23 rxmCZ138x1_24; omega⟩
  · exact (bx_cpS_ne (by decide)).trans h0
  · exact fun i hi => (bx_cpS_ne (by decide)).trans (h1 i hi)
  · exact fun i hi => (bx_cpS_ne (by decide)).trans (h2 i hi)
  · exact (bx_cpS_ne (by decide)).trans h3
  · exact fun i hi => (bx_cpS_ne (by decide)).trans (h4 i hi)
  · exact fun i hi => (bx_cpS_ne (by decide)).trans (h5 i hi)
  · exact fun i hi => (bx_cpS_ne (by decide)).trans (h6 i hi)
  · exact (bx_cpS_ne (by decide)).trans h7
  · exact fun i hi => (bx_cpS_ne (by decide)).trans (h8 i hi)
  · exact fun i hi => (bx_cpS_ne (by decide)).trans (h9 i hi)
  · exact fun i hi => (bx_cpS_ne (by decide)).trans (h10 i hi)
  · exact (bx_cpS_ne (by decide)).trans h11
  · exact fun i hi => (bx_cpS_ne (by decide)).trans (h12 i hi)
  · exact (bx_cpS_ne (by decide)).trans h13
  · exact fun i hi => (bx_cpS_ne (by decide)).trans (h14 i hi)
  · exact fun i hi => (bx_cpS_ne (by decide)).trans (h15 i hi)
  · exact fun i hi => (bx_cpS_ne (by decide)).trans (h16 i hi)
  · exact fun i hi => (bx_cpS_in (by omega) (by omega)).trans (hf 19 i (by decide) (show i < 3 from hi))
  · exact fun p i hp hi => (bx_cpS_ne (fun e => by subst e; revert hp; decide)).trans (hf p i hp hi)
  · exact rkWt4_ne (by unfold rkTb; omega) hW (fun p j hp => by have hp : (23 ≤ p ∧ p < 137) ∨ (160 ≤ p ∧ p < 274) ∨ (296 ≤ p ∧ p < 410) := hp; exact bx_cpS_ne (by omega))
theorem rxsCZ138x1_23 {X : (Nat → Int → Int) → Prop} {S0 : Nat → Int → Int} {ws : List Int} (hP : rxPCZ138x1 S0 ws) (hX : ∀ S S1 : Nat → Int → Int, X S → bx_same rxL (bx_mdl rxCCZ138x1.2.2.1) S S1 → X S1) : rx_obY X S0 rxCCZ138x1.2.2.1 (rxICZ138x1 S0 ws) (rxmCZ138x1 S0 ws) 23 24 rxzCZ138x1_23 19 156 3 := by
  intro S r hinv hXS I0 hin hs_ hf_
  have b_ := bx_bds_sat hs_
  have f_ := bx_fcl_ok hs_.1 hf_
  have g := rxtCZ138x1_23 hP hin I0 hinv 
  exact ⟨g.1, g.2, hX _ _ hXS (rx_same_cp (fun _ _ _ _ _ => rfl) (g1 := 15) rfl (by decide +kernel)), rx_same_cp hin (g1 := 15) rfl (by decide +kernel)⟩
theorem rxkCZ138x1_26 {S0 : Nat → Int → Int} {ws : List Int} {S : Nat → Int → Int} {i rp rq : Int} (hP : rxPCZ138x1 S0 ws) (hin : bx_same rxL (bx_mdl rxCCZ138x1.2.2.1) S0 S) (I0 : bx_Inv rxL S) (hinv : rxICZ138x1_26 S0 ws S i rp rq) (l8 : 0 ≤ i) (u8 : i ≤ 5) (l9 : 0 ≤ rp) (u9 : rp ≤ 1522) (l10 : 0 ≤ rq) (u10 : rq ≤ 1522) : rxPQCZ S [rp, rq] ∧ ∀ (S_p : Nat → Int → Int), rxPSQCZ S [rp, rq] S_p none → bx_Inv rxL S_p → bx_same rxL (bx_mdl rxCQCZ.2.2.1) S S_p → rxICZ138x1_27 S0 ws S_p i rp rq ∧ rxmCZ138x1_27 S0 ws S_p i rp rq < rxmCZ138x1_26 S0 ws S i rp rq := by
  obtain ⟨hrp, hrq, h0, h1, h2, h3, h4, h5, h6, h7, h8, h9, h10, h11, h12, h13, h14, h15, h16, h17, h18, h19, hf, hW⟩ := hinv
  have hpl := rkPl_sm hin (by decide +kernel) hP
  have gb := (hpl.1.2.2.1 i.toNat (by omega)).2
  have gs := (hpl.1.2.1 i.toNat (by omega)).2
  refine ⟨⟨214 + 10 * i.toNat, 77 + 10 * i.toNat, by rw [hrp, hrq], ⟨(by
      have g := rkPg_t (tb := 160) (k := i.toNat) (by unfold rkTb; omega) (by omega)
      exact g), (by
      have g := rkPg_t (tb := 23) (k := i.toNat) (by unfold rkTb; omega) (by omega)
      exact g), by omega⟩, gs, gb⟩, fun S_p hq _ hsm => ?_⟩
  have q := hq.2 (214 + 10 * i.toNat) (77 + 10 * i.toNat) (by rw [hrp, hrq])
  have e : ∀ (p : Nat) (j : Int), ¬ rkRgn p → S_p p j = S p j := rkQc_o q (tb := 160) (by unfold rkTb; omega) (by omega) (by omega)
  refine ⟨⟨(e _ _ (by unfold rkRgn; omega)).trans h0, fun n hn => (e _ _ (by unfold rkRgn; omega)).trans (h1 n hn), fun n hn => (e _ _ (by unfold rkRgn; omega)).trans (h2 n hn), (e _ _ (by unfold rkRgn; omega)).trans h3, fun n hn => (e _ _ (by unfold rkRgn; omega)).trans (h4 n hn), fun n hn => (e _ _ (by unfold rkRgn; omega)).trans (h5 n hn), fun n hn => (e _ _ (by unfold rkRgn; omega)).trans (h6 n hn), (e _ _ (by unfold rkRgn; omega)).trans h7, fun n hn => (e _ _ (by unfold rkRgn; omega)).trans (h8 n hn), fun n hn => (e _ _ (by unfold rkRgn; omega)).trans (h9 n hn), fun n hn => (e _ _ (by unfold rkRgn; omega)).trans (h10 n hn), (e _ _ (by unfold rkRgn; omega)).trans h11, fun n hn => (e _ _ (by unfold rkRgn; omega)).trans (h12 n hn), (e _ _ (by unfold rkRgn; omega)).trans h13, fun n hn => (e _ _ (by unfold rkRgn; omega)).trans (h14 n hn), fun n hn => (e _ _ (by unfold rkRgn; omega)).trans (h15 n hn), fun n hn => (e _ _ (by unfold rkRgn; omega)).trans (h16 n hn), fun n hn => (e _ _ (by unfold rkRgn; omega)).trans (h17 n hn), (e _ _ (by unfold rkRgn; omega)).trans h18, (e _ _ (by unfold rkRgn; omega)).trans h19, fun p n hp hi => (e p n (rkNum_n (rxFl138_in p hp))).trans (hf p n hp hi), ?_⟩, by unfold rxmCZ138x1_26 rxmCZ138x1_27; omega⟩
  have ei : ((i.toNat : Nat) : Int) = i := Int.toNat_of_nonneg (by omega)
  have hW_p : rkWt4 S0 S 160 23 6 12 ((i.toNat : Nat) : Int) := by rw [ei]; exact hW
  have g := rkWt4_l (by unfold rkTb; omega) (by unfold rkTb; omega) (by decide) (by omega) hW_p q
  rw [ei] at g
  exact g
theorem rxsCZ138x1_26 {X : (Nat → Int → Int) → Prop} {S0 : Nat → Int → Int} {ws : List Int} (hP : rxPCZ138x1 S0 ws) : rx_obK X S0 rxCCZ138x1.2.2.1 rxCQCZ.2.2.1 (rxICZ138x1 S0 ws) (rxmCZ138x1 S0 ws) 26 27 rxzCZ138x1_26 rxzCZ138x1_27 [.inr (3, (9, 0)), .inr (3, (10, 0))] none rxPQCZ rxPSQCZ := by
  intro S r hinv hXS I0 hin hs_ hf_
  have b_ := bx_bds_sat hs_
  have f_ := bx_fcl_ok hs_.1 hf_
  obtain ⟨⟨l8, u8⟩, ⟨l9, u9⟩, ⟨l10, u10⟩, -⟩ := b_
  have g := rxkCZ138x1_26 hP hin I0 hinv l8 u8 l9 u9 l10 u10
  have ea : List.map (bx_num r) [.inr (3, (9, 0)), .inr (3, (10, 0))] = [(r 9), (r 10)] := by
    simp only [List.map_cons, List.map_nil, bx_xv_ok hs_.1]
    rfl
  rw [ea]
  refine ⟨g.1, fun S_p w r_p hPS hX_p I1 hsm hr hw hs_p => ?_⟩
  have hw : w = none := hPS.1
  subst hw
  have g2 := g.2 S_p hPS I1 hsm
  show rxICZ138x1_27 S0 ws S_p (r_p 8) (r_p 9) (r_p 10) ∧ rxmCZ138x1_27 S0 ws S_p (r_p 8) (r_p 9) (r_p 10) < _
  rw [hr 8 (by decide), hr 9 (by decide), hr 10 (by decide)]
  exact g2
theorem rxcCZ138x1_0_0 {S0 : Nat → Int → Int} {ws : List Int} {S : Nat → Int → Int} {x8 : Int} (hP : rxPCZ138x1 S0 ws) (hin : bx_same rxL (bx_mdl rxCCZ138x1.2.2.1) S0 S) (I0 : bx_Inv rxL S) (hinv : rxICZ138x1_0 S0 ws S) (l8 : 0 ≤ x8) (u8 : x8 ≤ 6) (e1 : S 1 0 = x8) : (True) ∧ (True) ∧ rxICZ138x1_1 S0 ws (bx_up S 138 0 x8) ∧ rxmCZ138x1_1 S0 ws (bx_up S 138 0 x8) < rxmCZ138x1_0 S0 ws S := by
  obtain ⟨rfl, hw⟩ := hinv
  exact ⟨trivial, trivial, ⟨bx_up_at.trans e1.symm, fun p i hp hi => bx_up_ne (fun h => by have e := h.1; subst e; revert hp; decide), rkWt4_0 fun p j hp => by
    have hp : (23 ≤ p ∧ p < 137) ∨ (160 ≤ p ∧ p < 274) ∨ (296 ≤ p ∧ p < 410) := hp
    exact bx_up_ne (by omega)⟩, by unfold rxmCZ138x1_0 rxmCZ138x1_1; omega⟩
theorem rxgCZ138x1_0_0 {X : (Nat → Int → Int) → Prop} {S0 : Nat → Int → Int} {ws : List Int} (hP : rxPCZ138x1 S0 ws) : bx_obC rxL X S0 rxCCZ138x1.2.2.1 (rxICZ138x1 S0 ws) (rxmCZ138x1 S0 ws) 0 rxzCZ138x1_0 rxoCZ138x1_0_0 := by
  intro S S_p r r_p hinv hX hin hsm_ hseg
  obtain ⟨I0, I1, h0_, hr_, b_, f_, d_⟩ := bx_cl (evs := [(1, (0, 138), (0, 0), .inr (0, (8, 0))), (0, (0, 1), (0, 0), .inr (0, (8, 0)))]) (fvs := []) hseg (by decide +kernel) (by decide +kernel)
  have hinv : rxICZ138x1_0 S0 ws S := hinv
  obtain ⟨⟨l8, u8⟩, -⟩ := b_
  obtain ⟨T0, ⟨e1, w_⟩, w0⟩ := d_
  subst w0
  subst w_
  have g := rxcCZ138x1_0_0 hP hin I0 hinv l8 u8 e1
  refine ⟨bx_narP_ok (l := []) g.1, bx_nfP_ok h0_ (fvs := []) (by decide +kernel) g.2.1, ?_, ?_⟩
  · show rxICZ138x1_1 S0 ws (bx_up T0 138 (0) (r_p 8))
    exact g.2.2.1
  · show rxmCZ138x1_1 S0 ws (bx_up T0 138 (0) (r_p 8)) < rxmCZ138x1_0 S0 ws T0
    exact g.2.2.2
theorem rxcCZ138x1_2_0 {S0 : Nat → Int → Int} {ws : List Int} {S : Nat → Int → Int} (hP : rxPCZ138x1 S0 ws) (hin : bx_same rxL (bx_mdl rxCCZ138x1.2.2.1) S0 S) (I0 : bx_Inv rxL S) (hinv : rxICZ138x1_2 S0 ws S)  : (True) ∧ (True) ∧ rxICZ138x1_3 S0 ws S ∧ rxmCZ138x1_3 S0 ws S < rxmCZ138x1_2 S0 ws S := by
  exact ⟨trivial, trivial, hinv, by unfold rxmCZ138x1_2 rxmCZ138x1_3; omega⟩
theorem rxgCZ138x1_2_0 {X : (Nat → Int → Int) → Prop} {S0 : Nat → Int → Int} {ws : List Int} (hP : rxPCZ138x1 S0 ws) : bx_obC rxL X S0 rxCCZ138x1.2.2.1 (rxICZ138x1 S0 ws) (rxmCZ138x1 S0 ws) 2 rxzCZ138x1_2 rxoCZ138x1_2_0 := by
  intro S S_p r r_p hinv hX hin hsm_ hseg
  obtain ⟨I0, I1, h0_, hr_, b_, f_, d_⟩ := bx_cl (evs := []) (fvs := []) hseg (by decide +kernel) (by decide +kernel)
  have hinv : rxICZ138x1_2 S0 ws S := hinv
  have w_ := d_
  subst w_
  have g := rxcCZ138x1_2_0 hP hin I0 hinv 
  refine ⟨bx_narP_ok (l := []) g.1, bx_nfP_ok h0_ (fvs := []) (by decide +kernel) g.2.1, ?_, ?_⟩
  · show rxICZ138x1_3 S0 ws S_p
    exact g.2.2.1
  · show rxmCZ138x1_3 S0 ws S_p < rxmCZ138x1_2 S0 ws S_p
    exact g.2.2.2
theorem rxcCZ138x1_4_0 {S0 : Nat → Int → Int} {ws : List Int} {S : Nat → Int → Int} (hP : rxPCZ138x1 S0 ws) (hin : bx_same rxL (bx_mdl rxCCZ138x1.2.2.1) S0 S) (I0 : bx_Inv rxL S) (hinv : rxICZ138x1_4 S0 ws S)  : (True) ∧ (True) ∧ rxICZ138x1_5 S0 ws S 0 ∧ rxmCZ138x1_5 S0 ws S 0 < rxmCZ138x1_4 S0 ws S := by
  exact ⟨trivial, trivial, hinv, by unfold rxmCZ138x1_4 rxmCZ138x1_5; omega⟩
theorem rxgCZ138x1_4_0 {X : (Nat → Int → Int) → Prop} {S0 : Nat → Int → Int} {ws : List Int} (hP : rxPCZ138x1 S0 ws) : bx_obC rxL X S0 rxCCZ138x1.2.2.1 (rxICZ138x1 S0 ws) (rxmCZ138x1 S0 ws) 4 rxzCZ138x1_4 rxoCZ138x1_4_0 := by
  intro S S_p r r_p hinv hX hin hsm_ hseg
  obtain ⟨I0, I1, h0_, hr_, b_, f_, d_⟩ := bx_cl (evs := []) (fvs := []) hseg (by decide +kernel) (by decide +kernel)
  have hinv : rxICZ138x1_4 S0 ws S := hinv
  have w_ := d_
  subst w_
  have g := rxcCZ138x1_4_0 hP hin I0 hinv 
  refine ⟨bx_narP_ok (l := []) g.1, bx_nfP_ok h0_ (fvs := []) (by decide +kernel) g.2.1, ?_, ?_⟩
  · show rxICZ138x1_5 S0 ws S_p (bx_val [(0, 0), (0, 0), (0, 0), (0, 0), (0, 0), (0, 0), (0, 0), (0, 0), (0, 0)] r_p 8)
    rw [bx_val_x (n := 8) (e := (0, 0)) h0_ rfl]
    exact g.2.2.1
  · show rxmCZ138x1_5 S0 ws S_p (bx_val [(0, 0), (0, 0), (0, 0), (0, 0), (0, 0), (0, 0), (0, 0), (0, 0), (0, 0)] r_p 8) < rxmCZ138x1_4 S0 ws S_p
    rw [bx_val_x (n := 8) (e := (0, 0)) h0_ rfl]
    exact g.2.2.2
theorem rxcCZ138x1_5_0 {S0 : Nat → Int → Int} {ws : List Int} {S : Nat → Int → Int} {i x9 x10 : Int} (hP : rxPCZ138x1 S0 ws) (hin : bx_same rxL (bx_mdl rxCCZ138x1.2.2.1) S0 S) (I0 : bx_Inv rxL S) (hinv : rxICZ138x1_5 S0 ws S i) (l8 : 0 ≤ i) (u8 : i ≤ 5) (l9 : 0 ≤ x9) (u9 : x9 ≤ 1522) (l10 : 0 ≤ x10) (u10 : x10 ≤ 1522) (e1 : S 141 i = x9) (e0 : S 4 i = x10) : (True) ∧ (True) ∧ rxICZ138x1_6 S0 ws S i x9 x10 ∧ rxmCZ138x1_6 S0 ws S i x9 x10 < rxmCZ138x1_5 S0 ws S i := by
  obtain ⟨h0, h1, h2, hf, hW⟩ := id hinv
  have hpl := rkPl_sm hin (by decide +kernel) hP
  have gb := (hpl.2.2.1.1 i.toNat (by omega)).1
  have gs := (hpl.2.1.1 i.toNat (by omega)).1
  rw [Int.toNat_of_nonneg (show (0 : Int) ≤ i by omega)] at gb gs
  exact ⟨trivial, trivial, ⟨e1.symm.trans gb, e0.symm.trans gs, hinv⟩, by unfold rxmCZ138x1_5 rxmCZ138x1_6; omega⟩
theorem rxgCZ138x1_5_0 {X : (Nat → Int → Int) → Prop} {S0 : Nat → Int → Int} {ws : List Int} (hP : rxPCZ138x1 S0 ws) : bx_obC rxL X S0 rxCCZ138x1.2.2.1 (rxICZ138x1 S0 ws) (rxmCZ138x1 S0 ws) 5 rxzCZ138x1_5 rxoCZ138x1_5_0 := by
  intro S S_p r r_p hinv hX hin hsm_ hseg
  obtain ⟨I0, I1, h0_, hr_, b_, f_, d_⟩ := bx_cl (evs := [(0, (0, 4), (8, 0), .inr (3, (10, 0))), (0, (0, 141), (8, 0), .inr (3, (9, 0)))]) (fvs := []) hseg (by decide +kernel) (by decide +kernel)
  have hinv : rxICZ138x1_5 S0 ws S (r 8) := hinv
  rw [← hr_ 8 (by decide)] at hinv
  obtain ⟨⟨l8, u8⟩, ⟨l9, u9⟩, ⟨l10, u10⟩, -⟩ := b_
  obtain ⟨e0, ⟨e1, w_⟩⟩ := d_
  subst w_
  have g := rxcCZ138x1_5_0 hP hin I0 hinv l8 u8 l9 u9 l10 u10 e1 e0
  refine ⟨bx_narP_ok (l := []) g.1, bx_nfP_ok h0_ (fvs := []) (by decide +kernel) g.2.1, ?_, ?_⟩
  · show rxICZ138x1_6 S0 ws S_p (bx_val [(0, 0), (0, 0), (0, 0), (0, 0), (0, 0), (0, 0), (0, 0), (0, 0), (8, 0), (9, 0), (10, 0)] r_p 8) (bx_val [(0, 0), (0, 0), (0, 0), (0, 0), (0, 0), (0, 0), (0, 0), (0, 0), (8, 0), (9, 0), (10, 0)] r_p 9) (bx_val [(0, 0), (0, 0), (0, 0), (0, 0), (0, 0), (0, 0), (0, 0), (0, 0), (8, 0), (9, 0), (10, 0)] r_p 10)
    rw [bx_val_x (n := 8) (e := (8, 0)) h0_ rfl, bx_val_x (n := 9) (e := (9, 0)) h0_ rfl, bx_val_x (n := 10) (e := (10, 0)) h0_ rfl]
    exact g.2.2.1
  · show rxmCZ138x1_6 S0 ws S_p (bx_val [(0, 0), (0, 0), (0, 0), (0, 0), (0, 0), (0, 0), (0, 0), (0, 0), (8, 0), (9, 0), (10, 0)] r_p 8) (bx_val [(0, 0), (0, 0), (0, 0), (0, 0), (0, 0), (0, 0), (0, 0), (0, 0), (8, 0), (9, 0), (10, 0)] r_p 9) (bx_val [(0, 0), (0, 0), (0, 0), (0, 0), (0, 0), (0, 0), (0, 0), (0, 0), (8, 0), (9, 0), (10, 0)] r_p 10) < rxmCZ138x1_5 S0 ws S_p (r 8)
    rw [bx_val_x (n := 8) (e := (8, 0)) h0_ rfl, bx_val_x (n := 9) (e := (9, 0)) h0_ rfl, bx_val_x (n := 10) (e := (10, 0)) h0_ rfl, ← hr_ 8 (by decide)]
    exact g.2.2.2
theorem rxcCZ138x1_5_1 {S0 : Nat → Int → Int} {ws : List Int} {S : Nat → Int → Int} {i : Int} (hP : rxPCZ138x1 S0 ws) (hin : bx_same rxL (bx_mdl rxCCZ138x1.2.2.1) S0 S) (I0 : bx_Inv rxL S) (hinv : rxICZ138x1_5 S0 ws S i) (l8 : 6 ≤ i) (u8 : i ≤ 6) : (True) ∧ (True) ∧ rxICZ138x1_8 S0 ws S ∧ rxmCZ138x1_8 S0 ws S < rxmCZ138x1_5 S0 ws S i := by
  have ei : i = 6 := by omega
  subst ei
  exact ⟨trivial, trivial, hinv, by unfold rxmCZ138x1_5 rxmCZ138x1_8; omega⟩
theorem rxgCZ138x1_5_1 {X : (Nat → Int → Int) → Prop} {S0 : Nat → Int → Int} {ws : List Int} (hP : rxPCZ138x1 S0 ws) : bx_obC rxL X S0 rxCCZ138x1.2.2.1 (rxICZ138x1 S0 ws) (rxmCZ138x1 S0 ws) 5 rxzCZ138x1_5 rxoCZ138x1_5_1 := by
  intro S S_p r r_p hinv hX hin hsm_ hseg
  obtain ⟨I0, I1, h0_, hr_, b_, f_, d_⟩ := bx_cl (evs := []) (fvs := []) hseg (by decide +kernel) (by decide +kernel)
  have hinv : rxICZ138x1_5 S0 ws S (r 8) := hinv
  rw [← hr_ 8 (by decide)] at hinv
  obtain ⟨⟨l8, u8⟩, -⟩ := b_
  have w_ := d_
  subst w_
  have g := rxcCZ138x1_5_1 hP hin I0 hinv l8 u8
  refine ⟨bx_narP_ok (l := []) g.1, bx_nfP_ok h0_ (fvs := []) (by decide +kernel) g.2.1, ?_, ?_⟩
  · show rxICZ138x1_8 S0 ws S_p
    exact g.2.2.1
  · show rxmCZ138x1_8 S0 ws S_p < rxmCZ138x1_5 S0 ws S_p (r 8)
    rw [← hr_ 8 (by decide)]
    exact g.2.2.2
theorem rxcCZ138x1_7_0 {S0 : Nat → Int → Int} {ws : List Int} {S : Nat → Int → Int} {i rp rq : Int} (hP : rxPCZ138x1 S0 ws) (hin : bx_same rxL (bx_mdl rxCCZ138x1.2.2.1) S0 S) (I0 : bx_Inv rxL S) (hinv : rxICZ138x1_7 S0 ws S i rp rq) (l8 : 0 ≤ i) (u8 : i ≤ 5) (l9 : 0 ≤ rp) (u9 : rp ≤ 1522) (l10 : 0 ≤ rq) (u10 : rq ≤ 1522) : (True) ∧ (True) ∧ rxICZ138x1_5 S0 ws S (i + 1) ∧ rxmCZ138x1_5 S0 ws S (i + 1) < rxmCZ138x1_7 S0 ws S i rp rq := by
  exact ⟨trivial, trivial, hinv, by unfold rxmCZ138x1_7 rxmCZ138x1_5; omega⟩
theorem rxgCZ138x1_7_0 {X : (Nat → Int → Int) → Prop} {S0 : Nat → Int → Int} {ws : List Int} (hP : rxPCZ138x1 S0 ws) : bx_obC rxL X S0 rxCCZ138x1.2.2.1 (rxICZ138x1 S0 ws) (rxmCZ138x1 S0 ws) 7 rxzCZ138x1_7 rxoCZ138x1_7_0 := by
  intro S S_p r r_p hinv hX hin hsm_ hseg
  obtain ⟨I0, I1, h0_, hr_, b_, f_, d_⟩ := bx_cl (evs := []) (fvs := []) hseg (by decide +kernel) (by decide +kernel)
  have hinv : rxICZ138x1_7 S0 ws S (r 8) (r 9) (r 10) := hinv
  rw [← hr_ 8 (by decide), ← hr_ 9 (by decide), ← hr_ 10 (by decide)] at hinv
  obtain ⟨⟨l8, u8⟩, ⟨l9, u9⟩, ⟨l10, u10⟩, -⟩ := b_
  have w_ := d_
  subst w_
  have g := rxcCZ138x1_7_0 hP hin I0 hinv l8 u8 l9 u9 l10 u10
  refine ⟨bx_narP_ok (l := []) g.1, bx_nfP_ok h0_ (fvs := []) (by decide +kernel) g.2.1, ?_, ?_⟩
  · show rxICZ138x1_5 S0 ws S_p (bx_val [(0, 0), (0, 0), (0, 0), (0, 0), (0, 0), (0, 0), (0, 0), (0, 0), (8, 1)] r_p 8)
    rw [bx_val_x (n := 8) (e := (8, 1)) h0_ rfl]
    exact g.2.2.1
  · show rxmCZ138x1_5 S0 ws S_p (bx_val [(0, 0), (0, 0), (0, 0), (0, 0), (0, 0), (0, 0), (0, 0), (0, 0), (8, 1)] r_p 8) < rxmCZ138x1_7 S0 ws S_p (r 8) (r 9) (r 10)
    rw [bx_val_x (n := 8) (e := (8, 1)) h0_ rfl, ← hr_ 8 (by decide), ← hr_ 9 (by decide), ← hr_ 10 (by decide)]
    exact g.2.2.2
theorem rxcCZ138x1_9_0 {S0 : Nat → Int → Int} {ws : List Int} {S : Nat → Int → Int} {x8 : Int} (hP : rxPCZ138x1 S0 ws) (hin : bx_same rxL (bx_mdl rxCCZ138x1.2.2.1) S0 S) (I0 : bx_Inv rxL S) (hinv : rxICZ138x1_9 S0 ws S) (l8 : 0 ≤ x8) (u8 : x8 ≤ 12) (e1 : S 1 5 = x8) : (True) ∧ (True) ∧ rxICZ138x1_10 S0 ws (bx_up S 138 5 x8) ∧ rxmCZ138x1_10 S0 ws (bx_up S 138 5 x8) < rxmCZ138x1_9 S0 ws S := by
  obtain ⟨h0, h1, h2, h3, h4, h5, h6, hf, hW⟩ := hinv
  refine ⟨trivial, trivial, ⟨(bx_up_ne (by omega)).trans (h0), fun n hn => (bx_up_ne (by omega)).trans (h1 n hn), fun n hn => (bx_up_ne (by omega)).trans (h2 n hn), (bx_up_ne (by omega)).trans (h3), fun n hn => (bx_up_ne (by omega)).trans (h4 n hn), fun n hn => (bx_up_ne (by omega)).trans (h5 n hn), fun n hn => (bx_up_ne (by omega)).trans (h6 n hn), bx_up_at.trans ((e1).symm.trans (hf 1 5 (by decide) (by decide))), fun p n hp hi => (bx_up_ne (fun h => by have e := h.1; subst e; revert hp; decide)).trans (hf p n hp hi), ?_⟩, by unfold rxmCZ138x1_9 rxmCZ138x1_10; omega⟩
  exact rkWt4_ne (by unfold rkTb; omega) hW (fun p j hp => by have hp : (23 ≤ p ∧ p < 137) ∨ (160 ≤ p ∧ p < 274) ∨ (296 ≤ p ∧ p < 410) := hp; exact (bx_up_ne (by omega)))
theorem rxgCZ138x1_9_0 {X : (Nat → Int → Int) → Prop} {S0 : Nat → Int → Int} {ws : List Int} (hP : rxPCZ138x1 S0 ws) : bx_obC rxL X S0 rxCCZ138x1.2.2.1 (rxICZ138x1 S0 ws) (rxmCZ138x1 S0 ws) 9 rxzCZ138x1_9 rxoCZ138x1_9_0 := by
  intro S S_p r r_p hinv hX hin hsm_ hseg
  obtain ⟨I0, I1, h0_, hr_, b_, f_, d_⟩ := bx_cl (evs := [(1, (0, 138), (0, 5), .inr (0, (8, 0))), (0, (0, 1), (0, 5), .inr (0, (8, 0)))]) (fvs := []) hseg (by decide +kernel) (by decide +kernel)
  have hinv : rxICZ138x1_9 S0 ws S := hinv
  obtain ⟨⟨l8, u8⟩, -⟩ := b_
  obtain ⟨T0, ⟨e1, w_⟩, w0⟩ := d_
  subst w0
  subst w_
  have g := rxcCZ138x1_9_0 hP hin I0 hinv l8 u8 e1
  refine ⟨bx_narP_ok (l := []) g.1, bx_nfP_ok h0_ (fvs := []) (by decide +kernel) g.2.1, ?_, ?_⟩
  · show rxICZ138x1_10 S0 ws (bx_up T0 138 (5) (r_p 8))
    exact g.2.2.1
  · show rxmCZ138x1_10 S0 ws (bx_up T0 138 (5) (r_p 8)) < rxmCZ138x1_9 S0 ws T0
    exact g.2.2.2
theorem rxcCZ138x1_11_0 {S0 : Nat → Int → Int} {ws : List Int} {S : Nat → Int → Int} (hP : rxPCZ138x1 S0 ws) (hin : bx_same rxL (bx_mdl rxCCZ138x1.2.2.1) S0 S) (I0 : bx_Inv rxL S) (hinv : rxICZ138x1_11 S0 ws S)  : (True) ∧ (True) ∧ rxICZ138x1_12 S0 ws S ∧ rxmCZ138x1_12 S0 ws S < rxmCZ138x1_11 S0 ws S := by
  exact ⟨trivial, trivial, hinv, by unfold rxmCZ138x1_11 rxmCZ138x1_12; omega⟩
theorem rxgCZ138x1_11_0 {X : (Nat → Int → Int) → Prop} {S0 : Nat → Int → Int} {ws : List Int} (hP : rxPCZ138x1 S0 ws) : bx_obC rxL X S0 rxCCZ138x1.2.2.1 (rxICZ138x1 S0 ws) (rxmCZ138x1 S0 ws) 11 rxzCZ138x1_11 rxoCZ138x1_11_0 := by
  intro S S_p r r_p hinv hX hin hsm_ hseg
  obtain ⟨I0, I1, h0_, hr_, b_, f_, d_⟩ := bx_cl (evs := []) (fvs := []) hseg (by decide +kernel) (by decide +kernel)
  have hinv : rxICZ138x1_11 S0 ws S := hinv
  have w_ := d_
  subst w_
  have g := rxcCZ138x1_11_0 hP hin I0 hinv 
  refine ⟨bx_narP_ok (l := []) g.1, bx_nfP_ok h0_ (fvs := []) (by decide +kernel) g.2.1, ?_, ?_⟩
  · show rxICZ138x1_12 S0 ws S_p
    exact g.2.2.1
  · show rxmCZ138x1_12 S0 ws S_p < rxmCZ138x1_11 S0 ws S_p
    exact g.2.2.2
theorem rxcCZ138x1_13_0 {S0 : Nat → Int → Int} {ws : List Int} {S : Nat → Int → Int} (hP : rxPCZ138x1 S0 ws) (hin : bx_same rxL (bx_mdl rxCCZ138x1.2.2.1) S0 S) (I0 : bx_Inv rxL S) (hinv : rxICZ138x1_13 S0 ws S)  : (True) ∧ (True) ∧ rxICZ138x1_14 S0 ws S ∧ rxmCZ138x1_14 S0 ws S < rxmCZ138x1_13 S0 ws S := by
  exact ⟨trivial, trivial, hinv, by unfold rxmCZ138x1_13 rxmCZ138x1_14; omega⟩
theorem rxgCZ138x1_13_0 {X : (Nat → Int → Int) → Prop} {S0 : Nat → Int → Int} {ws : List Int} (hP : rxPCZ138x1 S0 ws) : bx_obC rxL X S0 rxCCZ138x1.2.2.1 (rxICZ138x1 S0 ws) (rxmCZ138x1 S0 ws) 13 rxzCZ138x1_13 rxoCZ138x1_13_0 := by
  intro S S_p r r_p hinv hX hin hsm_ hseg
  obtain ⟨I0, I1, h0_, hr_, b_, f_, d_⟩ := bx_cl (evs := []) (fvs := []) hseg (by decide +kernel) (by decide +kernel)
  have hinv : rxICZ138x1_13 S0 ws S := hinv
  have w_ := d_
  subst w_
  have g := rxcCZ138x1_13_0 hP hin I0 hinv 
  refine ⟨bx_narP_ok (l := []) g.1, bx_nfP_ok h0_ (fvs := []) (by decide +kernel) g.2.1, ?_, ?_⟩
  · show rxICZ138x1_14 S0 ws S_p
    exact g.2.2.1
  · show rxmCZ138x1_14 S0 ws S_p < rxmCZ138x1_13 S0 ws S_p
    exact g.2.2.2
theorem rxcCZ138x1_15_0 {S0 : Nat → Int → Int} {ws : List Int} {S : Nat → Int → Int} (hP : rxPCZ138x1 S0 ws) (hin : bx_same rxL (bx_mdl rxCCZ138x1.2.2.1) S0 S) (I0 : bx_Inv rxL S) (hinv : rxICZ138x1_15 S0 ws S)  : (True) ∧ (True) ∧ rxICZ138x1_16 S0 ws S 0 ∧ rxmCZ138x1_16 S0 ws S 0 < rxmCZ138x1_15 S0 ws S := by
  exact ⟨trivial, trivial, hinv, by unfold rxmCZ138x1_15 rxmCZ138x1_16; omega⟩
theorem rxgCZ138x1_15_0 {X : (Nat → Int → Int) → Prop} {S0 : Nat → Int → Int} {ws : List Int} (hP : rxPCZ138x1 S0 ws) : bx_obC rxL X S0 rxCCZ138x1.2.2.1 (rxICZ138x1 S0 ws) (rxmCZ138x1 S0 ws) 15 rxzCZ138x1_15 rxoCZ138x1_15_0 := by
  intro S S_p r r_p hinv hX hin hsm_ hseg
  obtain ⟨I0, I1, h0_, hr_, b_, f_, d_⟩ := bx_cl (evs := []) (fvs := []) hseg (by decide +kernel) (by decide +kernel)
  have hinv : rxICZ138x1_15 S0 ws S := hinv
  have w_ := d_
  subst w_
  have g := rxcCZ138x1_15_0 hP hin I0 hinv 
  refine ⟨bx_narP_ok (l := []) g.1, bx_nfP_ok h0_ (fvs := []) (by decide +kernel) g.2.1, ?_, ?_⟩
  · show rxICZ138x1_16 S0 ws S_p (bx_val [(0, 0), (0, 0), (0, 0), (0, 0), (0, 0), (0, 0), (0, 0), (0, 0), (0, 0)] r_p 8)
    rw [bx_val_x (n := 8) (e := (0, 0)) h0_ rfl]
    exact g.2.2.1
  · show rxmCZ138x1_16 S0 ws S_p (bx_val [(0, 0), (0, 0), (0, 0), (0, 0), (0, 0), (0, 0), (0, 0), (0, 0), (0, 0)] r_p 8) < rxmCZ138x1_15 S0 ws S_p
    rw [bx_val_x (n := 8) (e := (0, 0)) h0_ rfl]
    exact g.2.2.2
theorem rxcCZ138x1_16_0 {S0 : Nat → Int → Int} {ws : List Int} {S : Nat → Int → Int} {i x9 x10 : Int} (hP : rxPCZ138x1 S0 ws) (hin : bx_same rxL (bx_mdl rxCCZ138x1.2.2.1) S0 S) (I0 : bx_Inv rxL S) (hinv : rxICZ138x1_16 S0 ws S i) (l8 : 0 ≤ i) (u8 : i ≤ 11) (l9 : 0 ≤ x9) (u9 : x9 ≤ 1522) (l10 : 0 ≤ x10) (u10 : x10 ≤ 1522) (e1 : S 149 i = x9) (e0 : S 12 i = x10) : (True) ∧ (True) ∧ rxICZ138x1_17 S0 ws S i x9 x10 ∧ rxmCZ138x1_17 S0 ws S i x9 x10 < rxmCZ138x1_16 S0 ws S i := by
  obtain ⟨h0, h1, h2, h3, h4, h5, h6, h7, h8, h9, h10, hf, hW⟩ := id hinv
  have hpl := rkPl_sm hin (by decide +kernel) hP
  have gb := (hpl.2.2.1.2 i.toNat (by omega)).1
  have gs := (hpl.2.1.2 i.toNat (by omega)).1
  rw [Int.toNat_of_nonneg (show (0 : Int) ≤ i by omega)] at gb gs
  exact ⟨trivial, trivial, ⟨e1.symm.trans gb, e0.symm.trans gs, hinv⟩, by unfold rxmCZ138x1_16 rxmCZ138x1_17; omega⟩
theorem rxgCZ138x1_16_0 {X : (Nat → Int → Int) → Prop} {S0 : Nat → Int → Int} {ws : List Int} (hP : rxPCZ138x1 S0 ws) : bx_obC rxL X S0 rxCCZ138x1.2.2.1 (rxICZ138x1 S0 ws) (rxmCZ138x1 S0 ws) 16 rxzCZ138x1_16 rxoCZ138x1_16_0 := by
  intro S S_p r r_p hinv hX hin hsm_ hseg
  obtain ⟨I0, I1, h0_, hr_, b_, f_, d_⟩ := bx_cl (evs := [(0, (0, 12), (8, 0), .inr (3, (10, 0))), (0, (0, 149), (8, 0), .inr (3, (9, 0)))]) (fvs := []) hseg (by decide +kernel) (by decide +kernel)
  have hinv : rxICZ138x1_16 S0 ws S (r 8) := hinv
  rw [← hr_ 8 (by decide)] at hinv
  obtain ⟨⟨l8, u8⟩, ⟨l9, u9⟩, ⟨l10, u10⟩, -⟩ := b_
  obtain ⟨e0, ⟨e1, w_⟩⟩ := d_
  subst w_
  have g := rxcCZ138x1_16_0 hP hin I0 hinv l8 u8 l9 u9 l10 u10 e1 e0
  refine ⟨bx_narP_ok (l := []) g.1, bx_nfP_ok h0_ (fvs := []) (by decide +kernel) g.2.1, ?_, ?_⟩
  · show rxICZ138x1_17 S0 ws S_p (bx_val [(0, 0), (0, 0), (0, 0), (0, 0), (0, 0), (0, 0), (0, 0), (0, 0), (8, 0), (9, 0), (10, 0)] r_p 8) (bx_val [(0, 0), (0, 0), (0, 0), (0, 0), (0, 0), (0, 0), (0, 0), (0, 0), (8, 0), (9, 0), (10, 0)] r_p 9) (bx_val [(0, 0), (0, 0), (0, 0), (0, 0), (0, 0), (0, 0), (0, 0), (0, 0), (8, 0), (9, 0), (10, 0)] r_p 10)
    rw [bx_val_x (n := 8) (e := (8, 0)) h0_ rfl, bx_val_x (n := 9) (e := (9, 0)) h0_ rfl, bx_val_x (n := 10) (e := (10, 0)) h0_ rfl]
    exact g.2.2.1
  · show rxmCZ138x1_17 S0 ws S_p (bx_val [(0, 0), (0, 0), (0, 0), (0, 0), (0, 0), (0, 0), (0, 0), (0, 0), (8, 0), (9, 0), (10, 0)] r_p 8) (bx_val [(0, 0), (0, 0), (0, 0), (0, 0), (0, 0), (0, 0), (0, 0), (0, 0), (8, 0), (9, 0), (10, 0)] r_p 9) (bx_val [(0, 0), (0, 0), (0, 0), (0, 0), (0, 0), (0, 0), (0, 0), (0, 0), (8, 0), (9, 0), (10, 0)] r_p 10) < rxmCZ138x1_16 S0 ws S_p (r 8)
    rw [bx_val_x (n := 8) (e := (8, 0)) h0_ rfl, bx_val_x (n := 9) (e := (9, 0)) h0_ rfl, bx_val_x (n := 10) (e := (10, 0)) h0_ rfl, ← hr_ 8 (by decide)]
    exact g.2.2.2
theorem rxcCZ138x1_16_1 {S0 : Nat → Int → Int} {ws : List Int} {S : Nat → Int → Int} {i x9 : Int} (hP : rxPCZ138x1 S0 ws) (hin : bx_same rxL (bx_mdl rxCCZ138x1.2.2.1) S0 S) (I0 : bx_Inv rxL S) (hinv : rxICZ138x1_16 S0 ws S i) (l8 : 12 ≤ i) (u8 : i ≤ 12) (l9 : 0 ≤ x9) (u9 : x9 ≤ 12) (e1 : S 1 10 = x9) : (True) ∧ (True) ∧ rxICZ138x1_19 S0 ws (bx_up S 138 10 x9) ∧ rxmCZ138x1_19 S0 ws (bx_up S 138 10 x9) < rxmCZ138x1_16 S0 ws S i := by
  have ei : i = 12 := by omega
  subst ei
  obtain ⟨h0, h1, h2, h3, h4, h5, h6, h7, h8, h9, h10, hf, hW⟩ := hinv
  refine ⟨trivial, trivial, ⟨(bx_up_ne (by omega)).trans (h0), fun n hn => (bx_up_ne (by omega)).trans (h1 n hn), fun n hn => (bx_up_ne (by omega)).trans (h2 n hn), (bx_up_ne (by omega)).trans (h3), fun n hn => (bx_up_ne (by omega)).trans (h4 n hn), fun n hn => (bx_up_ne (by omega)).trans (h5 n hn), fun n hn => (bx_up_ne (by omega)).trans (h6 n hn), (bx_up_ne (by omega)).trans (h7), fun n hn => (bx_up_ne (by omega)).trans (h8 n hn), fun n hn => (bx_up_ne (by omega)).trans (h9 n hn), fun n hn => (bx_up_ne (by omega)).trans (h10 n hn), bx_up_at.trans ((e1).symm.trans (hf 1 10 (by decide) (by decide))), fun p n hp hi => (bx_up_ne (fun h => by have e := h.1; subst e; revert hp; decide)).trans (hf p n hp hi), ?_⟩, by unfold rxmCZ138x1_16 rxmCZ138x1_19; omega⟩
  exact rkWt4_ne (by unfold rkTb; omega) hW (fun p j hp => by have hp : (23 ≤ p ∧ p < 137) ∨ (160 ≤ p ∧ p < 274) ∨ (296 ≤ p ∧ p < 410) := hp; exact (bx_up_ne (by omega)))
theorem rxgCZ138x1_16_1 {X : (Nat → Int → Int) → Prop} {S0 : Nat → Int → Int} {ws : List Int} (hP : rxPCZ138x1 S0 ws) : bx_obC rxL X S0 rxCCZ138x1.2.2.1 (rxICZ138x1 S0 ws) (rxmCZ138x1 S0 ws) 16 rxzCZ138x1_16 rxoCZ138x1_16_1 := by
  intro S S_p r r_p hinv hX hin hsm_ hseg
  obtain ⟨I0, I1, h0_, hr_, b_, f_, d_⟩ := bx_cl (evs := [(1, (0, 138), (0, 10), .inr (0, (9, 0))), (0, (0, 1), (0, 10), .inr (0, (9, 0)))]) (fvs := []) hseg (by decide +kernel) (by decide +kernel)
  have hinv : rxICZ138x1_16 S0 ws S (r 8) := hinv
  rw [← hr_ 8 (by decide)] at hinv
  obtain ⟨⟨l8, u8⟩, ⟨l9, u9⟩, -⟩ := b_
  obtain ⟨T0, ⟨e1, w_⟩, w0⟩ := d_
  subst w0
  subst w_
  have g := rxcCZ138x1_16_1 hP hin I0 hinv l8 u8 l9 u9 e1
  refine ⟨bx_narP_ok (l := []) g.1, bx_nfP_ok h0_ (fvs := []) (by decide +kernel) g.2.1, ?_, ?_⟩
  · show rxICZ138x1_19 S0 ws (bx_up T0 138 (10) (r_p 9))
    exact g.2.2.1
  · show rxmCZ138x1_19 S0 ws (bx_up T0 138 (10) (r_p 9)) < rxmCZ138x1_16 S0 ws T0 (r 8)
    rw [← hr_ 8 (by decide)]
    exact g.2.2.2
theorem rxcCZ138x1_18_0 {S0 : Nat → Int → Int} {ws : List Int} {S : Nat → Int → Int} {i rp rq : Int} (hP : rxPCZ138x1 S0 ws) (hin : bx_same rxL (bx_mdl rxCCZ138x1.2.2.1) S0 S) (I0 : bx_Inv rxL S) (hinv : rxICZ138x1_18 S0 ws S i rp rq) (l8 : 0 ≤ i) (u8 : i ≤ 11) (l9 : 0 ≤ rp) (u9 : rp ≤ 1522) (l10 : 0 ≤ rq) (u10 : rq ≤ 1522) : (True) ∧ (True) ∧ rxICZ138x1_16 S0 ws S (i + 1) ∧ rxmCZ138x1_16 S0 ws S (i + 1) < rxmCZ138x1_18 S0 ws S i rp rq := by
  exact ⟨trivial, trivial, hinv, by unfold rxmCZ138x1_18 rxmCZ138x1_16; omega⟩
theorem rxgCZ138x1_18_0 {X : (Nat → Int → Int) → Prop} {S0 : Nat → Int → Int} {ws : List Int} (hP : rxPCZ138x1 S0 ws) : bx_obC rxL X S0 rxCCZ138x1.2.2.1 (rxICZ138x1 S0 ws) (rxmCZ138x1 S0 ws) 18 rxzCZ138x1_18 rxoCZ138x1_18_0 := by
  intro S S_p r r_p hinv hX hin hsm_ hseg
  obtain ⟨I0, I1, h0_, hr_, b_, f_, d_⟩ := bx_cl (evs := []) (fvs := []) hseg (by decide +kernel) (by decide +kernel)
  have hinv : rxICZ138x1_18 S0 ws S (r 8) (r 9) (r 10) := hinv
  rw [← hr_ 8 (by decide), ← hr_ 9 (by decide), ← hr_ 10 (by decide)] at hinv
  obtain ⟨⟨l8, u8⟩, ⟨l9, u9⟩, ⟨l10, u10⟩, -⟩ := b_
  have w_ := d_
  subst w_
  have g := rxcCZ138x1_18_0 hP hin I0 hinv l8 u8 l9 u9 l10 u10
  refine ⟨bx_narP_ok (l := []) g.1, bx_nfP_ok h0_ (fvs := []) (by decide +kernel) g.2.1, ?_, ?_⟩
  · show rxICZ138x1_16 S0 ws S_p (bx_val [(0, 0), (0, 0), (0, 0), (0, 0), (0, 0), (0, 0), (0, 0), (0, 0), (8, 1)] r_p 8)
    rw [bx_val_x (n := 8) (e := (8, 1)) h0_ rfl]
    exact g.2.2.1
  · show rxmCZ138x1_16 S0 ws S_p (bx_val [(0, 0), (0, 0), (0, 0), (0, 0), (0, 0), (0, 0), (0, 0), (0, 0), (8, 1)] r_p 8) < rxmCZ138x1_18 S0 ws S_p (r 8) (r 9) (r 10)
    rw [bx_val_x (n := 8) (e := (8, 1)) h0_ rfl, ← hr_ 8 (by decide), ← hr_ 9 (by decide), ← hr_ 10 (by decide)]
    exact g.2.2.2
theorem rxcCZ138x1_20_0 {S0 : Nat → Int → Int} {ws : List Int} {S : Nat → Int → Int} (hP : rxPCZ138x1 S0 ws) (hin : bx_same rxL (bx_mdl rxCCZ138x1.2.2.1) S0 S) (I0 : bx_Inv rxL S) (hinv : rxICZ138x1_20 S0 ws S)  : (True) ∧ (True) ∧ rxICZ138x1_21 S0 ws S ∧ rxmCZ138x1_21 S0 ws S < rxmCZ138x1_20 S0 ws S := by
  exact ⟨trivial, trivial, hinv, by unfold rxmCZ138x1_20 rxmCZ138x1_21; omega⟩
theorem rxgCZ138x1_20_0 {X : (Nat → Int → Int) → Prop} {S0 : Nat → Int → Int} {ws : List Int} (hP : rxPCZ138x1 S0 ws) : bx_obC rxL X S0 rxCCZ138x1.2.2.1 (rxICZ138x1 S0 ws) (rxmCZ138x1 S0 ws) 20 rxzCZ138x1_20 rxoCZ138x1_20_0 := by
  intro S S_p r r_p hinv hX hin hsm_ hseg
  obtain ⟨I0, I1, h0_, hr_, b_, f_, d_⟩ := bx_cl (evs := []) (fvs := []) hseg (by decide +kernel) (by decide +kernel)
  have hinv : rxICZ138x1_20 S0 ws S := hinv
  have w_ := d_
  subst w_
  have g := rxcCZ138x1_20_0 hP hin I0 hinv 
  refine ⟨bx_narP_ok (l := []) g.1, bx_nfP_ok h0_ (fvs := []) (by decide +kernel) g.2.1, ?_, ?_⟩
  · show rxICZ138x1_21 S0 ws S_p
    exact g.2.2.1
  · show rxmCZ138x1_21 S0 ws S_p < rxmCZ138x1_20 S0 ws S_p
    exact g.2.2.2
theorem rxcCZ138x1_22_0 {S0 : Nat → Int → Int} {ws : List Int} {S : Nat → Int → Int} (hP : rxPCZ138x1 S0 ws) (hin : bx_same rxL (bx_mdl rxCCZ138x1.2.2.1) S0 S) (I0 : bx_Inv rxL S) (hinv : rxICZ138x1_22 S0 ws S)  : (True) ∧ (True) ∧ rxICZ138x1_23 S0 ws S ∧ rxmCZ138x1_23 S0 ws S < rxmCZ138x1_22 S0 ws S := by
  exact ⟨trivial, trivial, hinv, by unfold rxmCZ138x1_22 rxmCZ138x1_23; omega⟩
theorem rxgCZ138x1_22_0 {X : (Nat → Int → Int) → Prop} {S0 : Nat → Int → Int} {ws : List Int} (hP : rxPCZ138x1 S0 ws) : bx_obC rxL X S0 rxCCZ138x1.2.2.1 (rxICZ138x1 S0 ws) (rxmCZ138x1 S0 ws) 22 rxzCZ138x1_22 rxoCZ138x1_22_0 := by
  intro S S_p r r_p hinv hX hin hsm_ hseg
  obtain ⟨I0, I1, h0_, hr_, b_, f_, d_⟩ := bx_cl (evs := []) (fvs := []) hseg (by decide +kernel) (by decide +kernel)
  have hinv : rxICZ138x1_22 S0 ws S := hinv
  have w_ := d_
  subst w_
  have g := rxcCZ138x1_22_0 hP hin I0 hinv 
  refine ⟨bx_narP_ok (l := []) g.1, bx_nfP_ok h0_ (fvs := []) (by decide +kernel) g.2.1, ?_, ?_⟩
  · show rxICZ138x1_23 S0 ws S_p
    exact g.2.2.1
  · show rxmCZ138x1_23 S0 ws S_p < rxmCZ138x1_22 S0 ws S_p
    exact g.2.2.2
theorem rxcCZ138x1_24_0 {S0 : Nat → Int → Int} {ws : List Int} {S : Nat → Int → Int} {x8 x9 : Int} (hP : rxPCZ138x1 S0 ws) (hin : bx_same rxL (bx_mdl rxCCZ138x1.2.2.1) S0 S) (I0 : bx_Inv rxL S) (hinv : rxICZ138x1_24 S0 ws S) (l8 : 0 ≤ x8) (u8 : x8 ≤ 6) (l9 : (-1) ≤ x9) (u9 : x9 ≤ 5) (e3 : S 1 14 = x8) (e1 : (bx_up S 138 14 x8) 1 15 = x9) : (True) ∧ (True) ∧ rxICZ138x1_25 S0 ws (bx_up (bx_up S 138 14 x8) 138 15 x9) 0 ∧ rxmCZ138x1_25 S0 ws (bx_up (bx_up S 138 14 x8) 138 15 x9) 0 < rxmCZ138x1_24 S0 ws S := by
  obtain ⟨h0, h1, h2, h3, h4, h5, h6, h7, h8, h9, h10, h11, h12, h13, h14, h15, h16, h17, hf, hW⟩ := hinv
  refine ⟨trivial, trivial, ⟨(bx_up_ne (by omega)).trans ((bx_up_ne (by omega)).trans (h0)), fun n hn => (bx_up_ne (by omega)).trans ((bx_up_ne (by omega)).trans (h1 n hn)), fun n hn => (bx_up_ne (by omega)).trans ((bx_up_ne (by omega)).trans (h2 n hn)), (bx_up_ne (by omega)).trans ((bx_up_ne (by omega)).trans (h3)), fun n hn => (bx_up_ne (by omega)).trans ((bx_up_ne (by omega)).trans (h4 n hn)), fun n hn => (bx_up_ne (by omega)).trans ((bx_up_ne (by omega)).trans (h5 n hn)), fun n hn => (bx_up_ne (by omega)).trans ((bx_up_ne (by omega)).trans (h6 n hn)), (bx_up_ne (by omega)).trans ((bx_up_ne (by omega)).trans (h7)), fun n hn => (bx_up_ne (by omega)).trans ((bx_up_ne (by omega)).trans (h8 n hn)), fun n hn => (bx_up_ne (by omega)).trans ((bx_up_ne (by omega)).trans (h9 n hn)), fun n hn => (bx_up_ne (by omega)).trans ((bx_up_ne (by omega)).trans (h10 n hn)), (bx_up_ne (by omega)).trans ((bx_up_ne (by omega)).trans (h11)), fun n hn => (bx_up_ne (by omega)).trans ((bx_up_ne (by omega)).trans (h12 n hn)), (bx_up_ne (by omega)).trans ((bx_up_ne (by omega)).trans (h13)), fun n hn => (bx_up_ne (by omega)).trans ((bx_up_ne (by omega)).trans (h14 n hn)), fun n hn => (bx_up_ne (by omega)).trans ((bx_up_ne (by omega)).trans (h15 n hn)), fun n hn => (bx_up_ne (by omega)).trans ((bx_up_ne (by omega)).trans (h16 n hn)), fun n hn => (bx_up_ne (by omega)).trans ((bx_up_ne (by omega)).trans (h17 n hn)), ((bx_up_ne (by omega))).trans (bx_up_at.trans ((e3).symm.trans (hf 1 14 (by decide) (by decide)))), bx_up_at.trans (((((bx_up_ne (by omega))).symm.trans e1)).symm.trans (hf 1 15 (by decide) (by decide))), fun p n hp hi => (bx_up_ne (fun h => by have e := h.1; subst e; revert hp; decide)).trans ((bx_up_ne (fun h => by have e := h.1; subst e; revert hp; decide)).trans (hf p n hp hi)), ?_⟩, by unfold rxmCZ138x1_24 rxmCZ138x1_25; omega⟩
  exact rkWt4_ne (by unfold rkTb; omega) hW (fun p j hp => by have hp : (23 ≤ p ∧ p < 137) ∨ (160 ≤ p ∧ p < 274) ∨ (296 ≤ p ∧ p < 410) := hp; exact (bx_up_ne (by omega)).trans ((bx_up_ne (by omega))))
theorem rxgCZ138x1_24_0 {X : (Nat → Int → Int) → Prop} {S0 : Nat → Int → Int} {ws : List Int} (hP : rxPCZ138x1 S0 ws) : bx_obC rxL X S0 rxCCZ138x1.2.2.1 (rxICZ138x1 S0 ws) (rxmCZ138x1 S0 ws) 24 rxzCZ138x1_24 rxoCZ138x1_24_0 := by
  intro S S_p r r_p hinv hX hin hsm_ hseg
  obtain ⟨I0, I1, h0_, hr_, b_, f_, d_⟩ := bx_cl (evs := [(1, (0, 138), (0, 15), .inr (0, (9, 0))), (0, (0, 1), (0, 15), .inr (0, (9, 0))), (1, (0, 138), (0, 14), .inr (0, (8, 0))), (0, (0, 1), (0, 14), .inr (0, (8, 0)))]) (fvs := []) hseg (by decide +kernel) (by decide +kernel)
  have hinv : rxICZ138x1_24 S0 ws S := hinv
  obtain ⟨⟨l8, u8⟩, ⟨l9, u9⟩, -⟩ := b_
  obtain ⟨T0, ⟨e1, ⟨T2, ⟨e3, w_⟩, w2⟩⟩, w0⟩ := d_
  subst w0
  subst w2
  subst w_
  have g := rxcCZ138x1_24_0 hP hin I0 hinv l8 u8 l9 u9 e3 e1
  refine ⟨bx_narP_ok (l := []) g.1, bx_nfP_ok h0_ (fvs := []) (by decide +kernel) g.2.1, ?_, ?_⟩
  · show rxICZ138x1_25 S0 ws (bx_up (bx_up T2 138 (14) (r_p 8)) 138 (15) (r_p 9)) (bx_val [(0, 0), (0, 0), (0, 0), (0, 0), (0, 0), (0, 0), (0, 0), (0, 0), (0, 0)] r_p 8)
    rw [bx_val_x (n := 8) (e := (0, 0)) h0_ rfl]
    exact g.2.2.1
  · show rxmCZ138x1_25 S0 ws (bx_up (bx_up T2 138 (14) (r_p 8)) 138 (15) (r_p 9)) (bx_val [(0, 0), (0, 0), (0, 0), (0, 0), (0, 0), (0, 0), (0, 0), (0, 0), (0, 0)] r_p 8) < rxmCZ138x1_24 S0 ws T2
    rw [bx_val_x (n := 8) (e := (0, 0)) h0_ rfl]
    exact g.2.2.2
theorem rxcCZ138x1_25_0 {S0 : Nat → Int → Int} {ws : List Int} {S : Nat → Int → Int} {i x9 x10 x11 : Int} (hP : rxPCZ138x1 S0 ws) (hin : bx_same rxL (bx_mdl rxCCZ138x1.2.2.1) S0 S) (I0 : bx_Inv rxL S) (hinv : rxICZ138x1_25 S0 ws S i) (l8 : 0 ≤ i) (u8 : i ≤ 5) (l9 : 1 ≤ x9) (u9 : x9 ≤ 6) (l10 : 0 ≤ x10) (u10 : x10 ≤ 1522) (l11 : 0 ≤ x11) (u11 : x11 ≤ 1522) (f0 : i < x9) (e2 : S 138 14 = x9) (e1 : S 157 i = x10) (e0 : S 20 i = x11) : (True) ∧ (True) ∧ rxICZ138x1_26 S0 ws S i x10 x11 ∧ rxmCZ138x1_26 S0 ws S i x10 x11 < rxmCZ138x1_25 S0 ws S i := by
  obtain ⟨h0, h1, h2, h3, h4, h5, h6, h7, h8, h9, h10, h11, h12, h13, h14, h15, h16, h17, h18, h19, hf, hW⟩ := id hinv
  have hpl := rkPl_sm hin (by decide +kernel) hP
  have gb := (hpl.1.2.2.1 i.toNat (by omega)).1
  have gs := (hpl.1.2.1 i.toNat (by omega)).1
  rw [Int.toNat_of_nonneg (show (0 : Int) ≤ i by omega)] at gb gs
  exact ⟨trivial, trivial, ⟨e1.symm.trans gb, e0.symm.trans gs, hinv⟩, by unfold rxmCZ138x1_25 rxmCZ138x1_26; omega⟩
theorem rxgCZ138x1_25_0 {X : (Nat → Int → Int) → Prop} {S0 : Nat → Int → Int} {ws : List Int} (hP : rxPCZ138x1 S0 ws) : bx_obC rxL X S0 rxCCZ138x1.2.2.1 (rxICZ138x1 S0 ws) (rxmCZ138x1 S0 ws) 25 rxzCZ138x1_25 rxoCZ138x1_25_0 := by
  intro S S_p r r_p hinv hX hin hsm_ hseg
  obtain ⟨I0, I1, h0_, hr_, b_, f_, d_⟩ := bx_cl (evs := [(0, (0, 20), (8, 0), .inr (3, (11, 0))), (0, (0, 157), (8, 0), .inr (3, (10, 0))), (0, (0, 138), (0, 14), .inr (0, (9, 0)))]) (fvs := [(0, (8, 0), (9, 0), (0, 0))]) hseg (by decide +kernel) (by decide +kernel)
  have hinv : rxICZ138x1_25 S0 ws S (r 8) := hinv
  rw [← hr_ 8 (by decide)] at hinv
  obtain ⟨⟨l8, u8⟩, ⟨l9, u9⟩, ⟨l10, u10⟩, ⟨l11, u11⟩, -⟩ := b_
  obtain ⟨f0, -⟩ := f_
  obtain ⟨e0, ⟨e1, ⟨e2, w_⟩⟩⟩ := d_
  subst w_
  have g := rxcCZ138x1_25_0 hP hin I0 hinv l8 u8 l9 u9 l10 u10 l11 u11 f0 e2 e1 e0
  refine ⟨bx_narP_ok (l := []) g.1, bx_nfP_ok h0_ (fvs := []) (by decide +kernel) g.2.1, ?_, ?_⟩
  · show rxICZ138x1_26 S0 ws S_p (bx_val [(0, 0), (0, 0), (0, 0), (0, 0), (0, 0), (0, 0), (0, 0), (0, 0), (8, 0), (10, 0), (11, 0)] r_p 8) (bx_val [(0, 0), (0, 0), (0, 0), (0, 0), (0, 0), (0, 0), (0, 0), (0, 0), (8, 0), (10, 0), (11, 0)] r_p 9) (bx_val [(0, 0), (0, 0), (0, 0), (0, 0), (0, 0), (0, 0), (0, 0), (0, 0), (8, 0), (10, 0), (11, 0)] r_p 10)
    rw [bx_val_x (n := 8) (e := (8, 0)) h0_ rfl, bx_val_x (n := 9) (e := (10, 0)) h0_ rfl, bx_val_x (n := 10) (e := (11, 0)) h0_ rfl]
    exact g.2.2.1
  · show rxmCZ138x1_26 S0 ws S_p (bx_val [(0, 0), (0, 0), (0, 0), (0, 0), (0, 0), (0, 0), (0, 0), (0, 0), (8, 0), (10, 0), (11, 0)] r_p 8) (bx_val [(0, 0), (0, 0), (0, 0), (0, 0), (0, 0), (0, 0), (0, 0), (0, 0), (8, 0), (10, 0), (11, 0)] r_p 9) (bx_val [(0, 0), (0, 0), (0, 0), (0, 0), (0, 0), (0, 0), (0, 0), (0, 0), (8, 0), (10, 0), (11, 0)] r_p 10) < rxmCZ138x1_25 S0 ws S_p (r 8)
    rw [bx_val_x (n := 8) (e := (8, 0)) h0_ rfl, bx_val_x (n := 9) (e := (10, 0)) h0_ rfl, bx_val_x (n := 10) (e := (11, 0)) h0_ rfl, ← hr_ 8 (by decide)]
    exact g.2.2.2
theorem rxdCZ138x1_25_0 {S0 : Nat → Int → Int} {ws : List Int} {S : Nat → Int → Int} {i x9 : Int} (hP : rxPCZ138x1 S0 ws) (hin : bx_same rxL (bx_mdl rxCCZ138x1.2.2.1) S0 S) (hin2 : bx_same rxL (bx_mdl rxCCZ138x1.2.2.1) S S) (I0 : bx_Inv rxL S) (I1 : bx_Inv rxL S) (hinv : rxICZ138x1_25 S0 ws S i) (l8 : 0 ≤ i) (u8 : i ≤ 6) (l9 : 0 ≤ x9) (u9 : x9 ≤ 6) (f0 : x9 ≤ i) (e0 : S 138 14 = x9) : (True) ∧ rxPSCZ138x1 S0 ws S none := by
  obtain ⟨h0, h1, h2, h3, h4, h5, h6, h7, h8, h9, h10, h11, h12, h13, h14, h15, h16, h17, h18, h19, hf, hW⟩ := hinv
  refine ⟨trivial, rfl, h0, h1, h2, h3, h4, h5, h6, h7, h8, h9, h10, h11, h12, h13, h14, h15, h16, h17, h18, h19, hf, ?_⟩
  exact ⟨fun k x y => hW.1 k x y, fun k x y => hW.2.1 k x y, fun k x y => hW.2.2.1 k (by
    have z := h18
    omega) y, hW.2.2.2⟩
theorem rxfCZ138x1_25_0 {X : (Nat → Int → Int) → Prop} {S0 : Nat → Int → Int} {ws : List Int} (hP : rxPCZ138x1 S0 ws) : bx_obE rxL X S0 rxCCZ138x1.2.2.1 (rxICZ138x1 S0 ws) (rxPSCZ138x1 S0 ws) 25 rxzCZ138x1_25 rxeCZ138x1_25_0 := by
  intro S S_p r r_p hinv hX hin hsm_ hseg
  obtain ⟨I0, I1, h0_, hr_, b_, f_, d_⟩ := bx_cl (evs := [(0, (0, 138), (0, 14), .inr (0, (9, 0)))]) (fvs := [(1, (9, 0), (8, 0), (0, 0))]) hseg (by decide +kernel) (by decide +kernel)
  have hinv : rxICZ138x1_25 S0 ws S (r 8) := hinv
  rw [← hr_ 8 (by decide)] at hinv
  obtain ⟨⟨l8, u8⟩, ⟨l9, u9⟩, -⟩ := b_
  obtain ⟨f0, -⟩ := f_
  obtain ⟨e0, w_⟩ := d_
  subst w_
  have g := rxdCZ138x1_25_0 hP hin hsm_ I0 I1 hinv l8 u8 l9 u9 f0 e0
  refine ⟨bx_narP_ok (l := []) g.1, ?_⟩
  exact g.2
theorem rxcCZ138x1_27_0 {S0 : Nat → Int → Int} {ws : List Int} {S : Nat → Int → Int} {i rp rq : Int} (hP : rxPCZ138x1 S0 ws) (hin : bx_same rxL (bx_mdl rxCCZ138x1.2.2.1) S0 S) (I0 : bx_Inv rxL S) (hinv : rxICZ138x1_27 S0 ws S i rp rq) (l8 : 0 ≤ i) (u8 : i ≤ 5) (l9 : 0 ≤ rp) (u9 : rp ≤ 1522) (l10 : 0 ≤ rq) (u10 : rq ≤ 1522) : (True) ∧ (True) ∧ rxICZ138x1_25 S0 ws S (i + 1) ∧ rxmCZ138x1_25 S0 ws S (i + 1) < rxmCZ138x1_27 S0 ws S i rp rq := by
  exact ⟨trivial, trivial, hinv, by unfold rxmCZ138x1_27 rxmCZ138x1_25; omega⟩
theorem rxgCZ138x1_27_0 {X : (Nat → Int → Int) → Prop} {S0 : Nat → Int → Int} {ws : List Int} (hP : rxPCZ138x1 S0 ws) : bx_obC rxL X S0 rxCCZ138x1.2.2.1 (rxICZ138x1 S0 ws) (rxmCZ138x1 S0 ws) 27 rxzCZ138x1_27 rxoCZ138x1_27_0 := by
  intro S S_p r r_p hinv hX hin hsm_ hseg
  obtain ⟨I0, I1, h0_, hr_, b_, f_, d_⟩ := bx_cl (evs := []) (fvs := []) hseg (by decide +kernel) (by decide +kernel)
  have hinv : rxICZ138x1_27 S0 ws S (r 8) (r 9) (r 10) := hinv
  rw [← hr_ 8 (by decide), ← hr_ 9 (by decide), ← hr_ 10 (by decide)] at hinv
  obtain ⟨⟨l8, u8⟩, ⟨l9, u9⟩, ⟨l10, u10⟩, -⟩ := b_
  have w_ := d_
  subst w_
  have g := rxcCZ138x1_27_0 hP hin I0 hinv l8 u8 l9 u9 l10 u10
  refine ⟨bx_narP_ok (l := []) g.1, bx_nfP_ok h0_ (fvs := []) (by decide +kernel) g.2.1, ?_, ?_⟩
  · show rxICZ138x1_25 S0 ws S_p (bx_val [(0, 0), (0, 0), (0, 0), (0, 0), (0, 0), (0, 0), (0, 0), (0, 0), (8, 1)] r_p 8)
    rw [bx_val_x (n := 8) (e := (8, 1)) h0_ rfl]
    exact g.2.2.1
  · show rxmCZ138x1_25 S0 ws S_p (bx_val [(0, 0), (0, 0), (0, 0), (0, 0), (0, 0), (0, 0), (0, 0), (0, 0), (8, 1)] r_p 8) < rxmCZ138x1_27 S0 ws S_p (r 8) (r 9) (r 10)
    rw [bx_val_x (n := 8) (e := (8, 1)) h0_ rfl, ← hr_ 8 (by decide), ← hr_ 9 (by decide), ← hr_ 10 (by decide)]
    exact g.2.2.2
theorem rxgCCZ138x1 {X : (Nat → Int → Int) → Prop} {S0 : Nat → Int → Int} {ws : List Int} (hP : rxPCZ138x1 S0 ws) : bx_allI (fun i q => rxUCZ138x1 q = true ∨ bx_allP (fun o => bx_obC rxL X S0 rxCCZ138x1.2.2.1 (rxICZ138x1 S0 ws) (rxmCZ138x1 S0 ws) i q.1 o) q.2.1) 0 rxYCZ138x1 := ⟨Or.inr ⟨rxgCZ138x1_0_0 hP, trivial⟩, Or.inl rfl, Or.inr ⟨rxgCZ138x1_2_0 hP, trivial⟩, Or.inl rfl, Or.inr ⟨rxgCZ138x1_4_0 hP, trivial⟩, Or.inr ⟨rxgCZ138x1_5_0 hP, rxgCZ138x1_5_1 hP, trivial⟩, Or.inl rfl, Or.inr ⟨rxgCZ138x1_7_0 hP, trivial⟩, Or.inl rfl, Or.inr ⟨rxgCZ138x1_9_0 hP, trivial⟩, Or.inl rfl, Or.inr ⟨rxgCZ138x1_11_0 hP, trivial⟩, Or.inl rfl, Or.inr ⟨rxgCZ138x1_13_0 hP, trivial⟩, Or.inl rfl, Or.inr ⟨rxgCZ138x1_15_0 hP, trivial⟩, Or.inr ⟨rxgCZ138x1_16_0 hP, rxgCZ138x1_16_1 hP, trivial⟩, Or.inl rfl, Or.inr ⟨rxgCZ138x1_18_0 hP, trivial⟩, Or.inl rfl, Or.inr ⟨rxgCZ138x1_20_0 hP, trivial⟩, Or.inl rfl, Or.inr ⟨rxgCZ138x1_22_0 hP, trivial⟩, Or.inl rfl, Or.inr ⟨rxgCZ138x1_24_0 hP, trivial⟩, Or.inr ⟨rxgCZ138x1_25_0 hP, trivial⟩, Or.inl rfl, Or.inr ⟨rxgCZ138x1_27_0 hP, trivial⟩, trivial⟩
theorem rxgECZ138x1 {X : (Nat → Int → Int) → Prop} {S0 : Nat → Int → Int} {ws : List Int} (hP : rxPCZ138x1 S0 ws) : bx_allI (fun i q => rxUCZ138x1 q = true ∨ bx_allP (fun E => bx_obE rxL X S0 rxCCZ138x1.2.2.1 (rxICZ138x1 S0 ws) (rxPSCZ138x1 S0 ws) i q.1 E) q.2.2) 0 rxYCZ138x1 := ⟨Or.inr trivial, Or.inl rfl, Or.inr trivial, Or.inl rfl, Or.inr trivial, Or.inr trivial, Or.inl rfl, Or.inr trivial, Or.inl rfl, Or.inr trivial, Or.inl rfl, Or.inr trivial, Or.inl rfl, Or.inr trivial, Or.inl rfl, Or.inr trivial, Or.inr trivial, Or.inl rfl, Or.inr trivial, Or.inl rfl, Or.inr trivial, Or.inl rfl, Or.inr trivial, Or.inl rfl, Or.inr trivial, Or.inr ⟨rxfCZ138x1_25_0 hP, trivial⟩, Or.inl rfl, Or.inr trivial, trivial⟩
theorem rxuCZ138x1 {PX : State → Prop} {Dg : va_G} {A : Nat → Prop} {ad xa : Nat → Nat} {l : Launch} {X : (Nat → Int → Int) → Prop} (hPX : rx_PXOK rxNW A PX) (hX : ∀ S S1 : Nat → Int → Int, X S → bx_same rxL (bx_mdl rxCCZ138x1.2.2.1) S S1 → X S1) (hQSCZ : bx_ConP rxG rxNW rxAO PX Dg rxL X vwCl A ad l rxM42 rxCSCZ rxPSCZ rxPSSCZ) (hQPC142x5 : bx_ConP rxG rxNW rxAO PX Dg rxL X vwCl A ad l rxM108 rxCPC142x5 rxPPC142x5 rxPSPC142x5) (hQDC151x14 : bx_ConP rxG rxNW rxAO PX Dg rxL X vwCl A ad l rxM109 rxCDC151x14 rxPDC151x14 rxPSDC151x14) (hQQCZ : bx_ConP rxG rxNW rxAO PX Dg rxL X vwCl A ad l rxM95 rxCQCZ rxPQCZ rxPSQCZ) {S0 : Nat → Int → Int} {ws : List Int} (hP : rxPCZ138x1 S0 ws) : ∀ (i : Nat) (q : bx_HE), rxYCZ138x1[i]? = some q → rxUCZ138x1 q = true → ∀ {p : Program} {e : Env} {R : Room} {s : State} {m : MethodId} {args : Array Value} {below : List Frame} {meth : Method} {c : Code} {Q : State → Prop} {H0 : Heap}, rx_Fr rxG rxNW rxAO PX p s m args meth c rxM154 → (∀ q, H0.size ≤ q → A q) → H0 = s.heap → rxM154.2.2.2.2.2.2.1 ≤ R.cells → rxM154.2.2.2.2.2.2.2 ≤ R.slots → rxCCZ138x1.2.2.2.1 ≤ R.frames → rxCCZ138x1.2.2.2.1 * 40 ≤ R.locals → bx_Step p l e R s m args below meth c Q Dg rxL X vwCl A xa H0 ad rxM154 rxYCZ138x1 (rxICZ138x1 S0 ws) (rxmCZ138x1 S0 ws) S0 rxCCZ138x1.2.2.1 i q := by
  intro i q hq hus p e R s m args below meth c Q H0 hF hA hH0 hmc hms hd hdl
  match i, hq with
  | 0, hq =>
    cases hq
    exact absurd (show false = true from hus) Bool.false_ne_true
  | 1, hq =>
    cases hq
    exact rx_stepY (i_p := 2) (idx := 86) (P0 := 2) (P1 := 139) (n := 6) (g0 := 0) (g1 := 0) (t := []) hF rfl (Nat.le_trans (by decide) hd) (Nat.le_trans (by decide) hdl) (by decide +kernel) (by decide +kernel) rfl rfl (by decide) (by decide) rfl rfl (by decide) (by decide) rfl rfl (by decide) (by decide) rfl rfl (rxsCZ138x1_1 hP hX)
  | 2, hq =>
    cases hq
    exact absurd (show false = true from hus) Bool.false_ne_true
  | 3, hq =>
    cases hq
    exact rx_stepY (i_p := 4) (idx := 86) (P0 := 3) (P1 := 140) (n := 6) (g0 := 1) (g1 := 1) (t := []) hF rfl (Nat.le_trans (by decide) hd) (Nat.le_trans (by decide) hdl) (by decide +kernel) (by decide +kernel) rfl rfl (by decide) (by decide) rfl rfl (by decide) (by decide) rfl rfl (by decide) (by decide) rfl rfl (rxsCZ138x1_3 hP hX)
  | 4, hq =>
    cases hq
    exact absurd (show false = true from hus) Bool.false_ne_true
  | 5, hq =>
    cases hq
    exact absurd (show false = true from hus) Bool.false_ne_true
  | 6, hq =>
    cases hq
    exact rx_stepC (ins := .invokevirtual 92) (len := 3) (i_p := 7) (M_p := rxM42) (d := rxCCZ138x1.2.2.2.1) (as := [.inr (3, (9, 0)), .inr (3, (10, 0))]) (t := []) (ct := rxCSCZ) hPX hF rfl hA hH0 hmc hms hd hdl (by decide +kernel) rfl rfl (by decide +kernel) (by decide +kernel) hQSCZ (by decide +kernel) rfl (Or.inl ⟨rfl, rfl, rfl⟩) (rxsCZ138x1_6 hP)
  | 7, hq =>
    cases hq
    exact absurd (show false = true from hus) Bool.false_ne_true
  | 8, hq =>
    cases hq
    exact rx_stepC (ins := .invokevirtual 96) (len := 3) (i_p := 9) (M_p := rxM108) (d := rxCCZ138x1.2.2.2.1) (as := [.inr (3, (0, 142)), .inr (3, (0, 5))]) (t := []) (ct := rxCPC142x5) hPX hF rfl hA hH0 hmc hms hd hdl (by decide +kernel) rfl rfl (by decide +kernel) (by decide +kernel) hQPC142x5 (by decide +kernel) rfl (Or.inl ⟨rfl, rfl, rfl⟩) (rxsCZ138x1_8 hP)
  | 9, hq =>
    cases hq
    exact absurd (show false = true from hus) Bool.false_ne_true
  | 10, hq =>
    cases hq
    exact rx_stepY (i_p := 11) (idx := 86) (P0 := 9) (P1 := 146) (n := 12) (g0 := 6) (g1 := 6) (t := []) hF rfl (Nat.le_trans (by decide) hd) (Nat.le_trans (by decide) hdl) (by decide +kernel) (by decide +kernel) rfl rfl (by decide) (by decide) rfl rfl (by decide) (by decide) rfl rfl (by decide) (by decide) rfl rfl (rxsCZ138x1_10 hP hX)
  | 11, hq =>
    cases hq
    exact absurd (show false = true from hus) Bool.false_ne_true
  | 12, hq =>
    cases hq
    exact rx_stepY (i_p := 13) (idx := 86) (P0 := 10) (P1 := 147) (n := 12) (g0 := 7) (g1 := 7) (t := []) hF rfl (Nat.le_trans (by decide) hd) (Nat.le_trans (by decide) hdl) (by decide +kernel) (by decide +kernel) rfl rfl (by decide) (by decide) rfl rfl (by decide) (by decide) rfl rfl (by decide) (by decide) rfl rfl (rxsCZ138x1_12 hP hX)
  | 13, hq =>
    cases hq
    exact absurd (show false = true from hus) Bool.false_ne_true
  | 14, hq =>
    cases hq
    exact rx_stepY (i_p := 15) (idx := 86) (P0 := 11) (P1 := 148) (n := 12) (g0 := 8) (g1 := 8) (t := []) hF rfl (Nat.le_trans (by decide) hd) (Nat.le_trans (by decide) hdl) (by decide +kernel) (by decide +kernel) rfl rfl (by decide) (by decide) rfl rfl (by decide) (by decide) rfl rfl (by decide) (by decide) rfl rfl (rxsCZ138x1_14 hP hX)
  | 15, hq =>
    cases hq
    exact absurd (show false = true from hus) Bool.false_ne_true
  | 16, hq =>
    cases hq
    exact absurd (show false = true from hus) Bool.false_ne_true
  | 17, hq =>
    cases hq
    exact rx_stepC (ins := .invokevirtual 92) (len := 3) (i_p := 18) (M_p := rxM42) (d := rxCCZ138x1.2.2.2.1) (as := [.inr (3, (9, 0)), .inr (3, (10, 0))]) (t := []) (ct := rxCSCZ) hPX hF rfl hA hH0 hmc hms hd hdl (by decide +kernel) rfl rfl (by decide +kernel) (by decide +kernel) hQSCZ (by decide +kernel) rfl (Or.inl ⟨rfl, rfl, rfl⟩) (rxsCZ138x1_17 hP)
  | 18, hq =>
    cases hq
    exact absurd (show false = true from hus) Bool.false_ne_true
  | 19, hq =>
    cases hq
    exact rx_stepY (i_p := 20) (idx := 86) (P0 := 13) (P1 := 150) (n := 12) (g0 := 10) (g1 := 10) (t := []) hF rfl (Nat.le_trans (by decide) hd) (Nat.le_trans (by decide) hdl) (by decide +kernel) (by decide +kernel) rfl rfl (by decide) (by decide) rfl rfl (by decide) (by decide) rfl rfl (by decide) (by decide) rfl rfl (rxsCZ138x1_19 hP hX)
  | 20, hq =>
    cases hq
    exact absurd (show false = true from hus) Bool.false_ne_true
  | 21, hq =>
    cases hq
    exact rx_stepC (ins := .invokevirtual 99) (len := 3) (i_p := 22) (M_p := rxM109) (d := rxCCZ138x1.2.2.2.1) (as := [.inr (3, (0, 151)), .inr (3, (0, 14))]) (t := []) (ct := rxCDC151x14) hPX hF rfl hA hH0 hmc hms hd hdl (by decide +kernel) rfl rfl (by decide +kernel) (by decide +kernel) hQDC151x14 (by decide +kernel) rfl (Or.inl ⟨rfl, rfl, rfl⟩) (rxsCZ138x1_21 hP)
  | 22, hq =>
    cases hq
    exact absurd (show false = true from hus) Bool.false_ne_true
  | 23, hq =>
    cases hq
    exact rx_stepY (i_p := 24) (idx := 86) (P0 := 19) (P1 := 156) (n := 3) (g0 := 15) (g1 := 15) (t := []) hF rfl (Nat.le_trans (by decide) hd) (Nat.le_trans (by decide) hdl) (by decide +kernel) (by decide +kernel) rfl rfl (by decide) (by decide) rfl rfl (by decide) (by decide) rfl rfl (by decide) (by decide) rfl rfl (rxsCZ138x1_23 hP hX)
  | 24, hq =>
    cases hq
    exact absurd (show false = true from hus) Bool.false_ne_true
  | 25, hq =>
    cases hq
    exact absurd (show false = true from hus) Bool.false_ne_true
  | 26, hq =>
    cases hq
    exact rx_stepC (ins := .invokevirtual 102) (len := 3) (i_p := 27) (M_p := rxM95) (d := rxCCZ138x1.2.2.2.1) (as := [.inr (3, (9, 0)), .inr (3, (10, 0))]) (t := []) (ct := rxCQCZ) hPX hF rfl hA hH0 hmc hms hd hdl (by decide +kernel) rfl rfl (by decide +kernel) (by decide +kernel) hQQCZ (by decide +kernel) rfl (Or.inl ⟨rfl, rfl, rfl⟩) (rxsCZ138x1_26 hP)
  | 27, hq =>
    cases hq
    exact absurd (show false = true from hus) Bool.false_ne_true
  | n + 28, hq => cases hq
theorem rxQCZ138x1 {PX : State → Prop} {Dg : va_G} {A : Nat → Prop} {ad xa : Nat → Nat} {l : Launch} {X : (Nat → Int → Int) → Prop} (hPX : rx_PXOK rxNW A PX) (hsl : ∀ s : State, PX s → ∀ o idx n : Nat, rxSl o idx = some n → ∃ tx : String, vk_R (rxNm o) idx tx (ad n) s)
    (hX : ∀ S S_p : Nat → Int → Int, X S → bx_same rxL (bx_mdl rxCCZ138x1.2.2.1) S S_p → X S_p)
    (ih : ∀ (j2 : Nat) (ct2 : bx_Ct) (M2 : rx_Mt), ct2 ∈ rxCnE j2 → ct2.2.2.2.1 + 1 ≤ rxCCZ138x1.2.2.2.1 → rxT.2.2.2.2.2 j2 = some M2 → bx_Con rxG rxNW rxAO PX Dg rxL X vwCl A ad l M2 ct2) (hQSCZ : bx_ConP rxG rxNW rxAO PX Dg rxL X vwCl A ad l rxM42 rxCSCZ rxPSCZ rxPSSCZ) (hQPC142x5 : bx_ConP rxG rxNW rxAO PX Dg rxL X vwCl A ad l rxM108 rxCPC142x5 rxPPC142x5 rxPSPC142x5) (hQDC151x14 : bx_ConP rxG rxNW rxAO PX Dg rxL X vwCl A ad l rxM109 rxCDC151x14 rxPDC151x14 rxPSDC151x14) (hQQCZ : bx_ConP rxG rxNW rxAO PX Dg rxL X vwCl A ad l rxM95 rxCQCZ rxPQCZ rxPSQCZ) : bx_ConP rxG rxNW rxAO PX Dg rxL X vwCl A ad l rxM154 rxCCZ138x1 rxPCZ138x1 rxPSCZ138x1 :=
  rxQof (xa := xa) (Cn := rxCnE) (f := 30000) (j := 154) (tab := rxYCZ138x1) (us := rxUCZ138x1) hPX hsl hX ih rfl rxYcCZ138x1 rxICZ138x1 rxmCZ138x1
    (fun S0 ws r I0 I ht0 ht as he he1 hX0 hI0 hP hs ha => by
      have e := he.symm.trans (show bx_ent0 rxNP rxCCZ138x1.1 bx_I0 [] = some ([(0, 0), (0, 0), (0, 0), (0, 0), (0, 0), (0, 0), (0, 0), (0, 0)], [], [.inr (3, (0, 138)), .inr (3, (0, 1))]) from rfl)
      cases e
      subst ha
      have h0 : r 0 = 0 := hs.1
      show rxICZ138x1_0 S0 _ S0
      refine ⟨rfl, ?_⟩
      simp only [List.map_cons, List.map_nil, bx_xv_ok h0]
      rfl)
    (fun S0 ws hP => rxuCZ138x1 (xa := xa) hPX hX hQSCZ hQPC142x5 hQDC151x14 hQQCZ hP) (fun S0 ws hP => rxgCCZ138x1 hP) (fun S0 ws hP => rxgECZ138x1 hP)
noncomputable def rxCCZ1x138 : bx_Ct := ([(3, (1, 1, 0)), (3, (1, 138, 0))], none, [(2, 0), (5, 0), (6, 0), (6, 4), (10, 0), (10, 5), (10, 10), (10, 14), (10, 15), (1000, 0), (1001, 0), (1003, 0), (1004, 0), (1005, 0), (1006, 0), (1007, 0), (1008, 0), (1010, 0), (1011, 0), (1012, 0), (1013, 0), (1015, 0), (1019, 0), (1020, 0), (1021, 0), (1022, 0), (1024, 0), (1025, 0), (1026, 0), (1027, 0)], 2, [])
noncomputable def rxICZ1x138_0 (S0 : Nat → Int → Int) (ws : List Int) (S : Nat → Int → Int) : Prop := S = S0 ∧ ws = [1, 138]
noncomputable def rxmCZ1x138_0 (S0 : Nat → Int → Int) (ws : List Int) (S : Nat → Int → Int) : Nat := 2000
noncomputable def rxzCZ1x138_0 : rx_Z := ([(0, 0), (0, 0), (0, 0), (0, 0), (0, 0), (0, 0), (0, 0), (0, 0)], [], [], 0, 0, 0, [(0, .inr (3, (0, 1))), (1, .inr (3, (0, 138)))], [])
noncomputable def rxICZ1x138_1 (S0 : Nat → Int → Int) (ws : List Int) (S : Nat → Int → Int) : Prop := S 1 0 = S0 138 0 ∧ (∀ p i : Nat, p ∈ rxFl1 → i < bx_wd (rxL.1 p) → S p (i : Int) = S0 p (i : Int)) ∧ rkWt4 S0 S 23 160 0 0 0
noncomputable def rxmCZ1x138_1 (S0 : Nat → Int → Int) (ws : List Int) (S : Nat → Int → Int) : Nat := 1990
noncomputable def rxzCZ1x138_1 : rx_Z := ([(0, 0), (0, 0), (0, 0), (0, 0), (0, 0), (0, 0), (0, 0), (0, 0)], [], [], 0, 0, 20, [(0, .inr (3, (0, 1))), (1, .inr (3, (0, 138)))], [.inr (0, (0, 6)), .inr (0, (0, 0)), .inr (3, (0, 2)), .inr (0, (0, 0)), .inr (3, (0, 139))])
noncomputable def rxICZ1x138_2 (S0 : Nat → Int → Int) (ws : List Int) (S : Nat → Int → Int) : Prop := S 1 0 = S0 138 0 ∧ (∀ i : Nat, i < 6 → S 2 (i : Int) = S0 139 (i : Int)) ∧ (∀ p i : Nat, p ∈ rxFl1 → i < bx_wd (rxL.1 p) → S p (i : Int) = S0 p (i : Int)) ∧ rkWt4 S0 S 23 160 0 0 0
noncomputable def rxmCZ1x138_2 (S0 : Nat → Int → Int) (ws : List Int) (S : Nat → Int → Int) : Nat := 1985
noncomputable def rxzCZ1x138_2 : rx_Z := ([(0, 0), (0, 0), (0, 0), (0, 0), (0, 0), (0, 0), (0, 0), (0, 0)], [], [], 0, 0, 23, [(0, .inr (3, (0, 1))), (1, .inr (3, (0, 138)))], [])
noncomputable def rxICZ1x138_3 (S0 : Nat → Int → Int) (ws : List Int) (S : Nat → Int → Int) : Prop := S 1 0 = S0 138 0 ∧ (∀ i : Nat, i < 6 → S 2 (i : Int) = S0 139 (i : Int)) ∧ (∀ p i : Nat, p ∈ rxFl1 → i < bx_wd (rxL.1 p) → S p (i : Int) = S0 p (i : Int)) ∧ rkWt4 S0 S 23 160 0 0 0
noncomputable def rxmCZ1x138_3 (S0 : Nat → Int → Int) (ws : List Int) (S : Nat → Int → Int) : Nat := 1980
noncomputable def rxzCZ1x138_3 : rx_Z := ([(0, 0), (0, 0), (0, 0), (0, 0), (0, 0), (0, 0), (0, 0), (0, 0)], [], [], 0, 0, 35, [(0, .inr (3, (0, 1))), (1, .inr (3, (0, 138)))], [.inr (0, (0, 6)), .inr (0, (0, 0)), .inr (3, (0, 3)), .inr (0, (0, 0)), .inr (3, (0, 140))])
noncomputable def rxICZ1x138_4 (S0 : Nat → Int → Int) (ws : List Int) (S : Nat → Int → Int) : Prop := S 1 0 = S0 138 0 ∧ (∀ i : Nat, i < 6 → S 2 (i : Int) = S0 139 (i : Int)) ∧ (∀ i : Nat, i < 6 → S 3 (i : Int) = S0 140 (i : Int)) ∧ (∀ p i : Nat, p ∈ rxFl1 → i < bx_wd (rxL.1 p) → S p (i : Int) = S0 p (i : Int)) ∧ rkWt4 S0 S 23 160 0 0 0
noncomputable def rxmCZ1x138_4 (S0 : Nat → Int → Int) (ws : List Int) (S : Nat → Int → Int) : Nat := 1975
noncomputable def rxzCZ1x138_4 : rx_Z := ([(0, 0), (0, 0), (0, 0), (0, 0), (0, 0), (0, 0), (0, 0), (0, 0)], [], [], 0, 0, 38, [(0, .inr (3, (0, 1))), (1, .inr (3, (0, 138)))], [])
noncomputable def rxICZ1x138_5 (S0 : Nat → Int → Int) (ws : List Int) (S : Nat → Int → Int) (i : Int) : Prop := S 1 0 = S0 138 0 ∧ (∀ i : Nat, i < 6 → S 2 (i : Int) = S0 139 (i : Int)) ∧ (∀ i : Nat, i < 6 → S 3 (i : Int) = S0 140 (i : Int)) ∧ (∀ p i : Nat, p ∈ rxFl1 → i < bx_wd (rxL.1 p) → S p (i : Int) = S0 p (i : Int)) ∧ rkWt4 S0 S 23 160 i 0 0
noncomputable def rxmCZ1x138_5 (S0 : Nat → Int → Int) (ws : List Int) (S : Nat → Int → Int) (i : Int) : Nat := 1670 + 10 * (20 - i).toNat
noncomputable def rxzCZ1x138_5 : rx_Z := ([(0, 0), (0, 0), (0, 0), (0, 0), (0, 0), (0, 0), (0, 0), (0, 0), (0, 6)], [], [], 0, 0, 40, [(0, .inr (3, (0, 1))), (1, .inr (3, (0, 138))), (2, .inr (0, (8, 0)))], [])
noncomputable def rxICZ1x138_6 (S0 : Nat → Int → Int) (ws : List Int) (S : Nat → Int → Int) (i rp rq : Int) : Prop := rp = ((23 + 3 * i.toNat : Nat) : Int) ∧ rq = ((160 + 3 * i.toNat : Nat) : Int) ∧ S 1 0 = S0 138 0 ∧ (∀ i : Nat, i < 6 → S 2 (i : Int) = S0 139 (i : Int)) ∧ (∀ i : Nat, i < 6 → S 3 (i : Int) = S0 140 (i : Int)) ∧ (∀ p i : Nat, p ∈ rxFl1 → i < bx_wd (rxL.1 p) → S p (i : Int) = S0 p (i : Int)) ∧ rkWt4 S0 S 23 160 i 0 0
noncomputable def rxmCZ1x138_6 (S0 : Nat → Int → Int) (ws : List Int) (S : Nat → Int → Int) (i rp rq : Int) : Nat := 1670 + 10 * (20 - i).toNat - 2
noncomputable def rxzCZ1x138_6 : rx_Z := ([(0, 0), (0, 0), (0, 0), (0, 0), (0, 0), (0, 0), (0, 0), (0, 0), (0, 5), (0, 1522), (0, 1522)], [], [(((9, 0), 1000010), .inl none), (((10, 0), 1000010), .inl none)], 0, 0, 58, [(0, .inr (3, (0, 1))), (1, .inr (3, (0, 138))), (2, .inr (0, (8, 0)))], [.inr (3, (10, 0)), .inr (3, (9, 0))])
noncomputable def rxICZ1x138_7 (S0 : Nat → Int → Int) (ws : List Int) (S : Nat → Int → Int) (i rp rq : Int) : Prop := S 1 0 = S0 138 0 ∧ (∀ i : Nat, i < 6 → S 2 (i : Int) = S0 139 (i : Int)) ∧ (∀ i : Nat, i < 6 → S 3 (i : Int) = S0 140 (i : Int)) ∧ (∀ p i : Nat, p ∈ rxFl1 → i < bx_wd (rxL.1 p) → S p (i : Int) = S0 p (i : Int)) ∧ rkWt4 S0 S 23 160 (i + 1) 0 0
noncomputable def rxmCZ1x138_7 (S0 : Nat → Int → Int) (ws : List Int) (S : Nat → Int → Int) (i rp rq : Int) : Nat := 1670 + 10 * (20 - i).toNat - 4
noncomputable def rxzCZ1x138_7 : rx_Z := ([(0, 0), (0, 0), (0, 0), (0, 0), (0, 0), (0, 0), (0, 0), (0, 0), (0, 5), (0, 1522), (0, 1522)], [], [(((9, 0), 1000010), .inl none), (((10, 0), 1000010), .inl none)], 0, 0, 61, [(0, .inr (3, (0, 1))), (1, .inr (3, (0, 138))), (2, .inr (0, (8, 0)))], [])
noncomputable def rxICZ1x138_8 (S0 : Nat → Int → Int) (ws : List Int) (S : Nat → Int → Int) : Prop := S 1 0 = S0 138 0 ∧ (∀ i : Nat, i < 6 → S 2 (i : Int) = S0 139 (i : Int)) ∧ (∀ i : Nat, i < 6 → S 3 (i : Int) = S0 140 (i : Int)) ∧ (∀ p i : Nat, p ∈ rxFl1 → i < bx_wd (rxL.1 p) → S p (i : Int) = S0 p (i : Int)) ∧ rkWt4 S0 S 23 160 6 0 0
noncomputable def rxmCZ1x138_8 (S0 : Nat → Int → Int) (ws : List Int) (S : Nat → Int → Int) : Nat := 1660
noncomputable def rxzCZ1x138_8 : rx_Z := ([(0, 0), (0, 0), (0, 0), (0, 0), (0, 0), (0, 0), (0, 0), (0, 0)], [], [], 0, 0, 75, [(0, .inr (3, (0, 1))), (1, .inr (3, (0, 138))), (2, .inr (0, (0, 6)))], [.inr (3, (0, 142)), .inr (3, (0, 5))])
noncomputable def rxICZ1x138_9 (S0 : Nat → Int → Int) (ws : List Int) (S : Nat → Int → Int) : Prop := S 1 0 = S0 138 0 ∧ (∀ i : Nat, i < 6 → S 2 (i : Int) = S0 139 (i : Int)) ∧ (∀ i : Nat, i < 6 → S 3 (i : Int) = S0 140 (i : Int)) ∧ S 5 0 = S0 142 0 ∧ (∀ i : Nat, i < 8 → S 6 (i : Int) = S0 143 (i : Int)) ∧ (∀ i : Nat, i < 8 → S 7 (i : Int) = S0 144 (i : Int)) ∧ (∀ i : Nat, i < 8 → S 8 (i : Int) = S0 145 (i : Int)) ∧ (∀ p i : Nat, p ∈ rxFl1 → i < bx_wd (rxL.1 p) → S p (i : Int) = S0 p (i : Int)) ∧ rkWt4 S0 S 23 160 6 0 0
noncomputable def rxmCZ1x138_9 (S0 : Nat → Int → Int) (ws : List Int) (S : Nat → Int → Int) : Nat := 1655
noncomputable def rxzCZ1x138_9 : rx_Z := ([(0, 0), (0, 0), (0, 0), (0, 0), (0, 0), (0, 0), (0, 0), (0, 0)], [], [], 0, 0, 78, [(0, .inr (3, (0, 1))), (1, .inr (3, (0, 138))), (2, .inr (0, (0, 6)))], [])
noncomputable def rxICZ1x138_10 (S0 : Nat → Int → Int) (ws : List Int) (S : Nat → Int → Int) : Prop := S 1 0 = S0 138 0 ∧ (∀ i : Nat, i < 6 → S 2 (i : Int) = S0 139 (i : Int)) ∧ (∀ i : Nat, i < 6 → S 3 (i : Int) = S0 140 (i : Int)) ∧ S 5 0 = S0 142 0 ∧ (∀ i : Nat, i < 8 → S 6 (i : Int) = S0 143 (i : Int)) ∧ (∀ i : Nat, i < 8 → S 7 (i : Int) = S0 144 (i : Int)) ∧ (∀ i : Nat, i < 8 → S 8 (i : Int) = S0 145 (i : Int)) ∧ S 1 5 = S0 138 5 ∧ (∀ p i : Nat, p ∈ rxFl1 → i < bx_wd (rxL.1 p) → S p (i : Int) = S0 p (i : Int)) ∧ rkWt4 S0 S 23 160 6 0 0
noncomputable def rxmCZ1x138_10 (S0 : Nat → Int → Int) (ws : List Int) (S : Nat → Int → Int) : Nat := 1650
noncomputable def rxzCZ1x138_10 : rx_Z := ([(0, 0), (0, 0), (0, 0), (0, 0), (0, 0), (0, 0), (0, 0), (0, 0)], [], [], 0, 0, 98, [(0, .inr (3, (0, 1))), (1, .inr (3, (0, 138))), (2, .inr (0, (0, 6)))], [.inr (0, (0, 12)), .inr (0, (0, 0)), .inr (3, (0, 9)), .inr (0, (0, 0)), .inr (3, (0, 146))])
noncomputable def rxICZ1x138_11 (S0 : Nat → Int → Int) (ws : List Int) (S : Nat → Int → Int) : Prop := S 1 0 = S0 138 0 ∧ (∀ i : Nat, i < 6 → S 2 (i : Int) = S0 139 (i : Int)) ∧ (∀ i : Nat, i < 6 → S 3 (i : Int) = S0 140 (i : Int)) ∧ S 5 0 = S0 142 0 ∧ (∀ i : Nat, i < 8 → S 6 (i : Int) = S0 143 (i : Int)) ∧ (∀ i : Nat, i < 8 → S 7 (i : Int) = S0 144 (i : Int)) ∧ (∀ i : Nat, i < 8 → S 8 (i : Int) = S0 145 (i : Int)) ∧ S 1 5 = S0 138 5 ∧ (∀ i : Nat, i < 12 → S 9 (i : Int) = S0 146 (i : Int)) ∧ (∀ p i : Nat, p ∈ rxFl1 → i < bx_wd (rxL.1 p) → S p (i : Int) = S0 p (i : Int)) ∧ rkWt4 S0 S 23 160 6 0 0
noncomputable def rxmCZ1x138_11 (S0 : Nat → Int → Int) (ws : List Int) (S : Nat → Int → Int) : Nat := 1645
noncomputable def rxzCZ1x138_11 : rx_Z := ([(0, 0), (0, 0), (0, 0), (0, 0), (0, 0), (0, 0), (0, 0), (0, 0)], [], [], 0, 0, 101, [(0, .inr (3, (0, 1))), (1, .inr (3, (0, 138))), (2, .inr (0, (0, 6)))], [])
noncomputable def rxICZ1x138_12 (S0 : Nat → Int → Int) (ws : List Int) (S : Nat → Int → Int) : Prop := S 1 0 = S0 138 0 ∧ (∀ i : Nat, i < 6 → S 2 (i : Int) = S0 139 (i : Int)) ∧ (∀ i : Nat, i < 6 → S 3 (i : Int) = S0 140 (i : Int)) ∧ S 5 0 = S0 142 0 ∧ (∀ i : Nat, i < 8 → S 6 (i : Int) = S0 143 (i : Int)) ∧ (∀ i : Nat, i < 8 → S 7 (i : Int) = S0 144 (i : Int)) ∧ (∀ i : Nat, i < 8 → S 8 (i : Int) = S0 145 (i : Int)) ∧ S 1 5 = S0 138 5 ∧ (∀ i : Nat, i < 12 → S 9 (i : Int) = S0 146 (i : Int)) ∧ (∀ p i : Nat, p ∈ rxFl1 → i < bx_wd (rxL.1 p) → S p (i : Int) = S0 p (i : Int)) ∧ rkWt4 S0 S 23 160 6 0 0
noncomputable def rxmCZ1x138_12 (S0 : Nat → Int → Int) (ws : List Int) (S : Nat → Int → Int) : Nat := 1640
noncomputable def rxzCZ1x138_12 : rx_Z := ([(0, 0), (0, 0), (0, 0), (0, 0), (0, 0), (0, 0), (0, 0), (0, 0)], [], [], 0, 0, 113, [(0, .inr (3, (0, 1))), (1, .inr (3, (0, 138))), (2, .inr (0, (0, 6)))], [.inr (0, (0, 12)), .inr (0, (0, 0)), .inr (3, (0, 10)), .inr (0, (0, 0)), .inr (3, (0, 147))])
noncomputable def rxICZ1x138_13 (S0 : Nat → Int → Int) (ws : List Int) (S : Nat → Int → Int) : Prop := S 1 0 = S0 138 0 ∧ (∀ i : Nat, i < 6 → S 2 (i : Int) = S0 139 (i : Int)) ∧ (∀ i : Nat, i < 6 → S 3 (i : Int) = S0 140 (i : Int)) ∧ S 5 0 = S0 142 0 ∧ (∀ i : Nat, i < 8 → S 6 (i : Int) = S0 143 (i : Int)) ∧ (∀ i : Nat, i < 8 → S 7 (i : Int) = S0 144 (i : Int)) ∧ (∀ i : Nat, i < 8 → S 8 (i : Int) = S0 145 (i : Int)) ∧ S 1 5 = S0 138 5 ∧ (∀ i : Nat, i < 12 → S 9 (i : Int) = S0 146 (i : Int)) ∧ (∀ i : Nat, i < 12 → S 10 (i : Int) = S0 147 (i : Int)) ∧ (∀ p i : Nat, p ∈ rxFl1 → i < bx_wd (rxL.1 p) → S p (i : Int) = S0 p (i : Int)) ∧ rkWt4 S0 S 23 160 6 0 0
noncomputable def rxmCZ1x138_13 (S0 : Nat → Int → Int) (ws : List Int) (S : Nat → Int → Int) : Nat := 1635
noncomputable def rxzCZ1x138_13 : rx_Z := ([(0, 0), (0, 0), (0, 0), (0, 0), (0, 0), (0, 0), (0, 0), (0, 0)], [], [], 0, 0, 116, [(0, .inr (3, (0, 1))), (1, .inr (3, (0, 138))), (2, .inr (0, (0, 6)))], [])
noncomputable def rxICZ1x138_14 (S0 : Nat → Int → Int) (ws : List Int) (S : Nat → Int → Int) : Prop := S 1 0 = S0 138 0 ∧ (∀ i : Nat, i < 6 → S 2 (i : Int) = S0 139 (i : Int)) ∧ (∀ i : Nat, i < 6 → S 3 (i : Int) = S0 140 (i : Int)) ∧ S 5 0 = S0 142 0 ∧ (∀ i : Nat, i < 8 → S 6 (i : Int) = S0 143 (i : Int)) ∧ (∀ i : Nat, i < 8 → S 7 (i : Int) = S0 144 (i : Int)) ∧ (∀ i : Nat, i < 8 → S 8 (i : Int) = S0 145 (i : Int)) ∧ S 1 5 = S0 138 5 ∧ (∀ i : Nat, i < 12 → S 9 (i : Int) = S0 146 (i : Int)) ∧ (∀ i : Nat, i < 12 → S 10 (i : Int) = S0 147 (i : Int)) ∧ (∀ p i : Nat, p ∈ rxFl1 → i < bx_wd (rxL.1 p) → S p (i : Int) = S0 p (i : Int)) ∧ rkWt4 S0 S 23 160 6 0 0
noncomputable def rxmCZ1x138_14 (S0 : Nat → Int → Int) (ws : List Int) (S : Nat → Int → Int) : Nat := 1630
noncomputable def rxzCZ1x138_14 : rx_Z := ([(0, 0), (0, 0), (0, 0), (0, 0), (0, 0), (0, 0), (0, 0), (0, 0)], [], [], 0, 0, 128, [(0, .inr (3, (0, 1))), (1, .inr (3, (0, 138))), (2, .inr (0, (0, 6)))], [.inr (0, (0, 12)), .inr (0, (0, 0)), .inr (3, (0, 11)), .inr (0, (0, 0)), .inr (3, (0, 148))])
noncomputable def rxICZ1x138_15 (S0 : Nat → Int → Int) (ws : List Int) (S : Nat → Int → Int) : Prop := S 1 0 = S0 138 0 ∧ (∀ i : Nat, i < 6 → S 2 (i : Int) = S0 139 (i : Int)) ∧ (∀ i : Nat, i < 6 → S 3 (i : Int) = S0 140 (i : Int)) ∧ S 5 0 = S0 142 0 ∧ (∀ i : Nat, i < 8 → S 6 (i : Int) = S0 143 (i : Int)) ∧ (∀ i : Nat, i < 8 → S 7 (i : Int) = S0 144 (i : Int)) ∧ (∀ i : Nat, i < 8 → S 8 (i : Int) = S0 145 (i : Int)) ∧ S 1 5 = S0 138 5 ∧ (∀ i : Nat, i < 12 → S 9 (i : Int) = S0 146 (i : Int)) ∧ (∀ i : Nat, i < 12 → S 10 (i : Int) = S0 147 (i : Int)) ∧ (∀ i : Nat, i < 12 → S 11 (i : Int) = S0 148 (i : Int)) ∧ (∀ p i : Nat, p ∈ rxFl1 → i < bx_wd (rxL.1 p) → S p (i : Int) = S0 p (i : Int)) ∧ rkWt4 S0 S 23 160 6 0 0
noncomputable def rxmCZ1x138_15 (S0 : Nat → Int → Int) (ws : List Int) (S : Nat → Int → Int) : Nat := 1625
noncomputable def rxzCZ1x138_15 : rx_Z := ([(0, 0), (0, 0), (0, 0), (0, 0), (0, 0), (0, 0), (0, 0), (0, 0)], [], [], 0, 0, 131, [(0, .inr (3, (0, 1))), (1, .inr (3, (0, 138))), (2, .inr (0, (0, 6)))], [])
noncomputable def rxICZ1x138_16 (S0 : Nat → Int → Int) (ws : List Int) (S : Nat → Int → Int) (i : Int) : Prop := S 1 0 = S0 138 0 ∧ (∀ i : Nat, i < 6 → S 2 (i : Int) = S0 139 (i : Int)) ∧ (∀ i : Nat, i < 6 → S 3 (i : Int) = S0 140 (i : Int)) ∧ S 5 0 = S0 142 0 ∧ (∀ i : Nat, i < 8 → S 6 (i : Int) = S0 143 (i : Int)) ∧ (∀ i : Nat, i < 8 → S 7 (i : Int) = S0 144 (i : Int)) ∧ (∀ i : Nat, i < 8 → S 8 (i : Int) = S0 145 (i : Int)) ∧ S 1 5 = S0 138 5 ∧ (∀ i : Nat, i < 12 → S 9 (i : Int) = S0 146 (i : Int)) ∧ (∀ i : Nat, i < 12 → S 10 (i : Int) = S0 147 (i : Int)) ∧ (∀ i : Nat, i < 12 → S 11 (i : Int) = S0 148 (i : Int)) ∧ (∀ p i : Nat, p ∈ rxFl1 → i < bx_wd (rxL.1 p) → S p (i : Int) = S0 p (i : Int)) ∧ rkWt4 S0 S 23 160 6 i 0
noncomputable def rxmCZ1x138_16 (S0 : Nat → Int → Int) (ws : List Int) (S : Nat → Int → Int) (i : Int) : Nat := 1320 + 10 * (20 - i).toNat
noncomputable def rxzCZ1x138_16 : rx_Z := ([(0, 0), (0, 0), (0, 0), (0, 0), (0, 0), (0, 0), (0, 0), (0, 0), (0, 12)], [], [], 0, 0, 133, [(0, .inr (3, (0, 1))), (1, .inr (3, (0, 138))), (2, .inr (0, (8, 0)))], [])
noncomputable def rxICZ1x138_17 (S0 : Nat → Int → Int) (ws : List Int) (S : Nat → Int → Int) (i rp rq : Int) : Prop := rp = ((41 + 3 * i.toNat : Nat) : Int) ∧ rq = ((178 + 3 * i.toNat : Nat) : Int) ∧ S 1 0 = S0 138 0 ∧ (∀ i : Nat, i < 6 → S 2 (i : Int) = S0 139 (i : Int)) ∧ (∀ i : Nat, i < 6 → S 3 (i : Int) = S0 140 (i : Int)) ∧ S 5 0 = S0 142 0 ∧ (∀ i : Nat, i < 8 → S 6 (i : Int) = S0 143 (i : Int)) ∧ (∀ i : Nat, i < 8 → S 7 (i : Int) = S0 144 (i : Int)) ∧ (∀ i : Nat, i < 8 → S 8 (i : Int) = S0 145 (i : Int)) ∧ S 1 5 = S0 138 5 ∧ (∀ i : Nat, i < 12 → S 9 (i : Int) = S0 146 (i : Int)) ∧ (∀ i : Nat, i < 12 → S 10 (i : Int) = S0 147 (i : Int)) ∧ (∀ i : Nat, i < 12 → S 11 (i : Int) = S0 148 (i : Int)) ∧ (∀ p i : Nat, p ∈ rxFl1 → i < bx_wd (rxL.1 p) → S p (i : Int) = S0 p (i : Int)) ∧ rkWt4 S0 S 23 160 6 i 0
noncomputable def rxmCZ1x138_17 (S0 : Nat → Int → Int) (ws : List Int) (S : Nat → Int → Int) (i rp rq : Int) : Nat := 1320 + 10 * (20 - i).toNat - 2
noncomputable def rxzCZ1x138_17 : rx_Z := ([(0, 0), (0, 0), (0, 0), (0, 0), (0, 0), (0, 0), (0, 0), (0, 0), (0, 11), (0, 1522), (0, 1522)], [], [(((9, 0), 1000010), .inl none), (((10, 0), 1000010), .inl none)], 0, 0, 151, [(0, .inr (3, (0, 1))), (1, .inr (3, (0, 138))), (2, .inr (0, (8, 0)))], [.inr (3, (10, 0)), .inr (3, (9, 0))])
noncomputable def rxICZ1x138_18 (S0 : Nat → Int → Int) (ws : List Int) (S : Nat → Int → Int) (i rp rq : Int) : Prop := S 1 0 = S0 138 0 ∧ (∀ i : Nat, i < 6 → S 2 (i : Int) = S0 139 (i : Int)) ∧ (∀ i : Nat, i < 6 → S 3 (i : Int) = S0 140 (i : Int)) ∧ S 5 0 = S0 142 0 ∧ (∀ i : Nat, i < 8 → S 6 (i : Int) = S0 143 (i : Int)) ∧ (∀ i : Nat, i < 8 → S 7 (i : Int) = S0 144 (i : Int)) ∧ (∀ i : Nat, i < 8 → S 8 (i : Int) = S0 145 (i : Int)) ∧ S 1 5 = S0 138 5 ∧ (∀ i : Nat, i < 12 → S 9 (i : Int) = S0 146 (i : Int)) ∧ (∀ i : Nat, i < 12 → S 10 (i : Int) = S0 147 (i : Int)) ∧ (∀ i : Nat, i < 12 → S 11 (i : Int) = S0 148 (i : Int)) ∧ (∀ p i : Nat, p ∈ rxFl1 → i < bx_wd (rxL.1 p) → S p (i : Int) = S0 p (i : Int)) ∧ rkWt4 S0 S 23 160 6 (i + 1) 0
noncomputable def rxmCZ1x138_18 (S0 : Nat → Int → Int) (ws : List Int) (S : Nat → Int → Int) (i rp rq : Int) : Nat := 1320 + 10 * (20 - i).toNat - 4
noncomputable def rxzCZ1x138_18 : rx_Z := ([(0, 0), (0, 0), (0, 0), (0, 0), (0, 0), (0, 0), (0, 0), (0, 0), (0, 11), (0, 1522), (0, 1522)], [], [(((9, 0), 1000010), .inl none), (((10, 0), 1000010), .inl none)], 0, 0, 154, [(0, .inr (3, (0, 1))), (1, .inr (3, (0, 138))), (2, .inr (0, (8, 0)))], [])
noncomputable def rxICZ1x138_19 (S0 : Nat → Int → Int) (ws : List Int) (S : Nat → Int → Int) : Prop := S 1 0 = S0 138 0 ∧ (∀ i : Nat, i < 6 → S 2 (i : Int) = S0 139 (i : Int)) ∧ (∀ i : Nat, i < 6 → S 3 (i : Int) = S0 140 (i : Int)) ∧ S 5 0 = S0 142 0 ∧ (∀ i : Nat, i < 8 → S 6 (i : Int) = S0 143 (i : Int)) ∧ (∀ i : Nat, i < 8 → S 7 (i : Int) = S0 144 (i : Int)) ∧ (∀ i : Nat, i < 8 → S 8 (i : Int) = S0 145 (i : Int)) ∧ S 1 5 = S0 138 5 ∧ (∀ i : Nat, i < 12 → S 9 (i : Int) = S0 146 (i : Int)) ∧ (∀ i : Nat, i < 12 → S 10 (i : Int) = S0 147 (i : Int)) ∧ (∀ i : Nat, i < 12 → S 11 (i : Int) = S0 148 (i : Int)) ∧ S 1 10 = S0 138 10 ∧ (∀ p i : Nat, p ∈ rxFl1 → i < bx_wd (rxL.1 p) → S p (i : Int) = S0 p (i : Int)) ∧ rkWt4 S0 S 23 160 6 12 0
noncomputable def rxmCZ1x138_19 (S0 : Nat → Int → Int) (ws : List Int) (S : Nat → Int → Int) : Nat := 1310
noncomputable def rxzCZ1x138_19 : rx_Z := ([(0, 0), (0, 0), (0, 0), (0, 0), (0, 0), (0, 0), (0, 0), (0, 0)], [], [], 0, 0, 180, [(0, .inr (3, (0, 1))), (1, .inr (3, (0, 138))), (2, .inr (0, (0, 12)))], [.inr (0, (0, 12)), .inr (0, (0, 0)), .inr (3, (0, 13)), .inr (0, (0, 0)), .inr (3, (0, 150))])
noncomputable def rxICZ1x138_20 (S0 : Nat → Int → Int) (ws : List Int) (S : Nat → Int → Int) : Prop := S 1 0 = S0 138 0 ∧ (∀ i : Nat, i < 6 → S 2 (i : Int) = S0 139 (i : Int)) ∧ (∀ i : Nat, i < 6 → S 3 (i : Int) = S0 140 (i : Int)) ∧ S 5 0 = S0 142 0 ∧ (∀ i : Nat, i < 8 → S 6 (i : Int) = S0 143 (i : Int)) ∧ (∀ i : Nat, i < 8 → S 7 (i : Int) = S0 144 (i : Int)) ∧ (∀ i : Nat, i < 8 → S 8 (i : Int) = S0 145 (i : Int)) ∧ S 1 5 = S0 138 5 ∧ (∀ i : Nat, i < 12 → S 9 (i : Int) = S0 146 (i : Int)) ∧ (∀ i : Nat, i < 12 → S 10 (i : Int) = S0 147 (i : Int)) ∧ (∀ i : Nat, i < 12 → S 11 (i : Int) = S0 148 (i : Int)) ∧ S 1 10 = S0 138 10 ∧ (∀ i : Nat, i < 12 → S 13 (i : Int) = S0 150 (i : Int)) ∧ (∀ p i : Nat, p ∈ rxFl1 → i < bx_wd (rxL.1 p) → S p (i : Int) = S0 p (i : Int)) ∧ rkWt4 S0 S 23 160 6 12 0
noncomputable def rxmCZ1x138_20 (S0 : Nat → Int → Int) (ws : List Int) (S : Nat → Int → Int) : Nat := 1305
noncomputable def rxzCZ1x138_20 : rx_Z := ([(0, 0), (0, 0), (0, 0), (0, 0), (0, 0), (0, 0), (0, 0), (0, 0)], [], [], 0, 0, 183, [(0, .inr (3, (0, 1))), (1, .inr (3, (0, 138))), (2, .inr (0, (0, 12)))], [])
noncomputable def rxICZ1x138_21 (S0 : Nat → Int → Int) (ws : List Int) (S : Nat → Int → Int) : Prop := S 1 0 = S0 138 0 ∧ (∀ i : Nat, i < 6 → S 2 (i : Int) = S0 139 (i : Int)) ∧ (∀ i : Nat, i < 6 → S 3 (i : Int) = S0 140 (i : Int)) ∧ S 5 0 = S0 142 0 ∧ (∀ i : Nat, i < 8 → S 6 (i : Int) = S0 143 (i : Int)) ∧ (∀ i : Nat, i < 8 → S 7 (i : Int) = S0 144 (i : Int)) ∧ (∀ i : Nat, i < 8 → S 8 (i : Int) = S0 145 (i : Int)) ∧ S 1 5 = S0 138 5 ∧ (∀ i : Nat, i < 12 → S 9 (i : Int) = S0 146 (i : Int)) ∧ (∀ i : Nat, i < 12 → S 10 (i : Int) = S0 147 (i : Int)) ∧ (∀ i : Nat, i < 12 → S 11 (i : Int) = S0 148 (i : Int)) ∧ S 1 10 = S0 138 10 ∧ (∀ i : Nat, i < 12 → S 13 (i : Int) = S0 150 (i : Int)) ∧ (∀ p i : Nat, p ∈ rxFl1 → i < bx_wd (rxL.1 p) → S p (i : Int) = S0 p (i : Int)) ∧ rkWt4 S0 S 23 160 6 12 0
noncomputable def rxmCZ1x138_21 (S0 : Nat → Int → Int) (ws : List Int) (S : Nat → Int → Int) : Nat := 1300
noncomputable def rxzCZ1x138_21 : rx_Z := ([(0, 0), (0, 0), (0, 0), (0, 0), (0, 0), (0, 0), (0, 0), (0, 0)], [], [], 0, 0, 191, [(0, .inr (3, (0, 1))), (1, .inr (3, (0, 138))), (2, .inr (0, (0, 12)))], [.inr (3, (0, 151)), .inr (3, (0, 14))])
noncomputable def rxICZ1x138_22 (S0 : Nat → Int → Int) (ws : List Int) (S : Nat → Int → Int) : Prop := S 1 0 = S0 138 0 ∧ (∀ i : Nat, i < 6 → S 2 (i : Int) = S0 139 (i : Int)) ∧ (∀ i : Nat, i < 6 → S 3 (i : Int) = S0 140 (i : Int)) ∧ S 5 0 = S0 142 0 ∧ (∀ i : Nat, i < 8 → S 6 (i : Int) = S0 143 (i : Int)) ∧ (∀ i : Nat, i < 8 → S 7 (i : Int) = S0 144 (i : Int)) ∧ (∀ i : Nat, i < 8 → S 8 (i : Int) = S0 145 (i : Int)) ∧ S 1 5 = S0 138 5 ∧ (∀ i : Nat, i < 12 → S 9 (i : Int) = S0 146 (i : Int)) ∧ (∀ i : Nat, i < 12 → S 10 (i : Int) = S0 147 (i : Int)) ∧ (∀ i : Nat, i < 12 → S 11 (i : Int) = S0 148 (i : Int)) ∧ S 1 10 = S0 138 10 ∧ (∀ i : Nat, i < 12 → S 13 (i : Int) = S0 150 (i : Int)) ∧ S 14 0 = S0 151 0 ∧ (∀ i : Nat, i < 12 → S 15 (i : Int) = S0 152 (i : Int)) ∧ (∀ i : Nat, i < 12 → S 16 (i : Int) = S0 153 (i : Int)) ∧ (∀ i : Nat, i < 12 → S 17 (i : Int) = S0 154 (i : Int)) ∧ (∀ p i : Nat, p ∈ rxFl1 → i < bx_wd (rxL.1 p) → S p (i : Int) = S0 p (i : Int)) ∧ rkWt4 S0 S 23 160 6 12 0
noncomputable def rxmCZ1x138_22 (S0 : Nat → Int → Int) (ws : List Int) (S : Nat → Int → Int) : Nat := 1295
noncomputable def rxzCZ1x138_22 : rx_Z := ([(0, 0), (0, 0), (0, 0), (0, 0), (0, 0), (0, 0), (0, 0), (0, 0)], [], [], 0, 0, 194, [(0, .inr (3, (0, 1))), (1, .inr (3, (0, 138))), (2, .inr (0, (0, 12)))], [])
noncomputable def rxICZ1x138_23 (S0 : Nat → Int → Int) (ws : List Int) (S : Nat → Int → Int) : Prop := S 1 0 = S0 138 0 ∧ (∀ i : Nat, i < 6 → S 2 (i : Int) = S0 139 (i : Int)) ∧ (∀ i : Nat, i < 6 → S 3 (i : Int) = S0 140 (i : Int)) ∧ S 5 0 = S0 142 0 ∧ (∀ i : Nat, i < 8 → S 6 (i : Int) = S0 143 (i : Int)) ∧ (∀ i : Nat, i < 8 → S 7 (i : Int) = S0 144 (i : Int)) ∧ (∀ i : Nat, i < 8 → S 8 (i : Int) = S0 145 (i : Int)) ∧ S 1 5 = S0 138 5 ∧ (∀ i : Nat, i < 12 → S 9 (i : Int) = S0 146 (i : Int)) ∧ (∀ i : Nat, i < 12 → S 10 (i : Int) = S0 147 (i : Int)) ∧ (∀ i : Nat, i < 12 → S 11 (i : Int) = S0 148 (i : Int)) ∧ S 1 10 = S0 138 10 ∧ (∀ i : Nat, i < 12 → S 13 (i : Int) = S0 150 (i : Int)) ∧ S 14 0 = S0 151 0 ∧ (∀ i : Nat, i < 12 → S 15 (i : Int) = S0 152 (i : Int)) ∧ (∀ i : Nat, i < 12 → S 16 (i : Int) = S0 153 (i : Int)) ∧ (∀ i : Nat, i < 12 → S 17 (i : Int) = S0 154 (i : Int)) ∧ (∀ p i : Nat, p ∈ rxFl1 → i < bx_wd (rxL.1 p) → S p (i : Int) = S0 p (i : Int)) ∧ rkWt4 S0 S 23 160 6 12 0
noncomputable def rxmCZ1x138_23 (S0 : Nat → Int → Int) (ws : List Int) (S : Nat → Int → Int) : Nat := 1290
noncomputable def rxzCZ1x138_23 : rx_Z := ([(0, 0), (0, 0), (0, 0), (0, 0), (0, 0), (0, 0), (0, 0), (0, 0)], [], [], 0, 0, 205, [(0, .inr (3, (0, 1))), (1, .inr (3, (0, 138))), (2, .inr (0, (0, 12)))], [.inr (0, (0, 3)), .inr (0, (0, 0)), .inr (3, (0, 19)), .inr (0, (0, 0)), .inr (3, (0, 156))])
noncomputable def rxICZ1x138_24 (S0 : Nat → Int → Int) (ws : List Int) (S : Nat → Int → Int) : Prop := S 1 0 = S0 138 0 ∧ (∀ i : Nat, i < 6 → S 2 (i : Int) = S0 139 (i : Int)) ∧ (∀ i : Nat, i < 6 → S 3 (i : Int) = S0 140 (i : Int)) ∧ S 5 0 = S0 142 0 ∧ (∀ i : Nat, i < 8 → S 6 (i : Int) = S0 143 (i : Int)) ∧ (∀ i : Nat, i < 8 → S 7 (i : Int) = S0 144 (i : Int)) ∧ (∀ i : Nat, i < 8 → S 8 (i : Int) = S0 145 (i : Int)) ∧ S 1 5 = S0 138 5 ∧ (∀ i : Nat, i < 12 → S 9 (i : Int) = S0 146 (i : Int)) ∧ (∀ i : Nat, i < 12 → S 10 (i : Int) = S0 147 (i : Int)) ∧ (∀ i : Nat, i < 12 → S 11 (i : Int) = S0 148 (i : Int)) ∧ S 1 10 = S0 138 10 ∧ (∀ i : Nat, i < 12 → S 13 (i : Int) = S0 150 (i : Int)) ∧ S 14 0 = S0 151 0 ∧ (∀ i : Nat, i < 12 → S 15 (i : Int) = S0 152 (i : Int)) ∧ (∀ i : Nat, i < 12 → S 16 (i : Int) = S0 153 (i : Int)) ∧ (∀ i : Nat, i < 12 → S 17 (i : Int) = S0 154 (i : Int)) ∧ (∀ i : Nat, i < 3 → S 19 (i : Int) = S0 156 (i : Int)) ∧ (∀ p i : Nat, p ∈ rxFl1 → i < bx_wd (rxL.1 p) → S p (i : Int) = S0 p (i : Int)) ∧ rkWt4 S0 S 23 160 6 12 0
noncomputable def rxmCZ1x138_24 (S0 : Nat → Int → Int) (ws : List Int) (S : Nat → Int → Int) : Nat := 1285
noncomputable def rxzCZ1x138_24 : rx_Z := ([(0, 0), (0, 0), (0, 0), (0, 0), (0, 0), (0, 0), (0, 0), (0, 0)], [], [], 0, 0, 208, [(0, .inr (3, (0, 1))), (1, .inr (3, (0, 138))), (2, .inr (0, (0, 12)))], [])
noncomputable def rxICZ1x138_25 (S0 : Nat → Int → Int) (ws : List Int) (S : Nat → Int → Int) (i : Int) : Prop := S 1 0 = S0 138 0 ∧ (∀ i : Nat, i < 6 → S 2 (i : Int) = S0 139 (i : Int)) ∧ (∀ i : Nat, i < 6 → S 3 (i : Int) = S0 140 (i : Int)) ∧ S 5 0 = S0 142 0 ∧ (∀ i : Nat, i < 8 → S 6 (i : Int) = S0 143 (i : Int)) ∧ (∀ i : Nat, i < 8 → S 7 (i : Int) = S0 144 (i : Int)) ∧ (∀ i : Nat, i < 8 → S 8 (i : Int) = S0 145 (i : Int)) ∧ S 1 5 = S0 138 5 ∧ (∀ i : Nat, i < 12 → S 9 (i : Int) = S0 146 (i : Int)) ∧ (∀ i : Nat, i < 12 → S 10 (i : Int) = S0 147 (i : Int)) ∧ (∀ i : Nat, i < 12 → S 11 (i : Int) = S0 148 (i : Int)) ∧ S 1 10 = S0 138 10 ∧ (∀ i : Nat, i < 12 → S 13 (i : Int) = S0 150 (i : Int)) ∧ S 14 0 = S0 151 0 ∧ (∀ i : Nat, i < 12 → S 15 (i : Int) = S0 152 (i : Int)) ∧ (∀ i : Nat, i < 12 → S 16 (i : Int) = S0 153 (i : Int)) ∧ (∀ i : Nat, i < 12 → S 17 (i : Int) = S0 154 (i : Int)) ∧ (∀ i : Nat, i < 3 → S 19 (i : Int) = S0 156 (i : Int)) ∧ S 1 14 = S0 138 14 ∧ S 1 15 = S0 138 15 ∧ (∀ p i : Nat, p ∈ rxFl1 → i < bx_wd (rxL.1 p) → S p (i : Int) = S0 p (i : Int)) ∧ rkWt4 S0 S 23 160 6 12 i
noncomputable def rxmCZ1x138_25 (S0 : Nat → Int → Int) (ws : List Int) (S : Nat → Int → Int) (i : Int) : Nat := 980 + 10 * (20 - i).toNat
noncomputable def rxzCZ1x138_25 : rx_Z := ([(0, 0), (0, 0), (0, 0), (0, 0), (0, 0), (0, 0), (0, 0), (0, 0), (0, 6)], [], [], 0, 0, 226, [(0, .inr (3, (0, 1))), (1, .inr (3, (0, 138))), (2, .inr (0, (8, 0)))], [])
noncomputable def rxICZ1x138_26 (S0 : Nat → Int → Int) (ws : List Int) (S : Nat → Int → Int) (i rp rq : Int) : Prop := rp = ((77 + 10 * i.toNat : Nat) : Int) ∧ rq = ((214 + 10 * i.toNat : Nat) : Int) ∧ S 1 0 = S0 138 0 ∧ (∀ i : Nat, i < 6 → S 2 (i : Int) = S0 139 (i : Int)) ∧ (∀ i : Nat, i < 6 → S 3 (i : Int) = S0 140 (i : Int)) ∧ S 5 0 = S0 142 0 ∧ (∀ i : Nat, i < 8 → S 6 (i : Int) = S0 143 (i : Int)) ∧ (∀ i : Nat, i < 8 → S 7 (i : Int) = S0 144 (i : Int)) ∧ (∀ i : Nat, i < 8 → S 8 (i : Int) = S0 145 (i : Int)) ∧ S 1 5 = S0 138 5 ∧ (∀ i : Nat, i < 12 → S 9 (i : Int) = S0 146 (i : Int)) ∧ (∀ i : Nat, i < 12 → S 10 (i : Int) = S0 147 (i : Int)) ∧ (∀ i : Nat, i < 12 → S 11 (i : Int) = S0 148 (i : Int)) ∧ S 1 10 = S0 138 10 ∧ (∀ i : Nat, i < 12 → S 13 (i : Int) = S0 150 (i : Int)) ∧ S 14 0 = S0 151 0 ∧ (∀ i : Nat, i < 12 → S 15 (i : Int) = S0 152 (i : Int)) ∧ (∀ i : Nat, i < 12 → S 16 (i : Int) = S0 153 (i : Int)) ∧ (∀ i : Nat, i < 12 → S 17 (i : Int) = S0 154 (i : Int)) ∧ (∀ i : Nat, i < 3 → S 19 (i : Int) = S0 156 (i : Int)) ∧ S 1 14 = S0 138 14 ∧ S 1 15 = S0 138 15 ∧ (∀ p i : Nat, p ∈ rxFl1 → i < bx_wd (rxL.1 p) → S p (i : Int) = S0 p (i : Int)) ∧ rkWt4 S0 S 23 160 6 12 i
noncomputable def rxmCZ1x138_26 (S0 : Nat → Int → Int) (ws : List Int) (S : Nat → Int → Int) (i rp rq : Int) : Nat := 980 + 10 * (20 - i).toNat - 2
noncomputable def rxzCZ1x138_26 : rx_Z := ([(0, 0), (0, 0), (0, 0), (0, 0), (0, 0), (0, 0), (0, 0), (0, 0), (0, 5), (0, 1522), (0, 1522)], [], [(((9, 0), 1000007), .inl none), (((10, 0), 1000007), .inl none)], 0, 0, 252, [(0, .inr (3, (0, 1))), (1, .inr (3, (0, 138))), (2, .inr (0, (8, 0)))], [.inr (3, (10, 0)), .inr (3, (9, 0))])
noncomputable def rxICZ1x138_27 (S0 : Nat → Int → Int) (ws : List Int) (S : Nat → Int → Int) (i rp rq : Int) : Prop := S 1 0 = S0 138 0 ∧ (∀ i : Nat, i < 6 → S 2 (i : Int) = S0 139 (i : Int)) ∧ (∀ i : Nat, i < 6 → S 3 (i : Int) = S0 140 (i : Int)) ∧ S 5 0 = S0 142 0 ∧ (∀ i : Nat, i < 8 → S 6 (i : Int) = S0 143 (i : Int)) ∧ (∀ i : Nat, i < 8 → S 7 (i : Int) = S0 144 (i : Int)) ∧ (∀ i : Nat, i < 8 → S 8 (i : Int) = S0 145 (i : Int)) ∧ S 1 5 = S0 138 5 ∧ (∀ i : Nat, i < 12 → S 9 (i : Int) = S0 146 (i : Int)) ∧ (∀ i : Nat, i < 12 → S 10 (i : Int) = S0 147 (i : Int)) ∧ (∀ i : Nat, i < 12 → S 11 (i : Int) = S0 148 (i : Int)) ∧ S 1 10 = S0 138 10 ∧ (∀ i : Nat, i < 12 → S 13 (i : Int) = S0 150 (i : Int)) ∧ S 14 0 = S0 151 0 ∧ (∀ i : Nat, i < 12 → S 15 (i : Int) = S0 152 (i : Int)) ∧ (∀ i : Nat, i < 12 → S 16 (i : Int) = S0 153 (i : Int)) ∧ (∀ i : Nat, i < 12 → S 17 (i : Int) = S0 154 (i : Int)) ∧ (∀ i : Nat, i < 3 → S 19 (i : Int) = S0 156 (i : Int)) ∧ S 1 14 = S0 138 14 ∧ S 1 15 = S0 138 15 ∧ (∀ p i : Nat, p ∈ rxFl1 → i < bx_wd (rxL.1 p) → S p (i : Int) = S0 p (i : Int)) ∧ rkWt4 S0 S 23 160 6 12 (i + 1)
noncomputable def rxmCZ1x138_27 (S0 : Nat → Int → Int) (ws : List Int) (S : Nat → Int → Int) (i rp rq : Int) : Nat := 980 + 10 * (20 - i).toNat - 4
noncomputable def rxzCZ1x138_27 : rx_Z := ([(0, 0), (0, 0), (0, 0), (0, 0), (0, 0), (0, 0), (0, 0), (0, 0), (0, 5), (0, 1522), (0, 1522)], [], [(((9, 0), 1000007), .inl none), (((10, 0), 1000007), .inl none)], 0, 0, 255, [(0, .inr (3, (0, 1))), (1, .inr (3, (0, 138))), (2, .inr (0, (8, 0)))], [])
noncomputable def rxoCZ1x138_0_0 : bx_HO := (([(0, 0), (0, 0), (0, 0), (0, 0), (0, 0), (0, 0), (0, 0), (0, 0), (0, 6)], [], [(((0, 1), 1), .inr (3, (0, 2))), (((0, 138), 1), .inr (3, (0, 139))), (((0, 0), 1851192626986356797424340330377019318111018015026043177553952771000000), .inr (0, (8, 0))), (((0, 1), 0), .inr (0, (8, 0))), (((0, 0), 1851192626986356797424340330377019318111018015026043177634758656000000), .inr (0, (8, 0)))], 0, 0, 20, [(0, .inr (3, (0, 1))), (1, .inr (3, (0, 138)))], [.inr (0, (0, 6)), .inr (0, (0, 0)), .inr (3, (0, 2)), .inr (0, (0, 0)), .inr (3, (0, 139))]), [], [], [(0, 0), (0, 0), (0, 0), (0, 0), (0, 0), (0, 0), (0, 0), (0, 0)], 1)
noncomputable def rxoCZ1x138_2_0 : bx_HO := (([(0, 0), (0, 0), (0, 0), (0, 0), (0, 0), (0, 0), (0, 0), (0, 0)], [], [(((0, 1), 2), .inr (3, (0, 3))), (((0, 138), 2), .inr (3, (0, 140)))], 0, 0, 35, [(0, .inr (3, (0, 1))), (1, .inr (3, (0, 138)))], [.inr (0, (0, 6)), .inr (0, (0, 0)), .inr (3, (0, 3)), .inr (0, (0, 0)), .inr (3, (0, 140))]), [], [], [(0, 0), (0, 0), (0, 0), (0, 0), (0, 0), (0, 0), (0, 0), (0, 0)], 3)
noncomputable def rxoCZ1x138_4_0 : bx_HO := (([(0, 0), (0, 0), (0, 0), (0, 0), (0, 0), (0, 0), (0, 0), (0, 0)], [], [], 0, 0, 40, [(2, .inr (0, (0, 0))), (0, .inr (3, (0, 1))), (1, .inr (3, (0, 138)))], []), [], [], [(0, 0), (0, 0), (0, 0), (0, 0), (0, 0), (0, 0), (0, 0), (0, 0), (0, 0)], 5)
noncomputable def rxoCZ1x138_5_0 : bx_HO := (([(0, 0), (0, 0), (0, 0), (0, 0), (0, 0), (0, 0), (0, 0), (0, 0), (0, 5), (0, 1522), (0, 1522)], [], [(((0, 0), 1851192626986356797424364830707437625680387377997778264947752960000000), .inr (3, (10, 0))), (((10, 0), 1000010), .inl none), (((0, 138), 3), .inr (3, (0, 141))), (((0, 0), 1851192626986356797424364830707437625680387377997778264866947072000000), .inr (3, (9, 0))), (((9, 0), 1000010), .inl none), (((0, 1), 3), .inr (3, (0, 4)))], 0, 0, 58, [(0, .inr (3, (0, 1))), (1, .inr (3, (0, 138))), (2, .inr (0, (8, 0)))], [.inr (3, (10, 0)), .inr (3, (9, 0))]), [], [], [(0, 0), (0, 0), (0, 0), (0, 0), (0, 0), (0, 0), (0, 0), (0, 0), (8, 0), (9, 0), (10, 0)], 6)
noncomputable def rxoCZ1x138_5_1 : bx_HO := (([(0, 0), (0, 0), (0, 0), (0, 0), (0, 0), (0, 0), (0, 0), (0, 0), (6, 6)], [], [(((0, 138), 4), .inr (3, (0, 142))), (((0, 1), 4), .inr (3, (0, 5)))], 0, 0, 75, [(0, .inr (3, (0, 1))), (1, .inr (3, (0, 138))), (2, .inr (0, (8, 0)))], [.inr (3, (0, 142)), .inr (3, (0, 5))]), [], [], [(0, 0), (0, 0), (0, 0), (0, 0), (0, 0), (0, 0), (0, 0), (0, 0)], 8)
noncomputable def rxoCZ1x138_7_0 : bx_HO := (([(0, 0), (0, 0), (0, 0), (0, 0), (0, 0), (0, 0), (0, 0), (0, 0), (0, 5), (0, 1522), (0, 1522)], [], [(((9, 0), 1000010), .inl none), (((10, 0), 1000010), .inl none)], 0, 0, 40, [(2, .inr (0, (8, 1))), (0, .inr (3, (0, 1))), (1, .inr (3, (0, 138)))], []), [], [], [(0, 0), (0, 0), (0, 0), (0, 0), (0, 0), (0, 0), (0, 0), (0, 0), (8, 1)], 5)
noncomputable def rxoCZ1x138_9_0 : bx_HO := (([(0, 0), (0, 0), (0, 0), (0, 0), (0, 0), (0, 0), (0, 0), (0, 0), (0, 12)], [], [(((0, 1), 6), .inr (3, (0, 9))), (((0, 138), 6), .inr (3, (0, 146))), (((0, 0), 1851192626986356798427873864310897359480125337295219445323071491000000), .inr (0, (8, 0))), (((0, 1), 5), .inr (0, (8, 0))), (((0, 0), 1851192626986356798427873864310897359480125337295219445403877376000000), .inr (0, (8, 0)))], 0, 0, 98, [(0, .inr (3, (0, 1))), (1, .inr (3, (0, 138))), (2, .inr (0, (0, 6)))], [.inr (0, (0, 12)), .inr (0, (0, 0)), .inr (3, (0, 9)), .inr (0, (0, 0)), .inr (3, (0, 146))]), [], [], [(0, 0), (0, 0), (0, 0), (0, 0), (0, 0), (0, 0), (0, 0), (0, 0)], 10)
noncomputable def rxoCZ1x138_11_0 : bx_HO := (([(0, 0), (0, 0), (0, 0), (0, 0), (0, 0), (0, 0), (0, 0), (0, 0)], [], [(((0, 1), 7), .inr (3, (0, 10))), (((0, 138), 7), .inr (3, (0, 147)))], 0, 0, 113, [(0, .inr (3, (0, 1))), (1, .inr (3, (0, 138))), (2, .inr (0, (0, 6)))], [.inr (0, (0, 12)), .inr (0, (0, 0)), .inr (3, (0, 10)), .inr (0, (0, 0)), .inr (3, (0, 147))]), [], [], [(0, 0), (0, 0), (0, 0), (0, 0), (0, 0), (0, 0), (0, 0), (0, 0)], 12)
noncomputable def rxoCZ1x138_13_0 : bx_HO := (([(0, 0), (0, 0), (0, 0), (0, 0), (0, 0), (0, 0), (0, 0), (0, 0)], [], [(((0, 1), 8), .inr (3, (0, 11))), (((0, 138), 8), .inr (3, (0, 148)))], 0, 0, 128, [(0, .inr (3, (0, 1))), (1, .inr (3, (0, 138))), (2, .inr (0, (0, 6)))], [.inr (0, (0, 12)), .inr (0, (0, 0)), .inr (3, (0, 11)), .inr (0, (0, 0)), .inr (3, (0, 148))]), [], [], [(0, 0), (0, 0), (0, 0), (0, 0), (0, 0), (0, 0), (0, 0), (0, 0)], 14)
noncomputable def rxoCZ1x138_15_0 : bx_HO := (([(0, 0), (0, 0), (0, 0), (0, 0), (0, 0), (0, 0), (0, 0), (0, 0)], [], [], 0, 0, 133, [(2, .inr (0, (0, 0))), (0, .inr (3, (0, 1))), (1, .inr (3, (0, 138)))], []), [], [], [(0, 0), (0, 0), (0, 0), (0, 0), (0, 0), (0, 0), (0, 0), (0, 0), (0, 0)], 16)
noncomputable def rxoCZ1x138_16_0 : bx_HO := (([(0, 0), (0, 0), (0, 0), (0, 0), (0, 0), (0, 0), (0, 0), (0, 0), (0, 11), (0, 1522), (0, 1522)], [], [(((0, 0), 1851192626986356797424364830707437625680387377997778264952471552000000), .inr (3, (10, 0))), (((10, 0), 1000010), .inl none), (((0, 138), 9), .inr (3, (0, 149))), (((0, 0), 1851192626986356797424364830707437625680387377997778264871665664000000), .inr (3, (9, 0))), (((9, 0), 1000010), .inl none), (((0, 1), 9), .inr (3, (0, 12)))], 0, 0, 151, [(0, .inr (3, (0, 1))), (1, .inr (3, (0, 138))), (2, .inr (0, (8, 0)))], [.inr (3, (10, 0)), .inr (3, (9, 0))]), [], [], [(0, 0), (0, 0), (0, 0), (0, 0), (0, 0), (0, 0), (0, 0), (0, 0), (8, 0), (9, 0), (10, 0)], 17)
noncomputable def rxoCZ1x138_16_1 : bx_HO := (([(0, 0), (0, 0), (0, 0), (0, 0), (0, 0), (0, 0), (0, 0), (0, 0), (12, 12), (0, 12)], [], [(((0, 1), 11), .inr (3, (0, 13))), (((0, 138), 11), .inr (3, (0, 150))), (((0, 0), 1851192626986356799431407398244775400849232659564395713092190211000000), .inr (0, (9, 0))), (((0, 1), 10), .inr (0, (9, 0))), (((0, 0), 1851192626986356799431407398244775400849232659564395713172996096000000), .inr (0, (9, 0)))], 0, 0, 180, [(0, .inr (3, (0, 1))), (1, .inr (3, (0, 138))), (2, .inr (0, (8, 0)))], [.inr (0, (0, 12)), .inr (0, (0, 0)), .inr (3, (0, 13)), .inr (0, (0, 0)), .inr (3, (0, 150))]), [], [], [(0, 0), (0, 0), (0, 0), (0, 0), (0, 0), (0, 0), (0, 0), (0, 0)], 19)
noncomputable def rxoCZ1x138_18_0 : bx_HO := (([(0, 0), (0, 0), (0, 0), (0, 0), (0, 0), (0, 0), (0, 0), (0, 0), (0, 11), (0, 1522), (0, 1522)], [], [(((9, 0), 1000010), .inl none), (((10, 0), 1000010), .inl none)], 0, 0, 133, [(2, .inr (0, (8, 1))), (0, .inr (3, (0, 1))), (1, .inr (3, (0, 138)))], []), [], [], [(0, 0), (0, 0), (0, 0), (0, 0), (0, 0), (0, 0), (0, 0), (0, 0), (8, 1)], 16)
noncomputable def rxoCZ1x138_20_0 : bx_HO := (([(0, 0), (0, 0), (0, 0), (0, 0), (0, 0), (0, 0), (0, 0), (0, 0)], [], [(((0, 138), 12), .inr (3, (0, 151))), (((0, 1), 12), .inr (3, (0, 14)))], 0, 0, 191, [(0, .inr (3, (0, 1))), (1, .inr (3, (0, 138))), (2, .inr (0, (0, 12)))], [.inr (3, (0, 151)), .inr (3, (0, 14))]), [], [], [(0, 0), (0, 0), (0, 0), (0, 0), (0, 0), (0, 0), (0, 0), (0, 0)], 21)
noncomputable def rxoCZ1x138_22_0 : bx_HO := (([(0, 0), (0, 0), (0, 0), (0, 0), (0, 0), (0, 0), (0, 0), (0, 0)], [], [(((0, 1), 13), .inr (3, (0, 19))), (((0, 138), 13), .inr (3, (0, 156)))], 0, 0, 205, [(0, .inr (3, (0, 1))), (1, .inr (3, (0, 138))), (2, .inr (0, (0, 12)))], [.inr (0, (0, 3)), .inr (0, (0, 0)), .inr (3, (0, 19)), .inr (0, (0, 0)), .inr (3, (0, 156))]), [], [], [(0, 0), (0, 0), (0, 0), (0, 0), (0, 0), (0, 0), (0, 0), (0, 0)], 23)
noncomputable def rxoCZ1x138_24_0 : bx_HO := (([(0, 0), (0, 0), (0, 0), (0, 0), (0, 0), (0, 0), (0, 0), (0, 0), (0, 6), ((-1), 5)], [], [(((0, 0), 1851192626986356800434940932178653442218339981833571980861308931000000), .inr (0, (9, 0))), (((0, 1), 15), .inr (0, (9, 0))), (((0, 0), 1851192626986356800434940932178653442218339981833571980942114816000000), .inr (0, (9, 0))), (((0, 0), 1851192626986356800234234225391877833944518517379736727307485187000000), .inr (0, (8, 0))), (((0, 1), 14), .inr (0, (8, 0))), (((0, 0), 1851192626986356800234234225391877833944518517379736727388291072000000), .inr (0, (8, 0)))], 0, 0, 226, [(2, .inr (0, (0, 0))), (0, .inr (3, (0, 1))), (1, .inr (3, (0, 138)))], []), [], [], [(0, 0), (0, 0), (0, 0), (0, 0), (0, 0), (0, 0), (0, 0), (0, 0), (0, 0)], 25)
noncomputable def rxoCZ1x138_25_0 : bx_HO := (([(0, 0), (0, 0), (0, 0), (0, 0), (0, 0), (0, 0), (0, 0), (0, 0), (0, 5), (1, 6), (0, 1522), (0, 1522)], [(0, (8, 0), (9, 0))], [(((0, 0), 1851192626986356797424364830707437625680387377997778264957190144000000), .inr (3, (11, 0))), (((11, 0), 1000007), .inl none), (((0, 138), 16), .inr (3, (0, 157))), (((0, 0), 1851192626986356797424364830707437625680387377997778264876384256000000), .inr (3, (10, 0))), (((10, 0), 1000007), .inl none), (((0, 1), 16), .inr (3, (0, 20))), (((0, 0), 1851192626986356800234234225391877833944518517379736727307485184000000), .inr (0, (9, 0))), (((0, 1), 14), .inr (0, (9, 0)))], 0, 0, 252, [(0, .inr (3, (0, 1))), (1, .inr (3, (0, 138))), (2, .inr (0, (8, 0)))], [.inr (3, (11, 0)), .inr (3, (10, 0))]), [], [], [(0, 0), (0, 0), (0, 0), (0, 0), (0, 0), (0, 0), (0, 0), (0, 0), (8, 0), (10, 0), (11, 0)], 26)
noncomputable def rxeCZ1x138_25_0 : rx_End × List (Nat × Int × Int) := (([(0, 0), (0, 0), (0, 0), (0, 0), (0, 0), (0, 0), (0, 0), (0, 0), (0, 6), (0, 6)], [(1, (9, 0), (8, 0))], [(((0, 0), 1851192626986356800234234225391877833944518517379736727307485184000000), .inr (0, (9, 0))), (((0, 1), 14), .inr (0, (9, 0)))], none), [])
noncomputable def rxoCZ1x138_27_0 : bx_HO := (([(0, 0), (0, 0), (0, 0), (0, 0), (0, 0), (0, 0), (0, 0), (0, 0), (0, 5), (0, 1522), (0, 1522)], [], [(((9, 0), 1000007), .inl none), (((10, 0), 1000007), .inl none)], 0, 0, 226, [(2, .inr (0, (8, 1))), (0, .inr (3, (0, 1))), (1, .inr (3, (0, 138)))], []), [], [], [(0, 0), (0, 0), (0, 0), (0, 0), (0, 0), (0, 0), (0, 0), (0, 0), (8, 1)], 25)
noncomputable def rxYCZ1x138 : List bx_HE := [(rxzCZ1x138_0, [rxoCZ1x138_0_0], []), (rxzCZ1x138_1, [], []), (rxzCZ1x138_2, [rxoCZ1x138_2_0], []), (rxzCZ1x138_3, [], []), (rxzCZ1x138_4, [rxoCZ1x138_4_0], []), (rxzCZ1x138_5, [rxoCZ1x138_5_0, rxoCZ1x138_5_1], []), (rxzCZ1x138_6, [], []), (rxzCZ1x138_7, [rxoCZ1x138_7_0], []), (rxzCZ1x138_8, [], []), (rxzCZ1x138_9, [rxoCZ1x138_9_0], []), (rxzCZ1x138_10, [], []), (rxzCZ1x138_11, [rxoCZ1x138_11_0], []), (rxzCZ1x138_12, [], []), (rxzCZ1x138_13, [rxoCZ1x138_13_0], []), (rxzCZ1x138_14, [], []), (rxzCZ1x138_15, [rxoCZ1x138_15_0], []), (rxzCZ1x138_16, [rxoCZ1x138_16_0, rxoCZ1x138_16_1], []), (rxzCZ1x138_17, [], []), (rxzCZ1x138_18, [rxoCZ1x138_18_0], []), (rxzCZ1x138_19, [], []), (rxzCZ1x138_20, [rxoCZ1x138_20_0], []), (rxzCZ1x138_21, [], []), (rxzCZ1x138_22, [rxoCZ1x138_22_0], []), (rxzCZ1x138_23, [], []), (rxzCZ1x138_24, [rxoCZ1x138_24_0], []), (rxzCZ1x138_25, [rxoCZ1x138_25_0], [rxeCZ1x138_25_0]), (rxzCZ1x138_26, [], []), (rxzCZ1x138_27, [rxoCZ1x138_27_0], [])]
noncomputable def rxUCZ1x138 (q : bx_HE) : Bool := Nat.beq (rx_zpc q.1) 20 || Nat.beq (rx_zpc q.1) 35 || Nat.beq (rx_zpc q.1) 58 || Nat.beq (rx_zpc q.1) 75 || Nat.beq (rx_zpc q.1) 98 || Nat.beq (rx_zpc q.1) 113 || Nat.beq (rx_zpc q.1) 128 || Nat.beq (rx_zpc q.1) 151 || Nat.beq (rx_zpc q.1) 180 || Nat.beq (rx_zpc q.1) 191 || Nat.beq (rx_zpc q.1) 205 || Nat.beq (rx_zpc q.1) 252
noncomputable def rxYBCZ1x138 : bx_B := (rxV, rxNP, rxDmf, bx_mdH rxCCZ1x138.2.2.1)
set_option maxRecDepth 100000 in
theorem rxYcCZ1x138 : bx_chkH rxYBCZ1x138 rxM154 rxCCZ1x138 rxYCZ1x138 (rxUCZ1x138, fun cut z => rx_ex2 (rxCT rxYBCZ1x138 rxCnE) cut 30000 rxCCZ1x138.2.2.2.1 154 z) = true := by decide +kernel
noncomputable def rxICZ1x138 (S0 : Nat → Int → Int) (ws : List Int) (i : Nat) : bx_SP := fun S r => match i with | 0 => rxICZ1x138_0 S0 ws S | 1 => rxICZ1x138_1 S0 ws S | 2 => rxICZ1x138_2 S0 ws S | 3 => rxICZ1x138_3 S0 ws S | 4 => rxICZ1x138_4 S0 ws S | 5 => rxICZ1x138_5 S0 ws S (r 8) | 6 => rxICZ1x138_6 S0 ws S (r 8) (r 9) (r 10) | 7 => rxICZ1x138_7 S0 ws S (r 8) (r 9) (r 10) | 8 => rxICZ1x138_8 S0 ws S | 9 => rxICZ1x138_9 S0 ws S | 10 => rxICZ1x138_10 S0 ws S | 11 => rxICZ1x138_11 S0 ws S | 12 => rxICZ1x138_12 S0 ws S | 13 => rxICZ1x138_13 S0 ws S | 14 => rxICZ1x138_14 S0 ws S | 15 => rxICZ1x138_15 S0 ws S | 16 => rxICZ1x138_16 S0 ws S (r 8) | 17 => rxICZ1x138_17 S0 ws S (r 8) (r 9) (r 10) | 18 => rxICZ1x138_18 S0 ws S (r 8) (r 9) (r 10) | 19 => rxICZ1x138_19 S0 ws S | 20 => rxICZ1x138_20 S0 ws S | 21 => rxICZ1x138_21 S0 ws S | 22 => rxICZ1x138_22 S0 ws S | 23 => rxICZ1x138_23 S0 ws S | 24 => rxICZ1x138_24 S0 ws S | 25 => rxICZ1x138_25 S0 ws S (r 8) | 26 => rxICZ1x138_26 S0 ws S (r 8) (r 9) (r 10) | 27 => rxICZ1x138_27 S0 ws S (r 8) (r 9) (r 10) | _ => False
noncomputable def rxmCZ1x138 (S0 : Nat → Int → Int) (ws : List Int) (i : Nat) (S : Nat → Int → Int) (r : Nat → Int) : Nat := match i with | 0 => rxmCZ1x138_0 S0 ws S | 1 => rxmCZ1x138_1 S0 ws S | 2 => rxmCZ1x138_2 S0 ws S | 3 => rxmCZ1x138_3 S0 ws S | 4 => rxmCZ1x138_4 S0 ws S | 5 => rxmCZ1x138_5 S0 ws S (r 8) | 6 => rxmCZ1x138_6 S0 ws S (r 8) (r 9) (r 10) | 7 => rxmCZ1x138_7 S0 ws S (r 8) (r 9) (r 10) | 8 => rxmCZ1x138_8 S0 ws S | 9 => rxmCZ1x138_9 S0 ws S | 10 => rxmCZ1x138_10 S0 ws S | 11 => rxmCZ1x138_11 S0 ws S | 12 => rxmCZ1x138_12 S0 ws S | 13 => rxmCZ1x138_13 S0 ws S | 14 => rxmCZ1x138_14 S0 ws S | 15 => rxmCZ1x138_15 S0 ws S | 16 => rxmCZ1x138_16 S0 ws S (r 8) | 17 => rxmCZ1x138_17 S0 ws S (r 8) (r 9) (r 10) | 18 => rxmCZ1x138_18 S0 ws S (r 8) (r 9) (r 10) | 19 => rxmCZ1x138_19 S0 ws S | 20 => rxmCZ1x138_20 S0 ws S | 21 => rxmCZ1x138_21 S0 ws S | 22 => rxmCZ1x138_22 S0 ws S | 23 => rxmCZ1x138_23 S0 ws S | 24 => rxmCZ1x138_24 S0 ws S | 25 => rxmCZ1x138_25 S0 ws S (r 8) | 26 => rxmCZ1x138_26 S0 ws S (r 8) (r 9) (r 10) | 27 => rxmCZ1x138_27 S0 ws S (r 8) (r 9) (r 10) | _ => 0
noncomputable def rxPCZ1x138 (S0 : Nat → Int → Int) (ws : List Int) : Prop := rkPl S0
noncomputable def rxPSCZ1x138 (S0 : Nat → Int → Int) (ws : List Int) (S : Nat → Int → Int) (w : Option Int) : Prop := w = none ∧ S 1 0 = S0 138 0 ∧ (∀ i : Nat, i < 6 → S 2 (i : Int) = S0 139 (i : Int)) ∧ (∀ i : Nat, i < 6 → S 3 (i : Int) = S0 140 (i : Int)) ∧ S 5 0 = S0 142 0 ∧ (∀ i : Nat, i < 8 → S 6 (i : Int) = S0 143 (i : Int)) ∧ (∀ i : Nat, i < 8 → S 7 (i : Int) = S0 144 (i : Int)) ∧ (∀ i : Nat, i < 8 → S 8 (i : Int) = S0 145 (i : Int)) ∧ S 1 5 = S0 138 5 ∧ (∀ i : Nat, i < 12 → S 9 (i : Int) = S0 146 (i : Int)) ∧ (∀ i : Nat, i < 12 → S 10 (i : Int) = S0 147 (i : Int)) ∧ (∀ i : Nat, i < 12 → S 11 (i : Int) = S0 148 (i : Int)) ∧ S 1 10 = S0 138 10 ∧ (∀ i : Nat, i < 12 → S 13 (i : Int) = S0 150 (i : Int)) ∧ S 14 0 = S0 151 0 ∧ (∀ i : Nat, i < 12 → S 15 (i : Int) = S0 152 (i : Int)) ∧ (∀ i : Nat, i < 12 → S 16 (i : Int) = S0 153 (i : Int)) ∧ (∀ i : Nat, i < 12 → S 17 (i : Int) = S0 154 (i : Int)) ∧ (∀ i : Nat, i < 3 → S 19 (i : Int) = S0 156 (i : Int)) ∧ S 1 14 = S0 138 14 ∧ S 1 15 = S0 138 15 ∧ (∀ p i : Nat, p ∈ rxFl1 → i < bx_wd (rxL.1 p) → S p (i : Int) = S0 p (i : Int)) ∧ rkWt4 S0 S 23 160 6 12 (S0 138 14)
theorem rxtCZ1x138_1 {S0 : Nat → Int → Int} {ws : List Int} {S : Nat → Int → Int} (hP : rxPCZ1x138 S0 ws) (hin : bx_same rxL (bx_mdl rxCCZ1x138.2.2.1) S0 S) (I0 : bx_Inv rxL S) (hinv : rxICZ1x138_1 S0 ws S)  : rxICZ1x138_2 S0 ws (bx_cpS S 139 2 6) ∧ rxmCZ1x138_2 S0 ws (bx_cpS S 139 2 6) < rxmCZ1x138_1 S0 ws S := by
  obtain ⟨h0, hf, hW⟩ := hinv
  refine ⟨⟨?_, ?_, ?_, ?_⟩, by unfold rxmCZ1x138_1 rxmCZ1x138_2; omega⟩
  · exact (bx_cpS_ne (by decide)).trans h0
  · exact fun i hi => (bx_cpS_in (by omega) (by omega)).trans (hf 139 i (by decide) (show i < 6 from hi))
  · exact fun p i hp hi => (bx_cpS_ne (fun e => by subst e; revert hp; decide)).trans (hf p i hp hi)
  · exact rkWt4_ne (by unfold rkTb; omega) hW (fun p j hp => by have hp : (23 ≤ p ∧ p < 137) ∨ (160 ≤ p ∧ p < 274) ∨ (296 ≤ p ∧ p < 410) := hp; exact bx_cpS_ne (by omega))
theorem rxsCZ1x138_1 {X : (Nat → Int → Int) → Prop} {S0 : Nat → Int → Int} {ws : List Int} (hP : rxPCZ1x138 S0 ws) (hX : ∀ S S1 : Nat → Int → Int, X S → bx_same rxL (bx_mdl rxCCZ1x138.2.2.1) S S1 → X S1) : rx_obY X S0 rxCCZ1x138.2.2.1 (rxICZ1x138 S0 ws) (rxmCZ1x138 S0 ws) 1 2 rxzCZ1x138_1 139 2 6 := by
  intro S r hinv hXS I0 hin hs_ hf_
  have b_ := bx_bds_sat hs_
  have f_ := bx_fcl_ok hs_.1 hf_
  have g := rxtCZ1x138_1 hP hin I0 hinv 
  exact ⟨g.1, g.2, hX _ _ hXS (rx_same_cp (fun _ _ _ _ _ => rfl) (g1 := 0) rfl (by decide +kernel)), rx_same_cp hin (g1 := 0) rfl (by decide +kernel)⟩
theorem rxtCZ1x138_3 {S0 : Nat → Int → Int} {ws : List Int} {S : Nat → Int → Int} (hP : rxPCZ1x138 S0 ws) (hin : bx_same rxL (bx_mdl rxCCZ1x138.2.2.1) S0 S) (I0 : bx_Inv rxL S) (hinv : rxICZ1x138_3 S0 ws S)  : rxICZ1x138_4 S0 ws (bx_cpS S 140 3 6) ∧ rxmCZ1x138_4 S0 ws (bx_cpS S 140 3 6) < rxmCZ1x138_3 S0 ws S := by
  obtain ⟨h0, h1, hf, hW⟩ := hinv
  refine ⟨⟨?_, ?_, ?_, ?_, ?_⟩, by unfold rxmCZ1x138_3 rxmCZ1x138_4; omega⟩
  · exact (bx_cpS_ne (by decide)).trans h0
  · exact fun i hi => (bx_cpS_ne (by decide)).trans (h1 i hi)
  · exact fun i hi => (bx_cpS_in (by omega) (by omega)).trans (hf 140 i (by decide) (show i < 6 from hi))
  · exact fun p i hp hi => (bx_cpS_ne (fun e => by subst e; revert hp; decide)).trans (hf p i hp hi)
  · exact rkWt4_ne (by unfold rkTb; omega) hW (fun p j hp => by have hp : (23 ≤ p ∧ p < 137) ∨ (160 ≤ p ∧ p < 274) ∨ (296 ≤ p ∧ p < 410) := hp; exact bx_cpS_ne (by omega))
theorem rxsCZ1x138_3 {X : (Nat → Int → Int) → Prop} {S0 : Nat → Int → Int} {ws : List Int} (hP : rxPCZ1x138 S0 ws) (hX : ∀ S S1 : Nat → Int → Int, X S → bx_same rxL (bx_mdl rxCCZ1x138.2.2.1) S S1 → X S1) : rx_obY X S0 rxCCZ1x138.2.2.1 (rxICZ1x138 S0 ws) (rxmCZ1x138 S0 ws) 3 4 rxzCZ1x138_3 140 3 6 := by
  intro S r hinv hXS I0 hin hs_ hf_
  have b_ := bx_bds_sat hs_
  have f_ := bx_fcl_ok hs_.1 hf_
  have g := rxtCZ1x138_3 hP hin I0 hinv 
  exact ⟨g.1, g.2, hX _ _ hXS (rx_same_cp (fun _ _ _ _ _ => rfl) (g1 := 1) rfl (by decide +kernel)), rx_same_cp hin (g1 := 1) rfl (by decide +kernel)⟩
theorem rxkCZ1x138_6 {S0 : Nat → Int → Int} {ws : List Int} {S : Nat → Int → Int} {i rp rq : Int} (hP : rxPCZ1x138 S0 ws) (hin : bx_same rxL (bx_mdl rxCCZ1x138.2.2.1) S0 S) (I0 : bx_Inv rxL S) (hinv : rxICZ1x138_6 S0 ws S i rp rq) (l8 : 0 ≤ i) (u8 : i ≤ 5) (l9 : 0 ≤ rp) (u9 : rp ≤ 1522) (l10 : 0 ≤ rq) (u10 : rq ≤ 1522) : rxPSCZ S [rp, rq] ∧ ∀ (S_p : Nat → Int → Int), rxPSSCZ S [rp, rq] S_p none → bx_Inv rxL S_p → bx_same rxL (bx_mdl rxCSCZ.2.2.1) S S_p → rxICZ1x138_7 S0 ws S_p i rp rq ∧ rxmCZ1x138_7 S0 ws S_p i rp rq < rxmCZ1x138_6 S0 ws S i rp rq := by
  obtain ⟨hrp, hrq, h0, h1, h2, hf, hW⟩ := hinv
  have hpl := rkPl_sm hin (by decide +kernel) hP
  have gb := (hpl.2.1.1 i.toNat (by omega)).2
  have gs := (hpl.2.2.1.1 i.toNat (by omega)).2
  refine ⟨⟨23 + 3 * i.toNat, 160 + 3 * i.toNat, by rw [hrp, hrq], ⟨(by
      have g := rkSg_t (tb := 23) (k := i.toNat) (by unfold rkTb; omega) (by omega)
      rw [show 23 + 3 * (i.toNat) = 23 + 3 * i.toNat by omega] at g
      exact g), (by
      have g := rkSg_t (tb := 160) (k := i.toNat) (by unfold rkTb; omega) (by omega)
      rw [show 160 + 3 * (i.toNat) = 160 + 3 * i.toNat by omega] at g
      exact g), by omega⟩, gs, gb⟩, fun S_p hq _ hsm => ?_⟩
  have q := hq.2 (23 + 3 * i.toNat) (160 + 3 * i.toNat) (by rw [hrp, hrq])
  have e : ∀ (p : Nat) (j : Int), ¬ rkRgn p → S_p p j = S p j := rkSc_o q (tb := 23) (by unfold rkTb; omega) (by omega) (by omega)
  refine ⟨⟨(e _ _ (by unfold rkRgn; omega)).trans h0, fun n hn => (e _ _ (by unfold rkRgn; omega)).trans (h1 n hn), fun n hn => (e _ _ (by unfold rkRgn; omega)).trans (h2 n hn), fun p n hp hi => (e p n (rkNum_n (rxFl1_in p hp))).trans (hf p n hp hi), ?_⟩, by unfold rxmCZ1x138_6 rxmCZ1x138_7; omega⟩
  have ei : ((i.toNat : Nat) : Int) = i := Int.toNat_of_nonneg (by omega)
  have hW_p : rkWt4 S0 S 23 160 ((i.toNat : Nat) : Int) 0 0 := by rw [ei]; exact hW
  have g := rkWt4_a (by unfold rkTb; omega) (by unfold rkTb; omega) (by decide) (by omega) hW_p q
  rw [ei] at g
  exact g
theorem rxsCZ1x138_6 {X : (Nat → Int → Int) → Prop} {S0 : Nat → Int → Int} {ws : List Int} (hP : rxPCZ1x138 S0 ws) : rx_obK X S0 rxCCZ1x138.2.2.1 rxCSCZ.2.2.1 (rxICZ1x138 S0 ws) (rxmCZ1x138 S0 ws) 6 7 rxzCZ1x138_6 rxzCZ1x138_7 [.inr (3, (9, 0)), .inr (3, (10, 0))] none rxPSCZ rxPSSCZ := by
  intro S r hinv hXS I0 hin hs_ hf_
  have b_ := bx_bds_sat hs_
  have f_ := bx_fcl_ok hs_.1 hf_
  obtain ⟨⟨l8, u8⟩, ⟨l9, u9⟩, ⟨l10, u10⟩, -⟩ := b_
  have g := rxkCZ1x138_6 hP hin I0 hinv l8 u8 l9 u9 l10 u10
  have ea : List.map (bx_num r) [.inr (3, (9, 0)), .inr (3, (10, 0))] = [(r 9), (r 10)] := by
    simp only [List.map_cons, List.map_nil, bx_xv_ok hs_.1]
    rfl
  rw [ea]
  refine ⟨g.1, fun S_p w r_p hPS hX_p I1 hsm hr hw hs_p => ?_⟩
  have hw : w = none := hPS.1
  subst hw
  have g2 := g.2 S_p hPS I1 hsm
  show rxICZ1x138_7 S0 ws S_p (r_p 8) (r_p 9) (r_p 10) ∧ rxmCZ1x138_7 S0 ws S_p (r_p 8) (r_p 9) (r_p 10) < _
  rw [hr 8 (by decide), hr 9 (by decide), hr 10 (by decide)]
  exact g2
theorem rxkCZ1x138_8 {S0 : Nat → Int → Int} {ws : List Int} {S : Nat → Int → Int} (hP : rxPCZ1x138 S0 ws) (hin : bx_same rxL (bx_mdl rxCCZ1x138.2.2.1) S0 S) (I0 : bx_Inv rxL S) (hinv : rxICZ1x138_8 S0 ws S)  : rxPPC5x142 S [5, 142] ∧ ∀ (S_p : Nat → Int → Int), rxPSPC5x142 S [5, 142] S_p none → bx_Inv rxL S_p → bx_same rxL (bx_mdl rxCPC5x142.2.2.1) S S_p → rxICZ1x138_9 S0 ws S_p ∧ rxmCZ1x138_9 S0 ws S_p < rxmCZ1x138_8 S0 ws S := by
  obtain ⟨h0, h1, h2, hf, hW⟩ := hinv
  refine ⟨trivial, fun S_p hq _ hsm => ⟨⟨?_, ?_, ?_, ?_, ?_, ?_, ?_, ?_, ?_⟩, by unfold rxmCZ1x138_8 rxmCZ1x138_9; omega⟩⟩
  all_goals obtain ⟨-, q0, q1, q2, q3, qf⟩ := hq
  · exact (qf _ _ (by decide) (by decide) (by decide) (by decide)).trans h0
  · exact fun i hi => (qf _ _ (by decide) (by decide) (by decide) (by decide)).trans (h1 i hi)
  · exact fun i hi => (qf _ _ (by decide) (by decide) (by decide) (by decide)).trans (h2 i hi)
  · exact q0.trans (hf 142 0 (by decide) (by decide))
  · exact fun i hi => (q1 i (by omega) (by omega)).trans (hf 143 i (by decide) (show i < 8 from hi))
  · exact fun i hi => (q2 i (by omega) (by omega)).trans (hf 144 i (by decide) (show i < 8 from hi))
  · exact fun i hi => (q3 i (by omega) (by omega)).trans (hf 145 i (by decide) (show i < 8 from hi))
  · exact fun p i hp hi => (qf p i (fun e => by subst e; revert hp; decide) (fun e => by subst e; revert hp; decide) (fun e => by subst e; revert hp; decide) (fun e => by subst e; revert hp; decide)).trans (hf p i hp hi)
  · exact rkWt4_ne (by unfold rkTb; omega) hW (fun p j hp => by have hp : (23 ≤ p ∧ p < 137) ∨ (160 ≤ p ∧ p < 274) ∨ (296 ≤ p ∧ p < 410) := hp; exact qf p j (by omega) (by omega) (by omega) (by omega))
theorem rxsCZ1x138_8 {X : (Nat → Int → Int) → Prop} {S0 : Nat → Int → Int} {ws : List Int} (hP : rxPCZ1x138 S0 ws) : rx_obK X S0 rxCCZ1x138.2.2.1 rxCPC5x142.2.2.1 (rxICZ1x138 S0 ws) (rxmCZ1x138 S0 ws) 8 9 rxzCZ1x138_8 rxzCZ1x138_9 [.inr (3, (0, 5)), .inr (3, (0, 142))] none rxPPC5x142 rxPSPC5x142 := by
  intro S r hinv hXS I0 hin hs_ hf_
  have b_ := bx_bds_sat hs_
  have f_ := bx_fcl_ok hs_.1 hf_
  have g := rxkCZ1x138_8 hP hin I0 hinv 
  have ea : List.map (bx_num r) [.inr (3, (0, 5)), .inr (3, (0, 142))] = [5, 142] := by
    simp only [List.map_cons, List.map_nil, bx_xv_ok hs_.1]
    rfl
  rw [ea]
  refine ⟨g.1, fun S_p w r_p hPS hX_p I1 hsm hr hw hs_p => ?_⟩
  have hw : w = none := hPS.1
  subst hw
  have g2 := g.2 S_p hPS I1 hsm
  show rxICZ1x138_9 S0 ws S_p ∧ rxmCZ1x138_9 S0 ws S_p < _
  exact g2
theorem rxtCZ1x138_10 {S0 : Nat → Int → Int} {ws : List Int} {S : Nat → Int → Int} (hP : rxPCZ1x138 S0 ws) (hin : bx_same rxL (bx_mdl rxCCZ1x138.2.2.1) S0 S) (I0 : bx_Inv rxL S) (hinv : rxICZ1x138_10 S0 ws S)  : rxICZ1x138_11 S0 ws (bx_cpS S 146 9 12) ∧ rxmCZ1x138_11 S0 ws (bx_cpS S 146 9 12) < rxmCZ1x138_10 S0 ws S := by
  obtain ⟨h0, h1, h2, h3, h4, h5, h6, h7, hf, hW⟩ := hinv
  refine ⟨⟨?_, ?_, ?_, ?_, ?_, ?_, ?_, ?_, ?_, ?_, ?_⟩, by unfold rxmCZ1x138_10 rxmCZ1x138_11; omega⟩
  · exact (bx_cpS_ne (by decide)).trans h0
  · exact fun i hi => (bx_cpS_ne (by decide)).trans (h1 i hi)
  · exact fun i hi => (bx_cpS_ne (by decide)).trans (h2 i hi)
  · exact (bx_cpS_ne (by decide)).trans h3
  · exact fun i hi => (bx_cpS_ne (by decide)).trans (h4 i hi)
  · exact fun i hi => (bx_cpS_ne (by decide)).trans (h5 i hi)
  · exact fun i hi => (bx_cpS_ne (by decide)).trans (h6 i hi)
  · exact (bx_cpS_ne (by decide)).trans h7
  · exact fun i hi => (bx_cpS_in (by omega) (by omega)).trans (hf 146 i (by decide) (show i < 12 from hi))
  · exact fun p i hp hi => (bx_cpS_ne (fun e => by subst e; revert hp; decide)).trans (hf p i hp hi)
  · exact rkWt4_ne (by unfold rkTb; omega) hW (fun p j hp => by have hp : (23 ≤ p ∧ p < 137) ∨ (160 ≤ p ∧ p < 274) ∨ (296 ≤ p ∧ p < 410) := hp; exact bx_cpS_ne (by omega))
theorem rxsCZ1x138_10 {X : (Nat → Int → Int) → Prop} {S0 : Nat → Int → Int} {ws : List Int} (hP : rxPCZ1x138 S0 ws) (hX : ∀ S S1 : Nat → Int → Int, X S → bx_same rxL (bx_mdl rxCCZ1x138.2.2.1) S S1 → X S1) : rx_obY X S0 rxCCZ1x138.2.2.1 (rxICZ1x138 S0 ws) (rxmCZ1x138 S0 ws) 10 11 rxzCZ1x138_10 146 9 12 := by
  intro S r hinv hXS I0 hin hs_ hf_
  have b_ := bx_bds_sat hs_
  have f_ := bx_fcl_ok hs_.1 hf_
  have g := rxtCZ1x138_10 hP hin I0 hinv 
  exact ⟨g.1, g.2, hX _ _ hXS (rx_same_cp (fun _ _ _ _ _ => rfl) (g1 := 6) rfl (by decide +kernel)), rx_same_cp hin (g1 := 6) rfl (by decide +kernel)⟩
theorem rxtCZ1x138_12 {S0 : Nat → Int → Int} {ws : List Int} {S : Nat → Int → Int} (hP : rxPCZ1x138 S0 ws) (hin : bx_same rxL (bx_mdl rxCCZ1x138.2.2.1) S0 S) (I0 : bx_Inv rxL S) (hinv : rxICZ1x138_12 S0 ws S)  : rxICZ1x138_13 S0 ws (bx_cpS S 147 10 12) ∧ rxmCZ1x138_13 S0 ws (bx_cpS S 147 10 12) < rxmCZ1x138_12 S0 ws S := by
  obtain ⟨h0, h1, h2, h3, h4, h5, h6, h7, h8, hf, hW⟩ := hinv
  refine ⟨⟨?_, ?_, ?_, ?_, ?_, ?_, ?_, ?_, ?_, ?_, ?_, ?_⟩, by unfold rxmCZ1x138_12 rxmCZ1x138_13; omega⟩
  · exact (bx_cpS_ne (by decide)).trans h0
  · exact fun i hi => (bx_cpS_ne (by decide)).trans (h1 i hi)
  · exact fun i hi => (bx_cpS_ne (by decide)).trans (h2 i hi)
  · exact (bx_cpS_ne (by decide)).trans h3
  · exact fun i hi => (bx_cpS_ne (by decide)).trans (h4 i hi)
  · exact fun i hi => (bx_cpS_ne (by decide)).trans (h5 i hi)
  · exact fun i hi => (bx_cpS_ne (by decide)).trans (h6 i hi)
  · exact (bx_cpS_ne (by decide)).trans h7
  · exact fun i hi => (bx_cpS_ne (by decide)).trans (h8 i hi)
  · exact fun i hi => (bx_cpS_in (by omega) (by omega)).trans (hf 147 i (by decide) (show i < 12 from hi))
  · exact fun p i hp hi => (bx_cpS_ne (fun e => by subst e; revert hp; decide)).trans (hf p i hp hi)
  · exact rkWt4_ne (by unfold rkTb; omega) hW (fun p j hp => by have hp : (23 ≤ p ∧ p < 137) ∨ (160 ≤ p ∧ p < 274) ∨ (296 ≤ p ∧ p < 410) := hp; exact bx_cpS_ne (by omega))
theorem rxsCZ1x138_12 {X : (Nat → Int → Int) → Prop} {S0 : Nat → Int → Int} {ws : List Int} (hP : rxPCZ1x138 S0 ws) (hX : ∀ S S1 : Nat → Int → Int, X S → bx_same rxL (bx_mdl rxCCZ1x138.2.2.1) S S1 → X S1) : rx_obY X S0 rxCCZ1x138.2.2.1 (rxICZ1x138 S0 ws) (rxmCZ1x138 S0 ws) 12 13 rxzCZ1x138_12 147 10 12 := by
  intro S r hinv hXS I0 hin hs_ hf_
  have b_ := bx_bds_sat hs_
  have f_ := bx_fcl_ok hs_.1 hf_
  have g := rxtCZ1x138_12 hP hin I0 hinv 
  exact ⟨g.1, g.2, hX _ _ hXS (rx_same_cp (fun _ _ _ _ _ => rfl) (g1 := 7) rfl (by decide +kernel)), rx_same_cp hin (g1 := 7) rfl (by decide +kernel)⟩
theorem rxtCZ1x138_14 {S0 : Nat → Int → Int} {ws : List Int} {S : Nat → Int → Int} (hP : rxPCZ1x138 S0 ws) (hin : bx_same rxL (bx_mdl rxCCZ1x138.2.2.1) S0 S) (I0 : bx_Inv rxL S) (hinv : rxICZ1x138_14 S0 ws S)  : rxICZ1x138_15 S0 ws (bx_cpS S 148 11 12) ∧ rxmCZ1x138_15 S0 ws (bx_cpS S 148 11 12) < rxmCZ1x138_14 S0 ws S := by
  obtain ⟨h0, h1, h2, h3, h4, h5, h6, h7, h8, h9, hf, hW⟩ := hinv
  refine ⟨⟨?_, ?_, ?_, ?_, ?_, ?_, ?_, ?_, ?_, ?_, ?_, ?_, ?_⟩, by unfold rxmCZ1x138_14 rxmCZ1x138_15; omega⟩
  · exact (bx_cpS_ne (by decide)).trans h0
  · exact fun i hi => (bx_cpS_ne (by decide)).trans (h1 i hi)
  · exact fun i hi => (bx_cpS_ne (by decide)).trans (h2 i hi)
  · exact (bx_cpS_ne (by decide)).trans h3
  · exact fun i hi => (bx_cpS_ne (by decide)).trans (h4 i hi)
  · exact fun i hi => (bx_cpS_ne (by decide)).trans (h5 i hi)
  · exact fun i hi => (bx_cpS_ne (by decide)).trans (h6 i hi)
  · exact (bx_cpS_ne (by decide)).trans h7
  · exact fun i hi => (bx_cpS_ne (by decide)).trans (h8 i hi)
  · exact fun i hi => (bx_cpS_ne (by decide)).trans (h9 i hi)
  · exact fun i hi => (bx_cpS_in (by omega) (by omega)).trans (hf 148 i (by decide) (show i < 12 from hi))
  · exact fun p i hp hi => (bx_cpS_ne (fun e => by subst e; revert hp; decide)).trans (hf p i hp hi)
  · exact rkWt4_ne (by unfold rkTb; omega) hW (fun p j hp => by have hp : (23 ≤ p ∧ p < 137) ∨ (160 ≤ p ∧ p < 274) ∨ (296 ≤ p ∧ p < 410) := hp; exact bx_cpS_ne (by omega))
theorem rxsCZ1x138_14 {X : (Nat → Int → Int) → Prop} {S0 : Nat → Int → Int} {ws : List Int} (hP : rxPCZ1x138 S0 ws) (hX : ∀ S S1 : Nat → Int → Int, X S → bx_same rxL (bx_mdl rxCCZ1x138.2.2.1) S S1 → X S1) : rx_obY X S0 rxCCZ1x138.2.2.1 (rxICZ1x138 S0 ws) (rxmCZ1x138 S0 ws) 14 15 rxzCZ1x138_14 148 11 12 := by
  intro S r hinv hXS I0 hin hs_ hf_
  have b_ := bx_bds_sat hs_
  have f_ := bx_fcl_ok hs_.1 hf_
  have g := rxtCZ1x138_14 hP hin I0 hinv 
  exact ⟨g.1, g.2, hX _ _ hXS (rx_same_cp (fun _ _ _ _ _ => rfl) (g1 := 8) rfl (by decide +kernel)), rx_same_cp hin (g1 := 8) rfl (by decide +kernel)⟩
theorem rxkCZ1x138_17 {S0 : Nat → Int → Int} {ws : List Int} {S : Nat → Int → Int} {i rp rq : Int} (hP : rxPCZ1x138 S0 ws) (hin : bx_same rxL (bx_mdl rxCCZ1x138.2.2.1) S0 S) (I0 : bx_Inv rxL S) (hinv : rxICZ1x138_17 S0 ws S i rp rq) (l8 : 0 ≤ i) (u8 : i ≤ 11) (l9 : 0 ≤ rp) (u9 : rp ≤ 1522) (l10 : 0 ≤ rq) (u10 : rq ≤ 1522) : rxPSCZ S [rp, rq] ∧ ∀ (S_p : Nat → Int → Int), rxPSSCZ S [rp, rq] S_p none → bx_Inv rxL S_p → bx_same rxL (bx_mdl rxCSCZ.2.2.1) S S_p → rxICZ1x138_18 S0 ws S_p i rp rq ∧ rxmCZ1x138_18 S0 ws S_p i rp rq < rxmCZ1x138_17 S0 ws S i rp rq := by
  obtain ⟨hrp, hrq, h0, h1, h2, h3, h4, h5, h6, h7, h8, h9, h10, hf, hW⟩ := hinv
  have hpl := rkPl_sm hin (by decide +kernel) hP
  have gb := (hpl.2.1.2 i.toNat (by omega)).2
  have gs := (hpl.2.2.1.2 i.toNat (by omega)).2
  refine ⟨⟨41 + 3 * i.toNat, 178 + 3 * i.toNat, by rw [hrp, hrq], ⟨(by
      have g := rkSg_t (tb := 23) (k := 6 + i.toNat) (by unfold rkTb; omega) (by omega)
      rw [show 23 + 3 * (6 + i.toNat) = 41 + 3 * i.toNat by omega] at g
      exact g), (by
      have g := rkSg_t (tb := 160) (k := 6 + i.toNat) (by unfold rkTb; omega) (by omega)
      rw [show 160 + 3 * (6 + i.toNat) = 178 + 3 * i.toNat by omega] at g
      exact g), by omega⟩, gs, gb⟩, fun S_p hq _ hsm => ?_⟩
  have q := hq.2 (41 + 3 * i.toNat) (178 + 3 * i.toNat) (by rw [hrp, hrq])
  have e : ∀ (p : Nat) (j : Int), ¬ rkRgn p → S_p p j = S p j := rkSc_o q (tb := 23) (by unfold rkTb; omega) (by omega) (by omega)
  refine ⟨⟨(e _ _ (by unfold rkRgn; omega)).trans h0, fun n hn => (e _ _ (by unfold rkRgn; omega)).trans (h1 n hn), fun n hn => (e _ _ (by unfold rkRgn; omega)).trans (h2 n hn), (e _ _ (by unfold rkRgn; omega)).trans h3, fun n hn => (e _ _ (by unfold rkRgn; omega)).trans (h4 n hn), fun n hn => (e _ _ (by unfold rkRgn; omega)).trans (h5 n hn), fun n hn => (e _ _ (by unfold rkRgn; omega)).trans (h6 n hn), (e _ _ (by unfold rkRgn; omega)).trans h7, fun n hn => (e _ _ (by unfold rkRgn; omega)).trans (h8 n hn), fun n hn => (e _ _ (by unfold rkRgn; omega)).trans (h9 n hn), fun n hn => (e _ _ (by unfold rkRgn; omega)).trans (h10 n hn), fun p n hp hi => (e p n (rkNum_n (rxFl1_in p hp))).trans (hf p n hp hi), ?_⟩, by unfold rxmCZ1x138_17 rxmCZ1x138_18; omega⟩
  have ei : ((i.toNat : Nat) : Int) = i := Int.toNat_of_nonneg (by omega)
  have hW_p : rkWt4 S0 S 23 160 6 ((i.toNat : Nat) : Int) 0 := by rw [ei]; exact hW
  have g := rkWt4_v (by unfold rkTb; omega) (by unfold rkTb; omega) (by decide) (by omega) hW_p q
  rw [ei] at g
  exact g
theorem rxsCZ1x138_17 {X : (Nat → Int → Int) → Prop} {S0 : Nat → Int → Int} {ws : List Int} (hP : rxPCZ1x138 S0 ws) : rx_obK X S0 rxCCZ1x138.2.2.1 rxCSCZ.2.2.1 (rxICZ1x138 S0 ws) (rxmCZ1x138 S0 ws) 17 18 rxzCZ1x138_17 rxzCZ1x138_18 [.inr (3, (9, 0)), .inr (3, (10, 0))] none rxPSCZ rxPSSCZ := by
  intro S r hinv hXS I0 hin hs_ hf_
  have b_ := bx_bds_sat hs_
  have f_ := bx_fcl_ok hs_.1 hf_
  obtain ⟨⟨l8, u8⟩, ⟨l9, u9⟩, ⟨l10, u10⟩, -⟩ := b_
  have g := rxkCZ1x138_17 hP hin I0 hinv l8 u8 l9 u9 l10 u10
  have ea : List.map (bx_num r) [.inr (3, (9, 0)), .inr (3, (10, 0))] = [(r 9), (r 10)] := by
    simp only [List.map_cons, List.map_nil, bx_xv_ok hs_.1]
    rfl
  rw [ea]
  refine ⟨g.1, fun S_p w r_p hPS hX_p I1 hsm hr hw hs_p => ?_⟩
  have hw : w = none := hPS.1
  subst hw
  have g2 := g.2 S_p hPS I1 hsm
  show rxICZ1x138_18 S0 ws S_p (r_p 8) (r_p 9) (r_p 10) ∧ rxmCZ1x138_18 S0 ws S_p (r_p 8) (r_p 9) (r_p 10) < _
  rw [hr 8 (by decide), hr 9 (by decide), hr 10 (by decide)]
  exact g2
theorem rxtCZ1x138_19 {S0 : Nat → Int → Int} {ws : List Int} {S : Nat → Int → Int} (hP : rxPCZ1x138 S0 ws) (hin : bx_same rxL (bx_mdl rxCCZ1x138.2.2.1) S0 S) (I0 : bx_Inv rxL S) (hinv : rxICZ1x138_19 S0 ws S)  : rxICZ1x138_20 S0 ws (bx_cpS S 150 13 12) ∧ rxmCZ1x138_20 S0 ws (bx_cpS S 150 13 12) < rxmCZ1x138_19 S0 ws S := by
  obtain ⟨h0, h1, h2, h3, h4, h5, h6, h7, h8, h9, h10, h11, hf, hW⟩ := hinv
  refine ⟨⟨?_, ?_, ?_, ?_, ?_, ?_, ?_, ?_, ?_, ?_, ?_, ?_, ?_, ?_, ?_⟩, by unfold rxmCZ1x138_19 rxmCZ1x138_20; omega⟩
  · exact (bx_cpS_ne (by decide)).trans h0
  · exact fun i hi => (bx_cpS_ne (by decide)).trans (h1 i hi)
  · exact fun i hi => (bx_cpS_ne (by decide)).trans (h2 i hi)
  · exact (bx_cpS_ne (by decide)).trans h3
  · exact fun i hi => (bx_cpS_ne (by decide)).trans (h4 i hi)
  · exact fun i hi => (bx_cpS_ne (by decide)).trans (h5 i hi)
  · exact fun i hi => (bx_cpS_ne (by decide)).trans (h6 i hi)
  · exact (bx_cpS_ne (by decide)).trans h7
  · exact fun i hi => (bx_cpS_ne (by decide)).trans (h8 i hi)
  · exact fun i hi => (bx_cpS_ne (by decide)).trans (h9 i hi)
  · exact fun i hi => (bx_cpS_ne (by decide)).trans (h10 i hi)
  · exact (bx_cpS_ne (by decide)).trans h11
  · exact fun i hi => (bx_cpS_in (by omega) (by omega)).trans (hf 150 i (by decide) (show i < 12 from hi))
  · exact fun p i hp hi => (bx_cpS_ne (fun e => by subst e; revert hp; decide)).trans (hf p i hp hi)
  · exact rkWt4_ne (by unfold rkTb; omega) hW (fun p j hp => by have hp : (23 ≤ p ∧ p < 137) ∨ (160 ≤ p ∧ p < 274) ∨ (296 ≤ p ∧ p < 410) := hp; exact bx_cpS_ne (by omega))
theorem rxsCZ1x138_19 {X : (Nat → Int → Int) → Prop} {S0 : Nat → Int → Int} {ws : List Int} (hP : rxPCZ1x138 S0 ws) (hX : ∀ S S1 : Nat → Int → Int, X S → bx_same rxL (bx_mdl rxCCZ1x138.2.2.1) S S1 → X S1) : rx_obY X S0 rxCCZ1x138.2.2.1 (rxICZ1x138 S0 ws) (rxmCZ1x138 S0 ws) 19 20 rxzCZ1x138_19 150 13 12 := by
  intro S r hinv hXS I0 hin hs_ hf_
  have b_ := bx_bds_sat hs_
  have f_ := bx_fcl_ok hs_.1 hf_
  have g := rxtCZ1x138_19 hP hin I0 hinv 
  exact ⟨g.1, g.2, hX _ _ hXS (rx_same_cp (fun _ _ _ _ _ => rfl) (g1 := 10) rfl (by decide +kernel)), rx_same_cp hin (g1 := 10) rfl (by decide +kernel)⟩
theorem rxkCZ1x138_21 {S0 : Nat → Int → Int} {ws : List Int} {S : Nat → Int → Int} (hP : rxPCZ1x138 S0 ws) (hin : bx_same rxL (bx_mdl rxCCZ1x138.2.2.1) S0 S) (I0 : bx_Inv rxL S) (hinv : rxICZ1x138_21 S0 ws S)  : rxPDC14x151 S [14, 151] ∧ ∀ (S_p : Nat → Int → Int), rxPSDC14x151 S [14, 151] S_p none → bx_Inv rxL S_p → bx_same rxL (bx_mdl rxCDC14x151.2.2.1) S S_p → rxICZ1x138_22 S0 ws S_p ∧ rxmCZ1x138_22 S0 ws S_p < rxmCZ1x138_21 S0 ws S := by
  obtain ⟨h0, h1, h2, h3, h4, h5, h6, h7, h8, h9, h10, h11, h12, hf, hW⟩ := hinv
  refine ⟨trivial, fun S_p hq _ hsm => ⟨⟨?_, ?_, ?_, ?_, ?_, ?_, ?_, ?_, ?_, ?_, ?_, ?_, ?_, ?_, ?_, ?_, ?_, ?_, ?_⟩, by unfold rxmCZ1x138_21 rxmCZ1x138_22; omega⟩⟩
  all_goals obtain ⟨-, q0, q1, q2, q3, qf⟩ := hq
  · exact (qf _ _ (by decide) (by decide) (by decide) (by decide)).trans h0
  · exact fun i hi => (qf _ _ (by decide) (by decide) (by decide) (by decide)).trans (h1 i hi)
  · exact fun i hi => (qf _ _ (by decide) (by decide) (by decide) (by decide)).trans (h2 i hi)
  · exact (qf _ _ (by decide) (by decide) (by decide) (by decide)).trans h3
  · exact fun i hi => (qf _ _ (by decide) (by decide) (by decide) (by decide)).trans (h4 i hi)
  · exact fun i hi => (qf _ _ (by decide) (by decide) (by decide) (by decide)).trans (h5 i hi)
  · exact fun i hi => (qf _ _ (by decide) (by decide) (by decide) (by decide)).trans (h6 i hi)
  · exact (qf _ _ (by decide) (by decide) (by decide) (by decide)).trans h7
  · exact fun i hi => (qf _ _ (by decide) (by decide) (by decide) (by decide)).trans (h8 i hi)
  · exact fun i hi => (qf _ _ (by decide) (by decide) (by decide) (by decide)).trans (h9 i hi)
  · exact fun i hi => (qf _ _ (by decide) (by decide) (by decide) (by decide)).trans (h10 i hi)
  · exact (qf _ _ (by decide) (by decide) (by decide) (by decide)).trans h11
  · exact fun i hi => (qf _ _ (by decide) (by decide) (by decide) (by decide)).trans (h12 i hi)
  · exact q0.trans (hf 151 0 (by decide) (by decide))
  · exact fun i hi => (q1 i (by omega) (by omega)).trans (hf 152 i (by decide) (show i < 12 from hi))
  · exact fun i hi => (q2 i (by omega) (by omega)).trans (hf 153 i (by decide) (show i < 12 from hi))
  · exact fun i hi => (q3 i (by omega) (by omega)).trans (hf 154 i (by decide) (show i < 12 from hi))
  · exact fun p i hp hi => (qf p i (fun e => by subst e; revert hp; decide) (fun e => by subst e; revert hp; decide) (fun e => by subst e; revert hp; decide) (fun e => by subst e; revert hp; decide)).trans (hf p i hp hi)
  · exact rkWt4_ne (by unfold rkTb; omega) hW (fun p j hp => by have hp : (23 ≤ p ∧ p < 137) ∨ (160 ≤ p ∧ p < 274) ∨ (296 ≤ p ∧ p < 410) := hp; exact qf p j (by omega) (by omega) (by omega) (by omega))
theorem rxsCZ1x138_21 {X : (Nat → Int → Int) → Prop} {S0 : Nat → Int → Int} {ws : List Int} (hP : rxPCZ1x138 S0 ws) : rx_obK X S0 rxCCZ1x138.2.2.1 rxCDC14x151.2.2.1 (rxICZ1x138 S0 ws) (rxmCZ1x138 S0 ws) 21 22 rxzCZ1x138_21 rxzCZ1x138_22 [.inr (3, (0, 14)), .inr (3, (0, 151))] none rxPDC14x151 rxPSDC14x151 := by
  intro S r hinv hXS I0 hin hs_ hf_
  have b_ := bx_bds_sat hs_
  have f_ := bx_fcl_ok hs_.1 hf_
  have g := rxkCZ1x138_21 hP hin I0 hinv 
  have ea : List.map (bx_num r) [.inr (3, (0, 14)), .inr (3, (0, 151))] = [14, 151] := by
    simp only [List.map_cons, List.map_nil, bx_xv_ok hs_.1]
    rfl
  rw [ea]
  refine ⟨g.1, fun S_p w r_p hPS hX_p I1 hsm hr hw hs_p => ?_⟩
  have hw : w = none := hPS.1
  subst hw
  have g2 := g.2 S_p hPS I1 hsm
  show rxICZ1x138_22 S0 ws S_p ∧ rxmCZ1x138_22 S0 ws S_p < _
  exact g2
theorem rxtCZ1x138_23 {S0 : Nat → Int → Int} {ws : List Int} {S : Nat → Int → Int} (hP : rxPCZ1x138 S0 ws) (hin : bx_same rxL (bx_mdl rxCCZ1x138.2.2.1) S0 S) (I0 : bx_Inv rxL S) (hinv : rxICZ1x138_23 S0 ws S)  : rxICZ1x138_24 S0 ws (bx_cpS S 156 19 3) ∧ rxmCZ1x138_24 S0 ws (bx_cpS S 156 19 3) < rxmCZ1x138_23 S0 ws S := by
  obtain ⟨h0, h1, h2, h3, h4, h5, h6, h7, h8, h9, h10, h11, h12, h13, h14, h15, h16, hf, hW⟩ := hinv
  refine ⟨⟨?_, ?_, ?_, ?_, ?_, ?_, ?_, ?_, ?_, ?_, ?_, ?_, ?_, ?_, ?_, ?_, ?_, ?_, ?_, ?_⟩, by unfold rxmCZ1x138_23 rxmCZ1x138_24; omega⟩
  · exact (bx_cpS_ne (by decide)).trans h0
  · exact fun i hi => (bx_cpS_ne (by decide)).trans (h1 i hi)
  · exact fun i hi => (bx_cpS_ne (by decide)).trans (h2 i hi)
  · exact (bx_cpS_ne (by decide)).trans h3
  · exact fun i hi => (bx_cpS_ne (by decide)).trans (h4 i hi)
  · exact fun i hi => (bx_cpS_ne (by decide)).trans (h5 i hi)
  · exact fun i hi => (bx_cpS_ne (by decide)).trans (h6 i hi)
  · exact (bx_cpS_ne (by decide)).trans h7
  · exact fun i hi => (bx_cpS_ne (by decide)).trans (h8 i hi)
  · exact fun i hi => (bx_cpS_ne (by decide)).trans (h9 i hi)
  · exact fun i hi => (bx_cpS_ne (by decide)).trans (h10 i hi)
  · exact (bx_cpS_ne (by decide)).trans h11
  · exact fun i hi => (bx_cpS_ne (by decide)).trans (h12 i hi)
  · exact (bx_cpS_ne (by decide)).trans h13
  · exact fun i hi => (bx_cpS_ne (by decide)).trans (h14 i hi)
  · exact fun i hi => (bx_cpS_ne (by decide)).trans (h15 i hi)
  · exact fun i hi => (bx_cpS_ne (by decide)).trans (h16 i hi)
  · exact fun i hi => (bx_cpS_in (by omega) (by omega)).trans (hf 156 i (by decide) (show i < 3 from hi))
  · exact fun p i hp hi => (bx_cpS_ne (fun e => by subst e; revert hp; decide)).trans (hf p i hp hi)
  · exact rkWt4_ne (by unfold rkTb; omega) hW (fun p j hp => by have hp : (23 ≤ p ∧ p < 137) ∨ (160 ≤ p ∧ p < 274) ∨ (296 ≤ p ∧ p < 410) := hp; exact bx_cpS_ne (by omega))
theorem rxsCZ1x138_23 {X : (Nat → Int → Int) → Prop} {S0 : Nat → Int → Int} {ws : List Int} (hP : rxPCZ1x138 S0 ws) (hX : ∀ S S1 : Nat → Int → Int, X S → bx_same rxL (bx_mdl rxCCZ1x138.2.2.1) S S1 → X S1) : rx_obY X S0 rxCCZ1x138.2.2.1 (rxICZ1x138 S0 ws) (rxmCZ1x138 S0 ws) 23 24 rxzCZ1x138_23 156 19 3 := by
  intro S r hinv hXS I0 hin hs_ hf_
  have b_ := bx_bds_sat hs_
  have f_ := bx_fcl_ok hs_.1 hf_
  have g := rxtCZ1x138_23 hP hin I0 hinv 
  exact ⟨g.1, g.2, hX _ _ hXS (rx_same_cp (fun _ _ _ _ _ => rfl) (g1 := 15) rfl (by decide +kernel)), rx_same_cp hin (g1 := 15) rfl (by decide +kernel)⟩
theorem rxkCZ1x138_26 {S0 : Nat → Int → Int} {ws : List Int} {S : Nat → Int → Int} {i rp rq : Int} (hP : rxPCZ1x138 S0 ws) (hin : bx_same rxL (bx_mdl rxCCZ1x138.2.2.1) S0 S) (I0 : bx_Inv rxL S) (hinv : rxICZ1x138_26 S0 ws S i rp rq) (l8 : 0 ≤ i) (u8 : i ≤ 5) (l9 : 0 ≤ rp) (u9 : rp ≤ 1522) (l10 : 0 ≤ rq) (u10 : rq ≤ 1522) : rxPQCZ S [rp, rq] ∧ ∀ (S_p : Nat → Int → Int), rxPSQCZ S [rp, rq] S_p none → bx_Inv rxL S_p → bx_same rxL (bx_mdl rxCQCZ.2.2.1) S S_p → rxICZ1x138_27 S0 ws S_p i rp rq ∧ rxmCZ1x138_27 S0 ws S_p i rp rq < rxmCZ1x138_26 S0 ws S i rp rq := by
  obtain ⟨hrp, hrq, h0, h1, h2, h3, h4, h5, h6, h7, h8, h9, h10, h11, h12, h13, h14, h15, h16, h17, h18, h19, hf, hW⟩ := hinv
  have hpl := rkPl_sm hin (by decide +kernel) hP
  have gb := (hpl.1.2.1 i.toNat (by omega)).2
  have gs := (hpl.1.2.2.1 i.toNat (by omega)).2
  refine ⟨⟨77 + 10 * i.toNat, 214 + 10 * i.toNat, by rw [hrp, hrq], ⟨(by
      have g := rkPg_t (tb := 23) (k := i.toNat) (by unfold rkTb; omega) (by omega)
      exact g), (by
      have g := rkPg_t (tb := 160) (k := i.toNat) (by unfold rkTb; omega) (by omega)
      exact g), by omega⟩, gs, gb⟩, fun S_p hq _ hsm => ?_⟩
  have q := hq.2 (77 + 10 * i.toNat) (214 + 10 * i.toNat) (by rw [hrp, hrq])
  have e : ∀ (p : Nat) (j : Int), ¬ rkRgn p → S_p p j = S p j := rkQc_o q (tb := 23) (by unfold rkTb; omega) (by omega) (by omega)
  refine ⟨⟨(e _ _ (by unfold rkRgn; omega)).trans h0, fun n hn => (e _ _ (by unfold rkRgn; omega)).trans (h1 n hn), fun n hn => (e _ _ (by unfold rkRgn; omega)).trans (h2 n hn), (e _ _ (by unfold rkRgn; omega)).trans h3, fun n hn => (e _ _ (by unfold rkRgn; omega)).trans (h4 n hn), fun n hn => (e _ _ (by unfold rkRgn; omega)).trans (h5 n hn), fun n hn => (e _ _ (by unfold rkRgn; omega)).trans (h6 n hn), (e _ _ (by unfold rkRgn; omega)).trans h7, fun n hn => (e _ _ (by unfold rkRgn; omega)).trans (h8 n hn), fun n hn => (e _ _ (by unfold rkRgn; omega)).trans (h9 n hn), fun n hn => (e _ _ (by unfold rkRgn; omega)).trans (h10 n hn), (e _ _ (by unfold rkRgn; omega)).trans h11, fun n hn => (e _ _ (by unfold rkRgn; omega)).trans (h12 n hn), (e _ _ (by unfold rkRgn; omega)).trans h13, fun n hn => (e _ _ (by unfold rkRgn; omega)).trans (h14 n hn), fun n hn => (e _ _ (by unfold rkRgn; omega)).trans (h15 n hn), fun n hn => (e _ _ (by unfold rkRgn; omega)).trans (h16 n hn), fun n hn => (e _ _ (by unfold rkRgn; omega)).trans (h17 n hn), (e _ _ (by unfold rkRgn; omega)).trans h18, (e _ _ (by unfold rkRgn; omega)).trans h19, fun p n hp hi => (e p n (rkNum_n (rxFl1_in p hp))).trans (hf p n hp hi), ?_⟩, by unfold rxmCZ1x138_26 rxmCZ1x138_27; omega⟩
  have ei : ((i.toNat : Nat) : Int) = i := Int.toNat_of_nonneg (by omega)
  have hW_p : rkWt4 S0 S 23 160 6 12 ((i.toNat : Nat) : Int) := by rw [ei]; exact hW
  have g := rkWt4_l (by unfold rkTb; omega) (by unfold rkTb; omega) (by decide) (by omega) hW_p q
  rw [ei] at g
  exact g
theorem rxsCZ1x138_26 {X : (Nat → Int → Int) → Prop} {S0 : Nat → Int → Int} {ws : List Int} (hP : rxPCZ1x138 S0 ws) : rx_obK X S0 rxCCZ1x138.2.2.1 rxCQCZ.2.2.1 (rxICZ1x138 S0 ws) (rxmCZ1x138 S0 ws) 26 27 rxzCZ1x138_26 rxzCZ1x138_27 [.inr (3, (9, 0)), .inr (3, (10, 0))] none rxPQCZ rxPSQCZ := by
  intro S r hinv hXS I0 hin hs_ hf_
  have b_ := bx_bds_sat hs_
  have f_ := bx_fcl_ok hs_.1 hf_
  obtain ⟨⟨l8, u8⟩, ⟨l9, u9⟩, ⟨l10, u10⟩, -⟩ := b_
  have g := rxkCZ1x138_26 hP hin I0 hinv l8 u8 l9 u9 l10 u10
  have ea : List.map (bx_num r) [.inr (3, (9, 0)), .inr (3, (10, 0))] = [(r 9), (r 10)] := by
    simp only [List.map_cons, List.map_nil, bx_xv_ok hs_.1]
    rfl
  rw [ea]
  refine ⟨g.1, fun S_p w r_p hPS hX_p I1 hsm hr hw hs_p => ?_⟩
  have hw : w = none := hPS.1
  subst hw
  have g2 := g.2 S_p hPS I1 hsm
  show rxICZ1x138_27 S0 ws S_p (r_p 8) (r_p 9) (r_p 10) ∧ rxmCZ1x138_27 S0 ws S_p (r_p 8) (r_p 9) (r_p 10) < _
  rw [hr 8 (by decide), hr 9 (by decide), hr 10 (by decide)]
  exact g2
theorem rxcCZ1x138_0_0 {S0 : Nat → Int → Int} {ws : List Int} {S : Nat → Int → Int} {x8 : Int} (hP : rxPCZ1x138 S0 ws) (hin : bx_same rxL (bx_mdl rxCCZ1x138.2.2.1) S0 S) (I0 : bx_Inv rxL S) (hinv : rxICZ1x138_0 S0 ws S) (l8 : 0 ≤ x8) (u8 : x8 ≤ 6) (e1 : S 138 0 = x8) : (True) ∧ (True) ∧ rxICZ1x138_1 S0 ws (bx_up S 1 0 x8) ∧ rxmCZ1x138_1 S0 ws (bx_up S 1 0 x8) < rxmCZ1x138_0 S0 ws S := by
  obtain ⟨rfl, hw⟩ := hinv
  exact ⟨trivial, trivial, ⟨bx_up_at.trans e1.symm, fun p i hp hi => bx_up_ne (fun h => by have e := h.1; subst e; revert hp; decide), rkWt4_0 fun p j hp => by
    have hp : (23 ≤ p ∧ p < 137) ∨ (160 ≤ p ∧ p < 274) ∨ (296 ≤ p ∧ p < 410) := hp
    exact bx_up_ne (by omega)⟩, by unfold rxmCZ1x138_0 rxmCZ1x138_1; omega⟩
theorem rxgCZ1x138_0_0 {X : (Nat → Int → Int) → Prop} {S0 : Nat → Int → Int} {ws : List Int} (hP : rxPCZ1x138 S0 ws) : bx_obC rxL X S0 rxCCZ1x138.2.2.1 (rxICZ1x138 S0 ws) (rxmCZ1x138 S0 ws) 0 rxzCZ1x138_0 rxoCZ1x138_0_0 := by
  intro S S_p r r_p hinv hX hin hsm_ hseg
  obtain ⟨I0, I1, h0_, hr_, b_, f_, d_⟩ := bx_cl (evs := [(1, (0, 1), (0, 0), .inr (0, (8, 0))), (0, (0, 138), (0, 0), .inr (0, (8, 0)))]) (fvs := []) hseg (by decide +kernel) (by decide +kernel)
  have hinv : rxICZ1x138_0 S0 ws S := hinv
  obtain ⟨⟨l8, u8⟩, -⟩ := b_
  obtain ⟨T0, ⟨e1, w_⟩, w0⟩ := d_
  subst w0
  subst w_
  have g := rxcCZ1x138_0_0 hP hin I0 hinv l8 u8 e1
  refine ⟨bx_narP_ok (l := []) g.1, bx_nfP_ok h0_ (fvs := []) (by decide +kernel) g.2.1, ?_, ?_⟩
  · show rxICZ1x138_1 S0 ws (bx_up T0 1 (0) (r_p 8))
    exact g.2.2.1
  · show rxmCZ1x138_1 S0 ws (bx_up T0 1 (0) (r_p 8)) < rxmCZ1x138_0 S0 ws T0
    exact g.2.2.2
theorem rxcCZ1x138_2_0 {S0 : Nat → Int → Int} {ws : List Int} {S : Nat → Int → Int} (hP : rxPCZ1x138 S0 ws) (hin : bx_same rxL (bx_mdl rxCCZ1x138.2.2.1) S0 S) (I0 : bx_Inv rxL S) (hinv : rxICZ1x138_2 S0 ws S)  : (True) ∧ (True) ∧ rxICZ1x138_3 S0 ws S ∧ rxmCZ1x138_3 S0 ws S < rxmCZ1x138_2 S0 ws S := by
  exact ⟨trivial, trivial, hinv, by unfold rxmCZ1x138_2 rxmCZ1x138_3; omega⟩
theorem rxgCZ1x138_2_0 {X : (Nat → Int → Int) → Prop} {S0 : Nat → Int → Int} {ws : List Int} (hP : rxPCZ1x138 S0 ws) : bx_obC rxL X S0 rxCCZ1x138.2.2.1 (rxICZ1x138 S0 ws) (rxmCZ1x138 S0 ws) 2 rxzCZ1x138_2 rxoCZ1x138_2_0 := by
  intro S S_p r r_p hinv hX hin hsm_ hseg
  obtain ⟨I0, I1, h0_, hr_, b_, f_, d_⟩ := bx_cl (evs := []) (fvs := []) hseg (by decide +kernel) (by decide +kernel)
  have hinv : rxICZ1x138_2 S0 ws S := hinv
  have w_ := d_
  subst w_
  have g := rxcCZ1x138_2_0 hP hin I0 hinv 
  refine ⟨bx_narP_ok (l := []) g.1, bx_nfP_ok h0_ (fvs := []) (by decide +kernel) g.2.1, ?_, ?_⟩
  · show rxICZ1x138_3 S0 ws S_p
    exact g.2.2.1
  · show rxmCZ1x138_3 S0 ws S_p < rxmCZ1x138_2 S0 ws S_p
    exact g.2.2.2
theorem rxcCZ1x138_4_0 {S0 : Nat → Int → Int} {ws : List Int} {S : Nat → Int → Int} (hP : rxPCZ1x138 S0 ws) (hin : bx_same rxL (bx_mdl rxCCZ1x138.2.2.1) S0 S) (I0 : bx_Inv rxL S) (hinv : rxICZ1x138_4 S0 ws S)  : (True) ∧ (True) ∧ rxICZ1x138_5 S0 ws S 0 ∧ rxmCZ1x138_5 S0 ws S 0 < rxmCZ1x138_4 S0 ws S := by
  exact ⟨trivial, trivial, hinv, by unfold rxmCZ1x138_4 rxmCZ1x138_5; omega⟩
theorem rxgCZ1x138_4_0 {X : (Nat → Int → Int) → Prop} {S0 : Nat → Int → Int} {ws : List Int} (hP : rxPCZ1x138 S0 ws) : bx_obC rxL X S0 rxCCZ1x138.2.2.1 (rxICZ1x138 S0 ws) (rxmCZ1x138 S0 ws) 4 rxzCZ1x138_4 rxoCZ1x138_4_0 := by
  intro S S_p r r_p hinv hX hin hsm_ hseg
  obtain ⟨I0, I1, h0_, hr_, b_, f_, d_⟩ := bx_cl (evs := []) (fvs := []) hseg (by decide +kernel) (by decide +kernel)
  have hinv : rxICZ1x138_4 S0 ws S := hinv
  have w_ := d_
  subst w_
  have g := rxcCZ1x138_4_0 hP hin I0 hinv 
  refine ⟨bx_narP_ok (l := []) g.1, bx_nfP_ok h0_ (fvs := []) (by decide +kernel) g.2.1, ?_, ?_⟩
  · show rxICZ1x138_5 S0 ws S_p (bx_val [(0, 0), (0, 0), (0, 0), (0, 0), (0, 0), (0, 0), (0, 0), (0, 0), (0, 0)] r_p 8)
    rw [bx_val_x (n := 8) (e := (0, 0)) h0_ rfl]
    exact g.2.2.1
  · show rxmCZ1x138_5 S0 ws S_p (bx_val [(0, 0), (0, 0), (0, 0), (0, 0), (0, 0), (0, 0), (0, 0), (0, 0), (0, 0)] r_p 8) < rxmCZ1x138_4 S0 ws S_p
    rw [bx_val_x (n := 8) (e := (0, 0)) h0_ rfl]
    exact g.2.2.2
theorem rxcCZ1x138_5_0 {S0 : Nat → Int → Int} {ws : List Int} {S : Nat → Int → Int} {i x9 x10 : Int} (hP : rxPCZ1x138 S0 ws) (hin : bx_same rxL (bx_mdl rxCCZ1x138.2.2.1) S0 S) (I0 : bx_Inv rxL S) (hinv : rxICZ1x138_5 S0 ws S i) (l8 : 0 ≤ i) (u8 : i ≤ 5) (l9 : 0 ≤ x9) (u9 : x9 ≤ 1522) (l10 : 0 ≤ x10) (u10 : x10 ≤ 1522) (e1 : S 4 i = x9) (e0 : S 141 i = x10) : (True) ∧ (True) ∧ rxICZ1x138_6 S0 ws S i x9 x10 ∧ rxmCZ1x138_6 S0 ws S i x9 x10 < rxmCZ1x138_5 S0 ws S i := by
  obtain ⟨h0, h1, h2, hf, hW⟩ := id hinv
  have hpl := rkPl_sm hin (by decide +kernel) hP
  have gb := (hpl.2.1.1 i.toNat (by omega)).1
  have gs := (hpl.2.2.1.1 i.toNat (by omega)).1
  rw [Int.toNat_of_nonneg (show (0 : Int) ≤ i by omega)] at gb gs
  exact ⟨trivial, trivial, ⟨e1.symm.trans gb, e0.symm.trans gs, hinv⟩, by unfold rxmCZ1x138_5 rxmCZ1x138_6; omega⟩
theorem rxgCZ1x138_5_0 {X : (Nat → Int → Int) → Prop} {S0 : Nat → Int → Int} {ws : List Int} (hP : rxPCZ1x138 S0 ws) : bx_obC rxL X S0 rxCCZ1x138.2.2.1 (rxICZ1x138 S0 ws) (rxmCZ1x138 S0 ws) 5 rxzCZ1x138_5 rxoCZ1x138_5_0 := by
  intro S S_p r r_p hinv hX hin hsm_ hseg
  obtain ⟨I0, I1, h0_, hr_, b_, f_, d_⟩ := bx_cl (evs := [(0, (0, 141), (8, 0), .inr (3, (10, 0))), (0, (0, 4), (8, 0), .inr (3, (9, 0)))]) (fvs := []) hseg (by decide +kernel) (by decide +kernel)
  have hinv : rxICZ1x138_5 S0 ws S (r 8) := hinv
  rw [← hr_ 8 (by decide)] at hinv
  obtain ⟨⟨l8, u8⟩, ⟨l9, u9⟩, ⟨l10, u10⟩, -⟩ := b_
  obtain ⟨e0, ⟨e1, w_⟩⟩ := d_
  subst w_
  have g := rxcCZ1x138_5_0 hP hin I0 hinv l8 u8 l9 u9 l10 u10 e1 e0
  refine ⟨bx_narP_ok (l := []) g.1, bx_nfP_ok h0_ (fvs := []) (by decide +kernel) g.2.1, ?_, ?_⟩
  · show rxICZ1x138_6 S0 ws S_p (bx_val [(0, 0), (0, 0), (0, 0), (0, 0), (0, 0), (0, 0), (0, 0), (0, 0), (8, 0), (9, 0), (10, 0)] r_p 8) (bx_val [(0, 0), (0, 0), (0, 0), (0, 0), (0, 0), (0, 0), (0, 0), (0, 0), (8, 0), (9, 0), (10, 0)] r_p 9) (bx_val [(0, 0), (0, 0), (0, 0), (0, 0), (0, 0), (0, 0), (0, 0), (0, 0), (8, 0), (9, 0), (10, 0)] r_p 10)
    rw [bx_val_x (n := 8) (e := (8, 0)) h0_ rfl, bx_val_x (n := 9) (e := (9, 0)) h0_ rfl, bx_val_x (n := 10) (e := (10, 0)) h0_ rfl]
    exact g.2.2.1
  · show rxmCZ1x138_6 S0 ws S_p (bx_val [(0, 0), (0, 0), (0, 0), (0, 0), (0, 0), (0, 0), (0, 0), (0, 0), (8, 0), (9, 0), (10, 0)] r_p 8) (bx_val [(0, 0), (0, 0), (0, 0), (0, 0), (0, 0), (0, 0), (0, 0), (0, 0), (8, 0), (9, 0), (10, 0)] r_p 9) (bx_val [(0, 0), (0, 0), (0, 0), (0, 0), (0, 0), (0, 0), (0, 0), (0, 0), (8, 0), (9, 0), (10, 0)] r_p 10) < rxmCZ1x138_5 S0 ws S_p (r 8)
    rw [bx_val_x (n := 8) (e := (8, 0)) h0_ rfl, bx_val_x (n := 9) (e := (9, 0)) h0_ rfl, bx_val_x (n := 10) (e := (10, 0)) h0_ rfl, ← hr_ 8 (by decide)]
    exact g.2.2.2
theorem rxcCZ1x138_5_1 {S0 : Nat → Int → Int} {ws : List Int} {S : Nat → Int → Int} {i : Int} (hP : rxPCZ1x138 S0 ws) (hin : bx_same rxL (bx_mdl rxCCZ1x138.2.2.1) S0 S) (I0 : bx_Inv rxL S) (hinv : rxICZ1x138_5 S0 ws S i) (l8 : 6 ≤ i) (u8 : i ≤ 6) : (True) ∧ (True) ∧ rxICZ1x138_8 S0 ws S ∧ rxmCZ1x138_8 S0 ws S < rxmCZ1x138_5 S0 ws S i := by
  have ei : i = 6 := by omega
  subst ei
  exact ⟨trivial, trivial, hinv, by unfold rxmCZ1x138_5 rxmCZ1x138_8; omega⟩
theorem rxgCZ1x138_5_1 {X : (Nat → Int → Int) → Prop} {S0 : Nat → Int → Int} {ws : List Int} (hP : rxPCZ1x138 S0 ws) : bx_obC rxL X S0 rxCCZ1x138.2.2.1 (rxICZ1x138 S0 ws) (rxmCZ1x138 S0 ws) 5 rxzCZ1x138_5 rxoCZ1x138_5_1 := by
  intro S S_p r r_p hinv hX hin hsm_ hseg
  obtain ⟨I0, I1, h0_, hr_, b_, f_, d_⟩ := bx_cl (evs := []) (fvs := []) hseg (by decide +kernel) (by decide +kernel)
  have hinv : rxICZ1x138_5 S0 ws S (r 8) := hinv
  rw [← hr_ 8 (by decide)] at hinv
  obtain ⟨⟨l8, u8⟩, -⟩ := b_
  have w_ := d_
  subst w_
  have g := rxcCZ1x138_5_1 hP hin I0 hinv l8 u8
  refine ⟨bx_narP_ok (l := []) g.1, bx_nfP_ok h0_ (fvs := []) (by decide +kernel) g.2.1, ?_, ?_⟩
  · show rxICZ1x138_8 S0 ws S_p
    exact g.2.2.1
  · show rxmCZ1x138_8 S0 ws S_p < rxmCZ1x138_5 S0 ws S_p (r 8)
    rw [← hr_ 8 (by decide)]
    exact g.2.2.2
theorem rxcCZ1x138_7_0 {S0 : Nat → Int → Int} {ws : List Int} {S : Nat → Int → Int} {i rp rq : Int} (hP : rxPCZ1x138 S0 ws) (hin : bx_same rxL (bx_mdl rxCCZ1x138.2.2.1) S0 S) (I0 : bx_Inv rxL S) (hinv : rxICZ1x138_7 S0 ws S i rp rq) (l8 : 0 ≤ i) (u8 : i ≤ 5) (l9 : 0 ≤ rp) (u9 : rp ≤ 1522) (l10 : 0 ≤ rq) (u10 : rq ≤ 1522) : (True) ∧ (True) ∧ rxICZ1x138_5 S0 ws S (i + 1) ∧ rxmCZ1x138_5 S0 ws S (i + 1) < rxmCZ1x138_7 S0 ws S i rp rq := by
  exact ⟨trivial, trivial, hinv, by unfold rxmCZ1x138_7 rxmCZ1x138_5; omega⟩
theorem rxgCZ1x138_7_0 {X : (Nat → Int → Int) → Prop} {S0 : Nat → Int → Int} {ws : List Int} (hP : rxPCZ1x138 S0 ws) : bx_obC rxL X S0 rxCCZ1x138.2.2.1 (rxICZ1x138 S0 ws) (rxmCZ1x138 S0 ws) 7 rxzCZ1x138_7 rxoCZ1x138_7_0 := by
  intro S S_p r r_p hinv hX hin hsm_ hseg
  obtain ⟨I0, I1, h0_, hr_, b_, f_, d_⟩ := bx_cl (evs := []) (fvs := []) hseg (by decide +kernel) (by decide +kernel)
  have hinv : rxICZ1x138_7 S0 ws S (r 8) (r 9) (r 10) := hinv
  rw [← hr_ 8 (by decide), ← hr_ 9 (by decide), ← hr_ 10 (by decide)] at hinv
  obtain ⟨⟨l8, u8⟩, ⟨l9, u9⟩, ⟨l10, u10⟩, -⟩ := b_
  have w_ := d_
  subst w_
  have g := rxcCZ1x138_7_0 hP hin I0 hinv l8 u8 l9 u9 l10 u10
  refine ⟨bx_narP_ok (l := []) g.1, bx_nfP_ok h0_ (fvs := []) (by decide +kernel) g.2.1, ?_, ?_⟩
  · show rxICZ1x138_5 S0 ws S_p (bx_val [(0, 0), (0, 0), (0, 0), (0, 0), (0, 0), (0, 0), (0, 0), (0, 0), (8, 1)] r_p 8)
    rw [bx_val_x (n := 8) (e := (8, 1)) h0_ rfl]
    exact g.2.2.1
  · show rxmCZ1x138_5 S0 ws S_p (bx_val [(0, 0), (0, 0), (0, 0), (0, 0), (0, 0), (0, 0), (0, 0), (0, 0), (8, 1)] r_p 8) < rxmCZ1x138_7 S0 ws S_p (r 8) (r 9) (r 10)
    rw [bx_val_x (n := 8) (e := (8, 1)) h0_ rfl, ← hr_ 8 (by decide), ← hr_ 9 (by decide), ← hr_ 10 (by decide)]
    exact g.2.2.2
theorem rxcCZ1x138_9_0 {S0 : Nat → Int → Int} {ws : List Int} {S : Nat → Int → Int} {x8 : Int} (hP : rxPCZ1x138 S0 ws) (hin : bx_same rxL (bx_mdl rxCCZ1x138.2.2.1) S0 S) (I0 : bx_Inv rxL S) (hinv : rxICZ1x138_9 S0 ws S) (l8 : 0 ≤ x8) (u8 : x8 ≤ 12) (e1 : S 138 5 = x8) : (True) ∧ (True) ∧ rxICZ1x138_10 S0 ws (bx_up S 1 5 x8) ∧ rxmCZ1x138_10 S0 ws (bx_up S 1 5 x8) < rxmCZ1x138_9 S0 ws S := by
  obtain ⟨h0, h1, h2, h3, h4, h5, h6, hf, hW⟩ := hinv
  refine ⟨trivial, trivial, ⟨(bx_up_ne (by omega)).trans (h0), fun n hn => (bx_up_ne (by omega)).trans (h1 n hn), fun n hn => (bx_up_ne (by omega)).trans (h2 n hn), (bx_up_ne (by omega)).trans (h3), fun n hn => (bx_up_ne (by omega)).trans (h4 n hn), fun n hn => (bx_up_ne (by omega)).trans (h5 n hn), fun n hn => (bx_up_ne (by omega)).trans (h6 n hn), bx_up_at.trans ((e1).symm.trans (hf 138 5 (by decide) (by decide))), fun p n hp hi => (bx_up_ne (fun h => by have e := h.1; subst e; revert hp; decide)).trans (hf p n hp hi), ?_⟩, by unfold rxmCZ1x138_9 rxmCZ1x138_10; omega⟩
  exact rkWt4_ne (by unfold rkTb; omega) hW (fun p j hp => by have hp : (23 ≤ p ∧ p < 137) ∨ (160 ≤ p ∧ p < 274) ∨ (296 ≤ p ∧ p < 410) := hp; exact (bx_up_ne (by omega)))
theorem rxgCZ1x138_9_0 {X : (Nat → Int → Int) → Prop} {S0 : Nat → Int → Int} {ws : List Int} (hP : rxPCZ1x138 S0 ws) : bx_obC rxL X S0 rxCCZ1x138.2.2.1 (rxICZ1x138 S0 ws) (rxmCZ1x138 S0 ws) 9 rxzCZ1x138_9 rxoCZ1x138_9_0 := by
  intro S S_p r r_p hinv hX hin hsm_ hseg
  obtain ⟨I0, I1, h0_, hr_, b_, f_, d_⟩ := bx_cl (evs := [(1, (0, 1), (0, 5), .inr (0, (8, 0))), (0, (0, 138), (0, 5), .inr (0, (8, 0)))]) (fvs := []) hseg (by decide +kernel) (by decide +kernel)
  have hinv : rxICZ1x138_9 S0 ws S := hinv
  obtain ⟨⟨l8, u8⟩, -⟩ := b_
  obtain ⟨T0, ⟨e1, w_⟩, w0⟩ := d_
  subst w0
  subst w_
  have g := rxcCZ1x138_9_0 hP hin I0 hinv l8 u8 e1
  refine ⟨bx_narP_ok (l := []) g.1, bx_nfP_ok h0_ (fvs := []) (by decide +kernel) g.2.1, ?_, ?_⟩
  · show rxICZ1x138_10 S0 ws (bx_up T0 1 (5) (r_p 8))
    exact g.2.2.1
  · show rxmCZ1x138_10 S0 ws (bx_up T0 1 (5) (r_p 8)) < rxmCZ1x138_9 S0 ws T0
    exact g.2.2.2
theorem rxcCZ1x138_11_0 {S0 : Nat → Int → Int} {ws : List Int} {S : Nat → Int → Int} (hP : rxPCZ1x138 S0 ws) (hin : bx_same rxL (bx_mdl rxCCZ1x138.2.2.1) S0 S) (I0 : bx_Inv rxL S) (hinv : rxICZ1x138_11 S0 ws S)  : (True) ∧ (True) ∧ rxICZ1x138_12 S0 ws S ∧ rxmCZ1x138_12 S0 ws S < rxmCZ1x138_11 S0 ws S := by
  exact ⟨trivial, trivial, hinv, by unfold rxmCZ1x138_11 rxmCZ1x138_12; omega⟩
theorem rxgCZ1x138_11_0 {X : (Nat → Int → Int) → Prop} {S0 : Nat → Int → Int} {ws : List Int} (hP : rxPCZ1x138 S0 ws) : bx_obC rxL X S0 rxCCZ1x138.2.2.1 (rxICZ1x138 S0 ws) (rxmCZ1x138 S0 ws) 11 rxzCZ1x138_11 rxoCZ1x138_11_0 := by
  intro S S_p r r_p hinv hX hin hsm_ hseg
  obtain ⟨I0, I1, h0_, hr_, b_, f_, d_⟩ := bx_cl (evs := []) (fvs := []) hseg (by decide +kernel) (by decide +kernel)
  have hinv : rxICZ1x138_11 S0 ws S := hinv
  have w_ := d_
  subst w_
  have g := rxcCZ1x138_11_0 hP hin I0 hinv 
  refine ⟨bx_narP_ok (l := []) g.1, bx_nfP_ok h0_ (fvs := []) (by decide +kernel) g.2.1, ?_, ?_⟩
  · show rxICZ1x138_12 S0 ws S_p
    exact g.2.2.1
  · show rxmCZ1x138_12 S0 ws S_p < rxmCZ1x138_11 S0 ws S_p
    exact g.2.2.2
theorem rxcCZ1x138_13_0 {S0 : Nat → Int → Int} {ws : List Int} {S : Nat → Int → Int} (hP : rxPCZ1x138 S0 ws) (hin : bx_same rxL (bx_mdl rxCCZ1x138.2.2.1) S0 S) (I0 : bx_Inv rxL S) (hinv : rxICZ1x138_13 S0 ws S)  : (True) ∧ (True) ∧ rxICZ1x138_14 S0 ws S ∧ rxmCZ1x138_14 S0 ws S < rxmCZ1x138_13 S0 ws S := by
  exact ⟨trivial, trivial, hinv, by unfold rxmCZ1x138_13 rxmCZ1x138_14; omega⟩
theorem rxgCZ1x138_13_0 {X : (Nat → Int → Int) → Prop} {S0 : Nat → Int → Int} {ws : List Int} (hP : rxPCZ1x138 S0 ws) : bx_obC rxL X S0 rxCCZ1x138.2.2.1 (rxICZ1x138 S0 ws) (rxmCZ1x138 S0 ws) 13 rxzCZ1x138_13 rxoCZ1x138_13_0 := by
  intro S S_p r r_p hinv hX hin hsm_ hseg
  obtain ⟨I0, I1, h0_, hr_, b_, f_, d_⟩ := bx_cl (evs := []) (fvs := []) hseg (by decide +kernel) (by decide +kernel)
  have hinv : rxICZ1x138_13 S0 ws S := hinv
  have w_ := d_
  subst w_
  have g := rxcCZ1x138_13_0 hP hin I0 hinv 
  refine ⟨bx_narP_ok (l := []) g.1, bx_nfP_ok h0_ (fvs := []) (by decide +kernel) g.2.1, ?_, ?_⟩
  · show rxICZ1x138_14 S0 ws S_p
    exact g.2.2.1
  · show rxmCZ1x138_14 S0 ws S_p < rxmCZ1x138_13 S0 ws S_p
    exact g.2.2.2
theorem rxcCZ1x138_15_0 {S0 : Nat → Int → Int} {ws : List Int} {S : Nat → Int → Int} (hP : rxPCZ1x138 S0 ws) (hin : bx_same rxL (bx_mdl rxCCZ1x138.2.2.1) S0 S) (I0 : bx_Inv rxL S) (hinv : rxICZ1x138_15 S0 ws S)  : (True) ∧ (True) ∧ rxICZ1x138_16 S0 ws S 0 ∧ rxmCZ1x138_16 S0 ws S 0 < rxmCZ1x138_15 S0 ws S := by
  exact ⟨trivial, trivial, hinv, by unfold rxmCZ1x138_15 rxmCZ1x138_16; omega⟩
theorem rxgCZ1x138_15_0 {X : (Nat → Int → Int) → Prop} {S0 : Nat → Int → Int} {ws : List Int} (hP : rxPCZ1x138 S0 ws) : bx_obC rxL X S0 rxCCZ1x138.2.2.1 (rxICZ1x138 S0 ws) (rxmCZ1x138 S0 ws) 15 rxzCZ1x138_15 rxoCZ1x138_15_0 := by
  intro S S_p r r_p hinv hX hin hsm_ hseg
  obtain ⟨I0, I1, h0_, hr_, b_, f_, d_⟩ := bx_cl (evs := []) (fvs := []) hseg (by decide +kernel) (by decide +kernel)
  have hinv : rxICZ1x138_15 S0 ws S := hinv
  have w_ := d_
  subst w_
  have g := rxcCZ1x138_15_0 hP hin I0 hinv 
  refine ⟨bx_narP_ok (l := []) g.1, bx_nfP_ok h0_ (fvs := []) (by decide +kernel) g.2.1, ?_, ?_⟩
  · show rxICZ1x138_16 S0 ws S_p (bx_val [(0, 0), (0, 0), (0, 0), (0, 0), (0, 0), (0, 0), (0, 0), (0, 0), (0, 0)] r_p 8)
    rw [bx_val_x (n := 8) (e := (0, 0)) h0_ rfl]
    exact g.2.2.1
  · show rxmCZ1x138_16 S0 ws S_p (bx_val [(0, 0), (0, 0), (0, 0), (0, 0), (0, 0), (0, 0), (0, 0), (0, 0), (0, 0)] r_p 8) < rxmCZ1x138_15 S0 ws S_p
    rw [bx_val_x (n := 8) (e := (0, 0)) h0_ rfl]
    exact g.2.2.2
theorem rxcCZ1x138_16_0 {S0 : Nat → Int → Int} {ws : List Int} {S : Nat → Int → Int} {i x9 x10 : Int} (hP : rxPCZ1x138 S0 ws) (hin : bx_same rxL (bx_mdl rxCCZ1x138.2.2.1) S0 S) (I0 : bx_Inv rxL S) (hinv : rxICZ1x138_16 S0 ws S i) (l8 : 0 ≤ i) (u8 : i ≤ 11) (l9 : 0 ≤ x9) (u9 : x9 ≤ 1522) (l10 : 0 ≤ x10) (u10 : x10 ≤ 1522) (e1 : S 12 i = x9) (e0 : S 149 i = x10) : (True) ∧ (True) ∧ rxICZ1x138_17 S0 ws S i x9 x10 ∧ rxmCZ1x138_17 S0 ws S i x9 x10 < rxmCZ1x138_16 S0 ws S i := by
  obtain ⟨h0, h1, h2, h3, h4, h5, h6, h7, h8, h9, h10, hf, hW⟩ := id hinv
  have hpl := rkPl_sm hin (by decide +kernel) hP
  have gb := (hpl.2.1.2 i.toNat (by omega)).1
  have gs := (hpl.2.2.1.2 i.toNat (by omega)).1
  rw [Int.toNat_of_nonneg (show (0 : Int) ≤ i by omega)] at gb gs
  exact ⟨trivial, trivial, ⟨e1.symm.trans gb, e0.symm.trans gs, hinv⟩, by unfold rxmCZ1x138_16 rxmCZ1x138_17; omega⟩
theorem rxgCZ1x138_16_0 {X : (Nat → Int → Int) → Prop} {S0 : Nat → Int → Int} {ws : List Int} (hP : rxPCZ1x138 S0 ws) : bx_obC rxL X S0 rxCCZ1x138.2.2.1 (rxICZ1x138 S0 ws) (rxmCZ1x138 S0 ws) 16 rxzCZ1x138_16 rxoCZ1x138_16_0 := by
  intro S S_p r r_p hinv hX hin hsm_ hseg
  obtain ⟨I0, I1, h0_, hr_, b_, f_, d_⟩ := bx_cl (evs := [(0, (0, 149), (8, 0), .inr (3, (10, 0))), (0, (0, 12), (8, 0), .inr (3, (9, 0)))]) (fvs := []) hseg (by decide +kernel) (by decide +kernel)
  have hinv : rxICZ1x138_16 S0 ws S (r 8) := hinv
  rw [← hr_ 8 (by decide)] at hinv
  obtain ⟨⟨l8, u8⟩, ⟨l9, u9⟩, ⟨l10, u10⟩, -⟩ := b_
  obtain ⟨e0, ⟨e1, w_⟩⟩ := d_
  subst w_
  have g := rxcCZ1x138_16_0 hP hin I0 hinv l8 u8 l9 u9 l10 u10 e1 e0
  refine ⟨bx_narP_ok (l := []) g.1, bx_nfP_ok h0_ (fvs := []) (by decide +kernel) g.2.1, ?_, ?_⟩
  · show rxICZ1x138_17 S0 ws S_p (bx_val [(0, 0), (0, 0), (0, 0), (0, 0), (0, 0), (0, 0), (0, 0), (0, 0), (8, 0), (9, 0), (10, 0)] r_p 8) (bx_val [(0, 0), (0, 0), (0, 0), (0, 0), (0, 0), (0, 0), (0, 0), (0, 0), (8, 0), (9, 0), (10, 0)] r_p 9) (bx_val [(0, 0), (0, 0), (0, 0), (0, 0), (0, 0), (0, 0), (0, 0), (0, 0), (8, 0), (9, 0), (10, 0)] r_p 10)
    rw [bx_val_x (n := 8) (e := (8, 0)) h0_ rfl, bx_val_x (n := 9) (e := (9, 0)) h0_ rfl, bx_val_x (n := 10) (e := (10, 0)) h0_ rfl]
    exact g.2.2.1
  · show rxmCZ1x138_17 S0 ws S_p (bx_val [(0, 0), (0, 0), (0, 0), (0, 0), (0, 0), (0, 0), (0, 0), (0, 0), (8, 0), (9, 0), (10, 0)] r_p 8) (bx_val [(0, 0), (0, 0), (0, 0), (0, 0), (0, 0), (0, 0), (0, 0), (0, 0), (8, 0), (9, 0), (10, 0)] r_p 9) (bx_val [(0, 0), (0, 0), (0, 0), (0, 0), (0, 0), (0, 0), (0, 0), (0, 0), (8, 0), (9, 0), (10, 0)] r_p 10) < rxmCZ1x138_16 S0 ws S_p (r 8)
    rw [bx_val_x (n := 8) (e := (8, 0)) h0_ rfl, bx_val_x (n := 9) (e := (9, 0)) h0_ rfl, bx_val_x (n := 10) (e := (10, 0)) h0_ rfl, ← hr_ 8 (by decide)]
    exact g.2.2.2
theorem rxcCZ1x138_16_1 {S0 : Nat → Int → Int} {ws : List Int} {S : Nat → Int → Int} {i x9 : Int} (hP : rxPCZ1x138 S0 ws) (hin : bx_same rxL (bx_mdl rxCCZ1x138.2.2.1) S0 S) (I0 : bx_Inv rxL S) (hinv : rxICZ1x138_16 S0 ws S i) (l8 : 12 ≤ i) (u8 : i ≤ 12) (l9 : 0 ≤ x9) (u9 : x9 ≤ 12) (e1 : S 138 10 = x9) : (True) ∧ (True) ∧ rxICZ1x138_19 S0 ws (bx_up S 1 10 x9) ∧ rxmCZ1x138_19 S0 ws (bx_up S 1 10 x9) < rxmCZ1x138_16 S0 ws S i := by
  have ei : i = 12 := by omega
  subst ei
  obtain ⟨h0, h1, h2, h3, h4, h5, h6, h7, h8, h9, h10, hf, hW⟩ := hinv
  refine ⟨trivial, trivial, ⟨(bx_up_ne (by omega)).trans (h0), fun n hn => (bx_up_ne (by omega)).trans (h1 n hn), fun n hn => (bx_up_ne (by omega)).trans (h2 n hn), (bx_up_ne (by omega)).trans (h3), fun n hn => (bx_up_ne (by omega)).trans (h4 n hn), fun n hn => (bx_up_ne (by omega)).trans (h5 n hn), fun n hn => (bx_up_ne (by omega)).trans (h6 n hn), (bx_up_ne (by omega)).trans (h7), fun n hn => (bx_up_ne (by omega)).trans (h8 n hn), fun n hn => (bx_up_ne (by omega)).trans (h9 n hn), fun n hn => (bx_up_ne (by omega)).trans (h10 n hn), bx_up_at.trans ((e1).symm.trans (hf 138 10 (by decide) (by decide))), fun p n hp hi => (bx_up_ne (fun h => by have e := h.1; subst e; revert hp; decide)).trans (hf p n hp hi), ?_⟩, by unfold rxmCZ1x138_16 rxmCZ1x138_19; omega⟩
  exact rkWt4_ne (by unfold rkTb; omega) hW (fun p j hp => by have hp : (23 ≤ p ∧ p < 137) ∨ (160 ≤ p ∧ p < 274) ∨ (296 ≤ p ∧ p < 410) := hp; exact (bx_up_ne (by omega)))
theorem rxgCZ1x138_16_1 {X : (Nat → Int → Int) → Prop} {S0 : Nat → Int → Int} {ws : List Int} (hP : rxPCZ1x138 S0 ws) : bx_obC rxL X S0 rxCCZ1x138.2.2.1 (rxICZ1x138 S0 ws) (rxmCZ1x138 S0 ws) 16 rxzCZ1x138_16 rxoCZ1x138_16_1 := by
  intro S S_p r r_p hinv hX hin hsm_ hseg
  obtain ⟨I0, I1, h0_, hr_, b_, f_, d_⟩ := bx_cl (evs := [(1, (0, 1), (0, 10), .inr (0, (9, 0))), (0, (0, 138), (0, 10), .inr (0, (9, 0)))]) (fvs := []) hseg (by decide +kernel) (by decide +kernel)
  have hinv : rxICZ1x138_16 S0 ws S (r 8) := hinv
  rw [← hr_ 8 (by decide)] at hinv
  obtain ⟨⟨l8, u8⟩, ⟨l9, u9⟩, -⟩ := b_
  obtain ⟨T0, ⟨e1, w_⟩, w0⟩ := d_
  subst w0
  subst w_
  have g := rxcCZ1x138_16_1 hP hin I0 hinv l8 u8 l9 u9 e1
  refine ⟨bx_narP_ok (l := []) g.1, bx_nfP_ok h0_ (fvs := []) (by decide +kernel) g.2.1, ?_, ?_⟩
  · show rxICZ1x138_19 S0 ws (bx_up T0 1 (10) (r_p 9))
    exact g.2.2.1
  · show rxmCZ1x138_19 S0 ws (bx_up T0 1 (10) (r_p 9)) < rxmCZ1x138_16 S0 ws T0 (r 8)
    rw [← hr_ 8 (by decide)]
    exact g.2.2.2
theorem rxcCZ1x138_18_0 {S0 : Nat → Int → Int} {ws : List Int} {S : Nat → Int → Int} {i rp rq : Int} (hP : rxPCZ1x138 S0 ws) (hin : bx_same rxL (bx_mdl rxCCZ1x138.2.2.1) S0 S) (I0 : bx_Inv rxL S) (hinv : rxICZ1x138_18 S0 ws S i rp rq) (l8 : 0 ≤ i) (u8 : i ≤ 11) (l9 : 0 ≤ rp) (u9 : rp ≤ 1522) (l10 : 0 ≤ rq) (u10 : rq ≤ 1522) : (True) ∧ (True) ∧ rxICZ1x138_16 S0 ws S (i + 1) ∧ rxmCZ1x138_16 S0 ws S (i + 1) < rxmCZ1x138_18 S0 ws S i rp rq := by
  exact ⟨trivial, trivial, hinv, by unfold rxmCZ1x138_18 rxmCZ1x138_16; omega⟩
theorem rxgCZ1x138_18_0 {X : (Nat → Int → Int) → Prop} {S0 : Nat → Int → Int} {ws : List Int} (hP : rxPCZ1x138 S0 ws) : bx_obC rxL X S0 rxCCZ1x138.2.2.1 (rxICZ1x138 S0 ws) (rxmCZ1x138 S0 ws) 18 rxzCZ1x138_18 rxoCZ1x138_18_0 := by
  intro S S_p r r_p hinv hX hin hsm_ hseg
  obtain ⟨I0, I1, h0_, hr_, b_, f_, d_⟩ := bx_cl (evs := []) (fvs := []) hseg (by decide +kernel) (by decide +kernel)
  have hinv : rxICZ1x138_18 S0 ws S (r 8) (r 9) (r 10) := hinv
  rw [← hr_ 8 (by decide), ← hr_ 9 (by decide), ← hr_ 10 (by decide)] at hinv
  obtain ⟨⟨l8, u8⟩, ⟨l9, u9⟩, ⟨l10, u10⟩, -⟩ := b_
  have w_ := d_
  subst w_
  have g := rxcCZ1x138_18_0 hP hin I0 hinv l8 u8 l9 u9 l10 u10
  refine ⟨bx_narP_ok (l := []) g.1, bx_nfP_ok h0_ (fvs := []) (by decide +kernel) g.2.1, ?_, ?_⟩
  · show rxICZ1x138_16 S0 ws S_p (bx_val [(0, 0), (0, 0), (0, 0), (0, 0), (0, 0), (0, 0), (0, 0), (0, 0), (8, 1)] r_p 8)
    rw [bx_val_x (n := 8) (e := (8, 1)) h0_ rfl]
    exact g.2.2.1
  · show rxmCZ1x138_16 S0 ws S_p (bx_val [(0, 0), (0, 0), (0, 0), (0, 0), (0, 0), (0, 0), (0, 0), (0, 0), (8, 1)] r_p 8) < rxmCZ1x138_18 S0 ws S_p (r 8) (r 9) (r 10)
    rw [bx_val_x (n := 8) (e := (8, 1)) h0_ rfl, ← hr_ 8 (by decide), ← hr_ 9 (by decide), ← hr_ 10 (by decide)]
    exact g.2.2.2
theorem rxcCZ1x138_20_0 {S0 : Nat → Int → Int} {ws : List Int} {S : Nat → Int → Int} (hP : rxPCZ1x138 S0 ws) (hin : bx_same rxL (bx_mdl rxCCZ1x138.2.2.1) S0 S) (I0 : bx_Inv rxL S) (hinv : rxICZ1x138_20 S0 ws S)  : (True) ∧ (True) ∧ rxICZ1x138_21 S0 ws S ∧ rxmCZ1x138_21 S0 ws S < rxmCZ1x138_20 S0 ws S := by
  exact ⟨trivial, trivial, hinv, by unfold rxmCZ1x138_20 rxmCZ1x138_21; omega⟩
theorem rxgCZ1x138_20_0 {X : (Nat → Int → Int) → Prop} {S0 : Nat → Int → Int} {ws : List Int} (hP : rxPCZ1x138 S0 ws) : bx_obC rxL X S0 rxCCZ1x138.2.2.1 (rxICZ1x138 S0 ws) (rxmCZ1x138 S0 ws) 20 rxzCZ1x138_20 rxoCZ1x138_20_0 := by
  intro S S_p r r_p hinv hX hin hsm_ hseg
  obtain ⟨I0, I1, h0_, hr_, b_, f_, d_⟩ := bx_cl (evs := []) (fvs := []) hseg (by decide +kernel) (by decide +kernel)
  have hinv : rxICZ1x138_20 S0 ws S := hinv
  have w_ := d_
  subst w_
  have g := rxcCZ1x138_20_0 hP hin I0 hinv 
  refine ⟨bx_narP_ok (l := []) g.1, bx_nfP_ok h0_ (fvs := []) (by decide +kernel) g.2.1, ?_, ?_⟩
  · show rxICZ1x138_21 S0 ws S_p
    exact g.2.2.1
  · show rxmCZ1x138_21 S0 ws S_p < rxmCZ1x138_20 S0 ws S_p
    exact g.2.2.2
theorem rxcCZ1x138_22_0 {S0 : Nat → Int → Int} {ws : List Int} {S : Nat → Int → Int} (hP : rxPCZ1x138 S0 ws) (hin : bx_same rxL (bx_mdl rxCCZ1x138.2.2.1) S0 S) (I0 : bx_Inv rxL S) (hinv : rxICZ1x138_22 S0 ws S)  : (True) ∧ (True) ∧ rxICZ1x138_23 S0 ws S ∧ rxmCZ1x138_23 S0 ws S < rxmCZ1x138_22 S0 ws S := by
  exact ⟨trivial, trivial, hinv, by unfold rxmCZ1x138_22 rxmCZ1x138_23; omega⟩
theorem rxgCZ1x138_22_0 {X : (Nat → Int → Int) → Prop} {S0 : Nat → Int → Int} {ws : List Int} (hP : rxPCZ1x138 S0 ws) : bx_obC rxL X S0 rxCCZ1x138.2.2.1 (rxICZ1x138 S0 ws) (rxmCZ1x138 S0 ws) 22 rxzCZ1x138_22 rxoCZ1x138_22_0 := by
  intro S S_p r r_p hinv hX hin hsm_ hseg
  obtain ⟨I0, I1, h0_, hr_, b_, f_, d_⟩ := bx_cl (evs := []) (fvs := []) hseg (by decide +kernel) (by decide +kernel)
  have hinv : rxICZ1x138_22 S0 ws S := hinv
  have w_ := d_
  subst w_
  have g := rxcCZ1x138_22_0 hP hin I0 hinv 
  refine ⟨bx_narP_ok (l := []) g.1, bx_nfP_ok h0_ (fvs := []) (by decide +kernel) g.2.1, ?_, ?_⟩
  · show rxICZ1x138_23 S0 ws S_p
    exact g.2.2.1
  · show rxmCZ1x138_23 S0 ws S_p < rxmCZ1x138_22 S0 ws S_p
    exact g.2.2.2
theorem rxcCZ1x138_24_0 {S0 : Nat → Int → Int} {ws : List Int} {S : Nat → Int → Int} {x8 x9 : Int} (hP : rxPCZ1x138 S0 ws) (hin : bx_same rxL (bx_mdl rxCCZ1x138.2.2.1) S0 S) (I0 : bx_Inv rxL S) (hinv : rxICZ1x138_24 S0 ws S) (l8 : 0 ≤ x8) (u8 : x8 ≤ 6) (l9 : (-1) ≤ x9) (u9 : x9 ≤ 5) (e3 : S 138 14 = x8) (e1 : (bx_up S 1 14 x8) 138 15 = x9) : (True) ∧ (True) ∧ rxICZ1x138_25 S0 ws (bx_up (bx_up S 1 14 x8) 1 15 x9) 0 ∧ rxmCZ1x138_25 S0 ws (bx_up (bx_up S 1 14 x8) 1 15 x9) 0 < rxmCZ1x138_24 S0 ws S := by
  obtain ⟨h0, h1, h2, h3, h4, h5, h6, h7, h8, h9, h10, h11, h12, h13, h14, h15, h16, h17, hf, hW⟩ := hinv
  refine ⟨trivial, trivial, ⟨(bx_up_ne (by omega)).trans ((bx_up_ne (by omega)).trans (h0)), fun n hn => (bx_up_ne (by omega)).trans ((bx_up_ne (by omega)).trans (h1 n hn)), fun n hn => (bx_up_ne (by omega)).trans ((bx_up_ne (by omega)).trans (h2 n hn)), (bx_up_ne (by omega)).trans ((bx_up_ne (by omega)).trans (h3)), fun n hn => (bx_up_ne (by omega)).trans ((bx_up_ne (by omega)).trans (h4 n hn)), fun n hn => (bx_up_ne (by omega)).trans ((bx_up_ne (by omega)).trans (h5 n hn)), fun n hn => (bx_up_ne (by omega)).trans ((bx_up_ne (by omega)).trans (h6 n hn)), (bx_up_ne (by omega)).trans ((bx_up_ne (by omega)).trans (h7)), fun n hn => (bx_up_ne (by omega)).trans ((bx_up_ne (by omega)).trans (h8 n hn)), fun n hn => (bx_up_ne (by omega)).trans ((bx_up_ne (by omega)).trans (h9 n hn)), fun n hn => (bx_up_ne (by omega)).trans ((bx_up_ne (by omega)).trans (h10 n hn)), (bx_up_ne (by omega)).trans ((bx_up_ne (by omega)).trans (h11)), fun n hn => (bx_up_ne (by omega)).trans ((bx_up_ne (by omega)).trans (h12 n hn)), (bx_up_ne (by omega)).trans ((bx_up_ne (by omega)).trans (h13)), fun n hn => (bx_up_ne (by omega)).trans ((bx_up_ne (by omega)).trans (h14 n hn)), fun n hn => (bx_up_ne (by omega)).trans ((bx_up_ne (by omega)).trans (h15 n hn)), fun n hn => (bx_up_ne (by omega)).trans ((bx_up_ne (by omega)).trans (h16 n hn)), fun n hn => (bx_up_ne (by omega)).trans ((bx_up_ne (by omega)).trans (h17 n hn)), ((bx_up_ne (by omega))).trans (bx_up_at.trans ((e3).symm.trans (hf 138 14 (by decide) (by decide)))), bx_up_at.trans (((((bx_up_ne (by omega))).symm.trans e1)).symm.trans (hf 138 15 (by decide) (by decide))), fun p n hp hi => (bx_up_ne (fun h => by have e := h.1; subst e; revert hp; decide)).trans ((bx_up_ne (fun h => by have e := h.1; subst e; revert hp; decide)).trans (hf p n hp hi)), ?_⟩, by unfold rxmCZ1x138_24 rxmCZ1x138_25; omega⟩
  exact rkWt4_ne (by unfold rkTb; omega) hW (fun p j hp => by have hp : (23 ≤ p ∧ p < 137) ∨ (160 ≤ p ∧ p < 274) ∨ (296 ≤ p ∧ p < 410) := hp; exact (bx_up_ne (by omega)).trans ((bx_up_ne (by omega))))
theorem rxgCZ1x138_24_0 {X : (Nat → Int → Int) → Prop} {S0 : Nat → Int → Int} {ws : List Int} (hP : rxPCZ1x138 S0 ws) : bx_obC rxL X S0 rxCCZ1x138.2.2.1 (rxICZ1x138 S0 ws) (rxmCZ1x138 S0 ws) 24 rxzCZ1x138_24 rxoCZ1x138_24_0 := by
  intro S S_p r r_p hinv hX hin hsm_ hseg
  obtain ⟨I0, I1, h0_, hr_, b_, f_, d_⟩ := bx_cl (evs := [(1, (0, 1), (0, 15), .inr (0, (9, 0))), (0, (0, 138), (0, 15), .inr (0, (9, 0))), (1, (0, 1), (0, 14), .inr (0, (8, 0))), (0, (0, 138), (0, 14), .inr (0, (8, 0)))]) (fvs := []) hseg (by decide +kernel) (by decide +kernel)
  have hinv : rxICZ1x138_24 S0 ws S := hinv
  obtain ⟨⟨l8, u8⟩, ⟨l9, u9⟩, -⟩ := b_
  obtain ⟨T0, ⟨e1, ⟨T2, ⟨e3, w_⟩, w2⟩⟩, w0⟩ := d_
  subst w0
  subst w2
  subst w_
  have g := rxcCZ1x138_24_0 hP hin I0 hinv l8 u8 l9 u9 e3 e1
  refine ⟨bx_narP_ok (l := []) g.1, bx_nfP_ok h0_ (fvs := []) (by decide +kernel) g.2.1, ?_, ?_⟩
  · show rxICZ1x138_25 S0 ws (bx_up (bx_up T2 1 (14) (r_p 8)) 1 (15) (r_p 9)) (bx_val [(0, 0), (0, 0), (0, 0), (0, 0), (0, 0), (0, 0), (0, 0), (0, 0), (0, 0)] r_p 8)
    rw [bx_val_x (n := 8) (e := (0, 0)) h0_ rfl]
    exact g.2.2.1
  · show rxmCZ1x138_25 S0 ws (bx_up (bx_up T2 1 (14) (r_p 8)) 1 (15) (r_p 9)) (bx_val [(0, 0), (0, 0), (0, 0), (0, 0), (0, 0), (0, 0), (0, 0), (0, 0), (0, 0)] r_p 8) < rxmCZ1x138_24 S0 ws T2
    rw [bx_val_x (n := 8) (e := (0, 0)) h0_ rfl]
    exact g.2.2.2
theorem rxcCZ1x138_25_0 {S0 : Nat → Int → Int} {ws : List Int} {S : Nat → Int → Int} {i x9 x10 x11 : Int} (hP : rxPCZ1x138 S0 ws) (hin : bx_same rxL (bx_mdl rxCCZ1x138.2.2.1) S0 S) (I0 : bx_Inv rxL S) (hinv : rxICZ1x138_25 S0 ws S i) (l8 : 0 ≤ i) (u8 : i ≤ 5) (l9 : 1 ≤ x9) (u9 : x9 ≤ 6) (l10 : 0 ≤ x10) (u10 : x10 ≤ 1522) (l11 : 0 ≤ x11) (u11 : x11 ≤ 1522) (f0 : i < x9) (e2 : S 1 14 = x9) (e1 : S 20 i = x10) (e0 : S 157 i = x11) : (True) ∧ (True) ∧ rxICZ1x138_26 S0 ws S i x10 x11 ∧ rxmCZ1x138_26 S0 ws S i x10 x11 < rxmCZ1x138_25 S0 ws S i := by
  obtain ⟨h0, h1, h2, h3, h4, h5, h6, h7, h8, h9, h10, h11, h12, h13, h14, h15, h16, h17, h18, h19, hf, hW⟩ := id hinv
  have hpl := rkPl_sm hin (by decide +kernel) hP
  have gb := (hpl.1.2.1 i.toNat (by omega)).1
  have gs := (hpl.1.2.2.1 i.toNat (by omega)).1
  rw [Int.toNat_of_nonneg (show (0 : Int) ≤ i by omega)] at gb gs
  exact ⟨trivial, trivial, ⟨e1.symm.trans gb, e0.symm.trans gs, hinv⟩, by unfold rxmCZ1x138_25 rxmCZ1x138_26; omega⟩
theorem rxgCZ1x138_25_0 {X : (Nat → Int → Int) → Prop} {S0 : Nat → Int → Int} {ws : List Int} (hP : rxPCZ1x138 S0 ws) : bx_obC rxL X S0 rxCCZ1x138.2.2.1 (rxICZ1x138 S0 ws) (rxmCZ1x138 S0 ws) 25 rxzCZ1x138_25 rxoCZ1x138_25_0 := by
  intro S S_p r r_p hinv hX hin hsm_ hseg
  obtain ⟨I0, I1, h0_, hr_, b_, f_, d_⟩ := bx_cl (evs := [(0, (0, 157), (8, 0), .inr (3, (11, 0))), (0, (0, 20), (8, 0), .inr (3, (10, 0))), (0, (0, 1), (0, 14), .inr (0, (9, 0)))]) (fvs := [(0, (8, 0), (9, 0), (0, 0))]) hseg (by decide +kernel) (by decide +kernel)
  have hinv : rxICZ1x138_25 S0 ws S (r 8) := hinv
  rw [← hr_ 8 (by decide)] at hinv
  obtain ⟨⟨l8, u8⟩, ⟨l9, u9⟩, ⟨l10, u10⟩, ⟨l11, u11⟩, -⟩ := b_
  obtain ⟨f0, -⟩ := f_
  obtain ⟨e0, ⟨e1, ⟨e2, w_⟩⟩⟩ := d_
  subst w_
  have g := rxcCZ1x138_25_0 hP hin I0 hinv l8 u8 l9 u9 l10 u10 l11 u11 f0 e2 e1 e0
  refine ⟨bx_narP_ok (l := []) g.1, bx_nfP_ok h0_ (fvs := []) (by decide +kernel) g.2.1, ?_, ?_⟩
  · show rxICZ1x138_26 S0 ws S_p (bx_val [(0, 0), (0, 0), (0, 0), (0, 0), (0, 0), (0, 0), (0, 0), (0, 0), (8, 0), (10, 0), (11, 0)] r_p 8) (bx_val [(0, 0), (0, 0), (0, 0), (0, 0), (0, 0), (0, 0), (0, 0), (0, 0), (8, 0), (10, 0), (11, 0)] r_p 9) (bx_val [(0, 0), (0, 0), (0, 0), (0, 0), (0, 0), (0, 0), (0, 0), (0, 0), (8, 0), (10, 0), (11, 0)] r_p 10)
    rw [bx_val_x (n := 8) (e := (8, 0)) h0_ rfl, bx_val_x (n := 9) (e := (10, 0)) h0_ rfl, bx_val_x (n := 10) (e := (11, 0)) h0_ rfl]
    exact g.2.2.1
  · show rxmCZ1x138_26 S0 ws S_p (bx_val [(0, 0), (0, 0), (0, 0), (0, 0), (0, 0), (0, 0), (0, 0), (0, 0), (8, 0), (10, 0), (11, 0)] r_p 8) (bx_val [(0, 0), (0, 0), (0, 0), (0, 0), (0, 0), (0, 0), (0, 0), (0, 0), (8, 0), (10, 0), (11, 0)] r_p 9) (bx_val [(0, 0), (0, 0), (0, 0), (0, 0), (0, 0), (0, 0), (0, 0), (0, 0), (8, 0), (10, 0), (11, 0)] r_p 10) < rxmCZ1x138_25 S0 ws S_p (r 8)
    rw [bx_val_x (n := 8) (e := (8, 0)) h0_ rfl, bx_val_x (n := 9) (e := (10, 0)) h0_ rfl, bx_val_x (n := 10) (e := (11, 0)) h0_ rfl, ← hr_ 8 (by decide)]
    exact g.2.2.2
theorem rxdCZ1x138_25_0 {S0 : Nat → Int → Int} {ws : List Int} {S : Nat → Int → Int} {i x9 : Int} (hP : rxPCZ1x138 S0 ws) (hin : bx_same rxL (bx_mdl rxCCZ1x138.2.2.1) S0 S) (hin2 : bx_same rxL (bx_mdl rxCCZ1x138.2.2.1) S S) (I0 : bx_Inv rxL S) (I1 : bx_Inv rxL S) (hinv : rxICZ1x138_25 S0 ws S i) (l8 : 0 ≤ i) (u8 : i ≤ 6) (l9 : 0 ≤ x9) (u9 : x9 ≤ 6) (f0 : x9 ≤ i) (e0 : S 1 14 = x9) : (True) ∧ rxPSCZ1x138 S0 ws S none := by
  obtain ⟨h0, h1, h2, h3, h4, h5, h6, h7, h8, h9, h10, h11, h12, h13, h14, h15, h16, h17, h18, h19, hf, hW⟩ := hinv
  refine ⟨trivial, rfl, h0, h1, h2, h3, h4, h5, h6, h7, h8, h9, h10, h11, h12, h13, h14, h15, h16, h17, h18, h19, hf, ?_⟩
  exact ⟨fun k x y => hW.1 k x y, fun k x y => hW.2.1 k x y, fun k x y => hW.2.2.1 k (by
    have z := h18
    omega) y, hW.2.2.2⟩
theorem rxfCZ1x138_25_0 {X : (Nat → Int → Int) → Prop} {S0 : Nat → Int → Int} {ws : List Int} (hP : rxPCZ1x138 S0 ws) : bx_obE rxL X S0 rxCCZ1x138.2.2.1 (rxICZ1x138 S0 ws) (rxPSCZ1x138 S0 ws) 25 rxzCZ1x138_25 rxeCZ1x138_25_0 := by
  intro S S_p r r_p hinv hX hin hsm_ hseg
  obtain ⟨I0, I1, h0_, hr_, b_, f_, d_⟩ := bx_cl (evs := [(0, (0, 1), (0, 14), .inr (0, (9, 0)))]) (fvs := [(1, (9, 0), (8, 0), (0, 0))]) hseg (by decide +kernel) (by decide +kernel)
  have hinv : rxICZ1x138_25 S0 ws S (r 8) := hinv
  rw [← hr_ 8 (by decide)] at hinv
  obtain ⟨⟨l8, u8⟩, ⟨l9, u9⟩, -⟩ := b_
  obtain ⟨f0, -⟩ := f_
  obtain ⟨e0, w_⟩ := d_
  subst w_
  have g := rxdCZ1x138_25_0 hP hin hsm_ I0 I1 hinv l8 u8 l9 u9 f0 e0
  refine ⟨bx_narP_ok (l := []) g.1, ?_⟩
  exact g.2
theorem rxcCZ1x138_27_0 {S0 : Nat → Int → Int} {ws : List Int} {S : Nat → Int → Int} {i rp rq : Int} (hP : rxPCZ1x138 S0 ws) (hin : bx_same rxL (bx_mdl rxCCZ1x138.2.2.1) S0 S) (I0 : bx_Inv rxL S) (hinv : rxICZ1x138_27 S0 ws S i rp rq) (l8 : 0 ≤ i) (u8 : i ≤ 5) (l9 : 0 ≤ rp) (u9 : rp ≤ 1522) (l10 : 0 ≤ rq) (u10 : rq ≤ 1522) : (True) ∧ (True) ∧ rxICZ1x138_25 S0 ws S (i + 1) ∧ rxmCZ1x138_25 S0 ws S (i + 1) < rxmCZ1x138_27 S0 ws S i rp rq := by
  exact ⟨trivial, trivial, hinv, by unfold rxmCZ1x138_27 rxmCZ1x138_25; omega⟩
theorem rxgCZ1x138_27_0 {X : (Nat → Int → Int) → Prop} {S0 : Nat → Int → Int} {ws : List Int} (hP : rxPCZ1x138 S0 ws) : bx_obC rxL X S0 rxCCZ1x138.2.2.1 (rxICZ1x138 S0 ws) (rxmCZ1x138 S0 ws) 27 rxzCZ1x138_27 rxoCZ1x138_27_0 := by
  intro S S_p r r_p hinv hX hin hsm_ hseg
  obtain ⟨I0, I1, h0_, hr_, b_, f_, d_⟩ := bx_cl (evs := []) (fvs := []) hseg (by decide +kernel) (by decide +kernel)
  have hinv : rxICZ1x138_27 S0 ws S (r 8) (r 9) (r 10) := hinv
  rw [← hr_ 8 (by decide), ← hr_ 9 (by decide), ← hr_ 10 (by decide)] at hinv
  obtain ⟨⟨l8, u8⟩, ⟨l9, u9⟩, ⟨l10, u10⟩, -⟩ := b_
  have w_ := d_
  subst w_
  have g := rxcCZ1x138_27_0 hP hin I0 hinv l8 u8 l9 u9 l10 u10
  refine ⟨bx_narP_ok (l := []) g.1, bx_nfP_ok h0_ (fvs := []) (by decide +kernel) g.2.1, ?_, ?_⟩
  · show rxICZ1x138_25 S0 ws S_p (bx_val [(0, 0), (0, 0), (0, 0), (0, 0), (0, 0), (0, 0), (0, 0), (0, 0), (8, 1)] r_p 8)
    rw [bx_val_x (n := 8) (e := (8, 1)) h0_ rfl]
    exact g.2.2.1
  · show rxmCZ1x138_25 S0 ws S_p (bx_val [(0, 0), (0, 0), (0, 0), (0, 0), (0, 0), (0, 0), (0, 0), (0, 0), (8, 1)] r_p 8) < rxmCZ1x138_27 S0 ws S_p (r 8) (r 9) (r 10)
    rw [bx_val_x (n := 8) (e := (8, 1)) h0_ rfl, ← hr_ 8 (by decide), ← hr_ 9 (by decide), ← hr_ 10 (by decide)]
    exact g.2.2.2
theorem rxgCCZ1x138 {X : (Nat → Int → Int) → Prop} {S0 : Nat → Int → Int} {ws : List Int} (hP : rxPCZ1x138 S0 ws) : bx_allI (fun i q => rxUCZ1x138 q = true ∨ bx_allP (fun o => bx_obC rxL X S0 rxCCZ1x138.2.2.1 (rxICZ1x138 S0 ws) (rxmCZ1x138 S0 ws) i q.1 o) q.2.1) 0 rxYCZ1x138 := ⟨Or.inr ⟨rxgCZ1x138_0_0 hP, trivial⟩, Or.inl rfl, Or.inr ⟨rxgCZ1x138_2_0 hP, trivial⟩, Or.inl rfl, Or.inr ⟨rxgCZ1x138_4_0 hP, trivial⟩, Or.inr ⟨rxgCZ1x138_5_0 hP, rxgCZ1x138_5_1 hP, trivial⟩, Or.inl rfl, Or.inr ⟨rxgCZ1x138_7_0 hP, trivial⟩, Or.inl rfl, Or.inr ⟨rxgCZ1x138_9_0 hP, trivial⟩, Or.inl rfl, Or.inr ⟨rxgCZ1x138_11_0 hP, trivial⟩, Or.inl rfl, Or.inr ⟨rxgCZ1x138_13_0 hP, trivial⟩, Or.inl rfl, Or.inr ⟨rxgCZ1x138_15_0 hP, trivial⟩, Or.inr ⟨rxgCZ1x138_16_0 hP, rxgCZ1x138_16_1 hP, trivial⟩, Or.inl rfl, Or.inr ⟨rxgCZ1x138_18_0 hP, trivial⟩, Or.inl rfl, Or.inr ⟨rxgCZ1x138_20_0 hP, trivial⟩, Or.inl rfl, Or.inr ⟨rxgCZ1x138_22_0 hP, trivial⟩, Or.inl rfl, Or.inr ⟨rxgCZ1x138_24_0 hP, trivial⟩, Or.inr ⟨rxgCZ1x138_25_0 hP, trivial⟩, Or.inl rfl, Or.inr ⟨rxgCZ1x138_27_0 hP, trivial⟩, trivial⟩
theorem rxgECZ1x138 {X : (Nat → Int → Int) → Prop} {S0 : Nat → Int → Int} {ws : List Int} (hP : rxPCZ1x138 S0 ws) : bx_allI (fun i q => rxUCZ1x138 q = true ∨ bx_allP (fun E => bx_obE rxL X S0 rxCCZ1x138.2.2.1 (rxICZ1x138 S0 ws) (rxPSCZ1x138 S0 ws) i q.1 E) q.2.2) 0 rxYCZ1x138 := ⟨Or.inr trivial, Or.inl rfl, Or.inr trivial, Or.inl rfl, Or.inr trivial, Or.inr trivial, Or.inl rfl, Or.inr trivial, Or.inl rfl, Or.inr trivial, Or.inl rfl, Or.inr trivial, Or.inl rfl, Or.inr trivial, Or.inl rfl, Or.inr trivial, Or.inr trivial, Or.inl rfl, Or.inr trivial, Or.inl rfl, Or.inr trivial, Or.inl rfl, Or.inr trivial, Or.inl rfl, Or.inr trivial, Or.inr ⟨rxfCZ1x138_25_0 hP, trivial⟩, Or.inl rfl, Or.inr trivial, trivial⟩
theorem rxuCZ1x138 {PX : State → Prop} {Dg : va_G} {A : Nat → Prop} {ad xa : Nat → Nat} {l : Launch} {X : (Nat → Int → Int) → Prop} (hPX : rx_PXOK rxNW A PX) (hX : ∀ S S1 : Nat → Int → Int, X S → bx_same rxL (bx_mdl rxCCZ1x138.2.2.1) S S1 → X S1) (hQSCZ : bx_ConP rxG rxNW rxAO PX Dg rxL X vwCl A ad l rxM42 rxCSCZ rxPSCZ rxPSSCZ) (hQPC5x142 : bx_ConP rxG rxNW rxAO PX Dg rxL X vwCl A ad l rxM108 rxCPC5x142 rxPPC5x142 rxPSPC5x142) (hQDC14x151 : bx_ConP rxG rxNW rxAO PX Dg rxL X vwCl A ad l rxM109 rxCDC14x151 rxPDC14x151 rxPSDC14x151) (hQQCZ : bx_ConP rxG rxNW rxAO PX Dg rxL X vwCl A ad l rxM95 rxCQCZ rxPQCZ rxPSQCZ) {S0 : Nat → Int → Int} {ws : List Int} (hP : rxPCZ1x138 S0 ws) : ∀ (i : Nat) (q : bx_HE), rxYCZ1x138[i]? = some q → rxUCZ1x138 q = true → ∀ {p : Program} {e : Env} {R : Room} {s : State} {m : MethodId} {args : Array Value} {below : List Frame} {meth : Method} {c : Code} {Q : State → Prop} {H0 : Heap}, rx_Fr rxG rxNW rxAO PX p s m args meth c rxM154 → (∀ q, H0.size ≤ q → A q) → H0 = s.heap → rxM154.2.2.2.2.2.2.1 ≤ R.cells → rxM154.2.2.2.2.2.2.2 ≤ R.slots → rxCCZ1x138.2.2.2.1 ≤ R.frames → rxCCZ1x138.2.2.2.1 * 40 ≤ R.locals → bx_Step p l e R s m args below meth c Q Dg rxL X vwCl A xa H0 ad rxM154 rxYCZ1x138 (rxICZ1x138 S0 ws) (rxmCZ1x138 S0 ws) S0 rxCCZ1x138.2.2.1 i q := by
  intro i q hq hus p e R s m args below meth c Q H0 hF hA hH0 hmc hms hd hdl
  match i, hq with
  | 0, hq =>
    cases hq
    exact absurd (show false = true from hus) Bool.false_ne_true
  | 1, hq =>
    cases hq
    exact rx_stepY (i_p := 2) (idx := 86) (P0 := 139) (P1 := 2) (n := 6) (g0 := 0) (g1 := 0) (t := []) hF rfl (Nat.le_trans (by decide) hd) (Nat.le_trans (by decide) hdl) (by decide +kernel) (by decide +kernel) rfl rfl (by decide) (by decide) rfl rfl (by decide) (by decide) rfl rfl (by decide) (by decide) rfl rfl (rxsCZ1x138_1 hP hX)
  | 2, hq =>
    cases hq
    exact absurd (show false = true from hus) Bool.false_ne_true
  | 3, hq =>
    cases hq
    exact rx_stepY (i_p := 4) (idx := 86) (P0 := 140) (P1 := 3) (n := 6) (g0 := 1) (g1 := 1) (t := []) hF rfl (Nat.le_trans (by decide) hd) (Nat.le_trans (by decide) hdl) (by decide +kernel) (by decide +kernel) rfl rfl (by decide) (by decide) rfl rfl (by decide) (by decide) rfl rfl (by decide) (by decide) rfl rfl (rxsCZ1x138_3 hP hX)
  | 4, hq =>
    cases hq
    exact absurd (show false = true from hus) Bool.false_ne_true
  | 5, hq =>
    cases hq
    exact absurd (show false = true from hus) Bool.false_ne_true
  | 6, hq =>
    cases hq
    exact rx_stepC (ins := .invokevirtual 92) (len := 3) (i_p := 7) (M_p := rxM42) (d := rxCCZ1x138.2.2.2.1) (as := [.inr (3, (9, 0)), .inr (3, (10, 0))]) (t := []) (ct := rxCSCZ) hPX hF rfl hA hH0 hmc hms hd hdl (by decide +kernel) rfl rfl (by decide +kernel) (by decide +kernel) hQSCZ (by decide +kernel) rfl (Or.inl ⟨rfl, rfl, rfl⟩) (rxsCZ1x138_6 hP)
  | 7, hq =>
    cases hq
    exact absurd (show false = true from hus) Bool.false_ne_true
  | 8, hq =>
    cases hq
    exact rx_stepC (ins := .invokevirtual 96) (len := 3) (i_p := 9) (M_p := rxM108) (d := rxCCZ1x138.2.2.2.1) (as := [.inr (3, (0, 5)), .inr (3, (0, 142))]) (t := []) (ct := rxCPC5x142) hPX hF rfl hA hH0 hmc hms hd hdl (by decide +kernel) rfl rfl (by decide +kernel) (by decide +kernel) hQPC5x142 (by decide +kernel) rfl (Or.inl ⟨rfl, rfl, rfl⟩) (rxsCZ1x138_8 hP)
  | 9, hq =>
    cases hq
    exact absurd (show false = true from hus) Bool.false_ne_true
  | 10, hq =>
    cases hq
    exact rx_stepY (i_p := 11) (idx := 86) (P0 := 146) (P1 := 9) (n := 12) (g0 := 6) (g1 := 6) (t := []) hF rfl (Nat.le_trans (by decide) hd) (Nat.le_trans (by decide) hdl) (by decide +kernel) (by decide +kernel) rfl rfl (by decide) (by decide) rfl rfl (by decide) (by decide) rfl rfl (by decide) (by decide) rfl rfl (rxsCZ1x138_10 hP hX)
  | 11, hq =>
    cases hq
    exact absurd (show false = true from hus) Bool.false_ne_true
  | 12, hq =>
    cases hq
    exact rx_stepY (i_p := 13) (idx := 86) (P0 := 147) (P1 := 10) (n := 12) (g0 := 7) (g1 := 7) (t := []) hF rfl (Nat.le_trans (by decide) hd) (Nat.le_trans (by decide) hdl) (by decide +kernel) (by decide +kernel) rfl rfl (by decide) (by decide) rfl rfl (by decide) (by decide) rfl rfl (by decide) (by decide) rfl rfl (rxsCZ1x138_12 hP hX)
  | 13, hq =>
    cases hq
    exact absurd (show false = true from hus) Bool.false_ne_true
  | 14, hq =>
    cases hq
    exact rx_stepY (i_p := 15) (idx := 86) (P0 := 148) (P1 := 11) (n := 12) (g0 := 8) (g1 := 8) (t := []) hF rfl (Nat.le_trans (by decide) hd) (Nat.le_trans (by decide) hdl) (by decide +kernel) (by decide +kernel) rfl rfl (by decide) (by decide) rfl rfl (by decide) (by decide) rfl rfl (by decide) (by decide) rfl rfl (rxsCZ1x138_14 hP hX)
  | 15, hq =>
    cases hq
    exact absurd (show false = true from hus) Bool.false_ne_true
  | 16, hq =>
    cases hq
    exact absurd (show false = true from hus) Bool.false_ne_true
  | 17, hq =>
    cases hq
    exact rx_stepC (ins := .invokevirtual 92) (len := 3) (i_p := 18) (M_p := rxM42) (d := rxCCZ1x138.2.2.2.1) (as := [.inr (3, (9, 0)), .inr (3, (10, 0))]) (t := []) (ct := rxCSCZ) hPX hF rfl hA hH0 hmc hms hd hdl (by decide +kernel) rfl rfl (by decide +kernel) (by decide +kernel) hQSCZ (by decide +kernel) rfl (Or.inl ⟨rfl, rfl, rfl⟩) (rxsCZ1x138_17 hP)
  | 18, hq =>
    cases hq
    exact absurd (show false = true from hus) Bool.false_ne_true
  | 19, hq =>
    cases hq
    exact rx_stepY (i_p := 20) (idx := 86) (P0 := 150) (P1 := 13) (n := 12) (g0 := 10) (g1 := 10) (t := []) hF rfl (Nat.le_trans (by decide) hd) (Nat.le_trans (by decide) hdl) (by decide +kernel) (by decide +kernel) rfl rfl (by decide) (by decide) rfl rfl (by decide) (by decide) rfl rfl (by decide) (by decide) rfl rfl (rxsCZ1x138_19 hP hX)
  | 20, hq =>
    cases hq
    exact absurd (show false = true from hus) Bool.false_ne_true
  | 21, hq =>
    cases hq
    exact rx_stepC (ins := .invokevirtual 99) (len := 3) (i_p := 22) (M_p := rxM109) (d := rxCCZ1x138.2.2.2.1) (as := [.inr (3, (0, 14)), .inr (3, (0, 151))]) (t := []) (ct := rxCDC14x151) hPX hF rfl hA hH0 hmc hms hd hdl (by decide +kernel) rfl rfl (by decide +kernel) (by decide +kernel) hQDC14x151 (by decide +kernel) rfl (Or.inl ⟨rfl, rfl, rfl⟩) (rxsCZ1x138_21 hP)
  | 22, hq =>
    cases hq
    exact absurd (show false = true from hus) Bool.false_ne_true
  | 23, hq =>
    cases hq
    exact rx_stepY (i_p := 24) (idx := 86) (P0 := 156) (P1 := 19) (n := 3) (g0 := 15) (g1 := 15) (t := []) hF rfl (Nat.le_trans (by decide) hd) (Nat.le_trans (by decide) hdl) (by decide +kernel) (by decide +kernel) rfl rfl (by decide) (by decide) rfl rfl (by decide) (by decide) rfl rfl (by decide) (by decide) rfl rfl (rxsCZ1x138_23 hP hX)
  | 24, hq =>
    cases hq
    exact absurd (show false = true from hus) Bool.false_ne_true
  | 25, hq =>
    cases hq
    exact absurd (show false = true from hus) Bool.false_ne_true
  | 26, hq =>
    cases hq
    exact rx_stepC (ins := .invokevirtual 102) (len := 3) (i_p := 27) (M_p := rxM95) (d := rxCCZ1x138.2.2.2.1) (as := [.inr (3, (9, 0)), .inr (3, (10, 0))]) (t := []) (ct := rxCQCZ) hPX hF rfl hA hH0 hmc hms hd hdl (by decide +kernel) rfl rfl (by decide +kernel) (by decide +kernel) hQQCZ (by decide +kernel) rfl (Or.inl ⟨rfl, rfl, rfl⟩) (rxsCZ1x138_26 hP)
  | 27, hq =>
    cases hq
    exact absurd (show false = true from hus) Bool.false_ne_true
  | n + 28, hq => cases hq
theorem rxQCZ1x138 {PX : State → Prop} {Dg : va_G} {A : Nat → Prop} {ad xa : Nat → Nat} {l : Launch} {X : (Nat → Int → Int) → Prop} (hPX : rx_PXOK rxNW A PX) (hsl : ∀ s : State, PX s → ∀ o idx n : Nat, rxSl o idx = some n → ∃ tx : String, vk_R (rxNm o) idx tx (ad n) s)
    (hX : ∀ S S_p : Nat → Int → Int, X S → bx_same rxL (bx_mdl rxCCZ1x138.2.2.1) S S_p → X S_p)
    (ih : ∀ (j2 : Nat) (ct2 : bx_Ct) (M2 : rx_Mt), ct2 ∈ rxCnE j2 → ct2.2.2.2.1 + 1 ≤ rxCCZ1x138.2.2.2.1 → rxT.2.2.2.2.2 j2 = some M2 → bx_Con rxG rxNW rxAO PX Dg rxL X vwCl A ad l M2 ct2) (hQSCZ : bx_ConP rxG rxNW rxAO PX Dg rxL X vwCl A ad l rxM42 rxCSCZ rxPSCZ rxPSSCZ) (hQPC5x142 : bx_ConP rxG rxNW rxAO PX Dg rxL X vwCl A ad l rxM108 rxCPC5x142 rxPPC5x142 rxPSPC5x142) (hQDC14x151 : bx_ConP rxG rxNW rxAO PX Dg rxL X vwCl A ad l rxM109 rxCDC14x151 rxPDC14x151 rxPSDC14x151) (hQQCZ : bx_ConP rxG rxNW rxAO PX Dg rxL X vwCl A ad l rxM95 rxCQCZ rxPQCZ rxPSQCZ) : bx_ConP rxG rxNW rxAO PX Dg rxL X vwCl A ad l rxM154 rxCCZ1x138 rxPCZ1x138 rxPSCZ1x138 :=
  rxQof (xa := xa) (Cn := rxCnE) (f := 30000) (j := 154) (tab := rxYCZ1x138) (us := rxUCZ1x138) hPX hsl hX ih rfl rxYcCZ1x138 rxICZ1x138 rxmCZ1x138
    (fun S0 ws r I0 I ht0 ht as he he1 hX0 hI0 hP hs ha => by
      have e := he.symm.trans (show bx_ent0 rxNP rxCCZ1x138.1 bx_I0 [] = some ([(0, 0), (0, 0), (0, 0), (0, 0), (0, 0), (0, 0), (0, 0), (0, 0)], [], [.inr (3, (0, 1)), .inr (3, (0, 138))]) from rfl)
      cases e
      subst ha
      have h0 : r 0 = 0 := hs.1
      show rxICZ1x138_0 S0 _ S0
      refine ⟨rfl, ?_⟩
      simp only [List.map_cons, List.map_nil, bx_xv_ok h0]
      rfl)
    (fun S0 ws hP => rxuCZ1x138 (xa := xa) hPX hX hQSCZ hQPC5x142 hQDC14x151 hQQCZ hP) (fun S0 ws hP => rxgCCZ1x138 hP) (fun S0 ws hP => rxgECZ1x138 hP)
noncomputable def rxCCZ274x1 : bx_Ct := ([(3, (1, 274, 0)), (3, (1, 1, 0))], none, [(2, 0), (5, 0), (6, 0), (6, 4), (10, 0), (10, 5), (10, 10), (10, 14), (10, 15), (1000, 0), (1001, 0), (1003, 0), (1004, 0), (1005, 0), (1006, 0), (1007, 0), (1008, 0), (1010, 0), (1011, 0), (1012, 0), (1013, 0), (1015, 0), (1019, 0), (1020, 0), (1021, 0), (1022, 0), (1024, 0), (1025, 0), (1026, 0), (1027, 0)], 2, [])
noncomputable def rxICZ274x1_0 (S0 : Nat → Int → Int) (ws : List Int) (S : Nat → Int → Int) : Prop := S = S0 ∧ ws = [274, 1]
noncomputable def rxmCZ274x1_0 (S0 : Nat → Int → Int) (ws : List Int) (S : Nat → Int → Int) : Nat := 2000
noncomputable def rxzCZ274x1_0 : rx_Z := ([(0, 0), (0, 0), (0, 0), (0, 0), (0, 0), (0, 0), (0, 0), (0, 0)], [], [], 0, 0, 0, [(0, .inr (3, (0, 274))), (1, .inr (3, (0, 1)))], [])
noncomputable def rxICZ274x1_1 (S0 : Nat → Int → Int) (ws : List Int) (S : Nat → Int → Int) : Prop := S 274 0 = S0 1 0 ∧ (∀ p i : Nat, p ∈ rxFl274 → i < bx_wd (rxL.1 p) → S p (i : Int) = S0 p (i : Int)) ∧ rkWt4 S0 S 296 23 0 0 0
noncomputable def rxmCZ274x1_1 (S0 : Nat → Int → Int) (ws : List Int) (S : Nat → Int → Int) : Nat := 1990
noncomputable def rxzCZ274x1_1 : rx_Z := ([(0, 0), (0, 0), (0, 0), (0, 0), (0, 0), (0, 0), (0, 0), (0, 0)], [], [], 0, 0, 20, [(0, .inr (3, (0, 274))), (1, .inr (3, (0, 1)))], [.inr (0, (0, 6)), .inr (0, (0, 0)), .inr (3, (0, 275)), .inr (0, (0, 0)), .inr (3, (0, 2))])
noncomputable def rxICZ274x1_2 (S0 : Nat → Int → Int) (ws : List Int) (S : Nat → Int → Int) : Prop := S 274 0 = S0 1 0 ∧ (∀ i : Nat, i < 6 → S 275 (i : Int) = S0 2 (i : Int)) ∧ (∀ p i : Nat, p ∈ rxFl274 → i < bx_wd (rxL.1 p) → S p (i : Int) = S0 p (i : Int)) ∧ rkWt4 S0 S 296 23 0 0 0
noncomputable def rxmCZ274x1_2 (S0 : Nat → Int → Int) (ws : List Int) (S : Nat → Int → Int) : Nat := 1985
noncomputable def rxzCZ274x1_2 : rx_Z := ([(0, 0), (0, 0), (0, 0), (0, 0), (0, 0), (0, 0), (0, 0), (0, 0)], [], [], 0, 0, 23, [(0, .inr (3, (0, 274))), (1, .inr (3, (0, 1)))], [])
noncomputable def rxICZ274x1_3 (S0 : Nat → Int → Int) (ws : List Int) (S : Nat → Int → Int) : Prop := S 274 0 = S0 1 0 ∧ (∀ i : Nat, i < 6 → S 275 (i : Int) = S0 2 (i : Int)) ∧ (∀ p i : Nat, p ∈ rxFl274 → i < bx_wd (rxL.1 p) → S p (i : Int) = S0 p (i : Int)) ∧ rkWt4 S0 S 296 23 0 0 0
noncomputable def rxmCZ274x1_3 (S0 : Nat → Int → Int) (ws : List Int) (S : Nat → Int → Int) : Nat := 1980
noncomputable def rxzCZ274x1_3 : rx_Z := ([(0, 0), (0, 0), (0, 0), (0, 0), (0, 0), (0, 0), (0, 0), (0, 0)], [], [], 0, 0, 35, [(0, .inr (3, (0, 274))), (1, .inr (3, (0, 1)))], [.inr (0, (0, 6)), .inr (0, (0, 0)), .inr (3, (0, 276)), .inr (0, (0, 0)), .inr (3, (0, 3))])
noncomputable def rxICZ274x1_4 (S0 : Nat → Int → Int) (ws : List Int) (S : Nat → Int → Int) : Prop := S 274 0 = S0 1 0 ∧ (∀ i : Nat, i < 6 → S 275 (i : Int) = S0 2 (i : Int)) ∧ (∀ i : Nat, i < 6 → S 276 (i : Int) = S0 3 (i : Int)) ∧ (∀ p i : Nat, p ∈ rxFl274 → i < bx_wd (rxL.1 p) → S p (i : Int) = S0 p (i : Int)) ∧ rkWt4 S0 S 296 23 0 0 0
noncomputable def rxmCZ274x1_4 (S0 : Nat → Int → Int) (ws : List Int) (S : Nat → Int → Int) : Nat := 1975
noncomputable def rxzCZ274x1_4 : rx_Z := ([(0, 0), (0, 0), (0, 0), (0, 0), (0, 0), (0, 0), (0, 0), (0, 0)], [], [], 0, 0, 38, [(0, .inr (3, (0, 274))), (1, .inr (3, (0, 1)))], [])
noncomputable def rxICZ274x1_5 (S0 : Nat → Int → Int) (ws : List Int) (S : Nat → Int → Int) (i : Int) : Prop := S 274 0 = S0 1 0 ∧ (∀ i : Nat, i < 6 → S 275 (i : Int) = S0 2 (i : Int)) ∧ (∀ i : Nat, i < 6 → S 276 (i : Int) = S0 3 (i : Int)) ∧ (∀ p i : Nat, p ∈ rxFl274 → i < bx_wd (rxL.1 p) → S p (i : Int) = S0 p (i : Int)) ∧ rkWt4 S0 S 296 23 i 0 0
noncomputable def rxmCZ274x1_5 (S0 : Nat → Int → Int) (ws : List Int) (S : Nat → Int → Int) (i : Int) : Nat := 1670 + 10 * (20 - i).toNat
noncomputable def rxzCZ274x1_5 : rx_Z := ([(0, 0), (0, 0), (0, 0), (0, 0), (0, 0), (0, 0), (0, 0), (0, 0), (0, 6)], [], [], 0, 0, 40, [(0, .inr (3, (0, 274))), (1, .inr (3, (0, 1))), (2, .inr (0, (8, 0)))], [])
noncomputable def rxICZ274x1_6 (S0 : Nat → Int → Int) (ws : List Int) (S : Nat → Int → Int) (i rp rq : Int) : Prop := rp = ((296 + 3 * i.toNat : Nat) : Int) ∧ rq = ((23 + 3 * i.toNat : Nat) : Int) ∧ S 274 0 = S0 1 0 ∧ (∀ i : Nat, i < 6 → S 275 (i : Int) = S0 2 (i : Int)) ∧ (∀ i : Nat, i < 6 → S 276 (i : Int) = S0 3 (i : Int)) ∧ (∀ p i : Nat, p ∈ rxFl274 → i < bx_wd (rxL.1 p) → S p (i : Int) = S0 p (i : Int)) ∧ rkWt4 S0 S 296 23 i 0 0
noncomputable def rxmCZ274x1_6 (S0 : Nat → Int → Int) (ws : List Int) (S : Nat → Int → Int) (i rp rq : Int) : Nat := 1670 + 10 * (20 - i).toNat - 2
noncomputable def rxzCZ274x1_6 : rx_Z := ([(0, 0), (0, 0), (0, 0), (0, 0), (0, 0), (0, 0), (0, 0), (0, 0), (0, 5), (0, 1522), (0, 1522)], [], [(((9, 0), 1000010), .inl none), (((10, 0), 1000010), .inl none)], 0, 0, 58, [(0, .inr (3, (0, 274))), (1, .inr (3, (0, 1))), (2, .inr (0, (8, 0)))], [.inr (3, (10, 0)), .inr (3, (9, 0))])
noncomputable def rxICZ274x1_7 (S0 : Nat → Int → Int) (ws : List Int) (S : Nat → Int → Int) (i rp rq : Int) : Prop := S 274 0 = S0 1 0 ∧ (∀ i : Nat, i < 6 → S 275 (i : Int) = S0 2 (i : Int)) ∧ (∀ i : Nat, i < 6 → S 276 (i : Int) = S0 3 (i : Int)) ∧ (∀ p i : Nat, p ∈ rxFl274 → i < bx_wd (rxL.1 p) → S p (i : Int) = S0 p (i : Int)) ∧ rkWt4 S0 S 296 23 (i + 1) 0 0
noncomputable def rxmCZ274x1_7 (S0 : Nat → Int → Int) (ws : List Int) (S : Nat → Int → Int) (i rp rq : Int) : Nat := 1670 + 10 * (20 - i).toNat - 4
noncomputable def rxzCZ274x1_7 : rx_Z := ([(0, 0), (0, 0), (0, 0), (0, 0), (0, 0), (0, 0), (0, 0), (0, 0), (0, 5), (0, 1522), (0, 1522)], [], [(((9, 0), 1000010), .inl none), (((10, 0), 1000010), .inl none)], 0, 0, 61, [(0, .inr (3, (0, 274))), (1, .inr (3, (0, 1))), (2, .inr (0, (8, 0)))], [])
noncomputable def rxICZ274x1_8 (S0 : Nat → Int → Int) (ws : List Int) (S : Nat → Int → Int) : Prop := S 274 0 = S0 1 0 ∧ (∀ i : Nat, i < 6 → S 275 (i : Int) = S0 2 (i : Int)) ∧ (∀ i : Nat, i < 6 → S 276 (i : Int) = S0 3 (i : Int)) ∧ (∀ p i : Nat, p ∈ rxFl274 → i < bx_wd (rxL.1 p) → S p (i : Int) = S0 p (i : Int)) ∧ rkWt4 S0 S 296 23 6 0 0
noncomputable def rxmCZ274x1_8 (S0 : Nat → Int → Int) (ws : List Int) (S : Nat → Int → Int) : Nat := 1660
noncomputable def rxzCZ274x1_8 : rx_Z := ([(0, 0), (0, 0), (0, 0), (0, 0), (0, 0), (0, 0), (0, 0), (0, 0)], [], [], 0, 0, 75, [(0, .inr (3, (0, 274))), (1, .inr (3, (0, 1))), (2, .inr (0, (0, 6)))], [.inr (3, (0, 5)), .inr (3, (0, 278))])
noncomputable def rxICZ274x1_9 (S0 : Nat → Int → Int) (ws : List Int) (S : Nat → Int → Int) : Prop := S 274 0 = S0 1 0 ∧ (∀ i : Nat, i < 6 → S 275 (i : Int) = S0 2 (i : Int)) ∧ (∀ i : Nat, i < 6 → S 276 (i : Int) = S0 3 (i : Int)) ∧ S 278 0 = S0 5 0 ∧ (∀ i : Nat, i < 8 → S 279 (i : Int) = S0 6 (i : Int)) ∧ (∀ i : Nat, i < 8 → S 280 (i : Int) = S0 7 (i : Int)) ∧ (∀ i : Nat, i < 8 → S 281 (i : Int) = S0 8 (i : Int)) ∧ (∀ p i : Nat, p ∈ rxFl274 → i < bx_wd (rxL.1 p) → S p (i : Int) = S0 p (i : Int)) ∧ rkWt4 S0 S 296 23 6 0 0
noncomputable def rxmCZ274x1_9 (S0 : Nat → Int → Int) (ws : List Int) (S : Nat → Int → Int) : Nat := 1655
noncomputable def rxzCZ274x1_9 : rx_Z := ([(0, 0), (0, 0), (0, 0), (0, 0), (0, 0), (0, 0), (0, 0), (0, 0)], [], [], 0, 0, 78, [(0, .inr (3, (0, 274))), (1, .inr (3, (0, 1))), (2, .inr (0, (0, 6)))], [])
noncomputable def rxICZ274x1_10 (S0 : Nat → Int → Int) (ws : List Int) (S : Nat → Int → Int) : Prop := S 274 0 = S0 1 0 ∧ (∀ i : Nat, i < 6 → S 275 (i : Int) = S0 2 (i : Int)) ∧ (∀ i : Nat, i < 6 → S 276 (i : Int) = S0 3 (i : Int)) ∧ S 278 0 = S0 5 0 ∧ (∀ i : Nat, i < 8 → S 279 (i : Int) = S0 6 (i : Int)) ∧ (∀ i : Nat, i < 8 → S 280 (i : Int) = S0 7 (i : Int)) ∧ (∀ i : Nat, i < 8 → S 281 (i : Int) = S0 8 (i : Int)) ∧ S 274 5 = S0 1 5 ∧ (∀ p i : Nat, p ∈ rxFl274 → i < bx_wd (rxL.1 p) → S p (i : Int) = S0 p (i : Int)) ∧ rkWt4 S0 S 296 23 6 0 0
noncomputable def rxmCZ274x1_10 (S0 : Nat → Int → Int) (ws : List Int) (S : Nat → Int → Int) : Nat := 1650
noncomputable def rxzCZ274x1_10 : rx_Z := ([(0, 0), (0, 0), (0, 0), (0, 0), (0, 0), (0, 0), (0, 0), (0, 0)], [], [], 0, 0, 98, [(0, .inr (3, (0, 274))), (1, .inr (3, (0, 1))), (2, .inr (0, (0, 6)))], [.inr (0, (0, 12)), .inr (0, (0, 0)), .inr (3, (0, 282)), .inr (0, (0, 0)), .inr (3, (0, 9))])
noncomputable def rxICZ274x1_11 (S0 : Nat → Int → Int) (ws : List Int) (S : Nat → Int → Int) : Prop := S 274 0 = S0 1 0 ∧ (∀ i : Nat, i < 6 → S 275 (i : Int) = S0 2 (i : Int)) ∧ (∀ i : Nat, i < 6 → S 276 (i : Int) = S0 3 (i : Int)) ∧ S 278 0 = S0 5 0 ∧ (∀ i : Nat, i < 8 → S 279 (i : Int) = S0 6 (i : Int)) ∧ (∀ i : Nat, i < 8 → S 280 (i : Int) = S0 7 (i : Int)) ∧ (∀ i : Nat, i < 8 → S 281 (i : Int) = S0 8 (i : Int)) ∧ S 274 5 = S0 1 5 ∧ (∀ i : Nat, i < 12 → S 282 (i : Int) = S0 9 (i : Int)) ∧ (∀ p i : Nat, p ∈ rxFl274 → i < bx_wd (rxL.1 p) → S p (i : Int) = S0 p (i : Int)) ∧ rkWt4 S0 S 296 23 6 0 0
noncomputable def rxmCZ274x1_11 (S0 : Nat → Int → Int) (ws : List Int) (S : Nat → Int → Int) : Nat := 1645
noncomputable def rxzCZ274x1_11 : rx_Z := ([(0, 0), (0, 0), (0, 0), (0, 0), (0, 0), (0, 0), (0, 0), (0, 0)], [], [], 0, 0, 101, [(0, .inr (3, (0, 274))), (1, .inr (3, (0, 1))), (2, .inr (0, (0, 6)))], [])
noncomputable def rxICZ274x1_12 (S0 : Nat → Int → Int) (ws : List Int) (S : Nat → Int → Int) : Prop := S 274 0 = S0 1 0 ∧ (∀ i : Nat, i < 6 → S 275 (i : Int) = S0 2 (i : Int)) ∧ (∀ i : Nat, i < 6 → S 276 (i : Int) = S0 3 (i : Int)) ∧ S 278 0 = S0 5 0 ∧ (∀ i : Nat, i < 8 → S 279 (i : Int) = S0 6 (i : Int)) ∧ (∀ i : Nat, i < 8 → S 280 (i : Int) = S0 7 (i : Int)) ∧ (∀ i : Nat, i < 8 → S 281 (i : Int) = S0 8 (i : Int)) ∧ S 274 5 = S0 1 5 ∧ (∀ i : Nat, i < 12 → S 282 (i : Int) = S0 9 (i : Int)) ∧ (∀ p i : Nat, p ∈ rxFl274 → i < bx_wd (rxL.1 p) → S p (i : Int) = S0 p (i : Int)) ∧ rkWt4 S0 S 296 23 6 0 0
noncomputable def rxmCZ274x1_12 (S0 : Nat → Int → Int) (ws : List Int) (S : Nat → Int → Int) : Nat := 1640
noncomputable def rxzCZ274x1_12 : rx_Z := ([(0, 0), (0, 0), (0, 0), (0, 0), (0, 0), (0, 0), (0, 0), (0, 0)], [], [], 0, 0, 113, [(0, .inr (3, (0, 274))), (1, .inr (3, (0, 1))), (2, .inr (0, (0, 6)))], [.inr (0, (0, 12)), .inr (0, (0, 0)), .inr (3, (0, 283)), .inr (0, (0, 0)), .inr (3, (0, 10))])
noncomputable def rxICZ274x1_13 (S0 : Nat → Int → Int) (ws : List Int) (S : Nat → Int → Int) : Prop := S 274 0 = S0 1 0 ∧ (∀ i : Nat, i < 6 → S 275 (i : Int) = S0 2 (i : Int)) ∧ (∀ i : Nat, i < 6 → S 276 (i : Int) = S0 3 (i : Int)) ∧ S 278 0 = S0 5 0 ∧ (∀ i : Nat, i < 8 → S 279 (i : Int) = S0 6 (i : Int)) ∧ (∀ i : Nat, i < 8 → S 280 (i : Int) = S0 7 (i : Int)) ∧ (∀ i : Nat, i < 8 → S 281 (i : Int) = S0 8 (i : Int)) ∧ S 274 5 = S0 1 5 ∧ (∀ i : Nat, i < 12 → S 282 (i : Int) = S0 9 (i : Int)) ∧ (∀ i : Nat, i < 12 → S 283 (i : Int) = S0 10 (i : Int)) ∧ (∀ p i : Nat, p ∈ rxFl274 → i < bx_wd (rxL.1 p) → S p (i : Int) = S0 p (i : Int)) ∧ rkWt4 S0 S 296 23 6 0 0
noncomputable def rxmCZ274x1_13 (S0 : Nat → Int → Int) (ws : List Int) (S : Nat → Int → Int) : Nat := 1635
noncomputable def rxzCZ274x1_13 : rx_Z := ([(0, 0), (0, 0), (0, 0), (0, 0), (0, 0), (0, 0), (0, 0), (0, 0)], [], [], 0, 0, 116, [(0, .inr (3, (0, 274))), (1, .inr (3, (0, 1))), (2, .inr (0, (0, 6)))], [])
noncomputable def rxICZ274x1_14 (S0 : Nat → Int → Int) (ws : List Int) (S : Nat → Int → Int) : Prop := S 274 0 = S0 1 0 ∧ (∀ i : Nat, i < 6 → S 275 (i : Int) = S0 2 (i : Int)) ∧ (∀ i : Nat, i < 6 → S 276 (i : Int) = S0 3 (i : Int)) ∧ S 278 0 = S0 5 0 ∧ (∀ i : Nat, i < 8 → S 279 (i : Int) = S0 6 (i : Int)) ∧ (∀ i : Nat, i < 8 → S 280 (i : Int) = S0 7 (i : Int)) ∧ (∀ i : Nat, i < 8 → S 281 (i : Int) = S0 8 (i : Int)) ∧ S 274 5 = S0 1 5 ∧ (∀ i : Nat, i < 12 → S 282 (i : Int) = S0 9 (i : Int)) ∧ (∀ i : Nat, i < 12 → S 283 (i : Int) = S0 10 (i : Int)) ∧ (∀ p i : Nat, p ∈ rxFl274 → i < bx_wd (rxL.1 p) → S p (i : Int) = S0 p (i : Int)) ∧ rkWt4 S0 S 296 23 6 0 0
noncomputable def rxmCZ274x1_14 (S0 : Nat → Int → Int) (ws : List Int) (S : Nat → Int → Int) : Nat := 1630
noncomputable def rxzCZ274x1_14 : rx_Z := ([(0, 0), (0, 0), (0, 0), (0, 0), (0, 0), (0, 0), (0, 0), (0, 0)], [], [], 0, 0, 128, [(0, .inr (3, (0, 274))), (1, .inr (3, (0, 1))), (2, .inr (0, (0, 6)))], [.inr (0, (0, 12)), .inr (0, (0, 0)), .inr (3, (0, 284)), .inr (0, (0, 0)), .inr (3, (0, 11))])
noncomputable def rxICZ274x1_15 (S0 : Nat → Int → Int) (ws : List Int) (S : Nat → Int → Int) : Prop := S 274 0 = S0 1 0 ∧ (∀ i : Nat, i < 6 → S 275 (i : Int) = S0 2 (i : Int)) ∧ (∀ i : Nat, i < 6 → S 276 (i : Int) = S0 3 (i : Int)) ∧ S 278 0 = S0 5 0 ∧ (∀ i : Nat, i < 8 → S 279 (i : Int) = S0 6 (i : Int)) ∧ (∀ i : Nat, i < 8 → S 280 (i : Int) = S0 7 (i : Int)) ∧ (∀ i : Nat, i < 8 → S 281 (i : Int) = S0 8 (i : Int)) ∧ S 274 5 = S0 1 5 ∧ (∀ i : Nat, i < 12 → S 282 (i : Int) = S0 9 (i : Int)) ∧ (∀ i : Nat, i < 12 → S 283 (i : Int) = S0 10 (i : Int)) ∧ (∀ i : Nat, i < 12 → S 284 (i : Int) = S0 11 (i : Int)) ∧ (∀ p i : Nat, p ∈ rxFl274 → i < bx_wd (rxL.1 p) → S p (i : Int) = S0 p (i : Int)) ∧ rkWt4 S0 S 296 23 6 0 0
noncomputable def rxmCZ274x1_15 (S0 : Nat → Int → Int) (ws : List Int) (S : Nat → Int → Int) : Nat := 1625
noncomputable def rxzCZ274x1_15 : rx_Z := ([(0, 0), (0, 0), (0, 0), (0, 0), (0, 0), (0, 0), (0, 0), (0, 0)], [], [], 0, 0, 131, [(0, .inr (3, (0, 274))), (1, .inr (3, (0, 1))), (2, .inr (0, (0, 6)))], [])
noncomputable def rxICZ274x1_16 (S0 : Nat → Int → Int) (ws : List Int) (S : Nat → Int → Int) (i : Int) : Prop := S 274 0 = S0 1 0 ∧ (∀ i : Nat, i < 6 → S 275 (i : Int) = S0 2 (i : Int)) ∧ (∀ i : Nat, i < 6 → S 276 (i : Int) = S0 3 (i : Int)) ∧ S 278 0 = S0 5 0 ∧ (∀ i : Nat, i < 8 → S 279 (i : Int) = S0 6 (i : Int)) ∧ (∀ i : Nat, i < 8 → S 280 (i : Int) = S0 7 (i : Int)) ∧ (∀ i : Nat, i < 8 → S 281 (i : Int) = S0 8 (i : Int)) ∧ S 274 5 = S0 1 5 ∧ (∀ i : Nat, i < 12 → S 282 (i : Int) = S0 9 (i : Int)) ∧ (∀ i : Nat, i < 12 → S 283 (i : Int) = S0 10 (i : Int)) ∧ (∀ i : Nat, i < 12 → S 284 (i : Int) = S0 11 (i : Int)) ∧ (∀ p i : Nat, p ∈ rxFl274 → i < bx_wd (rxL.1 p) → S p (i : Int) = S0 p (i : Int)) ∧ rkWt4 S0 S 296 23 6 i 0
noncomputable def rxmCZ274x1_16 (S0 : Nat → Int → Int) (ws : List Int) (S : Nat → Int → Int) (i : Int) : Nat := 1320 + 10 * (20 - i).toNat
noncomputable def rxzCZ274x1_16 : rx_Z := ([(0, 0), (0, 0), (0, 0), (0, 0), (0, 0), (0, 0), (0, 0), (0, 0), (0, 12)], [], [], 0, 0, 133, [(0, .inr (3, (0, 274))), (1, .inr (3, (0, 1))), (2, .inr (0, (8, 0)))], [])
noncomputable def rxICZ274x1_17 (S0 : Nat → Int → Int) (ws : List Int) (S : Nat → Int → Int) (i rp rq : Int) : Prop := rp = ((314 + 3 * i.toNat : Nat) : Int) ∧ rq = ((41 + 3 * i.toNat : Nat) : Int) ∧ S 274 0 = S0 1 0 ∧ (∀ i : Nat, i < 6 → S 275 (i : Int) = S0 2 (i : Int)) ∧ (∀ i : Nat, i < 6 → S 276 (i : Int) = S0 3 (i : Int)) ∧ S 278 0 = S0 5 0 ∧ (∀ i : Nat, i < 8 → S 279 (i : Int) = S0 6 (i : Int)) ∧ (∀ i : Nat, i < 8 → S 280 (i : Int) = S0 7 (i : Int)) ∧ (∀ i : Nat, i < 8 → S 281 (i : Int) = S0 8 (i : Int)) ∧ S 274 5 = S0 1 5 ∧ (∀ i : Nat, i < 12 → S 282 (i : Int) = S0 9 (i : Int)) ∧ (∀ i : Nat, i < 12 → S 283 (i : Int) = S0 10 (i : Int)) ∧ (∀ i : Nat, i < 12 → S 284 (i : Int) = S0 11 (i : Int)) ∧ (∀ p i : Nat, p ∈ rxFl274 → i < bx_wd (rxL.1 p) → S p (i : Int) = S0 p (i : Int)) ∧ rkWt4 S0 S 296 23 6 i 0
noncomputable def rxmCZ274x1_17 (S0 : Nat → Int → Int) (ws : List Int) (S : Nat → Int → Int) (i rp rq : Int) : Nat := 1320 + 10 * (20 - i).toNat - 2
noncomputable def rxzCZ274x1_17 : rx_Z := ([(0, 0), (0, 0), (0, 0), (0, 0), (0, 0), (0, 0), (0, 0), (0, 0), (0, 11), (0, 1522), (0, 1522)], [], [(((9, 0), 1000010), .inl none), (((10, 0), 1000010), .inl none)], 0, 0, 151, [(0, .inr (3, (0, 274))), (1, .inr (3, (0, 1))), (2, .inr (0, (8, 0)))], [.inr (3, (10, 0)), .inr (3, (9, 0))])
noncomputable def rxICZ274x1_18 (S0 : Nat → Int → Int) (ws : List Int) (S : Nat → Int → Int) (i rp rq : Int) : Prop := S 274 0 = S0 1 0 ∧ (∀ i : Nat, i < 6 → S 275 (i : Int) = S0 2 (i : Int)) ∧ (∀ i : Nat, i < 6 → S 276 (i : Int) = S0 3 (i : Int)) ∧ S 278 0 = S0 5 0 ∧ (∀ i : Nat, i < 8 → S 279 (i : Int) = S0 6 (i : Int)) ∧ (∀ i : Nat, i < 8 → S 280 (i : Int) = S0 7 (i : Int)) ∧ (∀ i : Nat, i < 8 → S 281 (i : Int) = S0 8 (i : Int)) ∧ S 274 5 = S0 1 5 ∧ (∀ i : Nat, i < 12 → S 282 (i : Int) = S0 9 (i : Int)) ∧ (∀ i : Nat, i < 12 → S 283 (i : Int) = S0 10 (i : Int)) ∧ (∀ i : Nat, i < 12 → S 284 (i : Int) = S0 11 (i : Int)) ∧ (∀ p i : Nat, p ∈ rxFl274 → i < bx_wd (rxL.1 p) → S p (i : Int) = S0 p (i : Int)) ∧ rkWt4 S0 S 296 23 6 (i + 1) 0
noncomputable def rxmCZ274x1_18 (S0 : Nat → Int → Int) (ws : List Int) (S : Nat → Int → Int) (i rp rq : Int) : Nat := 1320 + 10 * (20 - i).toNat - 4
noncomputable def rxzCZ274x1_18 : rx_Z := ([(0, 0), (0, 0), (0, 0), (0, 0), (0, 0), (0, 0), (0, 0), (0, 0), (0, 11), (0, 1522), (0, 1522)], [], [(((9, 0), 1000010), .inl none), (((10, 0), 1000010), .inl none)], 0, 0, 154, [(0, .inr (3, (0, 274))), (1, .inr (3, (0, 1))), (2, .inr (0, (8, 0)))], [])
noncomputable def rxICZ274x1_19 (S0 : Nat → Int → Int) (ws : List Int) (S : Nat → Int → Int) : Prop := S 274 0 = S0 1 0 ∧ (∀ i : Nat, i < 6 → S 275 (i : Int) = S0 2 (i : Int)) ∧ (∀ i : Nat, i < 6 → S 276 (i : Int) = S0 3 (i : Int)) ∧ S 278 0 = S0 5 0 ∧ (∀ i : Nat, i < 8 → S 279 (i : Int) = S0 6 (i : Int)) ∧ (∀ i : Nat, i < 8 → S 280 (i : Int) = S0 7 (i : Int)) ∧ (∀ i : Nat, i < 8 → S 281 (i : Int) = S0 8 (i : Int)) ∧ S 274 5 = S0 1 5 ∧ (∀ i : Nat, i < 12 → S 282 (i : Int) = S0 9 (i : Int)) ∧ (∀ i : Nat, i < 12 → S 283 (i : Int) = S0 10 (i : Int)) ∧ (∀ i : Nat, i < 12 → S 284 (i : Int) = S0 11 (i : Int)) ∧ S 274 10 = S0 1 10 ∧ (∀ p i : Nat, p ∈ rxFl274 → i < bx_wd (rxL.1 p) → S p (i : Int) = S0 p (i : Int)) ∧ rkWt4 S0 S 296 23 6 12 0
noncomputable def rxmCZ274x1_19 (S0 : Nat → Int → Int) (ws : List Int) (S : Nat → Int → Int) : Nat := 1310
noncomputable def rxzCZ274x1_19 : rx_Z := ([(0, 0), (0, 0), (0, 0), (0, 0), (0, 0), (0, 0), (0, 0), (0, 0)], [], [], 0, 0, 180, [(0, .inr (3, (0, 274))), (1, .inr (3, (0, 1))), (2, .inr (0, (0, 12)))], [.inr (0, (0, 12)), .inr (0, (0, 0)), .inr (3, (0, 286)), .inr (0, (0, 0)), .inr (3, (0, 13))])
noncomputable def rxICZ274x1_20 (S0 : Nat → Int → Int) (ws : List Int) (S : Nat → Int → Int) : Prop := S 274 0 = S0 1 0 ∧ (∀ i : Nat, i < 6 → S 275 (i : Int) = S0 2 (i : Int)) ∧ (∀ i : Nat, i < 6 → S 276 (i : Int) = S0 3 (i : Int)) ∧ S 278 0 = S0 5 0 ∧ (∀ i : Nat, i < 8 → S 279 (i : Int) = S0 6 (i : Int)) ∧ (∀ i : Nat, i < 8 → S 280 (i : Int) = S0 7 (i : Int)) ∧ (∀ i : Nat, i < 8 → S 281 (i : Int) = S0 8 (i : Int)) ∧ S 274 5 = S0 1 5 ∧ (∀ i : Nat, i < 12 → S 282 (i : Int) = S0 9 (i : Int)) ∧ (∀ i : Nat, i < 12 → S 283 (i : Int) = S0 10 (i : Int)) ∧ (∀ i : Nat, i < 12 → S 284 (i : Int) = S0 11 (i : Int)) ∧ S 274 10 = S0 1 10 ∧ (∀ i : Nat, i < 12 → S 286 (i : Int) = S0 13 (i : Int)) ∧ (∀ p i : Nat, p ∈ rxFl274 → i < bx_wd (rxL.1 p) → S p (i : Int) = S0 p (i : Int)) ∧ rkWt4 S0 S 296 23 6 12 0
noncomputable def rxmCZ274x1_20 (S0 : Nat → Int → Int) (ws : List Int) (S : Nat → Int → Int) : Nat := 1305
noncomputable def rxzCZ274x1_20 : rx_Z := ([(0, 0), (0, 0), (0, 0), (0, 0), (0, 0), (0, 0), (0, 0), (0, 0)], [], [], 0, 0, 183, [(0, .inr (3, (0, 274))), (1, .inr (3, (0, 1))), (2, .inr (0, (0, 12)))], [])
noncomputable def rxICZ274x1_21 (S0 : Nat → Int → Int) (ws : List Int) (S : Nat → Int → Int) : Prop := S 274 0 = S0 1 0 ∧ (∀ i : Nat, i < 6 → S 275 (i : Int) = S0 2 (i : Int)) ∧ (∀ i : Nat, i < 6 → S 276 (i : Int) = S0 3 (i : Int)) ∧ S 278 0 = S0 5 0 ∧ (∀ i : Nat, i < 8 → S 279 (i : Int) = S0 6 (i : Int)) ∧ (∀ i : Nat, i < 8 → S 280 (i : Int) = S0 7 (i : Int)) ∧ (∀ i : Nat, i < 8 → S 281 (i : Int) = S0 8 (i : Int)) ∧ S 274 5 = S0 1 5 ∧ (∀ i : Nat, i < 12 → S 282 (i : Int) = S0 9 (i : Int)) ∧ (∀ i : Nat, i < 12 → S 283 (i : Int) = S0 10 (i : Int)) ∧ (∀ i : Nat, i < 12 → S 284 (i : Int) = S0 11 (i : Int)) ∧ S 274 10 = S0 1 10 ∧ (∀ i : Nat, i < 12 → S 286 (i : Int) = S0 13 (i : Int)) ∧ (∀ p i : Nat, p ∈ rxFl274 → i < bx_wd (rxL.1 p) → S p (i : Int) = S0 p (i : Int)) ∧ rkWt4 S0 S 296 23 6 12 0
noncomputable def rxmCZ274x1_21 (S0 : Nat → Int → Int) (ws : List Int) (S : Nat → Int → Int) : Nat := 1300
noncomputable def rxzCZ274x1_21 : rx_Z := ([(0, 0), (0, 0), (0, 0), (0, 0), (0, 0), (0, 0), (0, 0), (0, 0)], [], [], 0, 0, 191, [(0, .inr (3, (0, 274))), (1, .inr (3, (0, 1))), (2, .inr (0, (0, 12)))], [.inr (3, (0, 14)), .inr (3, (0, 287))])
noncomputable def rxICZ274x1_22 (S0 : Nat → Int → Int) (ws : List Int) (S : Nat → Int → Int) : Prop := S 274 0 = S0 1 0 ∧ (∀ i : Nat, i < 6 → S 275 (i : Int) = S0 2 (i : Int)) ∧ (∀ i : Nat, i < 6 → S 276 (i : Int) = S0 3 (i : Int)) ∧ S 278 0 = S0 5 0 ∧ (∀ i : Nat, i < 8 → S 279 (i : Int) = S0 6 (i : Int)) ∧ (∀ i : Nat, i < 8 → S 280 (i : Int) = S0 7 (i : Int)) ∧ (∀ i : Nat, i < 8 → S 281 (i : Int) = S0 8 (i : Int)) ∧ S 274 5 = S0 1 5 ∧ (∀ i : Nat, i < 12 → S 282 (i : Int) = S0 9 (i : Int)) ∧ (∀ i : Nat, i < 12 → S 283 (i : Int) = S0 10 (i : Int)) ∧ (∀ i : Nat, i < 12 → S 284 (i : Int) = S0 11 (i : Int)) ∧ S 274 10 = S0 1 10 ∧ (∀ i : Nat, i < 12 → S 286 (i : Int) = S0 13 (i : Int)) ∧ S 287 0 = S0 14 0 ∧ (∀ i : Nat, i < 12 → S 288 (i : Int) = S0 15 (i : Int)) ∧ (∀ i : Nat, i < 12 → S 289 (i : Int) = S0 16 (i : Int)) ∧ (∀ i : Nat, i < 12 → S 290 (i : Int) = S0 17 (i : Int)) ∧ (∀ p i : Nat, p ∈ rxFl274 → i < bx_wd (rxL.1 p) → S p (i : Int) = S0 p (i : Int)) ∧ rkWt4 S0 S 296 23 6 12 0
noncomputable def rxmCZ274x1_22 (S0 : Nat → Int → Int) (ws : List Int) (S : Nat → Int → Int) : Nat := 1295
noncomputable def rxzCZ274x1_22 : rx_Z := ([(0, 0), (0, 0), (0, 0), (0, 0), (0, 0), (0, 0), (0, 0), (0, 0)], [], [], 0, 0, 194, [(0, .inr (3, (0, 274))), (1, .inr (3, (0, 1))), (2, .inr (0, (0, 12)))], [])
noncomputable def rxICZ274x1_23 (S0 : Nat → Int → Int) (ws : List Int) (S : Nat → Int → Int) : Prop := S 274 0 = S0 1 0 ∧ (∀ i : Nat, i < 6 → S 275 (i : Int) = S0 2 (i : Int)) ∧ (∀ i : Nat, i < 6 → S 276 (i : Int) = S0 3 (i : Int)) ∧ S 278 0 = S0 5 0 ∧ (∀ i : Nat, i < 8 → S 279 (i : Int) = S0 6 (i : Int)) ∧ (∀ i : Nat, i < 8 → S 280 (i : Int) = S0 7 (i : Int)) ∧ (∀ i : Nat, i < 8 → S 281 (i : Int) = S0 8 (i : Int)) ∧ S 274 5 = S0 1 5 ∧ (∀ i : Nat, i < 12 → S 282 (i : Int) = S0 9 (i : Int)) ∧ (∀ i : Nat, i < 12 → S 283 (i : Int) = S0 10 (i : Int)) ∧ (∀ i : Nat, i < 12 → S 284 (i : Int) = S0 11 (i : Int)) ∧ S 274 10 = S0 1 10 ∧ (∀ i : Nat, i < 12 → S 286 (i : Int) = S0 13 (i : Int)) ∧ S 287 0 = S0 14 0 ∧ (∀ i : Nat, i < 12 → S 288 (i : Int) = S0 15 (i : Int)) ∧ (∀ i : Nat, i < 12 → S 289 (i : Int) = S0 16 (i : Int)) ∧ (∀ i : Nat, i < 12 → S 290 (i : Int) = S0 17 (i : Int)) ∧ (∀ p i : Nat, p ∈ rxFl274 → i < bx_wd (rxL.1 p) → S p (i : Int) = S0 p (i : Int)) ∧ rkWt4 S0 S 296 23 6 12 0
noncomputable def rxmCZ274x1_23 (S0 : Nat → Int → Int) (ws : List Int) (S : Nat → Int → Int) : Nat := 1290
noncomputable def rxzCZ274x1_23 : rx_Z := ([(0, 0), (0, 0), (0, 0), (0, 0), (0, 0), (0, 0), (0, 0), (0, 0)], [], [], 0, 0, 205, [(0, .inr (3, (0, 274))), (1, .inr (3, (0, 1))), (2, .inr (0, (0, 12)))], [.inr (0, (0, 3)), .inr (0, (0, 0)), .inr (3, (0, 292)), .inr (0, (0, 0)), .inr (3, (0, 19))])
noncomputable def rxICZ274x1_24 (S0 : Nat → Int → Int) (ws : List Int) (S : Nat → Int → Int) : Prop := S 274 0 = S0 1 0 ∧ (∀ i : Nat, i < 6 → S 275 (i : Int) = S0 2 (i : Int)) ∧ (∀ i : Nat, i < 6 → S 276 (i : Int) = S0 3 (i : Int)) ∧ S 278 0 = S0 5 0 ∧ (∀ i : Nat, i < 8 → S 279 (i : Int) = S0 6 (i : Int)) ∧ (∀ i : Nat, i < 8 → S 280 (i : Int) = S0 7 (i : Int)) ∧ (∀ i : Nat, i < 8 → S 281 (i : Int) = S0 8 (i : Int)) ∧ S 274 5 = S0 1 5 ∧ (∀ i : Nat, i < 12 → S 282 (i : Int) = S0 9 (i : Int)) ∧ (∀ i : Nat, i < 12 → S 283 (i : Int) = S0 10 (i : Int)) ∧ (∀ i : Nat, i < 12 → S 284 (i : Int) = S0 11 (i : Int)) ∧ S 274 10 = S0 1 10 ∧ (∀ i : Nat, i < 12 → S 286 (i : Int) = S0 13 (i : Int)) ∧ S 287 0 = S0 14 0 ∧ (∀ i : Nat, i < 12 → S 288 (i : Int) = S0 15 (i : Int)) ∧ (∀ i : Nat, i < 12 → S 289 (i : Int) = S0 16 (i : Int)) ∧ (∀ i : Nat, i < 12 → S 290 (i : Int) = S0 17 (i : Int)) ∧ (∀ i : Nat, i < 3 → S 292 (i : Int) = S0 19 (i : Int)) ∧ (∀ p i : Nat, p ∈ rxFl274 → i < bx_wd (rxL.1 p) → S p (i : Int) = S0 p (i : Int)) ∧ rkWt4 S0 S 296 23 6 12 0
noncomputable def rxmCZ274x1_24 (S0 : Nat → Int → Int) (ws : List Int) (S : Nat → Int → Int) : Nat := 1285
noncomputable def rxzCZ274x1_24 : rx_Z := ([(0, 0), (0, 0), (0, 0), (0, 0), (0, 0), (0, 0), (0, 0), (0, 0)], [], [], 0, 0, 208, [(0, .inr (3, (0, 274))), (1, .inr (3, (0, 1))), (2, .inr (0, (0, 12)))], [])
noncomputable def rxICZ274x1_25 (S0 : Nat → Int → Int) (ws : List Int) (S : Nat → Int → Int) (i : Int) : Prop := S 274 0 = S0 1 0 ∧ (∀ i : Nat, i < 6 → S 275 (i : Int) = S0 2 (i : Int)) ∧ (∀ i : Nat, i < 6 → S 276 (i : Int) = S0 3 (i : Int)) ∧ S 278 0 = S0 5 0 ∧ (∀ i : Nat, i < 8 → S 279 (i : Int) = S0 6 (i : Int)) ∧ (∀ i : Nat, i < 8 → S 280 (i : Int) = S0 7 (i : Int)) ∧ (∀ i : Nat, i < 8 → S 281 (i : Int) = S0 8 (i : Int)) ∧ S 274 5 = S0 1 5 ∧ (∀ i : Nat, i < 12 → S 282 (i : Int) = S0 9 (i : Int)) ∧ (∀ i : Nat, i < 12 → S 283 (i : Int) = S0 10 (i : Int)) ∧ (∀ i : Nat, i < 12 → S 284 (i : Int) = S0 11 (i : Int)) ∧ S 274 10 = S0 1 10 ∧ (∀ i : Nat, i < 12 → S 286 (i : Int) = S0 13 (i : Int)) ∧ S 287 0 = S0 14 0 ∧ (∀ i : Nat, i < 12 → S 288 (i : Int) = S0 15 (i : Int)) ∧ (∀ i : Nat, i < 12 → S 289 (i : Int) = S0 16 (i : Int)) ∧ (∀ i : Nat, i < 12 → S 290 (i : Int) = S0 17 (i : Int)) ∧ (∀ i : Nat, i < 3 → S 292 (i : Int) = S0 19 (i : Int)) ∧ S 274 14 = S0 1 14 ∧ S 274 15 = S0 1 15 ∧ (∀ p i : Nat, p ∈ rxFl274 → i < bx_wd (rxL.1 p) → S p (i : Int) = S0 p (i : Int)) ∧ rkWt4 S0 S 296 23 6 12 i
noncomputable def rxmCZ274x1_25 (S0 : Nat → Int → Int) (ws : List Int) (S : Nat → Int → Int) (i : Int) : Nat := 980 + 10 * (20 - i).toNat
noncomputable def rxzCZ274x1_25 : rx_Z := ([(0, 0), (0, 0), (0, 0), (0, 0), (0, 0), (0, 0), (0, 0), (0, 0), (0, 6)], [], [], 0, 0, 226, [(0, .inr (3, (0, 274))), (1, .inr (3, (0, 1))), (2, .inr (0, (8, 0)))], [])
noncomputable def rxICZ274x1_26 (S0 : Nat → Int → Int) (ws : List Int) (S : Nat → Int → Int) (i rp rq : Int) : Prop := rp = ((350 + 10 * i.toNat : Nat) : Int) ∧ rq = ((77 + 10 * i.toNat : Nat) : Int) ∧ S 274 0 = S0 1 0 ∧ (∀ i : Nat, i < 6 → S 275 (i : Int) = S0 2 (i : Int)) ∧ (∀ i : Nat, i < 6 → S 276 (i : Int) = S0 3 (i : Int)) ∧ S 278 0 = S0 5 0 ∧ (∀ i : Nat, i < 8 → S 279 (i : Int) = S0 6 (i : Int)) ∧ (∀ i : Nat, i < 8 → S 280 (i : Int) = S0 7 (i : Int)) ∧ (∀ i : Nat, i < 8 → S 281 (i : Int) = S0 8 (i : Int)) ∧ S 274 5 = S0 1 5 ∧ (∀ i : Nat, i < 12 → S 282 (i : Int) = S0 9 (i : Int)) ∧ (∀ i : Nat, i < 12 → S 283 (i : Int) = S0 10 (i : Int)) ∧ (∀ i : Nat, i < 12 → S 284 (i : Int) = S0 11 (i : Int)) ∧ S 274 10 = S0 1 10 ∧ (∀ i : Nat, i < 12 → S 286 (i : Int) = S0 13 (i : Int)) ∧ S 287 0 = S0 14 0 ∧ (∀ i : Nat, i < 12 → S 288 (i : Int) = S0 15 (i : Int)) ∧ (∀ i : Nat, i < 12 → S 289 (i : Int) = S0 16 (i : Int)) ∧ (∀ i : Nat, i < 12 → S 290 (i : Int) = S0 17 (i : Int)) ∧ (∀ i : Nat, i < 3 → S 292 (i : Int) = S0 19 (i : Int)) ∧ S 274 14 = S0 1 14 ∧ S 274 15 = S0 1 15 ∧ (∀ p i : Nat, p ∈ rxFl274 → i < bx_wd (rxL.1 p) → S p (i : Int) = S0 p (i : Int)) ∧ rkWt4 S0 S 296 23 6 12 i
noncomputable def rxmCZ274x1_26 (S0 : Nat → Int → Int) (ws : List Int) (S : Nat → Int → Int) (i rp rq : Int) : Nat := 980 + 10 * (20 - i).toNat - 2
noncomputable def rxzCZ274x1_26 : rx_Z := ([(0, 0), (0, 0), (0, 0), (0, 0), (0, 0), (0, 0), (0, 0), (0, 0), (0, 5), (0, 1522), (0, 1522)], [], [(((9, 0), 1000007), .inl none), (((10, 0), 1000007), .inl none)], 0, 0, 252, [(0, .inr (3, (0, 274))), (1, .inr (3, (0, 1))), (2, .inr (0, (8, 0)))], [.inr (3, (10, 0)), .inr (3, (9, 0))])
noncomputable def rxICZ274x1_27 (S0 : Nat → Int → Int) (ws : List Int) (S : Nat → Int → Int) (i rp rq : Int) : Prop := S 274 0 = S0 1 0 ∧ (∀ i : Nat, i < 6 → S 275 (i : Int) = S0 2 (i : Int)) ∧ (∀ i : Nat, i < 6 → S 276 (i : Int) = S0 3 (i : Int)) ∧ S 278 0 = S0 5 0 ∧ (∀ i : Nat, i < 8 → S 279 (i : Int) = S0 6 (i : Int)) ∧ (∀ i : Nat, i < 8 → S 280 (i : Int) = S0 7 (i : Int)) ∧ (∀ i : Nat, i < 8 → S 281 (i : Int) = S0 8 (i : Int)) ∧ S 274 5 = S0 1 5 ∧ (∀ i : Nat, i < 12 → S 282 (i : Int) = S0 9 (i : Int)) ∧ (∀ i : Nat, i < 12 → S 283 (i : Int) = S0 10 (i : Int)) ∧ (∀ i : Nat, i < 12 → S 284 (i : Int) = S0 11 (i : Int)) ∧ S 274 10 = S0 1 10 ∧ (∀ i : Nat, i < 12 → S 286 (i : Int) = S0 13 (i : Int)) ∧ S 287 0 = S0 14 0 ∧ (∀ i : Nat, i < 12 → S 288 (i : Int) = S0 15 (i : Int)) ∧ (∀ i : Nat, i < 12 → S 289 (i : Int) = S0 16 (i : Int)) ∧ (∀ i : Nat, i < 12 → S 290 (i : Int) = S0 17 (i : Int)) ∧ (∀ i : Nat, i < 3 → S 292 (i : Int) = S0 19 (i : Int)) ∧ S 274 14 = S0 1 14 ∧ S 274 15 = S0 1 15 ∧ (∀ p i : Nat, p ∈ rxFl274 → i < bx_wd (rxL.1 p) → S p (i : Int) = S0 p (i : Int)) ∧ rkWt4 S0 S 296 23 6 12 (i + 1)
noncomputable def rxmCZ274x1_27 (S0 : Nat → Int → Int) (ws : List Int) (S : Nat → Int → Int) (i rp rq : Int) : Nat := 980 + 10 * (20 - i).toNat - 4
noncomputable def rxzCZ274x1_27 : rx_Z := ([(0, 0), (0, 0), (0, 0), (0, 0), (0, 0), (0, 0), (0, 0), (0, 0), (0, 5), (0, 1522), (0, 1522)], [], [(((9, 0), 1000007), .inl none), (((10, 0), 1000007), .inl none)], 0, 0, 255, [(0, .inr (3, (0, 274))), (1, .inr (3, (0, 1))), (2, .inr (0, (8, 0)))], [])
noncomputable def rxoCZ274x1_0_0 : bx_HO := (([(0, 0), (0, 0), (0, 0), (0, 0), (0, 0), (0, 0), (0, 0), (0, 0), (0, 6)], [], [(((0, 274), 1), .inr (3, (0, 275))), (((0, 1), 1), .inr (3, (0, 2))), (((0, 0), 1851192626986356797424340330377019318111018015026043177714974723000000), .inr (0, (8, 0))), (((0, 274), 0), .inr (0, (8, 0))), (((0, 0), 1851192626986356797424340330377019318111018015026043177553952768000000), .inr (0, (8, 0)))], 0, 0, 20, [(0, .inr (3, (0, 274))), (1, .inr (3, (0, 1)))], [.inr (0, (0, 6)), .inr (0, (0, 0)), .inr (3, (0, 275)), .inr (0, (0, 0)), .inr (3, (0, 2))]), [], [], [(0, 0), (0, 0), (0, 0), (0, 0), (0, 0), (0, 0), (0, 0), (0, 0)], 1)
noncomputable def rxoCZ274x1_2_0 : bx_HO := (([(0, 0), (0, 0), (0, 0), (0, 0), (0, 0), (0, 0), (0, 0), (0, 0)], [], [(((0, 274), 2), .inr (3, (0, 276))), (((0, 1), 2), .inr (3, (0, 3)))], 0, 0, 35, [(0, .inr (3, (0, 274))), (1, .inr (3, (0, 1)))], [.inr (0, (0, 6)), .inr (0, (0, 0)), .inr (3, (0, 276)), .inr (0, (0, 0)), .inr (3, (0, 3))]), [], [], [(0, 0), (0, 0), (0, 0), (0, 0), (0, 0), (0, 0), (0, 0), (0, 0)], 3)
noncomputable def rxoCZ274x1_4_0 : bx_HO := (([(0, 0), (0, 0), (0, 0), (0, 0), (0, 0), (0, 0), (0, 0), (0, 0)], [], [], 0, 0, 40, [(2, .inr (0, (0, 0))), (0, .inr (3, (0, 274))), (1, .inr (3, (0, 1)))], []), [], [], [(0, 0), (0, 0), (0, 0), (0, 0), (0, 0), (0, 0), (0, 0), (0, 0), (0, 0)], 5)
noncomputable def rxoCZ274x1_5_0 : bx_HO := (([(0, 0), (0, 0), (0, 0), (0, 0), (0, 0), (0, 0), (0, 0), (0, 0), (0, 5), (0, 1522), (0, 1522)], [], [(((0, 0), 1851192626986356797424364830707437625680387377997778264866947072000000), .inr (3, (10, 0))), (((10, 0), 1000010), .inl none), (((0, 1), 3), .inr (3, (0, 4))), (((0, 0), 1851192626986356797424364830707437625680387377997778265027969024000000), .inr (3, (9, 0))), (((9, 0), 1000010), .inl none), (((0, 274), 3), .inr (3, (0, 277)))], 0, 0, 58, [(0, .inr (3, (0, 274))), (1, .inr (3, (0, 1))), (2, .inr (0, (8, 0)))], [.inr (3, (10, 0)), .inr (3, (9, 0))]), [], [], [(0, 0), (0, 0), (0, 0), (0, 0), (0, 0), (0, 0), (0, 0), (0, 0), (8, 0), (9, 0), (10, 0)], 6)
noncomputable def rxoCZ274x1_5_1 : bx_HO := (([(0, 0), (0, 0), (0, 0), (0, 0), (0, 0), (0, 0), (0, 0), (0, 0), (6, 6)], [], [(((0, 1), 4), .inr (3, (0, 5))), (((0, 274), 4), .inr (3, (0, 278)))], 0, 0, 75, [(0, .inr (3, (0, 274))), (1, .inr (3, (0, 1))), (2, .inr (0, (8, 0)))], [.inr (3, (0, 5)), .inr (3, (0, 278))]), [], [], [(0, 0), (0, 0), (0, 0), (0, 0), (0, 0), (0, 0), (0, 0), (0, 0)], 8)
noncomputable def rxoCZ274x1_7_0 : bx_HO := (([(0, 0), (0, 0), (0, 0), (0, 0), (0, 0), (0, 0), (0, 0), (0, 0), (0, 5), (0, 1522), (0, 1522)], [], [(((9, 0), 1000010), .inl none), (((10, 0), 1000010), .inl none)], 0, 0, 40, [(2, .inr (0, (8, 1))), (0, .inr (3, (0, 274))), (1, .inr (3, (0, 1)))], []), [], [], [(0, 0), (0, 0), (0, 0), (0, 0), (0, 0), (0, 0), (0, 0), (0, 0), (8, 1)], 5)
noncomputable def rxoCZ274x1_9_0 : bx_HO := (([(0, 0), (0, 0), (0, 0), (0, 0), (0, 0), (0, 0), (0, 0), (0, 0), (0, 12)], [], [(((0, 274), 6), .inr (3, (0, 282))), (((0, 1), 6), .inr (3, (0, 9))), (((0, 0), 1851192626986356798427873864310897359480125337295219445484093443000000), .inr (0, (8, 0))), (((0, 274), 5), .inr (0, (8, 0))), (((0, 0), 1851192626986356798427873864310897359480125337295219445323071488000000), .inr (0, (8, 0)))], 0, 0, 98, [(0, .inr (3, (0, 274))), (1, .inr (3, (0, 1))), (2, .inr (0, (0, 6)))], [.inr (0, (0, 12)), .inr (0, (0, 0)), .inr (3, (0, 282)), .inr (0, (0, 0)), .inr (3, (0, 9))]), [], [], [(0, 0), (0, 0), (0, 0), (0, 0), (0, 0), (0, 0), (0, 0), (0, 0)], 10)
noncomputable def rxoCZ274x1_11_0 : bx_HO := (([(0, 0), (0, 0), (0, 0), (0, 0), (0, 0), (0, 0), (0, 0), (0, 0)], [], [(((0, 274), 7), .inr (3, (0, 283))), (((0, 1), 7), .inr (3, (0, 10)))], 0, 0, 113, [(0, .inr (3, (0, 274))), (1, .inr (3, (0, 1))), (2, .inr (0, (0, 6)))], [.inr (0, (0, 12)), .inr (0, (0, 0)), .inr (3, (0, 283)), .inr (0, (0, 0)), .inr (3, (0, 10))]), [], [], [(0, 0), (0, 0), (0, 0), (0, 0), (0, 0), (0, 0), (0, 0), (0, 0)], 12)
noncomputable def rxoCZ274x1_13_0 : bx_HO := (([(0, 0), (0, 0), (0, 0), (0, 0), (0, 0), (0, 0), (0, 0), (0, 0)], [], [(((0, 274), 8), .inr (3, (0, 284))), (((0, 1), 8), .inr (3, (0, 11)))], 0, 0, 128, [(0, .inr (3, (0, 274))), (1, .inr (3, (0, 1))), (2, .inr (0, (0, 6)))], [.inr (0, (0, 12)), .inr (0, (0, 0)), .inr (3, (0, 284)), .inr (0, (0, 0)), .inr (3, (0, 11))]), [], [], [(0, 0), (0, 0), (0, 0), (0, 0), (0, 0), (0, 0), (0, 0), (0, 0)], 14)
noncomputable def rxoCZ274x1_15_0 : bx_HO := (([(0, 0), (0, 0), (0, 0), (0, 0), (0, 0), (0, 0), (0, 0), (0, 0)], [], [], 0, 0, 133, [(2, .inr (0, (0, 0))), (0, .inr (3, (0, 274))), (1, .inr (3, (0, 1)))], []), [], [], [(0, 0), (0, 0), (0, 0), (0, 0), (0, 0), (0, 0), (0, 0), (0, 0), (0, 0)], 16)
noncomputable def rxoCZ274x1_16_0 : bx_HO := (([(0, 0), (0, 0), (0, 0), (0, 0), (0, 0), (0, 0), (0, 0), (0, 0), (0, 11), (0, 1522), (0, 1522)], [], [(((0, 0), 1851192626986356797424364830707437625680387377997778264871665664000000), .inr (3, (10, 0))), (((10, 0), 1000010), .inl none), (((0, 1), 9), .inr (3, (0, 12))), (((0, 0), 1851192626986356797424364830707437625680387377997778265032687616000000), .inr (3, (9, 0))), (((9, 0), 1000010), .inl none), (((0, 274), 9), .inr (3, (0, 285)))], 0, 0, 151, [(0, .inr (3, (0, 274))), (1, .inr (3, (0, 1))), (2, .inr (0, (8, 0)))], [.inr (3, (10, 0)), .inr (3, (9, 0))]), [], [], [(0, 0), (0, 0), (0, 0), (0, 0), (0, 0), (0, 0), (0, 0), (0, 0), (8, 0), (9, 0), (10, 0)], 17)
noncomputable def rxoCZ274x1_16_1 : bx_HO := (([(0, 0), (0, 0), (0, 0), (0, 0), (0, 0), (0, 0), (0, 0), (0, 0), (12, 12), (0, 12)], [], [(((0, 274), 11), .inr (3, (0, 286))), (((0, 1), 11), .inr (3, (0, 13))), (((0, 0), 1851192626986356799431407398244775400849232659564395713253212163000000), .inr (0, (9, 0))), (((0, 274), 10), .inr (0, (9, 0))), (((0, 0), 1851192626986356799431407398244775400849232659564395713092190208000000), .inr (0, (9, 0)))], 0, 0, 180, [(0, .inr (3, (0, 274))), (1, .inr (3, (0, 1))), (2, .inr (0, (8, 0)))], [.inr (0, (0, 12)), .inr (0, (0, 0)), .inr (3, (0, 286)), .inr (0, (0, 0)), .inr (3, (0, 13))]), [], [], [(0, 0), (0, 0), (0, 0), (0, 0), (0, 0), (0, 0), (0, 0), (0, 0)], 19)
noncomputable def rxoCZ274x1_18_0 : bx_HO := (([(0, 0), (0, 0), (0, 0), (0, 0), (0, 0), (0, 0), (0, 0), (0, 0), (0, 11), (0, 1522), (0, 1522)], [], [(((9, 0), 1000010), .inl none), (((10, 0), 1000010), .inl none)], 0, 0, 133, [(2, .inr (0, (8, 1))), (0, .inr (3, (0, 274))), (1, .inr (3, (0, 1)))], []), [], [], [(0, 0), (0, 0), (0, 0), (0, 0), (0, 0), (0, 0), (0, 0), (0, 0), (8, 1)], 16)
noncomputable def rxoCZ274x1_20_0 : bx_HO := (([(0, 0), (0, 0), (0, 0), (0, 0), (0, 0), (0, 0), (0, 0), (0, 0)], [], [(((0, 1), 12), .inr (3, (0, 14))), (((0, 274), 12), .inr (3, (0, 287)))], 0, 0, 191, [(0, .inr (3, (0, 274))), (1, .inr (3, (0, 1))), (2, .inr (0, (0, 12)))], [.inr (3, (0, 14)), .inr (3, (0, 287))]), [], [], [(0, 0), (0, 0), (0, 0), (0, 0), (0, 0), (0, 0), (0, 0), (0, 0)], 21)
noncomputable def rxoCZ274x1_22_0 : bx_HO := (([(0, 0), (0, 0), (0, 0), (0, 0), (0, 0), (0, 0), (0, 0), (0, 0)], [], [(((0, 274), 13), .inr (3, (0, 292))), (((0, 1), 13), .inr (3, (0, 19)))], 0, 0, 205, [(0, .inr (3, (0, 274))), (1, .inr (3, (0, 1))), (2, .inr (0, (0, 12)))], [.inr (0, (0, 3)), .inr (0, (0, 0)), .inr (3, (0, 292)), .inr (0, (0, 0)), .inr (3, (0, 19))]), [], [], [(0, 0), (0, 0), (0, 0), (0, 0), (0, 0), (0, 0), (0, 0), (0, 0)], 23)
noncomputable def rxoCZ274x1_24_0 : bx_HO := (([(0, 0), (0, 0), (0, 0), (0, 0), (0, 0), (0, 0), (0, 0), (0, 0), (0, 6), ((-1), 5)], [], [(((0, 0), 1851192626986356800434940932178653442218339981833571981022330883000000), .inr (0, (9, 0))), (((0, 274), 15), .inr (0, (9, 0))), (((0, 0), 1851192626986356800434940932178653442218339981833571980861308928000000), .inr (0, (9, 0))), (((0, 0), 1851192626986356800234234225391877833944518517379736727468507139000000), .inr (0, (8, 0))), (((0, 274), 14), .inr (0, (8, 0))), (((0, 0), 1851192626986356800234234225391877833944518517379736727307485184000000), .inr (0, (8, 0)))], 0, 0, 226, [(2, .inr (0, (0, 0))), (0, .inr (3, (0, 274))), (1, .inr (3, (0, 1)))], []), [], [], [(0, 0), (0, 0), (0, 0), (0, 0), (0, 0), (0, 0), (0, 0), (0, 0), (0, 0)], 25)
noncomputable def rxoCZ274x1_25_0 : bx_HO := (([(0, 0), (0, 0), (0, 0), (0, 0), (0, 0), (0, 0), (0, 0), (0, 0), (0, 5), (1, 6), (0, 1522), (0, 1522)], [(0, (8, 0), (9, 0))], [(((0, 0), 1851192626986356797424364830707437625680387377997778264876384256000000), .inr (3, (11, 0))), (((11, 0), 1000007), .inl none), (((0, 1), 16), .inr (3, (0, 20))), (((0, 0), 1851192626986356797424364830707437625680387377997778265037406208000000), .inr (3, (10, 0))), (((10, 0), 1000007), .inl none), (((0, 274), 16), .inr (3, (0, 293))), (((0, 0), 1851192626986356800234234225391877833944518517379736727468507136000000), .inr (0, (9, 0))), (((0, 274), 14), .inr (0, (9, 0)))], 0, 0, 252, [(0, .inr (3, (0, 274))), (1, .inr (3, (0, 1))), (2, .inr (0, (8, 0)))], [.inr (3, (11, 0)), .inr (3, (10, 0))]), [], [], [(0, 0), (0, 0), (0, 0), (0, 0), (0, 0), (0, 0), (0, 0), (0, 0), (8, 0), (10, 0), (11, 0)], 26)
noncomputable def rxeCZ274x1_25_0 : rx_End × List (Nat × Int × Int) := (([(0, 0), (0, 0), (0, 0), (0, 0), (0, 0), (0, 0), (0, 0), (0, 0), (0, 6), (0, 6)], [(1, (9, 0), (8, 0))], [(((0, 0), 1851192626986356800234234225391877833944518517379736727468507136000000), .inr (0, (9, 0))), (((0, 274), 14), .inr (0, (9, 0)))], none), [])
noncomputable def rxoCZ274x1_27_0 : bx_HO := (([(0, 0), (0, 0), (0, 0), (0, 0), (0, 0), (0, 0), (0, 0), (0, 0), (0, 5), (0, 1522), (0, 1522)], [], [(((9, 0), 1000007), .inl none), (((10, 0), 1000007), .inl none)], 0, 0, 226, [(2, .inr (0, (8, 1))), (0, .inr (3, (0, 274))), (1, .inr (3, (0, 1)))], []), [], [], [(0, 0), (0, 0), (0, 0), (0, 0), (0, 0), (0, 0), (0, 0), (0, 0), (8, 1)], 25)
noncomputable def rxYCZ274x1 : List bx_HE := [(rxzCZ274x1_0, [rxoCZ274x1_0_0], []), (rxzCZ274x1_1, [], []), (rxzCZ274x1_2, [rxoCZ274x1_2_0], []), (rxzCZ274x1_3, [], []), (rxzCZ274x1_4, [rxoCZ274x1_4_0], []), (rxzCZ274x1_5, [rxoCZ274x1_5_0, rxoCZ274x1_5_1], []), (rxzCZ274x1_6, [], []), (rxzCZ274x1_7, [rxoCZ274x1_7_0], []), (rxzCZ274x1_8, [], []), (rxzCZ274x1_9, [rxoCZ274x1_9_0], []), (rxzCZ274x1_10, [], []), (rxzCZ274x1_11, [rxoCZ274x1_11_0], []), (rxzCZ274x1_12, [], []), (rxzCZ274x1_13, [rxoCZ274x1_13_0], []), (rxzCZ274x1_14, [], []), (rxzCZ274x1_15, [rxoCZ274x1_15_0], []), (rxzCZ274x1_16, [rxoCZ274x1_16_0, rxoCZ274x1_16_1], []), (rxzCZ274x1_17, [], []), (rxzCZ274x1_18, [rxoCZ274x1_18_0], []), (rxzCZ274x1_19, [], []), (rxzCZ274x1_20, [rxoCZ274x1_20_0], []), (rxzCZ274x1_21, [], []), (rxzCZ274x1_22, [rxoCZ274x1_22_0], []), (rxzCZ274x1_23, [], []), (rxzCZ274x1_24, [rxoCZ274x1_24_0], []), (rxzCZ274x1_25, [rxoCZ274x1_25_0], [rxeCZ274x1_25_0]), (rxzCZ274x1_26, [], []), (rxzCZ274x1_27, [rxoCZ274x1_27_0], [])]
noncomputable def rxUCZ274x1 (q : bx_HE) : Bool := Nat.beq (rx_zpc q.1) 20 || Nat.beq (rx_zpc q.1) 35 || Nat.beq (rx_zpc q.1) 58 || Nat.beq (rx_zpc q.1) 75 || Nat.beq (rx_zpc q.1) 98 || Nat.beq (rx_zpc q.1) 113 || Nat.beq (rx_zpc q.1) 128 || Nat.beq (rx_zpc q.1) 151 || Nat.beq (rx_zpc q.1) 180 || Nat.beq (rx_zpc q.1) 191 || Nat.beq (rx_zpc q.1) 205 || Nat.beq (rx_zpc q.1) 252
noncomputable def rxYBCZ274x1 : bx_B := (rxV, rxNP, rxDmf, bx_mdH rxCCZ274x1.2.2.1)
set_option maxRecDepth 100000 in
theorem rxYcCZ274x1 : bx_chkH rxYBCZ274x1 rxM154 rxCCZ274x1 rxYCZ274x1 (rxUCZ274x1, fun cut z => rx_ex2 (rxCT rxYBCZ274x1 rxCnE) cut 30000 rxCCZ274x1.2.2.2.1 154 z) = true := by decide +kernel
noncomputable def rxICZ274x1 (S0 : Nat → Int → Int) (ws : List Int) (i : Nat) : bx_SP := fun S r => match i with | 0 => rxICZ274x1_0 S0 ws S | 1 => rxICZ274x1_1 S0 ws S | 2 => rxICZ274x1_2 S0 ws S | 3 => rxICZ274x1_3 S0 ws S | 4 => rxICZ274x1_4 S0 ws S | 5 => rxICZ274x1_5 S0 ws S (r 8) | 6 => rxICZ274x1_6 S0 ws S (r 8) (r 9) (r 10) | 7 => rxICZ274x1_7 S0 ws S (r 8) (r 9) (r 10) | 8 => rxICZ274x1_8 S0 ws S | 9 => rxICZ274x1_9 S0 ws S | 10 => rxICZ274x1_10 S0 ws S | 11 => rxICZ274x1_11 S0 ws S | 12 => rxICZ274x1_12 S0 ws S | 13 => rxICZ274x1_13 S0 ws S | 14 => rxICZ274x1_14 S0 ws S | 15 => rxICZ274x1_15 S0 ws S | 16 => rxICZ274x1_16 S0 ws S (r 8) | 17 => rxICZ274x1_17 S0 ws S (r 8) (r 9) (r 10) | 18 => rxICZ274x1_18 S0 ws S (r 8) (r 9) (r 10) | 19 => rxICZ274x1_19 S0 ws S | 20 => rxICZ274x1_20 S0 ws S | 21 => rxICZ274x1_21 S0 ws S | 22 => rxICZ274x1_22 S0 ws S | 23 => rxICZ274x1_23 S0 ws S | 24 => rxICZ274x1_24 S0 ws S | 25 => rxICZ274x1_25 S0 ws S (r 8) | 26 => rxICZ274x1_26 S0 ws S (r 8) (r 9) (r 10) | 27 => rxICZ274x1_27 S0 ws S (r 8) (r 9) (r 10) | _ => False
noncomputable def rxmCZ274x1 (S0 : Nat → Int → Int) (ws : List Int) (i : Nat) (S : Nat → Int → Int) (r : Nat → Int) : Nat := match i with | 0 => rxmCZ274x1_0 S0 ws S | 1 => rxmCZ274x1_1 S0 ws S | 2 => rxmCZ274x1_2 S0 ws S | 3 => rxmCZ274x1_3 S0 ws S | 4 => rxmCZ274x1_4 S0 ws S | 5 => rxmCZ274x1_5 S0 ws S (r 8) | 6 => rxmCZ274x1_6 S0 ws S (r 8) (r 9) (r 10) | 7 => rxmCZ274x1_7 S0 ws S (r 8) (r 9) (r 10) | 8 => rxmCZ274x1_8 S0 ws S | 9 => rxmCZ274x1_9 S0 ws S | 10 => rxmCZ274x1_10 S0 ws S | 11 => rxmCZ274x1_11 S0 ws S | 12 => rxmCZ274x1_12 S0 ws S | 13 => rxmCZ274x1_13 S0 ws S | 14 => rxmCZ274x1_14 S0 ws S | 15 => rxmCZ274x1_15 S0 ws S | 16 => rxmCZ274x1_16 S0 ws S (r 8) | 17 => rxmCZ274x1_17 S0 ws S (r 8) (r 9) (r 10) | 18 => rxmCZ274x1_18 S0 ws S (r 8) (r 9) (r 10) | 19 => rxmCZ274x1_19 S0 ws S | 20 => rxmCZ274x1_20 S0 ws S | 21 => rxmCZ274x1_21 S0 ws S | 22 => rxmCZ274x1_22 S0 ws S | 23 => rxmCZ274x1_23 S0 ws S | 24 => rxmCZ274x1_24 S0 ws S | 25 => rxmCZ274x1_25 S0 ws S (r 8) | 26 => rxmCZ274x1_26 S0 ws S (r 8) (r 9) (r 10) | 27 => rxmCZ274x1_27 S0 ws S (r 8) (r 9) (r 10) | _ => 0
noncomputable def rxPCZ274x1 (S0 : Nat → Int → Int) (ws : List Int) : Prop := rkPl S0
noncomputable def rxPSCZ274x1 (S0 : Nat → Int → Int) (ws : List Int) (S : Nat → Int → Int) (w : Option Int) : Prop := w = none ∧ S 274 0 = S0 1 0 ∧ (∀ i : Nat, i < 6 → S 275 (i : Int) = S0 2 (i : Int)) ∧ (∀ i : Nat, i < 6 → S 276 (i : Int) = S0 3 (i : Int)) ∧ S 278 0 = S0 5 0 ∧ (∀ i : Nat, i < 8 → S 279 (i : Int) = S0 6 (i : Int)) ∧ (∀ i : Nat, i < 8 → S 280 (i : Int) = S0 7 (i : Int)) ∧ (∀ i : Nat, i < 8 → S 281 (i : Int) = S0 8 (i : Int)) ∧ S 274 5 = S0 1 5 ∧ (∀ i : Nat, i < 12 → S 282 (i : Int) = S0 9 (i : Int)) ∧ (∀ i : Nat, i < 12 → S 283 (i : Int) = S0 10 (i : Int)) ∧ (∀ i : Nat, i < 12 → S 284 (i : Int) = S0 11 (i : Int)) ∧ S 274 10 = S0 1 10 ∧ (∀ i : Nat, i < 12 → S 286 (i : Int) = S0 13 (i : Int)) ∧ S 287 0 = S0 14 0 ∧ (∀ i : Nat, i < 12 → S 288 (i : Int) = S0 15 (i : Int)) ∧ (∀ i : Nat, i < 12 → S 289 (i : Int) = S0 16 (i : Int)) ∧ (∀ i : Nat, i < 12 → S 290 (i : Int) = S0 17 (i : Int)) ∧ (∀ i : Nat, i < 3 → S 292 (i : Int) = S0 19 (i : Int)) ∧ S 274 14 = S0 1 14 ∧ S 274 15 = S0 1 15 ∧ (∀ p i : Nat, p ∈ rxFl274 → i < bx_wd (rxL.1 p) → S p (i : Int) = S0 p (i : Int)) ∧ rkWt4 S0 S 296 23 6 12 (S0 1 14)
theorem rxtCZ274x1_1 {S0 : Nat → Int → Int} {ws : List Int} {S : Nat → Int → Int} (hP : rxPCZ274x1 S0 ws) (hin : bx_same rxL (bx_mdl rxCCZ274x1.2.2.1) S0 S) (I0 : bx_Inv rxL S) (hinv : rxICZ274x1_1 S0 ws S)  : rxICZ274x1_2 S0 ws (bx_cpS S 2 275 6) ∧ rxmCZ274x1_2 S0 ws (bx_cpS S 2 275 6) < rxmCZ274x1_1 S0 ws S := by
  obtain ⟨h0, hf, hW⟩ := hinv
  refine ⟨⟨?_, ?_, ?_, ?_⟩, by unfold rxmCZ274x1_1 rxmCZ274x1_2; omega⟩
  · exact (bx_cpS_ne (by decide)).trans h0
  · exact fun i hi => (bx_cpS_in (by omega) (by omega)).trans (hf 2 i (by decide) (show i < 6 from hi))
  · exact fun p i hp hi => (bx_cpS_ne (fun e => by subst e; revert hp; decide)).trans (hf p i hp hi)
  · exact rkWt4_ne (by unfold rkTb; omega) hW (fun p j hp => by have hp : (23 ≤ p ∧ p < 137) ∨ (160 ≤ p ∧ p < 274) ∨ (296 ≤ p ∧ p < 410) := hp; exact bx_cpS_ne (by omega))
theorem rxsCZ274x1_1 {X : (Nat → Int → Int) → Prop} {S0 : Nat → Int → Int} {ws : List Int} (hP : rxPCZ274x1 S0 ws) (hX : ∀ S S1 : Nat → Int → Int, X S → bx_same rxL (bx_mdl rxCCZ274x1.2.2.1) S S1 → X S1) : rx_obY X S0 rxCCZ274x1.2.2.1 (rxICZ274x1 S0 ws) (rxmCZ274x1 S0 ws) 1 2 rxzCZ274x1_1 2 275 6 := by
  intro S r hinv hXS I0 hin hs_ hf_
  have b_ := bx_bds_sat hs_
  have f_ := bx_fcl_ok hs_.1 hf_
  have g := rxtCZ274x1_1 hP hin I0 hinv 
  exact ⟨g.1, g.2, hX _ _ hXS (rx_same_cp (fun _ _ _ _ _ => rfl) (g1 := 0) rfl (by decide +kernel)), rx_same_cp hin (g1 := 0) rfl (by decide +kernel)⟩
theorem rxtCZ274x1_3 {S0 : Nat → Int → Int} {ws : List Int} {S : Nat → Int → Int} (hP : rxPCZ274x1 S0 ws) (hin : bx_same rxL (bx_mdl rxCCZ274x1.2.2.1) S0 S) (I0 : bx_Inv rxL S) (hinv : rxICZ274x1_3 S0 ws S)  : rxICZ274x1_4 S0 ws (bx_cpS S 3 276 6) ∧ rxmCZ274x1_4 S0 ws (bx_cpS S 3 276 6) < rxmCZ274x1_3 S0 ws S := by
  obtain ⟨h0, h1, hf, hW⟩ := hinv
  refine ⟨⟨?_, ?_, ?_, ?_, ?_⟩, by unfold rxmCZ274x1_3 rxmCZ274x1_4; omega⟩
  · exact (bx_cpS_ne (by decide)).trans h0
  · exact fun i hi => (bx_cpS_ne (by decide)).trans (h1 i hi)
  · exact fun i hi => (bx_cpS_in (by omega) (by omega)).trans (hf 3 i (by decide) (show i < 6 from hi))
  · exact fun p i hp hi => (bx_cpS_ne (fun e => by subst e; revert hp; decide)).trans (hf p i hp hi)
  · exact rkWt4_ne (by unfold rkTb; omega) hW (fun p j hp => by have hp : (23 ≤ p ∧ p < 137) ∨ (160 ≤ p ∧ p < 274) ∨ (296 ≤ p ∧ p < 410) := hp; exact bx_cpS_ne (by omega))
theorem rxsCZ274x1_3 {X : (Nat → Int → Int) → Prop} {S0 : Nat → Int → Int} {ws : List Int} (hP : rxPCZ274x1 S0 ws) (hX : ∀ S S1 : Nat → Int → Int, X S → bx_same rxL (bx_mdl rxCCZ274x1.2.2.1) S S1 → X S1) : rx_obY X S0 rxCCZ274x1.2.2.1 (rxICZ274x1 S0 ws) (rxmCZ274x1 S0 ws) 3 4 rxzCZ274x1_3 3 276 6 := by
  intro S r hinv hXS I0 hin hs_ hf_
  have b_ := bx_bds_sat hs_
  have f_ := bx_fcl_ok hs_.1 hf_
  have g := rxtCZ274x1_3 hP hin I0 hinv 
  exact ⟨g.1, g.2, hX _ _ hXS (rx_same_cp (fun _ _ _ _ _ => rfl) (g1 := 1) rfl (by decide +kernel)), rx_same_cp hin (g1 := 1) rfl (by decide +kernel)⟩
theorem rxkCZ274x1_6 {S0 : Nat → Int → Int} {ws : List Int} {S : Nat → Int → Int} {i rp rq : Int} (hP : rxPCZ274x1 S0 ws) (hin : bx_same rxL (bx_mdl rxCCZ274x1.2.2.1) S0 S) (I0 : bx_Inv rxL S) (hinv : rxICZ274x1_6 S0 ws S i rp rq) (l8 : 0 ≤ i) (u8 : i ≤ 5) (l9 : 0 ≤ rp) (u9 : rp ≤ 1522) (l10 : 0 ≤ rq) (u10 : rq ≤ 1522) : rxPSCZ S [rp, rq] ∧ ∀ (S_p : Nat → Int → Int), rxPSSCZ S [rp, rq] S_p none → bx_Inv rxL S_p → bx_same rxL (bx_mdl rxCSCZ.2.2.1) S S_p → rxICZ274x1_7 S0 ws S_p i rp rq ∧ rxmCZ274x1_7 S0 ws S_p i rp rq < rxmCZ274x1_6 S0 ws S i rp rq := by
  obtain ⟨hrp, hrq, h0, h1, h2, hf, hW⟩ := hinv
  have hpl := rkPl_sm hin (by decide +kernel) hP
  have gb := (hpl.2.2.2.1 i.toNat (by omega)).2
  have gs := (hpl.2.1.1 i.toNat (by omega)).2
  refine ⟨⟨296 + 3 * i.toNat, 23 + 3 * i.toNat, by rw [hrp, hrq], ⟨(by
      have g := rkSg_t (tb := 296) (k := i.toNat) (by unfold rkTb; omega) (by omega)
      rw [show 296 + 3 * (i.toNat) = 296 + 3 * i.toNat by omega] at g
      exact g), (by
      have g := rkSg_t (tb := 23) (k := i.toNat) (by unfold rkTb; omega) (by omega)
      rw [show 23 + 3 * (i.toNat) = 23 + 3 * i.toNat by omega] at g
      exact g), by omega⟩, gs, gb⟩, fun S_p hq _ hsm => ?_⟩
  have q := hq.2 (296 + 3 * i.toNat) (23 + 3 * i.toNat) (by rw [hrp, hrq])
  have e : ∀ (p : Nat) (j : Int), ¬ rkRgn p → S_p p j = S p j := rkSc_o q (tb := 296) (by unfold rkTb; omega) (by omega) (by omega)
  refine ⟨⟨(e _ _ (by unfold rkRgn; omega)).trans h0, fun n hn => (e _ _ (by unfold rkRgn; omega)).trans (h1 n hn), fun n hn => (e _ _ (by unfold rkRgn; omega)).trans (h2 n hn), fun p n hp hi => (e p n (rkNum_n (rxFl274_in p hp))).trans (hf p n hp hi), ?_⟩, by unfold rxmCZ274x1_6 rxmCZ274x1_7; omega⟩
  have ei : ((i.toNat : Nat) : Int) = i := Int.toNat_of_nonneg (by omega)
  have hW_p : rkWt4 S0 S 296 23 ((i.toNat : Nat) : Int) 0 0 := by rw [ei]; exact hW
  have g := rkWt4_a (by unfold rkTb; omega) (by unfold rkTb; omega) (by decide) (by omega) hW_p q
  rw [ei] at g
  exact g
theorem rxsCZ274x1_6 {X : (Nat → Int → Int) → Prop} {S0 : Nat → Int → Int} {ws : List Int} (hP : rxPCZ274x1 S0 ws) : rx_obK X S0 rxCCZ274x1.2.2.1 rxCSCZ.2.2.1 (rxICZ274x1 S0 ws) (rxmCZ274x1 S0 ws) 6 7 rxzCZ274x1_6 rxzCZ274x1_7 [.inr (3, (9, 0)), .inr (3, (10, 0))] none rxPSCZ rxPSSCZ := by
  intro S r hinv hXS I0 hin hs_ hf_
  have b_ := bx_bds_sat hs_
  have f_ := bx_fcl_ok hs_.1 hf_
  obtain ⟨⟨l8, u8⟩, ⟨l9, u9⟩, ⟨l10, u10⟩, -⟩ := b_
  have g := rxkCZ274x1_6 hP hin I0 hinv l8 u8 l9 u9 l10 u10
  have ea : List.map (bx_num r) [.inr (3, (9, 0)), .inr (3, (10, 0))] = [(r 9), (r 10)] := by
    simp only [List.map_cons, List.map_nil, bx_xv_ok hs_.1]
    rfl
  rw [ea]
  refine ⟨g.1, fun S_p w r_p hPS hX_p I1 hsm hr hw hs_p => ?_⟩
  have hw : w = none := hPS.1
  subst hw
  have g2 := g.2 S_p hPS I1 hsm
  show rxICZ274x1_7 S0 ws S_p (r_p 8) (r_p 9) (r_p 10) ∧ rxmCZ274x1_7 S0 ws S_p (r_p 8) (r_p 9) (r_p 10) < _
  rw [hr 8 (by decide), hr 9 (by decide), hr 10 (by decide)]
  exact g2
theorem rxkCZ274x1_8 {S0 : Nat → Int → Int} {ws : List Int} {S : Nat → Int → Int} (hP : rxPCZ274x1 S0 ws) (hin : bx_same rxL (bx_mdl rxCCZ274x1.2.2.1) S0 S) (I0 : bx_Inv rxL S) (hinv : rxICZ274x1_8 S0 ws S)  : rxPPC278x5 S [278, 5] ∧ ∀ (S_p : Nat → Int → Int), rxPSPC278x5 S [278, 5] S_p none → bx_Inv rxL S_p → bx_same rxL (bx_mdl rxCPC278x5.2.2.1) S S_p → rxICZ274x1_9 S0 ws S_p ∧ rxmCZ274x1_9 S0 ws S_p < rxmCZ274x1_8 S0 ws S := by
  obtain ⟨h0, h1, h2, hf, hW⟩ := hinv
  refine ⟨trivial, fun S_p hq _ hsm => ⟨⟨?_, ?_, ?_, ?_, ?_, ?_, ?_, ?_, ?_⟩, by unfold rxmCZ274x1_8 rxmCZ274x1_9; omega⟩⟩
  all_goals obtain ⟨-, q0, q1, q2, q3, qf⟩ := hq
  · exact (qf _ _ (by decide) (by decide) (by decide) (by decide)).trans h0
  · exact fun i hi => (qf _ _ (by decide) (by decide) (by decide) (by decide)).trans (h1 i hi)
  · exact fun i hi => (qf _ _ (by decide) (by decide) (by decide) (by decide)).trans (h2 i hi)
  · exact q0.trans (hf 5 0 (by decide) (by decide))
  · exact fun i hi => (q1 i (by omega) (by omega)).trans (hf 6 i (by decide) (show i < 8 from hi))
  · exact fun i hi => (q2 i (by omega) (by omega)).trans (hf 7 i (by decide) (show i < 8 from hi))
  · exact fun i hi => (q3 i (by omega) (by omega)).trans (hf 8 i (by decide) (show i < 8 from hi))
  · exact fun p i hp hi => (qf p i (fun e => by subst e; revert hp; decide) (fun e => by subst e; revert hp; decide) (fun e => by subst e; revert hp; decide) (fun e => by subst e; revert hp; decide)).trans (hf p i hp hi)
  · exact rkWt4_ne (by unfold rkTb; omega) hW (fun p j hp => by have hp : (23 ≤ p ∧ p < 137) ∨ (160 ≤ p ∧ p < 274) ∨ (296 ≤ p ∧ p < 410) := hp; exact qf p j (by omega) (by omega) (by omega) (by omega))
theorem rxsCZ274x1_8 {X : (Nat → Int → Int) → Prop} {S0 : Nat → Int → Int} {ws : List Int} (hP : rxPCZ274x1 S0 ws) : rx_obK X S0 rxCCZ274x1.2.2.1 rxCPC278x5.2.2.1 (rxICZ274x1 S0 ws) (rxmCZ274x1 S0 ws) 8 9 rxzCZ274x1_8 rxzCZ274x1_9 [.inr (3, (0, 278)), .inr (3, (0, 5))] none rxPPC278x5 rxPSPC278x5 := by
  intro S r hinv hXS I0 hin hs_ hf_
  have b_ := bx_bds_sat hs_
  have f_ := bx_fcl_ok hs_.1 hf_
  have g := rxkCZ274x1_8 hP hin I0 hinv 
  have ea : List.map (bx_num r) [.inr (3, (0, 278)), .inr (3, (0, 5))] = [278, 5] := by
    simp only [List.map_cons, List.map_nil, bx_xv_ok hs_.1]
    rfl
  rw [ea]
  refine ⟨g.1, fun S_p w r_p hPS hX_p I1 hsm hr hw hs_p => ?_⟩
  have hw : w = none := hPS.1
  subst hw
  have g2 := g.2 S_p hPS I1 hsm
  show rxICZ274x1_9 S0 ws S_p ∧ rxmCZ274x1_9 S0 ws S_p < _
  exact g2
theorem rxtCZ274x1_10 {S0 : Nat → Int → Int} {ws : List Int} {S : Nat → Int → Int} (hP : rxPCZ274x1 S0 ws) (hin : bx_same rxL (bx_mdl rxCCZ274x1.2.2.1) S0 S) (I0 : bx_Inv rxL S) (hinv : rxICZ274x1_10 S0 ws S)  : rxICZ274x1_11 S0 ws (bx_cpS S 9 282 12) ∧ rxmCZ274x1_11 S0 ws (bx_cpS S 9 282 12) < rxmCZ274x1_10 S0 ws S := by
  obtain ⟨h0, h1, h2, h3, h4, h5, h6, h7, hf, hW⟩ := hinv
  refine ⟨⟨?_, ?_, ?_, ?_, ?_, ?_, ?_, ?_, ?_, ?_, ?_⟩, by unfold rxmCZ274x1_10 rxmCZ274x1_11; omega⟩
  · exact (bx_cpS_ne (by decide)).trans h0
  · exact fun i hi => (bx_cpS_ne (by decide)).trans (h1 i hi)
  · exact fun i hi => (bx_cpS_ne (by decide)).trans (h2 i hi)
  · exact (bx_cpS_ne (by decide)).trans h3
  · exact fun i hi => (bx_cpS_ne (by decide)).trans (h4 i hi)
  · exact fun i hi => (bx_cpS_ne (by decide)).trans (h5 i hi)
  · exact fun i hi => (bx_cpS_ne (by decide)).trans (h6 i hi)
  · exact (bx_cpS_ne (by decide)).trans h7
  · exact fun i hi => (bx_cpS_in (by omega) (by omega)).trans (hf 9 i (by decide) (show i < 12 from hi))
  · exact fun p i hp hi => (bx_cpS_ne (fun e => by subst e; revert hp; decide)).trans (hf p i hp hi)
  · exact rkWt4_ne (by unfold rkTb; omega) hW (fun p j hp => by have hp : (23 ≤ p ∧ p < 137) ∨ (160 ≤ p ∧ p < 274) ∨ (296 ≤ p ∧ p < 410) := hp; exact bx_cpS_ne (by omega))
theorem rxsCZ274x1_10 {X : (Nat → Int → Int) → Prop} {S0 : Nat → Int → Int} {ws : List Int} (hP : rxPCZ274x1 S0 ws) (hX : ∀ S S1 : Nat → Int → Int, X S → bx_same rxL (bx_mdl rxCCZ274x1.2.2.1) S S1 → X S1) : rx_obY X S0 rxCCZ274x1.2.2.1 (rxICZ274x1 S0 ws) (rxmCZ274x1 S0 ws) 10 11 rxzCZ274x1_10 9 282 12 := by
  intro S r hinv hXS I0 hin hs_ hf_
  have b_ := bx_bds_sat hs_
  have f_ := bx_fcl_ok hs_.1 hf_
  have g := rxtCZ274x1_10 hP hin I0 hinv 
  exact ⟨g.1, g.2, hX _ _ hXS (rx_same_cp (fun _ _ _ _ _ => rfl) (g1 := 6) rfl (by decide +kernel)), rx_same_cp hin (g1 := 6) rfl (by decide +kernel)⟩
theorem rxtCZ274x1_12 {S0 : Nat → Int → Int} {ws : List Int} {S : Nat → Int → Int} (hP : rxPCZ274x1 S0 ws) (hin : bx_same rxL (bx_mdl rxCCZ274x1.2.2.1) S0 S) (I0 : bx_Inv rxL S) (hinv : rxICZ274x1_12 S0 ws S)  : rxICZ274x1_13 S0 ws (bx_cpS S 10 283 12) ∧ rxmCZ274x1_13 S0 ws (bx_cpS S 10 283 12) < rxmCZ274x1_12 S0 ws S := by
  obtain ⟨h0, h1, h2, h3, h4, h5, h6, h7, h8, hf, hW⟩ := hinv
  refine ⟨⟨?_, ?_, ?_, ?_, ?_, ?_, ?_, ?_, ?_, ?_, ?_, ?_⟩, by unfold rxmCZ274x1_12 rxmCZ274x1_13; omega⟩
  · exact (bx_cpS_ne (by decide)).trans h0
  · exact fun i hi => (bx_cpS_ne (by decide)).trans (h1 i hi)
  · exact fun i hi => (bx_cpS_ne (by decide)).trans (h2 i hi)
  · exact (bx_cpS_ne (by decide)).trans h3
  · exact fun i hi => (bx_cpS_ne (by decide)).trans (h4 i hi)
  · exact fun i hi => (bx_cpS_ne (by decide)).trans (h5 i hi)
  · exact fun i hi => (bx_cpS_ne (by decide)).trans (h6 i hi)
  · exact (bx_cpS_ne (by decide)).trans h7
  · exact fun i hi => (bx_cpS_ne (by decide)).trans (h8 i hi)
  · exact fun i hi => (bx_cpS_in (by omega) (by omega)).trans (hf 10 i (by decide) (show i < 12 from hi))
  · exact fun p i hp hi => (bx_cpS_ne (fun e => by subst e; revert hp; decide)).trans (hf p i hp hi)
  · exact rkWt4_ne (by unfold rkTb; omega) hW (fun p j hp => by have hp : (23 ≤ p ∧ p < 137) ∨ (160 ≤ p ∧ p < 274) ∨ (296 ≤ p ∧ p < 410) := hp; exact bx_cpS_ne (by omega))
theorem rxsCZ274x1_12 {X : (Nat → Int → Int) → Prop} {S0 : Nat → Int → Int} {ws : List Int} (hP : rxPCZ274x1 S0 ws) (hX : ∀ S S1 : Nat → Int → Int, X S → bx_same rxL (bx_mdl rxCCZ274x1.2.2.1) S S1 → X S1) : rx_obY X S0 rxCCZ274x1.2.2.1 (rxICZ274x1 S0 ws) (rxmCZ274x1 S0 ws) 12 13 rxzCZ274x1_12 10 283 12 := by
  intro S r hinv hXS I0 hin hs_ hf_
  have b_ := bx_bds_sat hs_
  have f_ := bx_fcl_ok hs_.1 hf_
  have g := rxtCZ274x1_12 hP hin I0 hinv 
  exact ⟨g.1, g.2, hX _ _ hXS (rx_same_cp (fun _ _ _ _ _ => rfl) (g1 := 7) rfl (by decide +kernel)), rx_same_cp hin (g1 := 7) rfl (by decide +kernel)⟩
theorem rxtCZ274x1_14 {S0 : Nat → Int → Int} {ws : List Int} {S : Nat → Int → Int} (hP : rxPCZ274x1 S0 ws) (hin : bx_same rxL (bx_mdl rxCCZ274x1.2.2.1) S0 S) (I0 : bx_Inv rxL S) (hinv : rxICZ274x1_14 S0 ws S)  : rxICZ274x1_15 S0 ws (bx_cpS S 11 284 12) ∧ rxmCZ274x1_15 S0 ws (bx_cpS S 11 284 12) < rxmCZ274x1_14 S0 ws S := by
  obtain ⟨h0, h1, h2, h3, h4, h5, h6, h7, h8, h9, hf, hW⟩ := hinv
  refine ⟨⟨?_, ?_, ?_, ?_, ?_, ?_, ?_, ?_, ?_, ?_, ?_, ?_, ?_⟩, by unfold rxmCZ274x1_14 rxmCZ274x1_15; omega⟩
  · exact (bx_cpS_ne (by decide)).trans h0
  · exact fun i hi => (bx_cpS_ne (by decide)).trans (h1 i hi)
  · exact fun i hi => (bx_cpS_ne (by decide)).trans (h2 i hi)
  · exact (bx_cpS_ne (by decide)).trans h3
  · exact fun i hi => (bx_cpS_ne (by decide)).trans (h4 i hi)
  · exact fun i hi => (bx_cpS_ne (by decide)).trans (h5 i hi)
  · exact fun i hi => (bx_cpS_ne (by decide)).trans (h6 i hi)
  · exact (bx_cpS_ne (by decide)).trans h7
  · exact fun i hi => (bx_cpS_ne (by decide)).trans (h8 i hi)
  · exact fun i hi => (bx_cpS_ne (by decide)).trans (h9 i hi)
  · exact fun i hi => (bx_cpS_in (by omega) (by omega)).trans (hf 11 i (by decide) (show i < 12 from hi))
  · exact fun p i hp hi => (bx_cpS_ne (fun e => by subst e; revert hp; decide)).trans (hf p i hp hi)
  · exact rkWt4_ne (by unfold rkTb; omega) hW (fun p j hp => by have hp : (23 ≤ p ∧ p < 137) ∨ (160 ≤ p ∧ p < 274) ∨ (296 ≤ p ∧ p < 410) := hp; exact bx_cpS_ne (by omega))
theorem rxsCZ274x1_14 {X : (Nat → Int → Int) → Prop} {S0 : Nat → Int → Int} {ws : List Int} (hP : rxPCZ274x1 S0 ws) (hX : ∀ S S1 : Nat → Int → Int, X S → bx_same rxL (bx_mdl rxCCZ274x1.2.2.1) S S1 → X S1) : rx_obY X S0 rxCCZ274x1.2.2.1 (rxICZ274x1 S0 ws) (rxmCZ274x1 S0 ws) 14 15 rxzCZ274x1_14 11 284 12 := by
  intro S r hinv hXS I0 hin hs_ hf_
  have b_ := bx_bds_sat hs_
  have f_ := bx_fcl_ok hs_.1 hf_
  have g := rxtCZ274x1_14 hP hin I0 hinv 
  exact ⟨g.1, g.2, hX _ _ hXS (rx_same_cp (fun _ _ _ _ _ => rfl) (g1 := 8) rfl (by decide +kernel)), rx_same_cp hin (g1 := 8) rfl (by decide +kernel)⟩
theorem rxkCZ274x1_17 {S0 : Nat → Int → Int} {ws : List Int} {S : Nat → Int → Int} {i rp rq : Int} (hP : rxPCZ274x1 S0 ws) (hin : bx_same rxL (bx_mdl rxCCZ274x1.2.2.1) S0 S) (I0 : bx_Inv rxL S) (hinv : rxICZ274x1_17 S0 ws S i rp rq) (l8 : 0 ≤ i) (u8 : i ≤ 11) (l9 : 0 ≤ rp) (u9 : rp ≤ 1522) (l10 : 0 ≤ rq) (u10 : rq ≤ 1522) : rxPSCZ S [rp, rq] ∧ ∀ (S_p : Nat → Int → Int), rxPSSCZ S [rp, rq] S_p none → bx_Inv rxL S_p → bx_same rxL (bx_mdl rxCSCZ.2.2.1) S S_p → rxICZ274x1_18 S0 ws S_p i rp rq ∧ rxmCZ274x1_18 S0 ws S_p i rp rq < rxmCZ274x1_17 S0 ws S i rp rq := by
  obtain ⟨hrp, hrq, h0, h1, h2, h3, h4, h5, h6, h7, h8, h9, h10, hf, hW⟩ := hinv
  have hpl := rkPl_sm hin (by decide +kernel) hP
  have gb := (hpl.2.2.2.2 i.toNat (by omega)).2
  have gs := (hpl.2.1.2 i.toNat (by omega)).2
  refine ⟨⟨314 + 3 * i.toNat, 41 + 3 * i.toNat, by rw [hrp, hrq], ⟨(by
      have g := rkSg_t (tb := 296) (k := 6 + i.toNat) (by unfold rkTb; omega) (by omega)
      rw [show 296 + 3 * (6 + i.toNat) = 314 + 3 * i.toNat by omega] at g
      exact g), (by
      have g := rkSg_t (tb := 23) (k := 6 + i.toNat) (by unfold rkTb; omega) (by omega)
      rw [show 23 + 3 * (6 + i.toNat) = 41 + 3 * i.toNat by omega] at g
      exact g), by omega⟩, gs, gb⟩, fun S_p hq _ hsm => ?_⟩
  have q := hq.2 (314 + 3 * i.toNat) (41 + 3 * i.toNat) (by rw [hrp, hrq])
  have e : ∀ (p : Nat) (j : Int), ¬ rkRgn p → S_p p j = S p j := rkSc_o q (tb := 296) (by unfold rkTb; omega) (by omega) (by omega)
  refine ⟨⟨(e _ _ (by unfold rkRgn; omega)).trans h0, fun n hn => (e _ _ (by unfold rkRgn; omega)).trans (h1 n hn), fun n hn => (e _ _ (by unfold rkRgn; omega)).trans (h2 n hn), (e _ _ (by unfold rkRgn; omega)).trans h3, fun n hn => (e _ _ (by unfold rkRgn; omega)).trans (h4 n hn), fun n hn => (e _ _ (by unfold rkRgn; omega)).trans (h5 n hn), fun n hn => (e _ _ (by unfold rkRgn; omega)).trans (h6 n hn), (e _ _ (by unfold rkRgn; omega)).trans h7, fun n hn => (e _ _ (by unfold rkRgn; omega)).trans (h8 n hn), fun n hn => (e _ _ (by unfold rkRgn; omega)).trans (h9 n hn), fun n hn => (e _ _ (by unfold rkRgn; omega)).trans (h10 n hn), fun p n hp hi => (e p n (rkNum_n (rxFl274_in p hp))).trans (hf p n hp hi), ?_⟩, by unfold rxmCZ274x1_17 rxmCZ274x1_18; omega⟩
  have ei : ((i.toNat : Nat) : Int) = i := Int.toNat_of_nonneg (by omega)
  have hW_p : rkWt4 S0 S 296 23 6 ((i.toNat : Nat) : Int) 0 := by rw [ei]; exact hW
  have g := rkWt4_v (by unfold rkTb; omega) (by unfold rkTb; omega) (by decide) (by omega) hW_p q
  rw [ei] at g
  exact g
theorem rxsCZ274x1_17 {X : (Nat → Int → Int) → Prop} {S0 : Nat → Int → Int} {ws : List Int} (hP : rxPCZ274x1 S0 ws) : rx_obK X S0 rxCCZ274x1.2.2.1 rxCSCZ.2.2.1 (rxICZ274x1 S0 ws) (rxmCZ274x1 S0 ws) 17 18 rxzCZ274x1_17 rxzCZ274x1_18 [.inr (3, (9, 0)), .inr (3, (10, 0))] none rxPSCZ rxPSSCZ := by
  intro S r hinv hXS I0 hin hs_ hf_
  have b_ := bx_bds_sat hs_
  have f_ := bx_fcl_ok hs_.1 hf_
  obtain ⟨⟨l8, u8⟩, ⟨l9, u9⟩, ⟨l10, u10⟩, -⟩ := b_
  have g := rxkCZ274x1_17 hP hin I0 hinv l8 u8 l9 u9 l10 u10
  have ea : List.map (bx_num r) [.inr (3, (9, 0)), .inr (3, (10, 0))] = [(r 9), (r 10)] := by
    simp only [List.map_cons, List.map_nil, bx_xv_ok hs_.1]
    rfl
  rw [ea]
  refine ⟨g.1, fun S_p w r_p hPS hX_p I1 hsm hr hw hs_p => ?_⟩
  have hw : w = none := hPS.1
  subst hw
  have g2 := g.2 S_p hPS I1 hsm
  show rxICZ274x1_18 S0 ws S_p (r_p 8) (r_p 9) (r_p 10) ∧ rxmCZ274x1_18 S0 ws S_p (r_p 8) (r_p 9) (r_p 10) < _
  rw [hr 8 (by decide), hr 9 (by decide), hr 10 (by decide)]
  exact g2
theorem rxtCZ274x1_19 {S0 : Nat → Int → Int} {ws : List Int} {S : Nat → Int → Int} (hP : rxPCZ274x1 S0 ws) (hin : bx_same rxL (bx_mdl rxCCZ274x1.2.2.1) S0 S) (I0 : bx_Inv rxL S) (hinv : rxICZ274x1_19 S0 ws S)  : rxICZ274x1_20 S0 ws (bx_cpS S 13 286 12) ∧ rxmCZ274x1_20 S0 ws (bx_cpS S 13 286 12) < rxmCZ274x1_19 S0 ws S := by
  obtain ⟨h0, h1, h2, h3, h4, h5, h6, h7, h8, h9, h10, h11, hf, hW⟩ := hinv
  refine ⟨⟨?_, ?_, ?_, ?_, ?_, ?_, ?_, ?_, ?_, ?_, ?_, ?_, ?_, ?_, ?_⟩, by unfold rxmCZ274x1_19 rxmCZ274x1_20; omega⟩
  · exact (bx_cpS_ne (by decide)).trans h0
  · exact fun i hi => (bx_cpS_ne (by decide)).trans (h1 i hi)
  · exact fun i hi => (bx_cpS_ne (by decide)).trans (h2 i hi)
  · exact (bx_cpS_ne (by decide)).trans h3
  · exact fun i hi => (bx_cpS_ne (by decide)).trans (h4 i hi)
  · exact fun i hi => (bx_cpS_ne (by decide)).trans (h5 i hi)
  · exact fun i hi => (bx_cpS_ne (by decide)).trans (h6 i hi)
  · exact (bx_cpS_ne (by decide)).trans h7
  · exact fun i hi => (bx_cpS_ne (by decide)).trans (h8 i hi)
  · exact fun i hi => (bx_cpS_ne (by decide)).trans (h9 i hi)
  · exact fun i hi => (bx_cpS_ne (by decide)).trans (h10 i hi)
  · exact (bx_cpS_ne (by decide)).trans h11
  · exact fun i hi => (bx_cpS_in (by omega) (by omega)).trans (hf 13 i (by decide) (show i < 12 from hi))
  · exact fun p i hp hi => (bx_cpS_ne (fun e => by subst e; revert hp; decide)).trans (hf p i hp hi)
  · exact rkWt4_ne (by unfold rkTb; omega) hW (fun p j hp => by have hp : (23 ≤ p ∧ p < 137) ∨ (160 ≤ p ∧ p < 274) ∨ (296 ≤ p ∧ p < 410) := hp; exact bx_cpS_ne (by omega))
theorem rxsCZ274x1_19 {X : (Nat → Int → Int) → Prop} {S0 : Nat → Int → Int} {ws : List Int} (hP : rxPCZ274x1 S0 ws) (hX : ∀ S S1 : Nat → Int → Int, X S → bx_same rxL (bx_mdl rxCCZ274x1.2.2.1) S S1 → X S1) : rx_obY X S0 rxCCZ274x1.2.2.1 (rxICZ274x1 S0 ws) (rxmCZ274x1 S0 ws) 19 20 rxzCZ274x1_19 13 286 12 := by
  intro S r hinv hXS I0 hin hs_ hf_
  have b_ := bx_bds_sat hs_
  have f_ := bx_fcl_ok hs_.1 hf_
  have g := rxtCZ274x1_19 hP hin I0 hinv 
  exact ⟨g.1, g.2, hX _ _ hXS (rx_same_cp (fun _ _ _ _ _ => rfl) (g1 := 10) rfl (by decide +kernel)), rx_same_cp hin (g1 := 10) rfl (by decide +kernel)⟩
theorem rxkCZ274x1_21 {S0 : Nat → Int → Int} {ws : List Int} {S : Nat → Int → Int} (hP : rxPCZ274x1 S0 ws) (hin : bx_same rxL (bx_mdl rxCCZ274x1.2.2.1) S0 S) (I0 : bx_Inv rxL S) (hinv : rxICZ274x1_21 S0 ws S)  : rxPDC287x14 S [287, 14] ∧ ∀ (S_p : Nat → Int → Int), rxPSDC287x14 S [287, 14] S_p none → bx_Inv rxL S_p → bx_same rxL (bx_mdl rxCDC287x14.2.2.1) S S_p → rxICZ274x1_22 S0 ws S_p ∧ rxmCZ274x1_22 S0 ws S_p < rxmCZ274x1_21 S0 ws S := by
  obtain ⟨h0, h1, h2, h3, h4, h5, h6, h7, h8, h9, h10, h11, h12, hf, hW⟩ := hinv
  refine ⟨trivial, fun S_p hq _ hsm => ⟨⟨?_, ?_, ?_, ?_, ?_, ?_, ?_, ?_, ?_, ?_, ?_, ?_, ?_, ?_, ?_, ?_, ?_, ?_, ?_⟩, by unfold rxmCZ274x1_21 rxmCZ274x1_22; omega⟩⟩
  all_goals obtain ⟨-, q0, q1, q2, q3, qf⟩ := hq
  · exact (qf _ _ (by decide) (by decide) (by decide) (by decide)).trans h0
  · exact fun i hi => (qf _ _ (by decide) (by decide) (by decide) (by decide)).trans (h1 i hi)
  · exact fun i hi => (qf _ _ (by decide) (by decide) (by decide) (by decide)).trans (h2 i hi)
  · exact (qf _ _ (by decide) (by decide) (by decide) (by decide)).trans h3
  · exact fun i hi => (qf _ _ (by decide) (by decide) (by decide) (by decide)).trans (h4 i hi)
  · exact fun i hi => (qf _ _ (by decide) (by decide) (by decide) (by decide)).trans (h5 i hi)
  · exact fun i hi => (qf _ _ (by decide) (by decide) (by decide) (by decide)).trans (h6 i hi)
  · exact (qf _ _ (by decide) (by decide) (by decide) (by decide)).trans h7
  · exact fun i hi => (qf _ _ (by decide) (by decide) (by decide) (by decide)).trans (h8 i hi)
  · exact fun i hi => (qf _ _ (by decide) (by decide) (by decide) (by decide)).trans (h9 i hi)
  · exact fun i hi => (qf _ _ (by decide) (by decide) (by decide) (by decide)).trans (h10 i hi)
  · exact (qf _ _ (by decide) (by decide) (by decide) (by decide)).trans h11
  · exact fun i hi => (qf _ _ (by decide) (by decide) (by decide) (by decide)).trans (h12 i hi)
  · exact q0.trans (hf 14 0 (by decide) (by decide))
  · exact fun i hi => (q1 i (by omega) (by omega)).trans (hf 15 i (by decide) (show i < 12 from hi))
  · exact fun i hi => (q2 i (by omega) (by omega)).trans (hf 16 i (by decide) (show i < 12 from hi))
  · exact fun i hi => (q3 i (by omega) (by omega)).trans (hf 17 i (by decide) (show i < 12 from hi))
  · exact fun p i hp hi => (qf p i (fun e => by subst e; revert hp; decide) (fun e => by subst e; revert hp; decide) (fun e => by subst e; revert hp; decide) (fun e => by subst e; revert hp; decide)).trans (hf p i hp hi)
  · exact rkWt4_ne (by unfold rkTb; omega) hW (fun p j hp => by have hp : (23 ≤ p ∧ p < 137) ∨ (160 ≤ p ∧ p < 274) ∨ (296 ≤ p ∧ p < 410) := hp; exact qf p j (by omega) (by omega) (by omega) (by omega))
theorem rxsCZ274x1_21 {X : (Nat → Int → Int) → Prop} {S0 : Nat → Int → Int} {ws : List Int} (hP : rxPCZ274x1 S0 ws) : rx_obK X S0 rxCCZ274x1.2.2.1 rxCDC287x14.2.2.1 (rxICZ274x1 S0 ws) (rxmCZ274x1 S0 ws) 21 22 rxzCZ274x1_21 rxzCZ274x1_22 [.inr (3, (0, 287)), .inr (3, (0, 14))] none rxPDC287x14 rxPSDC287x14 := by
  intro S r hinv hXS I0 hin hs_ hf_
  have b_ := bx_bds_sat hs_
  have f_ := bx_fcl_ok hs_.1 hf_
  have g := rxkCZ274x1_21 hP hin I0 hinv 
  have ea : List.map (bx_num r) [.inr (3, (0, 287)), .inr (3, (0, 14))] = [287, 14] := by
    simp only [List.map_cons, List.map_nil, bx_xv_ok hs_.1]
    rfl
  rw [ea]
  refine ⟨g.1, fun S_p w r_p hPS hX_p I1 hsm hr hw hs_p => ?_⟩
  have hw : w = none := hPS.1
  subst hw
  have g2 := g.2 S_p hPS I1 hsm
  show rxICZ274x1_22 S0 ws S_p ∧ rxmCZ274x1_22 S0 ws S_p < _
  exact g2
theorem rxtCZ274x1_23 {S0 : Nat → Int → Int} {ws : List Int} {S : Nat → Int → Int} (hP : rxPCZ274x1 S0 ws) (hin : bx_same rxL (bx_mdl rxCCZ274x1.2.2.1) S0 S) (I0 : bx_Inv rxL S) (hinv : rxICZ274x1_23 S0 ws S)  : rxICZ274x1_24 S0 ws (bx_cpS S 19 292 3) ∧ rxmCZ274x1_24 S0 ws (bx_cpS S 19 292 3) < rxmCZ274x1_23 S0 ws S := by
  obtain ⟨h0, h1, h2, h3, h4, h5, h6, h7, h8, h9, h10, h11, h12, h13, h14, h15, h16, hf, hW⟩ := hinv
  refine ⟨⟨?_, ?_, ?_, ?_, ?_, ?_, ?_, ?_, ?_, ?_, ?_, ?_, ?_, ?_, ?_, ?_, ?_, ?_, ?_, ?_⟩, by unfold rxmCZ274x1_23 rxmCZ274x1_24; omega⟩
  · exact (bx_cpS_ne (by decide)).trans h0
  · exact fun i hi => (bx_cpS_ne (by decide)).trans (h1 i hi)
  · exact fun i hi => (bx_cpS_ne (by decide)).trans (h2 i hi)
  · exact (bx_cpS_ne (by decide)).trans h3
  · exact fun i hi => (bx_cpS_ne (by decide)).trans (h4 i hi)
  · exact fun i hi => (bx_cpS_ne (by decide)).trans (h5 i hi)
  · exact fun i hi => (bx_cpS_ne (by decide)).trans (h6 i hi)
  · exact (bx_cpS_ne (by decide)).trans h7
  · exact fun i hi => (bx_cpS_ne (by decide)).trans (h8 i hi)
  · exact fun i hi => (bx_cpS_ne (by decide)).trans (h9 i hi)
  · exact fun i hi => (bx_cpS_ne (by decide)).trans (h10 i hi)
  · exact (bx_cpS_ne (by decide)).trans h11
  · exact fun i hi => (bx_cpS_ne (by decide)).trans (h12 i hi)
  · exact (bx_cpS_ne (by decide)).trans h13
  · exact fun i hi => (bx_cpS_ne (by decide)).trans (h14 i hi)
  · exact fun i hi => (bx_cpS_ne (by decide)).trans (h15 i hi)
  · exact fun i hi => (bx_cpS_ne (by decide)).trans (h16 i hi)
  · exact fun i hi => (bx_cpS_in (by omega) (by omega)).trans (hf 19 i (by decide) (show i < 3 from hi))
  · exact fun p i hp hi => (bx_cpS_ne (fun e => by subst e; revert hp; decide)).trans (hf p i hp hi)
  · exact rkWt4_ne (by unfold rkTb; omega) hW (fun p j hp => by have hp : (23 ≤ p ∧ p < 137) ∨ (160 ≤ p ∧ p < 274) ∨ (296 ≤ p ∧ p < 410) := hp; exact bx_cpS_ne (by omega))
theorem rxsCZ274x1_23 {X : (Nat → Int → Int) → Prop} {S0 : Nat → Int → Int} {ws : List Int} (hP : rxPCZ274x1 S0 ws) (hX : ∀ S S1 : Nat → Int → Int, X S → bx_same rxL (bx_mdl rxCCZ274x1.2.2.1) S S1 → X S1) : rx_obY X S0 rxCCZ274x1.2.2.1 (rxICZ274x1 S0 ws) (rxmCZ274x1 S0 ws) 23 24 rxzCZ274x1_23 19 292 3 := by
  intro S r hinv hXS I0 hin hs_ hf_
  have b_ := bx_bds_sat hs_
  have f_ := bx_fcl_ok hs_.1 hf_
  have g := rxtCZ274x1_23 hP hin I0 hinv 
  exact ⟨g.1, g.2, hX _ _ hXS (rx_same_cp (fun _ _ _ _ _ => rfl) (g1 := 15) rfl (by decide +kernel)), rx_same_cp hin (g1 := 15) rfl (by decide +kernel)⟩
theorem rxkCZ274x1_26 {S0 : Nat → Int → Int} {ws : List Int} {S : Nat → Int → Int} {i rp rq : Int} (hP : rxPCZ274x1 S0 ws) (hin : bx_same rxL (bx_mdl rxCCZ274x1.2.2.1) S0 S) (I0 : bx_Inv rxL S) (hinv : rxICZ274x1_26 S0 ws S i rp rq) (l8 : 0 ≤ i) (u8 : i ≤ 5) (l9 : 0 ≤ rp) (u9 : rp ≤ 1522) (l10 : 0 ≤ rq) (u10 : rq ≤ 1522) : rxPQCZ S [rp, rq] ∧ ∀ (S_p : Nat → Int → Int), rxPSQCZ S [rp, rq] S_p none → bx_Inv rxL S_p → bx_same rxL (bx_mdl rxCQCZ.2.2.1) S S_p → rxICZ274x1_27 S0 ws S_p i rp rq ∧ rxmCZ274x1_27 S0 ws S_p i rp rq < rxmCZ274x1_26 S0 ws S i rp rq := by
  obtain ⟨hrp, hrq, h0, h1, h2, h3, h4, h5, h6, h7, h8, h9, h10, h11, h12, h13, h14, h15, h16, h17, h18, h19, hf, hW⟩ := hinv
  have hpl := rkPl_sm hin (by decide +kernel) hP
  have gb := (hpl.1.2.2.2 i.toNat (by omega)).2
  have gs := (hpl.1.2.1 i.toNat (by omega)).2
  refine ⟨⟨350 + 10 * i.toNat, 77 + 10 * i.toNat, by rw [hrp, hrq], ⟨(by
      have g := rkPg_t (tb := 296) (k := i.toNat) (by unfold rkTb; omega) (by omega)
      exact g), (by
      have g := rkPg_t (tb := 23) (k := i.toNat) (by unfold rkTb; omega) (by omega)
      exact g), by omega⟩, gs, gb⟩, fun S_p hq _ hsm => ?_⟩
  have q := hq.2 (350 + 10 * i.toNat) (77 + 10 * i.toNat) (by rw [hrp, hrq])
  have e : ∀ (p : Nat) (j : Int), ¬ rkRgn p → S_p p j = S p j := rkQc_o q (tb := 296) (by unfold rkTb; omega) (by omega) (by omega)
  refine ⟨⟨(e _ _ (by unfold rkRgn; omega)).trans h0, fun n hn => (e _ _ (by unfold rkRgn; omega)).trans (h1 n hn), fun n hn => (e _ _ (by unfold rkRgn; omega)).trans (h2 n hn), (e _ _ (by unfold rkRgn; omega)).trans h3, fun n hn => (e _ _ (by unfold rkRgn; omega)).trans (h4 n hn), fun n hn => (e _ _ (by unfold rkRgn; omega)).trans (h5 n hn), fun n hn => (e _ _ (by unfold rkRgn; omega)).trans (h6 n hn), (e _ _ (by unfold rkRgn; omega)).trans h7, fun n hn => (e _ _ (by unfold rkRgn; omega)).trans (h8 n hn), fun n hn => (e _ _ (by unfold rkRgn; omega)).trans (h9 n hn), fun n hn => (e _ _ (by unfold rkRgn; omega)).trans (h10 n hn), (e _ _ (by unfold rkRgn; omega)).trans h11, fun n hn => (e _ _ (by unfold rkRgn; omega)).trans (h12 n hn), (e _ _ (by unfold rkRgn; omega)).trans h13, fun n hn => (e _ _ (by unfold rkRgn; omega)).trans (h14 n hn), fun n hn => (e _ _ (by unfold rkRgn; omega)).trans (h15 n hn), fun n hn => (e _ _ (by unfold rkRgn; omega)).trans (h16 n hn), fun n hn => (e _ _ (by unfold rkRgn; omega)).trans (h17 n hn), (e _ _ (by unfold rkRgn; omega)).trans h18, (e _ _ (by unfold rkRgn; omega)).trans h19, fun p n hp hi => (e p n (rkNum_n (rxFl274_in p hp))).trans (hf p n hp hi), ?_⟩, by unfold rxmCZ274x1_26 rxmCZ274x1_27; omega⟩
  have ei : ((i.toNat : Nat) : Int) = i := Int.toNat_of_nonneg (by omega)
  have hW_p : rkWt4 S0 S 296 23 6 12 ((i.toNat : Nat) : Int) := by rw [ei]; exact hW
  have g := rkWt4_l (by unfold rkTb; omega) (by unfold rkTb; omega) (by decide) (by omega) hW_p q
  rw [ei] at g
  exact g
theorem rxsCZ274x1_26 {X : (Nat → Int → Int) → Prop} {S0 : Nat → Int → Int} {ws : List Int} (hP : rxPCZ274x1 S0 ws) : rx_obK X S0 rxCCZ274x1.2.2.1 rxCQCZ.2.2.1 (rxICZ274x1 S0 ws) (rxmCZ274x1 S0 ws) 26 27 rxzCZ274x1_26 rxzCZ274x1_27 [.inr (3, (9, 0)), .inr (3, (10, 0))] none rxPQCZ rxPSQCZ := by
  intro S r hinv hXS I0 hin hs_ hf_
  have b_ := bx_bds_sat hs_
  have f_ := bx_fcl_ok hs_.1 hf_
  obtain ⟨⟨l8, u8⟩, ⟨l9, u9⟩, ⟨l10, u10⟩, -⟩ := b_
  have g := rxkCZ274x1_26 hP hin I0 hinv l8 u8 l9 u9 l10 u10
  have ea : List.map (bx_num r) [.inr (3, (9, 0)), .inr (3, (10, 0))] = [(r 9), (r 10)] := by
    simp only [List.map_cons, List.map_nil, bx_xv_ok hs_.1]
    rfl
  rw [ea]
  refine ⟨g.1, fun S_p w r_p hPS hX_p I1 hsm hr hw hs_p => ?_⟩
  have hw : w = none := hPS.1
  subst hw
  have g2 := g.2 S_p hPS I1 hsm
  show rxICZ274x1_27 S0 ws S_p (r_p 8) (r_p 9) (r_p 10) ∧ rxmCZ274x1_27 S0 ws S_p (r_p 8) (r_p 9) (r_p 10) < _
  rw [hr 8 (by decide), hr 9 (by decide), hr 10 (by decide)]
  exact g2
theorem rxcCZ274x1_0_0 {S0 : Nat → Int → Int} {ws : List Int} {S : Nat → Int → Int} {x8 : Int} (hP : rxPCZ274x1 S0 ws) (hin : bx_same rxL (bx_mdl rxCCZ274x1.2.2.1) S0 S) (I0 : bx_Inv rxL S) (hinv : rxICZ274x1_0 S0 ws S) (l8 : 0 ≤ x8) (u8 : x8 ≤ 6) (e1 : S 1 0 = x8) : (True) ∧ (True) ∧ rxICZ274x1_1 S0 ws (bx_up S 274 0 x8) ∧ rxmCZ274x1_1 S0 ws (bx_up S 274 0 x8) < rxmCZ274x1_0 S0 ws S := by
  obtain ⟨rfl, hw⟩ := hinv
  exact ⟨trivial, trivial, ⟨bx_up_at.trans e1.symm, fun p i hp hi => bx_up_ne (fun h => by have e := h.1; subst e; revert hp; decide), rkWt4_0 fun p j hp => by
    have hp : (23 ≤ p ∧ p < 137) ∨ (160 ≤ p ∧ p < 274) ∨ (296 ≤ p ∧ p < 410) := hp
    exact bx_up_ne (by omega)⟩, by unfold rxmCZ274x1_0 rxmCZ274x1_1; omega⟩
theorem rxgCZ274x1_0_0 {X : (Nat → Int → Int) → Prop} {S0 : Nat → Int → Int} {ws : List Int} (hP : rxPCZ274x1 S0 ws) : bx_obC rxL X S0 rxCCZ274x1.2.2.1 (rxICZ274x1 S0 ws) (rxmCZ274x1 S0 ws) 0 rxzCZ274x1_0 rxoCZ274x1_0_0 := by
  intro S S_p r r_p hinv hX hin hsm_ hseg
  obtain ⟨I0, I1, h0_, hr_, b_, f_, d_⟩ := bx_cl (evs := [(1, (0, 274), (0, 0), .inr (0, (8, 0))), (0, (0, 1), (0, 0), .inr (0, (8, 0)))]) (fvs := []) hseg (by decide +kernel) (by decide +kernel)
  have hinv : rxICZ274x1_0 S0 ws S := hinv
  obtain ⟨⟨l8, u8⟩, -⟩ := b_
  obtain ⟨T0, ⟨e1, w_⟩, w0⟩ := d_
  subst w0
  subst w_
  have g := rxcCZ274x1_0_0 hP hin I0 hinv l8 u8 e1
  refine ⟨bx_narP_ok (l := []) g.1, bx_nfP_ok h0_ (fvs := []) (by decide +kernel) g.2.1, ?_, ?_⟩
  · show rxICZ274x1_1 S0 ws (bx_up T0 274 (0) (r_p 8))
    exact g.2.2.1
  · show rxmCZ274x1_1 S0 ws (bx_up T0 274 (0) (r_p 8)) < rxmCZ274x1_0 S0 ws T0
    exact g.2.2.2
theorem rxcCZ274x1_2_0 {S0 : Nat → Int → Int} {ws : List Int} {S : Nat → Int → Int} (hP : rxPCZ274x1 S0 ws) (hin : bx_same rxL (bx_mdl rxCCZ274x1.2.2.1) S0 S) (I0 : bx_Inv rxL S) (hinv : rxICZ274x1_2 S0 ws S)  : (True) ∧ (True) ∧ rxICZ274x1_3 S0 ws S ∧ rxmCZ274x1_3 S0 ws S < rxmCZ274x1_2 S0 ws S := by
  exact ⟨trivial, trivial, hinv, by unfold rxmCZ274x1_2 rxmCZ274x1_3; omega⟩
theorem rxgCZ274x1_2_0 {X : (Nat → Int → Int) → Prop} {S0 : Nat → Int → Int} {ws : List Int} (hP : rxPCZ274x1 S0 ws) : bx_obC rxL X S0 rxCCZ274x1.2.2.1 (rxICZ274x1 S0 ws) (rxmCZ274x1 S0 ws) 2 rxzCZ274x1_2 rxoCZ274x1_2_0 := by
  intro S S_p r r_p hinv hX hin hsm_ hseg
  obtain ⟨I0, I1, h0_, hr_, b_, f_, d_⟩ := bx_cl (evs := []) (fvs := []) hseg (by decide +kernel) (by decide +kernel)
  have hinv : rxICZ274x1_2 S0 ws S := hinv
  have w_ := d_
  subst w_
  have g := rxcCZ274x1_2_0 hP hin I0 hinv 
  refine ⟨bx_narP_ok (l := []) g.1, bx_nfP_ok h0_ (fvs := []) (by decide +kernel) g.2.1, ?_, ?_⟩
  · show rxICZ274x1_3 S0 ws S_p
    exact g.2.2.1
  · show rxmCZ274x1_3 S0 ws S_p < rxmCZ274x1_2 S0 ws S_p
    exact g.2.2.2
theorem rxcCZ274x1_4_0 {S0 : Nat → Int → Int} {ws : List Int} {S : Nat → Int → Int} (hP : rxPCZ274x1 S0 ws) (hin : bx_same rxL (bx_mdl rxCCZ274x1.2.2.1) S0 S) (I0 : bx_Inv rxL S) (hinv : rxICZ274x1_4 S0 ws S)  : (True) ∧ (True) ∧ rxICZ274x1_5 S0 ws S 0 ∧ rxmCZ274x1_5 S0 ws S 0 < rxmCZ274x1_4 S0 ws S := by
  exact ⟨trivial, trivial, hinv, by unfold rxmCZ274x1_4 rxmCZ274x1_5; omega⟩
theorem rxgCZ274x1_4_0 {X : (Nat → Int → Int) → Prop} {S0 : Nat → Int → Int} {ws : List Int} (hP : rxPCZ274x1 S0 ws) : bx_obC rxL X S0 rxCCZ274x1.2.2.1 (rxICZ274x1 S0 ws) (rxmCZ274x1 S0 ws) 4 rxzCZ274x1_4 rxoCZ274x1_4_0 := by
  intro S S_p r r_p hinv hX hin hsm_ hseg
  obtain ⟨I0, I1, h0_, hr_, b_, f_, d_⟩ := bx_cl (evs := []) (fvs := []) hseg (by decide +kernel) (by decide +kernel)
  have hinv : rxICZ274x1_4 S0 ws S := hinv
  have w_ := d_
  subst w_
  have g := rxcCZ274x1_4_0 hP hin I0 hinv 
  refine ⟨bx_narP_ok (l := []) g.1, bx_nfP_ok h0_ (fvs := []) (by decide +kernel) g.2.1, ?_, ?_⟩
  · show rxICZ274x1_5 S0 ws S_p (bx_val [(0, 0), (0, 0), (0, 0), (0, 0), (0, 0), (0, 0), (0, 0), (0, 0), (0, 0)] r_p 8)
    rw [bx_val_x (n := 8) (e := (0, 0)) h0_ rfl]
    exact g.2.2.1
  · show rxmCZ274x1_5 S0 ws S_p (bx_val [(0, 0), (0, 0), (0, 0), (0, 0), (0, 0), (0, 0), (0, 0), (0, 0), (0, 0)] r_p 8) < rxmCZ274x1_4 S0 ws S_p
    rw [bx_val_x (n := 8) (e := (0, 0)) h0_ rfl]
    exact g.2.2.2
theorem rxcCZ274x1_5_0 {S0 : Nat → Int → Int} {ws : List Int} {S : Nat → Int → Int} {i x9 x10 : Int} (hP : rxPCZ274x1 S0 ws) (hin : bx_same rxL (bx_mdl rxCCZ274x1.2.2.1) S0 S) (I0 : bx_Inv rxL S) (hinv : rxICZ274x1_5 S0 ws S i) (l8 : 0 ≤ i) (u8 : i ≤ 5) (l9 : 0 ≤ x9) (u9 : x9 ≤ 1522) (l10 : 0 ≤ x10) (u10 : x10 ≤ 1522) (e1 : S 277 i = x9) (e0 : S 4 i = x10) : (True) ∧ (True) ∧ rxICZ274x1_6 S0 ws S i x9 x10 ∧ rxmCZ274x1_6 S0 ws S i x9 x10 < rxmCZ274x1_5 S0 ws S i := by
  obtain ⟨h0, h1, h2, hf, hW⟩ := id hinv
  have hpl := rkPl_sm hin (by decide +kernel) hP
  have gb := (hpl.2.2.2.1 i.toNat (by omega)).1
  have gs := (hpl.2.1.1 i.toNat (by omega)).1
  rw [Int.toNat_of_nonneg (show (0 : Int) ≤ i by omega)] at gb gs
  exact ⟨trivial, trivial, ⟨e1.symm.trans gb, e0.symm.trans gs, hinv⟩, by unfold rxmCZ274x1_5 rxmCZ274x1_6; omega⟩
theorem rxgCZ274x1_5_0 {X : (Nat → Int → Int) → Prop} {S0 : Nat → Int → Int} {ws : List Int} (hP : rxPCZ274x1 S0 ws) : bx_obC rxL X S0 rxCCZ274x1.2.2.1 (rxICZ274x1 S0 ws) (rxmCZ274x1 S0 ws) 5 rxzCZ274x1_5 rxoCZ274x1_5_0 := by
  intro S S_p r r_p hinv hX hin hsm_ hseg
  obtain ⟨I0, I1, h0_, hr_, b_, f_, d_⟩ := bx_cl (evs := [(0, (0, 4), (8, 0), .inr (3, (10, 0))), (0, (0, 277), (8, 0), .inr (3, (9, 0)))]) (fvs := []) hseg (by decide +kernel) (by decide +kernel)
  have hinv : rxICZ274x1_5 S0 ws S (r 8) := hinv
  rw [← hr_ 8 (by decide)] at hinv
  obtain ⟨⟨l8, u8⟩, ⟨l9, u9⟩, ⟨l10, u10⟩, -⟩ := b_
  obtain ⟨e0, ⟨e1, w_⟩⟩ := d_
  subst w_
  have g := rxcCZ274x1_5_0 hP hin I0 hinv l8 u8 l9 u9 l10 u10 e1 e0
  refine ⟨bx_narP_ok (l := []) g.1, bx_nfP_ok h0_ (fvs := []) (by decide +kernel) g.2.1, ?_, ?_⟩
  · show rxICZ274x1_6 S0 ws S_p (bx_val [(0, 0), (0, 0), (0, 0), (0, 0), (0, 0), (0, 0), (0, 0), (0, 0), (8, 0), (9, 0), (10, 0)] r_p 8) (bx_val [(0, 0), (0, 0), (0, 0), (0, 0), (0, 0), (0, 0), (0, 0), (0, 0), (8, 0), (9, 0), (10, 0)] r_p 9) (bx_val [(0, 0), (0, 0), (0, 0), (0, 0), (0, 0), (0, 0), (0, 0), (0, 0), (8, 0), (9, 0), (10, 0)] r_p 10)
    rw [bx_val_x (n := 8) (e := (8, 0)) h0_ rfl, bx_val_x (n := 9) (e := (9, 0)) h0_ rfl, bx_val_x (n := 10) (e := (10, 0)) h0_ rfl]
    exact g.2.2.1
  · show rxmCZ274x1_6 S0 ws S_p (bx_val [(0, 0), (0, 0), (0, 0), (0, 0), (0, 0), (0, 0), (0, 0), (0, 0), (8, 0), (9, 0), (10, 0)] r_p 8) (bx_val [(0, 0), (0, 0), (0, 0), (0, 0), (0, 0), (0, 0), (0, 0), (0, 0), (8, 0), (9, 0), (10, 0)] r_p 9) (bx_val [(0, 0), (0, 0), (0, 0), (0, 0), (0, 0), (0, 0), (0, 0), (0, 0), (8, 0), (9, 0), (10, 0)] r_p 10) < rxmCZ274x1_5 S0 ws S_p (r 8)
    rw [bx_val_x (n := 8) (e := (8, 0)) h0_ rfl, bx_val_x (n := 9) (e := (9, 0)) h0_ rfl, bx_val_x (n := 10) (e := (10, 0)) h0_ rfl, ← hr_ 8 (by decide)]
    exact g.2.2.2
theorem rxcCZ274x1_5_1 {S0 : Nat → Int → Int} {ws : List Int} {S : Nat → Int → Int} {i : Int} (hP : rxPCZ274x1 S0 ws) (hin : bx_same rxL (bx_mdl rxCCZ274x1.2.2.1) S0 S) (I0 : bx_Inv rxL S) (hinv : rxICZ274x1_5 S0 ws S i) (l8 : 6 ≤ i) (u8 : i ≤ 6) : (True) ∧ (True) ∧ rxICZ274x1_8 S0 ws S ∧ rxmCZ274x1_8 S0 ws S < rxmCZ274x1_5 S0 ws S i := by
  have ei : i = 6 := by omega
  subst ei
  exact ⟨trivial, trivial, hinv, by unfold rxmCZ274x1_5 rxmCZ274x1_8; omega⟩
theorem rxgCZ274x1_5_1 {X : (Nat → Int → Int) → Prop} {S0 : Nat → Int → Int} {ws : List Int} (hP : rxPCZ274x1 S0 ws) : bx_obC rxL X S0 rxCCZ274x1.2.2.1 (rxICZ274x1 S0 ws) (rxmCZ274x1 S0 ws) 5 rxzCZ274x1_5 rxoCZ274x1_5_1 := by
  intro S S_p r r_p hinv hX hin hsm_ hseg
  obtain ⟨I0, I1, h0_, hr_, b_, f_, d_⟩ := bx_cl (evs := []) (fvs := []) hseg (by decide +kernel) (by decide +kernel)
  have hinv : rxICZ274x1_5 S0 ws S (r 8) := hinv
  rw [← hr_ 8 (by decide)] at hinv
  obtain ⟨⟨l8, u8⟩, -⟩ := b_
  have w_ := d_
  subst w_
  have g := rxcCZ274x1_5_1 hP hin I0 hinv l8 u8
  refine ⟨bx_narP_ok (l := []) g.1, bx_nfP_ok h0_ (fvs := []) (by decide +kernel) g.2.1, ?_, ?_⟩
  · show rxICZ274x1_8 S0 ws S_p
    exact g.2.2.1
  · show rxmCZ274x1_8 S0 ws S_p < rxmCZ274x1_5 S0 ws S_p (r 8)
    rw [← hr_ 8 (by decide)]
    exact g.2.2.2
theorem rxcCZ274x1_7_0 {S0 : Nat → Int → Int} {ws : List Int} {S : Nat → Int → Int} {i rp rq : Int} (hP : rxPCZ274x1 S0 ws) (hin : bx_same rxL (bx_mdl rxCCZ274x1.2.2.1) S0 S) (I0 : bx_Inv rxL S) (hinv : rxICZ274x1_7 S0 ws S i rp rq) (l8 : 0 ≤ i) (u8 : i ≤ 5) (l9 : 0 ≤ rp) (u9 : rp ≤ 1522) (l10 : 0 ≤ rq) (u10 : rq ≤ 1522) : (True) ∧ (True) ∧ rxICZ274x1_5 S0 ws S (i + 1) ∧ rxmCZ274x1_5 S0 ws S (i + 1) < rxmCZ274x1_7 S0 ws S i rp rq := by
  exact ⟨trivial, trivial, hinv, by unfold rxmCZ274x1_7 rxmCZ274x1_5; omega⟩
theorem rxgCZ274x1_7_0 {X : (Nat → Int → Int) → Prop} {S0 : Nat → Int → Int} {ws : List Int} (hP : rxPCZ274x1 S0 ws) : bx_obC rxL X S0 rxCCZ274x1.2.2.1 (rxICZ274x1 S0 ws) (rxmCZ274x1 S0 ws) 7 rxzCZ274x1_7 rxoCZ274x1_7_0 := by
  intro S S_p r r_p hinv hX hin hsm_ hseg
  obtain ⟨I0, I1, h0_, hr_, b_, f_, d_⟩ := bx_cl (evs := []) (fvs := []) hseg (by decide +kernel) (by decide +kernel)
  have hinv : rxICZ274x1_7 S0 ws S (r 8) (r 9) (r 10) := hinv
  rw [← hr_ 8 (by decide), ← hr_ 9 (by decide), ← hr_ 10 (by decide)] at hinv
  obtain ⟨⟨l8, u8⟩, ⟨l9, u9⟩, ⟨l10, u10⟩, -⟩ := b_
  have w_ := d_
  subst w_
  have g := rxcCZ274x1_7_0 hP hin I0 hinv l8 u8 l9 u9 l10 u10
  refine ⟨bx_narP_ok (l := []) g.1, bx_nfP_ok h0_ (fvs := []) (by decide +kernel) g.2.1, ?_, ?_⟩
  · show rxICZ274x1_5 S0 ws S_p (bx_val [(0, 0), (0, 0), (0, 0), (0, 0), (0, 0), (0, 0), (0, 0), (0, 0), (8, 1)] r_p 8)
    rw [bx_val_x (n := 8) (e := (8, 1)) h0_ rfl]
    exact g.2.2.1
  · show rxmCZ274x1_5 S0 ws S_p (bx_val [(0, 0), (0, 0), (0, 0), (0, 0), (0, 0), (0, 0), (0, 0), (0, 0), (8, 1)] r_p 8) < rxmCZ274x1_7 S0 ws S_p (r 8) (r 9) (r 10)
    rw [bx_val_x (n := 8) (e := (8, 1)) h0_ rfl, ← hr_ 8 (by decide), ← hr_ 9 (by decide), ← hr_ 10 (by decide)]
    exact g.2.2.2
theorem rxcCZ274x1_9_0 {S0 : Nat → Int → Int} {ws : List Int} {S : Nat → Int → Int} {x8 : Int} (hP : rxPCZ274x1 S0 ws) (hin : bx_same rxL (bx_mdl rxCCZ274x1.2.2.1) S0 S) (I0 : bx_Inv rxL S) (hinv : rxICZ274x1_9 S0 ws S) (l8 : 0 ≤ x8) (u8 : x8 ≤ 12) (e1 : S 1 5 = x8) : (True) ∧ (True) ∧ rxICZ274x1_10 S0 ws (bx_up S 274 5 x8) ∧ rxmCZ274x1_10 S0 ws (bx_up S 274 5 x8) < rxmCZ274x1_9 S0 ws S := by
  obtain ⟨h0, h1, h2, h3, h4, h5, h6, hf, hW⟩ := hinv
  refine ⟨trivial, trivial, ⟨(bx_up_ne (by omega)).trans (h0), fun n hn => (bx_up_ne (by omega)).trans (h1 n hn), fun n hn => (bx_up_ne (by omega)).trans (h2 n hn), (bx_up_ne (by omega)).trans (h3), fun n hn => (bx_up_ne (by omega)).trans (h4 n hn), fun n hn => (bx_up_ne (by omega)).trans (h5 n hn), fun n hn => (bx_up_ne (by omega)).trans (h6 n hn), bx_up_at.trans ((e1).symm.trans (hf 1 5 (by decide) (by decide))), fun p n hp hi => (bx_up_ne (fun h => by have e := h.1; subst e; revert hp; decide)).trans (hf p n hp hi), ?_⟩, by unfold rxmCZ274x1_9 rxmCZ274x1_10; omega⟩
  exact rkWt4_ne (by unfold rkTb; omega) hW (fun p j hp => by have hp : (23 ≤ p ∧ p < 137) ∨ (160 ≤ p ∧ p < 274) ∨ (296 ≤ p ∧ p < 410) := hp; exact (bx_up_ne (by omega)))
theorem rxgCZ274x1_9_0 {X : (Nat → Int → Int) → Prop} {S0 : Nat → Int → Int} {ws : List Int} (hP : rxPCZ274x1 S0 ws) : bx_obC rxL X S0 rxCCZ274x1.2.2.1 (rxICZ274x1 S0 ws) (rxmCZ274x1 S0 ws) 9 rxzCZ274x1_9 rxoCZ274x1_9_0 := by
  intro S S_p r r_p hinv hX hin hsm_ hseg
  obtain ⟨I0, I1, h0_, hr_, b_, f_, d_⟩ := bx_cl (evs := [(1, (0, 274), (0, 5), .inr (0, (8, 0))), (0, (0, 1), (0, 5), .inr (0, (8, 0)))]) (fvs := []) hseg (by decide +kernel) (by decide +kernel)
  have hinv : rxICZ274x1_9 S0 ws S := hinv
  obtain ⟨⟨l8, u8⟩, -⟩ := b_
  obtain ⟨T0, ⟨e1, w_⟩, w0⟩ := d_
  subst w0
  subst w_
  have g := rxcCZ274x1_9_0 hP hin I0 hinv l8 u8 e1
  refine ⟨bx_narP_ok (l := []) g.1, bx_nfP_ok h0_ (fvs := []) (by decide +kernel) g.2.1, ?_, ?_⟩
  · show rxICZ274x1_10 S0 ws (bx_up T0 274 (5) (r_p 8))
    exact g.2.2.1
  · show rxmCZ274x1_10 S0 ws (bx_up T0 274 (5) (r_p 8)) < rxmCZ274x1_9 S0 ws T0
    exact g.2.2.2
theorem rxcCZ274x1_11_0 {S0 : Nat → Int → Int} {ws : List Int} {S : Nat → Int → Int} (hP : rxPCZ274x1 S0 ws) (hin : bx_same rxL (bx_mdl rxCCZ274x1.2.2.1) S0 S) (I0 : bx_Inv rxL S) (hinv : rxICZ274x1_11 S0 ws S)  : (True) ∧ (True) ∧ rxICZ274x1_12 S0 ws S ∧ rxmCZ274x1_12 S0 ws S < rxmCZ274x1_11 S0 ws S := by
  exact ⟨trivial, trivial, hinv, by unfold rxmCZ274x1_11 rxmCZ274x1_12; omega⟩
theorem rxgCZ274x1_11_0 {X : (Nat → Int → Int) → Prop} {S0 : Nat → Int → Int} {ws : List Int} (hP : rxPCZ274x1 S0 ws) : bx_obC rxL X S0 rxCCZ274x1.2.2.1 (rxICZ274x1 S0 ws) (rxmCZ274x1 S0 ws) 11 rxzCZ274x1_11 rxoCZ274x1_11_0 := by
  intro S S_p r r_p hinv hX hin hsm_ hseg
  obtain ⟨I0, I1, h0_, hr_, b_, f_, d_⟩ := bx_cl (evs := []) (fvs := []) hseg (by decide +kernel) (by decide +kernel)
  have hinv : rxICZ274x1_11 S0 ws S := hinv
  have w_ := d_
  subst w_
  have g := rxcCZ274x1_11_0 hP hin I0 hinv 
  refine ⟨bx_narP_ok (l := []) g.1, bx_nfP_ok h0_ (fvs := []) (by decide +kernel) g.2.1, ?_, ?_⟩
  · show rxICZ274x1_12 S0 ws S_p
    exact g.2.2.1
  · show rxmCZ274x1_12 S0 ws S_p < rxmCZ274x1_11 S0 ws S_p
    exact g.2.2.2
theorem rxcCZ274x1_13_0 {S0 : Nat → Int → Int} {ws : List Int} {S : Nat → Int → Int} (hP : rxPCZ274x1 S0 ws) (hin : bx_same rxL (bx_mdl rxCCZ274x1.2.2.1) S0 S) (I0 : bx_Inv rxL S) (hinv : rxICZ274x1_13 S0 ws S)  : (True) ∧ (True) ∧ rxICZ274x1_14 S0 ws S ∧ rxmCZ274x1_14 S0 ws S < rxmCZ274x1_13 S0 ws S := by
  exact ⟨trivial, trivial, hinv, by unfold rxmCZ274x1_13 rxmCZ274x1_14; omega⟩
theorem rxgCZ274x1_13_0 {X : (Nat → Int → Int) → Prop} {S0 : Nat → Int → Int} {ws : List Int} (hP : rxPCZ274x1 S0 ws) : bx_obC rxL X S0 rxCCZ274x1.2.2.1 (rxICZ274x1 S0 ws) (rxmCZ274x1 S0 ws) 13 rxzCZ274x1_13 rxoCZ274x1_13_0 := by
  intro S S_p r r_p hinv hX hin hsm_ hseg
  obtain ⟨I0, I1, h0_, hr_, b_, f_, d_⟩ := bx_cl (evs := []) (fvs := []) hseg (by decide +kernel) (by decide +kernel)
  have hinv : rxICZ274x1_13 S0 ws S := hinv
  have w_ := d_
  subst w_
  have g := rxcCZ274x1_13_0 hP hin I0 hinv 
  refine ⟨bx_narP_ok (l := []) g.1, bx_nfP_ok h0_ (fvs := []) (by decide +kernel) g.2.1, ?_, ?_⟩
  · show rxICZ274x1_14 S0 ws S_p
    exact g.2.2.1
  · show rxmCZ274x1_14 S0 ws S_p < rxmCZ274x1_13 S0 ws S_p
    exact g.2.2.2
theorem rxcCZ274x1_15_0 {S0 : Nat → Int → Int} {ws : List Int} {S : Nat → Int → Int} (hP : rxPCZ274x1 S0 ws) (hin : bx_same rxL (bx_mdl rxCCZ274x1.2.2.1) S0 S) (I0 : bx_Inv rxL S) (hinv : rxICZ274x1_15 S0 ws S)  : (True) ∧ (True) ∧ rxICZ274x1_16 S0 ws S 0 ∧ rxmCZ274x1_16 S0 ws S 0 < rxmCZ274x1_15 S0 ws S := by
  exact ⟨trivial, trivial, hinv, by unfold rxmCZ274x1_15 rxmCZ274x1_16; omega⟩
theorem rxgCZ274x1_15_0 {X : (Nat → Int → Int) → Prop} {S0 : Nat → Int → Int} {ws : List Int} (hP : rxPCZ274x1 S0 ws) : bx_obC rxL X S0 rxCCZ274x1.2.2.1 (rxICZ274x1 S0 ws) (rxmCZ274x1 S0 ws) 15 rxzCZ274x1_15 rxoCZ274x1_15_0 := by
  intro S S_p r r_p hinv hX hin hsm_ hseg
  obtain ⟨I0, I1, h0_, hr_, b_, f_, d_⟩ := bx_cl (evs := []) (fvs := []) hseg (by decide +kernel) (by decide +kernel)
  have hinv : rxICZ274x1_15 S0 ws S := hinv
  have w_ := d_
  subst w_
  have g := rxcCZ274x1_15_0 hP hin I0 hinv 
  refine ⟨bx_narP_ok (l := []) g.1, bx_nfP_ok h0_ (fvs := []) (by decide +kernel) g.2.1, ?_, ?_⟩
  · show rxICZ274x1_16 S0 ws S_p (bx_val [(0, 0), (0, 0), (0, 0), (0, 0), (0, 0), (0, 0), (0, 0), (0, 0), (0, 0)] r_p 8)
    rw [bx_val_x (n := 8) (e := (0, 0)) h0_ rfl]
    exact g.2.2.1
  · show rxmCZ274x1_16 S0 ws S_p (bx_val [(0, 0), (0, 0), (0, 0), (0, 0), (0, 0), (0, 0), (0, 0), (0, 0), (0, 0)] r_p 8) < rxmCZ274x1_15 S0 ws S_p
    rw [bx_val_x (n := 8) (e := (0, 0)) h0_ rfl]
    exact g.2.2.2
theorem rxcCZ274x1_16_0 {S0 : Nat → Int → Int} {ws : List Int} {S : Nat → Int → Int} {i x9 x10 : Int} (hP : rxPCZ274x1 S0 ws) (hin : bx_same rxL (bx_mdl rxCCZ274x1.2.2.1) S0 S) (I0 : bx_Inv rxL S) (hinv : rxICZ274x1_16 S0 ws S i) (l8 : 0 ≤ i) (u8 : i ≤ 11) (l9 : 0 ≤ x9) (u9 : x9 ≤ 1522) (l10 : 0 ≤ x10) (u10 : x10 ≤ 1522) (e1 : S 285 i = x9) (e0 : S 12 i = x10) : (True) ∧ (True) ∧ rxICZ274x1_17 S0 ws S i x9 x10 ∧ rxmCZ274x1_17 S0 ws S i x9 x10 < rxmCZ274x1_16 S0 ws S i := by
  obtain ⟨h0, h1, h2, h3, h4, h5, h6, h7, h8, h9, h10, hf, hW⟩ := id hinv
  have hpl := rkPl_sm hin (by decide +kernel) hP
  have gb := (hpl.2.2.2.2 i.toNat (by omega)).1
  have gs := (hpl.2.1.2 i.toNat (by omega)).1
  rw [Int.toNat_of_nonneg (show (0 : Int) ≤ i by omega)] at gb gs
  exact ⟨trivial, trivial, ⟨e1.symm.trans gb, e0.symm.trans gs, hinv⟩, by unfold rxmCZ274x1_16 rxmCZ274x1_17; omega⟩
theorem rxgCZ274x1_16_0 {X : (Nat → Int → Int) → Prop} {S0 : Nat → Int → Int} {ws : List Int} (hP : rxPCZ274x1 S0 ws) : bx_obC rxL X S0 rxCCZ274x1.2.2.1 (rxICZ274x1 S0 ws) (rxmCZ274x1 S0 ws) 16 rxzCZ274x1_16 rxoCZ274x1_16_0 := by
  intro S S_p r r_p hinv hX hin hsm_ hseg
  obtain ⟨I0, I1, h0_, hr_, b_, f_, d_⟩ := bx_cl (evs := [(0, (0, 12), (8, 0), .inr (3, (10, 0))), (0, (0, 285), (8, 0), .inr (3, (9, 0)))]) (fvs := []) hseg (by decide +kernel) (by decide +kernel)
  have hinv : rxICZ274x1_16 S0 ws S (r 8) := hinv
  rw [← hr_ 8 (by decide)] at hinv
  obtain ⟨⟨l8, u8⟩, ⟨l9, u9⟩, ⟨l10, u10⟩, -⟩ := b_
  obtain ⟨e0, ⟨e1, w_⟩⟩ := d_
  subst w_
  have g := rxcCZ274x1_16_0 hP hin I0 hinv l8 u8 l9 u9 l10 u10 e1 e0
  refine ⟨bx_narP_ok (l := []) g.1, bx_nfP_ok h0_ (fvs := []) (by decide +kernel) g.2.1, ?_, ?_⟩
  · show rxICZ274x1_17 S0 ws S_p (bx_val [(0, 0), (0, 0), (0, 0), (0, 0), (0, 0), (0, 0), (0, 0), (0, 0), (8, 0), (9, 0), (10, 0)] r_p 8) (bx_val [(0, 0), (0, 0), (0, 0), (0, 0), (0, 0), (0, 0), (0, 0), (0, 0), (8, 0), (9, 0), (10, 0)] r_p 9) (bx_val [(0, 0), (0, 0), (0, 0), (0, 0), (0, 0), (0, 0), (0, 0), (0, 0), (8, 0), (9, 0), (10, 0)] r_p 10)
    rw [bx_val_x (n := 8) (e := (8, 0)) h0_ rfl, bx_val_x (n := 9) (e := (9, 0)) h0_ rfl, bx_val_x (n := 10) (e := (10, 0)) h0_ rfl]
    exact g.2.2.1
  · show rxmCZ274x1_17 S0 ws S_p (bx_val [(0, 0), (0, 0), (0, 0), (0, 0), (0, 0), (0, 0), (0, 0), (0, 0), (8, 0), (9, 0), (10, 0)] r_p 8) (bx_val [(0, 0), (0, 0), (0, 0), (0, 0), (0, 0), (0, 0), (0, 0), (0, 0), (8, 0), (9, 0), (10, 0)] r_p 9) (bx_val [(0, 0), (0, 0), (0, 0), (0, 0), (0, 0), (0, 0), (0, 0), (0, 0), (8, 0), (9, 0), (10, 0)] r_p 10) < rxmCZ274x1_16 S0 ws S_p (r 8)
    rw [bx_val_x (n := 8) (e := (8, 0)) h0_ rfl, bx_val_x (n := 9) (e := (9, 0)) h0_ rfl, bx_val_x (n := 10) (e := (10, 0)) h0_ rfl, ← hr_ 8 (by decide)]
    exact g.2.2.2
theorem rxcCZ274x1_16_1 {S0 : Nat → Int → Int} {ws : List Int} {S : Nat → Int → Int} {i x9 : Int} (hP : rxPCZ274x1 S0 ws) (hin : bx_same rxL (bx_mdl rxCCZ274x1.2.2.1) S0 S) (I0 : bx_Inv rxL S) (hinv : rxICZ274x1_16 S0 ws S i) (l8 : 12 ≤ i) (u8 : i ≤ 12) (l9 : 0 ≤ x9) (u9 : x9 ≤ 12) (e1 : S 1 10 = x9) : (True) ∧ (True) ∧ rxICZ274x1_19 S0 ws (bx_up S 274 10 x9) ∧ rxmCZ274x1_19 S0 ws (bx_up S 274 10 x9) < rxmCZ274x1_16 S0 ws S i := by
  have ei : i = 12 := by omega
  subst ei
  obtain ⟨h0, h1, h2, h3, h4, h5, h6, h7, h8, h9, h10, hf, hW⟩ := hinv
  refine ⟨trivial, trivial, ⟨(bx_up_ne (by omega)).trans (h0), fun n hn => (bx_up_ne (by omega)).trans (h1 n hn), fun n hn => (bx_up_ne (by omega)).trans (h2 n hn), (bx_up_ne (by omega)).trans (h3), fun n hn => (bx_up_ne (by omega)).trans (h4 n hn), fun n hn => (bx_up_ne (by omega)).trans (h5 n hn), fun n hn => (bx_up_ne (by omega)).trans (h6 n hn), (bx_up_ne (by omega)).trans (h7), fun n hn => (bx_up_ne (by omega)).trans (h8 n hn), fun n hn => (bx_up_ne (by omega)).trans (h9 n hn), fun n hn => (bx_up_ne (by omega)).trans (h10 n hn), bx_up_at.trans ((e1).symm.trans (hf 1 10 (by decide) (by decide))), fun p n hp hi => (bx_up_ne (fun h => by have e := h.1; subst e; revert hp; decide)).trans (hf p n hp hi), ?_⟩, by unfold rxmCZ274x1_16 rxmCZ274x1_19; omega⟩
  exact rkWt4_ne (by unfold rkTb; omega) hW (fun p j hp => by have hp : (23 ≤ p ∧ p < 137) ∨ (160 ≤ p ∧ p < 274) ∨ (296 ≤ p ∧ p < 410) := hp; exact (bx_up_ne (by omega)))
theorem rxgCZ274x1_16_1 {X : (Nat → Int → Int) → Prop} {S0 : Nat → Int → Int} {ws : List Int} (hP : rxPCZ274x1 S0 ws) : bx_obC rxL X S0 rxCCZ274x1.2.2.1 (rxICZ274x1 S0 ws) (rxmCZ274x1 S0 ws) 16 rxzCZ274x1_16 rxoCZ274x1_16_1 := by
  intro S S_p r r_p hinv hX hin hsm_ hseg
  obtain ⟨I0, I1, h0_, hr_, b_, f_, d_⟩ := bx_cl (evs := [(1, (0, 274), (0, 10), .inr (0, (9, 0))), (0, (0, 1), (0, 10), .inr (0, (9, 0)))]) (fvs := []) hseg (by decide +kernel) (by decide +kernel)
  have hinv : rxICZ274x1_16 S0 ws S (r 8) := hinv
  rw [← hr_ 8 (by decide)] at hinv
  obtain ⟨⟨l8, u8⟩, ⟨l9, u9⟩, -⟩ := b_
  obtain ⟨T0, ⟨e1, w_⟩, w0⟩ := d_
  subst w0
  subst w_
  have g := rxcCZ274x1_16_1 hP hin I0 hinv l8 u8 l9 u9 e1
  refine ⟨bx_narP_ok (l := []) g.1, bx_nfP_ok h0_ (fvs := []) (by decide +kernel) g.2.1, ?_, ?_⟩
  · show rxICZ274x1_19 S0 ws (bx_up T0 274 (10) (r_p 9))
    exact g.2.2.1
  · show rxmCZ274x1_19 S0 ws (bx_up T0 274 (10) (r_p 9)) < rxmCZ274x1_16 S0 ws T0 (r 8)
    rw [← hr_ 8 (by decide)]
    exact g.2.2.2
theorem rxcCZ274x1_18_0 {S0 : Nat → Int → Int} {ws : List Int} {S : Nat → Int → Int} {i rp rq : Int} (hP : rxPCZ274x1 S0 ws) (hin : bx_same rxL (bx_mdl rxCCZ274x1.2.2.1) S0 S) (I0 : bx_Inv rxL S) (hinv : rxICZ274x1_18 S0 ws S i rp rq) (l8 : 0 ≤ i) (u8 : i ≤ 11) (l9 : 0 ≤ rp) (u9 : rp ≤ 1522) (l10 : 0 ≤ rq) (u10 : rq ≤ 1522) : (True) ∧ (True) ∧ rxICZ274x1_16 S0 ws S (i + 1) ∧ rxmCZ274x1_16 S0 ws S (i + 1) < rxmCZ274x1_18 S0 ws S i rp rq := by
  exact ⟨trivial, trivial, hinv, by unfold rxmCZ274x1_18 rxmCZ274x1_16; omega⟩
theorem rxgCZ274x1_18_0 {X : (Nat → Int → Int) → Prop} {S0 : Nat → Int → Int} {ws : List Int} (hP : rxPCZ274x1 S0 ws) : bx_obC rxL X S0 rxCCZ274x1.2.2.1 (rxICZ274x1 S0 ws) (rxmCZ274x1 S0 ws) 18 rxzCZ274x1_18 rxoCZ274x1_18_0 := by
  intro S S_p r r_p hinv hX hin hsm_ hseg
  obtain ⟨I0, I1, h0_, hr_, b_, f_, d_⟩ := bx_cl (evs := []) (fvs := []) hseg (by decide +kernel) (by decide +kernel)
  have hinv : rxICZ274x1_18 S0 ws S (r 8) (r 9) (r 10) := hinv
  rw [← hr_ 8 (by decide), ← hr_ 9 (by decide), ← hr_ 10 (by decide)] at hinv
  obtain ⟨⟨l8, u8⟩, ⟨l9, u9⟩, ⟨l10, u10⟩, -⟩ := b_
  have w_ := d_
  subst w_
  have g := rxcCZ274x1_18_0 hP hin I0 hinv l8 u8 l9 u9 l10 u10
  refine ⟨bx_narP_ok (l := []) g.1, bx_nfP_ok h0_ (fvs := []) (by decide +kernel) g.2.1, ?_, ?_⟩
  · show rxICZ274x1_16 S0 ws S_p (bx_val [(0, 0), (0, 0), (0, 0), (0, 0), (0, 0), (0, 0), (0, 0), (0, 0), (8, 1)] r_p 8)
    rw [bx_val_x (n := 8) (e := (8, 1)) h0_ rfl]
    exact g.2.2.1
  · show rxmCZ274x1_16 S0 ws S_p (bx_val [(0, 0), (0, 0), (0, 0), (0, 0), (0, 0), (0, 0), (0, 0), (0, 0), (8, 1)] r_p 8) < rxmCZ274x1_18 S0 ws S_p (r 8) (r 9) (r 10)
    rw [bx_val_x (n := 8) (e := (8, 1)) h0_ rfl, ← hr_ 8 (by decide), ← hr_ 9 (by decide), ← hr_ 10 (by decide)]
    exact g.2.2.2
theorem rxcCZ274x1_20_0 {S0 : Nat → Int → Int} {ws : List Int} {S : Nat → Int → Int} (hP : rxPCZ274x1 S0 ws) (hin : bx_same rxL (bx_mdl rxCCZ274x1.2.2.1) S0 S) (I0 : bx_Inv rxL S) (hinv : rxICZ274x1_20 S0 ws S)  : (True) ∧ (True) ∧ rxICZ274x1_21 S0 ws S ∧ rxmCZ274x1_21 S0 ws S < rxmCZ274x1_20 S0 ws S := by
  exact ⟨trivial, trivial, hinv, by unfold rxmCZ274x1_20 rxmCZ274x1_21; omega⟩
theorem rxgCZ274x1_20_0 {X : (Nat → Int → Int) → Prop} {S0 : Nat → Int → Int} {ws : List Int} (hP : rxPCZ274x1 S0 ws) : bx_obC rxL X S0 rxCCZ274x1.2.2.1 (rxICZ274x1 S0 ws) (rxmCZ274x1 S0 ws) 20 rxzCZ274x1_20 rxoCZ274x1_20_0 := by
  intro S S_p r r_p hinv hX hin hsm_ hseg
  obtain ⟨I0, I1, h0_, hr_, b_, f_, d_⟩ := bx_cl (evs := []) (fvs := []) hseg (by decide +kernel) (by decide +kernel)
  have hinv : rxICZ274x1_20 S0 ws S := hinv
  have w_ := d_
  subst w_
  have g := rxcCZ274x1_20_0 hP hin I0 hinv 
  refine ⟨bx_narP_ok (l := []) g.1, bx_nfP_ok h0_ (fvs := []) (by decide +kernel) g.2.1, ?_, ?_⟩
  · show rxICZ274x1_21 S0 ws S_p
    exact g.2.2.1
  · show rxmCZ274x1_21 S0 ws S_p < rxmCZ274x1_20 S0 ws S_p
    exact g.2.2.2
theorem rxcCZ274x1_22_0 {S0 : Nat → Int → Int} {ws : List Int} {S : Nat → Int → Int} (hP : rxPCZ274x1 S0 ws) (hin : bx_same rxL (bx_mdl rxCCZ274x1.2.2.1) S0 S) (I0 : bx_Inv rxL S) (hinv : rxICZ274x1_22 S0 ws S)  : (True) ∧ (True) ∧ rxICZ274x1_23 S0 ws S ∧ rxmCZ274x1_23 S0 ws S < rxmCZ274x1_22 S0 ws S := by
  exact ⟨trivial, trivial, hinv, by unfold rxmCZ274x1_22 rxmCZ274x1_23; omega⟩
theorem rxgCZ274x1_22_0 {X : (Nat → Int → Int) → Prop} {S0 : Nat → Int → Int} {ws : List Int} (hP : rxPCZ274x1 S0 ws) : bx_obC rxL X S0 rxCCZ274x1.2.2.1 (rxICZ274x1 S0 ws) (rxmCZ274x1 S0 ws) 22 rxzCZ274x1_22 rxoCZ274x1_22_0 := by
  intro S S_p r r_p hinv hX hin hsm_ hseg
  obtain ⟨I0, I1, h0_, hr_, b_, f_, d_⟩ := bx_cl (evs := []) (fvs := []) hseg (by decide +kernel) (by decide +kernel)
  have hinv : rxICZ274x1_22 S0 ws S := hinv
  have w_ := d_
  subst w_
  have g := rxcCZ274x1_22_0 hP hin I0 hinv 
  refine ⟨bx_narP_ok (l := []) g.1, bx_nfP_ok h0_ (fvs := []) (by decide +kernel) g.2.1, ?_, ?_⟩
  · show rxICZ274x1_23 S0 ws S_p
    exact g.2.2.1
  · show rxmCZ274x1_23 S0 ws S_p < rxmCZ274x1_22 S0 ws S_p
    exact g.2.2.2
theorem rxcCZ274x1_24_0 {S0 : Nat → Int → Int} {ws : List Int} {S : Nat → Int → Int} {x8 x9 : Int} (hP : rxPCZ274x1 S0 ws) (hin : bx_same rxL (bx_mdl rxCCZ274x1.2.2.1) S0 S) (I0 : bx_Inv rxL S) (hinv : rxICZ274x1_24 S0 ws S) (l8 : 0 ≤ x8) (u8 : x8 ≤ 6) (l9 : (-1) ≤ x9) (u9 : x9 ≤ 5) (e3 : S 1 14 = x8) (e1 : (bx_up S 274 14 x8) 1 15 = x9) : (True) ∧ (True) ∧ rxICZ274x1_25 S0 ws (bx_up (bx_up S 274 14 x8) 274 15 x9) 0 ∧ rxmCZ274x1_25 S0 ws (bx_up (bx_up S 274 14 x8) 274 15 x9) 0 < rxmCZ274x1_24 S0 ws S := by
  obtain ⟨h0, h1, h2, h3, h4, h5, h6, h7, h8, h9, h10, h11, h12, h13, h14, h15, h16, h17, hf, hW⟩ := hinv
  refine ⟨trivial, trivial, ⟨(bx_up_ne (by omega)).trans ((bx_up_ne (by omega)).trans (h0)), fun n hn => (bx_up_ne (by omega)).trans ((bx_up_ne (by omega)).trans (h1 n hn)), fun n hn => (bx_up_ne (by omega)).trans ((bx_up_ne (by omega)).trans (h2 n hn)), (bx_up_ne (by omega)).trans ((bx_up_ne (by omega)).trans (h3)), fun n hn => (bx_up_ne (by omega)).trans ((bx_up_ne (by omega)).trans (h4 n hn)), fun n hn => (bx_up_ne (by omega)).trans ((bx_up_ne (by omega)).trans (h5 n hn)), fun n hn => (bx_up_ne (by omega)).trans ((bx_up_ne (by omega)).trans (h6 n hn)), (bx_up_ne (by omega)).trans ((bx_up_ne (by omega)).trans (h7)), fun n hn => (bx_up_ne (by omega)).trans ((bx_up_ne (by omega)).trans (h8 n hn)), fun n hn => (bx_up_ne (by omega)).trans ((bx_up_ne (by omega)).trans (h9 n hn)), fun n hn => (bx_up_ne (by omega)).trans ((bx_up_ne (by omega)).trans (h10 n hn)), (bx_up_ne (by omega)).trans ((bx_up_ne (by omega)).trans (h11)), fun n hn => (bx_up_ne (by omega)).trans ((bx_up_ne (by omega)).trans (h12 n hn)), (bx_up_ne (by omega)).trans ((bx_up_ne (by omega)).trans (h13)), fun n hn => (bx_up_ne (by omega)).trans ((bx_up_ne (by omega)).trans (h14 n hn)), fun n hn => (bx_up_ne (by omega)).trans ((bx_up_ne (by omega)).trans (h15 n hn)), fun n hn => (bx_up_ne (by omega)).trans ((bx_up_ne (by omega)).trans (h16 n hn)), fun n hn => (bx_up_ne (by omega)).trans ((bx_up_ne (by omega)).trans (h17 n hn)), ((bx_up_ne (by omega))).trans (bx_up_at.trans ((e3).symm.trans (hf 1 14 (by decide) (by decide)))), bx_up_at.trans (((((bx_up_ne (by omega))).symm.trans e1)).symm.trans (hf 1 15 (by decide) (by decide))), fun p n hp hi => (bx_up_ne (fun h => by have e := h.1; subst e; revert hp; decide)).trans ((bx_up_ne (fun h => by have e := h.1; subst e; revert hp; decide)).trans (hf p n hp hi)), ?_⟩, by unfold rxmCZ274x1_24 rxmCZ274x1_25; omega⟩
  exact rkWt4_ne (by unfold rkTb; omega) hW (fun p j hp => by have hp : (23 ≤ p ∧ p < 137) ∨ (160 ≤ p ∧ p < 274) ∨ (296 ≤ p ∧ p < 410) := hp; exact (bx_up_ne (by omega)).trans ((bx_up_ne (by omega))))
theorem rxgCZ274x1_24_0 {X : (Nat → Int → Int) → Prop} {S0 : Nat → Int → Int} {ws : List Int} (hP : rxPCZ274x1 S0 ws) : bx_obC rxL X S0 rxCCZ274x1.2.2.1 (rxICZ274x1 S0 ws) (rxmCZ274x1 S0 ws) 24 rxzCZ274x1_24 rxoCZ274x1_24_0 := by
  intro S S_p r r_p hinv hX hin hsm_ hseg
  obtain ⟨I0, I1, h0_, hr_, b_, f_, d_⟩ := bx_cl (evs := [(1, (0, 274), (0, 15), .inr (0, (9, 0))), (0, (0, 1), (0, 15), .inr (0, (9, 0))), (1, (0, 274), (0, 14), .inr (0, (8, 0))), (0, (0, 1), (0, 14), .inr (0, (8, 0)))]) (fvs := []) hseg (by decide +kernel) (by decide +kernel)
  have hinv : rxICZ274x1_24 S0 ws S := hinv
  obtain ⟨⟨l8, u8⟩, ⟨l9, u9⟩, -⟩ := b_
  obtain ⟨T0, ⟨e1, ⟨T2, ⟨e3, w_⟩, w2⟩⟩, w0⟩ := d_
  subst w0
  subst w2
  subst w_
  have g := rxcCZ274x1_24_0 hP hin I0 hinv l8 u8 l9 u9 e3 e1
  refine ⟨bx_narP_ok (l := []) g.1, bx_nfP_ok h0_ (fvs := []) (by decide +kernel) g.2.1, ?_, ?_⟩
  · show rxICZ274x1_25 S0 ws (bx_up (bx_up T2 274 (14) (r_p 8)) 274 (15) (r_p 9)) (bx_val [(0, 0), (0, 0), (0, 0), (0, 0), (0, 0), (0, 0), (0, 0), (0, 0), (0, 0)] r_p 8)
    rw [bx_val_x (n := 8) (e := (0, 0)) h0_ rfl]
    exact g.2.2.1
  · show rxmCZ274x1_25 S0 ws (bx_up (bx_up T2 274 (14) (r_p 8)) 274 (15) (r_p 9)) (bx_val [(0, 0), (0, 0), (0, 0), (0, 0), (0, 0), (0, 0), (0, 0), (0, 0), (0, 0)] r_p 8) < rxmCZ274x1_24 S0 ws T2
    rw [bx_val_x (n := 8) (e := (0, 0)) h0_ rfl]
    exact g.2.2.2
theorem rxcCZ274x1_25_0 {S0 : Nat → Int → Int} {ws : List Int} {S : Nat → Int → Int} {i x9 x10 x11 : Int} (hP : rxPCZ274x1 S0 ws) (hin : bx_same rxL (bx_mdl rxCCZ274x1.2.2.1) S0 S) (I0 : bx_Inv rxL S) (hinv : rxICZ274x1_25 S0 ws S i) (l8 : 0 ≤ i) (u8 : i ≤ 5) (l9 : 1 ≤ x9) (u9 : x9 ≤ 6) (l10 : 0 ≤ x10) (u10 : x10 ≤ 1522) (l11 : 0 ≤ x11) (u11 : x11 ≤ 1522) (f0 : i < x9) (e2 : S 274 14 = x9) (e1 : S 293 i = x10) (e0 : S 20 i = x11) : (True) ∧ (True) ∧ rxICZ274x1_26 S0 ws S i x10 x11 ∧ rxmCZ274x1_26 S0 ws S i x10 x11 < rxmCZ274x1_25 S0 ws S i := by
  obtain ⟨h0, h1, h2, h3, h4, h5, h6, h7, h8, h9, h10, h11, h12, h13, h14, h15, h16, h17, h18, h19, hf, hW⟩ := id hinv
  have hpl := rkPl_sm hin (by decide +kernel) hP
  have gb := (hpl.1.2.2.2 i.toNat (by omega)).1
  have gs := (hpl.1.2.1 i.toNat (by omega)).1
  rw [Int.toNat_of_nonneg (show (0 : Int) ≤ i by omega)] at gb gs
  exact ⟨trivial, trivial, ⟨e1.symm.trans gb, e0.symm.trans gs, hinv⟩, by unfold rxmCZ274x1_25 rxmCZ274x1_26; omega⟩
theorem rxgCZ274x1_25_0 {X : (Nat → Int → Int) → Prop} {S0 : Nat → Int → Int} {ws : List Int} (hP : rxPCZ274x1 S0 ws) : bx_obC rxL X S0 rxCCZ274x1.2.2.1 (rxICZ274x1 S0 ws) (rxmCZ274x1 S0 ws) 25 rxzCZ274x1_25 rxoCZ274x1_25_0 := by
  intro S S_p r r_p hinv hX hin hsm_ hseg
  obtain ⟨I0, I1, h0_, hr_, b_, f_, d_⟩ := bx_cl (evs := [(0, (0, 20), (8, 0), .inr (3, (11, 0))), (0, (0, 293), (8, 0), .inr (3, (10, 0))), (0, (0, 274), (0, 14), .inr (0, (9, 0)))]) (fvs := [(0, (8, 0), (9, 0), (0, 0))]) hseg (by decide +kernel) (by decide +kernel)
  have hinv : rxICZ274x1_25 S0 ws S (r 8) := hinv
  rw [← hr_ 8 (by decide)] at hinv
  obtain ⟨⟨l8, u8⟩, ⟨l9, u9⟩, ⟨l10, u10⟩, ⟨l11, u11⟩, -⟩ := b_
  obtain ⟨f0, -⟩ := f_
  obtain ⟨e0, ⟨e1, ⟨e2, w_⟩⟩⟩ := d_
  subst w_
  have g := rxcCZ274x1_25_0 hP hin I0 hinv l8 u8 l9 u9 l10 u10 l11 u11 f0 e2 e1 e0
  refine ⟨bx_narP_ok (l := []) g.1, bx_nfP_ok h0_ (fvs := []) (by decide +kernel) g.2.1, ?_, ?_⟩
  · show rxICZ274x1_26 S0 ws S_p (bx_val [(0, 0), (0, 0), (0, 0), (0, 0), (0, 0), (0, 0), (0, 0), (0, 0), (8, 0), (10, 0), (11, 0)] r_p 8) (bx_val [(0, 0), (0, 0), (0, 0), (0, 0), (0, 0), (0, 0), (0, 0), (0, 0), (8, 0), (10, 0), (11, 0)] r_p 9) (bx_val [(0, 0), (0, 0), (0, 0), (0, 0), (0, 0), (0, 0), (0, 0), (0, 0), (8, 0), (10, 0), (11, 0)] r_p 10)
    rw [bx_val_x (n := 8) (e := (8, 0)) h0_ rfl, bx_val_x (n := 9) (e := (10, 0)) h0_ rfl, bx_val_x (n := 10) (e := (11, 0)) h0_ rfl]
    exact g.2.2.1
  · show rxmCZ274x1_26 S0 ws S_p (bx_val [(0, 0), (0, 0), (0, 0), (0, 0), (0, 0), (0, 0), (0, 0), (0, 0), (8, 0), (10, 0), (11, 0)] r_p 8) (bx_val [(0, 0), (0, 0), (0, 0), (0, 0), (0, 0), (0, 0), (0, 0), (0, 0), (8, 0), (10, 0), (11, 0)] r_p 9) (bx_val [(0, 0), (0, 0), (0, 0), (0, 0), (0, 0), (0, 0), (0, 0), (0, 0), (8, 0), (10, 0), (11, 0)] r_p 10) < rxmCZ274x1_25 S0 ws S_p (r 8)
    rw [bx_val_x (n := 8) (e := (8, 0)) h0_ rfl, bx_val_x (n := 9) (e := (10, 0)) h0_ rfl, bx_val_x (n := 10) (e := (11, 0)) h0_ rfl, ← hr_ 8 (by decide)]
    exact g.2.2.2
theorem rxdCZ274x1_25_0 {S0 : Nat → Int → Int} {ws : List Int} {S : Nat → Int → Int} {i x9 : Int} (hP : rxPCZ274x1 S0 ws) (hin : bx_same rxL (bx_mdl rxCCZ274x1.2.2.1) S0 S) (hin2 : bx_same rxL (bx_mdl rxCCZ274x1.2.2.1) S S) (I0 : bx_Inv rxL S) (I1 : bx_Inv rxL S) (hinv : rxICZ274x1_25 S0 ws S i) (l8 : 0 ≤ i) (u8 : i ≤ 6) (l9 : 0 ≤ x9) (u9 : x9 ≤ 6) (f0 : x9 ≤ i) (e0 : S 274 14 = x9) : (True) ∧ rxPSCZ274x1 S0 ws S none := by
  obtain ⟨h0, h1, h2, h3, h4, h5, h6, h7, h8, h9, h10, h11, h12, h13, h14, h15, h16, h17, h18, h19, hf, hW⟩ := hinv
  refine ⟨trivial, rfl, h0, h1, h2, h3, h4, h5, h6, h7, h8, h9, h10, h11, h12, h13, h14, h15, h16, h17, h18, h19, hf, ?_⟩
  exact ⟨fun k x y => hW.1 k x y, fun k x y => hW.2.1 k x y, fun k x y => hW.2.2.1 k (by
    have z := h18
    omega) y, hW.2.2.2⟩
theorem rxfCZ274x1_25_0 {X : (Nat → Int → Int) → Prop} {S0 : Nat → Int → Int} {ws : List Int} (hP : rxPCZ274x1 S0 ws) : bx_obE rxL X S0 rxCCZ274x1.2.2.1 (rxICZ274x1 S0 ws) (rxPSCZ274x1 S0 ws) 25 rxzCZ274x1_25 rxeCZ274x1_25_0 := by
  intro S S_p r r_p hinv hX hin hsm_ hseg
  obtain ⟨I0, I1, h0_, hr_, b_, f_, d_⟩ := bx_cl (evs := [(0, (0, 274), (0, 14), .inr (0, (9, 0)))]) (fvs := [(1, (9, 0), (8, 0), (0, 0))]) hseg (by decide +kernel) (by decide +kernel)
  have hinv : rxICZ274x1_25 S0 ws S (r 8) := hinv
  rw [← hr_ 8 (by decide)] at hinv
  obtain ⟨⟨l8, u8⟩, ⟨l9, u9⟩, -⟩ := b_
  obtain ⟨f0, -⟩ := f_
  obtain ⟨e0, w_⟩ := d_
  subst w_
  have g := rxdCZ274x1_25_0 hP hin hsm_ I0 I1 hinv l8 u8 l9 u9 f0 e0
  refine ⟨bx_narP_ok (l := []) g.1, ?_⟩
  exact g.2
theorem rxcCZ274x1_27_0 {S0 : Nat → Int → Int} {ws : List Int} {S : Nat → Int → Int} {i rp rq : Int} (hP : rxPCZ274x1 S0 ws) (hin : bx_same rxL (bx_mdl rxCCZ274x1.2.2.1) S0 S) (I0 : bx_Inv rxL S) (hinv : rxICZ274x1_27 S0 ws S i rp rq) (l8 : 0 ≤ i) (u8 : i ≤ 5) (l9 : 0 ≤ rp) (u9 : rp ≤ 1522) (l10 : 0 ≤ rq) (u10 : rq ≤ 1522) : (True) ∧ (True) ∧ rxICZ274x1_25 S0 ws S (i + 1) ∧ rxmCZ274x1_25 S0 ws S (i + 1) < rxmCZ274x1_27 S0 ws S i rp rq := by
  exact ⟨trivial, trivial, hinv, by unfold rxmCZ274x1_27 rxmCZ274x1_25; omega⟩
theorem rxgCZ274x1_27_0 {X : (Nat → Int → Int) → Prop} {S0 : Nat → Int → Int} {ws : List Int} (hP : rxPCZ274x1 S0 ws) : bx_obC rxL X S0 rxCCZ274x1.2.2.1 (rxICZ274x1 S0 ws) (rxmCZ274x1 S0 ws) 27 rxzCZ274x1_27 rxoCZ274x1_27_0 := by
  intro S S_p r r_p hinv hX hin hsm_ hseg
  obtain ⟨I0, I1, h0_, hr_, b_, f_, d_⟩ := bx_cl (evs := []) (fvs := []) hseg (by decide +kernel) (by decide +kernel)
  have hinv : rxICZ274x1_27 S0 ws S (r 8) (r 9) (r 10) := hinv
  rw [← hr_ 8 (by decide), ← hr_ 9 (by decide), ← hr_ 10 (by decide)] at hinv
  obtain ⟨⟨l8, u8⟩, ⟨l9, u9⟩, ⟨l10, u10⟩, -⟩ := b_
  have w_ := d_
  subst w_
  have g := rxcCZ274x1_27_0 hP hin I0 hinv l8 u8 l9 u9 l10 u10
  refine ⟨bx_narP_ok (l := []) g.1, bx_nfP_ok h0_ (fvs := []) (by decide +kernel) g.2.1, ?_, ?_⟩
  · show rxICZ274x1_25 S0 ws S_p (bx_val [(0, 0), (0, 0), (0, 0), (0, 0), (0, 0), (0, 0), (0, 0), (0, 0), (8, 1)] r_p 8)
    rw [bx_val_x (n := 8) (e := (8, 1)) h0_ rfl]
    exact g.2.2.1
  · show rxmCZ274x1_25 S0 ws S_p (bx_val [(0, 0), (0, 0), (0, 0), (0, 0), (0, 0), (0, 0), (0, 0), (0, 0), (8, 1)] r_p 8) < rxmCZ274x1_27 S0 ws S_p (r 8) (r 9) (r 10)
    rw [bx_val_x (n := 8) (e := (8, 1)) h0_ rfl, ← hr_ 8 (by decide), ← hr_ 9 (by decide), ← hr_ 10 (by decide)]
    exact g.2.2.2
theorem rxgCCZ274x1 {X : (Nat → Int → Int) → Prop} {S0 : Nat → Int → Int} {ws : List Int} (hP : rxPCZ274x1 S0 ws) : bx_allI (fun i q => rxUCZ274x1 q = true ∨ bx_allP (fun o => bx_obC rxL X S0 rxCCZ274x1.2.2.1 (rxICZ274x1 S0 ws) (rxmCZ274x1 S0 ws) i q.1 o) q.2.1) 0 rxYCZ274x1 := ⟨Or.inr ⟨rxgCZ274x1_0_0 hP, trivial⟩, Or.inl rfl, Or.inr ⟨rxgCZ274x1_2_0 hP, trivial⟩, Or.inl rfl, Or.inr ⟨rxgCZ274x1_4_0 hP, trivial⟩, Or.inr ⟨rxgCZ274x1_5_0 hP, rxgCZ274x1_5_1 hP, trivial⟩, Or.inl rfl, Or.inr ⟨rxgCZ274x1_7_0 hP, trivial⟩, Or.inl rfl, Or.inr ⟨rxgCZ274x1_9_0 hP, trivial⟩, Or.inl rfl, Or.inr ⟨rxgCZ274x1_11_0 hP, trivial⟩, Or.inl rfl, Or.inr ⟨rxgCZ274x1_13_0 hP, trivial⟩, Or.inl rfl, Or.inr ⟨rxgCZ274x1_15_0 hP, trivial⟩, Or.inr ⟨rxgCZ274x1_16_0 hP, rxgCZ274x1_16_1 hP, trivial⟩, Or.inl rfl, Or.inr ⟨rxgCZ274x1_18_0 hP, trivial⟩, Or.inl rfl, Or.inr ⟨rxgCZ274x1_20_0 hP, trivial⟩, Or.inl rfl, Or.inr ⟨rxgCZ274x1_22_0 hP, trivial⟩, Or.inl rfl, Or.inr ⟨rxgCZ274x1_24_0 hP, trivial⟩, Or.inr ⟨rxgCZ274x1_25_0 hP, trivial⟩, Or.inl rfl, Or.inr ⟨rxgCZ274x1_27_0 hP, trivial⟩, trivial⟩
theorem rxgECZ274x1 {X : (Nat → Int → Int) → Prop} {S0 : Nat → Int → Int} {ws : List Int} (hP : rxPCZ274x1 S0 ws) : bx_allI (fun i q => rxUCZ274x1 q = true ∨ bx_allP (fun E => bx_obE rxL X S0 rxCCZ274x1.2.2.1 (rxICZ274x1 S0 ws) (rxPSCZ274x1 S0 ws) i q.1 E) q.2.2) 0 rxYCZ274x1 := ⟨Or.inr trivial, Or.inl rfl, Or.inr trivial, Or.inl rfl, Or.inr trivial, Or.inr trivial, Or.inl rfl, Or.inr trivial, Or.inl rfl, Or.inr trivial, Or.inl rfl, Or.inr trivial, Or.inl rfl, Or.inr trivial, Or.inl rfl, Or.inr trivial, Or.inr trivial, Or.inl rfl, Or.inr trivial, Or.inl rfl, Or.inr trivial, Or.inl rfl, Or.inr trivial, Or.inl rfl, Or.inr trivial, Or.inr ⟨rxfCZ274x1_25_0 hP, trivial⟩, Or.inl rfl, Or.inr trivial, trivial⟩
theorem rxuCZ274x1 {PX : State → Prop} {Dg : va_G} {A : Nat → Prop} {ad xa : Nat → Nat} {l : Launch} {X : (Nat → Int → Int) → Prop} (hPX : rx_PXOK rxNW A PX) (hX : ∀ S S1 : Nat → Int → Int, X S → bx_same rxL (bx_mdl rxCCZ274x1.2.2.1) S S1 → X S1) (hQSCZ : bx_ConP rxG rxNW rxAO PX Dg rxL X vwCl A ad l rxM42 rxCSCZ rxPSCZ rxPSSCZ) (hQPC278x5 : bx_ConP rxG rxNW rxAO PX Dg rxL X vwCl A ad l rxM108 rxCPC278x5 rxPPC278x5 rxPSPC278x5) (hQDC287x14 : bx_ConP rxG rxNW rxAO PX Dg rxL X vwCl A ad l rxM109 rxCDC287x14 rxPDC287x14 rxPSDC287x14) (hQQCZ : bx_ConP rxG rxNW rxAO PX Dg rxL X vwCl A ad l rxM95 rxCQCZ rxPQCZ rxPSQCZ) {S0 : Nat → Int → Int} {ws : List Int} (hP : rxPCZ274x1 S0 ws) : ∀ (i : Nat) (q : bx_HE), rxYCZ274x1[i]? = some q → rxUCZ274x1 q = true → ∀ {p : Program} {e : Env} {R : Room} {s : State} {m : MethodId} {args : Array Value} {below : List Frame} {meth : Method} {c : Code} {Q : State → Prop} {H0 : Heap}, rx_Fr rxG rxNW rxAO PX p s m args meth c rxM154 → (∀ q, H0.size ≤ q → A q) → H0 = s.heap → rxM154.2.2.2.2.2.2.1 ≤ R.cells → rxM154.2.2.2.2.2.2.2 ≤ R.slots → rxCCZ274x1.2.2.2.1 ≤ R.frames → rxCCZ274x1.2.2.2.1 * 40 ≤ R.locals → bx_Step p l e R s m args below meth c Q Dg rxL X vwCl A xa H0 ad rxM154 rxYCZ274x1 (rxICZ274x1 S0 ws) (rxmCZ274x1 S0 ws) S0 rxCCZ274x1.2.2.1 i q := by
  intro i q hq hus p e R s m args below meth c Q H0 hF hA hH0 hmc hms hd hdl
  match i, hq with
  | 0, hq =>
    cases hq
    exact absurd (show false = true from hus) Bool.false_ne_true
  | 1, hq =>
    cases hq
    exact rx_stepY (i_p := 2) (idx := 86) (P0 := 2) (P1 := 275) (n := 6) (g0 := 0) (g1 := 0) (t := []) hF rfl (Nat.le_trans (by decide) hd) (Nat.le_trans (by decide) hdl) (by decide +kernel) (by decide +kernel) rfl rfl (by decide) (by decide) rfl rfl (by decide) (by decide) rfl rfl (by decide) (by decide) rfl rfl (rxsCZ274x1_1 hP hX)
  | 2, hq =>
    cases hq
    exact absurd (show false = true from hus) Bool.false_ne_true
  | 3, hq =>
    cases hq
    exact rx_stepY (i_p := 4) (idx := 86) (P0 := 3) (P1 := 276) (n := 6) (g0 := 1) (g1 := 1) (t := []) hF rfl (Nat.le_trans (by decide) hd) (Nat.le_trans (by decide) hdl) (by decide +kernel) (by decide +kernel) rfl rfl (by decide) (by decide) rfl rfl (by decide) (by decide) rfl rfl (by decide) (by decide) rfl rfl (rxsCZ274x1_3 hP hX)
  | 4, hq =>
    cases hq
    exact absurd (show false = true from hus) Bool.false_ne_true
  | 5, hq =>
    cases hq
    exact absurd (show false = true from hus) Bool.false_ne_true
  | 6, hq =>
    cases hq
    exact rx_stepC (ins := .invokevirtual 92) (len := 3) (i_p := 7) (M_p := rxM42) (d := rxCCZ274x1.2.2.2.1) (as := [.inr (3, (9, 0)), .inr (3, (10, 0))]) (t := []) (ct := rxCSCZ) hPX hF rfl hA hH0 hmc hms hd hdl (by decide +kernel) rfl rfl (by decide +kernel) (by decide +kernel) hQSCZ (by decide +kernel) rfl (Or.inl ⟨rfl, rfl, rfl⟩) (rxsCZ274x1_6 hP)
  | 7, hq =>
    cases hq
    exact absurd (show false = true from hus) Bool.false_ne_true
  | 8, hq =>
    cases hq
    exact rx_stepC (ins := .invokevirtual 96) (len := 3) (i_p := 9) (M_p := rxM108) (d := rxCCZ274x1.2.2.2.1) (as := [.inr (3, (0, 278)), .inr (3, (0, 5))]) (t := []) (ct := rxCPC278x5) hPX hF rfl hA hH0 hmc hms hd hdl (by decide +kernel) rfl rfl (by decide +kernel) (by decide +kernel) hQPC278x5 (by decide +kernel) rfl (Or.inl ⟨rfl, rfl, rfl⟩) (rxsCZ274x1_8 hP)
  | 9, hq =>
    cases hq
    exact absurd (show false = true from hus) Bool.false_ne_true
  | 10, hq =>
    cases hq
    exact rx_stepY (i_p := 11) (idx := 86) (P0 := 9) (P1 := 282) (n := 12) (g0 := 6) (g1 := 6) (t := []) hF rfl (Nat.le_trans (by decide) hd) (Nat.le_trans (by decide) hdl) (by decide +kernel) (by decide +kernel) rfl rfl (by decide) (by decide) rfl rfl (by decide) (by decide) rfl rfl (by decide) (by decide) rfl rfl (rxsCZ274x1_10 hP hX)
  | 11, hq =>
    cases hq
    exact absurd (show false = true from hus) Bool.false_ne_true
  | 12, hq =>
    cases hq
    exact rx_stepY (i_p := 13) (idx := 86) (P0 := 10) (P1 := 283) (n := 12) (g0 := 7) (g1 := 7) (t := []) hF rfl (Nat.le_trans (by decide) hd) (Nat.le_trans (by decide) hdl) (by decide +kernel) (by decide +kernel) rfl rfl (by decide) (by decide) rfl rfl (by decide) (by decide) rfl rfl (by decide) (by decide) rfl rfl (rxsCZ274x1_12 hP hX)
  | 13, hq =>
    cases hq
    exact absurd (show false = true from hus) Bool.false_ne_true
  | 14, hq =>
    cases hq
    exact rx_stepY (i_p := 15) (idx := 86) (P0 := 11) (P1 := 284) (n := 12) (g0 := 8) (g1 := 8) (t := []) hF rfl (Nat.le_trans (by decide) hd) (Nat.le_trans (by decide) hdl) (by decide +kernel) (by decide +kernel) rfl rfl (by decide) (by decide) rfl rfl (by decide) (by decide) rfl rfl (by decide) (by decide) rfl rfl (rxsCZ274x1_14 hP hX)
  | 15, hq =>
    cases hq
    exact absurd (show false = true from hus) Bool.false_ne_true
  | 16, hq =>
    cases hq
    exact absurd (show false = true from hus) Bool.false_ne_true
  | 17, hq =>
    cases hq
    exact rx_stepC (ins := .invokevirtual 92) (len := 3) (i_p := 18) (M_p := rxM42) (d := rxCCZ274x1.2.2.2.1) (as := [.inr (3, (9, 0)), .inr (3, (10, 0))]) (t := []) (ct := rxCSCZ) hPX hF rfl hA hH0 hmc hms hd hdl (by decide +kernel) rfl rfl (by decide +kernel) (by decide +kernel) hQSCZ (by decide +kernel) rfl (Or.inl ⟨rfl, rfl, rfl⟩) (rxsCZ274x1_17 hP)
  | 18, hq =>
    cases hq
    exact absurd (show false = true from hus) Bool.false_ne_true
  | 19, hq =>
    cases hq
    exact rx_stepY (i_p := 20) (idx := 86) (P0 := 13) (P1 := 286) (n := 12) (g0 := 10) (g1 := 10) (t := []) hF rfl (Nat.le_trans (by decide) hd) (Nat.le_trans (by decide) hdl) (by decide +kernel) (by decide +kernel) rfl rfl (by decide) (by decide) rfl rfl (by decide) (by decide) rfl rfl (by decide) (by decide) rfl rfl (rxsCZ274x1_19 hP hX)
  | 20, hq =>
    cases hq
    exact absurd (show false = true from hus) Bool.false_ne_true
  | 21, hq =>
    cases hq
    exact rx_stepC (ins := .invokevirtual 99) (len := 3) (i_p := 22) (M_p := rxM109) (d := rxCCZ274x1.2.2.2.1) (as := [.inr (3, (0, 287)), .inr (3, (0, 14))]) (t := []) (ct := rxCDC287x14) hPX hF rfl hA hH0 hmc hms hd hdl (by decide +kernel) rfl rfl (by decide +kernel) (by decide +kernel) hQDC287x14 (by decide +kernel) rfl (Or.inl ⟨rfl, rfl, rfl⟩) (rxsCZ274x1_21 hP)
  | 22, hq =>
    cases hq
    exact absurd (show false = true from hus) Bool.false_ne_true
  | 23, hq =>
    cases hq
    exact rx_stepY (i_p := 24) (idx := 86) (P0 := 19) (P1 := 292) (n := 3) (g0 := 15) (g1 := 15) (t := []) hF rfl (Nat.le_trans (by decide) hd) (Nat.le_trans (by decide) hdl) (by decide +kernel) (by decide +kernel) rfl rfl (by decide) (by decide) rfl rfl (by decide) (by decide) rfl rfl (by decide) (by decide) rfl rfl (rxsCZ274x1_23 hP hX)
  | 24, hq =>
    cases hq
    exact absurd (show false = true from hus) Bool.false_ne_true
  | 25, hq =>
    cases hq
    exact absurd (show false = true from hus) Bool.false_ne_true
  | 26, hq =>
    cases hq
    exact rx_stepC (ins := .invokevirtual 102) (len := 3) (i_p := 27) (M_p := rxM95) (d := rxCCZ274x1.2.2.2.1) (as := [.inr (3, (9, 0)), .inr (3, (10, 0))]) (t := []) (ct := rxCQCZ) hPX hF rfl hA hH0 hmc hms hd hdl (by decide +kernel) rfl rfl (by decide +kernel) (by decide +kernel) hQQCZ (by decide +kernel) rfl (Or.inl ⟨rfl, rfl, rfl⟩) (rxsCZ274x1_26 hP)
  | 27, hq =>
    cases hq
    exact absurd (show false = true from hus) Bool.false_ne_true
  | n + 28, hq => cases hq
theorem rxQCZ274x1 {PX : State → Prop} {Dg : va_G} {A : Nat → Prop} {ad xa : Nat → Nat} {l : Launch} {X : (Nat → Int → Int) → Prop} (hPX : rx_PXOK rxNW A PX) (hsl : ∀ s : State, PX s → ∀ o idx n : Nat, rxSl o idx = some n → ∃ tx : String, vk_R (rxNm o) idx tx (ad n) s)
    (hX : ∀ S S_p : Nat → Int → Int, X S → bx_same rxL (bx_mdl rxCCZ274x1.2.2.1) S S_p → X S_p)
    (ih : ∀ (j2 : Nat) (ct2 : bx_Ct) (M2 : rx_Mt), ct2 ∈ rxCnE j2 → ct2.2.2.2.1 + 1 ≤ rxCCZ274x1.2.2.2.1 → rxT.2.2.2.2.2 j2 = some M2 → bx_Con rxG rxNW rxAO PX Dg rxL X vwCl A ad l M2 ct2) (hQSCZ : bx_ConP rxG rxNW rxAO PX Dg rxL X vwCl A ad l rxM42 rxCSCZ rxPSCZ rxPSSCZ) (hQPC278x5 : bx_ConP rxG rxNW rxAO PX Dg rxL X vwCl A ad l rxM108 rxCPC278x5 rxPPC278x5 rxPSPC278x5) (hQDC287x14 : bx_ConP rxG rxNW rxAO PX Dg rxL X vwCl A ad l rxM109 rxCDC287x14 rxPDC287x14 rxPSDC287x14) (hQQCZ : bx_ConP rxG rxNW rxAO PX Dg rxL X vwCl A ad l rxM95 rxCQCZ rxPQCZ rxPSQCZ) : bx_ConP rxG rxNW rxAO PX Dg rxL X vwCl A ad l rxM154 rxCCZ274x1 rxPCZ274x1 rxPSCZ274x1 :=
  rxQof (xa := xa) (Cn := rxCnE) (f := 30000) (j := 154) (tab := rxYCZ274x1) (us := rxUCZ274x1) hPX hsl hX ih rfl rxYcCZ274x1 rxICZ274x1 rxmCZ274x1
    (fun S0 ws r I0 I ht0 ht as he he1 hX0 hI0 hP hs ha => by
      have e := he.symm.trans (show bx_ent0 rxNP rxCCZ274x1.1 bx_I0 [] = some ([(0, 0), (0, 0), (0, 0), (0, 0), (0, 0), (0, 0), (0, 0), (0, 0)], [], [.inr (3, (0, 274)), .inr (3, (0, 1))]) from rfl)
      cases e
      subst ha
      have h0 : r 0 = 0 := hs.1
      show rxICZ274x1_0 S0 _ S0
      refine ⟨rfl, ?_⟩
      simp only [List.map_cons, List.map_nil, bx_xv_ok h0]
      rfl)
    (fun S0 ws hP => rxuCZ274x1 (xa := xa) hPX hX hQSCZ hQPC278x5 hQDC287x14 hQQCZ hP) (fun S0 ws hP => rxgCCZ274x1 hP) (fun S0 ws hP => rxgECZ274x1 hP)
noncomputable def rxCCZ1x274 : bx_Ct := ([(3, (1, 1, 0)), (3, (1, 274, 0))], none, [(2, 0), (5, 0), (6, 0), (6, 4), (10, 0), (10, 5), (10, 10), (10, 14), (10, 15), (1000, 0), (1001, 0), (1003, 0), (1004, 0), (1005, 0), (1006, 0), (1007, 0), (1008, 0), (1010, 0), (1011, 0), (1012, 0), (1013, 0), (1015, 0), (1019, 0), (1020, 0), (1021, 0), (1022, 0), (1024, 0), (1025, 0), (1026, 0), (1027, 0)], 2, [])
noncomputable def rxICZ1x274_0 (S0 : Nat → Int → Int) (ws : List Int) (S : Nat → Int → Int) : Prop := S = S0 ∧ ws = [1, 274]
noncomputable def rxmCZ1x274_0 (S0 : Nat → Int → Int) (ws : List Int) (S : Nat → Int → Int) : Nat := 2000
noncomputable def rxzCZ1x274_0 : rx_Z := ([(0, 0), (0, 0), (0, 0), (0, 0), (0, 0), (0, 0), (0, 0), (0, 0)], [], [], 0, 0, 0, [(0, .inr (3, (0, 1))), (1, .inr (3, (0, 274)))], [])
noncomputable def rxICZ1x274_1 (S0 : Nat → Int → Int) (ws : List Int) (S : Nat → Int → Int) : Prop := S 1 0 = S0 274 0 ∧ (∀ p i : Nat, p ∈ rxFl1 → i < bx_wd (rxL.1 p) → S p (i : Int) = S0 p (i : Int)) ∧ rkWt4 S0 S 23 296 0 0 0
noncomputable def rxmCZ1x274_1 (S0 : Nat → Int → Int) (ws : List Int) (S : Nat → Int → Int) : Nat := 1990
noncomputable def rxzCZ1x274_1 : rx_Z := ([(0, 0), (0, 0), (0, 0), (0, 0), (0, 0), (0, 0), (0, 0), (0, 0)], [], [], 0, 0, 20, [(0, .inr (3, (0, 1))), (1, .inr (3, (0, 274)))], [.inr (0, (0, 6)), .inr (0, (0, 0)), .inr (3, (0, 2)), .inr (0, (0, 0)), .inr (3, (0, 275))])
noncomputable def rxICZ1x274_2 (S0 : Nat → Int → Int) (ws : List Int) (S : Nat → Int → Int) : Prop := S 1 0 = S0 274 0 ∧ (∀ i : Nat, i < 6 → S 2 (i : Int) = S0 275 (i : Int)) ∧ (∀ p i : Nat, p ∈ rxFl1 → i < bx_wd (rxL.1 p) → S p (i : Int) = S0 p (i : Int)) ∧ rkWt4 S0 S 23 296 0 0 0
noncomputable def rxmCZ1x274_2 (S0 : Nat → Int → Int) (ws : List Int) (S : Nat → Int → Int) : Nat := 1985
noncomputable def rxzCZ1x274_2 : rx_Z := ([(0, 0), (0, 0), (0, 0), (0, 0), (0, 0), (0, 0), (0, 0), (0, 0)], [], [], 0, 0, 23, [(0, .inr (3, (0, 1))), (1, .inr (3, (0, 274)))], [])
noncomputable def rxICZ1x274_3 (S0 : Nat → Int → Int) (ws : List Int) (S : Nat → Int → Int) : Prop := S 1 0 = S0 274 0 ∧ (∀ i : Nat, i < 6 → S 2 (i : Int) = S0 275 (i : Int)) ∧ (∀ p i : Nat, p ∈ rxFl1 → i < bx_wd (rxL.1 p) → S p (i : Int) = S0 p (i : Int)) ∧ rkWt4 S0 S 23 296 0 0 0
noncomputable def rxmCZ1x274_3 (S0 : Nat → Int → Int) (ws : List Int) (S : Nat → Int → Int) : Nat := 1980
noncomputable def rxzCZ1x274_3 : rx_Z := ([(0, 0), (0, 0), (0, 0), (0, 0), (0, 0), (0, 0), (0, 0), (0, 0)], [], [], 0, 0, 35, [(0, .inr (3, (0, 1))), (1, .inr (3, (0, 274)))], [.inr (0, (0, 6)), .inr (0, (0, 0)), .inr (3, (0, 3)), .inr (0, (0, 0)), .inr (3, (0, 276))])
noncomputable def rxICZ1x274_4 (S0 : Nat → Int → Int) (ws : List Int) (S : Nat → Int → Int) : Prop := S 1 0 = S0 274 0 ∧ (∀ i : Nat, i < 6 → S 2 (i : Int) = S0 275 (i : Int)) ∧ (∀ i : Nat, i < 6 → S 3 (i : Int) = S0 276 (i : Int)) ∧ (∀ p i : Nat, p ∈ rxFl1 → i < bx_wd (rxL.1 p) → S p (i : Int) = S0 p (i : Int)) ∧ rkWt4 S0 S 23 296 0 0 0
noncomputable def rxmCZ1x274_4 (S0 : Nat → Int → Int) (ws : List Int) (S : Nat → Int → Int) : Nat := 1975
noncomputable def rxzCZ1x274_4 : rx_Z := ([(0, 0), (0, 0), (0, 0), (0, 0), (0, 0), (0, 0), (0, 0), (0, 0)], [], [], 0, 0, 38, [(0, .inr (3, (0, 1))), (1, .inr (3, (0, 274)))], [])
noncomputable def rxICZ1x274_5 (S0 : Nat → Int → Int) (ws : List Int) (S : Nat → Int → Int) (i : Int) : Prop := S 1 0 = S0 274 0 ∧ (∀ i : Nat, i < 6 → S 2 (i : Int) = S0 275 (i : Int)) ∧ (∀ i : Nat, i < 6 → S 3 (i : Int) = S0 276 (i : Int)) ∧ (∀ p i : Nat, p ∈ rxFl1 → i < bx_wd (rxL.1 p) → S p (i : Int) = S0 p (i : Int)) ∧ rkWt4 S0 S 23 296 i 0 0
noncomputable def rxmCZ1x274_5 (S0 : Nat → Int → Int) (ws : List Int) (S : Nat → Int → Int) (i : Int) : Nat := 1670 + 10 * (20 - i).toNat
noncomputable def rxzCZ1x274_5 : rx_Z := ([(0, 0), (0, 0), (0, 0), (0, 0), (0, 0), (0, 0), (0, 0), (0, 0), (0, 6)], [], [], 0, 0, 40, [(0, .inr (3, (0, 1))), (1, .inr (3, (0, 274))), (2, .inr (0, (8, 0)))], [])
noncomputable def rxICZ1x274_6 (S0 : Nat → Int → Int) (ws : List Int) (S : Nat → Int → Int) (i rp rq : Int) : Prop := rp = ((23 + 3 * i.toNat : Nat) : Int) ∧ rq = ((296 + 3 * i.toNat : Nat) : Int) ∧ S 1 0 = S0 274 0 ∧ (∀ i : Nat, i < 6 → S 2 (i : Int) = S0 275 (i : Int)) ∧ (∀ i : Nat, i < 6 → S 3 (i : Int) = S0 276 (i : Int)) ∧ (∀ p i : Nat, p ∈ rxFl1 → i < bx_wd (rxL.1 p) → S p (i : Int) = S0 p (i : Int)) ∧ rkWt4 S0 S 23 296 i 0 0
noncomputable def rxmCZ1x274_6 (S0 : Nat → Int → Int) (ws : List Int) (S : Nat → Int → Int) (i rp rq : Int) : Nat := 1670 + 10 * (20 - i).toNat - 2
noncomputable def rxzCZ1x274_6 : rx_Z := ([(0, 0), (0, 0), (0, 0), (0, 0), (0, 0), (0, 0), (0, 0), (0, 0), (0, 5), (0, 1522), (0, 1522)], [], [(((9, 0), 1000010), .inl none), (((10, 0), 1000010), .inl none)], 0, 0, 58, [(0, .inr (3, (0, 1))), (1, .inr (3, (0, 274))), (2, .inr (0, (8, 0)))], [.inr (3, (10, 0)), .inr (3, (9, 0))])
noncomputable def rxICZ1x274_7 (S0 : Nat → Int → Int) (ws : List Int) (S : Nat → Int → Int) (i rp rq : Int) : Prop := S 1 0 = S0 274 0 ∧ (∀ i : Nat, i < 6 → S 2 (i : Int) = S0 275 (i : Int)) ∧ (∀ i : Nat, i < 6 → S 3 (i : Int) = S0 276 (i : Int)) ∧ (∀ p i : Nat, p ∈ rxFl1 → i < bx_wd (rxL.1 p) → S p (i : Int) = S0 p (i : Int)) ∧ rkWt4 S0 S 23 296 (i + 1) 0 0
noncomputable def rxmCZ1x274_7 (S0 : Nat → Int → Int) (ws : List Int) (S : Nat → Int → Int) (i rp rq : Int) : Nat := 1670 + 10 * (20 - i).toNat - 4
noncomputable def rxzCZ1x274_7 : rx_Z := ([(0, 0), (0, 0), (0, 0), (0, 0), (0, 0), (0, 0), (0, 0), (0, 0), (0, 5), (0, 1522), (0, 1522)], [], [(((9, 0), 1000010), .inl none), (((10, 0), 1000010), .inl none)], 0, 0, 61, [(0, .inr (3, (0, 1))), (1, .inr (3, (0, 274))), (2, .inr (0, (8, 0)))], [])
noncomputable def rxICZ1x274_8 (S0 : Nat → Int → Int) (ws : List Int) (S : Nat → Int → Int) : Prop := S 1 0 = S0 274 0 ∧ (∀ i : Nat, i < 6 → S 2 (i : Int) = S0 275 (i : Int)) ∧ (∀ i : Nat, i < 6 → S 3 (i : Int) = S0 276 (i : Int)) ∧ (∀ p i : Nat, p ∈ rxFl1 → i < bx_wd (rxL.1 p) → S p (i : Int) = S0 p (i : Int)) ∧ rkWt4 S0 S 23 296 6 0 0
noncomputable def rxmCZ1x274_8 (S0 : Nat → Int → Int) (ws : List Int) (S : Nat → Int → Int) : Nat := 1660
noncomputable def rxzCZ1x274_8 : rx_Z := ([(0, 0), (0, 0), (0, 0), (0, 0), (0, 0), (0, 0), (0, 0), (0, 0)], [], [], 0, 0, 75, [(0, .inr (3, (0, 1))), (1, .inr (3, (0, 274))), (2, .inr (0, (0, 6)))], [.inr (3, (0, 278)), .inr (3, (0, 5))])
noncomputable def rxICZ1x274_9 (S0 : Nat → Int → Int) (ws : List Int) (S : Nat → Int → Int) : Prop := S 1 0 = S0 274 0 ∧ (∀ i : Nat, i < 6 → S 2 (i : Int) = S0 275 (i : Int)) ∧ (∀ i : Nat, i < 6 → S 3 (i : Int) = S0 276 (i : Int)) ∧ S 5 0 = S0 278 0 ∧ (∀ i : Nat, i < 8 → S 6 (i : Int) = S0 279 (i : Int)) ∧ (∀ i : Nat, i < 8 → S 7 (i : Int) = S0 280 (i : Int)) ∧ (∀ i : Nat, i < 8 → S 8 (i : Int) = S0 281 (i : Int)) ∧ (∀ p i : Nat, p ∈ rxFl1 → i < bx_wd (rxL.1 p) → S p (i : Int) = S0 p (i : Int)) ∧ rkWt4 S0 S 23 296 6 0 0
noncomputable def rxmCZ1x274_9 (S0 : Nat → Int → Int) (ws : List Int) (S : Nat → Int → Int) : Nat := 1655
noncomputable def rxzCZ1x274_9 : rx_Z := ([(0, 0), (0, 0), (0, 0), (0, 0), (0, 0), (0, 0), (0, 0), (0, 0)], [], [], 0, 0, 78, [(0, .inr (3, (0, 1))), (1, .inr (3, (0, 274))), (2, .inr (0, (0, 6)))], [])
noncomputable def rxICZ1x274_10 (S0 : Nat → Int → Int) (ws : List Int) (S : Nat → Int → Int) : Prop := S 1 0 = S0 274 0 ∧ (∀ i : Nat, i < 6 → S 2 (i : Int) = S0 275 (i : Int)) ∧ (∀ i : Nat, i < 6 → S 3 (i : Int) = S0 276 (i : Int)) ∧ S 5 0 = S0 278 0 ∧ (∀ i : Nat, i < 8 → S 6 (i : Int) = S0 279 (i : Int)) ∧ (∀ i : Nat, i < 8 → S 7 (i : Int) = S0 280 (i : Int)) ∧ (∀ i : Nat, i < 8 → S 8 (i : Int) = S0 281 (i : Int)) ∧ S 1 5 = S0 274 5 ∧ (∀ p i : Nat, p ∈ rxFl1 → i < bx_wd (rxL.1 p) → S p (i : Int) = S0 p (i : Int)) ∧ rkWt4 S0 S 23 296 6 0 0
noncomputable def rxmCZ1x274_10 (S0 : Nat → Int → Int) (ws : List Int) (S : Nat → Int → Int) : Nat := 1650
noncomputable def rxzCZ1x274_10 : rx_Z := ([(0, 0), (0, 0), (0, 0), (0, 0), (0, 0), (0, 0), (0, 0), (0, 0)], [], [], 0, 0, 98, [(0, .inr (3, (0, 1))), (1, .inr (3, (0, 274))), (2, .inr (0, (0, 6)))], [.inr (0, (0, 12)), .inr (0, (0, 0)), .inr (3, (0, 9)), .inr (0, (0, 0)), .inr (3, (0, 282))])
noncomputable def rxICZ1x274_11 (S0 : Nat → Int → Int) (ws : List Int) (S : Nat → Int → Int) : Prop := S 1 0 = S0 274 0 ∧ (∀ i : Nat, i < 6 → S 2 (i : Int) = S0 275 (i : Int)) ∧ (∀ i : Nat, i < 6 → S 3 (i : Int) = S0 276 (i : Int)) ∧ S 5 0 = S0 278 0 ∧ (∀ i : Nat, i < 8 → S 6 (i : Int) = S0 279 (i : Int)) ∧ (∀ i : Nat, i < 8 → S 7 (i : Int) = S0 280 (i : Int)) ∧ (∀ i : Nat, i < 8 → S 8 (i : Int) = S0 281 (i : Int)) ∧ S 1 5 = S0 274 5 ∧ (∀ i : Nat, i < 12 → S 9 (i : Int) = S0 282 (i : Int)) ∧ (∀ p i : Nat, p ∈ rxFl1 → i < bx_wd (rxL.1 p) → S p (i : Int) = S0 p (i : Int)) ∧ rkWt4 S0 S 23 296 6 0 0
noncomputable def rxmCZ1x274_11 (S0 : Nat → Int → Int) (ws : List Int) (S : Nat → Int → Int) : Nat := 1645
noncomputable def rxzCZ1x274_11 : rx_Z := ([(0, 0), (0, 0), (0, 0), (0, 0), (0, 0), (0, 0), (0, 0), (0, 0)], [], [], 0, 0, 101, [(0, .inr (3, (0, 1))), (1, .inr (3, (0, 274))), (2, .inr (0, (0, 6)))], [])
noncomputable def rxICZ1x274_12 (S0 : Nat → Int → Int) (ws : List Int) (S : Nat → Int → Int) : Prop := S 1 0 = S0 274 0 ∧ (∀ i : Nat, i < 6 → S 2 (i : Int) = S0 275 (i : Int)) ∧ (∀ i : Nat, i < 6 → S 3 (i : Int) = S0 276 (i : Int)) ∧ S 5 0 = S0 278 0 ∧ (∀ i : Nat, i < 8 → S 6 (i : Int) = S0 279 (i : Int)) ∧ (∀ i : Nat, i < 8 → S 7 (i : Int) = S0 280 (i : Int)) ∧ (∀ i : Nat, i < 8 → S 8 (i : Int) = S0 281 (i : Int)) ∧ S 1 5 = S0 274 5 ∧ (∀ i : Nat, i < 12 → S 9 (i : Int) = S0 282 (i : Int)) ∧ (∀ p i : Nat, p ∈ rxFl1 → i < bx_wd (rxL.1 p) → S p (i : Int) = S0 p (i : Int)) ∧ rkWt4 S0 S 23 296 6 0 0
noncomputable def rxmCZ1x274_12 (S0 : Nat → Int → Int) (ws : List Int) (S : Nat → Int → Int) : Nat := 1640
noncomputable def rxzCZ1x274_12 : rx_Z := ([(0, 0), (0, 0), (0, 0), (0, 0), (0, 0), (0, 0), (0, 0), (0, 0)], [], [], 0, 0, 113, [(0, .inr (3, (0, 1))), (1, .inr (3, (0, 274))), (2, .inr (0, (0, 6)))], [.inr (0, (0, 12)), .inr (0, (0, 0)), .inr (3, (0, 10)), .inr (0, (0, 0)), .inr (3, (0, 283))])
noncomputable def rxICZ1x274_13 (S0 : Nat → Int → Int) (ws : List Int) (S : Nat → Int → Int) : Prop := S 1 0 = S0 274 0 ∧ (∀ i : Nat, i < 6 → S 2 (i : Int) = S0 275 (i : Int)) ∧ (∀ i : Nat, i < 6 → S 3 (i : Int) = S0 276 (i : Int)) ∧ S 5 0 = S0 278 0 ∧ (∀ i : Nat, i < 8 → S 6 (i : Int) = S0 279 (i : Int)) ∧ (∀ i : Nat, i < 8 → S 7 (i : Int) = S0 280 (i : Int)) ∧ (∀ i : Nat, i < 8 → S 8 (i : Int) = S0 281 (i : Int)) ∧ S 1 5 = S0 274 5 ∧ (∀ i : Nat, i < 12 → S 9 (i : Int) = S0 282 (i : Int)) ∧ (∀ i : Nat, i < 12 → S 10 (i : Int) = S0 283 (i : Int)) ∧ (∀ p i : Nat, p ∈ rxFl1 → i < bx_wd (rxL.1 p) → S p (i : Int) = S0 p (i : Int)) ∧ rkWt4 S0 S 23 296 6 0 0
noncomputable def rxmCZ1x274_13 (S0 : Nat → Int → Int) (ws : List Int) (S : Nat → Int → Int) : Nat := 1635
noncomputable def rxzCZ1x274_13 : rx_Z := ([(0, 0), (0, 0), (0, 0), (0, 0), (0, 0), (0, 0), (0, 0), (0, 0)], [], [], 0, 0, 116, [(0, .inr (3, (0, 1))), (1, .inr (3, (0, 274))), (2, .inr (0, (0, 6)))], [])
noncomputable def rxICZ1x274_14 (S0 : Nat → Int → Int) (ws : List Int) (S : Nat → Int → Int) : Prop := S 1 0 = S0 274 0 ∧ (∀ i : Nat, i < 6 → S 2 (i : Int) = S0 275 (i : Int)) ∧ (∀ i : Nat, i < 6 → S 3 (i : Int) = S0 276 (i : Int)) ∧ S 5 0 = S0 278 0 ∧ (∀ i : Nat, i < 8 → S 6 (i : Int) = S0 279 (i : Int)) ∧ (∀ i : Nat, i < 8 → S 7 (i : Int) = S0 280 (i : Int)) ∧ (∀ i : Nat, i < 8 → S 8 (i : Int) = S0 281 (i : Int)) ∧ S 1 5 = S0 274 5 ∧ (∀ i : Nat, i < 12 → S 9 (i : Int) = S0 282 (i : Int)) ∧ (∀ i : Nat, i < 12 → S 10 (i : Int) = S0 283 (i : Int)) ∧ (∀ p i : Nat, p ∈ rxFl1 → i < bx_wd (rxL.1 p) → S p (i : Int) = S0 p (i : Int)) ∧ rkWt4 S0 S 23 296 6 0 0
noncomputable def rxmCZ1x274_14 (S0 : Nat → Int → Int) (ws : List Int) (S : Nat → Int → Int) : Nat := 1630
noncomputable def rxzCZ1x274_14 : rx_Z := ([(0, 0), (0, 0), (0, 0), (0, 0), (0, 0), (0, 0), (0, 0), (0, 0)], [], [], 0, 0, 128, [(0, .inr (3, (0, 1))), (1, .inr (3, (0, 274))), (2, .inr (0, (0, 6)))], [.inr (0, (0, 12)), .inr (0, (0, 0)), .inr (3, (0, 11)), .inr (0, (0, 0)), .inr (3, (0, 284))])
noncomputable def rxICZ1x274_15 (S0 : Nat → Int → Int) (ws : List Int) (S : Nat → Int → Int) : Prop := S 1 0 = S0 274 0 ∧ (∀ i : Nat, i < 6 → S 2 (i : Int) = S0 275 (i : Int)) ∧ (∀ i : Nat, i < 6 → S 3 (i : Int) = S0 276 (i : Int)) ∧ S 5 0 = S0 278 0 ∧ (∀ i : Nat, i < 8 → S 6 (i : Int) = S0 279 (i : Int)) ∧ (∀ i : Nat, i < 8 → S 7 (i : Int) = S0 280 (i : Int)) ∧ (∀ i : Nat, i < 8 → S 8 (i : Int) = S0 281 (i : Int)) ∧ S 1 5 = S0 274 5 ∧ (∀ i : Nat, i < 12 → S 9 (i : Int) = S0 282 (i : Int)) ∧ (∀ i : Nat, i < 12 → S 10 (i : Int) = S0 283 (i : Int)) ∧ (∀ i : Nat, i < 12 → S 11 (i : Int) = S0 284 (i : Int)) ∧ (∀ p i : Nat, p ∈ rxFl1 → i < bx_wd (rxL.1 p) → S p (i : Int) = S0 p (i : Int)) ∧ rkWt4 S0 S 23 296 6 0 0
noncomputable def rxmCZ1x274_15 (S0 : Nat → Int → Int) (ws : List Int) (S : Nat → Int → Int) : Nat := 1625
noncomputable def rxzCZ1x274_15 : rx_Z := ([(0, 0), (0, 0), (0, 0), (0, 0), (0, 0), (0, 0), (0, 0), (0, 0)], [], [], 0, 0, 131, [(0, .inr (3, (0, 1))), (1, .inr (3, (0, 274))), (2, .inr (0, (0, 6)))], [])
noncomputable def rxICZ1x274_16 (S0 : Nat → Int → Int) (ws : List Int) (S : Nat → Int → Int) (i : Int) : Prop := S 1 0 = S0 274 0 ∧ (∀ i : Nat, i < 6 → S 2 (i : Int) = S0 275 (i : Int)) ∧ (∀ i : Nat, i < 6 → S 3 (i : Int) = S0 276 (i : Int)) ∧ S 5 0 = S0 278 0 ∧ (∀ i : Nat, i < 8 → S 6 (i : Int) = S0 279 (i : Int)) ∧ (∀ i : Nat, i < 8 → S 7 (i : Int) = S0 280 (i : Int)) ∧ (∀ i : Nat, i < 8 → S 8 (i : Int) = S0 281 (i : Int)) ∧ S 1 5 = S0 274 5 ∧ (∀ i : Nat, i < 12 → S 9 (i : Int) = S0 282 (i : Int)) ∧ (∀ i : Nat, i < 12 → S 10 (i : Int) = S0 283 (i : Int)) ∧ (∀ i : Nat, i < 12 → S 11 (i : Int) = S0 284 (i : Int)) ∧ (∀ p i : Nat, p ∈ rxFl1 → i < bx_wd (rxL.1 p) → S p (i : Int) = S0 p (i : Int)) ∧ rkWt4 S0 S 23 296 6 i 0
noncomputable def rxmCZ1x274_16 (S0 : Nat → Int → Int) (ws : List Int) (S : Nat → Int → Int) (i : Int) : Nat := 1320 + 10 * (20 - i).toNat
noncomputable def rxzCZ1x274_16 : rx_Z := ([(0, 0), (0, 0), (0, 0), (0, 0), (0, 0), (0, 0), (0, 0), (0, 0), (0, 12)], [], [], 0, 0, 133, [(0, .inr (3, (0, 1))), (1, .inr (3, (0, 274))), (2, .inr (0, (8, 0)))], [])
noncomputable def rxICZ1x274_17 (S0 : Nat → Int → Int) (ws : List Int) (S : Nat → Int → Int) (i rp rq : Int) : Prop := rp = ((41 + 3 * i.toNat : Nat) : Int) ∧ rq = ((314 + 3 * i.toNat : Nat) : Int) ∧ S 1 0 = S0 274 0 ∧ (∀ i : Nat, i < 6 → S 2 (i : Int) = S0 275 (i : Int)) ∧ (∀ i : Nat, i < 6 → S 3 (i : Int) = S0 276 (i : Int)) ∧ S 5 0 = S0 278 0 ∧ (∀ i : Nat, i < 8 → S 6 (i : Int) = S0 279 (i : Int)) ∧ (∀ i : Nat, i < 8 → S 7 (i : Int) = S0 280 (i : Int)) ∧ (∀ i : Nat, i < 8 → S 8 (i : Int) = S0 281 (i : Int)) ∧ S 1 5 = S0 274 5 ∧ (∀ i : Nat, i < 12 → S 9 (i : Int) = S0 282 (i : Int)) ∧ (∀ i : Nat, i < 12 → S 10 (i : Int) = S0 283 (i : Int)) ∧ (∀ i : Nat, i < 12 → S 11 (i : Int) = S0 284 (i : Int)) ∧ (∀ p i : Nat, p ∈ rxFl1 → i < bx_wd (rxL.1 p) → S p (i : Int) = S0 p (i : Int)) ∧ rkWt4 S0 S 23 296 6 i 0
noncomputable def rxmCZ1x274_17 (S0 : Nat → Int → Int) (ws : List Int) (S : Nat → Int → Int) (i rp rq : Int) : Nat := 1320 + 10 * (20 - i).toNat - 2
noncomputable def rxzCZ1x274_17 : rx_Z := ([(0, 0), (0, 0), (0, 0), (0, 0), (0, 0), (0, 0), (0, 0), (0, 0), (0, 11), (0, 1522), (0, 1522)], [], [(((9, 0), 1000010), .inl none), (((10, 0), 1000010), .inl none)], 0, 0, 151, [(0, .inr (3, (0, 1))), (1, .inr (3, (0, 274))), (2, .inr (0, (8, 0)))], [.inr (3, (10, 0)), .inr (3, (9, 0))])
noncomputable def rxICZ1x274_18 (S0 : Nat → Int → Int) (ws : List Int) (S : Nat → Int → Int) (i rp rq : Int) : Prop := S 1 0 = S0 274 0 ∧ (∀ i : Nat, i < 6 → S 2 (i : Int) = S0 275 (i : Int)) ∧ (∀ i : Nat, i < 6 → S 3 (i : Int) = S0 276 (i : Int)) ∧ S 5 0 = S0 278 0 ∧ (∀ i : Nat, i < 8 → S 6 (i : Int) = S0 279 (i : Int)) ∧ (∀ i : Nat, i < 8 → S 7 (i : Int) = S0 280 (i : Int)) ∧ (∀ i : Nat, i < 8 → S 8 (i : Int) = S0 281 (i : Int)) ∧ S 1 5 = S0 274 5 ∧ (∀ i : Nat, i < 12 → S 9 (i : Int) = S0 282 (i : Int)) ∧ (∀ i : Nat, i < 12 → S 10 (i : Int) = S0 283 (i : Int)) ∧ (∀ i : Nat, i < 12 → S 11 (i : Int) = S0 284 (i : Int)) ∧ (∀ p i : Nat, p ∈ rxFl1 → i < bx_wd (rxL.1 p) → S p (i : Int) = S0 p (i : Int)) ∧ rkWt4 S0 S 23 296 6 (i + 1) 0
noncomputable def rxmCZ1x274_18 (S0 : Nat → Int → Int) (ws : List Int) (S : Nat → Int → Int) (i rp rq : Int) : Nat := 1320 + 10 * (20 - i).toNat - 4
noncomputable def rxzCZ1x274_18 : rx_Z := ([(0, 0), (0, 0), (0, 0), (0, 0), (0, 0), (0, 0), (0, 0), (0, 0), (0, 11), (0, 1522), (0, 1522)], [], [(((9, 0), 1000010), .inl none), (((10, 0), 1000010), .inl none)], 0, 0, 154, [(0, .inr (3, (0, 1))), (1, .inr (3, (0, 274))), (2, .inr (0, (8, 0)))], [])
noncomputable def rxICZ1x274_19 (S0 : Nat → Int → Int) (ws : List Int) (S : Nat → Int → Int) : Prop := S 1 0 = S0 274 0 ∧ (∀ i : Nat, i < 6 → S 2 (i : Int) = S0 275 (i : Int)) ∧ (∀ i : Nat, i < 6 → S 3 (i : Int) = S0 276 (i : Int)) ∧ S 5 0 = S0 278 0 ∧ (∀ i : Nat, i < 8 → S 6 (i : Int) = S0 279 (i : Int)) ∧ (∀ i : Nat, i < 8 → S 7 (i : Int) = S0 280 (i : Int)) ∧ (∀ i : Nat, i < 8 → S 8 (i : Int) = S0 281 (i : Int)) ∧ S 1 5 = S0 274 5 ∧ (∀ i : Nat, i < 12 → S 9 (i : Int) = S0 282 (i : Int)) ∧ (∀ i : Nat, i < 12 → S 10 (i : Int) = S0 283 (i : Int)) ∧ (∀ i : Nat, i < 12 → S 11 (i : Int) = S0 284 (i : Int)) ∧ S 1 10 = S0 274 10 ∧ (∀ p i : Nat, p ∈ rxFl1 → i < bx_wd (rxL.1 p) → S p (i : Int) = S0 p (i : Int)) ∧ rkWt4 S0 S 23 296 6 12 0
noncomputable def rxmCZ1x274_19 (S0 : Nat → Int → Int) (ws : List Int) (S : Nat → Int → Int) : Nat := 1310
noncomputable def rxzCZ1x274_19 : rx_Z := ([(0, 0), (0, 0), (0, 0), (0, 0), (0, 0), (0, 0), (0, 0), (0, 0)], [], [], 0, 0, 180, [(0, .inr (3, (0, 1))), (1, .inr (3, (0, 274))), (2, .inr (0, (0, 12)))], [.inr (0, (0, 12)), .inr (0, (0, 0)), .inr (3, (0, 13)), .inr (0, (0, 0)), .inr (3, (0, 286))])
noncomputable def rxICZ1x274_20 (S0 : Nat → Int → Int) (ws : List Int) (S : Nat → Int → Int) : Prop := S 1 0 = S0 274 0 ∧ (∀ i : Nat, i < 6 → S 2 (i : Int) = S0 275 (i : Int)) ∧ (∀ i : Nat, i < 6 → S 3 (i : Int) = S0 276 (i : Int)) ∧ S 5 0 = S0 278 0 ∧ (∀ i : Nat, i < 8 → S 6 (i : Int) = S0 279 (i : Int)) ∧ (∀ i : Nat, i < 8 → S 7 (i : Int) = S0 280 (i : Int)) ∧ (∀ i : Nat, i < 8 → S 8 (i : Int) = S0 281 (i : Int)) ∧ S 1 5 = S0 274 5 ∧ (∀ i : Nat, i < 12 → S 9 (i : Int) = S0 282 (i : Int)) ∧ (∀ i : Nat, i < 12 → S 10 (i : Int) = S0 283 (i : Int)) ∧ (∀ i : Nat, i < 12 → S 11 (i : Int) = S0 284 (i : Int)) ∧ S 1 10 = S0 274 10 ∧ (∀ i : Nat, i < 12 → S 13 (i : Int) = S0 286 (i : Int)) ∧ (∀ p i : Nat, p ∈ rxFl1 → i < bx_wd (rxL.1 p) → S p (i : Int) = S0 p (i : Int)) ∧ rkWt4 S0 S 23 296 6 12 0
noncomputable def rxmCZ1x274_20 (S0 : Nat → Int → Int) (ws : List Int) (S : Nat → Int → Int) : Nat := 1305
noncomputable def rxzCZ1x274_20 : rx_Z := ([(0, 0), (0, 0), (0, 0), (0, 0), (0, 0), (0, 0), (0, 0), (0, 0)], [], [], 0, 0, 183, [(0, .inr (3, (0, 1))), (1, .inr (3, (0, 274))), (2, .inr (0, (0, 12)))], [])
noncomputable def rxICZ1x274_21 (S0 : Nat → Int → Int) (ws : List Int) (S : Nat → Int → Int) : Prop := S 1 0 = S0 274 0 ∧ (∀ i : Nat, i < 6 → S 2 (i : Int) = S0 275 (i : Int)) ∧ (∀ i : Nat, i < 6 → S 3 (i : Int) = S0 276 (i : Int)) ∧ S 5 0 = S0 278 0 ∧ (∀ i : Nat, i < 8 → S 6 (i : Int) = S0 279 (i : Int)) ∧ (∀ i : Nat, i < 8 → S 7 (i : Int) = S0 280 (i : Int)) ∧ (∀ i : Nat, i < 8 → S 8 (i : Int) = S0 281 (i : Int)) ∧ S 1 5 = S0 274 5 ∧ (∀ i : Nat, i < 12 → S 9 (i : Int) = S0 282 (i : Int)) ∧ (∀ i : Nat, i < 12 → S 10 (i : Int) = S0 283 (i : Int)) ∧ (∀ i : Nat, i < 12 → S 11 (i : Int) = S0 284 (i : Int)) ∧ S 1 10 = S0 274 10 ∧ (∀ i : Nat, i < 12 → S 13 (i : Int) = S0 286 (i : Int)) ∧ (∀ p i : Nat, p ∈ rxFl1 → i < bx_wd (rxL.1 p) → S p (i : Int) = S0 p (i : Int)) ∧ rkWt4 S0 S 23 296 6 12 0
noncomputable def rxmCZ1x274_21 (S0 : Nat → Int → Int) (ws : List Int) (S : Nat → Int → Int) : Nat := 1300
noncomputable def rxzCZ1x274_21 : rx_Z := ([(0, 0), (0, 0), (0, 0), (0, 0), (0, 0), (0, 0), (0, 0), (0, 0)], [], [], 0, 0, 191, [(0, .inr (3, (0, 1))), (1, .inr (3, (0, 274))), (2, .inr (0, (0, 12)))], [.inr (3, (0, 287)), .inr (3, (0, 14))])
noncomputable def rxICZ1x274_22 (S0 : Nat → Int → Int) (ws : List Int) (S : Nat → Int → Int) : Prop := S 1 0 = S0 274 0 ∧ (∀ i : Nat, i < 6 → S 2 (i : Int) = S0 275 (i : Int)) ∧ (∀ i : Nat, i < 6 → S 3 (i : Int) = S0 276 (i : Int)) ∧ S 5 0 = S0 278 0 ∧ (∀ i : Nat, i < 8 → S 6 (i : Int) = S0 279 (i : Int)) ∧ (∀ i : Nat, i < 8 → S 7 (i : Int) = S0 280 (i : Int)) ∧ (∀ i : Nat, i < 8 → S 8 (i : Int) = S0 281 (i : Int)) ∧ S 1 5 = S0 274 5 ∧ (∀ i : Nat, i < 12 → S 9 (i : Int) = S0 282 (i : Int)) ∧ (∀ i : Nat, i < 12 → S 10 (i : Int) = S0 283 (i : Int)) ∧ (∀ i : Nat, i < 12 → S 11 (i : Int) = S0 284 (i : Int)) ∧ S 1 10 = S0 274 10 ∧ (∀ i : Nat, i < 12 → S 13 (i : Int) = S0 286 (i : Int)) ∧ S 14 0 = S0 287 0 ∧ (∀ i : Nat, i < 12 → S 15 (i : Int) = S0 288 (i : Int)) ∧ (∀ i : Nat, i < 12 → S 16 (i : Int) = S0 289 (i : Int)) ∧ (∀ i : Nat, i < 12 → S 17 (i : Int) = S0 290 (i : Int)) ∧ (∀ p i : Nat, p ∈ rxFl1 → i < bx_wd (rxL.1 p) → S p (i : Int) = S0 p (i : Int)) ∧ rkWt4 S0 S 23 296 6 12 0
noncomputable def rxmCZ1x274_22 (S0 : Nat → Int → Int) (ws : List Int) (S : Nat → Int → Int) : Nat := 1295
noncomputable def rxzCZ1x274_22 : rx_Z := ([(0, 0), (0, 0), (0, 0), (0, 0), (0, 0), (0, 0), (0, 0), (0, 0)], [], [], 0, 0, 194, [(0, .inr (3, (0, 1))), (1, .inr (3, (0, 274))), (2, .inr (0, (0, 12)))], [])
noncomputable def rxICZ1x274_23 (S0 : Nat → Int → Int) (ws : List Int) (S : Nat → Int → Int) : Prop := S 1 0 = S0 274 0 ∧ (∀ i : Nat, i < 6 → S 2 (i : Int) = S0 275 (i : Int)) ∧ (∀ i : Nat, i < 6 → S 3 (i : Int) = S0 276 (i : Int)) ∧ S 5 0 = S0 278 0 ∧ (∀ i : Nat, i < 8 → S 6 (i : Int) = S0 279 (i : Int)) ∧ (∀ i : Nat, i < 8 → S 7 (i : Int) = S0 280 (i : Int)) ∧ (∀ i : Nat, i < 8 → S 8 (i : Int) = S0 281 (i : Int)) ∧ S 1 5 = S0 274 5 ∧ (∀ i : Nat, i < 12 → S 9 (i : Int) = S0 282 (i : Int)) ∧ (∀ i : Nat, i < 12 → S 10 (i : Int) = S0 283 (i : Int)) ∧ (∀ i : Nat, i < 12 → S 11 (i : Int) = S0 284 (i : Int)) ∧ S 1 10 = S0 274 10 ∧ (∀ i : Nat, i < 12 → S 13 (i : Int) = S0 286 (i : Int)) ∧ S 14 0 = S0 287 0 ∧ (∀ i : Nat, i < 12 → S 15 (i : Int) = S0 288 (i : Int)) ∧ (∀ i : Nat, i < 12 → S 16 (i : Int) = S0 289 (i : Int)) ∧ (∀ i : Nat, i < 12 → S 17 (i : Int) = S0 290 (i : Int)) ∧ (∀ p i : Nat, p ∈ rxFl1 → i < bx_wd (rxL.1 p) → S p (i : Int) = S0 p (i : Int)) ∧ rkWt4 S0 S 23 296 6 12 0
noncomputable def rxmCZ1x274_23 (S0 : Nat → Int → Int) (ws : List Int) (S : Nat → Int → Int) : Nat := 1290
noncomputable def rxzCZ1x274_23 : rx_Z := ([(0, 0), (0, 0), (0, 0), (0, 0), (0, 0), (0, 0), (0, 0), (0, 0)], [], [], 0, 0, 205, [(0, .inr (3, (0, 1))), (1, .inr (3, (0, 274))), (2, .inr (0, (0, 12)))], [.inr (0, (0, 3)), .inr (0, (0, 0)), .inr (3, (0, 19)), .inr (0, (0, 0)), .inr (3, (0, 292))])
noncomputable def rxICZ1x274_24 (S0 : Nat → Int → Int) (ws : List Int) (S : Nat → Int → Int) : Prop := S 1 0 = S0 274 0 ∧ (∀ i : Nat, i < 6 → S 2 (i : Int) = S0 275 (i : Int)) ∧ (∀ i : Nat, i < 6 → S 3 (i : Int) = S0 276 (i : Int)) ∧ S 5 0 = S0 278 0 ∧ (∀ i : Nat, i < 8 → S 6 (i : Int) = S0 279 (i : Int)) ∧ (∀ i : Nat, i < 8 → S 7 (i : Int) = S0 280 (i : Int)) ∧ (∀ i : Nat, i < 8 → S 8 (i : Int) = S0 281 (i : Int)) ∧ S 1 5 = S0 274 5 ∧ (∀ i : Nat, i < 12 → S 9 (i : Int) = S0 282 (i : Int)) ∧ (∀ i : Nat, i < 12 → S 10 (i : Int) = S0 283 (i : Int)) ∧ (∀ i : Nat, i < 12 → S 11 (i : Int) = S0 284 (i : Int)) ∧ S 1 10 = S0 274 10 ∧ (∀ i : Nat, i < 12 → S 13 (i : Int) = S0 286 (i : Int)) ∧ S 14 0 = S0 287 0 ∧ (∀ i : Nat, i < 12 → S 15 (i : Int) = S0 288 (i : Int)) ∧ (∀ i : Nat, i < 12 → S 16 (i : Int) = S0 289 (i : Int)) ∧ (∀ i : Nat, i < 12 → S 17 (i : Int) = S0 290 (i : Int)) ∧ (∀ i : Nat, i < 3 → S 19 (i : Int) = S0 292 (i : Int)) ∧ (∀ p i : Nat, p ∈ rxFl1 → i < bx_wd (rxL.1 p) → S p (i : Int) = S0 p (i : Int)) ∧ rkWt4 S0 S 23 296 6 12 0
noncomputable def rxmCZ1x274_24 (S0 : Nat → Int → Int) (ws : List Int) (S : Nat → Int → Int) : Nat := 1285
noncomputable def rxzCZ1x274_24 : rx_Z := ([(0, 0), (0, 0), (0, 0), (0, 0), (0, 0), (0, 0), (0, 0), (0, 0)], [], [], 0, 0, 208, [(0, .inr (3, (0, 1))), (1, .inr (3, (0, 274))), (2, .inr (0, (0, 12)))], [])
noncomputable def rxICZ1x274_25 (S0 : Nat → Int → Int) (ws : List Int) (S : Nat → Int → Int) (i : Int) : Prop := S 1 0 = S0 274 0 ∧ (∀ i : Nat, i < 6 → S 2 (i : Int) = S0 275 (i : Int)) ∧ (∀ i : Nat, i < 6 → S 3 (i : Int) = S0 276 (i : Int)) ∧ S 5 0 = S0 278 0 ∧ (∀ i : Nat, i < 8 → S 6 (i : Int) = S0 279 (i : Int)) ∧ (∀ i : Nat, i < 8 → S 7 (i : Int) = S0 280 (i : Int)) ∧ (∀ i : Nat, i < 8 → S 8 (i : Int) = S0 281 (i : Int)) ∧ S 1 5 = S0 274 5 ∧ (∀ i : Nat, i < 12 → S 9 (i : Int) = S0 282 (i : Int)) ∧ (∀ i : Nat, i < 12 → S 10 (i : Int) = S0 283 (i : Int)) ∧ (∀ i : Nat, i < 12 → S 11 (i : Int) = S0 284 (i : Int)) ∧ S 1 10 = S0 274 10 ∧ (∀ i : Nat, i < 12 → S 13 (i : Int) = S0 286 (i : Int)) ∧ S 14 0 = S0 287 0 ∧ (∀ i : Nat, i < 12 → S 15 (i : Int) = S0 288 (i : Int)) ∧ (∀ i : Nat, i < 12 → S 16 (i : Int) = S0 289 (i : Int)) ∧ (∀ i : Nat, i < 12 → S 17 (i : Int) = S0 290 (i : Int)) ∧ (∀ i : Nat, i < 3 → S 19 (i : Int) = S0 292 (i : Int)) ∧ S 1 14 = S0 274 14 ∧ S 1 15 = S0 274 15 ∧ (∀ p i : Nat, p ∈ rxFl1 → i < bx_wd (rxL.1 p) → S p (i : Int) = S0 p (i : Int)) ∧ rkWt4 S0 S 23 296 6 12 i
noncomputable def rxmCZ1x274_25 (S0 : Nat → Int → Int) (ws : List Int) (S : Nat → Int → Int) (i : Int) : Nat := 980 + 10 * (20 - i).toNat
noncomputable def rxzCZ1x274_25 : rx_Z := ([(0, 0), (0, 0), (0, 0), (0, 0), (0, 0), (0, 0), (0, 0), (0, 0), (0, 6)], [], [], 0, 0, 226, [(0, .inr (3, (0, 1))), (1, .inr (3, (0, 274))), (2, .inr (0, (8, 0)))], [])
noncomputable def rxICZ1x274_26 (S0 : Nat → Int → Int) (ws : List Int) (S : Nat → Int → Int) (i rp rq : Int) : Prop := rp = ((77 + 10 * i.toNat : Nat) : Int) ∧ rq = ((350 + 10 * i.toNat : Nat) : Int) ∧ S 1 0 = S0 274 0 ∧ (∀ i : Nat, i < 6 → S 2 (i : Int) = S0 275 (i : Int)) ∧ (∀ i : Nat, i < 6 → S 3 (i : Int) = S0 276 (i : Int)) ∧ S 5 0 = S0 278 0 ∧ (∀ i : Nat, i < 8 → S 6 (i : Int) = S0 279 (i : Int)) ∧ (∀ i : Nat, i < 8 → S 7 (i : Int) = S0 280 (i : Int)) ∧ (∀ i : Nat, i < 8 → S 8 (i : Int) = S0 281 (i : Int)) ∧ S 1 5 = S0 274 5 ∧ (∀ i : Nat, i < 12 → S 9 (i : Int) = S0 282 (i : Int)) ∧ (∀ i : Nat, i < 12 → S 10 (i : Int) = S0 283 (i : Int)) ∧ (∀ i : Nat, i < 12 → S 11 (i : Int) = S0 284 (i : Int)) ∧ S 1 10 = S0 274 10 ∧ (∀ i : Nat, i < 12 → S 13 (i : Int) = S0 286 (i : Int)) ∧ S 14 0 = S0 287 0 ∧ (∀ i : Nat, i < 12 → S 15 (i : Int) = S0 288 (i : Int)) ∧ (∀ i : Nat, i < 12 → S 16 (i : Int) = S0 289 (i : Int)) ∧ (∀ i : Nat, i < 12 → S 17 (i : Int) = S0 290 (i : Int)) ∧ (∀ i : Nat, i < 3 → S 19 (i : Int) = S0 292 (i : Int)) ∧ S 1 14 = S0 274 14 ∧ S 1 15 = S0 274 15 ∧ (∀ p i : Nat, p ∈ rxFl1 → i < bx_wd (rxL.1 p) → S p (i : Int) = S0 p (i : Int)) ∧ rkWt4 S0 S 23 296 6 12 i
noncomputable def rxmCZ1x274_26 (S0 : Nat → Int → Int) (ws : List Int) (S : Nat → Int → Int) (i rp rq : Int) : Nat := 980 + 10 * (20 - i).toNat - 2
noncomputable def rxzCZ1x274_26 : rx_Z := ([(0, 0), (0, 0), (0, 0), (0, 0), (0, 0), (0, 0), (0, 0), (0, 0), (0, 5), (0, 1522), (0, 1522)], [], [(((9, 0), 1000007), .inl none), (((10, 0), 1000007), .inl none)], 0, 0, 252, [(0, .inr (3, (0, 1))), (1, .inr (3, (0, 274))), (2, .inr (0, (8, 0)))], [.inr (3, (10, 0)), .inr (3, (9, 0))])
noncomputable def rxICZ1x274_27 (S0 : Nat → Int → Int) (ws : List Int) (S : Nat → Int → Int) (i rp rq : Int) : Prop := S 1 0 = S0 274 0 ∧ (∀ i : Nat, i < 6 → S 2 (i : Int) = S0 275 (i : Int)) ∧ (∀ i : Nat, i < 6 → S 3 (i : Int) = S0 276 (i : Int)) ∧ S 5 0 = S0 278 0 ∧ (∀ i : Nat, i < 8 → S 6 (i : Int) = S0 279 (i : Int)) ∧ (∀ i : Nat, i < 8 → S 7 (i : Int) = S0 280 (i : Int)) ∧ (∀ i : Nat, i < 8 → S 8 (i : Int) = S0 281 (i : Int)) ∧ S 1 5 = S0 274 5 ∧ (∀ i : Nat, i < 12 → S 9 (i : Int) = S0 282 (i : Int)) ∧ (∀ i : Nat, i < 12 → S 10 (i : Int) = S0 283 (i : Int)) ∧ (∀ i : Nat, i < 12 → S 11 (i : Int) = S0 284 (i : Int)) ∧ S 1 10 = S0 274 10 ∧ (∀ i : Nat, i < 12 → S 13 (i : Int) = S0 286 (i : Int)) ∧ S 14 0 = S0 287 0 ∧ (∀ i : Nat, i < 12 → S 15 (i : Int) = S0 288 (i : Int)) ∧ (∀ i : Nat, i < 12 → S 16 (i : Int) = S0 289 (i : Int)) ∧ (∀ i : Nat, i < 12 → S 17 (i : Int) = S0 290 (i : Int)) ∧ (∀ i : Nat, i < 3 → S 19 (i : Int) = S0 292 (i : Int)) ∧ S 1 14 = S0 274 14 ∧ S 1 15 = S0 274 15 ∧ (∀ p i : Nat, p ∈ rxFl1 → i < bx_wd (rxL.1 p) → S p (i : Int) = S0 p (i : Int)) ∧ rkWt4 S0 S 23 296 6 12 (i + 1)
noncomputable def rxmCZ1x274_27 (S0 : Nat → Int → Int) (ws : List Int) (S : Nat → Int → Int) (i rp rq : Int) : Nat := 980 + 10 * (20 - i).toNat - 4
noncomputable def rxzCZ1x274_27 : rx_Z := ([(0, 0), (0, 0), (0, 0), (0, 0), (0, 0), (0, 0), (0, 0), (0, 0), (0, 5), (0, 1522), (0, 1522)], [], [(((9, 0), 1000007), .inl none), (((10, 0), 1000007), .inl none)], 0, 0, 255, [(0, .inr (3, (0, 1))), (1, .inr (3, (0, 274))), (2, .inr (0, (8, 0)))], [])
noncomputable def rxoCZ1x274_0_0 : bx_HO := (([(0, 0), (0, 0), (0, 0), (0, 0), (0, 0), (0, 0), (0, 0), (0, 0), (0, 6)], [], [(((0, 1), 1), .inr (3, (0, 2))), (((0, 274), 1), .inr (3, (0, 275))), (((0, 0), 1851192626986356797424340330377019318111018015026043177553952771000000), .inr (0, (8, 0))), (((0, 1), 0), .inr (0, (8, 0))), (((0, 0), 1851192626986356797424340330377019318111018015026043177714974720000000), .inr (0, (8, 0)))], 0, 0, 20, [(0, .inr (3, (0, 1))), (1, .inr (3, (0, 274)))], [.inr (0, (0, 6)), .inr (0, (0, 0)), .inr (3, (0, 2)), .inr (0, (0, 0)), .inr (3, (0, 275))]), [], [], [(0, 0), (0, 0), (0, 0), (0, 0), (0, 0), (0, 0), (0, 0), (0, 0)], 1)
noncomputable def rxoCZ1x274_2_0 : bx_HO := (([(0, 0), (0, 0), (0, 0), (0, 0), (0, 0), (0, 0), (0, 0), (0, 0)], [], [(((0, 1), 2), .inr (3, (0, 3))), (((0, 274), 2), .inr (3, (0, 276)))], 0, 0, 35, [(0, .inr (3, (0, 1))), (1, .inr (3, (0, 274)))], [.inr (0, (0, 6)), .inr (0, (0, 0)), .inr (3, (0, 3)), .inr (0, (0, 0)), .inr (3, (0, 276))]), [], [], [(0, 0), (0, 0), (0, 0), (0, 0), (0, 0), (0, 0), (0, 0), (0, 0)], 3)
noncomputable def rxoCZ1x274_4_0 : bx_HO := (([(0, 0), (0, 0), (0, 0), (0, 0), (0, 0), (0, 0), (0, 0), (0, 0)], [], [], 0, 0, 40, [(2, .inr (0, (0, 0))), (0, .inr (3, (0, 1))), (1, .inr (3, (0, 274)))], []), [], [], [(0, 0), (0, 0), (0, 0), (0, 0), (0, 0), (0, 0), (0, 0), (0, 0), (0, 0)], 5)
noncomputable def rxoCZ1x274_5_0 : bx_HO := (([(0, 0), (0, 0), (0, 0), (0, 0), (0, 0), (0, 0), (0, 0), (0, 0), (0, 5), (0, 1522), (0, 1522)], [], [(((0, 0), 1851192626986356797424364830707437625680387377997778265027969024000000), .inr (3, (10, 0))), (((10, 0), 1000010), .inl none), (((0, 274), 3), .inr (3, (0, 277))), (((0, 0), 1851192626986356797424364830707437625680387377997778264866947072000000), .inr (3, (9, 0))), (((9, 0), 1000010), .inl none), (((0, 1), 3), .inr (3, (0, 4)))], 0, 0, 58, [(0, .inr (3, (0, 1))), (1, .inr (3, (0, 274))), (2, .inr (0, (8, 0)))], [.inr (3, (10, 0)), .inr (3, (9, 0))]), [], [], [(0, 0), (0, 0), (0, 0), (0, 0), (0, 0), (0, 0), (0, 0), (0, 0), (8, 0), (9, 0), (10, 0)], 6)
noncomputable def rxoCZ1x274_5_1 : bx_HO := (([(0, 0), (0, 0), (0, 0), (0, 0), (0, 0), (0, 0), (0, 0), (0, 0), (6, 6)], [], [(((0, 274), 4), .inr (3, (0, 278))), (((0, 1), 4), .inr (3, (0, 5)))], 0, 0, 75, [(0, .inr (3, (0, 1))), (1, .inr (3, (0, 274))), (2, .inr (0, (8, 0)))], [.inr (3, (0, 278)), .inr (3, (0, 5))]), [], [], [(0, 0), (0, 0), (0, 0), (0, 0), (0, 0), (0, 0), (0, 0), (0, 0)], 8)
noncomputable def rxoCZ1x274_7_0 : bx_HO := (([(0, 0), (0, 0), (0, 0), (0, 0), (0, 0), (0, 0), (0, 0), (0, 0), (0, 5), (0, 1522), (0, 1522)], [], [(((9, 0), 1000010), .inl none), (((10, 0), 1000010), .inl none)], 0, 0, 40, [(2, .inr (0, (8, 1))), (0, .inr (3, (0, 1))), (1, .inr (3, (0, 274)))], []), [], [], [(0, 0), (0, 0), (0, 0), (0, 0), (0, 0), (0, 0), (0, 0), (0, 0), (8, 1)], 5)
noncomputable def rxoCZ1x274_9_0 : bx_HO := (([(0, 0), (0, 0), (0, 0), (0, 0), (0, 0), (0, 0), (0, 0), (0, 0), (0, 12)], [], [(((0, 1), 6), .inr (3, (0, 9))), (((0, 274), 6), .inr (3, (0, 282))), (((0, 0), 1851192626986356798427873864310897359480125337295219445323071491000000), .inr (0, (8, 0))), (((0, 1), 5), .inr (0, (8, 0))), (((0, 0), 1851192626986356798427873864310897359480125337295219445484093440000000), .inr (0, (8, 0)))], 0, 0, 98, [(0, .inr (3, (0, 1))), (1, .inr (3, (0, 274))), (2, .inr (0, (0, 6)))], [.inr (0, (0, 12)), .inr (0, (0, 0)), .inr (3, (0, 9)), .inr (0, (0, 0)), .inr (3, (0, 282))]), [], [], [(0, 0), (0, 0), (0, 0), (0, 0), (0, 0), (0, 0), (0, 0), (0, 0)], 10)
noncomputable def rxoCZ1x274_11_0 : bx_HO := (([(0, 0), (0, 0), (0, 0), (0, 0), (0, 0), (0, 0), (0, 0), (0, 0)], [], [(((0, 1), 7), .inr (3, (0, 10))), (((0, 274), 7), .inr (3, (0, 283)))], 0, 0, 113, [(0, .inr (3, (0, 1))), (1, .inr (3, (0, 274))), (2, .inr (0, (0, 6)))], [.inr (0, (0, 12)), .inr (0, (0, 0)), .inr (3, (0, 10)), .inr (0, (0, 0)), .inr (3, (0, 283))]), [], [], [(0, 0), (0, 0), (0, 0), (0, 0), (0, 0), (0, 0), (0, 0), (0, 0)], 12)
noncomputable def rxoCZ1x274_13_0 : bx_HO := (([(0, 0), (0, 0), (0, 0), (0, 0), (0, 0), (0, 0), (0, 0), (0, 0)], [], [(((0, 1), 8), .inr (3, (0, 11))), (((0, 274), 8), .inr (3, (0, 284)))], 0, 0, 128, [(0, .inr (3, (0, 1))), (1, .inr (3, (0, 274))), (2, .inr (0, (0, 6)))], [.inr (0, (0, 12)), .inr (0, (0, 0)), .inr (3, (0, 11)), .inr (0, (0, 0)), .inr (3, (0, 284))]), [], [], [(0, 0), (0, 0), (0, 0), (0, 0), (0, 0), (0, 0), (0, 0), (0, 0)], 14)
noncomputable def rxoCZ1x274_15_0 : bx_HO := (([(0, 0), (0, 0), (0, 0), (0, 0), (0, 0), (0, 0), (0, 0), (0, 0)], [], [], 0, 0, 133, [(2, .inr (0, (0, 0))), (0, .inr (3, (0, 1))), (1, .inr (3, (0, 274)))], []), [], [], [(0, 0), (0, 0), (0, 0), (0, 0), (0, 0), (0, 0), (0, 0), (0, 0), (0, 0)], 16)
noncomputable def rxoCZ1x274_16_0 : bx_HO := (([(0, 0), (0, 0), (0, 0), (0, 0), (0, 0), (0, 0), (0, 0), (0, 0), (0, 11), (0, 1522), (0, 1522)], [], [(((0, 0), 1851192626986356797424364830707437625680387377997778265032687616000000), .inr (3, (10, 0))), (((10, 0), 1000010), .inl none), (((0, 274), 9), .inr (3, (0, 285))), (((0, 0), 1851192626986356797424364830707437625680387377997778264871665664000000), .inr (3, (9, 0))), (((9, 0), 1000010), .inl none), (((0, 1), 9), .inr (3, (0, 12)))], 0, 0, 151, [(0, .inr (3, (0, 1))), (1, .inr (3, (0, 274))), (2, .inr (0, (8, 0)))], [.inr (3, (10, 0)), .inr (3, (9, 0))]), [], [], [(0, 0), (0, 0), (0, 0), (0, 0), (0, 0), (0, 0), (0, 0), (0, 0), (8, 0), (9, 0), (10, 0)], 17)
noncomputable def rxoCZ1x274_16_1 : bx_HO := (([(0, 0), (0, 0), (0, 0), (0, 0), (0, 0), (0, 0), (0, 0), (0, 0), (12, 12), (0, 12)], [], [(((0, 1), 11), .inr (3, (0, 13))), (((0, 274), 11), .inr (3, (0, 286))), (((0, 0), 1851192626986356799431407398244775400849232659564395713092190211000000), .inr (0, (9, 0))), (((0, 1), 10), .inr (0, (9, 0))), (((0, 0), 1851192626986356799431407398244775400849232659564395713253212160000000), .inr (0, (9, 0)))], 0, 0, 180, [(0, .inr (3, (0, 1))), (1, .inr (3, (0, 274))), (2, .inr (0, (8, 0)))], [.inr (0, (0, 12)), .inr (0, (0, 0)), .inr (3, (0, 13)), .inr (0, (0, 0)), .inr (3, (0, 286))]), [], [], [(0, 0), (0, 0), (0, 0), (0, 0), (0, 0), (0, 0), (0, 0), (0, 0)], 19)
noncomputable def rxoCZ1x274_18_0 : bx_HO := (([(0, 0), (0, 0), (0, 0), (0, 0), (0, 0), (0, 0), (0, 0), (0, 0), (0, 11), (0, 1522), (0, 1522)], [], [(((9, 0), 1000010), .inl none), (((10, 0), 1000010), .inl none)], 0, 0, 133, [(2, .inr (0, (8, 1))), (0, .inr (3, (0, 1))), (1, .inr (3, (0, 274)))], []), [], [], [(0, 0), (0, 0), (0, 0), (0, 0), (0, 0), (0, 0), (0, 0), (0, 0), (8, 1)], 16)
noncomputable def rxoCZ1x274_20_0 : bx_HO := (([(0, 0), (0, 0), (0, 0), (0, 0), (0, 0), (0, 0), (0, 0), (0, 0)], [], [(((0, 274), 12), .inr (3, (0, 287))), (((0, 1), 12), .inr (3, (0, 14)))], 0, 0, 191, [(0, .inr (3, (0, 1))), (1, .inr (3, (0, 274))), (2, .inr (0, (0, 12)))], [.inr (3, (0, 287)), .inr (3, (0, 14))]), [], [], [(0, 0), (0, 0), (0, 0), (0, 0), (0, 0), (0, 0), (0, 0), (0, 0)], 21)
noncomputable def rxoCZ1x274_22_0 : bx_HO := (([(0, 0), (0, 0), (0, 0), (0, 0), (0, 0), (0, 0), (0, 0), (0, 0)], [], [(((0, 1), 13), .inr (3, (0, 19))), (((0, 274), 13), .inr (3, (0, 292)))], 0, 0, 205, [(0, .inr (3, (0, 1))), (1, .inr (3, (0, 274))), (2, .inr (0, (0, 12)))], [.inr (0, (0, 3)), .inr (0, (0, 0)), .inr (3, (0, 19)), .inr (0, (0, 0)), .inr (3, (0, 292))]), [], [], [(0, 0), (0, 0), (0, 0), (0, 0), (0, 0), (0, 0), (0, 0), (0, 0)], 23)
noncomputable def rxoCZ1x274_24_0 : bx_HO := (([(0, 0), (0, 0), (0, 0), (0, 0), (0, 0), (0, 0), (0, 0), (0, 0), (0, 6), ((-1), 5)], [], [(((0, 0), 1851192626986356800434940932178653442218339981833571980861308931000000), .inr (0, (9, 0))), (((0, 1), 15), .inr (0, (9, 0))), (((0, 0), 1851192626986356800434940932178653442218339981833571981022330880000000), .inr (0, (9, 0))), (((0, 0), 1851192626986356800234234225391877833944518517379736727307485187000000), .inr (0, (8, 0))), (((0, 1), 14), .inr (0, (8, 0))), (((0, 0), 1851192626986356800234234225391877833944518517379736727468507136000000), .inr (0, (8, 0)))], 0, 0, 226, [(2, .inr (0, (0, 0))), (0, .inr (3, (0, 1))), (1, .inr (3, (0, 274)))], []), [], [], [(0, 0), (0, 0), (0, 0), (0, 0), (0, 0), (0, 0), (0, 0), (0, 0), (0, 0)], 25)
noncomputable def rxoCZ1x274_25_0 : bx_HO := (([(0, 0), (0, 0), (0, 0), (0, 0), (0, 0), (0, 0), (0, 0), (0, 0), (0, 5), (1, 6), (0, 1522), (0, 1522)], [(0, (8, 0), (9, 0))], [(((0, 0), 1851192626986356797424364830707437625680387377997778265037406208000000), .inr (3, (11, 0))), (((11, 0), 1000007), .inl none), (((0, 274), 16), .inr (3, (0, 293))), (((0, 0), 1851192626986356797424364830707437625680387377997778264876384256000000), .inr (3, (10, 0))), (((10, 0), 1000007), .inl none), (((0, 1), 16), .inr (3, (0, 20))), (((0, 0), 1851192626986356800234234225391877833944518517379736727307485184000000), .inr (0, (9, 0))), (((0, 1), 14), .inr (0, (9, 0)))], 0, 0, 252, [(0, .inr (3, (0, 1))), (1, .inr (3, (0, 274))), (2, .inr (0, (8, 0)))], [.inr (3, (11, 0)), .inr (3, (10, 0))]), [], [], [(0, 0), (0, 0), (0, 0), (0, 0), (0, 0), (0, 0), (0, 0), (0, 0), (8, 0), (10, 0), (11, 0)], 26)
noncomputable def rxeCZ1x274_25_0 : rx_End × List (Nat × Int × Int) := (([(0, 0), (0, 0), (0, 0), (0, 0), (0, 0), (0, 0), (0, 0), (0, 0), (0, 6), (0, 6)], [(1, (9, 0), (8, 0))], [(((0, 0), 1851192626986356800234234225391877833944518517379736727307485184000000), .inr (0, (9, 0))), (((0, 1), 14), .inr (0, (9, 0)))], none), [])
noncomputable def rxoCZ1x274_27_0 : bx_HO := (([(0, 0), (0, 0), (0, 0), (0, 0), (0, 0), (0, 0), (0, 0), (0, 0), (0, 5), (0, 1522), (0, 1522)], [], [(((9, 0), 1000007), .inl none), (((10, 0), 1000007), .inl none)], 0, 0, 226, [(2, .inr (0, (8, 1))), (0, .inr (3, (0, 1))), (1, .inr (3, (0, 274)))], []), [], [], [(0, 0), (0, 0), (0, 0), (0, 0), (0, 0), (0, 0), (0, 0), (0, 0), (8, 1)], 25)
noncomputable def rxYCZ1x274 : List bx_HE := [(rxzCZ1x274_0, [rxoCZ1x274_0_0], []), (rxzCZ1x274_1, [], []), (rxzCZ1x274_2, [rxoCZ1x274_2_0], []), (rxzCZ1x274_3, [], []), (rxzCZ1x274_4, [rxoCZ1x274_4_0], []), (rxzCZ1x274_5, [rxoCZ1x274_5_0, rxoCZ1x274_5_1], []), (rxzCZ1x274_6, [], []), (rxzCZ1x274_7, [rxoCZ1x274_7_0], []), (rxzCZ1x274_8, [], []), (rxzCZ1x274_9, [rxoCZ1x274_9_0], []), (rxzCZ1x274_10, [], []), (rxzCZ1x274_11, [rxoCZ1x274_11_0], []), (rxzCZ1x274_12, [], []), (rxzCZ1x274_13, [rxoCZ1x274_13_0], []), (rxzCZ1x274_14, [], []), (rxzCZ1x274_15, [rxoCZ1x274_15_0], []), (rxzCZ1x274_16, [rxoCZ1x274_16_0, rxoCZ1x274_16_1], []), (rxzCZ1x274_17, [], []), (rxzCZ1x274_18, [rxoCZ1x274_18_0], []), (rxzCZ1x274_19, [], []), (rxzCZ1x274_20, [rxoCZ1x274_20_0], []), (rxzCZ1x274_21, [], []), (rxzCZ1x274_22, [rxoCZ1x274_22_0], []), (rxzCZ1x274_23, [], []), (rxzCZ1x274_24, [rxoCZ1x274_24_0], []), (rxzCZ1x274_25, [rxoCZ1x274_25_0], [rxeCZ1x274_25_0]), (rxzCZ1x274_26, [], []), (rxzCZ1x274_27, [rxoCZ1x274_27_0], [])]
noncomputable def rxUCZ1x274 (q : bx_HE) : Bool := Nat.beq (rx_zpc q.1) 20 || Nat.beq (rx_zpc q.1) 35 || Nat.beq (rx_zpc q.1) 58 || Nat.beq (rx_zpc q.1) 75 || Nat.beq (rx_zpc q.1) 98 || Nat.beq (rx_zpc q.1) 113 || Nat.beq (rx_zpc q.1) 128 || Nat.beq (rx_zpc q.1) 151 || Nat.beq (rx_zpc q.1) 180 || Nat.beq (rx_zpc q.1) 191 || Nat.beq (rx_zpc q.1) 205 || Nat.beq (rx_zpc q.1) 252
noncomputable def rxYBCZ1x274 : bx_B := (rxV, rxNP, rxDmf, bx_mdH rxCCZ1x274.2.2.1)
set_option maxRecDepth 100000 in
theorem rxYcCZ1x274 : bx_chkH rxYBCZ1x274 rxM154 rxCCZ1x274 rxYCZ1x274 (rxUCZ1x274, fun cut z => rx_ex2 (rxCT rxYBCZ1x274 rxCnE) cut 30000 rxCCZ1x274.2.2.2.1 154 z) = true := by decide +kernel
noncomputable def rxICZ1x274 (S0 : Nat → Int → Int) (ws : List Int) (i : Nat) : bx_SP := fun S r => match i with | 0 => rxICZ1x274_0 S0 ws S | 1 => rxICZ1x274_1 S0 ws S | 2 => rxICZ1x274_2 S0 ws S | 3 => rxICZ1x274_3 S0 ws S | 4 => rxICZ1x274_4 S0 ws S | 5 => rxICZ1x274_5 S0 ws S (r 8) | 6 => rxICZ1x274_6 S0 ws S (r 8) (r 9) (r 10) | 7 => rxICZ1x274_7 S0 ws S (r 8) (r 9) (r 10) | 8 => rxICZ1x274_8 S0 ws S | 9 => rxICZ1x274_9 S0 ws S | 10 => rxICZ1x274_10 S0 ws S | 11 => rxICZ1x274_11 S0 ws S | 12 => rxICZ1x274_12 S0 ws S | 13 => rxICZ1x274_13 S0 ws S | 14 => rxICZ1x274_14 S0 ws S | 15 => rxICZ1x274_15 S0 ws S | 16 => rxICZ1x274_16 S0 ws S (r 8) | 17 => rxICZ1x274_17 S0 ws S (r 8) (r 9) (r 10) | 18 => rxICZ1x274_18 S0 ws S (r 8) (r 9) (r 10) | 19 => rxICZ1x274_19 S0 ws S | 20 => rxICZ1x274_20 S0 ws S | 21 => rxICZ1x274_21 S0 ws S | 22 => rxICZ1x274_22 S0 ws S | 23 => rxICZ1x274_23 S0 ws S | 24 => rxICZ1x274_24 S0 ws S | 25 => rxICZ1x274_25 S0 ws S (r 8) | 26 => rxICZ1x274_26 S0 ws S (r 8) (r 9) (r 10) | 27 => rxICZ1x274_27 S0 ws S (r 8) (r 9) (r 10) | _ => False
noncomputable def rxmCZ1x274 (S0 : Nat → Int → Int) (ws : List Int) (i : Nat) (S : Nat → Int → Int) (r : Nat → Int) : Nat := match i with | 0 => rxmCZ1x274_0 S0 ws S | 1 => rxmCZ1x274_1 S0 ws S | 2 => rxmCZ1x274_2 S0 ws S | 3 => rxmCZ1x274_3 S0 ws S | 4 => rxmCZ1x274_4 S0 ws S | 5 => rxmCZ1x274_5 S0 ws S (r 8) | 6 => rxmCZ1x274_6 S0 ws S (r 8) (r 9) (r 10) | 7 => rxmCZ1x274_7 S0 ws S (r 8) (r 9) (r 10) | 8 => rxmCZ1x274_8 S0 ws S | 9 => rxmCZ1x274_9 S0 ws S | 10 => rxmCZ1x274_10 S0 ws S | 11 => rxmCZ1x274_11 S0 ws S | 12 => rxmCZ1x274_12 S0 ws S | 13 => rxmCZ1x274_13 S0 ws S | 14 => rxmCZ1x274_14 S0 ws S | 15 => rxmCZ1x274_15 S0 ws S | 16 => rxmCZ1x274_16 S0 ws S (r 8) | 17 => rxmCZ1x274_17 S0 ws S (r 8) (r 9) (r 10) | 18 => rxmCZ1x274_18 S0 ws S (r 8) (r 9) (r 10) | 19 => rxmCZ1x274_19 S0 ws S | 20 => rxmCZ1x274_20 S0 ws S | 21 => rxmCZ1x274_21 S0 ws S | 22 => rxmCZ1x274_22 S0 ws S | 23 => rxmCZ1x274_23 S0 ws S | 24 => rxmCZ1x274_24 S0 ws S | 25 => rxmCZ1x274_25 S0 ws S (r 8) | 26 => rxmCZ1x274_26 S0 ws S (r 8) (r 9) (r 10) | 27 => rxmCZ1x274_27 S0 ws S (r 8) (r 9) (r 10) | _ => 0
noncomputable def rxPCZ1x274 (S0 : Nat → Int → Int) (ws : List Int) : Prop := rkPl S0
noncomputable def rxPSCZ1x274 (S0 : Nat → Int → Int) (ws : List Int) (S : Nat → Int → Int) (w : Option Int) : Prop := w = none ∧ S 1 0 = S0 274 0 ∧ (∀ i : Nat, i < 6 → S 2 (i : Int) = S0 275 (i : Int)) ∧ (∀ i : Nat, i < 6 → S 3 (i : Int) = S0 276 (i : Int)) ∧ S 5 0 = S0 278 0 ∧ (∀ i : Nat, i < 8 → S 6 (i : Int) = S0 279 (i : Int)) ∧ (∀ i : Nat, i < 8 → S 7 (i : Int) = S0 280 (i : Int)) ∧ (∀ i : Nat, i < 8 → S 8 (i : Int) = S0 281 (i : Int)) ∧ S 1 5 = S0 274 5 ∧ (∀ i : Nat, i < 12 → S 9 (i : Int) = S0 282 (i : Int)) ∧ (∀ i : Nat, i < 12 → S 10 (i : Int) = S0 283 (i : Int)) ∧ (∀ i : Nat, i < 12 → S 11 (i : Int) = S0 284 (i : Int)) ∧ S 1 10 = S0 274 10 ∧ (∀ i : Nat, i < 12 → S 13 (i : Int) = S0 286 (i : Int)) ∧ S 14 0 = S0 287 0 ∧ (∀ i : Nat, i < 12 → S 15 (i : Int) = S0 288 (i : Int)) ∧ (∀ i : Nat, i < 12 → S 16 (i : Int) = S0 289 (i : Int)) ∧ (∀ i : Nat, i < 12 → S 17 (i : Int) = S0 290 (i : Int)) ∧ (∀ i : Nat, i < 3 → S 19 (i : Int) = S0 292 (i : Int)) ∧ S 1 14 = S0 274 14 ∧ S 1 15 = S0 274 15 ∧ (∀ p i : Nat, p ∈ rxFl1 → i < bx_wd (rxL.1 p) → S p (i : Int) = S0 p (i : Int)) ∧ rkWt4 S0 S 23 296 6 12 (S0 274 14)
theorem rxtCZ1x274_1 {S0 : Nat → Int → Int} {ws : List Int} {S : Nat → Int → Int} (hP : rxPCZ1x274 S0 ws) (hin : bx_same rxL (bx_mdl rxCCZ1x274.2.2.1) S0 S) (I0 : bx_Inv rxL S) (hinv : rxICZ1x274_1 S0 ws S)  : rxICZ1x274_2 S0 ws (bx_cpS S 275 2 6) ∧ rxmCZ1x274_2 S0 ws (bx_cpS S 275 2 6) < rxmCZ1x274_1 S0 ws S := by
  obtain ⟨h0, hf, hW⟩ := hinv
  refine ⟨⟨?_, ?_, ?_, ?_⟩, by unfold rxmCZ1x274_1 rxmCZ1x274_2; omega⟩
  · exact (bx_cpS_ne (by decide)).trans h0
  · exact fun i hi => (bx_cpS_in (by omega) (by omega)).trans (hf 275 i (by decide) (show i < 6 from hi))
  · exact fun p i hp hi => (bx_cpS_ne (fun e => by subst e; revert hp; decide)).trans (hf p i hp hi)
  · exact rkWt4_ne (by unfold rkTb; omega) hW (fun p j hp => by have hp : (23 ≤ p ∧ p < 137) ∨ (160 ≤ p ∧ p < 274) ∨ (296 ≤ p ∧ p < 410) := hp; exact bx_cpS_ne (by omega))
theorem rxsCZ1x274_1 {X : (Nat → Int → Int) → Prop} {S0 : Nat → Int → Int} {ws : List Int} (hP : rxPCZ1x274 S0 ws) (hX : ∀ S S1 : Nat → Int → Int, X S → bx_same rxL (bx_mdl rxCCZ1x274.2.2.1) S S1 → X S1) : rx_obY X S0 rxCCZ1x274.2.2.1 (rxICZ1x274 S0 ws) (rxmCZ1x274 S0 ws) 1 2 rxzCZ1x274_1 275 2 6 := by
  intro S r hinv hXS I0 hin hs_ hf_
  have b_ := bx_bds_sat hs_
  have f_ := bx_fcl_ok hs_.1 hf_
  have g := rxtCZ1x274_1 hP hin I0 hinv 
  exact ⟨g.1, g.2, hX _ _ hXS (rx_same_cp (fun _ _ _ _ _ => rfl) (g1 := 0) rfl (by decide +kernel)), rx_same_cp hin (g1 := 0) rfl (by decide +kernel)⟩
theorem rxtCZ1x274_3 {S0 : Nat → Int → Int} {ws : List Int} {S : Nat → Int → Int} (hP : rxPCZ1x274 S0 ws) (hin : bx_same rxL (bx_mdl rxCCZ1x274.2.2.1) S0 S) (I0 : bx_Inv rxL S) (hinv : rxICZ1x274_3 S0 ws S)  : rxICZ1x274_4 S0 ws (bx_cpS S 276 3 6) ∧ rxmCZ1x274_4 S0 ws (bx_cpS S 276 3 6) < rxmCZ1x274_3 S0 ws S := by
  obtain ⟨h0, h1, hf, hW⟩ := hinv
  refine ⟨⟨?_, ?_, ?_, ?_, ?_⟩, by unfold rxmCZ1x274_3 rxmCZ1x274_4; omega⟩
  · exact (bx_cpS_ne (by decide)).trans h0
  · exact fun i hi => (bx_cpS_ne (by decide)).trans (h1 i hi)
  · exact fun i hi => (bx_cpS_in (by omega) (by omega)).trans (hf 276 i (by decide) (show i < 6 from hi))
  · exact fun p i hp hi => (bx_cpS_ne (fun e => by subst e; revert hp; decide)).trans (hf p i hp hi)
  · exact rkWt4_ne (by unfold rkTb; omega) hW (fun p j hp => by have hp : (23 ≤ p ∧ p < 137) ∨ (160 ≤ p ∧ p < 274) ∨ (296 ≤ p ∧ p < 410) := hp; exact bx_cpS_ne (by omega))
theorem rxsCZ1x274_3 {X : (Nat → Int → Int) → Prop} {S0 : Nat → Int → Int} {ws : List Int} (hP : rxPCZ1x274 S0 ws) (hX : ∀ S S1 : Nat → Int → Int, X S → bx_same rxL (bx_mdl rxCCZ1x274.2.2.1) S S1 → X S1) : rx_obY X S0 rxCCZ1x274.2.2.1 (rxICZ1x274 S0 ws) (rxmCZ1x274 S0 ws) 3 4 rxzCZ1x274_3 276 3 6 := by
  intro S r hinv hXS I0 hin hs_ hf_
  have b_ := bx_bds_sat hs_
  have f_ := bx_fcl_ok hs_.1 hf_
  have g := rxtCZ1x274_3 hP hin I0 hinv 
  exact ⟨g.1, g.2, hX _ _ hXS (rx_same_cp (fun _ _ _ _ _ => rfl) (g1 := 1) rfl (by decide +kernel)), rx_same_cp hin (g1 := 1) rfl (by decide +kernel)⟩
theorem rxkCZ1x274_6 {S0 : Nat → Int → Int} {ws : List Int} {S : Nat → Int → Int} {i rp rq : Int} (hP : rxPCZ1x274 S0 ws) (hin : bx_same rxL (bx_mdl rxCCZ1x274.2.2.1) S0 S) (I0 : bx_Inv rxL S) (hinv : rxICZ1x274_6 S0 ws S i rp rq) (l8 : 0 ≤ i) (u8 : i ≤ 5) (l9 : 0 ≤ rp) (u9 : rp ≤ 1522) (l10 : 0 ≤ rq) (u10 : rq ≤ 1522) : rxPSCZ S [rp, rq] ∧ ∀ (S_p : Nat → Int → Int), rxPSSCZ S [rp, rq] S_p none → bx_Inv rxL S_p → bx_same rxL (bx_mdl rxCSCZ.2.2.1) S S_p → rxICZ1x274_7 S0 ws S_p i rp rq ∧ rxmCZ1x274_7 S0 ws S_p i rp rq < rxmCZ1x274_6 S0 ws S i rp rq := by
  obtain ⟨hrp, hrq, h0, h1, h2, hf, hW⟩ := hinv
  have hpl := rkPl_sm hin (by decide +kernel) hP
  have gb := (hpl.2.1.1 i.toNat (by omega)).2
  have gs := (hpl.2.2.2.1 i.toNat (by omega)).2
  refine ⟨⟨23 + 3 * i.toNat, 296 + 3 * i.toNat, by rw [hrp, hrq], ⟨(by
      have g := rkSg_t (tb := 23) (k := i.toNat) (by unfold rkTb; omega) (by omega)
      rw [show 23 + 3 * (i.toNat) = 23 + 3 * i.toNat by omega] at g
      exact g), (by
      have g := rkSg_t (tb := 296) (k := i.toNat) (by unfold rkTb; omega) (by omega)
      rw [show 296 + 3 * (i.toNat) = 296 + 3 * i.toNat by omega] at g
      exact g), by omega⟩, gs, gb⟩, fun S_p hq _ hsm => ?_⟩
  have q := hq.2 (23 + 3 * i.toNat) (296 + 3 * i.toNat) (by rw [hrp, hrq])
  have e : ∀ (p : Nat) (j : Int), ¬ rkRgn p → S_p p j = S p j := rkSc_o q (tb := 23) (by unfold rkTb; omega) (by omega) (by omega)
  refine ⟨⟨(e _ _ (by unfold rkRgn; omega)).trans h0, fun n hn => (e _ _ (by unfold rkRgn; omega)).trans (h1 n hn), fun n hn => (e _ _ (by unfold rkRgn; omega)).trans (h2 n hn), fun p n hp hi => (e p n (rkNum_n (rxFl1_in p hp))).trans (hf p n hp hi), ?_⟩, by unfold rxmCZ1x274_6 rxmCZ1x274_7; omega⟩
  have ei : ((i.toNat : Nat) : Int) = i := Int.toNat_of_nonneg (by omega)
  have hW_p : rkWt4 S0 S 23 296 ((i.toNat : Nat) : Int) 0 0 := by rw [ei]; exact hW
  have g := rkWt4_a (by unfold rkTb; omega) (by unfold rkTb; omega) (by decide) (by omega) hW_p q
  rw [ei] at g
  exact g
theorem rxsCZ1x274_6 {X : (Nat → Int → Int) → Prop} {S0 : Nat → Int → Int} {ws : List Int} (hP : rxPCZ1x274 S0 ws) : rx_obK X S0 rxCCZ1x274.2.2.1 rxCSCZ.2.2.1 (rxICZ1x274 S0 ws) (rxmCZ1x274 S0 ws) 6 7 rxzCZ1x274_6 rxzCZ1x274_7 [.inr (3, (9, 0)), .inr (3, (10, 0))] none rxPSCZ rxPSSCZ := by
  intro S r hinv hXS I0 hin hs_ hf_
  have b_ := bx_bds_sat hs_
  have f_ := bx_fcl_ok hs_.1 hf_
  obtain ⟨⟨l8, u8⟩, ⟨l9, u9⟩, ⟨l10, u10⟩, -⟩ := b_
  have g := rxkCZ1x274_6 hP hin I0 hinv l8 u8 l9 u9 l10 u10
  have ea : List.map (bx_num r) [.inr (3, (9, 0)), .inr (3, (10, 0))] = [(r 9), (r 10)] := by
    simp only [List.map_cons, List.map_nil, bx_xv_ok hs_.1]
    rfl
  rw [ea]
  refine ⟨g.1, fun S_p w r_p hPS hX_p I1 hsm hr hw hs_p => ?_⟩
  have hw : w = none := hPS.1
  subst hw
  have g2 := g.2 S_p hPS I1 hsm
  show rxICZ1x274_7 S0 ws S_p (r_p 8) (r_p 9) (r_p 10) ∧ rxmCZ1x274_7 S0 ws S_p (r_p 8) (r_p 9) (r_p 10) < _
  rw [hr 8 (by decide), hr 9 (by decide), hr 10 (by decide)]
  exact g2
theorem rxkCZ1x274_8 {S0 : Nat → Int → Int} {ws : List Int} {S : Nat → Int → Int} (hP : rxPCZ1x274 S0 ws) (hin : bx_same rxL (bx_mdl rxCCZ1x274.2.2.1) S0 S) (I0 : bx_Inv rxL S) (hinv : rxICZ1x274_8 S0 ws S)  : rxPPC5x278 S [5, 278] ∧ ∀ (S_p : Nat → Int → Int), rxPSPC5x278 S [5, 278] S_p none → bx_Inv rxL S_p → bx_same rxL (bx_mdl rxCPC5x278.2.2.1) S S_p → rxICZ1x274_9 S0 ws S_p ∧ rxmCZ1x274_9 S0 ws S_p < rxmCZ1x274_8 S0 ws S := by
  obtain ⟨h0, h1, h2, hf, hW⟩ := hinv
  refine ⟨trivial, fun S_p hq _ hsm => ⟨⟨?_, ?_, ?_, ?_, ?_, ?_, ?_, ?_, ?_⟩, by unfold rxmCZ1x274_8 rxmCZ1x274_9; omega⟩⟩
  all_goals obtain ⟨-, q0, q1, q2, q3, qf⟩ := hq
  · exact (qf _ _ (by decide) (by decide) (by decide) (by decide)).trans h0
  · exact fun i hi => (qf _ _ (by decide) (by decide) (by decide) (by decide)).trans (h1 i hi)
  · exact fun i hi => (qf _ _ (by decide) (by decide) (by decide) (by decide)).trans (h2 i hi)
  · exact q0.trans (hf 278 0 (by decide) (by decide))
  · exact fun i hi => (q1 i (by omega) (by omega)).trans (hf 279 i (by decide) (show i < 8 from hi))
  · exact fun i hi => (q2 i (by omega) (by omega)).trans (hf 280 i (by decide) (show i < 8 from hi))
  · exact fun i hi => (q3 i (by omega) (by omega)).trans (hf 281 i (by decide) (show i < 8 from hi))
  · exact fun p i hp hi => (qf p i (fun e => by subst e; revert hp; decide) (fun e => by subst e; revert hp; decide) (fun e => by subst e; revert hp; decide) (fun e => by subst e; revert hp; decide)).trans (hf p i hp hi)
  · exact rkWt4_ne (by unfold rkTb; omega) hW (fun p j hp => by have hp : (23 ≤ p ∧ p < 137) ∨ (160 ≤ p ∧ p < 274) ∨ (296 ≤ p ∧ p < 410) := hp; exact qf p j (by omega) (by omega) (by omega) (by omega))
theorem rxsCZ1x274_8 {X : (Nat → Int → Int) → Prop} {S0 : Nat → Int → Int} {ws : List Int} (hP : rxPCZ1x274 S0 ws) : rx_obK X S0 rxCCZ1x274.2.2.1 rxCPC5x278.2.2.1 (rxICZ1x274 S0 ws) (rxmCZ1x274 S0 ws) 8 9 rxzCZ1x274_8 rxzCZ1x274_9 [.inr (3, (0, 5)), .inr (3, (0, 278))] none rxPPC5x278 rxPSPC5x278 := by
  intro S r hinv hXS I0 hin hs_ hf_
  have b_ := bx_bds_sat hs_
  have f_ := bx_fcl_ok hs_.1 hf_
  have g := rxkCZ1x274_8 hP hin I0 hinv 
  have ea : List.map (bx_num r) [.inr (3, (0, 5)), .inr (3, (0, 278))] = [5, 278] := by
    simp only [List.map_cons, List.map_nil, bx_xv_ok hs_.1]
    rfl
  rw [ea]
  refine ⟨g.1, fun S_p w r_p hPS hX_p I1 hsm hr hw hs_p => ?_⟩
  have hw : w = none := hPS.1
  subst hw
  have g2 := g.2 S_p hPS I1 hsm
  show rxICZ1x274_9 S0 ws S_p ∧ rxmCZ1x274_9 S0 ws S_p < _
  exact g2
theorem rxtCZ1x274_10 {S0 : Nat → Int → Int} {ws : List Int} {S : Nat → Int → Int} (hP : rxPCZ1x274 S0 ws) (hin : bx_same rxL (bx_mdl rxCCZ1x274.2.2.1) S0 S) (I0 : bx_Inv rxL S) (hinv : rxICZ1x274_10 S0 ws S)  : rxICZ1x274_11 S0 ws (bx_cpS S 282 9 12) ∧ rxmCZ1x274_11 S0 ws (bx_cpS S 282 9 12) < rxmCZ1x274_10 S0 ws S := by
  obtain ⟨h0, h1, h2, h3, h4, h5, h6, h7, hf, hW⟩ := hinv
  refine ⟨⟨?_, ?_, ?_, ?_, ?_, ?_, ?_, ?_, ?_, ?_, ?_⟩, by unfold rxmCZ1x274_10 rxmCZ1x274_11; omega⟩
  · exact (bx_cpS_ne (by decide)).trans h0
  · exact fun i hi => (bx_cpS_ne (by decide)).trans (h1 i hi)
  · exact fun i hi => (bx_cpS_ne (by decide)).trans (h2 i hi)
  · exact (bx_cpS_ne (by decide)).trans h3
  · exact fun i hi => (bx_cpS_ne (by decide)).trans (h4 i hi)
  · exact fun i hi => (bx_cpS_ne (by decide)).trans (h5 i hi)
  · exact fun i hi => (bx_cpS_ne (by decide)).trans (h6 i hi)
  · exact (bx_cpS_ne (by decide)).trans h7
  · exact fun i hi => (bx_cpS_in (by omega) (by omega)).trans (hf 282 i (by decide) (show i < 12 from hi))
  · exact fun p i hp hi => (bx_cpS_ne (fun e => by subst e; revert hp; decide)).trans (hf p i hp hi)
  · exact rkWt4_ne (by unfold rkTb; omega) hW (fun p j hp => by have hp : (23 ≤ p ∧ p < 137) ∨ (160 ≤ p ∧ p < 274) ∨ (296 ≤ p ∧ p < 410) := hp; exact bx_cpS_ne (by omega))
theorem rxsCZ1x274_10 {X : (Nat → Int → Int) → Prop} {S0 : Nat → Int → Int} {ws : List Int} (hP : rxPCZ1x274 S0 ws) (hX : ∀ S S1 : Nat → Int → Int, X S → bx_same rxL (bx_mdl rxCCZ1x274.2.2.1) S S1 → X S1) : rx_obY X S0 rxCCZ1x274.2.2.1 (rxICZ1x274 S0 ws) (rxmCZ1x274 S0 ws) 10 11 rxzCZ1x274_10 282 9 12 := by
  intro S r hinv hXS I0 hin hs_ hf_
  have b_ := bx_bds_sat hs_
  have f_ := bx_fcl_ok hs_.1 hf_
  have g := rxtCZ1x274_10 hP hin I0 hinv 
  exact ⟨g.1, g.2, hX _ _ hXS (rx_same_cp (fun _ _ _ _ _ => rfl) (g1 := 6) rfl (by decide +kernel)), rx_same_cp hin (g1 := 6) rfl (by decide +kernel)⟩
theorem rxtCZ1x274_12 {S0 : Nat → Int → Int} {ws : List Int} {S : Nat → Int → Int} (hP : rxPCZ1x274 S0 ws) (hin : bx_same rxL (bx_mdl rxCCZ1x274.2.2.1) S0 S) (I0 : bx_Inv rxL S) (hinv : rxICZ1x274_12 S0 ws S)  : rxICZ1x274_13 S0 ws (bx_cpS S 283 10 12) ∧ rxmCZ1x274_13 S0 ws (bx_cpS S 283 10 12) < rxmCZ1x274_12 S0 ws S := by
  obtain ⟨h0, h1, h2, h3, h4, h5, h6, h7, h8, hf, hW⟩ := hinv
  refine ⟨⟨?_, ?_, ?_, ?_, ?_, ?_, ?_, ?_, ?_, ?_, ?_, ?_⟩, by unfold rxmCZ1x274_12 rxmCZ1x274_13; omega⟩
  · exact (bx_cpS_ne (by decide)).trans h0
  · exact fun i hi => (bx_cpS_ne (by decide)).trans (h1 i hi)
  · exact fun i hi => (bx_cpS_ne (by decide)).trans (h2 i hi)
  · exact (bx_cpS_ne (by decide)).trans h3
  · exact fun i hi => (bx_cpS_ne (by decide)).trans (h4 i hi)
  · exact fun i hi => (bx_cpS_ne (by decide)).trans (h5 i hi)
  · exact fun i hi => (bx_cpS_ne (by decide)).trans (h6 i hi)
  · exact (bx_cpS_ne (by decide)).trans h7
  · exact fun i hi => (bx_cpS_ne (by decide)).trans (h8 i hi)
  · exact fun i hi => (bx_cpS_in (by omega) (by omega)).trans (hf 283 i (by decide) (show i < 12 from hi))
  · exact fun p i hp hi => (bx_cpS_ne (fun e => by subst e; revert hp; decide)).trans (hf p i hp hi)
  · exact rkWt4_ne (by unfold rkTb; omega) hW (fun p j hp => by have hp : (23 ≤ p ∧ p < 137) ∨ (160 ≤ p ∧ p < 274) ∨ (296 ≤ p ∧ p < 410) := hp; exact bx_cpS_ne (by omega))
theorem rxsCZ1x274_12 {X : (Nat → Int → Int) → Prop} {S0 : Nat → Int → Int} {ws : List Int} (hP : rxPCZ1x274 S0 ws) (hX : ∀ S S1 : Nat → Int → Int, X S → bx_same rxL (bx_mdl rxCCZ1x274.2.2.1) S S1 → X S1) : rx_obY X S0 rxCCZ1x274.2.2.1 (rxICZ1x274 S0 ws) (rxmCZ1x274 S0 ws) 12 13 rxzCZ1x274_12 283 10 12 := by
  intro S r hinv hXS I0 hin hs_ hf_
  have b_ := bx_bds_sat hs_
  have f_ := bx_fcl_ok hs_.1 hf_
  have g := rxtCZ1x274_12 hP hin I0 hinv 
  exact ⟨g.1, g.2, hX _ _ hXS (rx_same_cp (fun _ _ _ _ _ => rfl) (g1 := 7) rfl (by decide +kernel)), rx_same_cp hin (g1 := 7) rfl (by decide +kernel)⟩
theorem rxtCZ1x274_14 {S0 : Nat → Int → Int} {ws : List Int} {S : Nat → Int → Int} (hP : rxPCZ1x274 S0 ws) (hin : bx_same rxL (bx_mdl rxCCZ1x274.2.2.1) S0 S) (I0 : bx_Inv rxL S) (hinv : rxICZ1x274_14 S0 ws S)  : rxICZ1x274_15 S0 ws (bx_cpS S 284 11 12) ∧ rxmCZ1x274_15 S0 ws (bx_cpS S 284 11 12) < rxmCZ1x274_14 S0 ws S := by
  obtain ⟨h0, h1, h2, h3, h4, h5, h6, h7, h8, h9, hf, hW⟩ := hinv
  refine ⟨⟨?_, ?_, ?_, ?_, ?_, ?_, ?_, ?_, ?_, ?_, ?_, ?_, ?_⟩, by unfold rxmCZ1x274_14 rxmCZ1x274_15; omega⟩
  · exact (bx_cpS_ne (by decide)).trans h0
  · exact fun i hi => (bx_cpS_ne (by decide)).trans (h1 i hi)
  · exact fun i hi => (bx_cpS_ne (by decide)).trans (h2 i hi)
  · exact (bx_cpS_ne (by decide)).trans h3
  · exact fun i hi => (bx_cpS_ne (by decide)).trans (h4 i hi)
  · exact fun i hi => (bx_cpS_ne (by decide)).trans (h5 i hi)
  · exact fun i hi => (bx_cpS_ne (by decide)).trans (h6 i hi)
  · exact (bx_cpS_ne (by decide)).trans h7
  · exact fun i hi => (bx_cpS_ne (by decide)).trans (h8 i hi)
  · exact fun i hi => (bx_cpS_ne (by decide)).trans (h9 i hi)
  · exact fun i hi => (bx_cpS_in (by omega) (by omega)).trans (hf 284 i (by decide) (show i < 12 from hi))
  · exact fun p i hp hi => (bx_cpS_ne (fun e => by subst e; revert hp; decide)).trans (hf p i hp hi)
  · exact rkWt4_ne (by unfold rkTb; omega) hW (fun p j hp => by have hp : (23 ≤ p ∧ p < 137) ∨ (160 ≤ p ∧ p < 274) ∨ (296 ≤ p ∧ p < 410) := hp; exact bx_cpS_ne (by omega))
theorem rxsCZ1x274_14 {X : (Nat → Int → Int) → Prop} {S0 : Nat → Int → Int} {ws : List Int} (hP : rxPCZ1x274 S0 ws) (hX : ∀ S S1 : Nat → Int → Int, X S → bx_same rxL (bx_mdl rxCCZ1x274.2.2.1) S S1 → X S1) : rx_obY X S0 rxCCZ1x274.2.2.1 (rxICZ1x274 S0 ws) (rxmCZ1x274 S0 ws) 14 15 rxzCZ1x274_14 284 11 12 := by
  intro S r hinv hXS I0 hin hs_ hf_
  have b_ := bx_bds_sat hs_
  have f_ := bx_fcl_ok hs_.1 hf_
  have g := rxtCZ1x274_14 hP hin I0 hinv 
  exact ⟨g.1, g.2, hX _ _ hXS (rx_same_cp (fun _ _ _ _ _ => rfl) (g1 := 8) rfl (by decide +kernel)), rx_same_cp hin (g1 := 8) rfl (by decide +kernel)⟩
theorem rxkCZ1x274_17 {S0 : Nat → Int → Int} {ws : List Int} {S : Nat → Int → Int} {i rp rq : Int} (hP : rxPCZ1x274 S0 ws) (hin : bx_same rxL (bx_mdl rxCCZ1x274.2.2.1) S0 S) (I0 : bx_Inv rxL S) (hinv : rxICZ1x274_17 S0 ws S i rp rq) (l8 : 0 ≤ i) (u8 : i ≤ 11) (l9 : 0 ≤ rp) (u9 : rp ≤ 1522) (l10 : 0 ≤ rq) (u10 : rq ≤ 1522) : rxPSCZ S [rp, rq] ∧ ∀ (S_p : Nat → Int → Int), rxPSSCZ S [rp, rq] S_p none → bx_Inv rxL S_p → bx_same rxL (bx_mdl rxCSCZ.2.2.1) S S_p → rxICZ1x274_18 S0 ws S_p i rp rq ∧ rxmCZ1x274_18 S0 ws S_p i rp rq < rxmCZ1x274_17 S0 ws S i rp rq := by
  obtain ⟨hrp, hrq, h0, h1, h2, h3, h4, h5, h6, h7, h8, h9, h10, hf, hW⟩ := hinv
  have hpl := rkPl_sm hin (by decide +kernel) hP
  have gb := (hpl.2.1.2 i.toNat (by omega)).2
  have gs := (hpl.2.2.2.2 i.toNat (by omega)).2
  refine ⟨⟨41 + 3 * i.toNat, 314 + 3 * i.toNat, by rw [hrp, hrq], ⟨(by
      have g := rkSg_t (tb := 23) (k := 6 + i.toNat) (by unfold rkTb; omega) (by omega)
      rw [show 23 + 3 * (6 + i.toNat) = 41 + 3 * i.toNat by omega] at g
      exact g), (by
      have g := rkSg_t (tb := 296) (k := 6 + i.toNat) (by unfold rkTb; omega) (by omega)
      rw [show 296 + 3 * (6 + i.toNat) = 314 + 3 * i.toNat by omega] at g
      exact g), by omega⟩, gs, gb⟩, fun S_p hq _ hsm => ?_⟩
  have q := hq.2 (41 + 3 * i.toNat) (314 + 3 * i.toNat) (by rw [hrp, hrq])
  have e : ∀ (p : Nat) (j : Int), ¬ rkRgn p → S_p p j = S p j := rkSc_o q (tb := 23) (by unfold rkTb; omega) (by omega) (by omega)
  refine ⟨⟨(e _ _ (by unfold rkRgn; omega)).trans h0, fun n hn => (e _ _ (by unfold rkRgn; omega)).trans (h1 n hn), fun n hn => (e _ _ (by unfold rkRgn; omega)).trans (h2 n hn), (e _ _ (by unfold rkRgn; omega)).trans h3, fun n hn => (e _ _ (by unfold rkRgn; omega)).trans (h4 n hn), fun n hn => (e _ _ (by unfold rkRgn; omega)).trans (h5 n hn), fun n hn => (e _ _ (by unfold rkRgn; omega)).trans (h6 n hn), (e _ _ (by unfold rkRgn; omega)).trans h7, fun n hn => (e _ _ (by unfold rkRgn; omega)).trans (h8 n hn), fun n hn => (e _ _ (by unfold rkRgn; omega)).trans (h9 n hn), fun n hn => (e _ _ (by unfold rkRgn; omega)).trans (h10 n hn), fun p n hp hi => (e p n (rkNum_n (rxFl1_in p hp))).trans (hf p n hp hi), ?_⟩, by unfold rxmCZ1x274_17 rxmCZ1x274_18; omega⟩
  have ei : ((i.toNat : Nat) : Int) = i := Int.toNat_of_nonneg (by omega)
  have hW_p : rkWt4 S0 S 23 296 6 ((i.toNat : Nat) : Int) 0 := by rw [ei]; exact hW
  have g := rkWt4_v (by unfold rkTb; omega) (by unfold rkTb; omega) (by decide) (by omega) hW_p q
  rw [ei] at g
  exact g
theorem rxsCZ1x274_17 {X : (Nat → Int → Int) → Prop} {S0 : Nat → Int → Int} {ws : List Int} (hP : rxPCZ1x274 S0 ws) : rx_obK X S0 rxCCZ1x274.2.2.1 rxCSCZ.2.2.1 (rxICZ1x274 S0 ws) (rxmCZ1x274 S0 ws) 17 18 rxzCZ1x274_17 rxzCZ1x274_18 [.inr (3, (9, 0)), .inr (3, (10, 0))] none rxPSCZ rxPSSCZ := by
  intro S r hinv hXS I0 hin hs_ hf_
  have b_ := bx_bds_sat hs_
  have f_ := bx_fcl_ok hs_.1 hf_
  obtain ⟨⟨l8, u8⟩, ⟨l9, u9⟩, ⟨l10, u10⟩, -⟩ := b_
  have g := rxkCZ1x274_17 hP hin I0 hinv l8 u8 l9 u9 l10 u10
  have ea : List.map (bx_num r) [.inr (3, (9, 0)), .inr (3, (10, 0))] = [(r 9), (r 10)] := by
    simp only [List.map_cons, List.map_nil, bx_xv_ok hs_.1]
    rfl
  rw [ea]
  refine ⟨g.1, fun S_p w r_p hPS hX_p I1 hsm hr hw hs_p => ?_⟩
  have hw : w = none := hPS.1
  subst hw
  have g2 := g.2 S_p hPS I1 hsm
  show rxICZ1x274_18 S0 ws S_p (r_p 8) (r_p 9) (r_p 10) ∧ rxmCZ1x274_18 S0 ws S_p (r_p 8) (r_p 9) (r_p 10) < _
  rw [hr 8 (by decide), hr 9 (by decide), hr 10 (by decide)]
  exact g2
theorem rxtCZ1x274_19 {S0 : Nat → Int → Int} {ws : List Int} {S : Nat → Int → Int} (hP : rxPCZ1x274 S0 ws) (hin : bx_same rxL (bx_mdl rxCCZ1x274.2.2.1) S0 S) (I0 : bx_Inv rxL S) (hinv : rxICZ1x274_19 S0 ws S)  : rxICZ1x274_20 S0 ws (bx_cpS S 286 13 12) ∧ rxmCZ1x274_20 S0 ws (bx_cpS S 286 13 12) < rxmCZ1x274_19 S0 ws S := by
  obtain ⟨h0, h1, h2, h3, h4, h5, h6, h7, h8, h9, h10, h11, hf, hW⟩ := hinv
  refine ⟨⟨?_, ?_, ?_, ?_, ?_, ?_, ?_, ?_, ?_, ?_, ?_, ?_, ?_, ?_, ?_⟩, by unfold rxmCZ1x274_19 rxmCZ1x274_20; omega⟩
  · exact (bx_cpS_ne (by decide)).trans h0
  · exact fun i hi => (bx_cpS_ne (by decide)).trans (h1 i hi)
  · exact fun i hi => (bx_cpS_ne (by decide)).trans (h2 i hi)
  · exact (bx_cpS_ne (by decide)).trans h3
  · exact fun i hi => (bx_cpS_ne (by decide)).trans (h4 i hi)
  · exact fun i hi => (bx_cpS_ne (by decide)).trans (h5 i hi)
  · exact fun i hi => (bx_cpS_ne (by decide)).trans (h6 i hi)
  · exact (bx_cpS_ne (by decide)).trans h7
  · exact fun i hi => (bx_cpS_ne (by decide)).trans (h8 i hi)
  · exact fun i hi => (bx_cpS_ne (by decide)).trans (h9 i hi)
  · exact fun i hi => (bx_cpS_ne (by decide)).trans (h10 i hi)
  · exact (bx_cpS_ne (by decide)).trans h11
  · exact fun i hi => (bx_cpS_in (by omega) (by omega)).trans (hf 286 i (by decide) (show i < 12 from hi))
  · exact fun p i hp hi => (bx_cpS_ne (fun e => by subst e; revert hp; decide)).trans (hf p i hp hi)
  · exact rkWt4_ne (by unfold rkTb; omega) hW (fun p j hp => by have hp : (23 ≤ p ∧ p < 137) ∨ (160 ≤ p ∧ p < 274) ∨ (296 ≤ p ∧ p < 410) := hp; exact bx_cpS_ne (by omega))
theorem rxsCZ1x274_19 {X : (Nat → Int → Int) → Prop} {S0 : Nat → Int → Int} {ws : List Int} (hP : rxPCZ1x274 S0 ws) (hX : ∀ S S1 : Nat → Int → Int, X S → bx_same rxL (bx_mdl rxCCZ1x274.2.2.1) S S1 → X S1) : rx_obY X S0 rxCCZ1x274.2.2.1 (rxICZ1x274 S0 ws) (rxmCZ1x274 S0 ws) 19 20 rxzCZ1x274_19 286 13 12 := by
  intro S r hinv hXS I0 hin hs_ hf_
  have b_ := bx_bds_sat hs_
  have f_ := bx_fcl_ok hs_.1 hf_
  have g := rxtCZ1x274_19 hP hin I0 hinv 
  exact ⟨g.1, g.2, hX _ _ hXS (rx_same_cp (fun _ _ _ _ _ => rfl) (g1 := 10) rfl (by decide +kernel)), rx_same_cp hin (g1 := 10) rfl (by decide +kernel)⟩
theorem rxkCZ1x274_21 {S0 : Nat → Int → Int} {ws : List Int} {S : Nat → Int → Int} (hP : rxPCZ1x274 S0 ws) (hin : bx_same rxL (bx_mdl rxCCZ1x274.2.2.1) S0 S) (I0 : bx_Inv rxL S) (hinv : rxICZ1x274_21 S0 ws S)  : rxPDC14x287 S [14, 287] ∧ ∀ (S_p : Nat → Int → Int), rxPSDC14x287 S [14, 287] S_p none → bx_Inv rxL S_p → bx_same rxL (bx_mdl rxCDC14x287.2.2.1) S S_p → rxICZ1x274_22 S0 ws S_p ∧ rxmCZ1x274_22 S0 ws S_p < rxmCZ1x274_21 S0 ws S := by
  obtain ⟨h0, h1, h2, h3, h4, h5, h6, h7, h8, h9, h10, h11, h12, hf, hW⟩ := hinv
  refine ⟨trivial, fun S_p hq _ hsm => ⟨⟨?_, ?_, ?_, ?_, ?_, ?_, ?_, ?_, ?_, ?_, ?_, ?_, ?_, ?_, ?_, ?_, ?_, ?_, ?_⟩, by unfold rxmCZ1x274_21 rxmCZ1x274_22; omega⟩⟩
  all_goals obtain ⟨-, q0, q1, q2, q3, qf⟩ := hq
  · exact (qf _ _ (by decide) (by decide) (by decide) (by decide)).trans h0
  · exact fun i hi => (qf _ _ (by decide) (by decide) (by decide) (by decide)).trans (h1 i hi)
  · exact fun i hi => (qf _ _ (by decide) (by decide) (by decide) (by decide)).trans (h2 i hi)
  · exact (qf _ _ (by decide) (by decide) (by decide) (by decide)).trans h3
  · exact fun i hi => (qf _ _ (by decide) (by decide) (by decide) (by decide)).trans (h4 i hi)
  · exact fun i hi => (qf _ _ (by decide) (by decide) (by decide) (by decide)).trans (h5 i hi)
  · exact fun i hi => (qf _ _ (by decide) (by decide) (by decide) (by decide)).trans (h6 i hi)
  · exact (qf _ _ (by decide) (by decide) (by decide) (by decide)).trans h7
  · exact fun i hi => (qf _ _ (by decide) (by decide) (by decide) (by decide)).trans (h8 i hi)
  · exact fun i hi => (qf _ _ (by decide) (by decide) (by decide) (by decide)).trans (h9 i hi)
  · exact fun i hi => (qf _ _ (by decide) (by decide) (by decide) (by decide)).trans (h10 i hi)
  · exact (qf _ _ (by decide) (by decide) (by decide) (by decide)).trans h11
  · exact fun i hi => (qf _ _ (by decide) (by decide) (by decide) (by decide)).trans (h12 i hi)
  · exact q0.trans (hf 287 0 (by decide) (by decide))
  · exact fun i hi => (q1 i (by omega) (by omega)).trans (hf 288 i (by decide) (show i < 12 from hi))
  · exact fun i hi => (q2 i (by omega) (by omega)).trans (hf 289 i (by decide) (show i < 12 from hi))
  · exact fun i hi => (q3 i (by omega) (by omega)).trans (hf 290 i (by decide) (show i < 12 from hi))
  · exact fun p i hp hi => (qf p i (fun e => by subst e; revert hp; decide) (fun e => by subst e; revert hp; decide) (fun e => by subst e; revert hp; decide) (fun e => by subst e; revert hp; decide)).trans (hf p i hp hi)
  · exact rkWt4_ne (by unfold rkTb; omega) hW (fun p j hp => by have hp : (23 ≤ p ∧ p < 137) ∨ (160 ≤ p ∧ p < 274) ∨ (296 ≤ p ∧ p < 410) := hp; exact qf p j (by omega) (by omega) (by omega) (by omega))
theorem rxsCZ1x274_21 {X : (Nat → Int → Int) → Prop} {S0 : Nat → Int → Int} {ws : List Int} (hP : rxPCZ1x274 S0 ws) : rx_obK X S0 rxCCZ1x274.2.2.1 rxCDC14x287.2.2.1 (rxICZ1x274 S0 ws) (rxmCZ1x274 S0 ws) 21 22 rxzCZ1x274_21 rxzCZ1x274_22 [.inr (3, (0, 14)), .inr (3, (0, 287))] none rxPDC14x287 rxPSDC14x287 := by
  intro S r hinv hXS I0 hin hs_ hf_
  have b_ := bx_bds_sat hs_
  have f_ := bx_fcl_ok hs_.1 hf_
  have g := rxkCZ1x274_21 hP hin I0 hinv 
  have ea : List.map (bx_num r) [.inr (3, (0, 14)), .inr (3, (0, 287))] = [14, 287] := by
    simp only [List.map_cons, List.map_nil, bx_xv_ok hs_.1]
    rfl
  rw [ea]
  refine ⟨g.1, fun S_p w r_p hPS hX_p I1 hsm hr hw hs_p => ?_⟩
  have hw : w = none := hPS.1
  subst hw
  have g2 := g.2 S_p hPS I1 hsm
  show rxICZ1x274_22 S0 ws S_p ∧ rxmCZ1x274_22 S0 ws S_p < _
  exact g2
theorem rxtCZ1x274_23 {S0 : Nat → Int → Int} {ws : List Int} {S : Nat → Int → Int} (hP : rxPCZ1x274 S0 ws) (hin : bx_same rxL (bx_mdl rxCCZ1x274.2.2.1) S0 S) (I0 : bx_Inv rxL S) (hinv : rxICZ1x274_23 S0 ws S)  : rxICZ1x274_24 S0 ws (bx_cpS S 292 19 3) ∧ rxmCZ1x274_24 S0 ws (bx_cpS S 292 19 3) < rxmCZ1x274_23 S0 ws S := by
  obtain ⟨h0, h1, h2, h3, h4, h5, h6, h7, h8, h9, h10, h11, h12, h13, h14, h15, h16, hf, hW⟩ := hinv
  refine ⟨⟨?_, ?_, ?_, ?_, ?_, ?_, ?_, ?_, ?_, ?_, ?_, ?_, ?_, ?_, ?_, ?_, ?_, ?_, ?_, ?_⟩, by unfold rxmCZ1x274_23 rxmCZ1x274_24; omega⟩
  · exact (bx_cpS_ne (by decide)).trans h0
  · exact fun i hi => (bx_cpS_ne (by decide)).trans (h1 i hi)
  · exact fun i hi => (bx_cpS_ne (by decide)).trans (h2 i hi)
  · exact (bx_cpS_ne (by decide)).trans h3
  · exact fun i hi => (bx_cpS_ne (by decide)).trans (h4 i hi)
  · exact fun i hi => (bx_cpS_ne (by decide)).trans (h5 i hi)
  · exact fun i hi => (bx_cpS_ne (by decide)).trans (h6 i hi)
  · exact (bx_cpS_ne (by decide)).trans h7
  · exact fun i hi => (bx_cpS_ne (by decide)).trans (h8 i hi)
  · exact fun i hi => (bx_cpS_ne (by decide)).trans (h9 i hi)
  · exact fun i hi => (bx_cpS_ne (by decide)).trans (h10 i hi)
  · exact (bx_cpS_ne (by decide)).trans h11
  · exact fun i hi => (bx_cpS_ne (by decide)).trans (h12 i hi)
  · exact (bx_cpS_ne (by decide)).trans h13
  · exact fun i hi => (bx_cpS_ne (by decide)).trans (h14 i hi)
  · exact fun i hi => (bx_cpS_ne (by decide)).trans (h15 i hi)
  · exact fun i hi => (bx_cpS_ne (by decide)).trans (h16 i hi)
  · exact fun i hi => (bx_cpS_in (by omega) (by omega)).trans (hf 292 i (by decide) (show i < 3 from hi))
  · exact fun p i hp hi => (bx_cpS_ne (fun e => by subst e; revert hp; decide)).trans (hf p i hp hi)
  · exact rkWt4_ne (by unfold rkTb; omega) hW (fun p j hp => by have hp : (23 ≤ p ∧ p < 137) ∨ (160 ≤ p ∧ p < 274) ∨ (296 ≤ p ∧ p < 410) := hp; exact bx_cpS_ne (by omega))
theorem rxsCZ1x274_23 {X : (Nat → Int → Int) → Prop} {S0 : Nat → Int → Int} {ws : List Int} (hP : rxPCZ1x274 S0 ws) (hX : ∀ S S1 : Nat → Int → Int, X S → bx_same rxL (bx_mdl rxCCZ1x274.2.2.1) S S1 → X S1) : rx_obY X S0 rxCCZ1x274.2.2.1 (rxICZ1x274 S0 ws) (rxmCZ1x274 S0 ws) 23 24 rxzCZ1x274_23 292 19 3 := by
  intro S r hinv hXS I0 hin hs_ hf_
  have b_ := bx_bds_sat hs_
  have f_ := bx_fcl_ok hs_.1 hf_
  have g := rxtCZ1x274_23 hP hin I0 hinv 
  exact ⟨g.1, g.2, hX _ _ hXS (rx_same_cp (fun _ _ _ _ _ => rfl) (g1 := 15) rfl (by decide +kernel)), rx_same_cp hin (g1 := 15) rfl (by decide +kernel)⟩
theorem rxkCZ1x274_26 {S0 : Nat → Int → Int} {ws : List Int} {S : Nat → Int → Int} {i rp rq : Int} (hP : rxPCZ1x274 S0 ws) (hin : bx_same rxL (bx_mdl rxCCZ1x274.2.2.1) S0 S) (I0 : bx_Inv rxL S) (hinv : rxICZ1x274_26 S0 ws S i rp rq) (l8 : 0 ≤ i) (u8 : i ≤ 5) (l9 : 0 ≤ rp) (u9 : rp ≤ 1522) (l10 : 0 ≤ rq) (u10 : rq ≤ 1522) : rxPQCZ S [rp, rq] ∧ ∀ (S_p : Nat → Int → Int), rxPSQCZ S [rp, rq] S_p none → bx_Inv rxL S_p → bx_same rxL (bx_mdl rxCQCZ.2.2.1) S S_p → rxICZ1x274_27 S0 ws S_p i rp rq ∧ rxmCZ1x274_27 S0 ws S_p i rp rq < rxmCZ1x274_26 S0 ws S i rp rq := by
  obtain ⟨hrp, hrq, h0, h1, h2, h3, h4, h5, h6, h7, h8, h9, h10, h11, h12, h13, h14, h15, h16, h17, h18, h19, hf, hW⟩ := hinv
  have hpl := rkPl_sm hin (by decide +kernel) hP
  have gb := (hpl.1.2.1 i.toNat (by omega)).2
  have gs := (hpl.1.2.2.2 i.toNat (by omega)).2
  refine ⟨⟨77 + 10 * i.toNat, 350 + 10 * i.toNat, by rw [hrp, hrq], ⟨(by
      have g := rkPg_t (tb := 23) (k := i.toNat) (by unfold rkTb; omega) (by omega)
      exact g), (by
      have g := rkPg_t (tb := 296) (k := i.toNat) (by unfold rkTb; omega) (by omega)
      exact g), by omega⟩, gs, gb⟩, fun S_p hq _ hsm => ?_⟩
  have q := hq.2 (77 + 10 * i.toNat) (350 + 10 * i.toNat) (by rw [hrp, hrq])
  have e : ∀ (p : Nat) (j : Int), ¬ rkRgn p → S_p p j = S p j := rkQc_o q (tb := 23) (by unfold rkTb; omega) (by omega) (by omega)
  refine ⟨⟨(e _ _ (by unfold rkRgn; omega)).trans h0, fun n hn => (e _ _ (by unfold rkRgn; omega)).trans (h1 n hn), fun n hn => (e _ _ (by unfold rkRgn; omega)).trans (h2 n hn), (e _ _ (by unfold rkRgn; omega)).trans h3, fun n hn => (e _ _ (by unfold rkRgn; omega)).trans (h4 n hn), fun n hn => (e _ _ (by unfold rkRgn; omega)).trans (h5 n hn), fun n hn => (e _ _ (by unfold rkRgn; omega)).trans (h6 n hn), (e _ _ (by unfold rkRgn; omega)).trans h7, fun n hn => (e _ _ (by unfold rkRgn; omega)).trans (h8 n hn), fun n hn => (e _ _ (by unfold rkRgn; omega)).trans (h9 n hn), fun n hn => (e _ _ (by unfold rkRgn; omega)).trans (h10 n hn), (e _ _ (by unfold rkRgn; omega)).trans h11, fun n hn => (e _ _ (by unfold rkRgn; omega)).trans (h12 n hn), (e _ _ (by unfold rkRgn; omega)).trans h13, fun n hn => (e _ _ (by unfold rkRgn; omega)).trans (h14 n hn), fun n hn => (e _ _ (by unfold rkRgn; omega)).trans (h15 n hn), fun n hn => (e _ _ (by unfold rkRgn; omega)).trans (h16 n hn), fun n hn => (e _ _ (by unfold rkRgn; omega)).trans (h17 n hn), (e _ _ (by unfold rkRgn; omega)).trans h18, (e _ _ (by unfold rkRgn; omega)).trans h19, fun p n hp hi => (e p n (rkNum_n (rxFl1_in p hp))).trans (hf p n hp hi), ?_⟩, by unfold rxmCZ1x274_26 rxmCZ1x274_27; omega⟩
  have ei : ((i.toNat : Nat) : Int) = i := Int.toNat_of_nonneg (by omega)
  have hW_p : rkWt4 S0 S 23 296 6 12 ((i.toNat : Nat) : Int) := by rw [ei]; exact hW
  have g := rkWt4_l (by unfold rkTb; omega) (by unfold rkTb; omega) (by decide) (by omega) hW_p q
  rw [ei] at g
  exact g
theorem rxsCZ1x274_26 {X : (Nat → Int → Int) → Prop} {S0 : Nat → Int → Int} {ws : List Int} (hP : rxPCZ1x274 S0 ws) : rx_obK X S0 rxCCZ1x274.2.2.1 rxCQCZ.2.2.1 (rxICZ1x274 S0 ws) (rxmCZ1x274 S0 ws) 26 27 rxzCZ1x274_26 rxzCZ1x274_27 [.inr (3, (9, 0)), .inr (3, (10, 0))] none rxPQCZ rxPSQCZ := by
  intro S r hinv hXS I0 hin hs_ hf_
  have b_ := bx_bds_sat hs_
  have f_ := bx_fcl_ok hs_.1 hf_
  obtain ⟨⟨l8, u8⟩, ⟨l9, u9⟩, ⟨l10, u10⟩, -⟩ := b_
  have g := rxkCZ1x274_26 hP hin I0 hinv l8 u8 l9 u9 l10 u10
  have ea : List.map (bx_num r) [.inr (3, (9, 0)), .inr (3, (10, 0))] = [(r 9), (r 10)] := by
    simp only [List.map_cons, List.map_nil, bx_xv_ok hs_.1]
    rfl
  rw [ea]
  refine ⟨g.1, fun S_p w r_p hPS hX_p I1 hsm hr hw hs_p => ?_⟩
  have hw : w = none := hPS.1
  subst hw
  have g2 := g.2 S_p hPS I1 hsm
  show rxICZ1x274_27 S0 ws S_p (r_p 8) (r_p 9) (r_p 10) ∧ rxmCZ1x274_27 S0 ws S_p (r_p 8) (r_p 9) (r_p 10) < _
  rw [hr 8 (by decide), hr 9 (by decide), hr 10 (by decide)]
  exact g2
theorem rxcCZ1x274_0_0 {S0 : Nat → Int → Int} {ws : List Int} {S : Nat → Int → Int} {x8 : Int} (hP : rxPCZ1x274 S0 ws) (hin : bx_same rxL (bx_mdl rxCCZ1x274.2.2.1) S0 S) (I0 : bx_Inv rxL S) (hinv : rxICZ1x274_0 S0 ws S) (l8 : 0 ≤ x8) (u8 : x8 ≤ 6) (e1 : S 274 0 = x8) : (True) ∧ (True) ∧ rxICZ1x274_1 S0 ws (bx_up S 1 0 x8) ∧ rxmCZ1x274_1 S0 ws (bx_up S 1 0 x8) < rxmCZ1x274_0 S0 ws S := by
  obtain ⟨rfl, hw⟩ := hinv
  exact ⟨trivial, trivial, ⟨bx_up_at.trans e1.symm, fun p i hp hi => bx_up_ne (fun h => by have e := h.1; subst e; revert hp; decide), rkWt4_0 fun p j hp => by
    have hp : (23 ≤ p ∧ p < 137) ∨ (160 ≤ p ∧ p < 274) ∨ (296 ≤ p ∧ p < 410) := hp
    exact bx_up_ne (by omega)⟩, by unfold rxmCZ1x274_0 rxmCZ1x274_1; omega⟩
theorem rxgCZ1x274_0_0 {X : (Nat → Int → Int) → Prop} {S0 : Nat → Int → Int} {ws : List Int} (hP : rxPCZ1x274 S0 ws) : bx_obC rxL X S0 rxCCZ1x274.2.2.1 (rxICZ1x274 S0 ws) (rxmCZ1x274 S0 ws) 0 rxzCZ1x274_0 rxoCZ1x274_0_0 := by
  intro S S_p r r_p hinv hX hin hsm_ hseg
  obtain ⟨I0, I1, h0_, hr_, b_, f_, d_⟩ := bx_cl (evs := [(1, (0, 1), (0, 0), .inr (0, (8, 0))), (0, (0, 274), (0, 0), .inr (0, (8, 0)))]) (fvs := []) hseg (by decide +kernel) (by decide +kernel)
  have hinv : rxICZ1x274_0 S0 ws S := hinv
  obtain ⟨⟨l8, u8⟩, -⟩ := b_
  obtain ⟨T0, ⟨e1, w_⟩, w0⟩ := d_
  subst w0
  subst w_
  have g := rxcCZ1x274_0_0 hP hin I0 hinv l8 u8 e1
  refine ⟨bx_narP_ok (l := []) g.1, bx_nfP_ok h0_ (fvs := []) (by decide +kernel) g.2.1, ?_, ?_⟩
  · show rxICZ1x274_1 S0 ws (bx_up T0 1 (0) (r_p 8))
    exact g.2.2.1
  · show rxmCZ1x274_1 S0 ws (bx_up T0 1 (0) (r_p 8)) < rxmCZ1x274_0 S0 ws T0
    exact g.2.2.2
theorem rxcCZ1x274_2_0 {S0 : Nat → Int → Int} {ws : List Int} {S : Nat → Int → Int} (hP : rxPCZ1x274 S0 ws) (hin : bx_same rxL (bx_mdl rxCCZ1x274.2.2.1) S0 S) (I0 : bx_Inv rxL S) (hinv : rxICZ1x274_2 S0 ws S)  : (True) ∧ (True) ∧ rxICZ1x274_3 S0 ws S ∧ rxmCZ1x274_3 S0 ws S < rxmCZ1x274_2 S0 ws S := by
  exact ⟨trivial, trivial, hinv, by unfold rxmCZ1x274_2 rxmCZ1x274_3; omega⟩
theorem rxgCZ1x274_2_0 {X : (Nat → Int → Int) → Prop} {S0 : Nat → Int → Int} {ws : List Int} (hP : rxPCZ1x274 S0 ws) : bx_obC rxL X S0 rxCCZ1x274.2.2.1 (rxICZ1x274 S0 ws) (rxmCZ1x274 S0 ws) 2 rxzCZ1x274_2 rxoCZ1x274_2_0 := by
  intro S S_p r r_p hinv hX hin hsm_ hseg
  obtain ⟨I0, I1, h0_, hr_, b_, f_, d_⟩ := bx_cl (evs := []) (fvs := []) hseg (by decide +kernel) (by decide +kernel)
  have hinv : rxICZ1x274_2 S0 ws S := hinv
  have w_ := d_
  subst w_
  have g := rxcCZ1x274_2_0 hP hin I0 hinv 
  refine ⟨bx_narP_ok (l := []) g.1, bx_nfP_ok h0_ (fvs := []) (by decide +kernel) g.2.1, ?_, ?_⟩
  · show rxICZ1x274_3 S0 ws S_p
    exact g.2.2.1
  · show rxmCZ1x274_3 S0 ws S_p < rxmCZ1x274_2 S0 ws S_p
    exact g.2.2.2
theorem rxcCZ1x274_4_0 {S0 : Nat → Int → Int} {ws : List Int} {S : Nat → Int → Int} (hP : rxPCZ1x274 S0 ws) (hin : bx_same rxL (bx_mdl rxCCZ1x274.2.2.1) S0 S) (I0 : bx_Inv rxL S) (hinv : rxICZ1x274_4 S0 ws S)  : (True) ∧ (True) ∧ rxICZ1x274_5 S0 ws S 0 ∧ rxmCZ1x274_5 S0 ws S 0 < rxmCZ1x274_4 S0 ws S := by
  exact ⟨trivial, trivial, hinv, by unfold rxmCZ1x274_4 rxmCZ1x274_5; omega⟩
theorem rxgCZ1x274_4_0 {X : (Nat → Int → Int) → Prop} {S0 : Nat → Int → Int} {ws : List Int} (hP : rxPCZ1x274 S0 ws) : bx_obC rxL X S0 rxCCZ1x274.2.2.1 (rxICZ1x274 S0 ws) (rxmCZ1x274 S0 ws) 4 rxzCZ1x274_4 rxoCZ1x274_4_0 := by
  intro S S_p r r_p hinv hX hin hsm_ hseg
  obtain ⟨I0, I1, h0_, hr_, b_, f_, d_⟩ := bx_cl (evs := []) (fvs := []) hseg (by decide +kernel) (by decide +kernel)
  have hinv : rxICZ1x274_4 S0 ws S := hinv
  have w_ := d_
  subst w_
  have g := rxcCZ1x274_4_0 hP hin I0 hinv 
  refine ⟨bx_narP_ok (l := []) g.1, bx_nfP_ok h0_ (fvs := []) (by decide +kernel) g.2.1, ?_, ?_⟩
  · show rxICZ1x274_5 S0 ws S_p (bx_val [(0, 0), (0, 0), (0, 0), (0, 0), (0, 0), (0, 0), (0, 0), (0, 0), (0, 0)] r_p 8)
    rw [bx_val_x (n := 8) (e := (0, 0)) h0_ rfl]
    exact g.2.2.1
  · show rxmCZ1x274_5 S0 ws S_p (bx_val [(0, 0), (0, 0), (0, 0), (0, 0), (0, 0), (0, 0), (0, 0), (0, 0), (0, 0)] r_p 8) < rxmCZ1x274_4 S0 ws S_p
    rw [bx_val_x (n := 8) (e := (0, 0)) h0_ rfl]
    exact g.2.2.2
theorem rxcCZ1x274_5_0 {S0 : Nat → Int → Int} {ws : List Int} {S : Nat → Int → Int} {i x9 x10 : Int} (hP : rxPCZ1x274 S0 ws) (hin : bx_same rxL (bx_mdl rxCCZ1x274.2.2.1) S0 S) (I0 : bx_Inv rxL S) (hinv : rxICZ1x274_5 S0 ws S i) (l8 : 0 ≤ i) (u8 : i ≤ 5) (l9 : 0 ≤ x9) (u9 : x9 ≤ 1522) (l10 : 0 ≤ x10) (u10 : x10 ≤ 1522) (e1 : S 4 i = x9) (e0 : S 277 i = x10) : (True) ∧ (True) ∧ rxICZ1x274_6 S0 ws S i x9 x10 ∧ rxmCZ1x274_6 S0 ws S i x9 x10 < rxmCZ1x274_5 S0 ws S i := by
  obtain ⟨h0, h1, h2, hf, hW⟩ := id hinv
  have hpl := rkPl_sm hin (by decide +kernel) hP
  have gb := (hpl.2.1.1 i.toNat (by omega)).1
  have gs := (hpl.2.2.2.1 i.toNat (by omega)).1
  rw [Int.toNat_of_nonneg (show (0 : Int) ≤ i by omega)] at gb gs
  exact ⟨trivial, trivial, ⟨e1.symm.trans gb, e0.symm.trans gs, hinv⟩, by unfold rxmCZ1x274_5 rxmCZ1x274_6; omega⟩
theorem rxgCZ1x274_5_0 {X : (Nat → Int → Int) → Prop} {S0 : Nat → Int → Int} {ws : List Int} (hP : rxPCZ1x274 S0 ws) : bx_obC rxL X S0 rxCCZ1x274.2.2.1 (rxICZ1x274 S0 ws) (rxmCZ1x274 S0 ws) 5 rxzCZ1x274_5 rxoCZ1x274_5_0 := by
  intro S S_p r r_p hinv hX hin hsm_ hseg
  obtain ⟨I0, I1, h0_, hr_, b_, f_, d_⟩ := bx_cl (evs := [(0, (0, 277), (8, 0), .inr (3, (10, 0))), (0, (0, 4), (8, 0), .inr (3, (9, 0)))]) (fvs := []) hseg (by decide +kernel) (by decide +kernel)
  have hinv : rxICZ1x274_5 S0 ws S (r 8) := hinv
  rw [← hr_ 8 (by decide)] at hinv
  obtain ⟨⟨l8, u8⟩, ⟨l9, u9⟩, ⟨l10, u10⟩, -⟩ := b_
  obtain ⟨e0, ⟨e1, w_⟩⟩ := d_
  subst w_
  have g := rxcCZ1x274_5_0 hP hin I0 hinv l8 u8 l9 u9 l10 u10 e1 e0
  refine ⟨bx_narP_ok (l := []) g.1, bx_nfP_ok h0_ (fvs := []) (by decide +kernel) g.2.1, ?_, ?_⟩
  · show rxICZ1x274_6 S0 ws S_p (bx_val [(0, 0), (0, 0), (0, 0), (0, 0), (0, 0), (0, 0), (0, 0), (0, 0), (8, 0), (9, 0), (10, 0)] r_p 8) (bx_val [(0, 0), (0, 0), (0, 0), (0, 0), (0, 0), (0, 0), (0, 0), (0, 0), (8, 0), (9, 0), (10, 0)] r_p 9) (bx_val [(0, 0), (0, 0), (0, 0), (0, 0), (0, 0), (0, 0), (0, 0), (0, 0), (8, 0), (9, 0), (10, 0)] r_p 10)
    rw [bx_val_x (n := 8) (e := (8, 0)) h0_ rfl, bx_val_x (n := 9) (e := (9, 0)) h0_ rfl, bx_val_x (n := 10) (e := (10, 0)) h0_ rfl]
    exact g.2.2.1
  · show rxmCZ1x274_6 S0 ws S_p (bx_val [(0, 0), (0, 0), (0, 0), (0, 0), (0, 0), (0, 0), (0, 0), (0, 0), (8, 0), (9, 0), (10, 0)] r_p 8) (bx_val [(0, 0), (0, 0), (0, 0), (0, 0), (0, 0), (0, 0), (0, 0), (0, 0), (8, 0), (9, 0), (10, 0)] r_p 9) (bx_val [(0, 0), (0, 0), (0, 0), (0, 0), (0, 0), (0, 0), (0, 0), (0, 0), (8, 0), (9, 0), (10, 0)] r_p 10) < rxmCZ1x274_5 S0 ws S_p (r 8)
    rw [bx_val_x (n := 8) (e := (8, 0)) h0_ rfl, bx_val_x (n := 9) (e := (9, 0)) h0_ rfl, bx_val_x (n := 10) (e := (10, 0)) h0_ rfl, ← hr_ 8 (by decide)]
    exact g.2.2.2
theorem rxcCZ1x274_5_1 {S0 : Nat → Int → Int} {ws : List Int} {S : Nat → Int → Int} {i : Int} (hP : rxPCZ1x274 S0 ws) (hin : bx_same rxL (bx_mdl rxCCZ1x274.2.2.1) S0 S) (I0 : bx_Inv rxL S) (hinv : rxICZ1x274_5 S0 ws S i) (l8 : 6 ≤ i) (u8 : i ≤ 6) : (True) ∧ (True) ∧ rxICZ1x274_8 S0 ws S ∧ rxmCZ1x274_8 S0 ws S < rxmCZ1x274_5 S0 ws S i := by
  have ei : i = 6 := by omega
  subst ei
  exact ⟨trivial, trivial, hinv, by unfold rxmCZ1x274_5 rxmCZ1x274_8; omega⟩
theorem rxgCZ1x274_5_1 {X : (Nat → Int → Int) → Prop} {S0 : Nat → Int → Int} {ws : List Int} (hP : rxPCZ1x274 S0 ws) : bx_obC rxL X S0 rxCCZ1x274.2.2.1 (rxICZ1x274 S0 ws) (rxmCZ1x274 S0 ws) 5 rxzCZ1x274_5 rxoCZ1x274_5_1 := by
  intro S S_p r r_p hinv hX hin hsm_ hseg
  obtain ⟨I0, I1, h0_, hr_, b_, f_, d_⟩ := bx_cl (evs := []) (fvs := []) hseg (by decide +kernel) (by decide +kernel)
  have hinv : rxICZ1x274_5 S0 ws S (r 8) := hinv
  rw [← hr_ 8 (by decide)] at hinv
  obtain ⟨⟨l8, u8⟩, -⟩ := b_
  have w_ := d_
  subst w_
  have g := rxcCZ1x274_5_1 hP hin I0 hinv l8 u8
  refine ⟨bx_narP_ok (l := []) g.1, bx_nfP_ok h0_ (fvs := []) (by decide +kernel) g.2.1, ?_, ?_⟩
  · show rxICZ1x274_8 S0 ws S_p
    exact g.2.2.1
  · show rxmCZ1x274_8 S0 ws S_p < rxmCZ1x274_5 S0 ws S_p (r 8)
    rw [← hr_ 8 (by decide)]
    exact g.2.2.2
theorem rxcCZ1x274_7_0 {S0 : Nat → Int → Int} {ws : List Int} {S : Nat → Int → Int} {i rp rq : Int} (hP : rxPCZ1x274 S0 ws) (hin : bx_same rxL (bx_mdl rxCCZ1x274.2.2.1) S0 S) (I0 : bx_Inv rxL S) (hinv : rxICZ1x274_7 S0 ws S i rp rq) (l8 : 0 ≤ i) (u8 : i ≤ 5) (l9 : 0 ≤ rp) (u9 : rp ≤ 1522) (l10 : 0 ≤ rq) (u10 : rq ≤ 1522) : (True) ∧ (True) ∧ rxICZ1x274_5 S0 ws S (i + 1) ∧ rxmCZ1x274_5 S0 ws S (i + 1) < rxmCZ1x274_7 S0 ws S i rp rq := by
  exact ⟨trivial, trivial, hinv, by unfold rxmCZ1x274_7 rxmCZ1x274_5; omega⟩
theorem rxgCZ1x274_7_0 {X : (Nat → Int → Int) → Prop} {S0 : Nat → Int → Int} {ws : List Int} (hP : rxPCZ1x274 S0 ws) : bx_obC rxL X S0 rxCCZ1x274.2.2.1 (rxICZ1x274 S0 ws) (rxmCZ1x274 S0 ws) 7 rxzCZ1x274_7 rxoCZ1x274_7_0 := by
  intro S S_p r r_p hinv hX hin hsm_ hseg
  obtain ⟨I0, I1, h0_, hr_, b_, f_, d_⟩ := bx_cl (evs := []) (fvs := []) hseg (by decide +kernel) (by decide +kernel)
  have hinv : rxICZ1x274_7 S0 ws S (r 8) (r 9) (r 10) := hinv
  rw [← hr_ 8 (by decide), ← hr_ 9 (by decide), ← hr_ 10 (by decide)] at hinv
  obtain ⟨⟨l8, u8⟩, ⟨l9, u9⟩, ⟨l10, u10⟩, -⟩ := b_
  have w_ := d_
  subst w_
  have g := rxcCZ1x274_7_0 hP hin I0 hinv l8 u8 l9 u9 l10 u10
  refine ⟨bx_narP_ok (l := []) g.1, bx_nfP_ok h0_ (fvs := []) (by decide +kernel) g.2.1, ?_, ?_⟩
  · show rxICZ1x274_5 S0 ws S_p (bx_val [(0, 0), (0, 0), (0, 0), (0, 0), (0, 0), (0, 0), (0, 0), (0, 0), (8, 1)] r_p 8)
    rw [bx_val_x (n := 8) (e := (8, 1)) h0_ rfl]
    exact g.2.2.1
  · show rxmCZ1x274_5 S0 ws S_p (bx_val [(0, 0), (0, 0), (0, 0), (0, 0), (0, 0), (0, 0), (0, 0), (0, 0), (8, 1)] r_p 8) < rxmCZ1x274_7 S0 ws S_p (r 8) (r 9) (r 10)
    rw [bx_val_x (n := 8) (e := (8, 1)) h0_ rfl, ← hr_ 8 (by decide), ← hr_ 9 (by decide), ← hr_ 10 (by decide)]
    exact g.2.2.2
theorem rxcCZ1x274_9_0 {S0 : Nat → Int → Int} {ws : List Int} {S : Nat → Int → Int} {x8 : Int} (hP : rxPCZ1x274 S0 ws) (hin : bx_same rxL (bx_mdl rxCCZ1x274.2.2.1) S0 S) (I0 : bx_Inv rxL S) (hinv : rxICZ1x274_9 S0 ws S) (l8 : 0 ≤ x8) (u8 : x8 ≤ 12) (e1 : S 274 5 = x8) : (True) ∧ (True) ∧ rxICZ1x274_10 S0 ws (bx_up S 1 5 x8) ∧ rxmCZ1x274_10 S0 ws (bx_up S 1 5 x8) < rxmCZ1x274_9 S0 ws S := by
  obtain ⟨h0, h1, h2, h3, h4, h5, h6, hf, hW⟩ := hinv
  refine ⟨trivial, trivial, ⟨(bx_up_ne (by omega)).trans (h0), fun n hn => (bx_up_ne (by omega)).trans (h1 n hn), fun n hn => (bx_up_ne (by omega)).trans (h2 n hn), (bx_up_ne (by omega)).trans (h3), fun n hn => (bx_up_ne (by omega)).trans (h4 n hn), fun n hn => (bx_up_ne (by omega)).trans (h5 n hn), fun n hn => (bx_up_ne (by omega)).trans (h6 n hn), bx_up_at.trans ((e1).symm.trans (hf 274 5 (by decide) (by decide))), fun p n hp hi => (bx_up_ne (fun h => by have e := h.1; subst e; revert hp; decide)).trans (hf p n hp hi), ?_⟩, by unfold rxmCZ1x274_9 rxmCZ1x274_10; omega⟩
  exact rkWt4_ne (by unfold rkTb; omega) hW (fun p j hp => by have hp : (23 ≤ p ∧ p < 137) ∨ (160 ≤ p ∧ p < 274) ∨ (296 ≤ p ∧ p < 410) := hp; exact (bx_up_ne (by omega)))
theorem rxgCZ1x274_9_0 {X : (Nat → Int → Int) → Prop} {S0 : Nat → Int → Int} {ws : List Int} (hP : rxPCZ1x274 S0 ws) : bx_obC rxL X S0 rxCCZ1x274.2.2.1 (rxICZ1x274 S0 ws) (rxmCZ1x274 S0 ws) 9 rxzCZ1x274_9 rxoCZ1x274_9_0 := by
  intro S S_p r r_p hinv hX hin hsm_ hseg
  obtain ⟨I0, I1, h0_, hr_, b_, f_, d_⟩ := bx_cl (evs := [(1, (0, 1), (0, 5), .inr (0, (8, 0))), (0, (0, 274), (0, 5), .inr (0, (8, 0)))]) (fvs := []) hseg (by decide +kernel) (by decide +kernel)
  have hinv : rxICZ1x274_9 S0 ws S := hinv
  obtain ⟨⟨l8, u8⟩, -⟩ := b_
  obtain ⟨T0, ⟨e1, w_⟩, w0⟩ := d_
  subst w0
  subst w_
  have g := rxcCZ1x274_9_0 hP hin I0 hinv l8 u8 e1
  refine ⟨bx_narP_ok (l := []) g.1, bx_nfP_ok h0_ (fvs := []) (by decide +kernel) g.2.1, ?_, ?_⟩
  · show rxICZ1x274_10 S0 ws (bx_up T0 1 (5) (r_p 8))
    exact g.2.2.1
  · show rxmCZ1x274_10 S0 ws (bx_up T0 1 (5) (r_p 8)) < rxmCZ1x274_9 S0 ws T0
    exact g.2.2.2
theorem rxcCZ1x274_11_0 {S0 : Nat → Int → Int} {ws : List Int} {S : Nat → Int → Int} (hP : rxPCZ1x274 S0 ws) (hin : bx_same rxL (bx_mdl rxCCZ1x274.2.2.1) S0 S) (I0 : bx_Inv rxL S) (hinv : rxICZ1x274_11 S0 ws S)  : (True) ∧ (True) ∧ rxICZ1x274_12 S0 ws S ∧ rxmCZ1x274_12 S0 ws S < rxmCZ1x274_11 S0 ws S := by
  exact ⟨trivial, trivial, hinv, by unfold rxmCZ1x274_11 rxmCZ1x274_12; omega⟩
theorem rxgCZ1x274_11_0 {X : (Nat → Int → Int) → Prop} {S0 : Nat → Int → Int} {ws : List Int} (hP : rxPCZ1x274 S0 ws) : bx_obC rxL X S0 rxCCZ1x274.2.2.1 (rxICZ1x274 S0 ws) (rxmCZ1x274 S0 ws) 11 rxzCZ1x274_11 rxoCZ1x274_11_0 := by
  intro S S_p r r_p hinv hX hin hsm_ hseg
  obtain ⟨I0, I1, h0_, hr_, b_, f_, d_⟩ := bx_cl (evs := []) (fvs := []) hseg (by decide +kernel) (by decide +kernel)
  have hinv : rxICZ1x274_11 S0 ws S := hinv
  have w_ := d_
  subst w_
  have g := rxcCZ1x274_11_0 hP hin I0 hinv 
  refine ⟨bx_narP_ok (l := []) g.1, bx_nfP_ok h0_ (fvs := []) (by decide +kernel) g.2.1, ?_, ?_⟩
  · show rxICZ1x274_12 S0 ws S_p
    exact g.2.2.1
  · show rxmCZ1x274_12 S0 ws S_p < rxmCZ1x274_11 S0 ws S_p
    exact g.2.2.2
theorem rxcCZ1x274_13_0 {S0 : Nat → Int → Int} {ws : List Int} {S : Nat → Int → Int} (hP : rxPCZ1x274 S0 ws) (hin : bx_same rxL (bx_mdl rxCCZ1x274.2.2.1) S0 S) (I0 : bx_Inv rxL S) (hinv : rxICZ1x274_13 S0 ws S)  : (True) ∧ (True) ∧ rxICZ1x274_14 S0 ws S ∧ rxmCZ1x274_14 S0 ws S < rxmCZ1x274_13 S0 ws S := by
  exact ⟨trivial, trivial, hinv, by unfold rxmCZ1x274_13 rxmCZ1x274_14; omega⟩
theorem rxgCZ1x274_13_0 {X : (Nat → Int → Int) → Prop} {S0 : Nat → Int → Int} {ws : List Int} (hP : rxPCZ1x274 S0 ws) : bx_obC rxL X S0 rxCCZ1x274.2.2.1 (rxICZ1x274 S0 ws) (rxmCZ1x274 S0 ws) 13 rxzCZ1x274_13 rxoCZ1x274_13_0 := by
  intro S S_p r r_p hinv hX hin hsm_ hseg
  obtain ⟨I0, I1, h0_, hr_, b_, f_, d_⟩ := bx_cl (evs := []) (fvs := []) hseg (by decide +kernel) (by decide +kernel)
  have hinv : rxICZ1x274_13 S0 ws S := hinv
  have w_ := d_
  subst w_
  have g := rxcCZ1x274_13_0 hP hin I0 hinv 
  refine ⟨bx_narP_ok (l := []) g.1, bx_nfP_ok h0_ (fvs := []) (by decide +kernel) g.2.1, ?_, ?_⟩
  · show rxICZ1x274_14 S0 ws S_p
    exact g.2.2.1
  · show rxmCZ1x274_14 S0 ws S_p < rxmCZ1x274_13 S0 ws S_p
    exact g.2.2.2
theorem rxcCZ1x274_15_0 {S0 : Nat → Int → Int} {ws : List Int} {S : Nat → Int → Int} (hP : rxPCZ1x274 S0 ws) (hin : bx_same rxL (bx_mdl rxCCZ1x274.2.2.1) S0 S) (I0 : bx_Inv rxL S) (hinv : rxICZ1x274_15 S0 ws S)  : (True) ∧ (True) ∧ rxICZ1x274_16 S0 ws S 0 ∧ rxmCZ1x274_16 S0 ws S 0 < rxmCZ1x274_15 S0 ws S := by
  exact ⟨trivial, trivial, hinv, by unfold rxmCZ1x274_15 rxmCZ1x274_16; omega⟩
theorem rxgCZ1x274_15_0 {X : (Nat → Int → Int) → Prop} {S0 : Nat → Int → Int} {ws : List Int} (hP : rxPCZ1x274 S0 ws) : bx_obC rxL X S0 rxCCZ1x274.2.2.1 (rxICZ1x274 S0 ws) (rxmCZ1x274 S0 ws) 15 rxzCZ1x274_15 rxoCZ1x274_15_0 := by
  intro S S_p r r_p hinv hX hin hsm_ hseg
  obtain ⟨I0, I1, h0_, hr_, b_, f_, d_⟩ := bx_cl (evs := []) (fvs := []) hseg (by decide +kernel) (by decide +kernel)
  have hinv : rxICZ1x274_15 S0 ws S := hinv
  have w_ := d_
  subst w_
  have g := rxcCZ1x274_15_0 hP hin I0 hinv 
  refine ⟨bx_narP_ok (l := []) g.1, bx_nfP_ok h0_ (fvs := []) (by decide +kernel) g.2.1, ?_, ?_⟩
  · show rxICZ1x274_16 S0 ws S_p (bx_val [(0, 0), (0, 0), (0, 0), (0, 0), (0, 0), (0, 0), (0, 0), (0, 0), (0, 0)] r_p 8)
    rw [bx_val_x (n := 8) (e := (0, 0)) h0_ rfl]
    exact g.2.2.1
  · show rxmCZ1x274_16 S0 ws S_p (bx_val [(0, 0), (0, 0), (0, 0), (0, 0), (0, 0), (0, 0), (0, 0), (0, 0), (0, 0)] r_p 8) < rxmCZ1x274_15 S0 ws S_p
    rw [bx_val_x (n := 8) (e := (0, 0)) h0_ rfl]
    exact g.2.2.2
theorem rxcCZ1x274_16_0 {S0 : Nat → Int → Int} {ws : List Int} {S : Nat → Int → Int} {i x9 x10 : Int} (hP : rxPCZ1x274 S0 ws) (hin : bx_same rxL (bx_mdl rxCCZ1x274.2.2.1) S0 S) (I0 : bx_Inv rxL S) (hinv : rxICZ1x274_16 S0 ws S i) (l8 : 0 ≤ i) (u8 : i ≤ 11) (l9 : 0 ≤ x9) (u9 : x9 ≤ 1522) (l10 : 0 ≤ x10) (u10 : x10 ≤ 1522) (e1 : S 12 i = x9) (e0 : S 285 i = x10) : (True) ∧ (True) ∧ rxICZ1x274_17 S0 ws S i x9 x10 ∧ rxmCZ1x274_17 S0 ws S i x9 x10 < rxmCZ1x274_16 S0 ws S i := by
  obtain ⟨h0, h1, h2, h3, h4, h5, h6, h7, h8, h9, h10, hf, hW⟩ := id hinv
  have hpl := rkPl_sm hin (by decide +kernel) hP
  have gb := (hpl.2.1.2 i.toNat (by omega)).1
  have gs := (hpl.2.2.2.2 i.toNat (by omega)).1
  rw [Int.toNat_of_nonneg (show (0 : Int) ≤ i by omega)] at gb gs
  exact ⟨trivial, trivial, ⟨e1.symm.trans gb, e0.symm.trans gs, hinv⟩, by unfold rxmCZ1x274_16 rxmCZ1x274_17; omega⟩
theorem rxgCZ1x274_16_0 {X : (Nat → Int → Int) → Prop} {S0 : Nat → Int → Int} {ws : List Int} (hP : rxPCZ1x274 S0 ws) : bx_obC rxL X S0 rxCCZ1x274.2.2.1 (rxICZ1x274 S0 ws) (rxmCZ1x274 S0 ws) 16 rxzCZ1x274_16 rxoCZ1x274_16_0 := by
  intro S S_p r r_p hinv hX hin hsm_ hseg
  obtain ⟨I0, I1, h0_, hr_, b_, f_, d_⟩ := bx_cl (evs := [(0, (0, 285), (8, 0), .inr (3, (10, 0))), (0, (0, 12), (8, 0), .inr (3, (9, 0)))]) (fvs := []) hseg (by decide +kernel) (by decide +kernel)
  have hinv : rxICZ1x274_16 S0 ws S (r 8) := hinv
  rw [← hr_ 8 (by decide)] at hinv
  obtain ⟨⟨l8, u8⟩, ⟨l9, u9⟩, ⟨l10, u10⟩, -⟩ := b_
  obtain ⟨e0, ⟨e1, w_⟩⟩ := d_
  subst w_
  have g := rxcCZ1x274_16_0 hP hin I0 hinv l8 u8 l9 u9 l10 u10 e1 e0
  refine ⟨bx_narP_ok (l := []) g.1, bx_nfP_ok h0_ (fvs := []) (by decide +kernel) g.2.1, ?_, ?_⟩
  · show rxICZ1x274_17 S0 ws S_p (bx_val [(0, 0), (0, 0), (0, 0), (0, 0), (0, 0), (0, 0), (0, 0), (0, 0), (8, 0), (9, 0), (10, 0)] r_p 8) (bx_val [(0, 0), (0, 0), (0, 0), (0, 0), (0, 0), (0, 0), (0, 0), (0, 0), (8, 0), (9, 0), (10, 0)] r_p 9) (bx_val [(0, 0), (0, 0), (0, 0), (0, 0), (0, 0), (0, 0), (0, 0), (0, 0), (8, 0), (9, 0), (10, 0)] r_p 10)
    rw [bx_val_x (n := 8) (e := (8, 0)) h0_ rfl, bx_val_x (n := 9) (e := (9, 0)) h0_ rfl, bx_val_x (n := 10) (e := (10, 0)) h0_ rfl]
    exact g.2.2.1
  · show rxmCZ1x274_17 S0 ws S_p (bx_val [(0, 0), (0, 0), (0, 0), (0, 0), (0, 0), (0, 0), (0, 0), (0, 0), (8, 0), (9, 0), (10, 0)] r_p 8) (bx_val [(0, 0), (0, 0), (0, 0), (0, 0), (0, 0), (0, 0), (0, 0), (0, 0), (8, 0), (9, 0), (10, 0)] r_p 9) (bx_val [(0, 0), (0, 0), (0, 0), (0, 0), (0, 0), (0, 0), (0, 0), (0, 0), (8, 0), (9, 0), (10, 0)] r_p 10) < rxmCZ1x274_16 S0 ws S_p (r 8)
    rw [bx_val_x (n := 8) (e := (8, 0)) h0_ rfl, bx_val_x (n := 9) (e := (9, 0)) h0_ rfl, bx_val_x (n := 10) (e := (10, 0)) h0_ rfl, ← hr_ 8 (by decide)]
    exact g.2.2.2
theorem rxcCZ1x274_16_1 {S0 : Nat → Int → Int} {ws : List Int} {S : Nat → Int → Int} {i x9 : Int} (hP : rxPCZ1x274 S0 ws) (hin : bx_same rxL (bx_mdl rxCCZ1x274.2.2.1) S0 S) (I0 : bx_Inv rxL S) (hinv : rxICZ1x274_16 S0 ws S i) (l8 : 12 ≤ i) (u8 : i ≤ 12) (l9 : 0 ≤ x9) (u9 : x9 ≤ 12) (e1 : S 274 10 = x9) : (True) ∧ (True) ∧ rxICZ1x274_19 S0 ws (bx_up S 1 10 x9) ∧ rxmCZ1x274_19 S0 ws (bx_up S 1 10 x9) < rxmCZ1x274_16 S0 ws S i := by
  have ei : i = 12 := by omega
  subst ei
  obtain ⟨h0, h1, h2, h3, h4, h5, h6, h7, h8, h9, h10, hf, hW⟩ := hinv
  refine ⟨trivial, trivial, ⟨(bx_up_ne (by omega)).trans (h0), fun n hn => (bx_up_ne (by omega)).trans (h1 n hn), fun n hn => (bx_up_ne (by omega)).trans (h2 n hn), (bx_up_ne (by omega)).trans (h3), fun n hn => (bx_up_ne (by omega)).trans (h4 n hn), fun n hn => (bx_up_ne (by omega)).trans (h5 n hn), fun n hn => (bx_up_ne (by omega)).trans (h6 n hn), (bx_up_ne (by omega)).trans (h7), fun n hn => (bx_up_ne (by omega)).trans (h8 n hn), fun n hn => (bx_up_ne (by omega)).trans (h9 n hn), fun n hn => (bx_up_ne (by omega)).trans (h10 n hn), bx_up_at.trans ((e1).symm.trans (hf 274 10 (by decide) (by decide))), fun p n hp hi => (bx_up_ne (fun h => by have e := h.1; subst e; revert hp; decide)).trans (hf p n hp hi), ?_⟩, by unfold rxmCZ1x274_16 rxmCZ1x274_19; omega⟩
  exact rkWt4_ne (by unfold rkTb; omega) hW (fun p j hp => by have hp : (23 ≤ p ∧ p < 137) ∨ (160 ≤ p ∧ p < 274) ∨ (296 ≤ p ∧ p < 410) := hp; exact (bx_up_ne (by omega)))
theorem rxgCZ1x274_16_1 {X : (Nat → Int → Int) → Prop} {S0 : Nat → Int → Int} {ws : List Int} (hP : rxPCZ1x274 S0 ws) : bx_obC rxL X S0 rxCCZ1x274.2.2.1 (rxICZ1x274 S0 ws) (rxmCZ1x274 S0 ws) 16 rxzCZ1x274_16 rxoCZ1x274_16_1 := by
  intro S S_p r r_p hinv hX hin hsm_ hseg
  obtain ⟨I0, I1, h0_, hr_, b_, f_, d_⟩ := bx_cl (evs := [(1, (0, 1), (0, 10), .inr (0, (9, 0))), (0, (0, 274), (0, 10), .inr (0, (9, 0)))]) (fvs := []) hseg (by decide +kernel) (by decide +kernel)
  have hinv : rxICZ1x274_16 S0 ws S (r 8) := hinv
  rw [← hr_ 8 (by decide)] at hinv
  obtain ⟨⟨l8, u8⟩, ⟨l9, u9⟩, -⟩ := b_
  obtain ⟨T0, ⟨e1, w_⟩, w0⟩ := d_
  subst w0
  subst w_
  have g := rxcCZ1x274_16_1 hP hin I0 hinv l8 u8 l9 u9 e1
  refine ⟨bx_narP_ok (l := []) g.1, bx_nfP_ok h0_ (fvs := []) (by decide +kernel) g.2.1, ?_, ?_⟩
  · show rxICZ1x274_19 S0 ws (bx_up T0 1 (10) (r_p 9))
    exact g.2.2.1
  · show rxmCZ1x274_19 S0 ws (bx_up T0 1 (10) (r_p 9)) < rxmCZ1x274_16 S0 ws T0 (r 8)
    rw [← hr_ 8 (by decide)]
    exact g.2.2.2
theorem rxcCZ1x274_18_0 {S0 : Nat → Int → Int} {ws : List Int} {S : Nat → Int → Int} {i rp rq : Int} (hP : rxPCZ1x274 S0 ws) (hin : bx_same rxL (bx_mdl rxCCZ1x274.2.2.1) S0 S) (I0 : bx_Inv rxL S) (hinv : rxICZ1x274_18 S0 ws S i rp rq) (l8 : 0 ≤ i) (u8 : i ≤ 11) (l9 : 0 ≤ rp) (u9 : rp ≤ 1522) (l10 : 0 ≤ rq) (u10 : rq ≤ 1522) : (True) ∧ (True) ∧ rxICZ1x274_16 S0 ws S (i + 1) ∧ rxmCZ1x274_16 S0 ws S (i + 1) < rxmCZ1x274_18 S0 ws S i rp rq := by
  exact ⟨trivial, trivial, hinv, by unfold rxmCZ1x274_18 rxmCZ1x274_16; omega⟩
theorem rxgCZ1x274_18_0 {X : (Nat → Int → Int) → Prop} {S0 : Nat → Int → Int} {ws : List Int} (hP : rxPCZ1x274 S0 ws) : bx_obC rxL X S0 rxCCZ1x274.2.2.1 (rxICZ1x274 S0 ws) (rxmCZ1x274 S0 ws) 18 rxzCZ1x274_18 rxoCZ1x274_18_0 := by
  intro S S_p r r_p hinv hX hin hsm_ hseg
  obtain ⟨I0, I1, h0_, hr_, b_, f_, d_⟩ := bx_cl (evs := []) (fvs := []) hseg (by decide +kernel) (by decide +kernel)
  have hinv : rxICZ1x274_18 S0 ws S (r 8) (r 9) (r 10) := hinv
  rw [← hr_ 8 (by decide), ← hr_ 9 (by decide), ← hr_ 10 (by decide)] at hinv
  obtain ⟨⟨l8, u8⟩, ⟨l9, u9⟩, ⟨l10, u10⟩, -⟩ := b_
  have w_ := d_
  subst w_
  have g := rxcCZ1x274_18_0 hP hin I0 hinv l8 u8 l9 u9 l10 u10
  refine ⟨bx_narP_ok (l := []) g.1, bx_nfP_ok h0_ (fvs := []) (by decide +kernel) g.2.1, ?_, ?_⟩
  · show rxICZ1x274_16 S0 ws S_p (bx_val [(0, 0), (0, 0), (0, 0), (0, 0), (0, 0), (0, 0), (0, 0), (0, 0), (8, 1)] r_p 8)
    rw [bx_val_x (n := 8) (e := (8, 1)) h0_ rfl]
    exact g.2.2.1
  · show rxmCZ1x274_16 S0 ws S_p (bx_val [(0, 0), (0, 0), (0, 0), (0, 0), (0, 0), (0, 0), (0, 0), (0, 0), (8, 1)] r_p 8) < rxmCZ1x274_18 S0 ws S_p (r 8) (r 9) (r 10)
    rw [bx_val_x (n := 8) (e := (8, 1)) h0_ rfl, ← hr_ 8 (by decide), ← hr_ 9 (by decide), ← hr_ 10 (by decide)]
    exact g.2.2.2
theorem rxcCZ1x274_20_0 {S0 : Nat → Int → Int} {ws : List Int} {S : Nat → Int → Int} (hP : rxPCZ1x274 S0 ws) (hin : bx_same rxL (bx_mdl rxCCZ1x274.2.2.1) S0 S) (I0 : bx_Inv rxL S) (hinv : rxICZ1x274_20 S0 ws S)  : (True) ∧ (True) ∧ rxICZ1x274_21 S0 ws S ∧ rxmCZ1x274_21 S0 ws S < rxmCZ1x274_20 S0 ws S := by
  exact ⟨trivial, trivial, hinv, by unfold rxmCZ1x274_20 rxmCZ1x274_21; omega⟩
theorem rxgCZ1x274_20_0 {X : (Nat → Int → Int) → Prop} {S0 : Nat → Int → Int} {ws : List Int} (hP : rxPCZ1x274 S0 ws) : bx_obC rxL X S0 rxCCZ1x274.2.2.1 (rxICZ1x274 S0 ws) (rxmCZ1x274 S0 ws) 20 rxzCZ1x274_20 rxoCZ1x274_20_0 := by
  intro S S_p r r_p hinv hX hin hsm_ hseg
  obtain ⟨I0, I1, h0_, hr_, b_, f_, d_⟩ := bx_cl (evs := []) (fvs := []) hseg (by decide +kernel) (by decide +kernel)
  have hinv : rxICZ1x274_20 S0 ws S := hinv
  have w_ := d_
  subst w_
  have g := rxcCZ1x274_20_0 hP hin I0 hinv 
  refine ⟨bx_narP_ok (l := []) g.1, bx_nfP_ok h0_ (fvs := []) (by decide +kernel) g.2.1, ?_, ?_⟩
  · show rxICZ1x274_21 S0 ws S_p
    exact g.2.2.1
  · show rxmCZ1x274_21 S0 ws S_p < rxmCZ1x274_20 S0 ws S_p
    exact g.2.2.2
theorem rxcCZ1x274_22_0 {S0 : Nat → Int → Int} {ws : List Int} {S : Nat → Int → Int} (hP : rxPCZ1x274 S0 ws) (hin : bx_same rxL (bx_mdl rxCCZ1x274.2.2.1) S0 S) (I0 : bx_Inv rxL S) (hinv : rxICZ1x274_22 S0 ws S)  : (True) ∧ (True) ∧ rxICZ1x274_23 S0 ws S ∧ rxmCZ1x274_23 S0 ws S < rxmCZ1x274_22 S0 ws S := by
  exact ⟨trivial, trivial, hinv, by unfold rxmCZ1x274_22 rxmCZ1x274_23; omega⟩
theorem rxgCZ1x274_22_0 {X : (Nat → Int → Int) → Prop} {S0 : Nat → Int → Int} {ws : List Int} (hP : rxPCZ1x274 S0 ws) : bx_obC rxL X S0 rxCCZ1x274.2.2.1 (rxICZ1x274 S0 ws) (rxmCZ1x274 S0 ws) 22 rxzCZ1x274_22 rxoCZ1x274_22_0 := by
  intro S S_p r r_p hinv hX hin hsm_ hseg
  obtain ⟨I0, I1, h0_, hr_, b_, f_, d_⟩ := bx_cl (evs := []) (fvs := []) hseg (by decide +kernel) (by decide +kernel)
  have hinv : rxICZ1x274_22 S0 ws S := hinv
  have w_ := d_
  subst w_
  have g := rxcCZ1x274_22_0 hP hin I0 hinv 
  refine ⟨bx_narP_ok (l := []) g.1, bx_nfP_ok h0_ (fvs := []) (by decide +kernel) g.2.1, ?_, ?_⟩
  · show rxICZ1x274_23 S0 ws S_p
    exact g.2.2.1
  · show rxmCZ1x274_23 S0 ws S_p < rxmCZ1x274_22 S0 ws S_p
    exact g.2.2.2
theorem rxcCZ1x274_24_0 {S0 : Nat → Int → Int} {ws : List Int} {S : Nat → Int → Int} {x8 x9 : Int} (hP : rxPCZ1x274 S0 ws) (hin : bx_same rxL (bx_mdl rxCCZ1x274.2.2.1) S0 S) (I0 : bx_Inv rxL S) (hinv : rxICZ1x274_24 S0 ws S) (l8 : 0 ≤ x8) (u8 : x8 ≤ 6) (l9 : (-1) ≤ x9) (u9 : x9 ≤ 5) (e3 : S 274 14 = x8) (e1 : (bx_up S 1 14 x8) 274 15 = x9) : (True) ∧ (True) ∧ rxICZ1x274_25 S0 ws (bx_up (bx_up S 1 14 x8) 1 15 x9) 0 ∧ rxmCZ1x274_25 S0 ws (bx_up (bx_up S 1 14 x8) 1 15 x9) 0 < rxmCZ1x274_24 S0 ws S := by
  obtain ⟨h0, h1, h2, h3, h4, h5, h6, h7, h8, h9, h10, h11, h12, h13, h14, h15, h16, h17, hf, hW⟩ := hinv
  refine ⟨trivial, trivial, ⟨(bx_up_ne (by omega)).trans ((bx_up_ne (by omega)).trans (h0)), fun n hn => (bx_up_ne (by omega)).trans ((bx_up_ne (by omega)).trans (h1 n hn)), fun n hn => (bx_up_ne (by omega)).trans ((bx_up_ne (by omega)).trans (h2 n hn)), (bx_up_ne (by omega)).trans ((bx_up_ne (by omega)).trans (h3)), fun n hn => (bx_up_ne (by omega)).trans ((bx_up_ne (by omega)).trans (h4 n hn)), fun n hn => (bx_up_ne (by omega)).trans ((bx_up_ne (by omega)).trans (h5 n hn)), fun n hn => (bx_up_ne (by omega)).trans ((bx_up_ne (by omega)).trans (h6 n hn)), (bx_up_ne (by omega)).trans ((bx_up_ne (by omega)).trans (h7)), fun n hn => (bx_up_ne (by omega)).trans ((bx_up_ne (by omega)).trans (h8 n hn)), fun n hn => (bx_up_ne (by omega)).trans ((bx_up_ne (by omega)).trans (h9 n hn)), fun n hn => (bx_up_ne (by omega)).trans ((bx_up_ne (by omega)).trans (h10 n hn)), (bx_up_ne (by omega)).trans ((bx_up_ne (by omega)).trans (h11)), fun n hn => (bx_up_ne (by omega)).trans ((bx_up_ne (by omega)).trans (h12 n hn)), (bx_up_ne (by omega)).trans ((bx_up_ne (by omega)).trans (h13)), fun n hn => (bx_up_ne (by omega)).trans ((bx_up_ne (by omega)).trans (h14 n hn)), fun n hn => (bx_up_ne (by omega)).trans ((bx_up_ne (by omega)).trans (h15 n hn)), fun n hn => (bx_up_ne (by omega)).trans ((bx_up_ne (by omega)).trans (h16 n hn)), fun n hn => (bx_up_ne (by omega)).trans ((bx_up_ne (by omega)).trans (h17 n hn)), ((bx_up_ne (by omega))).trans (bx_up_at.trans ((e3).symm.trans (hf 274 14 (by decide) (by decide)))), bx_up_at.trans (((((bx_up_ne (by omega))).symm.trans e1)).symm.trans (hf 274 15 (by decide) (by decide))), fun p n hp hi => (bx_up_ne (fun h => by have e := h.1; subst e; revert hp; decide)).trans ((bx_up_ne (fun h => by have e := h.1; subst e; revert hp; decide)).trans (hf p n hp hi)), ?_⟩, by unfold rxmCZ1x274_24 rxmCZ1x274_25; omega⟩
  exact rkWt4_ne (by unfold rkTb; omega) hW (fun p j hp => by have hp : (23 ≤ p ∧ p < 137) ∨ (160 ≤ p ∧ p < 274) ∨ (296 ≤ p ∧ p < 410) := hp; exact (bx_up_ne (by omega)).trans ((bx_up_ne (by omega))))
theorem rxgCZ1x274_24_0 {X : (Nat → Int → Int) → Prop} {S0 : Nat → Int → Int} {ws : List Int} (hP : rxPCZ1x274 S0 ws) : bx_obC rxL X S0 rxCCZ1x274.2.2.1 (rxICZ1x274 S0 ws) (rxmCZ1x274 S0 ws) 24 rxzCZ1x274_24 rxoCZ1x274_24_0 := by
  intro S S_p r r_p hinv hX hin hsm_ hseg
  obtain ⟨I0, I1, h0_, hr_, b_, f_, d_⟩ := bx_cl (evs := [(1, (0, 1), (0, 15), .inr (0, (9, 0))), (0, (0, 274), (0, 15), .inr (0, (9, 0))), (1, (0, 1), (0, 14), .inr (0, (8, 0))), (0, (0, 274), (0, 14), .inr (0, (8, 0)))]) (fvs := []) hseg (by decide +kernel) (by decide +kernel)
  have hinv : rxICZ1x274_24 S0 ws S := hinv
  obtain ⟨⟨l8, u8⟩, ⟨l9, u9⟩, -⟩ := b_
  obtain ⟨T0, ⟨e1, ⟨T2, ⟨e3, w_⟩, w2⟩⟩, w0⟩ := d_
  subst w0
  subst w2
  subst w_
  have g := rxcCZ1x274_24_0 hP hin I0 hinv l8 u8 l9 u9 e3 e1
  refine ⟨bx_narP_ok (l := []) g.1, bx_nfP_ok h0_ (fvs := []) (by decide +kernel) g.2.1, ?_, ?_⟩
  · show rxICZ1x274_25 S0 ws (bx_up (bx_up T2 1 (14) (r_p 8)) 1 (15) (r_p 9)) (bx_val [(0, 0), (0, 0), (0, 0), (0, 0), (0, 0), (0, 0), (0, 0), (0, 0), (0, 0)] r_p 8)
    rw [bx_val_x (n := 8) (e := (0, 0)) h0_ rfl]
    exact g.2.2.1
  · show rxmCZ1x274_25 S0 ws (bx_up (bx_up T2 1 (14) (r_p 8)) 1 (15) (r_p 9)) (bx_val [(0, 0), (0, 0), (0, 0), (0, 0), (0, 0), (0, 0), (0, 0), (0, 0), (0, 0)] r_p 8) < rxmCZ1x274_24 S0 ws T2
    rw [bx_val_x (n := 8) (e := (0, 0)) h0_ rfl]
    exact g.2.2.2
theorem rxcCZ1x274_25_0 {S0 : Nat → Int → Int} {ws : List Int} {S : Nat → Int → Int} {i x9 x10 x11 : Int} (hP : rxPCZ1x274 S0 ws) (hin : bx_same rxL (bx_mdl rxCCZ1x274.2.2.1) S0 S) (I0 : bx_Inv rxL S) (hinv : rxICZ1x274_25 S0 ws S i) (l8 : 0 ≤ i) (u8 : i ≤ 5) (l9 : 1 ≤ x9) (u9 : x9 ≤ 6) (l10 : 0 ≤ x10) (u10 : x10 ≤ 1522) (l11 : 0 ≤ x11) (u11 : x11 ≤ 1522) (f0 : i < x9) (e2 : S 1 14 = x9) (e1 : S 20 i = x10) (e0 : S 293 i = x11) : (True) ∧ (True) ∧ rxICZ1x274_26 S0 ws S i x10 x11 ∧ rxmCZ1x274_26 S0 ws S i x10 x11 < rxmCZ1x274_25 S0 ws S i := by
  obtain ⟨h0, h1, h2, h3, h4, h5, h6, h7, h8, h9, h10, h11, h12, h13, h14, h15, h16, h17, h18, h19, hf, hW⟩ := id hinv
  have hpl := rkPl_sm hin (by decide +kernel) hP
  have gb := (hpl.1.2.1 i.toNat (by omega)).1
  have gs := (hpl.1.2.2.2 i.toNat (by omega)).1
  rw [Int.toNat_of_nonneg (show (0 : Int) ≤ i by omega)] at gb gs
  exact ⟨trivial, trivial, ⟨e1.symm.trans gb, e0.symm.trans gs, hinv⟩, by unfold rxmCZ1x274_25 rxmCZ1x274_26; omega⟩
theorem rxgCZ1x274_25_0 {X : (Nat → Int → Int) → Prop} {S0 : Nat → Int → Int} {ws : List Int} (hP : rxPCZ1x274 S0 ws) : bx_obC rxL X S0 rxCCZ1x274.2.2.1 (rxICZ1x274 S0 ws) (rxmCZ1x274 S0 ws) 25 rxzCZ1x274_25 rxoCZ1x274_25_0 := by
  intro S S_p r r_p hinv hX hin hsm_ hseg
  obtain ⟨I0, I1, h0_, hr_, b_, f_, d_⟩ := bx_cl (evs := [(0, (0, 293), (8, 0), .inr (3, (11, 0))), (0, (0, 20), (8, 0), .inr (3, (10, 0))), (0, (0, 1), (0, 14), .inr (0, (9, 0)))]) (fvs := [(0, (8, 0), (9, 0), (0, 0))]) hseg (by decide +kernel) (by decide +kernel)
  have hinv : rxICZ1x274_25 S0 ws S (r 8) := hinv
  rw [← hr_ 8 (by decide)] at hinv
  obtain ⟨⟨l8, u8⟩, ⟨l9, u9⟩, ⟨l10, u10⟩, ⟨l11, u11⟩, -⟩ := b_
  obtain ⟨f0, -⟩ := f_
  obtain ⟨e0, ⟨e1, ⟨e2, w_⟩⟩⟩ := d_
  subst w_
  have g := rxcCZ1x274_25_0 hP hin I0 hinv l8 u8 l9 u9 l10 u10 l11 u11 f0 e2 e1 e0
  refine ⟨bx_narP_ok (l := []) g.1, bx_nfP_ok h0_ (fvs := []) (by decide +kernel) g.2.1, ?_, ?_⟩
  · show rxICZ1x274_26 S0 ws S_p (bx_val [(0, 0), (0, 0), (0, 0), (0, 0), (0, 0), (0, 0), (0, 0), (0, 0), (8, 0), (10, 0), (11, 0)] r_p 8) (bx_val [(0, 0), (0, 0), (0, 0), (0, 0), (0, 0), (0, 0), (0, 0), (0, 0), (8, 0), (10, 0), (11, 0)] r_p 9) (bx_val [(0, 0), (0, 0), (0, 0), (0, 0), (0, 0), (0, 0), (0, 0), (0, 0), (8, 0), (10, 0), (11, 0)] r_p 10)
    rw [bx_val_x (n := 8) (e := (8, 0)) h0_ rfl, bx_val_x (n := 9) (e := (10, 0)) h0_ rfl, bx_val_x (n := 10) (e := (11, 0)) h0_ rfl]
    exact g.2.2.1
  · show rxmCZ1x274_26 S0 ws S_p (bx_val [(0, 0), (0, 0), (0, 0), (0, 0), (0, 0), (0, 0), (0, 0), (0, 0), (8, 0), (10, 0), (11, 0)] r_p 8) (bx_val [(0, 0), (0, 0), (0, 0), (0, 0), (0, 0), (0, 0), (0, 0), (0, 0), (8, 0), (10, 0), (11, 0)] r_p 9) (bx_val [(0, 0), (0, 0), (0, 0), (0, 0), (0, 0), (0, 0), (0, 0), (0, 0), (8, 0), (10, 0), (11, 0)] r_p 10) < rxmCZ1x274_25 S0 ws S_p (r 8)
    rw [bx_val_x (n := 8) (e := (8, 0)) h0_ rfl, bx_val_x (n := 9) (e := (10, 0)) h0_ rfl, bx_val_x (n := 10) (e := (11, 0)) h0_ rfl, ← hr_ 8 (by decide)]
    exact g.2.2.2
theorem rxdCZ1x274_25_0 {S0 : Nat → Int → Int} {ws : List Int} {S : Nat → Int → Int} {i x9 : Int} (hP : rxPCZ1x274 S0 ws) (hin : bx_same rxL (bx_mdl rxCCZ1x274.2.2.1) S0 S) (hin2 : bx_same rxL (bx_mdl rxCCZ1x274.2.2.1) S S) (I0 : bx_Inv rxL S) (I1 : bx_Inv rxL S) (hinv : rxICZ1x274_25 S0 ws S i) (l8 : 0 ≤ i) (u8 : i ≤ 6) (l9 : 0 ≤ x9) (u9 : x9 ≤ 6) (f0 : x9 ≤ i) (e0 : S 1 14 = x9) : (True) ∧ rxPSCZ1x274 S0 ws S none := by
  obtain ⟨h0, h1, h2, h3, h4, h5, h6, h7, h8, h9, h10, h11, h12, h13, h14, h15, h16, h17, h18, h19, hf, hW⟩ := hinv
  refine ⟨trivial, rfl, h0, h1, h2, h3, h4, h5, h6, h7, h8, h9, h10, h11, h12, h13, h14, h15, h16, h17, h18, h19, hf, ?_⟩
  exact ⟨fun k x y => hW.1 k x y, fun k x y => hW.2.1 k x y, fun k x y => hW.2.2.1 k (by
    have z := h18
    omega) y, hW.2.2.2⟩
theorem rxfCZ1x274_25_0 {X : (Nat → Int → Int) → Prop} {S0 : Nat → Int → Int} {ws : List Int} (hP : rxPCZ1x274 S0 ws) : bx_obE rxL X S0 rxCCZ1x274.2.2.1 (rxICZ1x274 S0 ws) (rxPSCZ1x274 S0 ws) 25 rxzCZ1x274_25 rxeCZ1x274_25_0 := by
  intro S S_p r r_p hinv hX hin hsm_ hseg
  obtain ⟨I0, I1, h0_, hr_, b_, f_, d_⟩ := bx_cl (evs := [(0, (0, 1), (0, 14), .inr (0, (9, 0)))]) (fvs := [(1, (9, 0), (8, 0), (0, 0))]) hseg (by decide +kernel) (by decide +kernel)
  have hinv : rxICZ1x274_25 S0 ws S (r 8) := hinv
  rw [← hr_ 8 (by decide)] at hinv
  obtain ⟨⟨l8, u8⟩, ⟨l9, u9⟩, -⟩ := b_
  obtain ⟨f0, -⟩ := f_
  obtain ⟨e0, w_⟩ := d_
  subst w_
  have g := rxdCZ1x274_25_0 hP hin hsm_ I0 I1 hinv l8 u8 l9 u9 f0 e0
  refine ⟨bx_narP_ok (l := []) g.1, ?_⟩
  exact g.2
theorem rxcCZ1x274_27_0 {S0 : Nat → Int → Int} {ws : List Int} {S : Nat → Int → Int} {i rp rq : Int} (hP : rxPCZ1x274 S0 ws) (hin : bx_same rxL (bx_mdl rxCCZ1x274.2.2.1) S0 S) (I0 : bx_Inv rxL S) (hinv : rxICZ1x274_27 S0 ws S i rp rq) (l8 : 0 ≤ i) (u8 : i ≤ 5) (l9 : 0 ≤ rp) (u9 : rp ≤ 1522) (l10 : 0 ≤ rq) (u10 : rq ≤ 1522) : (True) ∧ (True) ∧ rxICZ1x274_25 S0 ws S (i + 1) ∧ rxmCZ1x274_25 S0 ws S (i + 1) < rxmCZ1x274_27 S0 ws S i rp rq := by
  exact ⟨trivial, trivial, hinv, by unfold rxmCZ1x274_27 rxmCZ1x274_25; omega⟩
theorem rxgCZ1x274_27_0 {X : (Nat → Int → Int) → Prop} {S0 : Nat → Int → Int} {ws : List Int} (hP : rxPCZ1x274 S0 ws) : bx_obC rxL X S0 rxCCZ1x274.2.2.1 (rxICZ1x274 S0 ws) (rxmCZ1x274 S0 ws) 27 rxzCZ1x274_27 rxoCZ1x274_27_0 := by
  intro S S_p r r_p hinv hX hin hsm_ hseg
  obtain ⟨I0, I1, h0_, hr_, b_, f_, d_⟩ := bx_cl (evs := []) (fvs := []) hseg (by decide +kernel) (by decide +kernel)
  have hinv : rxICZ1x274_27 S0 ws S (r 8) (r 9) (r 10) := hinv
  rw [← hr_ 8 (by decide), ← hr_ 9 (by decide), ← hr_ 10 (by decide)] at hinv
  obtain ⟨⟨l8, u8⟩, ⟨l9, u9⟩, ⟨l10, u10⟩, -⟩ := b_
  have w_ := d_
  subst w_
  have g := rxcCZ1x274_27_0 hP hin I0 hinv l8 u8 l9 u9 l10 u10
  refine ⟨bx_narP_ok (l := []) g.1, bx_nfP_ok h0_ (fvs := []) (by decide +kernel) g.2.1, ?_, ?_⟩
  · show rxICZ1x274_25 S0 ws S_p (bx_val [(0, 0), (0, 0), (0, 0), (0, 0), (0, 0), (0, 0), (0, 0), (0, 0), (8, 1)] r_p 8)
    rw [bx_val_x (n := 8) (e := (8, 1)) h0_ rfl]
    exact g.2.2.1
  · show rxmCZ1x274_25 S0 ws S_p (bx_val [(0, 0), (0, 0), (0, 0), (0, 0), (0, 0), (0, 0), (0, 0), (0, 0), (8, 1)] r_p 8) < rxmCZ1x274_27 S0 ws S_p (r 8) (r 9) (r 10)
    rw [bx_val_x (n := 8) (e := (8, 1)) h0_ rfl, ← hr_ 8 (by decide), ← hr_ 9 (by decide), ← hr_ 10 (by decide)]
    exact g.2.2.2
theorem rxgCCZ1x274 {X : (Nat → Int → Int) → Prop} {S0 : Nat → Int → Int} {ws : List Int} (hP : rxPCZ1x274 S0 ws) : bx_allI (fun i q => rxUCZ1x274 q = true ∨ bx_allP (fun o => bx_obC rxL X S0 rxCCZ1x274.2.2.1 (rxICZ1x274 S0 ws) (rxmCZ1x274 S0 ws) i q.1 o) q.2.1) 0 rxYCZ1x274 := ⟨Or.inr ⟨rxgCZ1x274_0_0 hP, trivial⟩, Or.inl rfl, Or.inr ⟨rxgCZ1x274_2_0 hP, trivial⟩, Or.inl rfl, Or.inr ⟨rxgCZ1x274_4_0 hP, trivial⟩, Or.inr ⟨rxgCZ1x274_5_0 hP, rxgCZ1x274_5_1 hP, trivial⟩, Or.inl rfl, Or.inr ⟨rxgCZ1x274_7_0 hP, trivial⟩, Or.inl rfl, Or.inr ⟨rxgCZ1x274_9_0 hP, trivial⟩, Or.inl rfl, Or.inr ⟨rxgCZ1x274_11_0 hP, trivial⟩, Or.inl rfl, Or.inr ⟨rxgCZ1x274_13_0 hP, trivial⟩, Or.inl rfl, Or.inr ⟨rxgCZ1x274_15_0 hP, trivial⟩, Or.inr ⟨rxgCZ1x274_16_0 hP, rxgCZ1x274_16_1 hP, trivial⟩, Or.inl rfl, Or.inr ⟨rxgCZ1x274_18_0 hP, trivial⟩, Or.inl rfl, Or.inr ⟨rxgCZ1x274_20_0 hP, trivial⟩, Or.inl rfl, Or.inr ⟨rxgCZ1x274_22_0 hP, trivial⟩, Or.inl rfl, Or.inr ⟨rxgCZ1x274_24_0 hP, trivial⟩, Or.inr ⟨rxgCZ1x274_25_0 hP, trivial⟩, Or.inl rfl, Or.inr ⟨rxgCZ1x274_27_0 hP, trivial⟩, trivial⟩
theorem rxgECZ1x274 {X : (Nat → Int → Int) → Prop} {S0 : Nat → Int → Int} {ws : List Int} (hP : rxPCZ1x274 S0 ws) : bx_allI (fun i q => rxUCZ1x274 q = true ∨ bx_allP (fun E => bx_obE rxL X S0 rxCCZ1x274.2.2.1 (rxICZ1x274 S0 ws) (rxPSCZ1x274 S0 ws) i q.1 E) q.2.2) 0 rxYCZ1x274 := ⟨Or.inr trivial, Or.inl rfl, Or.inr trivial, Or.inl rfl, Or.inr trivial, Or.inr trivial, Or.inl rfl, Or.inr trivial, Or.inl rfl, Or.inr trivial, Or.inl rfl, Or.inr trivial, Or.inl rfl, Or.inr trivial, Or.inl rfl, Or.inr trivial, Or.inr trivial, Or.inl rfl, Or.inr trivial, Or.inl rfl, Or.inr trivial, Or.inl rfl, Or.inr trivial, Or.inl rfl, Or.inr trivial, Or.inr ⟨rxfCZ1x274_25_0 hP, trivial⟩, Or.inl rfl, Or.inr trivial, trivial⟩
theorem rxuCZ1x274 {PX : State → Prop} {Dg : va_G} {A : Nat → Prop} {ad xa : Nat → Nat} {l : Launch} {X : (Nat → Int → Int) → Prop} (hPX : rx_PXOK rxNW A PX) (hX : ∀ S S1 : Nat → Int → Int, X S → bx_same rxL (bx_mdl rxCCZ1x274.2.2.1) S S1 → X S1) (hQSCZ : bx_ConP rxG rxNW rxAO PX Dg rxL X vwCl A ad l rxM42 rxCSCZ rxPSCZ rxPSSCZ) (hQPC5x278 : bx_ConP rxG rxNW rxAO PX Dg rxL X vwCl A ad l rxM108 rxCPC5x278 rxPPC5x278 rxPSPC5x278) (hQDC14x287 : bx_ConP rxG rxNW rxAO PX Dg rxL X vwCl A ad l rxM109 rxCDC14x287 rxPDC14x287 rxPSDC14x287) (hQQCZ : bx_ConP rxG rxNW rxAO PX Dg rxL X vwCl A ad l rxM95 rxCQCZ rxPQCZ rxPSQCZ) {S0 : Nat → Int → Int} {ws : List Int} (hP : rxPCZ1x274 S0 ws) : ∀ (i : Nat) (q : bx_HE), rxYCZ1x274[i]? = some q → rxUCZ1x274 q = true → ∀ {p : Program} {e : Env} {R : Room} {s : State} {m : MethodId} {args : Array Value} {below : List Frame} {meth : Method} {c : Code} {Q : State → Prop} {H0 : Heap}, rx_Fr rxG rxNW rxAO PX p s m args meth c rxM154 → (∀ q, H0.size ≤ q → A q) → H0 = s.heap → rxM154.2.2.2.2.2.2.1 ≤ R.cells → rxM154.2.2.2.2.2.2.2 ≤ R.slots → rxCCZ1x274.2.2.2.1 ≤ R.frames → rxCCZ1x274.2.2.2.1 * 40 ≤ R.locals → bx_Step p l e R s m args below meth c Q Dg rxL X vwCl A xa H0 ad rxM154 rxYCZ1x274 (rxICZ1x274 S0 ws) (rxmCZ1x274 S0 ws) S0 rxCCZ1x274.2.2.1 i q := by
  intro i q hq hus p e R s m args below meth c Q H0 hF hA hH0 hmc hms hd hdl
  match i, hq with
  | 0, hq =>
    cases hq
    exact absurd (show false = true from hus) Bool.false_ne_true
  | 1, hq =>
    cases hq
    exact rx_stepY (i_p := 2) (idx := 86) (P0 := 275) (P1 := 2) (n := 6) (g0 := 0) (g1 := 0) (t := []) hF rfl (Nat.le_trans (by decide) hd) (Nat.le_trans (by decide) hdl) (by decide +kernel) (by decide +kernel) rfl rfl (by decide) (by decide) rfl rfl (by decide) (by decide) rfl rfl (by decide) (by decide) rfl rfl (rxsCZ1x274_1 hP hX)
  | 2, hq =>
    cases hq
    exact absurd (show false = true from hus) Bool.false_ne_true
  | 3, hq =>
    cases hq
    exact rx_stepY (i_p := 4) (idx := 86) (P0 := 276) (P1 := 3) (n := 6) (g0 := 1) (g1 := 1) (t := []) hF rfl (Nat.le_trans (by decide) hd) (Nat.le_trans (by decide) hdl) (by decide +kernel) (by decide +kernel) rfl rfl (by decide) (by decide) rfl rfl (by decide) (by decide) rfl rfl (by decide) (by decide) rfl rfl (rxsCZ1x274_3 hP hX)
  | 4, hq =>
    cases hq
    exact absurd (show false = true from hus) Bool.false_ne_true
  | 5, hq =>
    cases hq
    exact absurd (show false = true from hus) Bool.false_ne_true
  | 6, hq =>
    cases hq
    exact rx_stepC (ins := .invokevirtual 92) (len := 3) (i_p := 7) (M_p := rxM42) (d := rxCCZ1x274.2.2.2.1) (as := [.inr (3, (9, 0)), .inr (3, (10, 0))]) (t := []) (ct := rxCSCZ) hPX hF rfl hA hH0 hmc hms hd hdl (by decide +kernel) rfl rfl (by decide +kernel) (by decide +kernel) hQSCZ (by decide +kernel) rfl (Or.inl ⟨rfl, rfl, rfl⟩) (rxsCZ1x274_6 hP)
  | 7, hq =>
    cases hq
    exact absurd (show false = true from hus) Bool.false_ne_true
  | 8, hq =>
    cases hq
    exact rx_stepC (ins := .invokevirtual 96) (len := 3) (i_p := 9) (M_p := rxM108) (d := rxCCZ1x274.2.2.2.1) (as := [.inr (3, (0, 5)), .inr (3, (0, 278))]) (t := []) (ct := rxCPC5x278) hPX hF rfl hA hH0 hmc hms hd hdl (by decide +kernel) rfl rfl (by decide +kernel) (by decide +kernel) hQPC5x278 (by decide +kernel) rfl (Or.inl ⟨rfl, rfl, rfl⟩) (rxsCZ1x274_8 hP)
  | 9, hq =>
    cases hq
    exact absurd (show false = true from hus) Bool.false_ne_true
  | 10, hq =>
    cases hq
    exact rx_stepY (i_p := 11) (idx := 86) (P0 := 282) (P1 := 9) (n := 12) (g0 := 6) (g1 := 6) (t := []) hF rfl (Nat.le_trans (by decide) hd) (Nat.le_trans (by decide) hdl) (by decide +kernel) (by decide +kernel) rfl rfl (by decide) (by decide) rfl rfl (by decide) (by decide) rfl rfl (by decide) (by decide) rfl rfl (rxsCZ1x274_10 hP hX)
  | 11, hq =>
    cases hq
    exact absurd (show false = true from hus) Bool.false_ne_true
  | 12, hq =>
    cases hq
    exact rx_stepY (i_p := 13) (idx := 86) (P0 := 283) (P1 := 10) (n := 12) (g0 := 7) (g1 := 7) (t := []) hF rfl (Nat.le_trans (by decide) hd) (Nat.le_trans (by decide) hdl) (by decide +kernel) (by decide +kernel) rfl rfl (by decide) (by decide) rfl rfl (by decide) (by decide) rfl rfl (by decide) (by decide) rfl rfl (rxsCZ1x274_12 hP hX)
  | 13, hq =>
    cases hq
    exact absurd (show false = true from hus) Bool.false_ne_true
  | 14, hq =>
    cases hq
    exact rx_stepY (i_p := 15) (idx := 86) (P0 := 284) (P1 := 11) (n := 12) (g0 := 8) (g1 := 8) (t := []) hF rfl (Nat.le_trans (by decide) hd) (Nat.le_trans (by decide) hdl) (by decide +kernel) (by decide +kernel) rfl rfl (by decide) (by decide) rfl rfl (by decide) (by decide) rfl rfl (by decide) (by decide) rfl rfl (rxsCZ1x274_14 hP hX)
  | 15, hq =>
    cases hq
    exact absurd (show false = true from hus) Bool.false_ne_true
  | 16, hq =>
    cases hq
    exact absurd (show false = true from hus) Bool.false_ne_true
  | 17, hq =>
    cases hq
    exact rx_stepC (ins := .invokevirtual 92) (len := 3) (i_p := 18) (M_p := rxM42) (d := rxCCZ1x274.2.2.2.1) (as := [.inr (3, (9, 0)), .inr (3, (10, 0))]) (t := []) (ct := rxCSCZ) hPX hF rfl hA hH0 hmc hms hd hdl (by decide +kernel) rfl rfl (by decide +kernel) (by decide +kernel) hQSCZ (by decide +kernel) rfl (Or.inl ⟨rfl, rfl, rfl⟩) (rxsCZ1x274_17 hP)
  | 18, hq =>
    cases hq
    exact absurd (show false = true from hus) Bool.false_ne_true
  | 19, hq =>
    cases hq
    exact rx_stepY (i_p := 20) (idx := 86) (P0 := 286) (P1 := 13) (n := 12) (g0 := 10) (g1 := 10) (t := []) hF rfl (Nat.le_trans (by decide) hd) (Nat.le_trans (by decide) hdl) (by decide +kernel) (by decide +kernel) rfl rfl (by decide) (by decide) rfl rfl (by decide) (by decide) rfl rfl (by decide) (by decide) rfl rfl (rxsCZ1x274_19 hP hX)
  | 20, hq =>
    cases hq
    exact absurd (show false = true from hus) Bool.false_ne_true
  | 21, hq =>
    cases hq
    exact rx_stepC (ins := .invokevirtual 99) (len := 3) (i_p := 22) (M_p := rxM109) (d := rxCCZ1x274.2.2.2.1) (as := [.inr (3, (0, 14)), .inr (3, (0, 287))]) (t := []) (ct := rxCDC14x287) hPX hF rfl hA hH0 hmc hms hd hdl (by decide +kernel) rfl rfl (by decide +kernel) (by decide +kernel) hQDC14x287 (by decide +kernel) rfl (Or.inl ⟨rfl, rfl, rfl⟩) (rxsCZ1x274_21 hP)
  | 22, hq =>
    cases hq
    exact absurd (show false = true from hus) Bool.false_ne_true
  | 23, hq =>
    cases hq
    exact rx_stepY (i_p := 24) (idx := 86) (P0 := 292) (P1 := 19) (n := 3) (g0 := 15) (g1 := 15) (t := []) hF rfl (Nat.le_trans (by decide) hd) (Nat.le_trans (by decide) hdl) (by decide +kernel) (by decide +kernel) rfl rfl (by decide) (by decide) rfl rfl (by decide) (by decide) rfl rfl (by decide) (by decide) rfl rfl (rxsCZ1x274_23 hP hX)
  | 24, hq =>
    cases hq
    exact absurd (show false = true from hus) Bool.false_ne_true
  | 25, hq =>
    cases hq
    exact absurd (show false = true from hus) Bool.false_ne_true
  | 26, hq =>
    cases hq
    exact rx_stepC (ins := .invokevirtual 102) (len := 3) (i_p := 27) (M_p := rxM95) (d := rxCCZ1x274.2.2.2.1) (as := [.inr (3, (9, 0)), .inr (3, (10, 0))]) (t := []) (ct := rxCQCZ) hPX hF rfl hA hH0 hmc hms hd hdl (by decide +kernel) rfl rfl (by decide +kernel) (by decide +kernel) hQQCZ (by decide +kernel) rfl (Or.inl ⟨rfl, rfl, rfl⟩) (rxsCZ1x274_26 hP)
  | 27, hq =>
    cases hq
    exact absurd (show false = true from hus) Bool.false_ne_true
  | n + 28, hq => cases hq
theorem rxQCZ1x274 {PX : State → Prop} {Dg : va_G} {A : Nat → Prop} {ad xa : Nat → Nat} {l : Launch} {X : (Nat → Int → Int) → Prop} (hPX : rx_PXOK rxNW A PX) (hsl : ∀ s : State, PX s → ∀ o idx n : Nat, rxSl o idx = some n → ∃ tx : String, vk_R (rxNm o) idx tx (ad n) s)
    (hX : ∀ S S_p : Nat → Int → Int, X S → bx_same rxL (bx_mdl rxCCZ1x274.2.2.1) S S_p → X S_p)
    (ih : ∀ (j2 : Nat) (ct2 : bx_Ct) (M2 : rx_Mt), ct2 ∈ rxCnE j2 → ct2.2.2.2.1 + 1 ≤ rxCCZ1x274.2.2.2.1 → rxT.2.2.2.2.2 j2 = some M2 → bx_Con rxG rxNW rxAO PX Dg rxL X vwCl A ad l M2 ct2) (hQSCZ : bx_ConP rxG rxNW rxAO PX Dg rxL X vwCl A ad l rxM42 rxCSCZ rxPSCZ rxPSSCZ) (hQPC5x278 : bx_ConP rxG rxNW rxAO PX Dg rxL X vwCl A ad l rxM108 rxCPC5x278 rxPPC5x278 rxPSPC5x278) (hQDC14x287 : bx_ConP rxG rxNW rxAO PX Dg rxL X vwCl A ad l rxM109 rxCDC14x287 rxPDC14x287 rxPSDC14x287) (hQQCZ : bx_ConP rxG rxNW rxAO PX Dg rxL X vwCl A ad l rxM95 rxCQCZ rxPQCZ rxPSQCZ) : bx_ConP rxG rxNW rxAO PX Dg rxL X vwCl A ad l rxM154 rxCCZ1x274 rxPCZ1x274 rxPSCZ1x274 :=
  rxQof (xa := xa) (Cn := rxCnE) (f := 30000) (j := 154) (tab := rxYCZ1x274) (us := rxUCZ1x274) hPX hsl hX ih rfl rxYcCZ1x274 rxICZ1x274 rxmCZ1x274
    (fun S0 ws r I0 I ht0 ht as he he1 hX0 hI0 hP hs ha => by
      have e := he.symm.trans (show bx_ent0 rxNP rxCCZ1x274.1 bx_I0 [] = some ([(0, 0), (0, 0), (0, 0), (0, 0), (0, 0), (0, 0), (0, 0), (0, 0)], [], [.inr (3, (0, 1)), .inr (3, (0, 274))]) from rfl)
      cases e
      subst ha
      have h0 : r 0 = 0 := hs.1
      show rxICZ1x274_0 S0 _ S0
      refine ⟨rfl, ?_⟩
      simp only [List.map_cons, List.map_nil, bx_xv_ok h0]
      rfl)
    (fun S0 ws hP => rxuCZ1x274 (xa := xa) hPX hX hQSCZ hQPC5x278 hQDC14x287 hQQCZ hP) (fun S0 ws hP => rxgCCZ1x274 hP) (fun S0 ws hP => rxgECZ1x274 hP)
