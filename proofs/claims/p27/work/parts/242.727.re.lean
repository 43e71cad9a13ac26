noncomputable def rxCREXK : bx_Ct := ([(3, (1, 480, 0)), (0, (0, 0, 1))], none, [(12, 9), (12, 10), (12, 11), (12, 12), (12, 13), (12, 14), (12, 18), (12, 21), (12, 24), (12, 25), (1068, 0), (1069, 0), (1070, 0), (1071, 0)], 6, [])
noncomputable def rxIREXK_0 (S0 : Nat → Int → Int) (ws : List Int) (S : Nat → Int → Int) (test : Int) : Prop := rxIREW_0 S0 ws S test ∧ True
noncomputable def rxmREXK_0 (S0 : Nat → Int → Int) (ws : List Int) (S : Nat → Int → Int) (test : Int) : Nat := rxmREW_0 S0 ws S test
noncomputable def rxzREXK_0 : rx_Z := ([(0, 0), (0, 0), (0, 0), (0, 0), (0, 0), (0, 0), (0, 0), (0, 0), (0, 1)], [], [], 0, 0, 0, [(0, .inr (3, (0, 480))), (1, .inr (0, (8, 0)))], [])
noncomputable def rxIREXK_1 (S0 : Nat → Int → Int) (ws : List Int) (S : Nat → Int → Int) (test turn : Int) : Prop := rxIREW_1 S0 ws S test turn ∧ (rzCk S0 → rzDq S0 → rkXi S0 S test turn)
noncomputable def rxmREXK_1 (S0 : Nat → Int → Int) (ws : List Int) (S : Nat → Int → Int) (test turn : Int) : Nat := rxmREW_1 S0 ws S test turn
noncomputable def rxzREXK_1 : rx_Z := ([(0, 0), (0, 0), (0, 0), (0, 0), (0, 0), (0, 0), (0, 0), (0, 0), (0, 1), (0, 4)], [], [], 0, 0, 20, [(0, .inr (3, (0, 480))), (1, .inr (0, (8, 0))), (2, .inr (0, (9, 0)))], [])
noncomputable def rxIREXK_2 (S0 : Nat → Int → Int) (ws : List Int) (S : Nat → Int → Int) (test : Int) : Prop := rxIREW_2 S0 ws S test ∧ (rzCk S0 → rzDq S0 → rkXs S0 S test 0)
noncomputable def rxmREXK_2 (S0 : Nat → Int → Int) (ws : List Int) (S : Nat → Int → Int) (test : Int) : Nat := rxmREW_2 S0 ws S test
noncomputable def rxzREXK_2 : rx_Z := ([(0, 0), (0, 0), (0, 0), (0, 0), (0, 0), (0, 0), (0, 0), (0, 0), (0, 1)], [], [], 0, 0, 37, [(0, .inr (3, (0, 480))), (1, .inr (0, (8, 0)))], [.inr (3, (0, 480))])
noncomputable def rxIREXK_3 (S0 : Nat → Int → Int) (ws : List Int) (S : Nat → Int → Int) (test t : Int) : Prop := rxIREW_3 S0 ws S test t ∧ (rzCk S0 → rzDq S0 → rkXi S0 S test t)
noncomputable def rxmREXK_3 (S0 : Nat → Int → Int) (ws : List Int) (S : Nat → Int → Int) (test t : Int) : Nat := rxmREW_3 S0 ws S test t
noncomputable def rxzREXK_3 : rx_Z := ([(0, 0), (0, 0), (0, 0), (0, 0), (0, 0), (0, 0), (0, 0), (0, 0), (0, 1), (0, 3)], [], [], 0, 0, 40, [(0, .inr (3, (0, 480))), (1, .inr (0, (8, 0)))], [.inr (0, (9, 0))])
noncomputable def rxIREXK_4 (S0 : Nat → Int → Int) (ws : List Int) (S : Nat → Int → Int) (test : Int) : Prop := rxIREW_4 S0 ws S test ∧ (rzCk S0 → rzDq S0 → rkXs S0 S test 1)
noncomputable def rxmREXK_4 (S0 : Nat → Int → Int) (ws : List Int) (S : Nat → Int → Int) (test : Int) : Nat := rxmREW_4 S0 ws S test
noncomputable def rxzREXK_4 : rx_Z := ([(0, 0), (0, 0), (0, 0), (0, 0), (0, 0), (0, 0), (0, 0), (0, 0), (0, 1)], [], [], 0, 0, 49, [(0, .inr (3, (0, 480))), (1, .inr (0, (8, 0)))], [.inr (3, (0, 480))])
noncomputable def rxIREXK_5 (S0 : Nat → Int → Int) (ws : List Int) (S : Nat → Int → Int) (test t : Int) : Prop := rxIREW_5 S0 ws S test t ∧ (rzCk S0 → rzDq S0 → rkXi S0 S test t)
noncomputable def rxmREXK_5 (S0 : Nat → Int → Int) (ws : List Int) (S : Nat → Int → Int) (test t : Int) : Nat := rxmREW_5 S0 ws S test t
noncomputable def rxzREXK_5 : rx_Z := ([(0, 0), (0, 0), (0, 0), (0, 0), (0, 0), (0, 0), (0, 0), (0, 0), (0, 1), (0, 3)], [], [], 0, 0, 52, [(0, .inr (3, (0, 480))), (1, .inr (0, (8, 0)))], [.inr (0, (9, 0))])
noncomputable def rxIREXK_6 (S0 : Nat → Int → Int) (ws : List Int) (S : Nat → Int → Int) (test tb : Int) : Prop := rxIREW_6 S0 ws S test tb ∧ (rzCk S0 → rzDq S0 → rkXs S0 S test 3)
noncomputable def rxmREXK_6 (S0 : Nat → Int → Int) (ws : List Int) (S : Nat → Int → Int) (test tb : Int) : Nat := rxmREW_6 S0 ws S test tb
noncomputable def rxzREXK_6 : rx_Z := ([(0, 0), (0, 0), (0, 0), (0, 0), (0, 0), (0, 0), (0, 0), (0, 0), (0, 1), (0, 1)], [], [], 0, 0, 62, [(0, .inr (3, (0, 480))), (1, .inr (0, (8, 0)))], [.inr (0, (9, 0)), .inr (3, (0, 480))])
noncomputable def rxIREXK_7 (S0 : Nat → Int → Int) (ws : List Int) (S : Nat → Int → Int) (test tb t : Int) : Prop := rxIREW_7 S0 ws S test tb t ∧ (rzCk S0 → rzDq S0 → rkXi S0 S test t)
noncomputable def rxmREXK_7 (S0 : Nat → Int → Int) (ws : List Int) (S : Nat → Int → Int) (test tb t : Int) : Nat := rxmREW_7 S0 ws S test tb t
noncomputable def rxzREXK_7 : rx_Z := ([(0, 0), (0, 0), (0, 0), (0, 0), (0, 0), (0, 0), (0, 0), (0, 0), (0, 1), (0, 1), (0, 4)], [], [], 0, 0, 65, [(0, .inr (3, (0, 480))), (1, .inr (0, (8, 0)))], [.inr (0, (10, 0))])
noncomputable def rxIREXK_8 (S0 : Nat → Int → Int) (ws : List Int) (S : Nat → Int → Int) (test : Int) : Prop := rxIREW_8 S0 ws S test ∧ (rzCk S0 → rzDq S0 → rkXs S0 S test 2)
noncomputable def rxmREXK_8 (S0 : Nat → Int → Int) (ws : List Int) (S : Nat → Int → Int) (test : Int) : Nat := rxmREW_8 S0 ws S test
noncomputable def rxzREXK_8 : rx_Z := ([(0, 0), (0, 0), (0, 0), (0, 0), (0, 0), (0, 0), (0, 0), (0, 0), (0, 1)], [], [], 0, 0, 69, [(0, .inr (3, (0, 480))), (1, .inr (0, (8, 0)))], [.inr (3, (0, 480))])
noncomputable def rxIREXK_9 (S0 : Nat → Int → Int) (ws : List Int) (S : Nat → Int → Int) (test t : Int) : Prop := rxIREW_9 S0 ws S test t ∧ (rzCk S0 → rzDq S0 → rkXi S0 S test t)
noncomputable def rxmREXK_9 (S0 : Nat → Int → Int) (ws : List Int) (S : Nat → Int → Int) (test t : Int) : Nat := rxmREW_9 S0 ws S test t
noncomputable def rxzREXK_9 : rx_Z := ([(0, 0), (0, 0), (0, 0), (0, 0), (0, 0), (0, 0), (0, 0), (0, 0), (0, 1), (0, 4)], [], [], 0, 0, 72, [(0, .inr (3, (0, 480))), (1, .inr (0, (8, 0)))], [.inr (0, (9, 0))])
noncomputable def rxIREXK_10 (S0 : Nat → Int → Int) (ws : List Int) (S : Nat → Int → Int) : Prop := rxIREW_10 S0 ws S ∧ (∀ tst : Int, ws = [480, tst] → rzCk S0 → rzDq S0 → rkXo S0 S tst)
noncomputable def rxmREXK_10 (S0 : Nat → Int → Int) (ws : List Int) (S : Nat → Int → Int) : Nat := rxmREW_10 S0 ws S
noncomputable def rxzREXK_10 : rx_Z := ([(0, 0), (0, 0), (0, 0), (0, 0), (0, 0), (0, 0), (0, 0), (0, 0)], [], [], 0, 0, 78, [(0, .inr (3, (0, 480)))], [.inr (0, (0, 1)), .inr (3, (0, 480))])
noncomputable def rxIREXK_11 (S0 : Nat → Int → Int) (ws : List Int) (S : Nat → Int → Int) : Prop := rxIREW_11 S0 ws S ∧ (∀ tst : Int, ws = [480, tst] → rzCk S0 → rzDq S0 → rkEm S0 S tst)
noncomputable def rxmREXK_11 (S0 : Nat → Int → Int) (ws : List Int) (S : Nat → Int → Int) : Nat := rxmREW_11 S0 ws S
noncomputable def rxzREXK_11 : rx_Z := ([(0, 0), (0, 0), (0, 0), (0, 0), (0, 0), (0, 0), (0, 0), (0, 0)], [], [], 0, 0, 81, [(0, .inr (3, (0, 480)))], [])
noncomputable def rxoREXK_0_0 : bx_HO := (([(0, 0), (0, 0), (0, 0), (0, 0), (0, 0), (0, 0), (0, 0), (0, 0), (1, 1)], [(3, (8, 0), (0, 0))], [(((0, 0), 1851192626986356802442008000046409524956554626371924516682072067000000), .inr (0, (0, 0))), (((0, 480), 25), .inr (0, (0, 0))), (((0, 0), 1851192626986356802241301293259633916682733161918089263128248323000000), .inr (0, (0, 0))), (((0, 480), 24), .inr (0, (0, 0)))], 0, 0, 20, [(2, .inr (0, (0, 0))), (0, .inr (3, (0, 480))), (1, .inr (0, (8, 0)))], []), [], [], [(0, 0), (0, 0), (0, 0), (0, 0), (0, 0), (0, 0), (0, 0), (0, 0), (8, 0), (0, 0)], 1)
noncomputable def rxoREXK_0_1 : bx_HO := (([(0, 0), (0, 0), (0, 0), (0, 0), (0, 0), (0, 0), (0, 0), (0, 0), (0, 0)], [], [(((0, 0), 1851192626986356802442008000046409524956554626371924516682072067000000), .inr (0, (0, 0))), (((0, 480), 25), .inr (0, (0, 0))), (((0, 0), 1851192626986356802241301293259633916682733161918089263128248323000000), .inr (0, (0, 0))), (((0, 480), 24), .inr (0, (0, 0)))], 0, 0, 20, [(2, .inr (0, (0, 1))), (0, .inr (3, (0, 480))), (1, .inr (0, (8, 0)))], []), [], [], [(0, 0), (0, 0), (0, 0), (0, 0), (0, 0), (0, 0), (0, 0), (0, 0), (8, 0), (0, 1)], 1)
noncomputable def rxoREXK_1_0 : bx_HO := (([(0, 0), (0, 0), (0, 0), (0, 0), (0, 0), (0, 0), (0, 0), (0, 0), (0, 1), (0, 0), (0, 0)], [(3, (9, 0), (0, 4))], [(((0, 0), 1851192626986356800234234225391877833944518517379736727590010880000000), .inr (0, (10, 0))), (((0, 480), 14), .inr (0, (10, 0)))], 0, 0, 37, [(0, .inr (3, (0, 480))), (1, .inr (0, (8, 0))), (2, .inr (0, (9, 0)))], [.inr (3, (0, 480))]), [], [], [(0, 0), (0, 0), (0, 0), (0, 0), (0, 0), (0, 0), (0, 0), (0, 0), (8, 0)], 2)
noncomputable def rxoREXK_1_1 : bx_HO := (([(0, 0), (0, 0), (0, 0), (0, 0), (0, 0), (0, 0), (0, 0), (0, 0), (0, 1), (1, 1), (0, 0)], [(3, (9, 0), (0, 0)), (3, (9, 0), (0, 4))], [(((0, 0), 1851192626986356800234234225391877833944518517379736727590010880000000), .inr (0, (10, 0))), (((0, 480), 14), .inr (0, (10, 0)))], 0, 0, 49, [(0, .inr (3, (0, 480))), (1, .inr (0, (8, 0))), (2, .inr (0, (9, 0)))], [.inr (3, (0, 480))]), [], [], [(0, 0), (0, 0), (0, 0), (0, 0), (0, 0), (0, 0), (0, 0), (0, 0), (8, 0)], 4)
noncomputable def rxoREXK_1_2 : bx_HO := (([(0, 0), (0, 0), (0, 0), (0, 0), (0, 0), (0, 0), (0, 0), (0, 0), (0, 1), (3, 3), (0, 0)], [(3, (9, 0), (0, 1)), (3, (9, 0), (0, 0)), (3, (9, 0), (0, 4))], [(((0, 0), 1851192626986356800234234225391877833944518517379736727590010880000000), .inr (0, (10, 0))), (((0, 480), 14), .inr (0, (10, 0)))], 0, 0, 62, [(0, .inr (3, (0, 480))), (1, .inr (0, (8, 0))), (2, .inr (0, (9, 0)))], [.inr (0, (8, 0)), .inr (3, (0, 480))]), [], [], [(0, 0), (0, 0), (0, 0), (0, 0), (0, 0), (0, 0), (0, 0), (0, 0), (8, 0), (8, 0)], 6)
noncomputable def rxoREXK_1_3 : bx_HO := (([(0, 0), (0, 0), (0, 0), (0, 0), (0, 0), (0, 0), (0, 0), (0, 0), (0, 1), (2, 2), (0, 0)], [(3, (9, 0), (0, 3)), (3, (9, 0), (0, 1)), (3, (9, 0), (0, 0)), (3, (9, 0), (0, 4))], [(((0, 0), 1851192626986356800234234225391877833944518517379736727590010880000000), .inr (0, (10, 0))), (((0, 480), 14), .inr (0, (10, 0)))], 0, 0, 69, [(0, .inr (3, (0, 480))), (1, .inr (0, (8, 0))), (2, .inr (0, (9, 0)))], [.inr (3, (0, 480))]), [], [], [(0, 0), (0, 0), (0, 0), (0, 0), (0, 0), (0, 0), (0, 0), (0, 0), (8, 0)], 8)
noncomputable def rxoREXK_1_4 : bx_HO := (([(0, 0), (0, 0), (0, 0), (0, 0), (0, 0), (0, 0), (0, 0), (0, 0), (0, 1), (4, 4), (0, 0)], [], [(((0, 0), 1851192626986356800234234225391877833944518517379736727590010880000000), .inr (0, (10, 0))), (((0, 480), 14), .inr (0, (10, 0)))], 0, 0, 78, [(0, .inr (3, (0, 480))), (1, .inr (0, (8, 0))), (2, .inr (0, (9, 0)))], [.inr (0, (0, 1)), .inr (3, (0, 480))]), [], [], [(0, 0), (0, 0), (0, 0), (0, 0), (0, 0), (0, 0), (0, 0), (0, 0)], 10)
noncomputable def rxoREXK_1_5 : bx_HO := (([(0, 0), (0, 0), (0, 0), (0, 0), (0, 0), (0, 0), (0, 0), (0, 0), (0, 1), (0, 4), (1, 1)], [(3, (10, 0), (0, 0))], [(((0, 0), 1851192626986356800234234225391877833944518517379736727590010880000000), .inr (0, (10, 0))), (((0, 480), 14), .inr (0, (10, 0)))], 0, 0, 78, [(0, .inr (3, (0, 480))), (1, .inr (0, (8, 0))), (2, .inr (0, (9, 0)))], [.inr (0, (0, 1)), .inr (3, (0, 480))]), [], [], [(0, 0), (0, 0), (0, 0), (0, 0), (0, 0), (0, 0), (0, 0), (0, 0)], 10)
noncomputable def rxoREXK_3_0 : bx_HO := (([(0, 0), (0, 0), (0, 0), (0, 0), (0, 0), (0, 0), (0, 0), (0, 0), (0, 1), (0, 3)], [], [], 0, 0, 20, [(2, .inr (0, (9, 0))), (0, .inr (3, (0, 480))), (1, .inr (0, (8, 0)))], []), [], [], [(0, 0), (0, 0), (0, 0), (0, 0), (0, 0), (0, 0), (0, 0), (0, 0), (8, 0), (9, 0)], 1)
noncomputable def rxoREXK_5_0 : bx_HO := (([(0, 0), (0, 0), (0, 0), (0, 0), (0, 0), (0, 0), (0, 0), (0, 0), (0, 1), (0, 3)], [], [], 0, 0, 20, [(2, .inr (0, (9, 0))), (0, .inr (3, (0, 480))), (1, .inr (0, (8, 0)))], []), [], [], [(0, 0), (0, 0), (0, 0), (0, 0), (0, 0), (0, 0), (0, 0), (0, 0), (8, 0), (9, 0)], 1)
noncomputable def rxoREXK_7_0 : bx_HO := (([(0, 0), (0, 0), (0, 0), (0, 0), (0, 0), (0, 0), (0, 0), (0, 0), (0, 1), (0, 1), (0, 4)], [], [], 0, 0, 20, [(2, .inr (0, (10, 0))), (0, .inr (3, (0, 480))), (1, .inr (0, (8, 0)))], []), [], [], [(0, 0), (0, 0), (0, 0), (0, 0), (0, 0), (0, 0), (0, 0), (0, 0), (8, 0), (10, 0)], 1)
noncomputable def rxoREXK_9_0 : bx_HO := (([(0, 0), (0, 0), (0, 0), (0, 0), (0, 0), (0, 0), (0, 0), (0, 0), (0, 1), (0, 4)], [], [], 0, 0, 20, [(2, .inr (0, (9, 0))), (0, .inr (3, (0, 480))), (1, .inr (0, (8, 0)))], []), [], [], [(0, 0), (0, 0), (0, 0), (0, 0), (0, 0), (0, 0), (0, 0), (0, 0), (8, 0), (9, 0)], 1)
noncomputable def rxeREXK_11_0 : rx_End × List (Nat × Int × Int) := (([(0, 0), (0, 0), (0, 0), (0, 0), (0, 0), (0, 0), (0, 0), (0, 0)], [], [], none), [])
noncomputable def rxYREXK : List bx_HE := [(rxzREXK_0, [rxoREXK_0_0, rxoREXK_0_1], []), (rxzREXK_1, [rxoREXK_1_0, rxoREXK_1_1, rxoREXK_1_2, rxoREXK_1_3, rxoREXK_1_4, rxoREXK_1_5], []), (rxzREXK_2, [], []), (rxzREXK_3, [rxoREXK_3_0], []), (rxzREXK_4, [], []), (rxzREXK_5, [rxoREXK_5_0], []), (rxzREXK_6, [], []), (rxzREXK_7, [rxoREXK_7_0], []), (rxzREXK_8, [], []), (rxzREXK_9, [rxoREXK_9_0], []), (rxzREXK_10, [], []), (rxzREXK_11, [], [rxeREXK_11_0])]
noncomputable def rxUREXK (q : bx_HE) : Bool := Nat.beq (rx_zpc q.1) 37 || Nat.beq (rx_zpc q.1) 49 || Nat.beq (rx_zpc q.1) 62 || Nat.beq (rx_zpc q.1) 69 || Nat.beq (rx_zpc q.1) 78
noncomputable def rxYBREXK : bx_B := (rxV, rxNP, rxDmf, bx_mdH rxCREXK.2.2.1)
set_option maxRecDepth 100000 in
theorem rxYcREXK : bx_chkH rxYBREXK rxM282 rxCREXK rxYREXK (rxUREXK, fun cut z => rx_ex2 (rxCT rxYBREXK rxCnE) cut 30000 rxCREXK.2.2.2.1 282 z) = true := by decide +kernel
noncomputable def rxIREXK (S0 : Nat → Int → Int) (ws : List Int) (i : Nat) : bx_SP := fun S r => match i with | 0 => rxIREXK_0 S0 ws S (r 8) | 1 => rxIREXK_1 S0 ws S (r 8) (r 9) | 2 => rxIREXK_2 S0 ws S (r 8) | 3 => rxIREXK_3 S0 ws S (r 8) (r 9) | 4 => rxIREXK_4 S0 ws S (r 8) | 5 => rxIREXK_5 S0 ws S (r 8) (r 9) | 6 => rxIREXK_6 S0 ws S (r 8) (r 9) | 7 => rxIREXK_7 S0 ws S (r 8) (r 9) (r 10) | 8 => rxIREXK_8 S0 ws S (r 8) | 9 => rxIREXK_9 S0 ws S (r 8) (r 9) | 10 => rxIREXK_10 S0 ws S | 11 => rxIREXK_11 S0 ws S | _ => False
noncomputable def rxmREXK (S0 : Nat → Int → Int) (ws : List Int) (i : Nat) (S : Nat → Int → Int) (r : Nat → Int) : Nat := match i with | 0 => rxmREXK_0 S0 ws S (r 8) | 1 => rxmREXK_1 S0 ws S (r 8) (r 9) | 2 => rxmREXK_2 S0 ws S (r 8) | 3 => rxmREXK_3 S0 ws S (r 8) (r 9) | 4 => rxmREXK_4 S0 ws S (r 8) | 5 => rxmREXK_5 S0 ws S (r 8) (r 9) | 6 => rxmREXK_6 S0 ws S (r 8) (r 9) | 7 => rxmREXK_7 S0 ws S (r 8) (r 9) (r 10) | 8 => rxmREXK_8 S0 ws S (r 8) | 9 => rxmREXK_9 S0 ws S (r 8) (r 9) | 10 => rxmREXK_10 S0 ws S | 11 => rxmREXK_11 S0 ws S | _ => 0
noncomputable def rxPREXK (S0 : Nat → Int → Int) (ws : List Int) : Prop := rxPREW S0 ws
noncomputable def rxPSREXK (S0 : Nat → Int → Int) (ws : List Int) (S : Nat → Int → Int) (w : Option Int) : Prop := w = none ∧ rxPSREW S0 ws S w ∧ (∀ tst : Int, ws = [480, tst] → rzCk S0 → rzDq S0 → rkEm S0 S tst)
theorem rxkREXK_2 {S0 : Nat → Int → Int} {ws : List Int} {S : Nat → Int → Int} {test : Int} (hP : rxPREXK S0 ws) (hin : bx_same rxL (bx_mdl rxCREXK.2.2.1) S0 S) (I0 : bx_Inv rxL S) (hinv : rxIREXK_2 S0 ws S test) (l8 : 0 ≤ test) (u8 : test ≤ 1) : rxPRNK S [480] ∧ ∀ (S_p : Nat → Int → Int) (t : Int), 0 ≤ t → t ≤ 3 → rxPSRNK S [480] S_p (some t) → bx_Inv rxL S_p → bx_same rxL (bx_mdl rxCRNK.2.2.1) S S_p → rxIREXK_3 S0 ws S_p test t ∧ rxmREXK_3 S0 ws S_p test t < rxmREXK_2 S0 ws S test := by
  obtain ⟨hI, hx⟩ := hinv
  have g_ := rxkREW_2 hP hin I0 hI l8 u8
  exact ⟨g_.1, fun S_p t l_ u_ hq I1 hsm => ⟨⟨(g_.2 S_p t l_ u_ hq.1 I1 hsm).1, (by
    intro c hD
    obtain ⟨k, d, s, rest, cc, r, hc, m1, m2, m3, m4⟩ := hx c hD
    unfold rzTc at hc
    rw [decide_eq_false (by omega)] at m4
    have ck := k.2.2.2.2 c
    have e : s = 1 := by omega
    subst e
    exact rkXi_tn k (hq.1.2 ck d test rest r) (hq.2 ck d rest) m1 m2 m3 m4)⟩, (g_.2 S_p t l_ u_ hq.1 I1 hsm).2⟩⟩
theorem rxsREXK_2 {X : (Nat → Int → Int) → Prop} {S0 : Nat → Int → Int} {ws : List Int} (hP : rxPREXK S0 ws) : rx_obK X S0 rxCREXK.2.2.1 rxCRNK.2.2.1 (rxIREXK S0 ws) (rxmREXK S0 ws) 2 3 rxzREXK_2 rxzREXK_3 [.inr (3, (0, 480))] (some 9) rxPRNK rxPSRNK := by
  intro S r hinv hXS I0 hin hs_ hf_
  have b_ := bx_bds_sat hs_
  have f_ := bx_fcl_ok hs_.1 hf_
  obtain ⟨⟨l8, u8⟩, -⟩ := b_
  have g := rxkREXK_2 hP hin I0 hinv l8 u8
  have ea : List.map (bx_num r) [.inr (3, (0, 480))] = [480] := by
    simp only [List.map_cons, List.map_nil, bx_xv_ok hs_.1]
    rfl
  rw [ea]
  refine ⟨g.1, fun S_p w r_p hPS hX_p I1 hsm hr hw hs_p => ?_⟩
  have hw := hw _ rfl
  subst hw
  have b_p := hs_p.2.2 9 _ _ rfl
  have g2 := g.2 S_p (r_p 9) b_p.1 b_p.2 hPS I1 hsm
  show rxIREXK_3 S0 ws S_p (r_p 8) (r_p 9) ∧ rxmREXK_3 S0 ws S_p (r_p 8) (r_p 9) < _
  rw [hr 8 (by decide)]
  exact g2
theorem rxkREXK_4 {S0 : Nat → Int → Int} {ws : List Int} {S : Nat → Int → Int} {test : Int} (hP : rxPREXK S0 ws) (hin : bx_same rxL (bx_mdl rxCREXK.2.2.1) S0 S) (I0 : bx_Inv rxL S) (hinv : rxIREXK_4 S0 ws S test) (l8 : 0 ≤ test) (u8 : test ≤ 1) : rxPRPK S [480] ∧ ∀ (S_p : Nat → Int → Int) (t : Int), 0 ≤ t → t ≤ 3 → rxPSRPK S [480] S_p (some t) → bx_Inv rxL S_p → bx_same rxL (bx_mdl rxCRPK.2.2.1) S S_p → rxIREXK_5 S0 ws S_p test t ∧ rxmREXK_5 S0 ws S_p test t < rxmREXK_4 S0 ws S test := by
  obtain ⟨hI, hx⟩ := hinv
  have g_ := rxkREW_4 hP hin I0 hI l8 u8
  exact ⟨g_.1, fun S_p t l_ u_ hq I1 hsm => ⟨⟨(g_.2 S_p t l_ u_ hq.1 I1 hsm).1, (by
    intro c hD
    obtain ⟨k, d, s, rest, cc, r, hc, m1, m2, m3, m4⟩ := hx c hD
    unfold rzTc at hc
    rw [decide_eq_false (by omega)] at m4
    have ck := k.2.2.2.2 c
    exact rkXi_tn k (hq.1.2 ck d test s rest r (by omega) (fun g => by omega) (fun g => by omega)) (hq.2 ck d s rest (fun g => by omega) (fun g => by omega)) m1 m2 m3 m4)⟩, (g_.2 S_p t l_ u_ hq.1 I1 hsm).2⟩⟩
theorem rxsREXK_4 {X : (Nat → Int → Int) → Prop} {S0 : Nat → Int → Int} {ws : List Int} (hP : rxPREXK S0 ws) : rx_obK X S0 rxCREXK.2.2.1 rxCRPK.2.2.1 (rxIREXK S0 ws) (rxmREXK S0 ws) 4 5 rxzREXK_4 rxzREXK_5 [.inr (3, (0, 480))] (some 9) rxPRPK rxPSRPK := by
  intro S r hinv hXS I0 hin hs_ hf_
  have b_ := bx_bds_sat hs_
  have f_ := bx_fcl_ok hs_.1 hf_
  obtain ⟨⟨l8, u8⟩, -⟩ := b_
  have g := rxkREXK_4 hP hin I0 hinv l8 u8
  have ea : List.map (bx_num r) [.inr (3, (0, 480))] = [480] := by
    simp only [List.map_cons, List.map_nil, bx_xv_ok hs_.1]
    rfl
  rw [ea]
  refine ⟨g.1, fun S_p w r_p hPS hX_p I1 hsm hr hw hs_p => ?_⟩
  have hw := hw _ rfl
  subst hw
  have b_p := hs_p.2.2 9 _ _ rfl
  have g2 := g.2 S_p (r_p 9) b_p.1 b_p.2 hPS I1 hsm
  show rxIREXK_5 S0 ws S_p (r_p 8) (r_p 9) ∧ rxmREXK_5 S0 ws S_p (r_p 8) (r_p 9) < _
  rw [hr 8 (by decide)]
  exact g2
theorem rxkREXK_6 {S0 : Nat → Int → Int} {ws : List Int} {S : Nat → Int → Int} {test tb : Int} (hP : rxPREXK S0 ws) (hin : bx_same rxL (bx_mdl rxCREXK.2.2.1) S0 S) (I0 : bx_Inv rxL S) (hinv : rxIREXK_6 S0 ws S test tb) (l8 : 0 ≤ test) (u8 : test ≤ 1) (l9 : 0 ≤ tb) (u9 : tb ≤ 1) : rxPBSK S [480, tb] ∧ ∀ (S_p : Nat → Int → Int) (t : Int), 0 ≤ t → t ≤ 4 → rxPSBSK S [480, tb] S_p (some t) → bx_Inv rxL S_p → bx_same rxL (bx_mdl rxCBSK.2.2.1) S S_p → rxIREXK_7 S0 ws S_p test tb t ∧ rxmREXK_7 S0 ws S_p test tb t < rxmREXK_6 S0 ws S test tb := by
  obtain ⟨hI, hx⟩ := hinv
  have g_ := rxkREW_6 hP hin I0 hI l8 u8 l9 u9
  exact ⟨g_.1, fun S_p t l_ u_ hq I1 hsm => ⟨⟨(g_.2 S_p t l_ u_ hq.1 I1 hsm).1, (by
    have htb := hI.2.1
    intro c hD
    obtain ⟨k, d, s, rest, cc, r, hc, m1, m2, m3, m4⟩ := hx c hD
    unfold rzTc at hc
    rw [decide_eq_true (by omega)] at m4
    have ck := k.2.2.2.2 c
    have ew : [480, tb] = [480, test] := by rw [htb]
    exact rkXi_to k d r (hq.1.2 ck d test s rest ew r (by omega)) (hq.2 ck d test s rest ew r (by omega)) m1 m2 m3 m4)⟩, (g_.2 S_p t l_ u_ hq.1 I1 hsm).2⟩⟩
theorem rxsREXK_6 {X : (Nat → Int → Int) → Prop} {S0 : Nat → Int → Int} {ws : List Int} (hP : rxPREXK S0 ws) : rx_obK X S0 rxCREXK.2.2.1 rxCBSK.2.2.1 (rxIREXK S0 ws) (rxmREXK S0 ws) 6 7 rxzREXK_6 rxzREXK_7 [.inr (3, (0, 480)), .inr (0, (9, 0))] (some 10) rxPBSK rxPSBSK := by
  intro S r hinv hXS I0 hin hs_ hf_
  have b_ := bx_bds_sat hs_
  have f_ := bx_fcl_ok hs_.1 hf_
  obtain ⟨⟨l8, u8⟩, ⟨l9, u9⟩, -⟩ := b_
  have g := rxkREXK_6 hP hin I0 hinv l8 u8 l9 u9
  have ea : List.map (bx_num r) [.inr (3, (0, 480)), .inr (0, (9, 0))] = [480, (r 9)] := by
    simp only [List.map_cons, List.map_nil, bx_xv_ok hs_.1]
    rfl
  rw [ea]
  refine ⟨g.1, fun S_p w r_p hPS hX_p I1 hsm hr hw hs_p => ?_⟩
  have hw := hw _ rfl
  subst hw
  have b_p := hs_p.2.2 10 _ _ rfl
  have g2 := g.2 S_p (r_p 10) b_p.1 b_p.2 hPS I1 hsm
  show rxIREXK_7 S0 ws S_p (r_p 8) (r_p 9) (r_p 10) ∧ rxmREXK_7 S0 ws S_p (r_p 8) (r_p 9) (r_p 10) < _
  rw [hr 8 (by decide), hr 9 (by decide)]
  exact g2
theorem rxkREXK_8 {S0 : Nat → Int → Int} {ws : List Int} {S : Nat → Int → Int} {test : Int} (hP : rxPREXK S0 ws) (hin : bx_same rxL (bx_mdl rxCREXK.2.2.1) S0 S) (I0 : bx_Inv rxL S) (hinv : rxIREXK_8 S0 ws S test) (l8 : 0 ≤ test) (u8 : test ≤ 1) : rxPBTK S [480] ∧ ∀ (S_p : Nat → Int → Int) (t : Int), 0 ≤ t → t ≤ 4 → rxPSBTK S [480] S_p (some t) → bx_Inv rxL S_p → bx_same rxL (bx_mdl rxCBTK.2.2.1) S S_p → rxIREXK_9 S0 ws S_p test t ∧ rxmREXK_9 S0 ws S_p test t < rxmREXK_8 S0 ws S test := by
  obtain ⟨hI, hx⟩ := hinv
  have g_ := rxkREW_8 hP hin I0 hI l8 u8
  exact ⟨g_.1, fun S_p t l_ u_ hq I1 hsm => ⟨⟨(g_.2 S_p t l_ u_ hq.1 I1 hsm).1, (by
    intro c hD
    obtain ⟨k, d, s, rest, cc, r, hc, m1, m2, m3, m4⟩ := hx c hD
    unfold rzTc at hc
    rw [decide_eq_true (by omega)] at m4
    have ck := k.2.2.2.2 c
    exact rkXi_to k d r (hq.1.2 ck d test s rest r (by omega) (fun g => by
      rcases hc with v | v
      · omega
      · exact v.2.2)) (hq.2 ck d test s rest r (by omega)) m1 m2 m3 m4)⟩, (g_.2 S_p t l_ u_ hq.1 I1 hsm).2⟩⟩
theorem rxsREXK_8 {X : (Nat → Int → Int) → Prop} {S0 : Nat → Int → Int} {ws : List Int} (hP : rxPREXK S0 ws) : rx_obK X S0 rxCREXK.2.2.1 rxCBTK.2.2.1 (rxIREXK S0 ws) (rxmREXK S0 ws) 8 9 rxzREXK_8 rxzREXK_9 [.inr (3, (0, 480))] (some 9) rxPBTK rxPSBTK := by
  intro S r hinv hXS I0 hin hs_ hf_
  have b_ := bx_bds_sat hs_
  have f_ := bx_fcl_ok hs_.1 hf_
  obtain ⟨⟨l8, u8⟩, -⟩ := b_
  have g := rxkREXK_8 hP hin I0 hinv l8 u8
  have ea : List.map (bx_num r) [.inr (3, (0, 480))] = [480] := by
    simp only [List.map_cons, List.map_nil, bx_xv_ok hs_.1]
    rfl
  rw [ea]
  refine ⟨g.1, fun S_p w r_p hPS hX_p I1 hsm hr hw hs_p => ?_⟩
  have hw := hw _ rfl
  subst hw
  have b_p := hs_p.2.2 9 _ _ rfl
  have g2 := g.2 S_p (r_p 9) b_p.1 b_p.2 hPS I1 hsm
  show rxIREXK_9 S0 ws S_p (r_p 8) (r_p 9) ∧ rxmREXK_9 S0 ws S_p (r_p 8) (r_p 9) < _
  rw [hr 8 (by decide)]
  exact g2
theorem rxkREXK_10 {S0 : Nat → Int → Int} {ws : List Int} {S : Nat → Int → Int} (hP : rxPREXK S0 ws) (hin : bx_same rxL (bx_mdl rxCREXK.2.2.1) S0 S) (I0 : bx_Inv rxL S) (hinv : rxIREXK_10 S0 ws S)  : rxPSTK S [480, 1] ∧ ∀ (S_p : Nat → Int → Int), rxPSSTK S [480, 1] S_p none → bx_Inv rxL S_p → bx_same rxL (bx_mdl rxCSTK.2.2.1) S S_p → rxIREXK_11 S0 ws S_p ∧ rxmREXK_11 S0 ws S_p < rxmREXK_10 S0 ws S := by
  obtain ⟨hI, hx⟩ := hinv
  have g_ := rxkREW_10 hP hin I0 hI
  exact ⟨g_.1, fun S_p hq I1 hsm => ⟨⟨(g_.2 S_p hq.2.1 I1 hsm).1, (by
    intro tst ht c hD z
    have e14 := (show S_p 480 14 = S 480 14 from hsm 480 14 (by decide) (by decide) (by decide +kernel))
    obtain ⟨cc, m1, m2, m3, m4⟩ := hx tst ht c hD (by omega)
    obtain ⟨l2, hw2, hm⟩ := hq.2.2
    have e2 : (1 : Int) = l2 := Option.some.inj (congrArg (fun l : List Int => l[1]?) hw2)
    subst e2
    obtain ⟨g1, g2⟩ := hm _ cc m1 m2
    exact ⟨m3.tr g2, rkRed 1 cc, m4, (rkRed_w (by omega) m2).1, rkMo_of g1⟩)⟩, (g_.2 S_p hq.2.1 I1 hsm).2⟩⟩
theorem rxsREXK_10 {X : (Nat → Int → Int) → Prop} {S0 : Nat → Int → Int} {ws : List Int} (hP : rxPREXK S0 ws) : rx_obK X S0 rxCREXK.2.2.1 rxCSTK.2.2.1 (rxIREXK S0 ws) (rxmREXK S0 ws) 10 11 rxzREXK_10 rxzREXK_11 [.inr (3, (0, 480)), .inr (0, (0, 1))] none rxPSTK rxPSSTK := by
  intro S r hinv hXS I0 hin hs_ hf_
  have b_ := bx_bds_sat hs_
  have f_ := bx_fcl_ok hs_.1 hf_
  have g := rxkREXK_10 hP hin I0 hinv 
  have ea : List.map (bx_num r) [.inr (3, (0, 480)), .inr (0, (0, 1))] = [480, 1] := by
    simp only [List.map_cons, List.map_nil, bx_xv_ok hs_.1]
    rfl
  rw [ea]
  refine ⟨g.1, fun S_p w r_p hPS hX_p I1 hsm hr hw hs_p => ?_⟩
  have hw : w = none := hPS.1
  subst hw
  have g2 := g.2 S_p hPS I1 hsm
  show rxIREXK_11 S0 ws S_p ∧ rxmREXK_11 S0 ws S_p < _
  exact g2
theorem rxcREXK_0_0 {S0 : Nat → Int → Int} {ws : List Int} {S : Nat → Int → Int} {test : Int} (hP : rxPREXK S0 ws) (hin : bx_same rxL (bx_mdl rxCREXK.2.2.1) S0 S) (I0 : bx_Inv rxL S) (hinv : rxIREXK_0 S0 ws S test) (l8 : 1 ≤ test) (u8 : test ≤ 1) (f0 : test ≠ 0) : (True) ∧ (True) ∧ rxIREXK_1 S0 ws (bx_up (bx_up S 480 24 0) 480 25 0) test 0 ∧ rxmREXK_1 S0 ws (bx_up (bx_up S 480 24 0) 480 25 0) test 0 < rxmREXK_0 S0 ws S test := by
  obtain ⟨hI, hx⟩ := hinv
  obtain ⟨a_, b_, c_, d_⟩ := rxcREW_0_0 hP hin I0 hI l8 u8 f0
  exact ⟨a_, b_, ⟨c_, (by
    have e := hI.1.1
    have hw := hI.1.2
    subst e
    have b18 : 0 ≤ S 480 18 ∧ S 480 18 ≤ 400 := I0 480 18 (by decide) (by decide)
    exact fun c hD => rkXi_0 hD ⟨congrArg rzCut (funext fun _ => (bx_up_ne (by omega)).trans ((bx_up_ne (by omega)))), (bx_up_ne (by omega)).trans ((bx_up_ne (by omega))), (bx_up_ne (by omega)).trans ((bx_up_ne (by omega))), (bx_up_ne (by omega)).trans ((bx_up_ne (by omega))), fun c => rzCk_c c (funext fun _ => (bx_up_ne (by omega)).trans ((bx_up_ne (by omega)))) (funext fun _ => (bx_up_ne (by omega)).trans ((bx_up_ne (by omega))))⟩ ⟨(bx_up_ne (by omega)).trans ((bx_up_ne (by omega))), (bx_up_ne (by omega)).trans ((bx_up_ne (by omega))), (bx_up_ne (by omega)).trans ((bx_up_ne (by omega))), (bx_up_ne (by omega)).trans ((bx_up_ne (by omega)))⟩ ((bx_up_ne (by omega)).trans ((bx_up_ne (by omega)))) ((bx_up_ne (by omega)).trans (bx_up_at)) (bx_up_at) ((bx_up_ne (by omega)).trans ((bx_up_ne (by omega)))) b18.1 (fun j => ⟨(bx_up_ne (by omega)).trans ((bx_up_ne (by omega))), (bx_up_ne (by omega)).trans ((bx_up_ne (by omega)))⟩) (by omega))⟩, d_⟩
theorem rxgREXK_0_0 {X : (Nat → Int → Int) → Prop} {S0 : Nat → Int → Int} {ws : List Int} (hP : rxPREXK S0 ws) : bx_obC rxL X S0 rxCREXK.2.2.1 (rxIREXK S0 ws) (rxmREXK S0 ws) 0 rxzREXK_0 rxoREXK_0_0 := by
  intro S S_p r r_p hinv hX hin hsm_ hseg
  obtain ⟨I0, I1, h0_, hr_, b_, f_, d_⟩ := bx_cl (evs := [(1, (0, 480), (0, 25), .inr (0, (0, 0))), (1, (0, 480), (0, 24), .inr (0, (0, 0)))]) (fvs := [(3, (8, 0), (0, 0), (0, 0))]) hseg (by decide +kernel) (by decide +kernel)
  have hinv : rxIREXK_0 S0 ws S (r 8) := hinv
  rw [← hr_ 8 (by decide)] at hinv
  obtain ⟨⟨l8, u8⟩, -⟩ := b_
  obtain ⟨f0, -⟩ := f_
  obtain ⟨T0, ⟨T1, w_, w1⟩, w0⟩ := d_
  subst w0
  subst w1
  subst w_
  have g := rxcREXK_0_0 hP hin I0 hinv l8 u8 f0
  refine ⟨bx_narP_ok (l := []) g.1, bx_nfP_ok h0_ (fvs := []) (by decide +kernel) g.2.1, ?_, ?_⟩
  · show rxIREXK_1 S0 ws (bx_up (bx_up T1 480 (24) (0)) 480 (25) (0)) (bx_val [(0, 0), (0, 0), (0, 0), (0, 0), (0, 0), (0, 0), (0, 0), (0, 0), (8, 0), (0, 0)] r_p 8) (bx_val [(0, 0), (0, 0), (0, 0), (0, 0), (0, 0), (0, 0), (0, 0), (0, 0), (8, 0), (0, 0)] r_p 9)
    rw [bx_val_x (n := 8) (e := (8, 0)) h0_ rfl, bx_val_x (n := 9) (e := (0, 0)) h0_ rfl]
    exact g.2.2.1
  · show rxmREXK_1 S0 ws (bx_up (bx_up T1 480 (24) (0)) 480 (25) (0)) (bx_val [(0, 0), (0, 0), (0, 0), (0, 0), (0, 0), (0, 0), (0, 0), (0, 0), (8, 0), (0, 0)] r_p 8) (bx_val [(0, 0), (0, 0), (0, 0), (0, 0), (0, 0), (0, 0), (0, 0), (0, 0), (8, 0), (0, 0)] r_p 9) < rxmREXK_0 S0 ws T1 (r 8)
    rw [bx_val_x (n := 8) (e := (8, 0)) h0_ rfl, bx_val_x (n := 9) (e := (0, 0)) h0_ rfl, ← hr_ 8 (by decide)]
    exact g.2.2.2
theorem rxcREXK_0_1 {S0 : Nat → Int → Int} {ws : List Int} {S : Nat → Int → Int} {test : Int} (hP : rxPREXK S0 ws) (hin : bx_same rxL (bx_mdl rxCREXK.2.2.1) S0 S) (I0 : bx_Inv rxL S) (hinv : rxIREXK_0 S0 ws S test) (l8 : 0 ≤ test) (u8 : test ≤ 0) : (True) ∧ (True) ∧ rxIREXK_1 S0 ws (bx_up (bx_up S 480 24 0) 480 25 0) test 1 ∧ rxmREXK_1 S0 ws (bx_up (bx_up S 480 24 0) 480 25 0) test 1 < rxmREXK_0 S0 ws S test := by
  obtain ⟨hI, hx⟩ := hinv
  obtain ⟨a_, b_, c_, d_⟩ := rxcREW_0_1 hP hin I0 hI l8 u8
  exact ⟨a_, b_, ⟨c_, (by
    have e := hI.1.1
    have hw := hI.1.2
    subst e
    have b18 : 0 ≤ S 480 18 ∧ S 480 18 ≤ 400 := I0 480 18 (by decide) (by decide)
    exact fun c hD => rkXi_0 hD ⟨congrArg rzCut (funext fun _ => (bx_up_ne (by omega)).trans ((bx_up_ne (by omega)))), (bx_up_ne (by omega)).trans ((bx_up_ne (by omega))), (bx_up_ne (by omega)).trans ((bx_up_ne (by omega))), (bx_up_ne (by omega)).trans ((bx_up_ne (by omega))), fun c => rzCk_c c (funext fun _ => (bx_up_ne (by omega)).trans ((bx_up_ne (by omega)))) (funext fun _ => (bx_up_ne (by omega)).trans ((bx_up_ne (by omega))))⟩ ⟨(bx_up_ne (by omega)).trans ((bx_up_ne (by omega))), (bx_up_ne (by omega)).trans ((bx_up_ne (by omega))), (bx_up_ne (by omega)).trans ((bx_up_ne (by omega))), (bx_up_ne (by omega)).trans ((bx_up_ne (by omega)))⟩ ((bx_up_ne (by omega)).trans ((bx_up_ne (by omega)))) ((bx_up_ne (by omega)).trans (bx_up_at)) (bx_up_at) ((bx_up_ne (by omega)).trans ((bx_up_ne (by omega)))) b18.1 (fun j => ⟨(bx_up_ne (by omega)).trans ((bx_up_ne (by omega))), (bx_up_ne (by omega)).trans ((bx_up_ne (by omega)))⟩) (by omega))⟩, d_⟩
theorem rxgREXK_0_1 {X : (Nat → Int → Int) → Prop} {S0 : Nat → Int → Int} {ws : List Int} (hP : rxPREXK S0 ws) : bx_obC rxL X S0 rxCREXK.2.2.1 (rxIREXK S0 ws) (rxmREXK S0 ws) 0 rxzREXK_0 rxoREXK_0_1 := by
  intro S S_p r r_p hinv hX hin hsm_ hseg
  obtain ⟨I0, I1, h0_, hr_, b_, f_, d_⟩ := bx_cl (evs := [(1, (0, 480), (0, 25), .inr (0, (0, 0))), (1, (0, 480), (0, 24), .inr (0, (0, 0)))]) (fvs := []) hseg (by decide +kernel) (by decide +kernel)
  have hinv : rxIREXK_0 S0 ws S (r 8) := hinv
  rw [← hr_ 8 (by decide)] at hinv
  obtain ⟨⟨l8, u8⟩, -⟩ := b_
  obtain ⟨T0, ⟨T1, w_, w1⟩, w0⟩ := d_
  subst w0
  subst w1
  subst w_
  have g := rxcREXK_0_1 hP hin I0 hinv l8 u8
  refine ⟨bx_narP_ok (l := []) g.1, bx_nfP_ok h0_ (fvs := []) (by decide +kernel) g.2.1, ?_, ?_⟩
  · show rxIREXK_1 S0 ws (bx_up (bx_up T1 480 (24) (0)) 480 (25) (0)) (bx_val [(0, 0), (0, 0), (0, 0), (0, 0), (0, 0), (0, 0), (0, 0), (0, 0), (8, 0), (0, 1)] r_p 8) (bx_val [(0, 0), (0, 0), (0, 0), (0, 0), (0, 0), (0, 0), (0, 0), (0, 0), (8, 0), (0, 1)] r_p 9)
    rw [bx_val_x (n := 8) (e := (8, 0)) h0_ rfl, bx_val_x (n := 9) (e := (0, 1)) h0_ rfl]
    exact g.2.2.1
  · show rxmREXK_1 S0 ws (bx_up (bx_up T1 480 (24) (0)) 480 (25) (0)) (bx_val [(0, 0), (0, 0), (0, 0), (0, 0), (0, 0), (0, 0), (0, 0), (0, 0), (8, 0), (0, 1)] r_p 8) (bx_val [(0, 0), (0, 0), (0, 0), (0, 0), (0, 0), (0, 0), (0, 0), (0, 0), (8, 0), (0, 1)] r_p 9) < rxmREXK_0 S0 ws T1 (r 8)
    rw [bx_val_x (n := 8) (e := (8, 0)) h0_ rfl, bx_val_x (n := 9) (e := (0, 1)) h0_ rfl, ← hr_ 8 (by decide)]
    exact g.2.2.2
theorem rxcREXK_1_0 {S0 : Nat → Int → Int} {ws : List Int} {S : Nat → Int → Int} {test turn x10 : Int} (hP : rxPREXK S0 ws) (hin : bx_same rxL (bx_mdl rxCREXK.2.2.1) S0 S) (I0 : bx_Inv rxL S) (hinv : rxIREXK_1 S0 ws S test turn) (l8 : 0 ≤ test) (u8 : test ≤ 1) (l9 : 0 ≤ turn) (u9 : turn ≤ 0) (l10 : 0 ≤ x10) (u10 : x10 ≤ 0) (f0 : turn ≠ 4) (e0 : S 480 14 = x10) : (True) ∧ (True) ∧ rxIREXK_2 S0 ws S test ∧ rxmREXK_2 S0 ws S test < rxmREXK_1 S0 ws S test turn := by
  obtain ⟨hI, hx⟩ := hinv
  obtain ⟨a_, b_, c_, d_⟩ := rxcREW_1_0 hP hin I0 hI l8 u8 l9 u9 l10 u10 f0 e0
  exact ⟨a_, b_, ⟨c_, (by
    intro c hD
    rcases hx c hD (by omega) with q | q
    · exfalso
      omega
    · have e : turn = 0 := by omega
      rw [← e]
      exact q.2)⟩, d_⟩
theorem rxgREXK_1_0 {X : (Nat → Int → Int) → Prop} {S0 : Nat → Int → Int} {ws : List Int} (hP : rxPREXK S0 ws) : bx_obC rxL X S0 rxCREXK.2.2.1 (rxIREXK S0 ws) (rxmREXK S0 ws) 1 rxzREXK_1 rxoREXK_1_0 := by
  intro S S_p r r_p hinv hX hin hsm_ hseg
  obtain ⟨I0, I1, h0_, hr_, b_, f_, d_⟩ := bx_cl (evs := [(0, (0, 480), (0, 14), .inr (0, (10, 0)))]) (fvs := [(3, (9, 0), (0, 4), (0, 0))]) hseg (by decide +kernel) (by decide +kernel)
  have hinv : rxIREXK_1 S0 ws S (r 8) (r 9) := hinv
  rw [← hr_ 8 (by decide), ← hr_ 9 (by decide)] at hinv
  obtain ⟨⟨l8, u8⟩, ⟨l9, u9⟩, ⟨l10, u10⟩, -⟩ := b_
  obtain ⟨f0, -⟩ := f_
  obtain ⟨e0, w_⟩ := d_
  subst w_
  have g := rxcREXK_1_0 hP hin I0 hinv l8 u8 l9 u9 l10 u10 f0 e0
  refine ⟨bx_narP_ok (l := []) g.1, bx_nfP_ok h0_ (fvs := []) (by decide +kernel) g.2.1, ?_, ?_⟩
  · show rxIREXK_2 S0 ws S_p (bx_val [(0, 0), (0, 0), (0, 0), (0, 0), (0, 0), (0, 0), (0, 0), (0, 0), (8, 0)] r_p 8)
    rw [bx_val_x (n := 8) (e := (8, 0)) h0_ rfl]
    exact g.2.2.1
  · show rxmREXK_2 S0 ws S_p (bx_val [(0, 0), (0, 0), (0, 0), (0, 0), (0, 0), (0, 0), (0, 0), (0, 0), (8, 0)] r_p 8) < rxmREXK_1 S0 ws S_p (r 8) (r 9)
    rw [bx_val_x (n := 8) (e := (8, 0)) h0_ rfl, ← hr_ 8 (by decide), ← hr_ 9 (by decide)]
    exact g.2.2.2
theorem rxcREXK_1_1 {S0 : Nat → Int → Int} {ws : List Int} {S : Nat → Int → Int} {test turn x10 : Int} (hP : rxPREXK S0 ws) (hin : bx_same rxL (bx_mdl rxCREXK.2.2.1) S0 S) (I0 : bx_Inv rxL S) (hinv : rxIREXK_1 S0 ws S test turn) (l8 : 0 ≤ test) (u8 : test ≤ 1) (l9 : 1 ≤ turn) (u9 : turn ≤ 1) (l10 : 0 ≤ x10) (u10 : x10 ≤ 0) (f0 : turn ≠ 0) (f1 : turn ≠ 4) (e0 : S 480 14 = x10) : (True) ∧ (True) ∧ rxIREXK_4 S0 ws S test ∧ rxmREXK_4 S0 ws S test < rxmREXK_1 S0 ws S test turn := by
  obtain ⟨hI, hx⟩ := hinv
  obtain ⟨a_, b_, c_, d_⟩ := rxcREW_1_1 hP hin I0 hI l8 u8 l9 u9 l10 u10 f0 f1 e0
  exact ⟨a_, b_, ⟨c_, (by
    intro c hD
    rcases hx c hD (by omega) with q | q
    · exfalso
      omega
    · have e : turn = 1 := by omega
      rw [← e]
      exact q.2)⟩, d_⟩
theorem rxgREXK_1_1 {X : (Nat → Int → Int) → Prop} {S0 : Nat → Int → Int} {ws : List Int} (hP : rxPREXK S0 ws) : bx_obC rxL X S0 rxCREXK.2.2.1 (rxIREXK S0 ws) (rxmREXK S0 ws) 1 rxzREXK_1 rxoREXK_1_1 := by
  intro S S_p r r_p hinv hX hin hsm_ hseg
  obtain ⟨I0, I1, h0_, hr_, b_, f_, d_⟩ := bx_cl (evs := [(0, (0, 480), (0, 14), .inr (0, (10, 0)))]) (fvs := [(3, (9, 0), (0, 0), (0, 0)), (3, (9, 0), (0, 4), (0, 0))]) hseg (by decide +kernel) (by decide +kernel)
  have hinv : rxIREXK_1 S0 ws S (r 8) (r 9) := hinv
  rw [← hr_ 8 (by decide), ← hr_ 9 (by decide)] at hinv
  obtain ⟨⟨l8, u8⟩, ⟨l9, u9⟩, ⟨l10, u10⟩, -⟩ := b_
  obtain ⟨f0, f1, -⟩ := f_
  obtain ⟨e0, w_⟩ := d_
  subst w_
  have g := rxcREXK_1_1 hP hin I0 hinv l8 u8 l9 u9 l10 u10 f0 f1 e0
  refine ⟨bx_narP_ok (l := []) g.1, bx_nfP_ok h0_ (fvs := []) (by decide +kernel) g.2.1, ?_, ?_⟩
  · show rxIREXK_4 S0 ws S_p (bx_val [(0, 0), (0, 0), (0, 0), (0, 0), (0, 0), (0, 0), (0, 0), (0, 0), (8, 0)] r_p 8)
    rw [bx_val_x (n := 8) (e := (8, 0)) h0_ rfl]
    exact g.2.2.1
  · show rxmREXK_4 S0 ws S_p (bx_val [(0, 0), (0, 0), (0, 0), (0, 0), (0, 0), (0, 0), (0, 0), (0, 0), (8, 0)] r_p 8) < rxmREXK_1 S0 ws S_p (r 8) (r 9)
    rw [bx_val_x (n := 8) (e := (8, 0)) h0_ rfl, ← hr_ 8 (by decide), ← hr_ 9 (by decide)]
    exact g.2.2.2
theorem rxcREXK_1_2 {S0 : Nat → Int → Int} {ws : List Int} {S : Nat → Int → Int} {test turn x10 : Int} (hP : rxPREXK S0 ws) (hin : bx_same rxL (bx_mdl rxCREXK.2.2.1) S0 S) (I0 : bx_Inv rxL S) (hinv : rxIREXK_1 S0 ws S test turn) (l8 : 0 ≤ test) (u8 : test ≤ 1) (l9 : 3 ≤ turn) (u9 : turn ≤ 3) (l10 : 0 ≤ x10) (u10 : x10 ≤ 0) (f0 : turn ≠ 1) (f1 : turn ≠ 0) (f2 : turn ≠ 4) (e0 : S 480 14 = x10) : (True) ∧ (True) ∧ rxIREXK_6 S0 ws S test test ∧ rxmREXK_6 S0 ws S test test < rxmREXK_1 S0 ws S test turn := by
  obtain ⟨hI, hx⟩ := hinv
  obtain ⟨a_, b_, c_, d_⟩ := rxcREW_1_2 hP hin I0 hI l8 u8 l9 u9 l10 u10 f0 f1 f2 e0
  exact ⟨a_, b_, ⟨c_, (by
    intro c hD
    rcases hx c hD (by omega) with q | q
    · exfalso
      omega
    · have e : turn = 3 := by omega
      rw [← e]
      exact q.2)⟩, d_⟩
theorem rxgREXK_1_2 {X : (Nat → Int → Int) → Prop} {S0 : Nat → Int → Int} {ws : List Int} (hP : rxPREXK S0 ws) : bx_obC rxL X S0 rxCREXK.2.2.1 (rxIREXK S0 ws) (rxmREXK S0 ws) 1 rxzREXK_1 rxoREXK_1_2 := by
  intro S S_p r r_p hinv hX hin hsm_ hseg
  obtain ⟨I0, I1, h0_, hr_, b_, f_, d_⟩ := bx_cl (evs := [(0, (0, 480), (0, 14), .inr (0, (10, 0)))]) (fvs := [(3, (9, 0), (0, 1), (0, 0)), (3, (9, 0), (0, 0), (0, 0)), (3, (9, 0), (0, 4), (0, 0))]) hseg (by decide +kernel) (by decide +kernel)
  have hinv : rxIREXK_1 S0 ws S (r 8) (r 9) := hinv
  rw [← hr_ 8 (by decide), ← hr_ 9 (by decide)] at hinv
  obtain ⟨⟨l8, u8⟩, ⟨l9, u9⟩, ⟨l10, u10⟩, -⟩ := b_
  obtain ⟨f0, f1, f2, -⟩ := f_
  obtain ⟨e0, w_⟩ := d_
  subst w_
  have g := rxcREXK_1_2 hP hin I0 hinv l8 u8 l9 u9 l10 u10 f0 f1 f2 e0
  refine ⟨bx_narP_ok (l := []) g.1, bx_nfP_ok h0_ (fvs := []) (by decide +kernel) g.2.1, ?_, ?_⟩
  · show rxIREXK_6 S0 ws S_p (bx_val [(0, 0), (0, 0), (0, 0), (0, 0), (0, 0), (0, 0), (0, 0), (0, 0), (8, 0), (8, 0)] r_p 8) (bx_val [(0, 0), (0, 0), (0, 0), (0, 0), (0, 0), (0, 0), (0, 0), (0, 0), (8, 0), (8, 0)] r_p 9)
    rw [bx_val_x (n := 8) (e := (8, 0)) h0_ rfl, bx_val_x (n := 9) (e := (8, 0)) h0_ rfl]
    exact g.2.2.1
  · show rxmREXK_6 S0 ws S_p (bx_val [(0, 0), (0, 0), (0, 0), (0, 0), (0, 0), (0, 0), (0, 0), (0, 0), (8, 0), (8, 0)] r_p 8) (bx_val [(0, 0), (0, 0), (0, 0), (0, 0), (0, 0), (0, 0), (0, 0), (0, 0), (8, 0), (8, 0)] r_p 9) < rxmREXK_1 S0 ws S_p (r 8) (r 9)
    rw [bx_val_x (n := 8) (e := (8, 0)) h0_ rfl, bx_val_x (n := 9) (e := (8, 0)) h0_ rfl, ← hr_ 8 (by decide), ← hr_ 9 (by decide)]
    exact g.2.2.2
theorem rxcREXK_1_3 {S0 : Nat → Int → Int} {ws : List Int} {S : Nat → Int → Int} {test turn x10 : Int} (hP : rxPREXK S0 ws) (hin : bx_same rxL (bx_mdl rxCREXK.2.2.1) S0 S) (I0 : bx_Inv rxL S) (hinv : rxIREXK_1 S0 ws S test turn) (l8 : 0 ≤ test) (u8 : test ≤ 1) (l9 : 2 ≤ turn) (u9 : turn ≤ 2) (l10 : 0 ≤ x10) (u10 : x10 ≤ 0) (f0 : turn ≠ 3) (f1 : turn ≠ 1) (f2 : turn ≠ 0) (f3 : turn ≠ 4) (e0 : S 480 14 = x10) : (True) ∧ (True) ∧ rxIREXK_8 S0 ws S test ∧ rxmREXK_8 S0 ws S test < rxmREXK_1 S0 ws S test turn := by
  obtain ⟨hI, hx⟩ := hinv
  obtain ⟨a_, b_, c_, d_⟩ := rxcREW_1_3 hP hin I0 hI l8 u8 l9 u9 l10 u10 f0 f1 f2 f3 e0
  exact ⟨a_, b_, ⟨c_, (by
    intro c hD
    rcases hx c hD (by omega) with q | q
    · exfalso
      omega
    · have e : turn = 2 := by omega
      rw [← e]
      exact q.2)⟩, d_⟩
theorem rxgREXK_1_3 {X : (Nat → Int → Int) → Prop} {S0 : Nat → Int → Int} {ws : List Int} (hP : rxPREXK S0 ws) : bx_obC rxL X S0 rxCREXK.2.2.1 (rxIREXK S0 ws) (rxmREXK S0 ws) 1 rxzREXK_1 rxoREXK_1_3 := by
  intro S S_p r r_p hinv hX hin hsm_ hseg
  obtain ⟨I0, I1, h0_, hr_, b_, f_, d_⟩ := bx_cl (evs := [(0, (0, 480), (0, 14), .inr (0, (10, 0)))]) (fvs := [(3, (9, 0), (0, 3), (0, 0)), (3, (9, 0), (0, 1), (0, 0)), (3, (9, 0), (0, 0), (0, 0)), (3, (9, 0), (0, 4), (0, 0))]) hseg (by decide +kernel) (by decide +kernel)
  have hinv : rxIREXK_1 S0 ws S (r 8) (r 9) := hinv
  rw [← hr_ 8 (by decide), ← hr_ 9 (by decide)] at hinv
  obtain ⟨⟨l8, u8⟩, ⟨l9, u9⟩, ⟨l10, u10⟩, -⟩ := b_
  obtain ⟨f0, f1, f2, f3, -⟩ := f_
  obtain ⟨e0, w_⟩ := d_
  subst w_
  have g := rxcREXK_1_3 hP hin I0 hinv l8 u8 l9 u9 l10 u10 f0 f1 f2 f3 e0
  refine ⟨bx_narP_ok (l := []) g.1, bx_nfP_ok h0_ (fvs := []) (by decide +kernel) g.2.1, ?_, ?_⟩
  · show rxIREXK_8 S0 ws S_p (bx_val [(0, 0), (0, 0), (0, 0), (0, 0), (0, 0), (0, 0), (0, 0), (0, 0), (8, 0)] r_p 8)
    rw [bx_val_x (n := 8) (e := (8, 0)) h0_ rfl]
    exact g.2.2.1
  · show rxmREXK_8 S0 ws S_p (bx_val [(0, 0), (0, 0), (0, 0), (0, 0), (0, 0), (0, 0), (0, 0), (0, 0), (8, 0)] r_p 8) < rxmREXK_1 S0 ws S_p (r 8) (r 9)
    rw [bx_val_x (n := 8) (e := (8, 0)) h0_ rfl, ← hr_ 8 (by decide), ← hr_ 9 (by decide)]
    exact g.2.2.2
theorem rxcREXK_1_4 {S0 : Nat → Int → Int} {ws : List Int} {S : Nat → Int → Int} {test turn x10 : Int} (hP : rxPREXK S0 ws) (hin : bx_same rxL (bx_mdl rxCREXK.2.2.1) S0 S) (I0 : bx_Inv rxL S) (hinv : rxIREXK_1 S0 ws S test turn) (l8 : 0 ≤ test) (u8 : test ≤ 1) (l9 : 4 ≤ turn) (u9 : turn ≤ 4) (l10 : 0 ≤ x10) (u10 : x10 ≤ 0) (e0 : S 480 14 = x10) : (True) ∧ (True) ∧ rxIREXK_10 S0 ws S ∧ rxmREXK_10 S0 ws S < rxmREXK_1 S0 ws S test turn := by
  obtain ⟨hI, hx⟩ := hinv
  obtain ⟨a_, b_, c_, d_⟩ := rxcREW_1_4 hP hin I0 hI l8 u8 l9 u9 l10 u10 e0
  exact ⟨a_, b_, ⟨c_, (by
    intro tst ht c hD z
    have e : test = tst := Option.some.inj (congrArg (fun l : List Int => l[1]?) (hI.2.1.symm.trans ht))
    subst e
    rcases hx c hD z with q | q
    · exact q.2 z
    · exfalso
      have := q.1
      omega)⟩, d_⟩
theorem rxgREXK_1_4 {X : (Nat → Int → Int) → Prop} {S0 : Nat → Int → Int} {ws : List Int} (hP : rxPREXK S0 ws) : bx_obC rxL X S0 rxCREXK.2.2.1 (rxIREXK S0 ws) (rxmREXK S0 ws) 1 rxzREXK_1 rxoREXK_1_4 := by
  intro S S_p r r_p hinv hX hin hsm_ hseg
  obtain ⟨I0, I1, h0_, hr_, b_, f_, d_⟩ := bx_cl (evs := [(0, (0, 480), (0, 14), .inr (0, (10, 0)))]) (fvs := []) hseg (by decide +kernel) (by decide +kernel)
  have hinv : rxIREXK_1 S0 ws S (r 8) (r 9) := hinv
  rw [← hr_ 8 (by decide), ← hr_ 9 (by decide)] at hinv
  obtain ⟨⟨l8, u8⟩, ⟨l9, u9⟩, ⟨l10, u10⟩, -⟩ := b_
  obtain ⟨e0, w_⟩ := d_
  subst w_
  have g := rxcREXK_1_4 hP hin I0 hinv l8 u8 l9 u9 l10 u10 e0
  refine ⟨bx_narP_ok (l := []) g.1, bx_nfP_ok h0_ (fvs := []) (by decide +kernel) g.2.1, ?_, ?_⟩
  · show rxIREXK_10 S0 ws S_p
    exact g.2.2.1
  · show rxmREXK_10 S0 ws S_p < rxmREXK_1 S0 ws S_p (r 8) (r 9)
    rw [← hr_ 8 (by decide), ← hr_ 9 (by decide)]
    exact g.2.2.2
theorem rxcREXK_1_5 {S0 : Nat → Int → Int} {ws : List Int} {S : Nat → Int → Int} {test turn x10 : Int} (hP : rxPREXK S0 ws) (hin : bx_same rxL (bx_mdl rxCREXK.2.2.1) S0 S) (I0 : bx_Inv rxL S) (hinv : rxIREXK_1 S0 ws S test turn) (l8 : 0 ≤ test) (u8 : test ≤ 1) (l9 : 0 ≤ turn) (u9 : turn ≤ 4) (l10 : 1 ≤ x10) (u10 : x10 ≤ 1) (f0 : x10 ≠ 0) (e0 : S 480 14 = x10) : (True) ∧ (True) ∧ rxIREXK_10 S0 ws S ∧ rxmREXK_10 S0 ws S < rxmREXK_1 S0 ws S test turn := by
  obtain ⟨hI, hx⟩ := hinv
  obtain ⟨a_, b_, c_, d_⟩ := rxcREW_1_5 hP hin I0 hI l8 u8 l9 u9 l10 u10 f0 e0
  exact ⟨a_, b_, ⟨c_, (by
    intro tst ht c hD z
    have e : test = tst := Option.some.inj (congrArg (fun l : List Int => l[1]?) (hI.2.1.symm.trans ht))
    subst e
    rcases hx c hD z with q | q
    · exact q.2 z
    · exfalso
      have := q.1
      omega)⟩, d_⟩
theorem rxgREXK_1_5 {X : (Nat → Int → Int) → Prop} {S0 : Nat → Int → Int} {ws : List Int} (hP : rxPREXK S0 ws) : bx_obC rxL X S0 rxCREXK.2.2.1 (rxIREXK S0 ws) (rxmREXK S0 ws) 1 rxzREXK_1 rxoREXK_1_5 := by
  intro S S_p r r_p hinv hX hin hsm_ hseg
  obtain ⟨I0, I1, h0_, hr_, b_, f_, d_⟩ := bx_cl (evs := [(0, (0, 480), (0, 14), .inr (0, (10, 0)))]) (fvs := [(3, (10, 0), (0, 0), (0, 0))]) hseg (by decide +kernel) (by decide +kernel)
  have hinv : rxIREXK_1 S0 ws S (r 8) (r 9) := hinv
  rw [← hr_ 8 (by decide), ← hr_ 9 (by decide)] at hinv
  obtain ⟨⟨l8, u8⟩, ⟨l9, u9⟩, ⟨l10, u10⟩, -⟩ := b_
  obtain ⟨f0, -⟩ := f_
  obtain ⟨e0, w_⟩ := d_
  subst w_
  have g := rxcREXK_1_5 hP hin I0 hinv l8 u8 l9 u9 l10 u10 f0 e0
  refine ⟨bx_narP_ok (l := []) g.1, bx_nfP_ok h0_ (fvs := []) (by decide +kernel) g.2.1, ?_, ?_⟩
  · show rxIREXK_10 S0 ws S_p
    exact g.2.2.1
  · show rxmREXK_10 S0 ws S_p < rxmREXK_1 S0 ws S_p (r 8) (r 9)
    rw [← hr_ 8 (by decide), ← hr_ 9 (by decide)]
    exact g.2.2.2
theorem rxcREXK_3_0 {S0 : Nat → Int → Int} {ws : List Int} {S : Nat → Int → Int} {test t : Int} (hP : rxPREXK S0 ws) (hin : bx_same rxL (bx_mdl rxCREXK.2.2.1) S0 S) (I0 : bx_Inv rxL S) (hinv : rxIREXK_3 S0 ws S test t) (l8 : 0 ≤ test) (u8 : test ≤ 1) (l9 : 0 ≤ t) (u9 : t ≤ 3) : (True) ∧ (True) ∧ rxIREXK_1 S0 ws S test t ∧ rxmREXK_1 S0 ws S test t < rxmREXK_3 S0 ws S test t := by
  obtain ⟨hI, hx⟩ := hinv
  obtain ⟨a_, b_, c_, d_⟩ := rxcREW_3_0 hP hin I0 hI l8 u8 l9 u9
  exact ⟨a_, b_, ⟨c_, hx⟩, d_⟩
theorem rxgREXK_3_0 {X : (Nat → Int → Int) → Prop} {S0 : Nat → Int → Int} {ws : List Int} (hP : rxPREXK S0 ws) : bx_obC rxL X S0 rxCREXK.2.2.1 (rxIREXK S0 ws) (rxmREXK S0 ws) 3 rxzREXK_3 rxoREXK_3_0 := by
  intro S S_p r r_p hinv hX hin hsm_ hseg
  obtain ⟨I0, I1, h0_, hr_, b_, f_, d_⟩ := bx_cl (evs := []) (fvs := []) hseg (by decide +kernel) (by decide +kernel)
  have hinv : rxIREXK_3 S0 ws S (r 8) (r 9) := hinv
  rw [← hr_ 8 (by decide), ← hr_ 9 (by decide)] at hinv
  obtain ⟨⟨l8, u8⟩, ⟨l9, u9⟩, -⟩ := b_
  have w_ := d_
  subst w_
  have g := rxcREXK_3_0 hP hin I0 hinv l8 u8 l9 u9
  refine ⟨bx_narP_ok (l := []) g.1, bx_nfP_ok h0_ (fvs := []) (by decide +kernel) g.2.1, ?_, ?_⟩
  · show rxIREXK_1 S0 ws S_p (bx_val [(0, 0), (0, 0), (0, 0), (0, 0), (0, 0), (0, 0), (0, 0), (0, 0), (8, 0), (9, 0)] r_p 8) (bx_val [(0, 0), (0, 0), (0, 0), (0, 0), (0, 0), (0, 0), (0, 0), (0, 0), (8, 0), (9, 0)] r_p 9)
    rw [bx_val_x (n := 8) (e := (8, 0)) h0_ rfl, bx_val_x (n := 9) (e := (9, 0)) h0_ rfl]
    exact g.2.2.1
  · show rxmREXK_1 S0 ws S_p (bx_val [(0, 0), (0, 0), (0, 0), (0, 0), (0, 0), (0, 0), (0, 0), (0, 0), (8, 0), (9, 0)] r_p 8) (bx_val [(0, 0), (0, 0), (0, 0), (0, 0), (0, 0), (0, 0), (0, 0), (0, 0), (8, 0), (9, 0)] r_p 9) < rxmREXK_3 S0 ws S_p (r 8) (r 9)
    rw [bx_val_x (n := 8) (e := (8, 0)) h0_ rfl, bx_val_x (n := 9) (e := (9, 0)) h0_ rfl, ← hr_ 8 (by decide), ← hr_ 9 (by decide)]
    exact g.2.2.2
theorem rxcREXK_5_0 {S0 : Nat → Int → Int} {ws : List Int} {S : Nat → Int → Int} {test t : Int} (hP : rxPREXK S0 ws) (hin : bx_same rxL (bx_mdl rxCREXK.2.2.1) S0 S) (I0 : bx_Inv rxL S) (hinv : rxIREXK_5 S0 ws S test t) (l8 : 0 ≤ test) (u8 : test ≤ 1) (l9 : 0 ≤ t) (u9 : t ≤ 3) : (True) ∧ (True) ∧ rxIREXK_1 S0 ws S test t ∧ rxmREXK_1 S0 ws S test t < rxmREXK_5 S0 ws S test t := by
  obtain ⟨hI, hx⟩ := hinv
  obtain ⟨a_, b_, c_, d_⟩ := rxcREW_5_0 hP hin I0 hI l8 u8 l9 u9
  exact ⟨a_, b_, ⟨c_, hx⟩, d_⟩
theorem rxgREXK_5_0 {X : (Nat → Int → Int) → Prop} {S0 : Nat → Int → Int} {ws : List Int} (hP : rxPREXK S0 ws) : bx_obC rxL X S0 rxCREXK.2.2.1 (rxIREXK S0 ws) (rxmREXK S0 ws) 5 rxzREXK_5 rxoREXK_5_0 := by
  intro S S_p r r_p hinv hX hin hsm_ hseg
  obtain ⟨I0, I1, h0_, hr_, b_, f_, d_⟩ := bx_cl (evs := []) (fvs := []) hseg (by decide +kernel) (by decide +kernel)
  have hinv : rxIREXK_5 S0 ws S (r 8) (r 9) := hinv
  rw [← hr_ 8 (by decide), ← hr_ 9 (by decide)] at hinv
  obtain ⟨⟨l8, u8⟩, ⟨l9, u9⟩, -⟩ := b_
  have w_ := d_
  subst w_
  have g := rxcREXK_5_0 hP hin I0 hinv l8 u8 l9 u9
  refine ⟨bx_narP_ok (l := []) g.1, bx_nfP_ok h0_ (fvs := []) (by decide +kernel) g.2.1, ?_, ?_⟩
  · show rxIREXK_1 S0 ws S_p (bx_val [(0, 0), (0, 0), (0, 0), (0, 0), (0, 0), (0, 0), (0, 0), (0, 0), (8, 0), (9, 0)] r_p 8) (bx_val [(0, 0), (0, 0), (0, 0), (0, 0), (0, 0), (0, 0), (0, 0), (0, 0), (8, 0), (9, 0)] r_p 9)
    rw [bx_val_x (n := 8) (e := (8, 0)) h0_ rfl, bx_val_x (n := 9) (e := (9, 0)) h0_ rfl]
    exact g.2.2.1
  · show rxmREXK_1 S0 ws S_p (bx_val [(0, 0), (0, 0), (0, 0), (0, 0), (0, 0), (0, 0), (0, 0), (0, 0), (8, 0), (9, 0)] r_p 8) (bx_val [(0, 0), (0, 0), (0, 0), (0, 0), (0, 0), (0, 0), (0, 0), (0, 0), (8, 0), (9, 0)] r_p 9) < rxmREXK_5 S0 ws S_p (r 8) (r 9)
    rw [bx_val_x (n := 8) (e := (8, 0)) h0_ rfl, bx_val_x (n := 9) (e := (9, 0)) h0_ rfl, ← hr_ 8 (by decide), ← hr_ 9 (by decide)]
    exact g.2.2.2
theorem rxcREXK_7_0 {S0 : Nat → Int → Int} {ws : List Int} {S : Nat → Int → Int} {test tb t : Int} (hP : rxPREXK S0 ws) (hin : bx_same rxL (bx_mdl rxCREXK.2.2.1) S0 S) (I0 : bx_Inv rxL S) (hinv : rxIREXK_7 S0 ws S test tb t) (l8 : 0 ≤ test) (u8 : test ≤ 1) (l9 : 0 ≤ tb) (u9 : tb ≤ 1) (l10 : 0 ≤ t) (u10 : t ≤ 4) : (True) ∧ (True) ∧ rxIREXK_1 S0 ws S test t ∧ rxmREXK_1 S0 ws S test t < rxmREXK_7 S0 ws S test tb t := by
  obtain ⟨hI, hx⟩ := hinv
  obtain ⟨a_, b_, c_, d_⟩ := rxcREW_7_0 hP hin I0 hI l8 u8 l9 u9 l10 u10
  exact ⟨a_, b_, ⟨c_, hx⟩, d_⟩
theorem rxgREXK_7_0 {X : (Nat → Int → Int) → Prop} {S0 : Nat → Int → Int} {ws : List Int} (hP : rxPREXK S0 ws) : bx_obC rxL X S0 rxCREXK.2.2.1 (rxIREXK S0 ws) (rxmREXK S0 ws) 7 rxzREXK_7 rxoREXK_7_0 := by
  intro S S_p r r_p hinv hX hin hsm_ hseg
  obtain ⟨I0, I1, h0_, hr_, b_, f_, d_⟩ := bx_cl (evs := []) (fvs := []) hseg (by decide +kernel) (by decide +kernel)
  have hinv : rxIREXK_7 S0 ws S (r 8) (r 9) (r 10) := hinv
  rw [← hr_ 8 (by decide), ← hr_ 9 (by decide), ← hr_ 10 (by decide)] at hinv
  obtain ⟨⟨l8, u8⟩, ⟨l9, u9⟩, ⟨l10, u10⟩, -⟩ := b_
  have w_ := d_
  subst w_
  have g := rxcREXK_7_0 hP hin I0 hinv l8 u8 l9 u9 l10 u10
  refine ⟨bx_narP_ok (l := []) g.1, bx_nfP_ok h0_ (fvs := []) (by decide +kernel) g.2.1, ?_, ?_⟩
  · show rxIREXK_1 S0 ws S_p (bx_val [(0, 0), (0, 0), (0, 0), (0, 0), (0, 0), (0, 0), (0, 0), (0, 0), (8, 0), (10, 0)] r_p 8) (bx_val [(0, 0), (0, 0), (0, 0), (0, 0), (0, 0), (0, 0), (0, 0), (0, 0), (8, 0), (10, 0)] r_p 9)
    rw [bx_val_x (n := 8) (e := (8, 0)) h0_ rfl, bx_val_x (n := 9) (e := (10, 0)) h0_ rfl]
    exact g.2.2.1
  · show rxmREXK_1 S0 ws S_p (bx_val [(0, 0), (0, 0), (0, 0), (0, 0), (0, 0), (0, 0), (0, 0), (0, 0), (8, 0), (10, 0)] r_p 8) (bx_val [(0, 0), (0, 0), (0, 0), (0, 0), (0, 0), (0, 0), (0, 0), (0, 0), (8, 0), (10, 0)] r_p 9) < rxmREXK_7 S0 ws S_p (r 8) (r 9) (r 10)
    rw [bx_val_x (n := 8) (e := (8, 0)) h0_ rfl, bx_val_x (n := 9) (e := (10, 0)) h0_ rfl, ← hr_ 8 (by decide), ← hr_ 9 (by decide), ← hr_ 10 (by decide)]
    exact g.2.2.2
theorem rxcREXK_9_0 {S0 : Nat → Int → Int} {ws : List Int} {S : Nat → Int → Int} {test t : Int} (hP : rxPREXK S0 ws) (hin : bx_same rxL (bx_mdl rxCREXK.2.2.1) S0 S) (I0 : bx_Inv rxL S) (hinv : rxIREXK_9 S0 ws S test t) (l8 : 0 ≤ test) (u8 : test ≤ 1) (l9 : 0 ≤ t) (u9 : t ≤ 4) : (True) ∧ (True) ∧ rxIREXK_1 S0 ws S test t ∧ rxmREXK_1 S0 ws S test t < rxmREXK_9 S0 ws S test t := by
  obtain ⟨hI, hx⟩ := hinv
  obtain ⟨a_, b_, c_, d_⟩ := rxcREW_9_0 hP hin I0 hI l8 u8 l9 u9
  exact ⟨a_, b_, ⟨c_, hx⟩, d_⟩
theorem rxgREXK_9_0 {X : (Nat → Int → Int) → Prop} {S0 : Nat → Int → Int} {ws : List Int} (hP : rxPREXK S0 ws) : bx_obC rxL X S0 rxCREXK.2.2.1 (rxIREXK S0 ws) (rxmREXK S0 ws) 9 rxzREXK_9 rxoREXK_9_0 := by
  intro S S_p r r_p hinv hX hin hsm_ hseg
  obtain ⟨I0, I1, h0_, hr_, b_, f_, d_⟩ := bx_cl (evs := []) (fvs := []) hseg (by decide +kernel) (by decide +kernel)
  have hinv : rxIREXK_9 S0 ws S (r 8) (r 9) := hinv
  rw [← hr_ 8 (by decide), ← hr_ 9 (by decide)] at hinv
  obtain ⟨⟨l8, u8⟩, ⟨l9, u9⟩, -⟩ := b_
  have w_ := d_
  subst w_
  have g := rxcREXK_9_0 hP hin I0 hinv l8 u8 l9 u9
  refine ⟨bx_narP_ok (l := []) g.1, bx_nfP_ok h0_ (fvs := []) (by decide +kernel) g.2.1, ?_, ?_⟩
  · show rxIREXK_1 S0 ws S_p (bx_val [(0, 0), (0, 0), (0, 0), (0, 0), (0, 0), (0, 0), (0, 0), (0, 0), (8, 0), (9, 0)] r_p 8) (bx_val [(0, 0), (0, 0), (0, 0), (0, 0), (0, 0), (0, 0), (0, 0), (0, 0), (8, 0), (9, 0)] r_p 9)
    rw [bx_val_x (n := 8) (e := (8, 0)) h0_ rfl, bx_val_x (n := 9) (e := (9, 0)) h0_ rfl]
    exact g.2.2.1
  · show rxmREXK_1 S0 ws S_p (bx_val [(0, 0), (0, 0), (0, 0), (0, 0), (0, 0), (0, 0), (0, 0), (0, 0), (8, 0), (9, 0)] r_p 8) (bx_val [(0, 0), (0, 0), (0, 0), (0, 0), (0, 0), (0, 0), (0, 0), (0, 0), (8, 0), (9, 0)] r_p 9) < rxmREXK_9 S0 ws S_p (r 8) (r 9)
    rw [bx_val_x (n := 8) (e := (8, 0)) h0_ rfl, bx_val_x (n := 9) (e := (9, 0)) h0_ rfl, ← hr_ 8 (by decide), ← hr_ 9 (by decide)]
    exact g.2.2.2
theorem rxdREXK_11_0 {S0 : Nat → Int → Int} {ws : List Int} {S : Nat → Int → Int} (hP : rxPREXK S0 ws) (hin : bx_same rxL (bx_mdl rxCREXK.2.2.1) S0 S) (hin2 : bx_same rxL (bx_mdl rxCREXK.2.2.1) S S) (I0 : bx_Inv rxL S) (I1 : bx_Inv rxL S) (hinv : rxIREXK_11 S0 ws S)  : (True) ∧ rxPSREXK S0 ws S none := by
  obtain ⟨hI, hx⟩ := hinv
  obtain ⟨a_, c_⟩ := rxdREW_11_0 hP hin hin2 I0 I1 hI
  exact ⟨a_, rfl, c_, hx⟩
theorem rxfREXK_11_0 {X : (Nat → Int → Int) → Prop} {S0 : Nat → Int → Int} {ws : List Int} (hP : rxPREXK S0 ws) : bx_obE rxL X S0 rxCREXK.2.2.1 (rxIREXK S0 ws) (rxPSREXK S0 ws) 11 rxzREXK_11 rxeREXK_11_0 := by
  intro S S_p r r_p hinv hX hin hsm_ hseg
  obtain ⟨I0, I1, h0_, hr_, b_, f_, d_⟩ := bx_cl (evs := []) (fvs := []) hseg (by decide +kernel) (by decide +kernel)
  have hinv : rxIREXK_11 S0 ws S := hinv
  have w_ := d_
  subst w_
  have g := rxdREXK_11_0 hP hin hsm_ I0 I1 hinv 
  refine ⟨bx_narP_ok (l := []) g.1, ?_⟩
  exact g.2
theorem rxgCREXK {X : (Nat → Int → Int) → Prop} {S0 : Nat → Int → Int} {ws : List Int} (hP : rxPREXK S0 ws) : bx_allI (fun i q => rxUREXK q = true ∨ bx_allP (fun o => bx_obC rxL X S0 rxCREXK.2.2.1 (rxIREXK S0 ws) (rxmREXK S0 ws) i q.1 o) q.2.1) 0 rxYREXK := ⟨Or.inr ⟨rxgREXK_0_0 hP, rxgREXK_0_1 hP, trivial⟩, Or.inr ⟨rxgREXK_1_0 hP, rxgREXK_1_1 hP, rxgREXK_1_2 hP, rxgREXK_1_3 hP, rxgREXK_1_4 hP, rxgREXK_1_5 hP, trivial⟩, Or.inl rfl, Or.inr ⟨rxgREXK_3_0 hP, trivial⟩, Or.inl rfl, Or.inr ⟨rxgREXK_5_0 hP, trivial⟩, Or.inl rfl, Or.inr ⟨rxgREXK_7_0 hP, trivial⟩, Or.inl rfl, Or.inr ⟨rxgREXK_9_0 hP, trivial⟩, Or.inl rfl, Or.inr trivial, trivial⟩
theorem rxgEREXK {X : (Nat → Int → Int) → Prop} {S0 : Nat → Int → Int} {ws : List Int} (hP : rxPREXK S0 ws) : bx_allI (fun i q => rxUREXK q = true ∨ bx_allP (fun E => bx_obE rxL X S0 rxCREXK.2.2.1 (rxIREXK S0 ws) (rxPSREXK S0 ws) i q.1 E) q.2.2) 0 rxYREXK := ⟨Or.inr trivial, Or.inr trivial, Or.inl rfl, Or.inr trivial, Or.inl rfl, Or.inr trivial, Or.inl rfl, Or.inr trivial, Or.inl rfl, Or.inr trivial, Or.inl rfl, Or.inr ⟨rxfREXK_11_0 hP, trivial⟩, trivial⟩
theorem rxuREXK {PX : State → Prop} {Dg : va_G} {A : Nat → Prop} {ad xa : Nat → Nat} {l : Launch} {X : (Nat → Int → Int) → Prop} (hPX : rx_PXOK rxNW A PX) (hX : ∀ S S1 : Nat → Int → Int, X S → bx_same rxL (bx_mdl rxCREXK.2.2.1) S S1 → X S1) (hQRNK : bx_ConP rxG rxNW rxAO PX Dg rxL X vwCl A ad l rxM278 rxCRNK rxPRNK rxPSRNK) (hQRPK : bx_ConP rxG rxNW rxAO PX Dg rxL X vwCl A ad l rxM274 rxCRPK rxPRPK rxPSRPK) (hQBSK : bx_ConP rxG rxNW rxAO PX Dg rxL X vwCl A ad l rxM279 rxCBSK rxPBSK rxPSBSK) (hQBTK : bx_ConP rxG rxNW rxAO PX Dg rxL X vwCl A ad l rxM280 rxCBTK rxPBTK rxPSBTK) (hQSTK : bx_ConP rxG rxNW rxAO PX Dg rxL X vwCl A ad l rxM275 rxCSTK rxPSTK rxPSSTK) {S0 : Nat → Int → Int} {ws : List Int} (hP : rxPREXK S0 ws) : ∀ (i : Nat) (q : bx_HE), rxYREXK[i]? = some q → rxUREXK q = true → ∀ {p : Program} {e : Env} {R : Room} {s : State} {m : MethodId} {args : Array Value} {below : List Frame} {meth : Method} {c : Code} {Q : State → Prop} {H0 : Heap}, rx_Fr rxG rxNW rxAO PX p s m args meth c rxM282 → (∀ q, H0.size ≤ q → A q) → H0 = s.heap → rxM282.2.2.2.2.2.2.1 ≤ R.cells → rxM282.2.2.2.2.2.2.2 ≤ R.slots → rxCREXK.2.2.2.1 ≤ R.frames → rxCREXK.2.2.2.1 * 40 ≤ R.locals → bx_Step p l e R s m args below meth c Q Dg rxL X vwCl A xa H0 ad rxM282 rxYREXK (rxIREXK S0 ws) (rxmREXK S0 ws) S0 rxCREXK.2.2.1 i q := by
  intro i q hq hus p e R s m args below meth c Q H0 hF hA hH0 hmc hms hd hdl
  match i, hq with
  | 0, hq =>
    cases hq
    exact absurd (show false = true from hus) Bool.false_ne_true
  | 1, hq =>
    cases hq
    exact absurd (show false = true from hus) Bool.false_ne_true
  | 2, hq =>
    cases hq
    exact rx_stepC (ins := .invokevirtual 361) (len := 3) (i_p := 3) (M_p := rxM278) (d := rxCREXK.2.2.2.1) (as := [.inr (3, (0, 480))]) (t := []) (ct := rxCRNK) hPX hF rfl hA hH0 hmc hms hd hdl (by decide +kernel) rfl rfl (by decide +kernel) (by decide +kernel) hQRNK (by decide +kernel) rfl (Or.inr ⟨_, _, _, 1, rfl, rfl, by omega, rfl, rfl, rfl⟩) (rxsREXK_2 hP)
  | 3, hq =>
    cases hq
    exact absurd (show false = true from hus) Bool.false_ne_true
  | 4, hq =>
    cases hq
    exact rx_stepC (ins := .invokevirtual 344) (len := 3) (i_p := 5) (M_p := rxM274) (d := rxCREXK.2.2.2.1) (as := [.inr (3, (0, 480))]) (t := []) (ct := rxCRPK) hPX hF rfl hA hH0 hmc hms hd hdl (by decide +kernel) rfl rfl (by decide +kernel) (by decide +kernel) hQRPK (by decide +kernel) rfl (Or.inr ⟨_, _, _, 1, rfl, rfl, by omega, rfl, rfl, rfl⟩) (rxsREXK_4 hP)
  | 5, hq =>
    cases hq
    exact absurd (show false = true from hus) Bool.false_ne_true
  | 6, hq =>
    cases hq
    exact rx_stepC (ins := .invokevirtual 364) (len := 3) (i_p := 7) (M_p := rxM279) (d := rxCREXK.2.2.2.1) (as := [.inr (3, (0, 480)), .inr (0, (9, 0))]) (t := []) (ct := rxCBSK) hPX hF rfl hA hH0 hmc hms hd hdl (by decide +kernel) rfl rfl (by decide +kernel) (by decide +kernel) hQBSK (by decide +kernel) rfl (Or.inr ⟨_, _, _, 1, rfl, rfl, by omega, rfl, rfl, rfl⟩) (rxsREXK_6 hP)
  | 7, hq =>
    cases hq
    exact absurd (show false = true from hus) Bool.false_ne_true
  | 8, hq =>
    cases hq
    exact rx_stepC (ins := .invokevirtual 368) (len := 3) (i_p := 9) (M_p := rxM280) (d := rxCREXK.2.2.2.1) (as := [.inr (3, (0, 480))]) (t := []) (ct := rxCBTK) hPX hF rfl hA hH0 hmc hms hd hdl (by decide +kernel) rfl rfl (by decide +kernel) (by decide +kernel) hQBTK (by decide +kernel) rfl (Or.inr ⟨_, _, _, 1, rfl, rfl, by omega, rfl, rfl, rfl⟩) (rxsREXK_8 hP)
  | 9, hq =>
    cases hq
    exact absurd (show false = true from hus) Bool.false_ne_true
  | 10, hq =>
    cases hq
    exact rx_stepC (ins := .invokevirtual 347) (len := 3) (i_p := 11) (M_p := rxM275) (d := rxCREXK.2.2.2.1) (as := [.inr (3, (0, 480)), .inr (0, (0, 1))]) (t := []) (ct := rxCSTK) hPX hF rfl hA hH0 hmc hms hd hdl (by decide +kernel) rfl rfl (by decide +kernel) (by decide +kernel) hQSTK (by decide +kernel) rfl (Or.inl ⟨rfl, rfl, rfl⟩) (rxsREXK_10 hP)
  | 11, hq =>
    cases hq
    exact absurd (show false = true from hus) Bool.false_ne_true
  | n + 12, hq => cases hq
theorem rxQREXK {PX : State → Prop} {Dg : va_G} {A : Nat → Prop} {ad xa : Nat → Nat} {l : Launch} {X : (Nat → Int → Int) → Prop} (hPX : rx_PXOK rxNW A PX) (hsl : ∀ s : State, PX s → ∀ o idx n : Nat, rxSl o idx = some n → ∃ tx : String, vk_R (rxNm o) idx tx (ad n) s)
    (hX : ∀ S S_p : Nat → Int → Int, X S → bx_same rxL (bx_mdl rxCREXK.2.2.1) S S_p → X S_p)
    (ih : ∀ (j2 : Nat) (ct2 : bx_Ct) (M2 : rx_Mt), ct2 ∈ rxCnE j2 → ct2.2.2.2.1 + 1 ≤ rxCREXK.2.2.2.1 → rxT.2.2.2.2.2 j2 = some M2 → bx_Con rxG rxNW rxAO PX Dg rxL X vwCl A ad l M2 ct2) (hQRNK : bx_ConP rxG rxNW rxAO PX Dg rxL X vwCl A ad l rxM278 rxCRNK rxPRNK rxPSRNK) (hQRPK : bx_ConP rxG rxNW rxAO PX Dg rxL X vwCl A ad l rxM274 rxCRPK rxPRPK rxPSRPK) (hQBSK : bx_ConP rxG rxNW rxAO PX Dg rxL X vwCl A ad l rxM279 rxCBSK rxPBSK rxPSBSK) (hQBTK : bx_ConP rxG rxNW rxAO PX Dg rxL X vwCl A ad l rxM280 rxCBTK rxPBTK rxPSBTK) (hQSTK : bx_ConP rxG rxNW rxAO PX Dg rxL X vwCl A ad l rxM275 rxCSTK rxPSTK rxPSSTK) : bx_ConP rxG rxNW rxAO PX Dg rxL X vwCl A ad l rxM282 rxCREXK rxPREXK rxPSREXK :=
  rxQof (xa := xa) (Cn := rxCnE) (f := 30000) (j := 282) (tab := rxYREXK) (us := rxUREXK) hPX hsl hX ih rfl rxYcREXK rxIREXK rxmREXK
    (fun S0 ws r I0 I ht0 ht as he he1 hX0 hI0 hP hs ha => by
      have e := he.symm.trans (show bx_ent0 rxNP rxCREXK.1 bx_I0 [] = some ([(0, 0), (0, 0), (0, 0), (0, 0), (0, 0), (0, 0), (0, 0), (0, 0), (0, 1)], [], [.inr (3, (0, 480)), .inr (0, (8, 0))]) from rfl)
      cases e
      subst ha
      have h0 : r 0 = 0 := hs.1
      show rxIREXK_0 S0 _ S0 (r 8)
      refine ⟨⟨⟨rfl, ?_⟩, trivial⟩, trivial⟩
      simp only [List.map_cons, List.map_nil, bx_xv_ok h0]
      rfl)
    (fun S0 ws hP => rxuREXK (xa := xa) hPX hX hQRNK hQRPK hQBSK hQBTK hQSTK hP) (fun S0 ws hP => rxgCREXK hP) (fun S0 ws hP => rxgEREXK hP)
