noncomputable def rxCBT : bx_Ct := ([(3, (1, 480, 0))], some (0, (0, 0, 4)), [(12, 9), (12, 10), (12, 11), (12, 12), (12, 13), (12, 14), (12, 18), (12, 21), (12, 24), (12, 25), (1068, 0), (1069, 0), (1070, 0), (1071, 0)], 5, [])
noncomputable def rxIBT_0 (S0 : Nat → Int → Int) (ws : List Int) (S : Nat → Int → Int) : Prop := S = S0 ∧ ws = [480]
noncomputable def rxmBT_0 (S0 : Nat → Int → Int) (ws : List Int) (S : Nat → Int → Int) : Nat := 1000
noncomputable def rxzBT_0 : rx_Z := ([(0, 0), (0, 0), (0, 0), (0, 0), (0, 0), (0, 0), (0, 0), (0, 0)], [], [], 0, 0, 0, [(0, .inr (3, (0, 480)))], [])
noncomputable def rxIBT_1 (S0 : Nat → Int → Int) (ws : List Int) (S : Nat → Int → Int) (an bd : Int) : Prop := S = S0 ∧ S 480 9 + 2 ≤ S 480 10
noncomputable def rxmBT_1 (S0 : Nat → Int → Int) (ws : List Int) (S : Nat → Int → Int) (an bd : Int) : Nat := 900
noncomputable def rxzBT_1 : rx_Z := ([(0, 0), (0, 0), (0, 0), (0, 0), (0, 0), (0, 0), (0, 0), (0, 0), (0, 1), (1, 2)], [], [], 0, 0, 32, [(0, .inr (3, (0, 480))), (1, .inr (0, (8, 0)))], [.inr (0, (9, 0)), .inr (3, (0, 480))])
noncomputable def rxIBT_2 (S0 : Nat → Int → Int) (ws : List Int) (S : Nat → Int → Int) (an bd : Int) : Prop := ∃ l : Int, rxSt S0 S l ∧ rxTm S0 S ∧ S 480 9 + 2 ≤ S 480 10
noncomputable def rxmBT_2 (S0 : Nat → Int → Int) (ws : List Int) (S : Nat → Int → Int) (an bd : Int) : Nat := 890
noncomputable def rxzBT_2 : rx_Z := ([(0, 0), (0, 0), (0, 0), (0, 0), (0, 0), (0, 0), (0, 0), (0, 0), (0, 1), (1, 2)], [], [], 0, 0, 35, [(0, .inr (3, (0, 480))), (1, .inr (0, (8, 0)))], [])
noncomputable def rxIBT_3 (S0 : Nat → Int → Int) (ws : List Int) (S : Nat → Int → Int) (an op n : Int) : Prop := n = S 480 18 ∧ (an = 0 → op = 30) ∧ (an ≠ 0 → op = 29) ∧ ∃ l : Int, rxSt S0 S l ∧ rxTm S0 S ∧ S 480 9 + 2 ≤ S 480 10
noncomputable def rxmBT_3 (S0 : Nat → Int → Int) (ws : List Int) (S : Nat → Int → Int) (an op n : Int) : Nat := 880
noncomputable def rxzBT_3 : rx_Z := ([(0, 0), (0, 0), (0, 0), (0, 0), (0, 0), (0, 0), (0, 0), (0, 0), (0, 1), (29, 30), (0, 400)], [], [], 0, 0, 51, [(0, .inr (3, (0, 480))), (1, .inr (0, (8, 0)))], [.inr (0, (10, 0)), .inr (0, (9, 0)), .inr (3, (0, 480))])
noncomputable def rxIBT_4 (S0 : Nat → Int → Int) (ws : List Int) (S : Nat → Int → Int) (an op n : Int) : Prop := (an = 0 → op = 30) ∧ (an ≠ 0 → op = 29) ∧ ∃ S1 : Nat → Int → Int, (∃ l : Int, rxSt S0 S1 l) ∧ rxTm S0 S1 ∧ S1 480 9 + 2 ≤ S1 480 10 ∧ S = rxPuE S1 op (S1 480 18)
noncomputable def rxmBT_4 (S0 : Nat → Int → Int) (ws : List Int) (S : Nat → Int → Int) (an op n : Int) : Nat := 870
noncomputable def rxzBT_4 : rx_Z := ([(0, 0), (0, 0), (0, 0), (0, 0), (0, 0), (0, 0), (0, 0), (0, 0), (0, 1), (29, 30), (0, 400)], [], [], 0, 0, 54, [(0, .inr (3, (0, 480))), (1, .inr (0, (8, 0)))], [])
noncomputable def rxIBT_5 (S0 : Nat → Int → Int) (ws : List Int) (S : Nat → Int → Int) (an op : Int) : Prop := (an = 0 → op = 30) ∧ (an ≠ 0 → op = 29) ∧ ∃ S1 : Nat → Int → Int, (∃ l : Int, rxSt S0 S1 l) ∧ rxTm S0 S1 ∧ S1 480 9 + 2 ≤ S1 480 10 ∧ S = rxPuE S1 op (S1 480 18)
noncomputable def rxmBT_5 (S0 : Nat → Int → Int) (ws : List Int) (S : Nat → Int → Int) (an op : Int) : Nat := 860
noncomputable def rxzBT_5 : rx_Z := ([(0, 0), (0, 0), (0, 0), (0, 0), (0, 0), (0, 0), (0, 0), (0, 0), (0, 1), (29, 30)], [], [], 0, 0, 67, [(0, .inr (3, (0, 480))), (1, .inr (0, (8, 0)))], [.inr (0, (0, 0)), .inr (0, (9, 0)), .inr (3, (0, 480))])
noncomputable def rxIBT_6 (S0 : Nat → Int → Int) (ws : List Int) (S : Nat → Int → Int) (an op : Int) : Prop := ∃ S1 : Nat → Int → Int, (∃ l : Int, rxSt S0 S1 l) ∧ rxTm S0 S1 ∧ S1 480 9 + 2 ≤ S1 480 10 ∧ S = rxEmE (rxPuE S1 op (S1 480 18)) op 0
noncomputable def rxmBT_6 (S0 : Nat → Int → Int) (ws : List Int) (S : Nat → Int → Int) (an op : Int) : Nat := 850
noncomputable def rxzBT_6 : rx_Z := ([(0, 0), (0, 0), (0, 0), (0, 0), (0, 0), (0, 0), (0, 0), (0, 0), (0, 1), (29, 30)], [], [], 0, 0, 70, [(0, .inr (3, (0, 480))), (1, .inr (0, (8, 0)))], [])
noncomputable def rxIBT_7 (S0 : Nat → Int → Int) (ws : List Int) (S : Nat → Int → Int) (an : Int) : Prop := ∃ op : Int, 29 ≤ op ∧ op ≤ 30 ∧ ∃ S1 : Nat → Int → Int, (∃ l : Int, rxSt S0 S1 l) ∧ rxTm S0 S1 ∧ S1 480 9 + 2 ≤ S1 480 10 ∧ S = rxEmE (rxPuE S1 op (S1 480 18)) op 0
noncomputable def rxmBT_7 (S0 : Nat → Int → Int) (ws : List Int) (S : Nat → Int → Int) (an : Int) : Nat := 840
noncomputable def rxzBT_7 : rx_Z := ([(0, 0), (0, 0), (0, 0), (0, 0), (0, 0), (0, 0), (0, 0), (0, 0), (0, 1)], [], [], 0, 0, 71, [(0, .inr (3, (0, 480))), (1, .inr (0, (8, 0)))], [.inr (3, (0, 480))])
noncomputable def rxIBT_8 (S0 : Nat → Int → Int) (ws : List Int) (S : Nat → Int → Int) (an : Int) : Prop := rxPt S ∧ S0 480 9 < S 480 9 ∧ rxEf S0 S 1 0 ∧ rxNoSq S
noncomputable def rxmBT_8 (S0 : Nat → Int → Int) (ws : List Int) (S : Nat → Int → Int) (an : Int) : Nat := 830
noncomputable def rxzBT_8 : rx_Z := ([(0, 0), (0, 0), (0, 0), (0, 0), (0, 0), (0, 0), (0, 0), (0, 0), (0, 1)], [], [], 0, 0, 74, [(0, .inr (3, (0, 480))), (1, .inr (0, (8, 0)))], [])
noncomputable def rxIBT_9 (S0 : Nat → Int → Int) (ws : List Int) (S : Nat → Int → Int) : Prop := S = S0
noncomputable def rxmBT_9 (S0 : Nat → Int → Int) (ws : List Int) (S : Nat → Int → Int) : Nat := 700
noncomputable def rxzBT_9 : rx_Z := ([(0, 0), (0, 0), (0, 0), (0, 0), (0, 0), (0, 0), (0, 0), (0, 0)], [], [], 0, 0, 77, [(0, .inr (3, (0, 480)))], [.inr (3, (0, 480))])
noncomputable def rxIBT_10 (S0 : Nat → Int → Int) (ws : List Int) (S : Nat → Int → Int) (its : Int) : Prop := S = S0 ∧ ((its = -1 ∧ ∀ j : Int, 0 ≤ j → j < S 480 24 → S 489 j < 31) ∨ (31 ≤ its ∧ ∃ b : Int, 0 ≤ b ∧ b < S 480 24 ∧ S 489 b = its ∧ ∀ j : Int, b < j → j < S 480 24 → S 489 j < 31))
noncomputable def rxmBT_10 (S0 : Nat → Int → Int) (ws : List Int) (S : Nat → Int → Int) (its : Int) : Nat := 690
noncomputable def rxzBT_10 : rx_Z := ([(0, 0), (0, 0), (0, 0), (0, 0), (0, 0), (0, 0), (0, 0), (0, 0), ((-1), 32)], [], [], 0, 0, 80, [(0, .inr (3, (0, 480)))], [.inr (0, (8, 0))])
noncomputable def rxIBT_11 (S0 : Nat → Int → Int) (ws : List Int) (S : Nat → Int → Int) : Prop := S = S0 ∧ (∃ b : Int, 0 ≤ b ∧ b < S 480 24 ∧ 31 ≤ S 489 b)
noncomputable def rxmBT_11 (S0 : Nat → Int → Int) (ws : List Int) (S : Nat → Int → Int) : Nat := 680
noncomputable def rxzBT_11 : rx_Z := ([(0, 0), (0, 0), (0, 0), (0, 0), (0, 0), (0, 0), (0, 0), (0, 0)], [], [], 0, 0, 90, [(0, .inr (3, (0, 480)))], [.inr (0, (0, 41)), .inr (3, (0, 480)), .inr (3, (0, 480))])
noncomputable def rxIBT_12 (S0 : Nat → Int → Int) (ws : List Int) (S : Nat → Int → Int) (is : Int) : Prop := S = S0 ∧ (∃ b : Int, 0 ≤ b ∧ b < S 480 24 ∧ 31 ≤ S 489 b) ∧ (is = 1 → S 480 11 ≠ 0)
noncomputable def rxmBT_12 (S0 : Nat → Int → Int) (ws : List Int) (S : Nat → Int → Int) (is : Int) : Nat := 670
noncomputable def rxzBT_12 : rx_Z := ([(0, 0), (0, 0), (0, 0), (0, 0), (0, 0), (0, 0), (0, 0), (0, 0), (0, 1)], [], [], 0, 0, 93, [(0, .inr (3, (0, 480)))], [.inr (0, (8, 0)), .inr (3, (0, 480))])
noncomputable def rxIBT_13 (S0 : Nat → Int → Int) (ws : List Int) (S : Nat → Int → Int) (is : Int) : Prop := rxTk S ∧ rxSm S0 S ∧ (S 480 14 = 0 → S0 480 9 < S 480 9) ∧ (S 480 14 ≠ 0 → S 480 9 = S0 480 9) ∧ (∃ b : Int, 0 ≤ b ∧ b < S 480 24 ∧ 31 ≤ S 489 b)
noncomputable def rxmBT_13 (S0 : Nat → Int → Int) (ws : List Int) (S : Nat → Int → Int) (is : Int) : Nat := 660
noncomputable def rxzBT_13 : rx_Z := ([(0, 0), (0, 0), (0, 0), (0, 0), (0, 0), (0, 0), (0, 0), (0, 0), (0, 1)], [], [], 0, 0, 96, [(0, .inr (3, (0, 480)))], [])
noncomputable def rxIBT_14 (S0 : Nat → Int → Int) (ws : List Int) (S : Nat → Int → Int) : Prop := rxTk S ∧ rxSm S0 S ∧ S 480 14 = 0 ∧ S0 480 9 < S 480 9 ∧ (∃ b : Int, 0 ≤ b ∧ b < S 480 24 ∧ 31 ≤ S 489 b)
noncomputable def rxmBT_14 (S0 : Nat → Int → Int) (ws : List Int) (S : Nat → Int → Int) : Nat := 650
noncomputable def rxzBT_14 : rx_Z := ([(0, 0), (0, 0), (0, 0), (0, 0), (0, 0), (0, 0), (0, 0), (0, 0)], [], [], 0, 0, 105, [(0, .inr (3, (0, 480)))], [.inr (0, (0, 1)), .inr (3, (0, 480))])
noncomputable def rxIBT_15 (S0 : Nat → Int → Int) (ws : List Int) (S : Nat → Int → Int) : Prop := rxPt S ∧ rxEf S0 S 1 1 ∧ S0 480 9 < S 480 9 ∧ 1 ≤ S 480 24 ∧ 31 ≤ S 489 (S 480 24 - 1) ∧ rxNoSq S
noncomputable def rxmBT_15 (S0 : Nat → Int → Int) (ws : List Int) (S : Nat → Int → Int) : Nat := 640
noncomputable def rxzBT_15 : rx_Z := ([(0, 0), (0, 0), (0, 0), (0, 0), (0, 0), (0, 0), (0, 0), (0, 0)], [], [], 0, 0, 108, [(0, .inr (3, (0, 480)))], [])
noncomputable def rxIBT_16 (S0 : Nat → Int → Int) (ws : List Int) (S : Nat → Int → Int) (pn : Int) : Prop := pn = S 480 24 ∧ rxPt S ∧ rxEf S0 S 1 1 ∧ S0 480 9 < S 480 9 ∧ 1 ≤ S 480 24 ∧ 31 ≤ S 489 (S 480 24 - 1) ∧ rxNoSq S
noncomputable def rxmBT_16 (S0 : Nat → Int → Int) (ws : List Int) (S : Nat → Int → Int) (pn : Int) : Nat := 630
noncomputable def rxzBT_16 : rx_Z := ([(0, 0), (0, 0), (0, 0), (0, 0), (0, 0), (0, 0), (0, 0), (0, 0), (1, 400)], [], [], 0, 0, 113, [(0, .inr (3, (0, 480)))], [.inr (0, (8, 0)), .inr (3, (0, 480))])
noncomputable def rxIBT_17 (S0 : Nat → Int → Int) (ws : List Int) (S : Nat → Int → Int) (q : Int) : Prop := ∃ S1 : Nat → Int → Int, S = bx_up S1 480 24 (S1 480 24 - 1) ∧ q = S1 480 25 ∧ rxPt S1 ∧ rxEf S0 S1 1 1 ∧ S0 480 9 < S1 480 9 ∧ 1 ≤ S1 480 24 ∧ 31 ≤ S1 489 (S1 480 24 - 1) ∧ rxNoSq S1
noncomputable def rxmBT_17 (S0 : Nat → Int → Int) (ws : List Int) (S : Nat → Int → Int) (q : Int) : Nat := 620
noncomputable def rxzBT_17 : rx_Z := ([(0, 0), (0, 0), (0, 0), (0, 0), (0, 0), (0, 0), (0, 0), (0, 0), (1, 8)], [], [], 0, 0, 123, [(0, .inr (3, (0, 480)))], [.inr (0, (8, 0)), .inr (3, (0, 480))])
noncomputable def rxoBT_0_0 : bx_HO := (([(0, 0), (0, 0), (0, 0), (0, 0), (0, 0), (0, 0), (0, 0), (0, 0), (0, 3)], [(3, (8, 0), (0, 1)), (3, (8, 0), (0, 1))], [(((0, 0), 1851192626986356799632114105031551009123054124018230966928539648000000), .inr (0, (8, 0))), (((0, 480), 11), .inr (0, (8, 0)))], 0, 0, 77, [(1, .inr (0, (0, 0))), (0, .inr (3, (0, 480)))], [.inr (3, (0, 480))]), [], [], [(0, 0), (0, 0), (0, 0), (0, 0), (0, 0), (0, 0), (0, 0), (0, 0)], 9)
noncomputable def rxoBT_0_1 : bx_HO := (([(0, 0), (0, 0), (0, 0), (0, 0), (0, 0), (0, 0), (0, 0), (0, 0), (1, 1), ((-9223372036854775808), 9223372036854775807)], [(3, (9, 0), (0, 498)), (3, (9, 0), (0, 1476))], [(((0, 0), 1851192626986356799832820811818326617396875588472066220482363392000000), .inr (1, (9, 0))), (((0, 480), 12), .inr (1, (9, 0))), (((0, 0), 1851192626986356799632114105031551009123054124018230966928539648000000), .inr (0, (8, 0))), (((0, 480), 11), .inr (0, (8, 0)))], 0, 0, 77, [(1, .inr (0, (0, 0))), (0, .inr (3, (0, 480)))], [.inr (3, (0, 480))]), [], [], [(0, 0), (0, 0), (0, 0), (0, 0), (0, 0), (0, 0), (0, 0), (0, 0)], 9)
noncomputable def rxoBT_0_2 : bx_HO := (([(0, 0), (0, 0), (0, 0), (0, 0), (0, 0), (0, 0), (0, 0), (0, 0), (1, 1), (498, 498)], [(3, (9, 0), (0, 1476))], [(((0, 0), 1851192626986356799832820811818326617396875588472066220482363392000000), .inr (1, (9, 0))), (((0, 480), 12), .inr (1, (9, 0))), (((0, 0), 1851192626986356799632114105031551009123054124018230966928539648000000), .inr (0, (8, 0))), (((0, 480), 11), .inr (0, (8, 0)))], 0, 0, 32, [(1, .inr (0, (0, 0))), (0, .inr (3, (0, 480)))], [.inr (0, (0, 1)), .inr (3, (0, 480))]), [], [], [(0, 0), (0, 0), (0, 0), (0, 0), (0, 0), (0, 0), (0, 0), (0, 0), (0, 0), (0, 1)], 1)
noncomputable def rxoBT_0_3 : bx_HO := (([(0, 0), (0, 0), (0, 0), (0, 0), (0, 0), (0, 0), (0, 0), (0, 0), (1, 1), (1476, 1476)], [], [(((0, 0), 1851192626986356799832820811818326617396875588472066220482363392000000), .inr (1, (9, 0))), (((0, 480), 12), .inr (1, (9, 0))), (((0, 0), 1851192626986356799632114105031551009123054124018230966928539648000000), .inr (0, (8, 0))), (((0, 480), 11), .inr (0, (8, 0)))], 0, 0, 32, [(1, .inr (0, (0, 1))), (0, .inr (3, (0, 480)))], [.inr (0, (0, 2)), .inr (3, (0, 480))]), [], [], [(0, 0), (0, 0), (0, 0), (0, 0), (0, 0), (0, 0), (0, 0), (0, 0), (0, 1), (0, 2)], 1)
noncomputable def rxoBT_2_0 : bx_HO := (([(0, 0), (0, 0), (0, 0), (0, 0), (0, 0), (0, 0), (0, 0), (0, 0), (1, 1), (1, 2), (0, 400)], [(3, (8, 0), (0, 0))], [(((0, 0), 1851192626986356801037061052538980267039804375195077741805305856000000), .inr (0, (10, 0))), (((0, 480), 18), .inr (0, (10, 0)))], 0, 0, 51, [(0, .inr (3, (0, 480))), (1, .inr (0, (8, 0)))], [.inr (0, (10, 0)), .inr (0, (0, 29)), .inr (3, (0, 480))]), [], [], [(0, 0), (0, 0), (0, 0), (0, 0), (0, 0), (0, 0), (0, 0), (0, 0), (8, 0), (0, 29), (10, 0)], 3)
noncomputable def rxoBT_2_1 : bx_HO := (([(0, 0), (0, 0), (0, 0), (0, 0), (0, 0), (0, 0), (0, 0), (0, 0), (0, 0), (1, 2), (0, 400)], [], [(((0, 0), 1851192626986356801037061052538980267039804375195077741805305856000000), .inr (0, (10, 0))), (((0, 480), 18), .inr (0, (10, 0)))], 0, 0, 51, [(0, .inr (3, (0, 480))), (1, .inr (0, (8, 0)))], [.inr (0, (10, 0)), .inr (0, (0, 30)), .inr (3, (0, 480))]), [], [], [(0, 0), (0, 0), (0, 0), (0, 0), (0, 0), (0, 0), (0, 0), (0, 0), (8, 0), (0, 30), (10, 0)], 3)
noncomputable def rxoBT_4_0 : bx_HO := (([(0, 0), (0, 0), (0, 0), (0, 0), (0, 0), (0, 0), (0, 0), (0, 0), (1, 1), (29, 30), (0, 400)], [(3, (8, 0), (0, 0))], [], 0, 0, 67, [(0, .inr (3, (0, 480))), (1, .inr (0, (8, 0)))], [.inr (0, (0, 0)), .inr (0, (0, 29)), .inr (3, (0, 480))]), [], [], [(0, 0), (0, 0), (0, 0), (0, 0), (0, 0), (0, 0), (0, 0), (0, 0), (8, 0), (0, 29)], 5)
noncomputable def rxoBT_4_1 : bx_HO := (([(0, 0), (0, 0), (0, 0), (0, 0), (0, 0), (0, 0), (0, 0), (0, 0), (0, 0), (29, 30), (0, 400)], [], [], 0, 0, 67, [(0, .inr (3, (0, 480))), (1, .inr (0, (8, 0)))], [.inr (0, (0, 0)), .inr (0, (0, 30)), .inr (3, (0, 480))]), [], [], [(0, 0), (0, 0), (0, 0), (0, 0), (0, 0), (0, 0), (0, 0), (0, 0), (8, 0), (0, 30)], 5)
noncomputable def rxoBT_6_0 : bx_HO := (([(0, 0), (0, 0), (0, 0), (0, 0), (0, 0), (0, 0), (0, 0), (0, 0), (0, 1), (29, 30)], [], [], 0, 0, 71, [(0, .inr (3, (0, 480))), (1, .inr (0, (8, 0)))], [.inr (3, (0, 480))]), [], [], [(0, 0), (0, 0), (0, 0), (0, 0), (0, 0), (0, 0), (0, 0), (0, 0), (8, 0)], 7)
noncomputable def rxeBT_8_0 : rx_End × List (Nat × Int × Int) := (([(0, 0), (0, 0), (0, 0), (0, 0), (0, 0), (0, 0), (0, 0), (0, 0), (0, 1)], [], [], some (.inr (0, (0, 0)))), [])
noncomputable def rxoBT_10_0 : bx_HO := (([(0, 0), (0, 0), (0, 0), (0, 0), (0, 0), (0, 0), (0, 0), (0, 0), (0, 32)], [(3, (8, 0), (0, (-1)))], [], 0, 0, 90, [(0, .inr (3, (0, 480)))], [.inr (0, (0, 41)), .inr (3, (0, 480)), .inr (3, (0, 480))]), [], [], [(0, 0), (0, 0), (0, 0), (0, 0), (0, 0), (0, 0), (0, 0), (0, 0)], 11)
noncomputable def rxeBT_10_0 : rx_End × List (Nat × Int × Int) := (([(0, 0), (0, 0), (0, 0), (0, 0), (0, 0), (0, 0), (0, 0), (0, 0), ((-1), (-1))], [], [], some (.inr (0, (0, 4)))), [])
noncomputable def rxoBT_13_0 : bx_HO := (([(0, 0), (0, 0), (0, 0), (0, 0), (0, 0), (0, 0), (0, 0), (0, 0), (0, 1), (0, 0)], [], [(((0, 0), 1851192626986356800234234225391877833944518517379736727590010880000000), .inr (0, (9, 0))), (((0, 480), 14), .inr (0, (9, 0)))], 0, 0, 105, [(0, .inr (3, (0, 480)))], [.inr (0, (0, 1)), .inr (3, (0, 480))]), [], [], [(0, 0), (0, 0), (0, 0), (0, 0), (0, 0), (0, 0), (0, 0), (0, 0)], 14)
noncomputable def rxeBT_13_0 : rx_End × List (Nat × Int × Int) := (([(0, 0), (0, 0), (0, 0), (0, 0), (0, 0), (0, 0), (0, 0), (0, 0), (0, 1), (1, 1)], [(3, (9, 0), (0, 0))], [(((0, 0), 1851192626986356800234234225391877833944518517379736727590010880000000), .inr (0, (9, 0))), (((0, 480), 14), .inr (0, (9, 0)))], some (.inr (0, (0, 2)))), [])
noncomputable def rxoBT_15_0 : bx_HO := (([(0, 0), (0, 0), (0, 0), (0, 0), (0, 0), (0, 0), (0, 0), (0, 0), (0, 400)], [], [(((0, 0), 1851192626986356802241301293259633916682733161918089263128248320000000), .inr (0, (8, 0))), (((0, 480), 24), .inr (0, (8, 0)))], 0, 0, 113, [(0, .inr (3, (0, 480)))], [.inr (0, (8, 0)), .inr (3, (0, 480))]), [(8, 1, 400)], [], [(0, 0), (0, 0), (0, 0), (0, 0), (0, 0), (0, 0), (0, 0), (0, 0), (8, 0)], 16)
noncomputable def rxoBT_16_0 : bx_HO := (([(0, 0), (0, 0), (0, 0), (0, 0), (0, 0), (0, 0), (0, 0), (0, 0), (1, 400), (0, 8)], [], [(((0, 0), 1851192626986356802442008000046409524956554626371924516682072064000000), .inr (0, (9, 0))), (((0, 480), 25), .inr (0, (9, 0))), (((0, 0), 1851192626986356802241301293259633916682733161918089263128248323000000), .inr (0, (8, (-1)))), (((0, 480), 24), .inr (0, (8, (-1))))], 0, 0, 123, [(0, .inr (3, (0, 480)))], [.inr (0, (9, 0)), .inr (3, (0, 480))]), [(9, 1, 8)], [], [(0, 0), (0, 0), (0, 0), (0, 0), (0, 0), (0, 0), (0, 0), (0, 0), (9, 0)], 17)
noncomputable def rxeBT_17_0 : rx_End × List (Nat × Int × Int) := (([(0, 0), (0, 0), (0, 0), (0, 0), (0, 0), (0, 0), (0, 0), (0, 0), (1, 8)], [], [(((0, 0), 1851192626986356802442008000046409524956554626371924516682072067000000), .inr (0, (8, (-1)))), (((0, 480), 25), .inr (0, (8, (-1))))], some (.inr (0, (0, 2)))), [])
noncomputable def rxYBT : List bx_HE := [(rxzBT_0, [rxoBT_0_0, rxoBT_0_1, rxoBT_0_2, rxoBT_0_3], []), (rxzBT_1, [], []), (rxzBT_2, [rxoBT_2_0, rxoBT_2_1], []), (rxzBT_3, [], []), (rxzBT_4, [rxoBT_4_0, rxoBT_4_1], []), (rxzBT_5, [], []), (rxzBT_6, [rxoBT_6_0], []), (rxzBT_7, [], []), (rxzBT_8, [], [rxeBT_8_0]), (rxzBT_9, [], []), (rxzBT_10, [rxoBT_10_0], [rxeBT_10_0]), (rxzBT_11, [], []), (rxzBT_12, [], []), (rxzBT_13, [rxoBT_13_0], [rxeBT_13_0]), (rxzBT_14, [], []), (rxzBT_15, [rxoBT_15_0], []), (rxzBT_16, [rxoBT_16_0], []), (rxzBT_17, [], [rxeBT_17_0])]
noncomputable def rxUBT (q : bx_HE) : Bool := Nat.beq (rx_zpc q.1) 32 || Nat.beq (rx_zpc q.1) 51 || Nat.beq (rx_zpc q.1) 67 || Nat.beq (rx_zpc q.1) 71 || Nat.beq (rx_zpc q.1) 77 || Nat.beq (rx_zpc q.1) 90 || Nat.beq (rx_zpc q.1) 93 || Nat.beq (rx_zpc q.1) 105
noncomputable def rxYBBT : bx_B := (rxV, rxNP, rxDmf, bx_mdH rxCBT.2.2.1)
set_option maxRecDepth 100000 in
theorem rxYcBT : bx_chkH rxYBBT rxM280 rxCBT rxYBT (rxUBT, fun cut z => rx_ex2 (rxCT rxYBBT rxCnE) cut 30000 rxCBT.2.2.2.1 280 z) = true := by decide +kernel
noncomputable def rxIBT (S0 : Nat → Int → Int) (ws : List Int) (i : Nat) : bx_SP := fun S r => match i with | 0 => rxIBT_0 S0 ws S | 1 => rxIBT_1 S0 ws S (r 8) (r 9) | 2 => rxIBT_2 S0 ws S (r 8) (r 9) | 3 => rxIBT_3 S0 ws S (r 8) (r 9) (r 10) | 4 => rxIBT_4 S0 ws S (r 8) (r 9) (r 10) | 5 => rxIBT_5 S0 ws S (r 8) (r 9) | 6 => rxIBT_6 S0 ws S (r 8) (r 9) | 7 => rxIBT_7 S0 ws S (r 8) | 8 => rxIBT_8 S0 ws S (r 8) | 9 => rxIBT_9 S0 ws S | 10 => rxIBT_10 S0 ws S (r 8) | 11 => rxIBT_11 S0 ws S | 12 => rxIBT_12 S0 ws S (r 8) | 13 => rxIBT_13 S0 ws S (r 8) | 14 => rxIBT_14 S0 ws S | 15 => rxIBT_15 S0 ws S | 16 => rxIBT_16 S0 ws S (r 8) | 17 => rxIBT_17 S0 ws S (r 8) | _ => False
noncomputable def rxmBT (S0 : Nat → Int → Int) (ws : List Int) (i : Nat) (S : Nat → Int → Int) (r : Nat → Int) : Nat := match i with | 0 => rxmBT_0 S0 ws S | 1 => rxmBT_1 S0 ws S (r 8) (r 9) | 2 => rxmBT_2 S0 ws S (r 8) (r 9) | 3 => rxmBT_3 S0 ws S (r 8) (r 9) (r 10) | 4 => rxmBT_4 S0 ws S (r 8) (r 9) (r 10) | 5 => rxmBT_5 S0 ws S (r 8) (r 9) | 6 => rxmBT_6 S0 ws S (r 8) (r 9) | 7 => rxmBT_7 S0 ws S (r 8) | 8 => rxmBT_8 S0 ws S (r 8) | 9 => rxmBT_9 S0 ws S | 10 => rxmBT_10 S0 ws S (r 8) | 11 => rxmBT_11 S0 ws S | 12 => rxmBT_12 S0 ws S (r 8) | 13 => rxmBT_13 S0 ws S (r 8) | 14 => rxmBT_14 S0 ws S | 15 => rxmBT_15 S0 ws S | 16 => rxmBT_16 S0 ws S (r 8) | 17 => rxmBT_17 S0 ws S (r 8) | _ => 0
noncomputable def rxPBT (S0 : Nat → Int → Int) (ws : List Int) : Prop := rxPt S0 ∧ S0 480 14 = 0 ∧ rxNoSq S0
noncomputable def rxPSBT (S0 : Nat → Int → Int) (ws : List Int) (S : Nat → Int → Int) (w : Option Int) : Prop := ∃ t : Int, w = some t ∧ rxPt S ∧ (t = 0 ∨ t = 2 ∨ t = 4) ∧ (S 480 14 = 0 → (t = 0 ∧ S0 480 9 < S 480 9 ∧ rxEf S0 S 1 0 ∧ rxNoSq S) ∨ (t = 2 ∧ S0 480 9 < S 480 9 ∧ rxEf S0 S 1 1 ∧ rxNoSq S) ∨ (t = 4 ∧ S = S0 ∧ (∀ j : Int, 0 ≤ j → j < S 480 24 → S 489 j < 31)))
theorem rxkBT_1 {S0 : Nat → Int → Int} {ws : List Int} {S : Nat → Int → Int} {an bd : Int} (hP : rxPBT S0 ws) (hin : bx_same rxL (bx_mdl rxCBT.2.2.1) S0 S) (I0 : bx_Inv rxL S) (hinv : rxIBT_1 S0 ws S an bd) (l8 : 0 ≤ an) (u8 : an ≤ 1) (l9 : 1 ≤ bd) (u9 : bd ≤ 2) : rxPST S [480, bd] ∧ ∀ (S_p : Nat → Int → Int), rxPSST S [480, bd] S_p none → bx_Inv rxL S_p → bx_same rxL (bx_mdl rxCST.2.2.1) S S_p → rxIBT_2 S0 ws S_p an bd ∧ rxmBT_2 S0 ws S_p an bd < rxmBT_1 S0 ws S an bd := by
  obtain ⟨rfl, h1⟩ := hinv
  obtain ⟨⟨p1, p2, p3, p4⟩, p5, p6⟩ := hP
  have b8 := rxBox8 I0
  have t3 := p1.2.2.1
  refine ⟨⟨p2, p3, by omega⟩, fun S_p hq I1 hsm => ⟨?_, by unfold rxmBT_1 rxmBT_2; omega⟩⟩
  obtain ⟨-, l, hw, hs, ht⟩ := hq
  have hm := rxTm_of hsm (by decide +kernel)
  exact ⟨l, hs, hm, by rw [hm.2.1, hm.2.2.1]; exact h1⟩
theorem rxsBT_1 {X : (Nat → Int → Int) → Prop} {S0 : Nat → Int → Int} {ws : List Int} (hP : rxPBT S0 ws) : rx_obK X S0 rxCBT.2.2.1 rxCST.2.2.1 (rxIBT S0 ws) (rxmBT S0 ws) 1 2 rxzBT_1 rxzBT_2 [.inr (3, (0, 480)), .inr (0, (9, 0))] none rxPST rxPSST := by
  intro S r hinv hXS I0 hin hs_ hf_
  have b_ := bx_bds_sat hs_
  have f_ := bx_fcl_ok hs_.1 hf_
  obtain ⟨⟨l8, u8⟩, ⟨l9, u9⟩, -⟩ := b_
  have g := rxkBT_1 hP hin I0 hinv l8 u8 l9 u9
  have ea : List.map (bx_num r) [.inr (3, (0, 480)), .inr (0, (9, 0))] = [480, (r 9)] := by
    simp only [List.map_cons, List.map_nil, bx_xv_ok hs_.1]
    rfl
  rw [ea]
  refine ⟨g.1, fun S_p w r_p hPS hX_p I1 hsm hr hw hs_p => ?_⟩
  have hw : w = none := hPS.1
  subst hw
  have g2 := g.2 S_p hPS I1 hsm
  show rxIBT_2 S0 ws S_p (r_p 8) (r_p 9) ∧ rxmBT_2 S0 ws S_p (r_p 8) (r_p 9) < _
  rw [hr 8 (by decide), hr 9 (by decide)]
  exact g2
theorem rxkBT_3 {S0 : Nat → Int → Int} {ws : List Int} {S : Nat → Int → Int} {an op n : Int} (hP : rxPBT S0 ws) (hin : bx_same rxL (bx_mdl rxCBT.2.2.1) S0 S) (I0 : bx_Inv rxL S) (hinv : rxIBT_3 S0 ws S an op n) (l8 : 0 ≤ an) (u8 : an ≤ 1) (l9 : 29 ≤ op) (u9 : op ≤ 30) (l10 : 0 ≤ n) (u10 : n ≤ 400) : rxPPU S [480, op, n] ∧ ∀ (S_p : Nat → Int → Int), rxPSPU S [480, op, n] S_p none → bx_Inv rxL S_p → bx_same rxL (bx_mdl rxCPU.2.2.1) S S_p → rxIBT_4 S0 ws S_p an op n ∧ rxmBT_4 S0 ws S_p an op n < rxmBT_3 S0 ws S an op n := by
  obtain ⟨rfl, ha0, ha1, l, hs, hm, h1⟩ := hinv
  obtain ⟨⟨p1, p2, p3, p4⟩, p5, p6⟩ := hP
  have b8 := rxBox8 I0
  have b18 := rxBox18 I0
  have hk := hm.tk p1
  have t3 := hk.2.2.1
  have u2 := hs.2.2.2.2.1
  have u3 := hm.2.1
  refine ⟨by show S 480 24 ≤ 399; omega, fun S_p hq I1 hsm => ⟨⟨ha0, ha1, S, ⟨l, hs⟩, hm, h1, ?_⟩, by unfold rxmBT_3 rxmBT_4; omega⟩⟩
  obtain ⟨-, o_p, a_p, hw3, rfl⟩ := hq
  have ho : op = o_p := Option.some.inj (congrArg (fun l => l[1]?) hw3)
  have ha : S 480 18 = a_p := Option.some.inj (congrArg (fun l => l[2]?) hw3)
  subst ho
  subst ha
  rfl
theorem rxsBT_3 {X : (Nat → Int → Int) → Prop} {S0 : Nat → Int → Int} {ws : List Int} (hP : rxPBT S0 ws) : rx_obK X S0 rxCBT.2.2.1 rxCPU.2.2.1 (rxIBT S0 ws) (rxmBT S0 ws) 3 4 rxzBT_3 rxzBT_4 [.inr (3, (0, 480)), .inr (0, (9, 0)), .inr (0, (10, 0))] none rxPPU rxPSPU := by
  intro S r hinv hXS I0 hin hs_ hf_
  have b_ := bx_bds_sat hs_
  have f_ := bx_fcl_ok hs_.1 hf_
  obtain ⟨⟨l8, u8⟩, ⟨l9, u9⟩, ⟨l10, u10⟩, -⟩ := b_
  have g := rxkBT_3 hP hin I0 hinv l8 u8 l9 u9 l10 u10
  have ea : List.map (bx_num r) [.inr (3, (0, 480)), .inr (0, (9, 0)), .inr (0, (10, 0))] = [480, (r 9), (r 10)] := by
    simp only [List.map_cons, List.map_nil, bx_xv_ok hs_.1]
    rfl
  rw [ea]
  refine ⟨g.1, fun S_p w r_p hPS hX_p I1 hsm hr hw hs_p => ?_⟩
  have hw : w = none := hPS.1
  subst hw
  have g2 := g.2 S_p hPS I1 hsm
  show rxIBT_4 S0 ws S_p (r_p 8) (r_p 9) (r_p 10) ∧ rxmBT_4 S0 ws S_p (r_p 8) (r_p 9) (r_p 10) < _
  rw [hr 8 (by decide), hr 9 (by decide), hr 10 (by decide)]
  exact g2
theorem rxkBT_5 {S0 : Nat → Int → Int} {ws : List Int} {S : Nat → Int → Int} {an op : Int} (hP : rxPBT S0 ws) (hin : bx_same rxL (bx_mdl rxCBT.2.2.1) S0 S) (I0 : bx_Inv rxL S) (hinv : rxIBT_5 S0 ws S an op) (l8 : 0 ≤ an) (u8 : an ≤ 1) (l9 : 29 ≤ op) (u9 : op ≤ 30) : rxPEM S [480, op, 0] ∧ ∀ (S_p : Nat → Int → Int), rxPSEM S [480, op, 0] S_p none → bx_Inv rxL S_p → bx_same rxL (bx_mdl rxCEM.2.2.1) S S_p → rxIBT_6 S0 ws S_p an op ∧ rxmBT_6 S0 ws S_p an op < rxmBT_5 S0 ws S an op := by
  obtain ⟨ha0, ha1, S1, ⟨l, hs⟩, hm, h1, rfl⟩ := hinv
  obtain ⟨⟨p1, p2, p3, p4⟩, p5, p6⟩ := hP
  have hm2 := hm.tr (rxTm_pu (S := S1) (op := op) (a := S1 480 18))
  have f18 : rxPuE S1 op (S1 480 18) 480 18 = S1 480 18 := by unfold rxPuE; simp [bx_up]
  have b8 := rxBox8 I0
  have hk := hm.tk p1
  have t3 := hk.2.2.1
  have u8 := hm2.1
  have u1 := hs.2.1
  have u2 := hs.2.2.2.2.1
  have u9 := hm.2.1
  have v8 := hm.1
  refine ⟨by show rxPuE S1 op (S1 480 18) 480 18 ≤ 399; omega, fun S_p hq I1 hsm => ⟨⟨S1, ⟨l, hs⟩, hm, h1, ?_⟩, by unfold rxmBT_5 rxmBT_6; omega⟩⟩
  obtain ⟨-, o_p, a_p, hw3, rfl⟩ := hq
  have ho : op = o_p := Option.some.inj (congrArg (fun l => l[1]?) hw3)
  have ha : (0 : Int) = a_p := Option.some.inj (congrArg (fun l => l[2]?) hw3)
  subst ho
  subst ha
  rfl
theorem rxsBT_5 {X : (Nat → Int → Int) → Prop} {S0 : Nat → Int → Int} {ws : List Int} (hP : rxPBT S0 ws) : rx_obK X S0 rxCBT.2.2.1 rxCEM.2.2.1 (rxIBT S0 ws) (rxmBT S0 ws) 5 6 rxzBT_5 rxzBT_6 [.inr (3, (0, 480)), .inr (0, (9, 0)), .inr (0, (0, 0))] none rxPEM rxPSEM := by
  intro S r hinv hXS I0 hin hs_ hf_
  have b_ := bx_bds_sat hs_
  have f_ := bx_fcl_ok hs_.1 hf_
  obtain ⟨⟨l8, u8⟩, ⟨l9, u9⟩, -⟩ := b_
  have g := rxkBT_5 hP hin I0 hinv l8 u8 l9 u9
  have ea : List.map (bx_num r) [.inr (3, (0, 480)), .inr (0, (9, 0)), .inr (0, (0, 0))] = [480, (r 9), 0] := by
    simp only [List.map_cons, List.map_nil, bx_xv_ok hs_.1]
    rfl
  rw [ea]
  refine ⟨g.1, fun S_p w r_p hPS hX_p I1 hsm hr hw hs_p => ?_⟩
  have hw : w = none := hPS.1
  subst hw
  have g2 := g.2 S_p hPS I1 hsm
  show rxIBT_6 S0 ws S_p (r_p 8) (r_p 9) ∧ rxmBT_6 S0 ws S_p (r_p 8) (r_p 9) < _
  rw [hr 8 (by decide), hr 9 (by decide)]
  exact g2
theorem rxkBT_7 {S0 : Nat → Int → Int} {ws : List Int} {S : Nat → Int → Int} {an : Int} (hP : rxPBT S0 ws) (hin : bx_same rxL (bx_mdl rxCBT.2.2.1) S0 S) (I0 : bx_Inv rxL S) (hinv : rxIBT_7 S0 ws S an) (l8 : 0 ≤ an) (u8 : an ≤ 1) : rxPNX S [480] ∧ ∀ (S_p : Nat → Int → Int), rxPSNX S [480] S_p none → bx_Inv rxL S_p → bx_same rxL (bx_mdl rxCNX.2.2.1) S S_p → rxIBT_8 S0 ws S_p an ∧ rxmBT_8 S0 ws S_p an < rxmBT_7 S0 ws S an := by
  obtain ⟨op, o1, o2, S1, ⟨l, hs⟩, hm, h1, rfl⟩ := hinv
  obtain ⟨⟨p1, p2, p3, p4⟩, p5, p6⟩ := hP
  have hm2 := (hm.tr (rxTm_pu (S := S1) (op := op) (a := S1 480 18))).tr (rxTm_em (S := rxPuE S1 op (S1 480 18)) (op := op) (a := 0))
  have hk := hm2.tk p1
  have f18 : rxEmE (rxPuE S1 op (S1 480 18)) op 0 480 18 = S1 480 18 + 1 := by unfold rxEmE rxPuE; simp [bx_up]
  have f24 : rxEmE (rxPuE S1 op (S1 480 18)) op 0 480 24 = S1 480 24 + 1 := by unfold rxEmE rxPuE; simp [bx_up]
  have b24 := rxBox24 I0
  have b18 := rxBox18 I0
  have u1 := hs.2.1
  have u2 := hs.2.2.2.2.1
  have u9 := hm2.2.1
  have u10 := hm2.2.2.1
  have w9 := hm.2.1
  have w10 := hm.2.2.1
  have g := rxAo (op := op) hs.1 u1 (by unfold rxJmp; omega) (rxSt_sq hs p6)
  refine ⟨hk.2.2.1, fun S_p hq I1 hsm => ⟨?_, by unfold rxmBT_7 rxmBT_8; omega⟩⟩
  obtain ⟨-, q1, q2⟩ := hq
  have hsm_p := rxSm_of hsm (by decide +kernel)
  exact ⟨rxPt_nx hsm_p q1 g.1 (by omega) (by omega) (by omega), by omega, ((rxSt_ef hs).tr g.2.1).tr (hsm_p.ef (by omega) (by omega) 0), g.2.2.sm hsm_p (by omega)⟩
theorem rxsBT_7 {X : (Nat → Int → Int) → Prop} {S0 : Nat → Int → Int} {ws : List Int} (hP : rxPBT S0 ws) : rx_obK X S0 rxCBT.2.2.1 rxCNX.2.2.1 (rxIBT S0 ws) (rxmBT S0 ws) 7 8 rxzBT_7 rxzBT_8 [.inr (3, (0, 480))] none rxPNX rxPSNX := by
  intro S r hinv hXS I0 hin hs_ hf_
  have b_ := bx_bds_sat hs_
  have f_ := bx_fcl_ok hs_.1 hf_
  obtain ⟨⟨l8, u8⟩, -⟩ := b_
  have g := rxkBT_7 hP hin I0 hinv l8 u8
  have ea : List.map (bx_num r) [.inr (3, (0, 480))] = [480] := by
    simp only [List.map_cons, List.map_nil, bx_xv_ok hs_.1]
    rfl
  rw [ea]
  refine ⟨g.1, fun S_p w r_p hPS hX_p I1 hsm hr hw hs_p => ?_⟩
  have hw : w = none := hPS.1
  subst hw
  have g2 := g.2 S_p hPS I1 hsm
  show rxIBT_8 S0 ws S_p (r_p 8) ∧ rxmBT_8 S0 ws S_p (r_p 8) < _
  rw [hr 8 (by decide)]
  exact g2
theorem rxkBT_9 {S0 : Nat → Int → Int} {ws : List Int} {S : Nat → Int → Int} (hP : rxPBT S0 ws) (hin : bx_same rxL (bx_mdl rxCBT.2.2.1) S0 S) (I0 : bx_Inv rxL S) (hinv : rxIBT_9 S0 ws S)  : rxPIN S [480] ∧ ∀ (S_p : Nat → Int → Int) (its : Int), (-1) ≤ its → its ≤ 32 → rxPSIN S [480] S_p (some its) → bx_Inv rxL S_p → bx_same rxL (bx_mdl rxCIN.2.2.1) S S_p → rxIBT_10 S0 ws S_p its ∧ rxmBT_10 S0 ws S_p its < rxmBT_9 S0 ws S := by
  subst hinv
  refine ⟨trivial, fun S_p its l u hq I1 hsm => ⟨?_, by unfold rxmBT_9 rxmBT_10; omega⟩⟩
  obtain ⟨rfl, its_p, hw, h1⟩ := hq
  have he : its = its_p := Option.some.inj hw
  subst he
  exact ⟨rfl, h1⟩
theorem rxsBT_9 {X : (Nat → Int → Int) → Prop} {S0 : Nat → Int → Int} {ws : List Int} (hP : rxPBT S0 ws) : rx_obK X S0 rxCBT.2.2.1 rxCIN.2.2.1 (rxIBT S0 ws) (rxmBT S0 ws) 9 10 rxzBT_9 rxzBT_10 [.inr (3, (0, 480))] (some 8) rxPIN rxPSIN := by
  intro S r hinv hXS I0 hin hs_ hf_
  have b_ := bx_bds_sat hs_
  have f_ := bx_fcl_ok hs_.1 hf_
  have g := rxkBT_9 hP hin I0 hinv 
  have ea : List.map (bx_num r) [.inr (3, (0, 480))] = [480] := by
    simp only [List.map_cons, List.map_nil, bx_xv_ok hs_.1]
    rfl
  rw [ea]
  refine ⟨g.1, fun S_p w r_p hPS hX_p I1 hsm hr hw hs_p => ?_⟩
  have hw := hw _ rfl
  subst hw
  have b_p := hs_p.2.2 8 _ _ rfl
  have g2 := g.2 S_p (r_p 8) b_p.1 b_p.2 hPS I1 hsm
  show rxIBT_10 S0 ws S_p (r_p 8) ∧ rxmBT_10 S0 ws S_p (r_p 8) < _
  exact g2
theorem rxkBT_11 {S0 : Nat → Int → Int} {ws : List Int} {S : Nat → Int → Int} (hP : rxPBT S0 ws) (hin : bx_same rxL (bx_mdl rxCBT.2.2.1) S0 S) (I0 : bx_Inv rxL S) (hinv : rxIBT_11 S0 ws S)  : rxPIS S [480, 41] ∧ ∀ (S_p : Nat → Int → Int) (is : Int), 0 ≤ is → is ≤ 1 → rxPSIS S [480, 41] S_p (some is) → bx_Inv rxL S_p → bx_same rxL (bx_mdl rxCIS.2.2.1) S S_p → rxIBT_12 S0 ws S_p is ∧ rxmBT_12 S0 ws S_p is < rxmBT_11 S0 ws S := by
  obtain ⟨rfl, hb⟩ := hinv
  refine ⟨trivial, fun S_p is l u hq I1 hsm => ⟨?_, by unfold rxmBT_11 rxmBT_12; omega⟩⟩
  obtain ⟨rfl, x, r, hw, hr, h1⟩ := hq
  have he : is = r := Option.some.inj hr
  exact ⟨rfl, hb, fun q => by have := h1 (by omega); omega⟩
theorem rxsBT_11 {X : (Nat → Int → Int) → Prop} {S0 : Nat → Int → Int} {ws : List Int} (hP : rxPBT S0 ws) : rx_obK X S0 rxCBT.2.2.1 rxCIS.2.2.1 (rxIBT S0 ws) (rxmBT S0 ws) 11 12 rxzBT_11 rxzBT_12 [.inr (3, (0, 480)), .inr (0, (0, 41))] (some 8) rxPIS rxPSIS := by
  intro S r hinv hXS I0 hin hs_ hf_
  have b_ := bx_bds_sat hs_
  have f_ := bx_fcl_ok hs_.1 hf_
  have g := rxkBT_11 hP hin I0 hinv 
  have ea : List.map (bx_num r) [.inr (3, (0, 480)), .inr (0, (0, 41))] = [480, 41] := by
    simp only [List.map_cons, List.map_nil, bx_xv_ok hs_.1]
    rfl
  rw [ea]
  refine ⟨g.1, fun S_p w r_p hPS hX_p I1 hsm hr hw hs_p => ?_⟩
  have hw := hw _ rfl
  subst hw
  have b_p := hs_p.2.2 8 _ _ rfl
  have g2 := g.2 S_p (r_p 8) b_p.1 b_p.2 hPS I1 hsm
  show rxIBT_12 S0 ws S_p (r_p 8) ∧ rxmBT_12 S0 ws S_p (r_p 8) < _
  exact g2
theorem rxkBT_12 {S0 : Nat → Int → Int} {ws : List Int} {S : Nat → Int → Int} {is : Int} (hP : rxPBT S0 ws) (hin : bx_same rxL (bx_mdl rxCBT.2.2.1) S0 S) (I0 : bx_Inv rxL S) (hinv : rxIBT_12 S0 ws S is) (l8 : 0 ≤ is) (u8 : is ≤ 1) : rxPMU S [480, is] ∧ ∀ (S_p : Nat → Int → Int), rxPSMU S [480, is] S_p none → bx_Inv rxL S_p → bx_same rxL (bx_mdl rxCMU.2.2.1) S S_p → rxIBT_13 S0 ws S_p is ∧ rxmBT_13 S0 ws S_p is < rxmBT_12 S0 ws S is := by
  obtain ⟨rfl, hb, hi⟩ := hinv
  obtain ⟨⟨p1, p2, p3, p4⟩, p5, p6⟩ := (show rxPt S ∧ S 480 14 = 0 ∧ _ from hP)
  have t4 := p1.2.2.2.1
  refine ⟨p1, fun S_p hq I1 hsm => ⟨⟨hq.2.1, rxSm_of hsm (by decide +kernel), fun g => ?_, fun g => ?_, ?_⟩, by unfold rxmBT_12 rxmBT_13; omega⟩⟩
  · obtain ⟨-, -, is_p, hw2, hc⟩ := hq
    have he : is = is_p := Option.some.inj (congrArg (fun l => l[1]?) hw2)
    rcases hc with ⟨c1, c2, c3, c4⟩ | ⟨c1, c2, c3⟩
    · have t5 := t4 (hi (by omega))
      omega
    · omega
  · obtain ⟨-, -, is_p, hw2, hc⟩ := hq
    rcases hc with ⟨c1, c2, c3, c4⟩ | ⟨c1, c2, c3, -⟩
    · omega
    · exact c3
  · have hs := rxSm_of hsm (by decide +kernel)
    have b24 := rxBox24 I0
    obtain ⟨b, b0, b1, b2⟩ := hb
    have k24 := hs.2.1
    exact ⟨b, b0, by omega, by rw [(hs.2.2.2 b b0 (by omega)).2.2.1]; exact b2⟩
theorem rxsBT_12 {X : (Nat → Int → Int) → Prop} {S0 : Nat → Int → Int} {ws : List Int} (hP : rxPBT S0 ws) : rx_obK X S0 rxCBT.2.2.1 rxCMU.2.2.1 (rxIBT S0 ws) (rxmBT S0 ws) 12 13 rxzBT_12 rxzBT_13 [.inr (3, (0, 480)), .inr (0, (8, 0))] none rxPMU rxPSMU := by
  intro S r hinv hXS I0 hin hs_ hf_
  have b_ := bx_bds_sat hs_
  have f_ := bx_fcl_ok hs_.1 hf_
  obtain ⟨⟨l8, u8⟩, -⟩ := b_
  have g := rxkBT_12 hP hin I0 hinv l8 u8
  have ea : List.map (bx_num r) [.inr (3, (0, 480)), .inr (0, (8, 0))] = [480, (r 8)] := by
    simp only [List.map_cons, List.map_nil, bx_xv_ok hs_.1]
    rfl
  rw [ea]
  refine ⟨g.1, fun S_p w r_p hPS hX_p I1 hsm hr hw hs_p => ?_⟩
  have hw : w = none := hPS.1
  subst hw
  have g2 := g.2 S_p hPS I1 hsm
  show rxIBT_13 S0 ws S_p (r_p 8) ∧ rxmBT_13 S0 ws S_p (r_p 8) < _
  rw [hr 8 (by decide)]
  exact g2
theorem rxkBT_14 {S0 : Nat → Int → Int} {ws : List Int} {S : Nat → Int → Int} (hP : rxPBT S0 ws) (hin : bx_same rxL (bx_mdl rxCBT.2.2.1) S0 S) (I0 : bx_Inv rxL S) (hinv : rxIBT_14 S0 ws S)  : rxPST S [480, 1] ∧ ∀ (S_p : Nat → Int → Int), rxPSST S [480, 1] S_p none → bx_Inv rxL S_p → bx_same rxL (bx_mdl rxCST.2.2.1) S S_p → rxIBT_15 S0 ws S_p ∧ rxmBT_15 S0 ws S_p < rxmBT_14 S0 ws S := by
  obtain ⟨h1, h2, h3, h4, b, b0, b1, b2⟩ := hinv
  obtain ⟨⟨p1, p2, p3, p4⟩, p5, p6⟩ := hP
  have b8 := rxBox8 I0
  have b24 := rxBox24 I0
  have b18 := rxBox18 I0
  have k18 := h2.1
  have k24 := h2.2.1
  have t1 := h1.2.1
  have t2 := h1.2.2.1
  have hz := h2.pz p2 (by omega)
  refine ⟨⟨hz, by omega, by omega⟩, fun S_p hq I1 hsm => ⟨?_, by unfold rxmBT_14 rxmBT_15; omega⟩⟩
  obtain ⟨-, l, hw, hs, ht⟩ := hq
  have hl : (1 : Int) = l := Option.some.inj (congrArg (fun l => l[1]?) hw)
  subst hl
  have hm := rxTm_of hsm (by decide +kernel)
  have g := rxBrTop b0 b1 b2 hs ht
  have m9 := hm.2.1
  have u1 := hs.2.1
  have u2 := hs.2.2.2.2.1
  exact ⟨⟨hm.tk h1, hs.1, u1, by omega⟩, (h2.ef (by omega) (by omega) 1).tr (rxSt_ef hs), by omega, g.1, g.2, rxSt_sq hs (p6.sm h2 (by omega))⟩
theorem rxsBT_14 {X : (Nat → Int → Int) → Prop} {S0 : Nat → Int → Int} {ws : List Int} (hP : rxPBT S0 ws) : rx_obK X S0 rxCBT.2.2.1 rxCST.2.2.1 (rxIBT S0 ws) (rxmBT S0 ws) 14 15 rxzBT_14 rxzBT_15 [.inr (3, (0, 480)), .inr (0, (0, 1))] none rxPST rxPSST := by
  intro S r hinv hXS I0 hin hs_ hf_
  have b_ := bx_bds_sat hs_
  have f_ := bx_fcl_ok hs_.1 hf_
  have g := rxkBT_14 hP hin I0 hinv 
  have ea : List.map (bx_num r) [.inr (3, (0, 480)), .inr (0, (0, 1))] = [480, 1] := by
    simp only [List.map_cons, List.map_nil, bx_xv_ok hs_.1]
    rfl
  rw [ea]
  refine ⟨g.1, fun S_p w r_p hPS hX_p I1 hsm hr hw hs_p => ?_⟩
  have hw : w = none := hPS.1
  subst hw
  have g2 := g.2 S_p hPS I1 hsm
  show rxIBT_15 S0 ws S_p ∧ rxmBT_15 S0 ws S_p < _
  exact g2
theorem rxcBT_0_0 {S0 : Nat → Int → Int} {ws : List Int} {S : Nat → Int → Int} {x8 : Int} (hP : rxPBT S0 ws) (hin : bx_same rxL (bx_mdl rxCBT.2.2.1) S0 S) (I0 : bx_Inv rxL S) (hinv : rxIBT_0 S0 ws S) (l8 : 0 ≤ x8) (u8 : x8 ≤ 3) (f0 : x8 ≠ 1) (f1 : x8 ≠ 1) (e0 : S 480 11 = x8) : (True) ∧ (True) ∧ rxIBT_9 S0 ws S ∧ rxmBT_9 S0 ws S < rxmBT_0 S0 ws S := by
  obtain ⟨rfl, hw⟩ := hinv
  exact ⟨trivial, trivial, rfl, by unfold rxmBT_0 rxmBT_9; omega⟩
theorem rxgBT_0_0 {X : (Nat → Int → Int) → Prop} {S0 : Nat → Int → Int} {ws : List Int} (hP : rxPBT S0 ws) : bx_obC rxL X S0 rxCBT.2.2.1 (rxIBT S0 ws) (rxmBT S0 ws) 0 rxzBT_0 rxoBT_0_0 := by
  intro S S_p r r_p hinv hX hin hsm_ hseg
  obtain ⟨I0, I1, h0_, hr_, b_, f_, d_⟩ := bx_cl (evs := [(0, (0, 480), (0, 11), .inr (0, (8, 0)))]) (fvs := [(3, (8, 0), (0, 1), (0, 0)), (3, (8, 0), (0, 1), (0, 0))]) hseg (by decide +kernel) (by decide +kernel)
  have hinv : rxIBT_0 S0 ws S := hinv
  obtain ⟨⟨l8, u8⟩, -⟩ := b_
  obtain ⟨f0, f1, -⟩ := f_
  obtain ⟨e0, w_⟩ := d_
  subst w_
  have g := rxcBT_0_0 hP hin I0 hinv l8 u8 f0 f1 e0
  refine ⟨bx_narP_ok (l := []) g.1, bx_nfP_ok h0_ (fvs := []) (by decide +kernel) g.2.1, ?_, ?_⟩
  · show rxIBT_9 S0 ws S_p
    exact g.2.2.1
  · show rxmBT_9 S0 ws S_p < rxmBT_0 S0 ws S_p
    exact g.2.2.2
theorem rxcBT_0_1 {S0 : Nat → Int → Int} {ws : List Int} {S : Nat → Int → Int} {x8 x9 : Int} (hP : rxPBT S0 ws) (hin : bx_same rxL (bx_mdl rxCBT.2.2.1) S0 S) (I0 : bx_Inv rxL S) (hinv : rxIBT_0 S0 ws S) (l8 : 1 ≤ x8) (u8 : x8 ≤ 1) (l9 : (-9223372036854775808) ≤ x9) (u9 : x9 ≤ 9223372036854775807) (f0 : x9 ≠ 498) (f1 : x9 ≠ 1476) (e1 : S 480 11 = x8) (e0 : S 480 12 = x9) : (True) ∧ (True) ∧ rxIBT_9 S0 ws S ∧ rxmBT_9 S0 ws S < rxmBT_0 S0 ws S := by
  obtain ⟨rfl, hw⟩ := hinv
  exact ⟨trivial, trivial, rfl, by unfold rxmBT_0 rxmBT_9; omega⟩
theorem rxgBT_0_1 {X : (Nat → Int → Int) → Prop} {S0 : Nat → Int → Int} {ws : List Int} (hP : rxPBT S0 ws) : bx_obC rxL X S0 rxCBT.2.2.1 (rxIBT S0 ws) (rxmBT S0 ws) 0 rxzBT_0 rxoBT_0_1 := by
  intro S S_p r r_p hinv hX hin hsm_ hseg
  obtain ⟨I0, I1, h0_, hr_, b_, f_, d_⟩ := bx_cl (evs := [(0, (0, 480), (0, 12), .inr (1, (9, 0))), (0, (0, 480), (0, 11), .inr (0, (8, 0)))]) (fvs := [(3, (9, 0), (0, 498), (0, 0)), (3, (9, 0), (0, 1476), (0, 0))]) hseg (by decide +kernel) (by decide +kernel)
  have hinv : rxIBT_0 S0 ws S := hinv
  obtain ⟨⟨l8, u8⟩, ⟨l9, u9⟩, -⟩ := b_
  obtain ⟨f0, f1, -⟩ := f_
  obtain ⟨e0, ⟨e1, w_⟩⟩ := d_
  subst w_
  have g := rxcBT_0_1 hP hin I0 hinv l8 u8 l9 u9 f0 f1 e1 e0
  refine ⟨bx_narP_ok (l := []) g.1, bx_nfP_ok h0_ (fvs := []) (by decide +kernel) g.2.1, ?_, ?_⟩
  · show rxIBT_9 S0 ws S_p
    exact g.2.2.1
  · show rxmBT_9 S0 ws S_p < rxmBT_0 S0 ws S_p
    exact g.2.2.2
theorem rxcBT_0_2 {S0 : Nat → Int → Int} {ws : List Int} {S : Nat → Int → Int} {x8 x9 : Int} (hP : rxPBT S0 ws) (hin : bx_same rxL (bx_mdl rxCBT.2.2.1) S0 S) (I0 : bx_Inv rxL S) (hinv : rxIBT_0 S0 ws S) (l8 : 1 ≤ x8) (u8 : x8 ≤ 1) (l9 : 498 ≤ x9) (u9 : x9 ≤ 498) (f0 : x9 ≠ 1476) (e1 : S 480 11 = x8) (e0 : S 480 12 = x9) : (True) ∧ (True) ∧ rxIBT_1 S0 ws S 0 1 ∧ rxmBT_1 S0 ws S 0 1 < rxmBT_0 S0 ws S := by
  obtain ⟨rfl, hw⟩ := hinv
  have tk := hP.1.1.2.2.2.2.1
  exact ⟨trivial, trivial, ⟨rfl, by omega⟩, by unfold rxmBT_0 rxmBT_1; omega⟩
theorem rxgBT_0_2 {X : (Nat → Int → Int) → Prop} {S0 : Nat → Int → Int} {ws : List Int} (hP : rxPBT S0 ws) : bx_obC rxL X S0 rxCBT.2.2.1 (rxIBT S0 ws) (rxmBT S0 ws) 0 rxzBT_0 rxoBT_0_2 := by
  intro S S_p r r_p hinv hX hin hsm_ hseg
  obtain ⟨I0, I1, h0_, hr_, b_, f_, d_⟩ := bx_cl (evs := [(0, (0, 480), (0, 12), .inr (1, (9, 0))), (0, (0, 480), (0, 11), .inr (0, (8, 0)))]) (fvs := [(3, (9, 0), (0, 1476), (0, 0))]) hseg (by decide +kernel) (by decide +kernel)
  have hinv : rxIBT_0 S0 ws S := hinv
  obtain ⟨⟨l8, u8⟩, ⟨l9, u9⟩, -⟩ := b_
  obtain ⟨f0, -⟩ := f_
  obtain ⟨e0, ⟨e1, w_⟩⟩ := d_
  subst w_
  have g := rxcBT_0_2 hP hin I0 hinv l8 u8 l9 u9 f0 e1 e0
  refine ⟨bx_narP_ok (l := []) g.1, bx_nfP_ok h0_ (fvs := []) (by decide +kernel) g.2.1, ?_, ?_⟩
  · show rxIBT_1 S0 ws S_p (bx_val [(0, 0), (0, 0), (0, 0), (0, 0), (0, 0), (0, 0), (0, 0), (0, 0), (0, 0), (0, 1)] r_p 8) (bx_val [(0, 0), (0, 0), (0, 0), (0, 0), (0, 0), (0, 0), (0, 0), (0, 0), (0, 0), (0, 1)] r_p 9)
    rw [bx_val_x (n := 8) (e := (0, 0)) h0_ rfl, bx_val_x (n := 9) (e := (0, 1)) h0_ rfl]
    exact g.2.2.1
  · show rxmBT_1 S0 ws S_p (bx_val [(0, 0), (0, 0), (0, 0), (0, 0), (0, 0), (0, 0), (0, 0), (0, 0), (0, 0), (0, 1)] r_p 8) (bx_val [(0, 0), (0, 0), (0, 0), (0, 0), (0, 0), (0, 0), (0, 0), (0, 0), (0, 0), (0, 1)] r_p 9) < rxmBT_0 S0 ws S_p
    rw [bx_val_x (n := 8) (e := (0, 0)) h0_ rfl, bx_val_x (n := 9) (e := (0, 1)) h0_ rfl]
    exact g.2.2.2
theorem rxcBT_0_3 {S0 : Nat → Int → Int} {ws : List Int} {S : Nat → Int → Int} {x8 x9 : Int} (hP : rxPBT S0 ws) (hin : bx_same rxL (bx_mdl rxCBT.2.2.1) S0 S) (I0 : bx_Inv rxL S) (hinv : rxIBT_0 S0 ws S) (l8 : 1 ≤ x8) (u8 : x8 ≤ 1) (l9 : 1476 ≤ x9) (u9 : x9 ≤ 1476) (e1 : S 480 11 = x8) (e0 : S 480 12 = x9) : (True) ∧ (True) ∧ rxIBT_1 S0 ws S 1 2 ∧ rxmBT_1 S0 ws S 1 2 < rxmBT_0 S0 ws S := by
  obtain ⟨rfl, hw⟩ := hinv
  have tk := hP.1.1.2.2.2.2.1
  exact ⟨trivial, trivial, ⟨rfl, by omega⟩, by unfold rxmBT_0 rxmBT_1; omega⟩
theorem rxgBT_0_3 {X : (Nat → Int → Int) → Prop} {S0 : Nat → Int → Int} {ws : List Int} (hP : rxPBT S0 ws) : bx_obC rxL X S0 rxCBT.2.2.1 (rxIBT S0 ws) (rxmBT S0 ws) 0 rxzBT_0 rxoBT_0_3 := by
  intro S S_p r r_p hinv hX hin hsm_ hseg
  obtain ⟨I0, I1, h0_, hr_, b_, f_, d_⟩ := bx_cl (evs := [(0, (0, 480), (0, 12), .inr (1, (9, 0))), (0, (0, 480), (0, 11), .inr (0, (8, 0)))]) (fvs := []) hseg (by decide +kernel) (by decide +kernel)
  have hinv : rxIBT_0 S0 ws S := hinv
  obtain ⟨⟨l8, u8⟩, ⟨l9, u9⟩, -⟩ := b_
  obtain ⟨e0, ⟨e1, w_⟩⟩ := d_
  subst w_
  have g := rxcBT_0_3 hP hin I0 hinv l8 u8 l9 u9 e1 e0
  refine ⟨bx_narP_ok (l := []) g.1, bx_nfP_ok h0_ (fvs := []) (by decide +kernel) g.2.1, ?_, ?_⟩
  · show rxIBT_1 S0 ws S_p (bx_val [(0, 0), (0, 0), (0, 0), (0, 0), (0, 0), (0, 0), (0, 0), (0, 0), (0, 1), (0, 2)] r_p 8) (bx_val [(0, 0), (0, 0), (0, 0), (0, 0), (0, 0), (0, 0), (0, 0), (0, 0), (0, 1), (0, 2)] r_p 9)
    rw [bx_val_x (n := 8) (e := (0, 1)) h0_ rfl, bx_val_x (n := 9) (e := (0, 2)) h0_ rfl]
    exact g.2.2.1
  · show rxmBT_1 S0 ws S_p (bx_val [(0, 0), (0, 0), (0, 0), (0, 0), (0, 0), (0, 0), (0, 0), (0, 0), (0, 1), (0, 2)] r_p 8) (bx_val [(0, 0), (0, 0), (0, 0), (0, 0), (0, 0), (0, 0), (0, 0), (0, 0), (0, 1), (0, 2)] r_p 9) < rxmBT_0 S0 ws S_p
    rw [bx_val_x (n := 8) (e := (0, 1)) h0_ rfl, bx_val_x (n := 9) (e := (0, 2)) h0_ rfl]
    exact g.2.2.2
theorem rxcBT_2_0 {S0 : Nat → Int → Int} {ws : List Int} {S : Nat → Int → Int} {an bd x10 : Int} (hP : rxPBT S0 ws) (hin : bx_same rxL (bx_mdl rxCBT.2.2.1) S0 S) (I0 : bx_Inv rxL S) (hinv : rxIBT_2 S0 ws S an bd) (l8 : 1 ≤ an) (u8 : an ≤ 1) (l9 : 1 ≤ bd) (u9 : bd ≤ 2) (l10 : 0 ≤ x10) (u10 : x10 ≤ 400) (f0 : an ≠ 0) (e0 : S 480 18 = x10) : (True) ∧ (True) ∧ rxIBT_3 S0 ws S an 29 x10 ∧ rxmBT_3 S0 ws S an 29 x10 < rxmBT_2 S0 ws S an bd := by
  exact ⟨trivial, trivial, ⟨by omega, fun q => by omega, fun q => by omega, hinv⟩, by unfold rxmBT_2 rxmBT_3; omega⟩
theorem rxgBT_2_0 {X : (Nat → Int → Int) → Prop} {S0 : Nat → Int → Int} {ws : List Int} (hP : rxPBT S0 ws) : bx_obC rxL X S0 rxCBT.2.2.1 (rxIBT S0 ws) (rxmBT S0 ws) 2 rxzBT_2 rxoBT_2_0 := by
  intro S S_p r r_p hinv hX hin hsm_ hseg
  obtain ⟨I0, I1, h0_, hr_, b_, f_, d_⟩ := bx_cl (evs := [(0, (0, 480), (0, 18), .inr (0, (10, 0)))]) (fvs := [(3, (8, 0), (0, 0), (0, 0))]) hseg (by decide +kernel) (by decide +kernel)
  have hinv : rxIBT_2 S0 ws S (r 8) (r 9) := hinv
  rw [← hr_ 8 (by decide), ← hr_ 9 (by decide)] at hinv
  obtain ⟨⟨l8, u8⟩, ⟨l9, u9⟩, ⟨l10, u10⟩, -⟩ := b_
  obtain ⟨f0, -⟩ := f_
  obtain ⟨e0, w_⟩ := d_
  subst w_
  have g := rxcBT_2_0 hP hin I0 hinv l8 u8 l9 u9 l10 u10 f0 e0
  refine ⟨bx_narP_ok (l := []) g.1, bx_nfP_ok h0_ (fvs := []) (by decide +kernel) g.2.1, ?_, ?_⟩
  · show rxIBT_3 S0 ws S_p (bx_val [(0, 0), (0, 0), (0, 0), (0, 0), (0, 0), (0, 0), (0, 0), (0, 0), (8, 0), (0, 29), (10, 0)] r_p 8) (bx_val [(0, 0), (0, 0), (0, 0), (0, 0), (0, 0), (0, 0), (0, 0), (0, 0), (8, 0), (0, 29), (10, 0)] r_p 9) (bx_val [(0, 0), (0, 0), (0, 0), (0, 0), (0, 0), (0, 0), (0, 0), (0, 0), (8, 0), (0, 29), (10, 0)] r_p 10)
    rw [bx_val_x (n := 8) (e := (8, 0)) h0_ rfl, bx_val_x (n := 9) (e := (0, 29)) h0_ rfl, bx_val_x (n := 10) (e := (10, 0)) h0_ rfl]
    exact g.2.2.1
  · show rxmBT_3 S0 ws S_p (bx_val [(0, 0), (0, 0), (0, 0), (0, 0), (0, 0), (0, 0), (0, 0), (0, 0), (8, 0), (0, 29), (10, 0)] r_p 8) (bx_val [(0, 0), (0, 0), (0, 0), (0, 0), (0, 0), (0, 0), (0, 0), (0, 0), (8, 0), (0, 29), (10, 0)] r_p 9) (bx_val [(0, 0), (0, 0), (0, 0), (0, 0), (0, 0), (0, 0), (0, 0), (0, 0), (8, 0), (0, 29), (10, 0)] r_p 10) < rxmBT_2 S0 ws S_p (r 8) (r 9)
    rw [bx_val_x (n := 8) (e := (8, 0)) h0_ rfl, bx_val_x (n := 9) (e := (0, 29)) h0_ rfl, bx_val_x (n := 10) (e := (10, 0)) h0_ rfl, ← hr_ 8 (by decide), ← hr_ 9 (by decide)]
    exact g.2.2.2
theorem rxcBT_2_1 {S0 : Nat → Int → Int} {ws : List Int} {S : Nat → Int → Int} {an bd x10 : Int} (hP : rxPBT S0 ws) (hin : bx_same rxL (bx_mdl rxCBT.2.2.1) S0 S) (I0 : bx_Inv rxL S) (hinv : rxIBT_2 S0 ws S an bd) (l8 : 0 ≤ an) (u8 : an ≤ 0) (l9 : 1 ≤ bd) (u9 : bd ≤ 2) (l10 : 0 ≤ x10) (u10 : x10 ≤ 400) (e0 : S 480 18 = x10) : (True) ∧ (True) ∧ rxIBT_3 S0 ws S an 30 x10 ∧ rxmBT_3 S0 ws S an 30 x10 < rxmBT_2 S0 ws S an bd := by
  exact ⟨trivial, trivial, ⟨by omega, fun q => by omega, fun q => by omega, hinv⟩, by unfold rxmBT_2 rxmBT_3; omega⟩
theorem rxgBT_2_1 {X : (Nat → Int → Int) → Prop} {S0 : Nat → Int → Int} {ws : List Int} (hP : rxPBT S0 ws) : bx_obC rxL X S0 rxCBT.2.2.1 (rxIBT S0 ws) (rxmBT S0 ws) 2 rxzBT_2 rxoBT_2_1 := by
  intro S S_p r r_p hinv hX hin hsm_ hseg
  obtain ⟨I0, I1, h0_, hr_, b_, f_, d_⟩ := bx_cl (evs := [(0, (0, 480), (0, 18), .inr (0, (10, 0)))]) (fvs := []) hseg (by decide +kernel) (by decide +kernel)
  have hinv : rxIBT_2 S0 ws S (r 8) (r 9) := hinv
  rw [← hr_ 8 (by decide), ← hr_ 9 (by decide)] at hinv
  obtain ⟨⟨l8, u8⟩, ⟨l9, u9⟩, ⟨l10, u10⟩, -⟩ := b_
  obtain ⟨e0, w_⟩ := d_
  subst w_
  have g := rxcBT_2_1 hP hin I0 hinv l8 u8 l9 u9 l10 u10 e0
  refine ⟨bx_narP_ok (l := []) g.1, bx_nfP_ok h0_ (fvs := []) (by decide +kernel) g.2.1, ?_, ?_⟩
  · show rxIBT_3 S0 ws S_p (bx_val [(0, 0), (0, 0), (0, 0), (0, 0), (0, 0), (0, 0), (0, 0), (0, 0), (8, 0), (0, 30), (10, 0)] r_p 8) (bx_val [(0, 0), (0, 0), (0, 0), (0, 0), (0, 0), (0, 0), (0, 0), (0, 0), (8, 0), (0, 30), (10, 0)] r_p 9) (bx_val [(0, 0), (0, 0), (0, 0), (0, 0), (0, 0), (0, 0), (0, 0), (0, 0), (8, 0), (0, 30), (10, 0)] r_p 10)
    rw [bx_val_x (n := 8) (e := (8, 0)) h0_ rfl, bx_val_x (n := 9) (e := (0, 30)) h0_ rfl, bx_val_x (n := 10) (e := (10, 0)) h0_ rfl]
    exact g.2.2.1
  · show rxmBT_3 S0 ws S_p (bx_val [(0, 0), (0, 0), (0, 0), (0, 0), (0, 0), (0, 0), (0, 0), (0, 0), (8, 0), (0, 30), (10, 0)] r_p 8) (bx_val [(0, 0), (0, 0), (0, 0), (0, 0), (0, 0), (0, 0), (0, 0), (0, 0), (8, 0), (0, 30), (10, 0)] r_p 9) (bx_val [(0, 0), (0, 0), (0, 0), (0, 0), (0, 0), (0, 0), (0, 0), (0, 0), (8, 0), (0, 30), (10, 0)] r_p 10) < rxmBT_2 S0 ws S_p (r 8) (r 9)
    rw [bx_val_x (n := 8) (e := (8, 0)) h0_ rfl, bx_val_x (n := 9) (e := (0, 30)) h0_ rfl, bx_val_x (n := 10) (e := (10, 0)) h0_ rfl, ← hr_ 8 (by decide), ← hr_ 9 (by decide)]
    exact g.2.2.2
theorem rxcBT_4_0 {S0 : Nat → Int → Int} {ws : List Int} {S : Nat → Int → Int} {an op n : Int} (hP : rxPBT S0 ws) (hin : bx_same rxL (bx_mdl rxCBT.2.2.1) S0 S) (I0 : bx_Inv rxL S) (hinv : rxIBT_4 S0 ws S an op n) (l8 : 1 ≤ an) (u8 : an ≤ 1) (l9 : 29 ≤ op) (u9 : op ≤ 30) (l10 : 0 ≤ n) (u10 : n ≤ 400) (f0 : an ≠ 0) : (True) ∧ (True) ∧ rxIBT_5 S0 ws S an 29 ∧ rxmBT_5 S0 ws S an 29 < rxmBT_4 S0 ws S an op n := by
  obtain ⟨h0, h1, S1, h2, h3, h4, h5⟩ := hinv
  have ho : op = 29 := by omega
  subst ho
  exact ⟨trivial, trivial, ⟨fun q => by omega, fun q => by omega, S1, h2, h3, h4, h5⟩, by unfold rxmBT_4 rxmBT_5; omega⟩
theorem rxgBT_4_0 {X : (Nat → Int → Int) → Prop} {S0 : Nat → Int → Int} {ws : List Int} (hP : rxPBT S0 ws) : bx_obC rxL X S0 rxCBT.2.2.1 (rxIBT S0 ws) (rxmBT S0 ws) 4 rxzBT_4 rxoBT_4_0 := by
  intro S S_p r r_p hinv hX hin hsm_ hseg
  obtain ⟨I0, I1, h0_, hr_, b_, f_, d_⟩ := bx_cl (evs := []) (fvs := [(3, (8, 0), (0, 0), (0, 0))]) hseg (by decide +kernel) (by decide +kernel)
  have hinv : rxIBT_4 S0 ws S (r 8) (r 9) (r 10) := hinv
  rw [← hr_ 8 (by decide), ← hr_ 9 (by decide), ← hr_ 10 (by decide)] at hinv
  obtain ⟨⟨l8, u8⟩, ⟨l9, u9⟩, ⟨l10, u10⟩, -⟩ := b_
  obtain ⟨f0, -⟩ := f_
  have w_ := d_
  subst w_
  have g := rxcBT_4_0 hP hin I0 hinv l8 u8 l9 u9 l10 u10 f0
  refine ⟨bx_narP_ok (l := []) g.1, bx_nfP_ok h0_ (fvs := []) (by decide +kernel) g.2.1, ?_, ?_⟩
  · show rxIBT_5 S0 ws S_p (bx_val [(0, 0), (0, 0), (0, 0), (0, 0), (0, 0), (0, 0), (0, 0), (0, 0), (8, 0), (0, 29)] r_p 8) (bx_val [(0, 0), (0, 0), (0, 0), (0, 0), (0, 0), (0, 0), (0, 0), (0, 0), (8, 0), (0, 29)] r_p 9)
    rw [bx_val_x (n := 8) (e := (8, 0)) h0_ rfl, bx_val_x (n := 9) (e := (0, 29)) h0_ rfl]
    exact g.2.2.1
  · show rxmBT_5 S0 ws S_p (bx_val [(0, 0), (0, 0), (0, 0), (0, 0), (0, 0), (0, 0), (0, 0), (0, 0), (8, 0), (0, 29)] r_p 8) (bx_val [(0, 0), (0, 0), (0, 0), (0, 0), (0, 0), (0, 0), (0, 0), (0, 0), (8, 0), (0, 29)] r_p 9) < rxmBT_4 S0 ws S_p (r 8) (r 9) (r 10)
    rw [bx_val_x (n := 8) (e := (8, 0)) h0_ rfl, bx_val_x (n := 9) (e := (0, 29)) h0_ rfl, ← hr_ 8 (by decide), ← hr_ 9 (by decide), ← hr_ 10 (by decide)]
    exact g.2.2.2
theorem rxcBT_4_1 {S0 : Nat → Int → Int} {ws : List Int} {S : Nat → Int → Int} {an op n : Int} (hP : rxPBT S0 ws) (hin : bx_same rxL (bx_mdl rxCBT.2.2.1) S0 S) (I0 : bx_Inv rxL S) (hinv : rxIBT_4 S0 ws S an op n) (l8 : 0 ≤ an) (u8 : an ≤ 0) (l9 : 29 ≤ op) (u9 : op ≤ 30) (l10 : 0 ≤ n) (u10 : n ≤ 400) : (True) ∧ (True) ∧ rxIBT_5 S0 ws S an 30 ∧ rxmBT_5 S0 ws S an 30 < rxmBT_4 S0 ws S an op n := by
  obtain ⟨h0, h1, S1, h2, h3, h4, h5⟩ := hinv
  have ho : op = 30 := by omega
  subst ho
  exact ⟨trivial, trivial, ⟨fun q => by omega, fun q => by omega, S1, h2, h3, h4, h5⟩, by unfold rxmBT_4 rxmBT_5; omega⟩
theorem rxgBT_4_1 {X : (Nat → Int → Int) → Prop} {S0 : Nat → Int → Int} {ws : List Int} (hP : rxPBT S0 ws) : bx_obC rxL X S0 rxCBT.2.2.1 (rxIBT S0 ws) (rxmBT S0 ws) 4 rxzBT_4 rxoBT_4_1 := by
  intro S S_p r r_p hinv hX hin hsm_ hseg
  obtain ⟨I0, I1, h0_, hr_, b_, f_, d_⟩ := bx_cl (evs := []) (fvs := []) hseg (by decide +kernel) (by decide +kernel)
  have hinv : rxIBT_4 S0 ws S (r 8) (r 9) (r 10) := hinv
  rw [← hr_ 8 (by decide), ← hr_ 9 (by decide), ← hr_ 10 (by decide)] at hinv
  obtain ⟨⟨l8, u8⟩, ⟨l9, u9⟩, ⟨l10, u10⟩, -⟩ := b_
  have w_ := d_
  subst w_
  have g := rxcBT_4_1 hP hin I0 hinv l8 u8 l9 u9 l10 u10
  refine ⟨bx_narP_ok (l := []) g.1, bx_nfP_ok h0_ (fvs := []) (by decide +kernel) g.2.1, ?_, ?_⟩
  · show rxIBT_5 S0 ws S_p (bx_val [(0, 0), (0, 0), (0, 0), (0, 0), (0, 0), (0, 0), (0, 0), (0, 0), (8, 0), (0, 30)] r_p 8) (bx_val [(0, 0), (0, 0), (0, 0), (0, 0), (0, 0), (0, 0), (0, 0), (0, 0), (8, 0), (0, 30)] r_p 9)
    rw [bx_val_x (n := 8) (e := (8, 0)) h0_ rfl, bx_val_x (n := 9) (e := (0, 30)) h0_ rfl]
    exact g.2.2.1
  · show rxmBT_5 S0 ws S_p (bx_val [(0, 0), (0, 0), (0, 0), (0, 0), (0, 0), (0, 0), (0, 0), (0, 0), (8, 0), (0, 30)] r_p 8) (bx_val [(0, 0), (0, 0), (0, 0), (0, 0), (0, 0), (0, 0), (0, 0), (0, 0), (8, 0), (0, 30)] r_p 9) < rxmBT_4 S0 ws S_p (r 8) (r 9) (r 10)
    rw [bx_val_x (n := 8) (e := (8, 0)) h0_ rfl, bx_val_x (n := 9) (e := (0, 30)) h0_ rfl, ← hr_ 8 (by decide), ← hr_ 9 (by decide), ← hr_ 10 (by decide)]
    exact g.2.2.2
theorem rxcBT_6_0 {S0 : Nat → Int → Int} {ws : List Int} {S : Nat → Int → Int} {an op : Int} (hP : rxPBT S0 ws) (hin : bx_same rxL (bx_mdl rxCBT.2.2.1) S0 S) (I0 : bx_Inv rxL S) (hinv : rxIBT_6 S0 ws S an op) (l8 : 0 ≤ an) (u8 : an ≤ 1) (l9 : 29 ≤ op) (u9 : op ≤ 30) : (True) ∧ (True) ∧ rxIBT_7 S0 ws S an ∧ rxmBT_7 S0 ws S an < rxmBT_6 S0 ws S an op := by
  exact ⟨trivial, trivial, ⟨op, by omega, by omega, hinv⟩, by unfold rxmBT_6 rxmBT_7; omega⟩
theorem rxgBT_6_0 {X : (Nat → Int → Int) → Prop} {S0 : Nat → Int → Int} {ws : List Int} (hP : rxPBT S0 ws) : bx_obC rxL X S0 rxCBT.2.2.1 (rxIBT S0 ws) (rxmBT S0 ws) 6 rxzBT_6 rxoBT_6_0 := by
  intro S S_p r r_p hinv hX hin hsm_ hseg
  obtain ⟨I0, I1, h0_, hr_, b_, f_, d_⟩ := bx_cl (evs := []) (fvs := []) hseg (by decide +kernel) (by decide +kernel)
  have hinv : rxIBT_6 S0 ws S (r 8) (r 9) := hinv
  rw [← hr_ 8 (by decide), ← hr_ 9 (by decide)] at hinv
  obtain ⟨⟨l8, u8⟩, ⟨l9, u9⟩, -⟩ := b_
  have w_ := d_
  subst w_
  have g := rxcBT_6_0 hP hin I0 hinv l8 u8 l9 u9
  refine ⟨bx_narP_ok (l := []) g.1, bx_nfP_ok h0_ (fvs := []) (by decide +kernel) g.2.1, ?_, ?_⟩
  · show rxIBT_7 S0 ws S_p (bx_val [(0, 0), (0, 0), (0, 0), (0, 0), (0, 0), (0, 0), (0, 0), (0, 0), (8, 0)] r_p 8)
    rw [bx_val_x (n := 8) (e := (8, 0)) h0_ rfl]
    exact g.2.2.1
  · show rxmBT_7 S0 ws S_p (bx_val [(0, 0), (0, 0), (0, 0), (0, 0), (0, 0), (0, 0), (0, 0), (0, 0), (8, 0)] r_p 8) < rxmBT_6 S0 ws S_p (r 8) (r 9)
    rw [bx_val_x (n := 8) (e := (8, 0)) h0_ rfl, ← hr_ 8 (by decide), ← hr_ 9 (by decide)]
    exact g.2.2.2
theorem rxdBT_8_0 {S0 : Nat → Int → Int} {ws : List Int} {S : Nat → Int → Int} {an : Int} (hP : rxPBT S0 ws) (hin : bx_same rxL (bx_mdl rxCBT.2.2.1) S0 S) (hin2 : bx_same rxL (bx_mdl rxCBT.2.2.1) S S) (I0 : bx_Inv rxL S) (I1 : bx_Inv rxL S) (hinv : rxIBT_8 S0 ws S an) (l8 : 0 ≤ an) (u8 : an ≤ 1) : (True) ∧ rxPSBT S0 ws S (some 0) := by
  obtain ⟨h1, h2, h3, h4⟩ := hinv
  exact ⟨trivial, 0, rfl, h1, Or.inl rfl, fun q => Or.inl ⟨rfl, h2, h3, h4⟩⟩
theorem rxfBT_8_0 {X : (Nat → Int → Int) → Prop} {S0 : Nat → Int → Int} {ws : List Int} (hP : rxPBT S0 ws) : bx_obE rxL X S0 rxCBT.2.2.1 (rxIBT S0 ws) (rxPSBT S0 ws) 8 rxzBT_8 rxeBT_8_0 := by
  intro S S_p r r_p hinv hX hin hsm_ hseg
  obtain ⟨I0, I1, h0_, hr_, b_, f_, d_⟩ := bx_cl (evs := []) (fvs := []) hseg (by decide +kernel) (by decide +kernel)
  have hinv : rxIBT_8 S0 ws S (r 8) := hinv
  rw [← hr_ 8 (by decide)] at hinv
  obtain ⟨⟨l8, u8⟩, -⟩ := b_
  have w_ := d_
  subst w_
  have g := rxdBT_8_0 hP hin hsm_ I0 I1 hinv l8 u8
  refine ⟨bx_narP_ok (l := []) g.1, ?_⟩
  show rxPSBT S0 ws S_p (some (bx_num r_p (.inr (0, (0, 0)))))
  rw [bx_xv_ok h0_]
  exact g.2
theorem rxcBT_10_0 {S0 : Nat → Int → Int} {ws : List Int} {S : Nat → Int → Int} {its : Int} (hP : rxPBT S0 ws) (hin : bx_same rxL (bx_mdl rxCBT.2.2.1) S0 S) (I0 : bx_Inv rxL S) (hinv : rxIBT_10 S0 ws S its) (l8 : 0 ≤ its) (u8 : its ≤ 32) (f0 : its ≠ (-1)) : (True) ∧ (True) ∧ rxIBT_11 S0 ws S ∧ rxmBT_11 S0 ws S < rxmBT_10 S0 ws S its := by
  obtain ⟨rfl, h1⟩ := hinv
  refine ⟨trivial, trivial, ⟨rfl, ?_⟩, by unfold rxmBT_10 rxmBT_11; omega⟩
  rcases h1 with h1 | ⟨h1, b, b0, b1, b2, b3⟩
  · omega
  · exact ⟨b, b0, b1, by omega⟩
theorem rxgBT_10_0 {X : (Nat → Int → Int) → Prop} {S0 : Nat → Int → Int} {ws : List Int} (hP : rxPBT S0 ws) : bx_obC rxL X S0 rxCBT.2.2.1 (rxIBT S0 ws) (rxmBT S0 ws) 10 rxzBT_10 rxoBT_10_0 := by
  intro S S_p r r_p hinv hX hin hsm_ hseg
  obtain ⟨I0, I1, h0_, hr_, b_, f_, d_⟩ := bx_cl (evs := []) (fvs := [(3, (8, 0), (0, (-1)), (0, 0))]) hseg (by decide +kernel) (by decide +kernel)
  have hinv : rxIBT_10 S0 ws S (r 8) := hinv
  rw [← hr_ 8 (by decide)] at hinv
  obtain ⟨⟨l8, u8⟩, -⟩ := b_
  obtain ⟨f0, -⟩ := f_
  have w_ := d_
  subst w_
  have g := rxcBT_10_0 hP hin I0 hinv l8 u8 f0
  refine ⟨bx_narP_ok (l := []) g.1, bx_nfP_ok h0_ (fvs := []) (by decide +kernel) g.2.1, ?_, ?_⟩
  · show rxIBT_11 S0 ws S_p
    exact g.2.2.1
  · show rxmBT_11 S0 ws S_p < rxmBT_10 S0 ws S_p (r 8)
    rw [← hr_ 8 (by decide)]
    exact g.2.2.2
theorem rxdBT_10_0 {S0 : Nat → Int → Int} {ws : List Int} {S : Nat → Int → Int} {its : Int} (hP : rxPBT S0 ws) (hin : bx_same rxL (bx_mdl rxCBT.2.2.1) S0 S) (hin2 : bx_same rxL (bx_mdl rxCBT.2.2.1) S S) (I0 : bx_Inv rxL S) (I1 : bx_Inv rxL S) (hinv : rxIBT_10 S0 ws S its) (l8 : (-1) ≤ its) (u8 : its ≤ (-1)) : (True) ∧ rxPSBT S0 ws S (some 4) := by
  obtain ⟨rfl, h1⟩ := hinv
  obtain ⟨p1, p5, p6⟩ := hP
  refine ⟨trivial, 4, rfl, p1, by omega, fun q => Or.inr (Or.inr ⟨rfl, rfl, ?_⟩)⟩
  rcases h1 with ⟨h1, h2⟩ | ⟨h1, -⟩
  · exact h2
  · omega
theorem rxfBT_10_0 {X : (Nat → Int → Int) → Prop} {S0 : Nat → Int → Int} {ws : List Int} (hP : rxPBT S0 ws) : bx_obE rxL X S0 rxCBT.2.2.1 (rxIBT S0 ws) (rxPSBT S0 ws) 10 rxzBT_10 rxeBT_10_0 := by
  intro S S_p r r_p hinv hX hin hsm_ hseg
  obtain ⟨I0, I1, h0_, hr_, b_, f_, d_⟩ := bx_cl (evs := []) (fvs := []) hseg (by decide +kernel) (by decide +kernel)
  have hinv : rxIBT_10 S0 ws S (r 8) := hinv
  rw [← hr_ 8 (by decide)] at hinv
  obtain ⟨⟨l8, u8⟩, -⟩ := b_
  have w_ := d_
  subst w_
  have g := rxdBT_10_0 hP hin hsm_ I0 I1 hinv l8 u8
  refine ⟨bx_narP_ok (l := []) g.1, ?_⟩
  show rxPSBT S0 ws S_p (some (bx_num r_p (.inr (0, (0, 4)))))
  rw [bx_xv_ok h0_]
  exact g.2
theorem rxcBT_13_0 {S0 : Nat → Int → Int} {ws : List Int} {S : Nat → Int → Int} {is x9 : Int} (hP : rxPBT S0 ws) (hin : bx_same rxL (bx_mdl rxCBT.2.2.1) S0 S) (I0 : bx_Inv rxL S) (hinv : rxIBT_13 S0 ws S is) (l8 : 0 ≤ is) (u8 : is ≤ 1) (l9 : 0 ≤ x9) (u9 : x9 ≤ 0) (e0 : S 480 14 = x9) : (True) ∧ (True) ∧ rxIBT_14 S0 ws S ∧ rxmBT_14 S0 ws S < rxmBT_13 S0 ws S is := by
  obtain ⟨h1, h2, h3, h4, h5⟩ := hinv
  exact ⟨trivial, trivial, ⟨h1, h2, by omega, h3 (by omega), h5⟩, by unfold rxmBT_13 rxmBT_14; omega⟩
theorem rxgBT_13_0 {X : (Nat → Int → Int) → Prop} {S0 : Nat → Int → Int} {ws : List Int} (hP : rxPBT S0 ws) : bx_obC rxL X S0 rxCBT.2.2.1 (rxIBT S0 ws) (rxmBT S0 ws) 13 rxzBT_13 rxoBT_13_0 := by
  intro S S_p r r_p hinv hX hin hsm_ hseg
  obtain ⟨I0, I1, h0_, hr_, b_, f_, d_⟩ := bx_cl (evs := [(0, (0, 480), (0, 14), .inr (0, (9, 0)))]) (fvs := []) hseg (by decide +kernel) (by decide +kernel)
  have hinv : rxIBT_13 S0 ws S (r 8) := hinv
  rw [← hr_ 8 (by decide)] at hinv
  obtain ⟨⟨l8, u8⟩, ⟨l9, u9⟩, -⟩ := b_
  obtain ⟨e0, w_⟩ := d_
  subst w_
  have g := rxcBT_13_0 hP hin I0 hinv l8 u8 l9 u9 e0
  refine ⟨bx_narP_ok (l := []) g.1, bx_nfP_ok h0_ (fvs := []) (by decide +kernel) g.2.1, ?_, ?_⟩
  · show rxIBT_14 S0 ws S_p
    exact g.2.2.1
  · show rxmBT_14 S0 ws S_p < rxmBT_13 S0 ws S_p (r 8)
    rw [← hr_ 8 (by decide)]
    exact g.2.2.2
theorem rxdBT_13_0 {S0 : Nat → Int → Int} {ws : List Int} {S : Nat → Int → Int} {is x9 : Int} (hP : rxPBT S0 ws) (hin : bx_same rxL (bx_mdl rxCBT.2.2.1) S0 S) (hin2 : bx_same rxL (bx_mdl rxCBT.2.2.1) S S) (I0 : bx_Inv rxL S) (I1 : bx_Inv rxL S) (hinv : rxIBT_13 S0 ws S is) (l8 : 0 ≤ is) (u8 : is ≤ 1) (l9 : 1 ≤ x9) (u9 : x9 ≤ 1) (f0 : x9 ≠ 0) (e0 : S 480 14 = x9) : (True) ∧ rxPSBT S0 ws S (some 2) := by
  obtain ⟨h1, h2, h3, h4, h5⟩ := hinv
  obtain ⟨⟨p1, p2, p3, p4⟩, p5, p6⟩ := hP
  have b24 := rxBox24 I0
  have k18 := h2.1
  have k24 := h2.2.1
  have g := h4 (by omega)
  exact ⟨trivial, 2, rfl, ⟨h1, h2.pz p2 (by omega), by omega, by omega⟩, by omega, fun q => by omega⟩
theorem rxfBT_13_0 {X : (Nat → Int → Int) → Prop} {S0 : Nat → Int → Int} {ws : List Int} (hP : rxPBT S0 ws) : bx_obE rxL X S0 rxCBT.2.2.1 (rxIBT S0 ws) (rxPSBT S0 ws) 13 rxzBT_13 rxeBT_13_0 := by
  intro S S_p r r_p hinv hX hin hsm_ hseg
  obtain ⟨I0, I1, h0_, hr_, b_, f_, d_⟩ := bx_cl (evs := [(0, (0, 480), (0, 14), .inr (0, (9, 0)))]) (fvs := [(3, (9, 0), (0, 0), (0, 0))]) hseg (by decide +kernel) (by decide +kernel)
  have hinv : rxIBT_13 S0 ws S (r 8) := hinv
  rw [← hr_ 8 (by decide)] at hinv
  obtain ⟨⟨l8, u8⟩, ⟨l9, u9⟩, -⟩ := b_
  obtain ⟨f0, -⟩ := f_
  obtain ⟨e0, w_⟩ := d_
  subst w_
  have g := rxdBT_13_0 hP hin hsm_ I0 I1 hinv l8 u8 l9 u9 f0 e0
  refine ⟨bx_narP_ok (l := []) g.1, ?_⟩
  show rxPSBT S0 ws S_p (some (bx_num r_p (.inr (0, (0, 2)))))
  rw [bx_xv_ok h0_]
  exact g.2
theorem rxcBT_15_0 {S0 : Nat → Int → Int} {ws : List Int} {S : Nat → Int → Int} {x8 : Int} (hP : rxPBT S0 ws) (hin : bx_same rxL (bx_mdl rxCBT.2.2.1) S0 S) (I0 : bx_Inv rxL S) (hinv : rxIBT_15 S0 ws S) (l8 : 0 ≤ x8) (u8 : x8 ≤ 400) (e0 : S 480 24 = x8) : ((1 ≤ x8 ∧ x8 ≤ 400) ∧ True) ∧ (True) ∧ rxIBT_16 S0 ws S x8 ∧ rxmBT_16 S0 ws S x8 < rxmBT_15 S0 ws S := by
  obtain ⟨h1, h2, h3, h4, h5⟩ := hinv
  exact ⟨⟨by omega, trivial⟩, trivial, ⟨by omega, h1, h2, h3, h4, h5⟩, by unfold rxmBT_15 rxmBT_16; omega⟩
theorem rxgBT_15_0 {X : (Nat → Int → Int) → Prop} {S0 : Nat → Int → Int} {ws : List Int} (hP : rxPBT S0 ws) : bx_obC rxL X S0 rxCBT.2.2.1 (rxIBT S0 ws) (rxmBT S0 ws) 15 rxzBT_15 rxoBT_15_0 := by
  intro S S_p r r_p hinv hX hin hsm_ hseg
  obtain ⟨I0, I1, h0_, hr_, b_, f_, d_⟩ := bx_cl (evs := [(0, (0, 480), (0, 24), .inr (0, (8, 0)))]) (fvs := []) hseg (by decide +kernel) (by decide +kernel)
  have hinv : rxIBT_15 S0 ws S := hinv
  obtain ⟨⟨l8, u8⟩, -⟩ := b_
  obtain ⟨e0, w_⟩ := d_
  subst w_
  have g := rxcBT_15_0 hP hin I0 hinv l8 u8 e0
  refine ⟨bx_narP_ok (l := [(8, 1, 400)]) g.1, bx_nfP_ok h0_ (fvs := []) (by decide +kernel) g.2.1, ?_, ?_⟩
  · show rxIBT_16 S0 ws S_p (bx_val [(0, 0), (0, 0), (0, 0), (0, 0), (0, 0), (0, 0), (0, 0), (0, 0), (8, 0)] r_p 8)
    rw [bx_val_x (n := 8) (e := (8, 0)) h0_ rfl]
    exact g.2.2.1
  · show rxmBT_16 S0 ws S_p (bx_val [(0, 0), (0, 0), (0, 0), (0, 0), (0, 0), (0, 0), (0, 0), (0, 0), (8, 0)] r_p 8) < rxmBT_15 S0 ws S_p
    rw [bx_val_x (n := 8) (e := (8, 0)) h0_ rfl]
    exact g.2.2.2
theorem rxcBT_16_0 {S0 : Nat → Int → Int} {ws : List Int} {S : Nat → Int → Int} {pn x9 : Int} (hP : rxPBT S0 ws) (hin : bx_same rxL (bx_mdl rxCBT.2.2.1) S0 S) (I0 : bx_Inv rxL S) (hinv : rxIBT_16 S0 ws S pn) (l8 : 1 ≤ pn) (u8 : pn ≤ 400) (l9 : 0 ≤ x9) (u9 : x9 ≤ 8) (e0 : (bx_up S 480 24 (pn + (-1))) 480 25 = x9) : ((1 ≤ x9 ∧ x9 ≤ 8) ∧ True) ∧ (True) ∧ rxIBT_17 S0 ws (bx_up S 480 24 (pn + (-1))) x9 ∧ rxmBT_17 S0 ws (bx_up S 480 24 (pn + (-1))) x9 < rxmBT_16 S0 ws S pn := by
  rw [show (bx_up S 480 24 (pn + (-1))) 480 25 = S 480 25 by simp [bx_up]] at e0
  obtain ⟨rfl, h1, h2, h3, h4, h5, h6⟩ := hinv
  have ho := rxOpen1 h1.2.1 h4 (by omega)
  exact ⟨⟨by omega, trivial⟩, trivial, ⟨S, rfl, by omega, h1, h2, h3, h4, h5, h6⟩, by unfold rxmBT_16 rxmBT_17; omega⟩
theorem rxgBT_16_0 {X : (Nat → Int → Int) → Prop} {S0 : Nat → Int → Int} {ws : List Int} (hP : rxPBT S0 ws) : bx_obC rxL X S0 rxCBT.2.2.1 (rxIBT S0 ws) (rxmBT S0 ws) 16 rxzBT_16 rxoBT_16_0 := by
  intro S S_p r r_p hinv hX hin hsm_ hseg
  obtain ⟨I0, I1, h0_, hr_, b_, f_, d_⟩ := bx_cl (evs := [(0, (0, 480), (0, 25), .inr (0, (9, 0))), (1, (0, 480), (0, 24), .inr (0, (8, (-1))))]) (fvs := []) hseg (by decide +kernel) (by decide +kernel)
  have hinv : rxIBT_16 S0 ws S (r 8) := hinv
  rw [← hr_ 8 (by decide)] at hinv
  obtain ⟨⟨l8, u8⟩, ⟨l9, u9⟩, -⟩ := b_
  obtain ⟨e0, ⟨T1, w_, w1⟩⟩ := d_
  subst w1
  subst w_
  have g := rxcBT_16_0 hP hin I0 hinv l8 u8 l9 u9 e0
  refine ⟨bx_narP_ok (l := [(9, 1, 8)]) g.1, bx_nfP_ok h0_ (fvs := []) (by decide +kernel) g.2.1, ?_, ?_⟩
  · show rxIBT_17 S0 ws (bx_up T1 480 (24) (r_p 8 + (-1))) (bx_val [(0, 0), (0, 0), (0, 0), (0, 0), (0, 0), (0, 0), (0, 0), (0, 0), (9, 0)] r_p 8)
    rw [bx_val_x (n := 8) (e := (9, 0)) h0_ rfl]
    exact g.2.2.1
  · show rxmBT_17 S0 ws (bx_up T1 480 (24) (r_p 8 + (-1))) (bx_val [(0, 0), (0, 0), (0, 0), (0, 0), (0, 0), (0, 0), (0, 0), (0, 0), (9, 0)] r_p 8) < rxmBT_16 S0 ws T1 (r 8)
    rw [bx_val_x (n := 8) (e := (9, 0)) h0_ rfl, ← hr_ 8 (by decide)]
    exact g.2.2.2
theorem rxdBT_17_0 {S0 : Nat → Int → Int} {ws : List Int} {S : Nat → Int → Int} {q : Int} (hP : rxPBT S0 ws) (hin : bx_same rxL (bx_mdl rxCBT.2.2.1) S0 S) (hin2 : bx_same rxL (bx_mdl rxCBT.2.2.1) S (bx_up S 480 25 (q + (-1)))) (I0 : bx_Inv rxL S) (I1 : bx_Inv rxL (bx_up S 480 25 (q + (-1)))) (hinv : rxIBT_17 S0 ws S q) (l8 : 1 ≤ q) (u8 : q ≤ 8) : (True) ∧ rxPSBT S0 ws (bx_up S 480 25 (q + (-1))) (some 2) := by
  obtain ⟨S1, rfl, rfl, h1, h2, h3, h4, h5, h6⟩ := hinv
  have g := rxPopB h1.2.1 h4 (by omega)
  obtain ⟨⟨z1, z2, z3, z4, z5, z6⟩, y2, y3, y4⟩ := h1
  refine ⟨trivial, 2, rfl, ⟨?_, g.1, ?_, ?_⟩, by omega, fun q => Or.inr (Or.inl ⟨rfl, ?_, (h2.tr g.2.1), g.2.2 h6⟩)⟩
  · unfold rxTk
    simp [bx_up]
    omega
  · simp [bx_up]
    omega
  · simp [bx_up]
    omega
  · simp [bx_up]
    exact h3
theorem rxfBT_17_0 {X : (Nat → Int → Int) → Prop} {S0 : Nat → Int → Int} {ws : List Int} (hP : rxPBT S0 ws) : bx_obE rxL X S0 rxCBT.2.2.1 (rxIBT S0 ws) (rxPSBT S0 ws) 17 rxzBT_17 rxeBT_17_0 := by
  intro S S_p r r_p hinv hX hin hsm_ hseg
  obtain ⟨I0, I1, h0_, hr_, b_, f_, d_⟩ := bx_cl (evs := [(1, (0, 480), (0, 25), .inr (0, (8, (-1))))]) (fvs := []) hseg (by decide +kernel) (by decide +kernel)
  have hinv : rxIBT_17 S0 ws S (r 8) := hinv
  rw [← hr_ 8 (by decide)] at hinv
  obtain ⟨⟨l8, u8⟩, -⟩ := b_
  obtain ⟨T0, w_, w0⟩ := d_
  subst w0
  subst w_
  have g := rxdBT_17_0 hP hin hsm_ I0 I1 hinv l8 u8
  refine ⟨bx_narP_ok (l := []) g.1, ?_⟩
  show rxPSBT S0 ws (bx_up T0 480 (25) (r_p 8 + (-1))) (some (bx_num r_p (.inr (0, (0, 2)))))
  rw [bx_xv_ok h0_]
  exact g.2
theorem rxgCBT {X : (Nat → Int → Int) → Prop} {S0 : Nat → Int → Int} {ws : List Int} (hP : rxPBT S0 ws) : bx_allI (fun i q => rxUBT q = true ∨ bx_allP (fun o => bx_obC rxL X S0 rxCBT.2.2.1 (rxIBT S0 ws) (rxmBT S0 ws) i q.1 o) q.2.1) 0 rxYBT := ⟨Or.inr ⟨rxgBT_0_0 hP, rxgBT_0_1 hP, rxgBT_0_2 hP, rxgBT_0_3 hP, trivial⟩, Or.inl rfl, Or.inr ⟨rxgBT_2_0 hP, rxgBT_2_1 hP, trivial⟩, Or.inl rfl, Or.inr ⟨rxgBT_4_0 hP, rxgBT_4_1 hP, trivial⟩, Or.inl rfl, Or.inr ⟨rxgBT_6_0 hP, trivial⟩, Or.inl rfl, Or.inr trivial, Or.inl rfl, Or.inr ⟨rxgBT_10_0 hP, trivial⟩, Or.inl rfl, Or.inl rfl, Or.inr ⟨rxgBT_13_0 hP, trivial⟩, Or.inl rfl, Or.inr ⟨rxgBT_15_0 hP, trivial⟩, Or.inr ⟨rxgBT_16_0 hP, trivial⟩, Or.inr trivial, trivial⟩
theorem rxgEBT {X : (Nat → Int → Int) → Prop} {S0 : Nat → Int → Int} {ws : List Int} (hP : rxPBT S0 ws) : bx_allI (fun i q => rxUBT q = true ∨ bx_allP (fun E => bx_obE rxL X S0 rxCBT.2.2.1 (rxIBT S0 ws) (rxPSBT S0 ws) i q.1 E) q.2.2) 0 rxYBT := ⟨Or.inr trivial, Or.inl rfl, Or.inr trivial, Or.inl rfl, Or.inr trivial, Or.inl rfl, Or.inr trivial, Or.inl rfl, Or.inr ⟨rxfBT_8_0 hP, trivial⟩, Or.inl rfl, Or.inr ⟨rxfBT_10_0 hP, trivial⟩, Or.inl rfl, Or.inl rfl, Or.inr ⟨rxfBT_13_0 hP, trivial⟩, Or.inl rfl, Or.inr trivial, Or.inr trivial, Or.inr ⟨rxfBT_17_0 hP, trivial⟩, trivial⟩
theorem rxuBT {PX : State → Prop} {Dg : va_G} {A : Nat → Prop} {ad xa : Nat → Nat} {l : Launch} {X : (Nat → Int → Int) → Prop} (hPX : rx_PXOK rxNW A PX) (hX : ∀ S S1 : Nat → Int → Int, X S → bx_same rxL (bx_mdl rxCBT.2.2.1) S S1 → X S1) (hQST : bx_ConP rxG rxNW rxAO PX Dg rxL X vwCl A ad l rxM275 rxCST rxPST rxPSST) (hQPU : bx_ConP rxG rxNW rxAO PX Dg rxL X vwCl A ad l rxM268 rxCPU rxPPU rxPSPU) (hQEM : bx_ConP rxG rxNW rxAO PX Dg rxL X vwCl A ad l rxM266 rxCEM rxPEM rxPSEM) (hQNX : bx_ConP rxG rxNW rxAO PX Dg rxL X vwCl A ad l rxM264 rxCNX rxPNX rxPSNX) (hQIN : bx_ConP rxG rxNW rxAO PX Dg rxL X vwCl A ad l rxM276 rxCIN rxPIN rxPSIN) (hQIS : bx_ConP rxG rxNW rxAO PX Dg rxL X vwCl A ad l rxM269 rxCIS rxPIS rxPSIS) (hQMU : bx_ConP rxG rxNW rxAO PX Dg rxL X vwCl A ad l rxM265 rxCMU rxPMU rxPSMU) {S0 : Nat → Int → Int} {ws : List Int} (hP : rxPBT S0 ws) : ∀ (i : Nat) (q : bx_HE), rxYBT[i]? = some q → rxUBT q = true → ∀ {p : Program} {e : Env} {R : Room} {s : State} {m : MethodId} {args : Array Value} {below : List Frame} {meth : Method} {c : Code} {Q : State → Prop} {H0 : Heap}, rx_Fr rxG rxNW rxAO PX p s m args meth c rxM280 → (∀ q, H0.size ≤ q → A q) → H0 = s.heap → rxM280.2.2.2.2.2.2.1 ≤ R.cells → rxM280.2.2.2.2.2.2.2 ≤ R.slots → rxCBT.2.2.2.1 ≤ R.frames → rxCBT.2.2.2.1 * 40 ≤ R.locals → bx_Step p l e R s m args below meth c Q Dg rxL X vwCl A xa H0 ad rxM280 rxYBT (rxIBT S0 ws) (rxmBT S0 ws) S0 rxCBT.2.2.1 i q := by
  intro i q hq hus p e R s m args below meth c Q H0 hF hA hH0 hmc hms hd hdl
  match i, hq with
  | 0, hq =>
    cases hq
    exact absurd (show false = true from hus) Bool.false_ne_true
  | 1, hq =>
    cases hq
    exact rx_stepC (ins := .invokevirtual 347) (len := 3) (i_p := 2) (M_p := rxM275) (d := rxCBT.2.2.2.1) (as := [.inr (3, (0, 480)), .inr (0, (9, 0))]) (t := []) (ct := rxCST) hPX hF rfl hA hH0 hmc hms hd hdl (by decide +kernel) rfl rfl (by decide +kernel) (by decide +kernel) hQST (by decide +kernel) rfl (Or.inl ⟨rfl, rfl, rfl⟩) (rxsBT_1 hP)
  | 2, hq =>
    cases hq
    exact absurd (show false = true from hus) Bool.false_ne_true
  | 3, hq =>
    cases hq
    exact rx_stepC (ins := .invokevirtual 314) (len := 3) (i_p := 4) (M_p := rxM268) (d := rxCBT.2.2.2.1) (as := [.inr (3, (0, 480)), .inr (0, (9, 0)), .inr (0, (10, 0))]) (t := []) (ct := rxCPU) hPX hF rfl hA hH0 hmc hms hd hdl (by decide +kernel) rfl rfl (by decide +kernel) (by decide +kernel) hQPU (by decide +kernel) rfl (Or.inl ⟨rfl, rfl, rfl⟩) (rxsBT_3 hP)
  | 4, hq =>
    cases hq
    exact absurd (show false = true from hus) Bool.false_ne_true
  | 5, hq =>
    cases hq
    exact rx_stepC (ins := .invokevirtual 297) (len := 3) (i_p := 6) (M_p := rxM266) (d := rxCBT.2.2.2.1) (as := [.inr (3, (0, 480)), .inr (0, (9, 0)), .inr (0, (0, 0))]) (t := []) (ct := rxCEM) hPX hF rfl hA hH0 hmc hms hd hdl (by decide +kernel) rfl rfl (by decide +kernel) (by decide +kernel) hQEM (by decide +kernel) rfl (Or.inl ⟨rfl, rfl, rfl⟩) (rxsBT_5 hP)
  | 6, hq =>
    cases hq
    exact absurd (show false = true from hus) Bool.false_ne_true
  | 7, hq =>
    cases hq
    exact rx_stepC (ins := .invokevirtual 253) (len := 3) (i_p := 8) (M_p := rxM264) (d := rxCBT.2.2.2.1) (as := [.inr (3, (0, 480))]) (t := []) (ct := rxCNX) hPX hF rfl hA hH0 hmc hms hd hdl (by decide +kernel) rfl rfl (by decide +kernel) (by decide +kernel) hQNX (by decide +kernel) rfl (Or.inl ⟨rfl, rfl, rfl⟩) (rxsBT_7 hP)
  | 8, hq =>
    cases hq
    exact absurd (show false = true from hus) Bool.false_ne_true
  | 9, hq =>
    cases hq
    exact rx_stepC (ins := .invokevirtual 350) (len := 3) (i_p := 10) (M_p := rxM276) (d := rxCBT.2.2.2.1) (as := [.inr (3, (0, 480))]) (t := []) (ct := rxCIN) hPX hF rfl hA hH0 hmc hms hd hdl (by decide +kernel) rfl rfl (by decide +kernel) (by decide +kernel) hQIN (by decide +kernel) rfl (Or.inr ⟨_, _, _, 1, rfl, rfl, by omega, rfl, rfl, rfl⟩) (rxsBT_9 hP)
  | 10, hq =>
    cases hq
    exact absurd (show false = true from hus) Bool.false_ne_true
  | 11, hq =>
    cases hq
    exact rx_stepC (ins := .invokevirtual 320) (len := 3) (i_p := 12) (M_p := rxM269) (d := rxCBT.2.2.2.1) (as := [.inr (3, (0, 480)), .inr (0, (0, 41))]) (t := [.inr (3, (0, 480))]) (ct := rxCIS) hPX hF rfl hA hH0 hmc hms hd hdl (by decide +kernel) rfl rfl (by decide +kernel) (by decide +kernel) hQIS (by decide +kernel) rfl (Or.inr ⟨_, _, _, 1, rfl, rfl, by omega, rfl, rfl, rfl⟩) (rxsBT_11 hP)
  | 12, hq =>
    cases hq
    exact rx_stepC (ins := .invokevirtual 284) (len := 3) (i_p := 13) (M_p := rxM265) (d := rxCBT.2.2.2.1) (as := [.inr (3, (0, 480)), .inr (0, (8, 0))]) (t := []) (ct := rxCMU) hPX hF rfl hA hH0 hmc hms hd hdl (by decide +kernel) rfl rfl (by decide +kernel) (by decide +kernel) hQMU (by decide +kernel) rfl (Or.inl ⟨rfl, rfl, rfl⟩) (rxsBT_12 hP)
  | 13, hq =>
    cases hq
    exact absurd (show false = true from hus) Bool.false_ne_true
  | 14, hq =>
    cases hq
    exact rx_stepC (ins := .invokevirtual 347) (len := 3) (i_p := 15) (M_p := rxM275) (d := rxCBT.2.2.2.1) (as := [.inr (3, (0, 480)), .inr (0, (0, 1))]) (t := []) (ct := rxCST) hPX hF rfl hA hH0 hmc hms hd hdl (by decide +kernel) rfl rfl (by decide +kernel) (by decide +kernel) hQST (by decide +kernel) rfl (Or.inl ⟨rfl, rfl, rfl⟩) (rxsBT_14 hP)
  | 15, hq =>
    cases hq
    exact absurd (show false = true from hus) Bool.false_ne_true
  | 16, hq =>
    cases hq
    exact absurd (show false = true from hus) Bool.false_ne_true
  | 17, hq =>
    cases hq
    exact absurd (show false = true from hus) Bool.false_ne_true
  | n + 18, hq => cases hq
theorem rxQBT {PX : State → Prop} {Dg : va_G} {A : Nat → Prop} {ad xa : Nat → Nat} {l : Launch} {X : (Nat → Int → Int) → Prop} (hPX : rx_PXOK rxNW A PX) (hsl : ∀ s : State, PX s → ∀ o idx n : Nat, rxSl o idx = some n → ∃ tx : String, vk_R (rxNm o) idx tx (ad n) s)
    (hX : ∀ S S_p : Nat → Int → Int, X S → bx_same rxL (bx_mdl rxCBT.2.2.1) S S_p → X S_p)
    (ih : ∀ (j2 : Nat) (ct2 : bx_Ct) (M2 : rx_Mt), ct2 ∈ rxCnE j2 → ct2.2.2.2.1 + 1 ≤ rxCBT.2.2.2.1 → rxT.2.2.2.2.2 j2 = some M2 → bx_Con rxG rxNW rxAO PX Dg rxL X vwCl A ad l M2 ct2) (hQST : bx_ConP rxG rxNW rxAO PX Dg rxL X vwCl A ad l rxM275 rxCST rxPST rxPSST) (hQPU : bx_ConP rxG rxNW rxAO PX Dg rxL X vwCl A ad l rxM268 rxCPU rxPPU rxPSPU) (hQEM : bx_ConP rxG rxNW rxAO PX Dg rxL X vwCl A ad l rxM266 rxCEM rxPEM rxPSEM) (hQNX : bx_ConP rxG rxNW rxAO PX Dg rxL X vwCl A ad l rxM264 rxCNX rxPNX rxPSNX) (hQIN : bx_ConP rxG rxNW rxAO PX Dg rxL X vwCl A ad l rxM276 rxCIN rxPIN rxPSIN) (hQIS : bx_ConP rxG rxNW rxAO PX Dg rxL X vwCl A ad l rxM269 rxCIS rxPIS rxPSIS) (hQMU : bx_ConP rxG rxNW rxAO PX Dg rxL X vwCl A ad l rxM265 rxCMU rxPMU rxPSMU) : bx_ConP rxG rxNW rxAO PX Dg rxL X vwCl A ad l rxM280 rxCBT rxPBT rxPSBT :=
  rxQof (xa := xa) (Cn := rxCnE) (f := 30000) (j := 280) (tab := rxYBT) (us := rxUBT) hPX hsl hX ih rfl rxYcBT rxIBT rxmBT
    (fun S0 ws r I0 I ht0 ht as he he1 hX0 hI0 hP hs ha => by
      have e := he.symm.trans (show bx_ent0 rxNP rxCBT.1 bx_I0 [] = some ([(0, 0), (0, 0), (0, 0), (0, 0), (0, 0), (0, 0), (0, 0), (0, 0)], [], [.inr (3, (0, 480))]) from rfl)
      cases e
      subst ha
      have h0 : r 0 = 0 := hs.1
      show rxIBT_0 S0 _ S0
      refine ⟨rfl, ?_⟩
      simp only [List.map_cons, List.map_nil, bx_xv_ok h0]
      rfl)
    (fun S0 ws hP => rxuBT (xa := xa) hPX hX hQST hQPU hQEM hQNX hQIN hQIS hQMU hP) (fun S0 ws hP => rxgCBT hP) (fun S0 ws hP => rxgEBT hP)
