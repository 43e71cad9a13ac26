noncomputable def rxCBS : bx_Ct := ([(3, (1, 480, 0)), (0, (0, 0, 1))], some (0, (0, 0, 4)), [(12, 9), (12, 10), (12, 11), (12, 12), (12, 13), (12, 14), (12, 18), (12, 21), (12, 24), (12, 25), (1068, 0), (1069, 0), (1070, 0), (1071, 0)], 5, [])
noncomputable def rxIBS_0 (S0 : Nat → Int → Int) (ws : List Int) (S : Nat → Int → Int) (test : Int) : Prop := S = S0 ∧ ws = [480, test]
noncomputable def rxmBS_0 (S0 : Nat → Int → Int) (ws : List Int) (S : Nat → Int → Int) (test : Int) : Nat := 1000
noncomputable def rxzBS_0 : rx_Z := ([(0, 0), (0, 0), (0, 0), (0, 0), (0, 0), (0, 0), (0, 0), (0, 0), (0, 1)], [], [], 0, 0, 0, [(0, .inr (3, (0, 480))), (1, .inr (0, (8, 0)))], [])
noncomputable def rxIBS_1 (S0 : Nat → Int → Int) (ws : List Int) (S : Nat → Int → Int) (test op : Int) : Prop := S = S0 ∧ ws = [480, test] ∧ (op = -1 ∨ (20 ≤ op ∧ S 480 11 ≠ 0))
noncomputable def rxmBS_1 (S0 : Nat → Int → Int) (ws : List Int) (S : Nat → Int → Int) (test op : Int) : Nat := 900
noncomputable def rxzBS_1 : rx_Z := ([(0, 0), (0, 0), (0, 0), (0, 0), (0, 0), (0, 0), (0, 0), (0, 0), (0, 1), ((-1), 24)], [], [], 0, 0, 72, [(0, .inr (3, (0, 480))), (1, .inr (0, (8, 0))), (2, .inr (0, (9, 0)))], [])
noncomputable def rxIBS_2 (S0 : Nat → Int → Int) (ws : List Int) (S : Nat → Int → Int) (test op op2 : Int) : Prop := S = S0 ∧ S 480 11 ≠ 0
noncomputable def rxmBS_2 (S0 : Nat → Int → Int) (ws : List Int) (S : Nat → Int → Int) (test op op2 : Int) : Nat := 810
noncomputable def rxzBS_2 : rx_Z := ([(0, 0), (0, 0), (0, 0), (0, 0), (0, 0), (0, 0), (0, 0), (0, 0), (0, 1), (20, 24), (20, 24)], [], [], 0, 0, 79, [(0, .inr (3, (0, 480))), (1, .inr (0, (8, 0))), (2, .inr (0, (9, 0)))], [.inr (0, (10, 0)), .inr (3, (0, 480))])
noncomputable def rxIBS_3 (S0 : Nat → Int → Int) (ws : List Int) (S : Nat → Int → Int) (test op op2 bd : Int) : Prop := S = S0 ∧ S 480 11 ≠ 0
noncomputable def rxmBS_3 (S0 : Nat → Int → Int) (ws : List Int) (S : Nat → Int → Int) (test op op2 bd : Int) : Nat := 800
noncomputable def rxzBS_3 : rx_Z := ([(0, 0), (0, 0), (0, 0), (0, 0), (0, 0), (0, 0), (0, 0), (0, 0), (0, 1), (20, 24), (20, 24), (5, 6)], [], [], 0, 0, 82, [(0, .inr (3, (0, 480))), (1, .inr (0, (8, 0))), (2, .inr (0, (9, 0)))], [.inr (0, (11, 0)), .inr (3, (0, 480))])
noncomputable def rxIBS_4 (S0 : Nat → Int → Int) (ws : List Int) (S : Nat → Int → Int) (test op op2 bd : Int) : Prop := ∃ l : Int, rxSt S0 S l ∧ rxTm S0 S ∧ S 480 11 ≠ 0
noncomputable def rxmBS_4 (S0 : Nat → Int → Int) (ws : List Int) (S : Nat → Int → Int) (test op op2 bd : Int) : Nat := 790
noncomputable def rxzBS_4 : rx_Z := ([(0, 0), (0, 0), (0, 0), (0, 0), (0, 0), (0, 0), (0, 0), (0, 0), (0, 1), (20, 24), (20, 24), (5, 6)], [], [], 0, 0, 85, [(0, .inr (3, (0, 480))), (1, .inr (0, (8, 0))), (2, .inr (0, (9, 0)))], [])
noncomputable def rxIBS_5 (S0 : Nat → Int → Int) (ws : List Int) (S : Nat → Int → Int) (test op op2 : Int) : Prop := ∃ l : Int, rxSt S0 S l ∧ rxTm S0 S ∧ S 480 11 ≠ 0
noncomputable def rxmBS_5 (S0 : Nat → Int → Int) (ws : List Int) (S : Nat → Int → Int) (test op op2 : Int) : Nat := 780
noncomputable def rxzBS_5 : rx_Z := ([(0, 0), (0, 0), (0, 0), (0, 0), (0, 0), (0, 0), (0, 0), (0, 0), (0, 1), (20, 24), (20, 24)], [], [], 0, 0, 88, [(0, .inr (3, (0, 480))), (1, .inr (0, (8, 0))), (2, .inr (0, (9, 0)))], [.inr (0, (0, 0)), .inr (0, (10, 0)), .inr (3, (0, 480))])
noncomputable def rxIBS_6 (S0 : Nat → Int → Int) (ws : List Int) (S : Nat → Int → Int) (test op op2 : Int) : Prop := ∃ S1 : Nat → Int → Int, (∃ l : Int, rxSt S0 S1 l) ∧ rxTm S0 S1 ∧ S = rxPuE S1 op2 0 ∧ S 480 11 ≠ 0
noncomputable def rxmBS_6 (S0 : Nat → Int → Int) (ws : List Int) (S : Nat → Int → Int) (test op op2 : Int) : Nat := 770
noncomputable def rxzBS_6 : rx_Z := ([(0, 0), (0, 0), (0, 0), (0, 0), (0, 0), (0, 0), (0, 0), (0, 0), (0, 1), (20, 24), (20, 24)], [], [], 0, 0, 91, [(0, .inr (3, (0, 480))), (1, .inr (0, (8, 0))), (2, .inr (0, (9, 0)))], [])
noncomputable def rxIBS_7 (S0 : Nat → Int → Int) (ws : List Int) (S : Nat → Int → Int) (test op : Int) : Prop := ∃ S1 : Nat → Int → Int, ∃ op2 : Int, 20 ≤ op2 ∧ op2 ≤ 24 ∧ (∃ l : Int, rxSt S0 S1 l) ∧ rxTm S0 S1 ∧ S = rxPuE S1 op2 0 ∧ S 480 11 ≠ 0
noncomputable def rxmBS_7 (S0 : Nat → Int → Int) (ws : List Int) (S : Nat → Int → Int) (test op : Int) : Nat := 760
noncomputable def rxzBS_7 : rx_Z := ([(0, 0), (0, 0), (0, 0), (0, 0), (0, 0), (0, 0), (0, 0), (0, 0), (0, 1), (20, 24)], [], [], 0, 0, 92, [(0, .inr (3, (0, 480))), (1, .inr (0, (8, 0))), (2, .inr (0, (9, 0)))], [.inr (3, (0, 480))])
noncomputable def rxIBS_8 (S0 : Nat → Int → Int) (ws : List Int) (S : Nat → Int → Int) (test op : Int) : Prop := rxPt S ∧ (S 480 14 = 0 → S0 480 9 < S 480 9 ∧ rxEf S0 S 1 0)
noncomputable def rxmBS_8 (S0 : Nat → Int → Int) (ws : List Int) (S : Nat → Int → Int) (test op : Int) : Nat := 750
noncomputable def rxzBS_8 : rx_Z := ([(0, 0), (0, 0), (0, 0), (0, 0), (0, 0), (0, 0), (0, 0), (0, 0), (0, 1), (20, 24)], [], [], 0, 0, 95, [(0, .inr (3, (0, 480))), (1, .inr (0, (8, 0))), (2, .inr (0, (9, 0)))], [])
noncomputable def rxIBS_9 (S0 : Nat → Int → Int) (ws : List Int) (S : Nat → Int → Int) (test : Int) : Prop := S = S0
noncomputable def rxmBS_9 (S0 : Nat → Int → Int) (ws : List Int) (S : Nat → Int → Int) (test : Int) : Nat := 700
noncomputable def rxzBS_9 : rx_Z := ([(0, 0), (0, 0), (0, 0), (0, 0), (0, 0), (0, 0), (0, 0), (0, 0), (0, 1)], [], [], 0, 0, 98, [(0, .inr (3, (0, 480))), (1, .inr (0, (8, 0)))], [.inr (3, (0, 480))])
noncomputable def rxIBS_10 (S0 : Nat → Int → Int) (ws : List Int) (S : Nat → Int → Int) (test its : Int) : Prop := S = S0 ∧ ((its = -1 ∧ ∀ j : Int, 0 ≤ j → j < S 480 24 → S 489 j < 31) ∨ (31 ≤ its ∧ ∃ b : Int, 0 ≤ b ∧ b < S 480 24 ∧ S 489 b = its ∧ ∀ j : Int, b < j → j < S 480 24 → S 489 j < 31))
noncomputable def rxmBS_10 (S0 : Nat → Int → Int) (ws : List Int) (S : Nat → Int → Int) (test its : Int) : Nat := 690
noncomputable def rxzBS_10 : rx_Z := ([(0, 0), (0, 0), (0, 0), (0, 0), (0, 0), (0, 0), (0, 0), (0, 0), (0, 1), ((-1), 32)], [], [], 0, 0, 101, [(0, .inr (3, (0, 480))), (1, .inr (0, (8, 0)))], [.inr (0, (9, 0))])
noncomputable def rxIBS_11 (S0 : Nat → Int → Int) (ws : List Int) (S : Nat → Int → Int) (test : Int) : Prop := S = S0 ∧ ∃ b : Int, 0 ≤ b ∧ b < S 480 24 ∧ S 489 b = 32 ∧ ∀ j : Int, b < j → j < S 480 24 → S 489 j < 31
noncomputable def rxmBS_11 (S0 : Nat → Int → Int) (ws : List Int) (S : Nat → Int → Int) (test : Int) : Nat := 680
noncomputable def rxzBS_11 : rx_Z := ([(0, 0), (0, 0), (0, 0), (0, 0), (0, 0), (0, 0), (0, 0), (0, 0), (0, 1)], [], [], 0, 0, 112, [(0, .inr (3, (0, 480))), (1, .inr (0, (8, 0)))], [.inr (0, (0, 93)), .inr (3, (0, 480)), .inr (3, (0, 480))])
noncomputable def rxIBS_12 (S0 : Nat → Int → Int) (ws : List Int) (S : Nat → Int → Int) (test is : Int) : Prop := S = S0 ∧ (∃ b : Int, 0 ≤ b ∧ b < S 480 24 ∧ S 489 b = 32 ∧ ∀ j : Int, b < j → j < S 480 24 → S 489 j < 31) ∧ (is = 1 → S 480 11 ≠ 0)
noncomputable def rxmBS_12 (S0 : Nat → Int → Int) (ws : List Int) (S : Nat → Int → Int) (test is : Int) : Nat := 670
noncomputable def rxzBS_12 : rx_Z := ([(0, 0), (0, 0), (0, 0), (0, 0), (0, 0), (0, 0), (0, 0), (0, 0), (0, 1), (0, 1)], [], [], 0, 0, 115, [(0, .inr (3, (0, 480))), (1, .inr (0, (8, 0)))], [.inr (0, (9, 0)), .inr (3, (0, 480))])
noncomputable def rxIBS_13 (S0 : Nat → Int → Int) (ws : List Int) (S : Nat → Int → Int) (test is : Int) : Prop := rxTk S ∧ rxSm S0 S ∧ (S 480 14 = 0 → S0 480 9 < S 480 9) ∧ (S 480 14 ≠ 0 → S 480 9 = S0 480 9) ∧ (∃ b : Int, 0 ≤ b ∧ b < S 480 24 ∧ S 489 b = 32 ∧ ∀ j : Int, b < j → j < S 480 24 → S 489 j < 31)
noncomputable def rxmBS_13 (S0 : Nat → Int → Int) (ws : List Int) (S : Nat → Int → Int) (test is : Int) : Nat := 660
noncomputable def rxzBS_13 : rx_Z := ([(0, 0), (0, 0), (0, 0), (0, 0), (0, 0), (0, 0), (0, 0), (0, 0), (0, 1), (0, 1)], [], [], 0, 0, 118, [(0, .inr (3, (0, 480))), (1, .inr (0, (8, 0)))], [])
noncomputable def rxIBS_14 (S0 : Nat → Int → Int) (ws : List Int) (S : Nat → Int → Int) (test : Int) : Prop := rxTk S ∧ rxSm S0 S ∧ S 480 14 = 0 ∧ S0 480 9 < S 480 9 ∧ (∃ b : Int, 0 ≤ b ∧ b < S 480 24 ∧ S 489 b = 32 ∧ ∀ j : Int, b < j → j < S 480 24 → S 489 j < 31)
noncomputable def rxmBS_14 (S0 : Nat → Int → Int) (ws : List Int) (S : Nat → Int → Int) (test : Int) : Nat := 650
noncomputable def rxzBS_14 : rx_Z := ([(0, 0), (0, 0), (0, 0), (0, 0), (0, 0), (0, 0), (0, 0), (0, 0), (0, 1)], [], [], 0, 0, 127, [(0, .inr (3, (0, 480))), (1, .inr (0, (8, 0)))], [.inr (0, (0, 5)), .inr (3, (0, 480))])
noncomputable def rxIBS_15 (S0 : Nat → Int → Int) (ws : List Int) (S : Nat → Int → Int) (test : Int) : Prop := rxPt S ∧ rxEf S0 S 1 1 ∧ S0 480 9 < S 480 9 ∧ 1 ≤ S 480 24 ∧ S 489 (S 480 24 - 1) = 32
noncomputable def rxmBS_15 (S0 : Nat → Int → Int) (ws : List Int) (S : Nat → Int → Int) (test : Int) : Nat := 640
noncomputable def rxzBS_15 : rx_Z := ([(0, 0), (0, 0), (0, 0), (0, 0), (0, 0), (0, 0), (0, 0), (0, 0), (0, 1)], [], [], 0, 0, 130, [(0, .inr (3, (0, 480))), (1, .inr (0, (8, 0)))], [])
noncomputable def rxIBS_16 (S0 : Nat → Int → Int) (ws : List Int) (S : Nat → Int → Int) (test pn : Int) : Prop := pn = S 480 24 ∧ rxPt S ∧ rxEf S0 S 1 1 ∧ S0 480 9 < S 480 9 ∧ 1 ≤ S 480 24 ∧ S 489 (S 480 24 - 1) = 32
noncomputable def rxmBS_16 (S0 : Nat → Int → Int) (ws : List Int) (S : Nat → Int → Int) (test pn : Int) : Nat := 630
noncomputable def rxzBS_16 : rx_Z := ([(0, 0), (0, 0), (0, 0), (0, 0), (0, 0), (0, 0), (0, 0), (0, 0), (0, 1), (1, 400)], [], [], 0, 0, 135, [(0, .inr (3, (0, 480))), (1, .inr (0, (8, 0)))], [.inr (0, (9, 0)), .inr (3, (0, 480))])
noncomputable def rxIBS_17 (S0 : Nat → Int → Int) (ws : List Int) (S : Nat → Int → Int) (test q : Int) : Prop := ∃ S1 : Nat → Int → Int, S = bx_up S1 480 24 (S1 480 24 - 1) ∧ q = S1 480 25 ∧ rxPt S1 ∧ rxEf S0 S1 1 1 ∧ S0 480 9 < S1 480 9 ∧ 1 ≤ S1 480 24 ∧ S1 489 (S1 480 24 - 1) = 32
noncomputable def rxmBS_17 (S0 : Nat → Int → Int) (ws : List Int) (S : Nat → Int → Int) (test q : Int) : Nat := 620
noncomputable def rxzBS_17 : rx_Z := ([(0, 0), (0, 0), (0, 0), (0, 0), (0, 0), (0, 0), (0, 0), (0, 0), (0, 1), (1, 8)], [], [], 0, 0, 145, [(0, .inr (3, (0, 480))), (1, .inr (0, (8, 0)))], [.inr (0, (9, 0)), .inr (3, (0, 480))])
noncomputable def rxIBS_18 (S0 : Nat → Int → Int) (ws : List Int) (S : Nat → Int → Int) (test : Int) : Prop := S = S0 ∧ rxNoSq S
noncomputable def rxmBS_18 (S0 : Nat → Int → Int) (ws : List Int) (S : Nat → Int → Int) (test : Int) : Nat := 600
noncomputable def rxzBS_18 : rx_Z := ([(0, 0), (0, 0), (0, 0), (0, 0), (0, 0), (0, 0), (0, 0), (0, 0), (0, 1)], [], [], 0, 0, 164, [(0, .inr (3, (0, 480))), (1, .inr (0, (8, 0)))], [.inr (3, (0, 480))])
noncomputable def rxIBS_19 (S0 : Nat → Int → Int) (ws : List Int) (S : Nat → Int → Int) (test cmp : Int) : Prop := S = S0 ∧ rxNoSq S
noncomputable def rxmBS_19 (S0 : Nat → Int → Int) (ws : List Int) (S : Nat → Int → Int) (test cmp : Int) : Nat := 590
noncomputable def rxzBS_19 : rx_Z := ([(0, 0), (0, 0), (0, 0), (0, 0), (0, 0), (0, 0), (0, 0), (0, 0), (0, 1), (0, 1)], [], [], 0, 0, 167, [(0, .inr (3, (0, 480))), (1, .inr (0, (8, 0)))], [.inr (0, (9, 0))])
noncomputable def rxIBS_20 (S0 : Nat → Int → Int) (ws : List Int) (S : Nat → Int → Int) (test op is : Int) : Prop := S = S0 ∧ rxNoSq S ∧ (is = 1 → S 480 11 ≠ 0)
noncomputable def rxmBS_20 (S0 : Nat → Int → Int) (ws : List Int) (S : Nat → Int → Int) (test op is : Int) : Nat := 580
noncomputable def rxzBS_20 : rx_Z := ([(0, 0), (0, 0), (0, 0), (0, 0), (0, 0), (0, 0), (0, 0), (0, 0), (0, 1), (25, 27), (0, 1)], [], [], 0, 0, 224, [(0, .inr (3, (0, 480))), (1, .inr (0, (8, 0))), (2, .inr (0, (9, 0)))], [.inr (0, (10, 0)), .inr (3, (0, 480))])
noncomputable def rxIBS_21 (S0 : Nat → Int → Int) (ws : List Int) (S : Nat → Int → Int) (test op is : Int) : Prop := rxTk S ∧ rxSm S0 S ∧ (S 480 14 = 0 → S0 480 9 < S 480 9) ∧ (S 480 14 ≠ 0 → S 480 9 = S0 480 9) ∧ rxNoSq S0
noncomputable def rxmBS_21 (S0 : Nat → Int → Int) (ws : List Int) (S : Nat → Int → Int) (test op is : Int) : Nat := 570
noncomputable def rxzBS_21 : rx_Z := ([(0, 0), (0, 0), (0, 0), (0, 0), (0, 0), (0, 0), (0, 0), (0, 0), (0, 1), (25, 27), (0, 1)], [], [], 0, 0, 227, [(0, .inr (3, (0, 480))), (1, .inr (0, (8, 0))), (2, .inr (0, (9, 0)))], [])
noncomputable def rxIBS_22 (S0 : Nat → Int → Int) (ws : List Int) (S : Nat → Int → Int) (test op : Int) : Prop := rxTk S ∧ rxSm S0 S ∧ S 480 14 = 0 ∧ S0 480 9 < S 480 9 ∧ rxNoSq S0
noncomputable def rxmBS_22 (S0 : Nat → Int → Int) (ws : List Int) (S : Nat → Int → Int) (test op : Int) : Nat := 560
noncomputable def rxzBS_22 : rx_Z := ([(0, 0), (0, 0), (0, 0), (0, 0), (0, 0), (0, 0), (0, 0), (0, 0), (0, 1), (25, 27)], [], [], 0, 0, 236, [(0, .inr (3, (0, 480))), (1, .inr (0, (8, 0))), (2, .inr (0, (9, 0)))], [.inr (0, (0, 5)), .inr (3, (0, 480))])
noncomputable def rxIBS_23 (S0 : Nat → Int → Int) (ws : List Int) (S : Nat → Int → Int) (test op : Int) : Prop := rxPt S ∧ rxEf S0 S 1 1 ∧ S0 480 18 + S0 480 24 < S 480 9 ∧ S 480 18 + S 480 24 ≤ S0 480 18 + S0 480 24 ∧ S0 480 9 < S 480 9 ∧ rxNoSq S ∧ S 480 14 = 0
noncomputable def rxmBS_23 (S0 : Nat → Int → Int) (ws : List Int) (S : Nat → Int → Int) (test op : Int) : Nat := 550
noncomputable def rxzBS_23 : rx_Z := ([(0, 0), (0, 0), (0, 0), (0, 0), (0, 0), (0, 0), (0, 0), (0, 0), (0, 1), (25, 27)], [], [], 0, 0, 239, [(0, .inr (3, (0, 480))), (1, .inr (0, (8, 0))), (2, .inr (0, (9, 0)))], [])
noncomputable def rxIBS_24 (S0 : Nat → Int → Int) (ws : List Int) (S : Nat → Int → Int) (test op op2 : Int) : Prop := rxPt S ∧ rxEf S0 S 1 1 ∧ S0 480 18 + S0 480 24 < S 480 9 ∧ S 480 18 + S 480 24 ≤ S0 480 18 + S0 480 24 ∧ S0 480 9 < S 480 9 ∧ rxNoSq S ∧ S 480 14 = 0
noncomputable def rxmBS_24 (S0 : Nat → Int → Int) (ws : List Int) (S : Nat → Int → Int) (test op op2 : Int) : Nat := 540
noncomputable def rxzBS_24 : rx_Z := ([(0, 0), (0, 0), (0, 0), (0, 0), (0, 0), (0, 0), (0, 0), (0, 0), (0, 1), (25, 27), (25, 27)], [], [], 0, 0, 242, [(0, .inr (3, (0, 480))), (1, .inr (0, (8, 0))), (2, .inr (0, (9, 0)))], [.inr (0, (0, 0)), .inr (0, (10, 0)), .inr (3, (0, 480))])
noncomputable def rxIBS_25 (S0 : Nat → Int → Int) (ws : List Int) (S : Nat → Int → Int) (test op op2 : Int) : Prop := rxPt S ∧ (S 480 14 = 0 → S0 480 9 < S 480 9 ∧ rxEf S0 S 1 0)
noncomputable def rxmBS_25 (S0 : Nat → Int → Int) (ws : List Int) (S : Nat → Int → Int) (test op op2 : Int) : Nat := 530
noncomputable def rxzBS_25 : rx_Z := ([(0, 0), (0, 0), (0, 0), (0, 0), (0, 0), (0, 0), (0, 0), (0, 0), (0, 1), (25, 27), (25, 27)], [], [], 0, 0, 245, [(0, .inr (3, (0, 480))), (1, .inr (0, (8, 0))), (2, .inr (0, (9, 0)))], [])
noncomputable def rxoBS_0_0 : bx_HO := (([(0, 0), (0, 0), (0, 0), (0, 0), (0, 0), (0, 0), (0, 0), (0, 0), (0, 1), (0, 2)], [(3, (9, 0), (0, 3)), (3, (9, 0), (0, 3)), (3, (9, 0), (0, 3)), (3, (9, 0), (0, 3)), (3, (9, 0), (0, 3))], [(((0, 0), 1851192626986356799632114105031551009123054124018230966928539648000000), .inr (0, (9, 0))), (((0, 480), 11), .inr (0, (9, 0)))], 0, 0, 72, [(2, .inr (0, (0, (-1)))), (0, .inr (3, (0, 480))), (1, .inr (0, (8, 0)))], []), [], [], [(0, 0), (0, 0), (0, 0), (0, 0), (0, 0), (0, 0), (0, 0), (0, 0), (8, 0), (0, (-1))], 1)
noncomputable def rxoBS_0_1 : bx_HO := (([(0, 0), (0, 0), (0, 0), (0, 0), (0, 0), (0, 0), (0, 0), (0, 0), (0, 1), (3, 3), ((-9223372036854775808), 9223372036854775807)], [(3, (10, 0), (0, 37)), (3, (10, 0), (0, 47)), (3, (10, 0), (0, 42)), (3, (10, 0), (0, 45)), (3, (10, 0), (0, 43))], [(((0, 0), 1851192626986356799832820811818326617396875588472066220482363392000000), .inr (1, (10, 0))), (((0, 480), 12), .inr (1, (10, 0))), (((0, 0), 1851192626986356799632114105031551009123054124018230966928539648000000), .inr (0, (9, 0))), (((0, 480), 11), .inr (0, (9, 0)))], 0, 0, 72, [(2, .inr (0, (0, (-1)))), (0, .inr (3, (0, 480))), (1, .inr (0, (8, 0)))], []), [], [], [(0, 0), (0, 0), (0, 0), (0, 0), (0, 0), (0, 0), (0, 0), (0, 0), (8, 0), (0, (-1))], 1)
noncomputable def rxoBS_0_2 : bx_HO := (([(0, 0), (0, 0), (0, 0), (0, 0), (0, 0), (0, 0), (0, 0), (0, 0), (0, 1), (3, 3), (37, 37)], [(3, (10, 0), (0, 47)), (3, (10, 0), (0, 42)), (3, (10, 0), (0, 45)), (3, (10, 0), (0, 43))], [(((0, 0), 1851192626986356799832820811818326617396875588472066220482363392000000), .inr (1, (10, 0))), (((0, 480), 12), .inr (1, (10, 0))), (((0, 0), 1851192626986356799632114105031551009123054124018230966928539648000000), .inr (0, (9, 0))), (((0, 480), 11), .inr (0, (9, 0)))], 0, 0, 72, [(2, .inr (0, (0, 24))), (0, .inr (3, (0, 480))), (1, .inr (0, (8, 0)))], []), [], [], [(0, 0), (0, 0), (0, 0), (0, 0), (0, 0), (0, 0), (0, 0), (0, 0), (8, 0), (0, 24)], 1)
noncomputable def rxoBS_0_3 : bx_HO := (([(0, 0), (0, 0), (0, 0), (0, 0), (0, 0), (0, 0), (0, 0), (0, 0), (0, 1), (3, 3), (47, 47)], [(3, (10, 0), (0, 42)), (3, (10, 0), (0, 45)), (3, (10, 0), (0, 43))], [(((0, 0), 1851192626986356799832820811818326617396875588472066220482363392000000), .inr (1, (10, 0))), (((0, 480), 12), .inr (1, (10, 0))), (((0, 0), 1851192626986356799632114105031551009123054124018230966928539648000000), .inr (0, (9, 0))), (((0, 480), 11), .inr (0, (9, 0)))], 0, 0, 72, [(2, .inr (0, (0, 23))), (0, .inr (3, (0, 480))), (1, .inr (0, (8, 0)))], []), [], [], [(0, 0), (0, 0), (0, 0), (0, 0), (0, 0), (0, 0), (0, 0), (0, 0), (8, 0), (0, 23)], 1)
noncomputable def rxoBS_0_4 : bx_HO := (([(0, 0), (0, 0), (0, 0), (0, 0), (0, 0), (0, 0), (0, 0), (0, 0), (0, 1), (3, 3), (42, 42)], [(3, (10, 0), (0, 45)), (3, (10, 0), (0, 43))], [(((0, 0), 1851192626986356799832820811818326617396875588472066220482363392000000), .inr (1, (10, 0))), (((0, 480), 12), .inr (1, (10, 0))), (((0, 0), 1851192626986356799632114105031551009123054124018230966928539648000000), .inr (0, (9, 0))), (((0, 480), 11), .inr (0, (9, 0)))], 0, 0, 72, [(2, .inr (0, (0, 22))), (0, .inr (3, (0, 480))), (1, .inr (0, (8, 0)))], []), [], [], [(0, 0), (0, 0), (0, 0), (0, 0), (0, 0), (0, 0), (0, 0), (0, 0), (8, 0), (0, 22)], 1)
noncomputable def rxoBS_0_5 : bx_HO := (([(0, 0), (0, 0), (0, 0), (0, 0), (0, 0), (0, 0), (0, 0), (0, 0), (0, 1), (3, 3), (45, 45)], [(3, (10, 0), (0, 43))], [(((0, 0), 1851192626986356799832820811818326617396875588472066220482363392000000), .inr (1, (10, 0))), (((0, 480), 12), .inr (1, (10, 0))), (((0, 0), 1851192626986356799632114105031551009123054124018230966928539648000000), .inr (0, (9, 0))), (((0, 480), 11), .inr (0, (9, 0)))], 0, 0, 72, [(2, .inr (0, (0, 21))), (0, .inr (3, (0, 480))), (1, .inr (0, (8, 0)))], []), [], [], [(0, 0), (0, 0), (0, 0), (0, 0), (0, 0), (0, 0), (0, 0), (0, 0), (8, 0), (0, 21)], 1)
noncomputable def rxoBS_0_6 : bx_HO := (([(0, 0), (0, 0), (0, 0), (0, 0), (0, 0), (0, 0), (0, 0), (0, 0), (0, 1), (3, 3), (43, 43)], [], [(((0, 0), 1851192626986356799832820811818326617396875588472066220482363392000000), .inr (1, (10, 0))), (((0, 480), 12), .inr (1, (10, 0))), (((0, 0), 1851192626986356799632114105031551009123054124018230966928539648000000), .inr (0, (9, 0))), (((0, 480), 11), .inr (0, (9, 0)))], 0, 0, 72, [(2, .inr (0, (0, 20))), (0, .inr (3, (0, 480))), (1, .inr (0, (8, 0)))], []), [], [], [(0, 0), (0, 0), (0, 0), (0, 0), (0, 0), (0, 0), (0, 0), (0, 0), (8, 0), (0, 20)], 1)
noncomputable def rxoBS_1_0 : bx_HO := (([(0, 0), (0, 0), (0, 0), (0, 0), (0, 0), (0, 0), (0, 0), (0, 0), (0, 1), (0, 24)], [(3, (9, 0), (0, (-1)))], [], 0, 0, 79, [(0, .inr (3, (0, 480))), (1, .inr (0, (8, 0))), (2, .inr (0, (9, 0)))], [.inr (0, (9, 0)), .inr (3, (0, 480))]), [(9, 20, 24), (9, 20, 24)], [], [(0, 0), (0, 0), (0, 0), (0, 0), (0, 0), (0, 0), (0, 0), (0, 0), (8, 0), (9, 0), (9, 0)], 2)
noncomputable def rxoBS_1_1 : bx_HO := (([(0, 0), (0, 0), (0, 0), (0, 0), (0, 0), (0, 0), (0, 0), (0, 0), (0, 1), ((-1), (-1))], [], [], 0, 0, 98, [(0, .inr (3, (0, 480))), (1, .inr (0, (8, 0))), (2, .inr (0, (9, 0)))], [.inr (3, (0, 480))]), [], [], [(0, 0), (0, 0), (0, 0), (0, 0), (0, 0), (0, 0), (0, 0), (0, 0), (8, 0)], 9)
noncomputable def rxoBS_4_0 : bx_HO := (([(0, 0), (0, 0), (0, 0), (0, 0), (0, 0), (0, 0), (0, 0), (0, 0), (0, 1), (20, 24), (20, 24), (5, 6)], [], [], 0, 0, 88, [(0, .inr (3, (0, 480))), (1, .inr (0, (8, 0))), (2, .inr (0, (9, 0)))], [.inr (0, (0, 0)), .inr (0, (9, 0)), .inr (3, (0, 480))]), [], [], [(0, 0), (0, 0), (0, 0), (0, 0), (0, 0), (0, 0), (0, 0), (0, 0), (8, 0), (9, 0), (9, 0)], 5)
noncomputable def rxoBS_6_0 : bx_HO := (([(0, 0), (0, 0), (0, 0), (0, 0), (0, 0), (0, 0), (0, 0), (0, 0), (0, 1), (20, 24), (20, 24)], [], [], 0, 0, 92, [(0, .inr (3, (0, 480))), (1, .inr (0, (8, 0))), (2, .inr (0, (9, 0)))], [.inr (3, (0, 480))]), [], [], [(0, 0), (0, 0), (0, 0), (0, 0), (0, 0), (0, 0), (0, 0), (0, 0), (8, 0), (9, 0)], 7)
noncomputable def rxeBS_8_0 : rx_End × List (Nat × Int × Int) := (([(0, 0), (0, 0), (0, 0), (0, 0), (0, 0), (0, 0), (0, 0), (0, 0), (0, 1), (20, 24)], [], [], some (.inr (0, (0, 1)))), [])
noncomputable def rxoBS_10_0 : bx_HO := (([(0, 0), (0, 0), (0, 0), (0, 0), (0, 0), (0, 0), (0, 0), (0, 0), (0, 1), (32, 32)], [], [], 0, 0, 112, [(3, .inr (0, (9, 0))), (0, .inr (3, (0, 480))), (1, .inr (0, (8, 0)))], [.inr (0, (0, 93)), .inr (3, (0, 480)), .inr (3, (0, 480))]), [], [], [(0, 0), (0, 0), (0, 0), (0, 0), (0, 0), (0, 0), (0, 0), (0, 0), (8, 0)], 11)
noncomputable def rxoBS_10_1 : bx_HO := (([(0, 0), (0, 0), (0, 0), (0, 0), (0, 0), (0, 0), (0, 0), (0, 0), (1, 1), ((-1), (-1))], [(3, (8, 0), (0, 0)), (3, (9, 0), (0, 32))], [], 0, 0, 164, [(3, .inr (0, (9, 0))), (0, .inr (3, (0, 480))), (1, .inr (0, (8, 0)))], [.inr (3, (0, 480))]), [], [], [(0, 0), (0, 0), (0, 0), (0, 0), (0, 0), (0, 0), (0, 0), (0, 0), (8, 0)], 18)
noncomputable def rxoBS_10_2 : bx_HO := (([(0, 0), (0, 0), (0, 0), (0, 0), (0, 0), (0, 0), (0, 0), (0, 0), (0, 1), (0, 31)], [(3, (9, 0), (0, (-1))), (3, (9, 0), (0, 32))], [], 0, 0, 164, [(3, .inr (0, (9, 0))), (0, .inr (3, (0, 480))), (1, .inr (0, (8, 0)))], [.inr (3, (0, 480))]), [], [], [(0, 0), (0, 0), (0, 0), (0, 0), (0, 0), (0, 0), (0, 0), (0, 0), (8, 0)], 18)
noncomputable def rxeBS_10_0 : rx_End × List (Nat × Int × Int) := (([(0, 0), (0, 0), (0, 0), (0, 0), (0, 0), (0, 0), (0, 0), (0, 0), (0, 0), ((-1), (-1))], [(3, (9, 0), (0, 32))], [], some (.inr (0, (0, 4)))), [])
noncomputable def rxoBS_13_0 : bx_HO := (([(0, 0), (0, 0), (0, 0), (0, 0), (0, 0), (0, 0), (0, 0), (0, 0), (0, 1), (0, 1), (0, 0)], [], [(((0, 0), 1851192626986356800234234225391877833944518517379736727590010880000000), .inr (0, (10, 0))), (((0, 480), 14), .inr (0, (10, 0)))], 0, 0, 127, [(0, .inr (3, (0, 480))), (1, .inr (0, (8, 0)))], [.inr (0, (0, 5)), .inr (3, (0, 480))]), [], [], [(0, 0), (0, 0), (0, 0), (0, 0), (0, 0), (0, 0), (0, 0), (0, 0), (8, 0)], 14)
noncomputable def rxeBS_13_0 : rx_End × List (Nat × Int × Int) := (([(0, 0), (0, 0), (0, 0), (0, 0), (0, 0), (0, 0), (0, 0), (0, 0), (0, 1), (0, 1), (1, 1)], [(3, (10, 0), (0, 0))], [(((0, 0), 1851192626986356800234234225391877833944518517379736727590010880000000), .inr (0, (10, 0))), (((0, 480), 14), .inr (0, (10, 0)))], some (.inr (0, (0, 3)))), [])
noncomputable def rxoBS_15_0 : bx_HO := (([(0, 0), (0, 0), (0, 0), (0, 0), (0, 0), (0, 0), (0, 0), (0, 0), (0, 1), (0, 400)], [], [(((0, 0), 1851192626986356802241301293259633916682733161918089263128248320000000), .inr (0, (9, 0))), (((0, 480), 24), .inr (0, (9, 0)))], 0, 0, 135, [(0, .inr (3, (0, 480))), (1, .inr (0, (8, 0)))], [.inr (0, (9, 0)), .inr (3, (0, 480))]), [(9, 1, 400)], [], [(0, 0), (0, 0), (0, 0), (0, 0), (0, 0), (0, 0), (0, 0), (0, 0), (8, 0), (9, 0)], 16)
noncomputable def rxoBS_16_0 : bx_HO := (([(0, 0), (0, 0), (0, 0), (0, 0), (0, 0), (0, 0), (0, 0), (0, 0), (0, 1), (1, 400), (0, 8)], [], [(((0, 0), 1851192626986356802442008000046409524956554626371924516682072064000000), .inr (0, (10, 0))), (((0, 480), 25), .inr (0, (10, 0))), (((0, 0), 1851192626986356802241301293259633916682733161918089263128248323000000), .inr (0, (9, (-1)))), (((0, 480), 24), .inr (0, (9, (-1))))], 0, 0, 145, [(0, .inr (3, (0, 480))), (1, .inr (0, (8, 0)))], [.inr (0, (10, 0)), .inr (3, (0, 480))]), [(10, 1, 8)], [], [(0, 0), (0, 0), (0, 0), (0, 0), (0, 0), (0, 0), (0, 0), (0, 0), (8, 0), (10, 0)], 17)
noncomputable def rxeBS_17_0 : rx_End × List (Nat × Int × Int) := (([(0, 0), (0, 0), (0, 0), (0, 0), (0, 0), (0, 0), (0, 0), (0, 0), (0, 1), (1, 8)], [], [(((0, 0), 1851192626986356802442008000046409524956554626371924516682072067000000), .inr (0, (9, (-1)))), (((0, 480), 25), .inr (0, (9, (-1))))], some (.inr (0, (0, 3)))), [])
noncomputable def rxoBS_19_0 : bx_HO := (([(0, 0), (0, 0), (0, 0), (0, 0), (0, 0), (0, 0), (0, 0), (0, 0), (0, 1), (0, 0), (0, 2)], [(3, (10, 0), (0, 3)), (3, (10, 0), (0, 3)), (3, (10, 0), (0, 3))], [(((0, 0), 1851192626986356799632114105031551009123054124018230966928539648000000), .inr (0, (10, 0))), (((0, 480), 11), .inr (0, (10, 0)))], 0, 0, 224, [(2, .inr (0, (0, 27))), (0, .inr (3, (0, 480))), (1, .inr (0, (8, 0)))], [.inr (0, (0, 0)), .inr (3, (0, 480))]), [], [], [(0, 0), (0, 0), (0, 0), (0, 0), (0, 0), (0, 0), (0, 0), (0, 0), (8, 0), (0, 27), (0, 0)], 20)
noncomputable def rxoBS_19_1 : bx_HO := (([(0, 0), (0, 0), (0, 0), (0, 0), (0, 0), (0, 0), (0, 0), (0, 0), (0, 1), (0, 0), (3, 3), ((-9223372036854775808), 9223372036854775807)], [(3, (11, 0), (0, 61)), (3, (11, 0), (0, 62)), (3, (11, 0), (0, 60))], [(((0, 0), 1851192626986356799832820811818326617396875588472066220482363392000000), .inr (1, (11, 0))), (((0, 480), 12), .inr (1, (11, 0))), (((0, 0), 1851192626986356799632114105031551009123054124018230966928539648000000), .inr (0, (10, 0))), (((0, 480), 11), .inr (0, (10, 0)))], 0, 0, 224, [(2, .inr (0, (0, 27))), (0, .inr (3, (0, 480))), (1, .inr (0, (8, 0)))], [.inr (0, (0, 0)), .inr (3, (0, 480))]), [], [], [(0, 0), (0, 0), (0, 0), (0, 0), (0, 0), (0, 0), (0, 0), (0, 0), (8, 0), (0, 27), (0, 0)], 20)
noncomputable def rxoBS_19_2 : bx_HO := (([(0, 0), (0, 0), (0, 0), (0, 0), (0, 0), (0, 0), (0, 0), (0, 0), (0, 1), (0, 0), (3, 3), (61, 61)], [(3, (11, 0), (0, 62)), (3, (11, 0), (0, 60))], [(((0, 0), 1851192626986356799832820811818326617396875588472066220482363392000000), .inr (1, (11, 0))), (((0, 480), 12), .inr (1, (11, 0))), (((0, 0), 1851192626986356799632114105031551009123054124018230966928539648000000), .inr (0, (10, 0))), (((0, 480), 11), .inr (0, (10, 0)))], 0, 0, 224, [(2, .inr (0, (0, 27))), (0, .inr (3, (0, 480))), (1, .inr (0, (8, 0)))], [.inr (0, (0, 1)), .inr (3, (0, 480))]), [], [], [(0, 0), (0, 0), (0, 0), (0, 0), (0, 0), (0, 0), (0, 0), (0, 0), (8, 0), (0, 27), (0, 1)], 20)
noncomputable def rxoBS_19_3 : bx_HO := (([(0, 0), (0, 0), (0, 0), (0, 0), (0, 0), (0, 0), (0, 0), (0, 0), (0, 1), (0, 0), (3, 3), (62, 62)], [(3, (11, 0), (0, 60))], [(((0, 0), 1851192626986356799832820811818326617396875588472066220482363392000000), .inr (1, (11, 0))), (((0, 480), 12), .inr (1, (11, 0))), (((0, 0), 1851192626986356799632114105031551009123054124018230966928539648000000), .inr (0, (10, 0))), (((0, 480), 11), .inr (0, (10, 0)))], 0, 0, 224, [(2, .inr (0, (0, 26))), (0, .inr (3, (0, 480))), (1, .inr (0, (8, 0)))], [.inr (0, (0, 1)), .inr (3, (0, 480))]), [], [], [(0, 0), (0, 0), (0, 0), (0, 0), (0, 0), (0, 0), (0, 0), (0, 0), (8, 0), (0, 26), (0, 1)], 20)
noncomputable def rxoBS_19_4 : bx_HO := (([(0, 0), (0, 0), (0, 0), (0, 0), (0, 0), (0, 0), (0, 0), (0, 0), (0, 1), (0, 0), (3, 3), (60, 60)], [], [(((0, 0), 1851192626986356799832820811818326617396875588472066220482363392000000), .inr (1, (11, 0))), (((0, 480), 12), .inr (1, (11, 0))), (((0, 0), 1851192626986356799632114105031551009123054124018230966928539648000000), .inr (0, (10, 0))), (((0, 480), 11), .inr (0, (10, 0)))], 0, 0, 224, [(2, .inr (0, (0, 25))), (0, .inr (3, (0, 480))), (1, .inr (0, (8, 0)))], [.inr (0, (0, 1)), .inr (3, (0, 480))]), [], [], [(0, 0), (0, 0), (0, 0), (0, 0), (0, 0), (0, 0), (0, 0), (0, 0), (8, 0), (0, 25), (0, 1)], 20)
noncomputable def rxeBS_19_0 : rx_End × List (Nat × Int × Int) := (([(0, 0), (0, 0), (0, 0), (0, 0), (0, 0), (0, 0), (0, 0), (0, 0), (0, 1), (1, 1)], [(3, (9, 0), (0, 0))], [], some (.inr (0, (0, 2)))), [])
noncomputable def rxoBS_21_0 : bx_HO := (([(0, 0), (0, 0), (0, 0), (0, 0), (0, 0), (0, 0), (0, 0), (0, 0), (0, 1), (25, 27), (0, 1), (0, 0)], [], [(((0, 0), 1851192626986356800234234225391877833944518517379736727590010880000000), .inr (0, (11, 0))), (((0, 480), 14), .inr (0, (11, 0)))], 0, 0, 236, [(0, .inr (3, (0, 480))), (1, .inr (0, (8, 0))), (2, .inr (0, (9, 0)))], [.inr (0, (0, 5)), .inr (3, (0, 480))]), [], [], [(0, 0), (0, 0), (0, 0), (0, 0), (0, 0), (0, 0), (0, 0), (0, 0), (8, 0), (9, 0)], 22)
noncomputable def rxeBS_21_0 : rx_End × List (Nat × Int × Int) := (([(0, 0), (0, 0), (0, 0), (0, 0), (0, 0), (0, 0), (0, 0), (0, 0), (0, 1), (25, 27), (0, 1), (1, 1)], [(3, (11, 0), (0, 0))], [(((0, 0), 1851192626986356800234234225391877833944518517379736727590010880000000), .inr (0, (11, 0))), (((0, 480), 14), .inr (0, (11, 0)))], some (.inr (0, (0, 1)))), [])
noncomputable def rxoBS_23_0 : bx_HO := (([(0, 0), (0, 0), (0, 0), (0, 0), (0, 0), (0, 0), (0, 0), (0, 0), (0, 1), (25, 27)], [], [], 0, 0, 242, [(0, .inr (3, (0, 480))), (1, .inr (0, (8, 0))), (2, .inr (0, (9, 0)))], [.inr (0, (0, 0)), .inr (0, (9, 0)), .inr (3, (0, 480))]), [], [], [(0, 0), (0, 0), (0, 0), (0, 0), (0, 0), (0, 0), (0, 0), (0, 0), (8, 0), (9, 0), (9, 0)], 24)
noncomputable def rxeBS_25_0 : rx_End × List (Nat × Int × Int) := (([(0, 0), (0, 0), (0, 0), (0, 0), (0, 0), (0, 0), (0, 0), (0, 0), (0, 1), (25, 27), (25, 27)], [], [], some (.inr (0, (0, 1)))), [])
noncomputable def rxYBS : List bx_HE := [(rxzBS_0, [rxoBS_0_0, rxoBS_0_1, rxoBS_0_2, rxoBS_0_3, rxoBS_0_4, rxoBS_0_5, rxoBS_0_6], []), (rxzBS_1, [rxoBS_1_0, rxoBS_1_1], []), (rxzBS_2, [], []), (rxzBS_3, [], []), (rxzBS_4, [rxoBS_4_0], []), (rxzBS_5, [], []), (rxzBS_6, [rxoBS_6_0], []), (rxzBS_7, [], []), (rxzBS_8, [], [rxeBS_8_0]), (rxzBS_9, [], []), (rxzBS_10, [rxoBS_10_0, rxoBS_10_1, rxoBS_10_2], [rxeBS_10_0]), (rxzBS_11, [], []), (rxzBS_12, [], []), (rxzBS_13, [rxoBS_13_0], [rxeBS_13_0]), (rxzBS_14, [], []), (rxzBS_15, [rxoBS_15_0], []), (rxzBS_16, [rxoBS_16_0], []), (rxzBS_17, [], [rxeBS_17_0]), (rxzBS_18, [], []), (rxzBS_19, [rxoBS_19_0, rxoBS_19_1, rxoBS_19_2, rxoBS_19_3, rxoBS_19_4], [rxeBS_19_0]), (rxzBS_20, [], []), (rxzBS_21, [rxoBS_21_0], [rxeBS_21_0]), (rxzBS_22, [], []), (rxzBS_23, [rxoBS_23_0], []), (rxzBS_24, [], []), (rxzBS_25, [], [rxeBS_25_0])]
noncomputable def rxUBS (q : bx_HE) : Bool := Nat.beq (rx_zpc q.1) 79 || Nat.beq (rx_zpc q.1) 82 || Nat.beq (rx_zpc q.1) 88 || Nat.beq (rx_zpc q.1) 92 || Nat.beq (rx_zpc q.1) 98 || Nat.beq (rx_zpc q.1) 112 || Nat.beq (rx_zpc q.1) 115 || Nat.beq (rx_zpc q.1) 127 || Nat.beq (rx_zpc q.1) 164 || Nat.beq (rx_zpc q.1) 224 || Nat.beq (rx_zpc q.1) 236 || Nat.beq (rx_zpc q.1) 242
noncomputable def rxYBBS : bx_B := (rxV, rxNP, rxDmf, bx_mdH rxCBS.2.2.1)
set_option maxRecDepth 100000 in
theorem rxYcBS : bx_chkH rxYBBS rxM279 rxCBS rxYBS (rxUBS, fun cut z => rx_ex2 (rxCT rxYBBS rxCnE) cut 30000 rxCBS.2.2.2.1 279 z) = true := by decide +kernel
noncomputable def rxIBS (S0 : Nat → Int → Int) (ws : List Int) (i : Nat) : bx_SP := fun S r => match i with | 0 => rxIBS_0 S0 ws S (r 8) | 1 => rxIBS_1 S0 ws S (r 8) (r 9) | 2 => rxIBS_2 S0 ws S (r 8) (r 9) (r 10) | 3 => rxIBS_3 S0 ws S (r 8) (r 9) (r 10) (r 11) | 4 => rxIBS_4 S0 ws S (r 8) (r 9) (r 10) (r 11) | 5 => rxIBS_5 S0 ws S (r 8) (r 9) (r 10) | 6 => rxIBS_6 S0 ws S (r 8) (r 9) (r 10) | 7 => rxIBS_7 S0 ws S (r 8) (r 9) | 8 => rxIBS_8 S0 ws S (r 8) (r 9) | 9 => rxIBS_9 S0 ws S (r 8) | 10 => rxIBS_10 S0 ws S (r 8) (r 9) | 11 => rxIBS_11 S0 ws S (r 8) | 12 => rxIBS_12 S0 ws S (r 8) (r 9) | 13 => rxIBS_13 S0 ws S (r 8) (r 9) | 14 => rxIBS_14 S0 ws S (r 8) | 15 => rxIBS_15 S0 ws S (r 8) | 16 => rxIBS_16 S0 ws S (r 8) (r 9) | 17 => rxIBS_17 S0 ws S (r 8) (r 9) | 18 => rxIBS_18 S0 ws S (r 8) | 19 => rxIBS_19 S0 ws S (r 8) (r 9) | 20 => rxIBS_20 S0 ws S (r 8) (r 9) (r 10) | 21 => rxIBS_21 S0 ws S (r 8) (r 9) (r 10) | 22 => rxIBS_22 S0 ws S (r 8) (r 9) | 23 => rxIBS_23 S0 ws S (r 8) (r 9) | 24 => rxIBS_24 S0 ws S (r 8) (r 9) (r 10) | 25 => rxIBS_25 S0 ws S (r 8) (r 9) (r 10) | _ => False
noncomputable def rxmBS (S0 : Nat → Int → Int) (ws : List Int) (i : Nat) (S : Nat → Int → Int) (r : Nat → Int) : Nat := match i with | 0 => rxmBS_0 S0 ws S (r 8) | 1 => rxmBS_1 S0 ws S (r 8) (r 9) | 2 => rxmBS_2 S0 ws S (r 8) (r 9) (r 10) | 3 => rxmBS_3 S0 ws S (r 8) (r 9) (r 10) (r 11) | 4 => rxmBS_4 S0 ws S (r 8) (r 9) (r 10) (r 11) | 5 => rxmBS_5 S0 ws S (r 8) (r 9) (r 10) | 6 => rxmBS_6 S0 ws S (r 8) (r 9) (r 10) | 7 => rxmBS_7 S0 ws S (r 8) (r 9) | 8 => rxmBS_8 S0 ws S (r 8) (r 9) | 9 => rxmBS_9 S0 ws S (r 8) | 10 => rxmBS_10 S0 ws S (r 8) (r 9) | 11 => rxmBS_11 S0 ws S (r 8) | 12 => rxmBS_12 S0 ws S (r 8) (r 9) | 13 => rxmBS_13 S0 ws S (r 8) (r 9) | 14 => rxmBS_14 S0 ws S (r 8) | 15 => rxmBS_15 S0 ws S (r 8) | 16 => rxmBS_16 S0 ws S (r 8) (r 9) | 17 => rxmBS_17 S0 ws S (r 8) (r 9) | 18 => rxmBS_18 S0 ws S (r 8) | 19 => rxmBS_19 S0 ws S (r 8) (r 9) | 20 => rxmBS_20 S0 ws S (r 8) (r 9) (r 10) | 21 => rxmBS_21 S0 ws S (r 8) (r 9) (r 10) | 22 => rxmBS_22 S0 ws S (r 8) (r 9) | 23 => rxmBS_23 S0 ws S (r 8) (r 9) | 24 => rxmBS_24 S0 ws S (r 8) (r 9) (r 10) | 25 => rxmBS_25 S0 ws S (r 8) (r 9) (r 10) | _ => 0
noncomputable def rxPBS (S0 : Nat → Int → Int) (ws : List Int) : Prop := rxPt S0 ∧ S0 480 14 = 0 ∧ True
noncomputable def rxPSBS (S0 : Nat → Int → Int) (ws : List Int) (S : Nat → Int → Int) (w : Option Int) : Prop := ∃ t : Int, w = some t ∧ rxPt S ∧ (t = 1 ∨ t = 2 ∨ t = 3 ∨ t = 4) ∧ (S 480 14 = 0 → (t = 1 ∧ S0 480 9 < S 480 9 ∧ rxEf S0 S 1 0) ∨ (t = 2 ∧ S = S0 ∧ rxNoSq S) ∨ (t = 3 ∧ S0 480 9 < S 480 9 ∧ rxEf S0 S 1 1) ∨ (t = 4 ∧ S = S0 ∧ (∀ j : Int, 0 ≤ j → j < S 480 24 → S 489 j < 31)))
theorem rxkBS_2 {S0 : Nat → Int → Int} {ws : List Int} {S : Nat → Int → Int} {test op op2 : Int} (hP : rxPBS S0 ws) (hin : bx_same rxL (bx_mdl rxCBS.2.2.1) S0 S) (I0 : bx_Inv rxL S) (hinv : rxIBS_2 S0 ws S test op op2) (l8 : 0 ≤ test) (u8 : test ≤ 1) (l9 : 20 ≤ op) (u9 : op ≤ 24) (l10 : 20 ≤ op2) (u10 : op2 ≤ 24) : rxPBI S [op2] ∧ ∀ (S_p : Nat → Int → Int) (bd : Int), 5 ≤ bd → bd ≤ 6 → rxPSBI S [op2] S_p (some bd) → bx_Inv rxL S_p → bx_same rxL (bx_mdl rxCBI.2.2.1) S S_p → rxIBS_3 S0 ws S_p test op op2 bd ∧ rxmBS_3 S0 ws S_p test op op2 bd < rxmBS_2 S0 ws S test op op2 := by
  obtain ⟨rfl, h1⟩ := hinv
  refine ⟨trivial, fun S_p bd l u hq I1 hsm => ⟨?_, by unfold rxmBS_2 rxmBS_3; omega⟩⟩
  have hq : S_p = S := hq
  subst hq
  exact ⟨rfl, h1⟩
theorem rxsBS_2 {X : (Nat → Int → Int) → Prop} {S0 : Nat → Int → Int} {ws : List Int} (hP : rxPBS S0 ws) : rx_obK X S0 rxCBS.2.2.1 rxCBI.2.2.1 (rxIBS S0 ws) (rxmBS S0 ws) 2 3 rxzBS_2 rxzBS_3 [.inr (0, (10, 0))] (some 11) rxPBI rxPSBI := by
  intro S r hinv hXS I0 hin hs_ hf_
  have b_ := bx_bds_sat hs_
  have f_ := bx_fcl_ok hs_.1 hf_
  obtain ⟨⟨l8, u8⟩, ⟨l9, u9⟩, ⟨l10, u10⟩, -⟩ := b_
  have g := rxkBS_2 hP hin I0 hinv l8 u8 l9 u9 l10 u10
  have ea : List.map (bx_num r) [.inr (0, (10, 0))] = [(r 10)] := by
    simp only [List.map_cons, List.map_nil, bx_xv_ok hs_.1]
    rfl
  rw [ea]
  refine ⟨g.1, fun S_p w r_p hPS hX_p I1 hsm hr hw hs_p => ?_⟩
  have hw := hw _ rfl
  subst hw
  have b_p := hs_p.2.2 11 _ _ rfl
  have g2 := g.2 S_p (r_p 11) b_p.1 b_p.2 hPS I1 hsm
  show rxIBS_3 S0 ws S_p (r_p 8) (r_p 9) (r_p 10) (r_p 11) ∧ rxmBS_3 S0 ws S_p (r_p 8) (r_p 9) (r_p 10) (r_p 11) < _
  rw [hr 8 (by decide), hr 9 (by decide), hr 10 (by decide)]
  exact g2
theorem rxkBS_3 {S0 : Nat → Int → Int} {ws : List Int} {S : Nat → Int → Int} {test op op2 bd : Int} (hP : rxPBS S0 ws) (hin : bx_same rxL (bx_mdl rxCBS.2.2.1) S0 S) (I0 : bx_Inv rxL S) (hinv : rxIBS_3 S0 ws S test op op2 bd) (l8 : 0 ≤ test) (u8 : test ≤ 1) (l9 : 20 ≤ op) (u9 : op ≤ 24) (l10 : 20 ≤ op2) (u10 : op2 ≤ 24) (l11 : 5 ≤ bd) (u11 : bd ≤ 6) : rxPST S [480, bd] ∧ ∀ (S_p : Nat → Int → Int), rxPSST S [480, bd] S_p none → bx_Inv rxL S_p → bx_same rxL (bx_mdl rxCST.2.2.1) S S_p → rxIBS_4 S0 ws S_p test op op2 bd ∧ rxmBS_4 S0 ws S_p test op op2 bd < rxmBS_3 S0 ws S test op op2 bd := by
  obtain ⟨rfl, h1⟩ := hinv
  obtain ⟨⟨p1, p2, p3, p4⟩, p5, p6⟩ := hP
  have b8 := rxBox8 I0
  have t4 := p1.2.2.2.1 h1
  have t3 := p1.2.2.1
  refine ⟨⟨p2, p3, by omega⟩, fun S_p hq I1 hsm => ⟨?_, by unfold rxmBS_3 rxmBS_4; omega⟩⟩
  obtain ⟨-, l, hw, hs, ht⟩ := hq
  have hm := rxTm_of hsm (by decide +kernel)
  exact ⟨l, hs, hm, by rw [hm.2.2.2.1]; exact h1⟩
theorem rxsBS_3 {X : (Nat → Int → Int) → Prop} {S0 : Nat → Int → Int} {ws : List Int} (hP : rxPBS S0 ws) : rx_obK X S0 rxCBS.2.2.1 rxCST.2.2.1 (rxIBS S0 ws) (rxmBS S0 ws) 3 4 rxzBS_3 rxzBS_4 [.inr (3, (0, 480)), .inr (0, (11, 0))] none rxPST rxPSST := by
  intro S r hinv hXS I0 hin hs_ hf_
  have b_ := bx_bds_sat hs_
  have f_ := bx_fcl_ok hs_.1 hf_
  obtain ⟨⟨l8, u8⟩, ⟨l9, u9⟩, ⟨l10, u10⟩, ⟨l11, u11⟩, -⟩ := b_
  have g := rxkBS_3 hP hin I0 hinv l8 u8 l9 u9 l10 u10 l11 u11
  have ea : List.map (bx_num r) [.inr (3, (0, 480)), .inr (0, (11, 0))] = [480, (r 11)] := by
    simp only [List.map_cons, List.map_nil, bx_xv_ok hs_.1]
    rfl
  rw [ea]
  refine ⟨g.1, fun S_p w r_p hPS hX_p I1 hsm hr hw hs_p => ?_⟩
  have hw : w = none := hPS.1
  subst hw
  have g2 := g.2 S_p hPS I1 hsm
  show rxIBS_4 S0 ws S_p (r_p 8) (r_p 9) (r_p 10) (r_p 11) ∧ rxmBS_4 S0 ws S_p (r_p 8) (r_p 9) (r_p 10) (r_p 11) < _
  rw [hr 8 (by decide), hr 9 (by decide), hr 10 (by decide), hr 11 (by decide)]
  exact g2
theorem rxkBS_5 {S0 : Nat → Int → Int} {ws : List Int} {S : Nat → Int → Int} {test op op2 : Int} (hP : rxPBS S0 ws) (hin : bx_same rxL (bx_mdl rxCBS.2.2.1) S0 S) (I0 : bx_Inv rxL S) (hinv : rxIBS_5 S0 ws S test op op2) (l8 : 0 ≤ test) (u8 : test ≤ 1) (l9 : 20 ≤ op) (u9 : op ≤ 24) (l10 : 20 ≤ op2) (u10 : op2 ≤ 24) : rxPPU S [480, op2, 0] ∧ ∀ (S_p : Nat → Int → Int), rxPSPU S [480, op2, 0] S_p none → bx_Inv rxL S_p → bx_same rxL (bx_mdl rxCPU.2.2.1) S S_p → rxIBS_6 S0 ws S_p test op op2 ∧ rxmBS_6 S0 ws S_p test op op2 < rxmBS_5 S0 ws S test op op2 := by
  obtain ⟨l, hs, hm, h1⟩ := hinv
  obtain ⟨⟨p1, p2, p3, p4⟩, p5, p6⟩ := hP
  have b8 := rxBox8 I0
  have b18 := rxBox18 I0
  have hk := hm.tk p1
  have t4 := hk.2.2.2.1 h1
  have t3 := hk.2.2.1
  have u1 := hs.2.1
  have u2 := hs.2.2.2.2.1
  have u3 := hm.2.1
  refine ⟨by show S 480 24 ≤ 399; omega, fun S_p hq I1 hsm => ⟨⟨S, ⟨l, hs⟩, hm, ?_, ?_⟩, by unfold rxmBS_5 rxmBS_6; omega⟩⟩
  · obtain ⟨-, o_p, a_p, hw3, rfl⟩ := hq
    have ho : op2 = o_p := Option.some.inj (congrArg (fun l => l[1]?) hw3)
    have ha : (0 : Int) = a_p := Option.some.inj (congrArg (fun l => l[2]?) hw3)
    subst ho
    subst ha
    rfl
  · have hm2 := rxTm_of hsm (by decide +kernel)
    rw [hm2.2.2.2.1]
    exact h1
theorem rxsBS_5 {X : (Nat → Int → Int) → Prop} {S0 : Nat → Int → Int} {ws : List Int} (hP : rxPBS S0 ws) : rx_obK X S0 rxCBS.2.2.1 rxCPU.2.2.1 (rxIBS S0 ws) (rxmBS S0 ws) 5 6 rxzBS_5 rxzBS_6 [.inr (3, (0, 480)), .inr (0, (10, 0)), .inr (0, (0, 0))] none rxPPU rxPSPU := by
  intro S r hinv hXS I0 hin hs_ hf_
  have b_ := bx_bds_sat hs_
  have f_ := bx_fcl_ok hs_.1 hf_
  obtain ⟨⟨l8, u8⟩, ⟨l9, u9⟩, ⟨l10, u10⟩, -⟩ := b_
  have g := rxkBS_5 hP hin I0 hinv l8 u8 l9 u9 l10 u10
  have ea : List.map (bx_num r) [.inr (3, (0, 480)), .inr (0, (10, 0)), .inr (0, (0, 0))] = [480, (r 10), 0] := by
    simp only [List.map_cons, List.map_nil, bx_xv_ok hs_.1]
    rfl
  rw [ea]
  refine ⟨g.1, fun S_p w r_p hPS hX_p I1 hsm hr hw hs_p => ?_⟩
  have hw : w = none := hPS.1
  subst hw
  have g2 := g.2 S_p hPS I1 hsm
  show rxIBS_6 S0 ws S_p (r_p 8) (r_p 9) (r_p 10) ∧ rxmBS_6 S0 ws S_p (r_p 8) (r_p 9) (r_p 10) < _
  rw [hr 8 (by decide), hr 9 (by decide), hr 10 (by decide)]
  exact g2
theorem rxkBS_7 {S0 : Nat → Int → Int} {ws : List Int} {S : Nat → Int → Int} {test op : Int} (hP : rxPBS S0 ws) (hin : bx_same rxL (bx_mdl rxCBS.2.2.1) S0 S) (I0 : bx_Inv rxL S) (hinv : rxIBS_7 S0 ws S test op) (l8 : 0 ≤ test) (u8 : test ≤ 1) (l9 : 20 ≤ op) (u9 : op ≤ 24) : rxPNX S [480] ∧ ∀ (S_p : Nat → Int → Int), rxPSNX S [480] S_p none → bx_Inv rxL S_p → bx_same rxL (bx_mdl rxCNX.2.2.1) S S_p → rxIBS_8 S0 ws S_p test op ∧ rxmBS_8 S0 ws S_p test op < rxmBS_7 S0 ws S test op := by
  obtain ⟨S1, op2, o1, o2, ⟨l, hs⟩, hm, rfl, h1⟩ := hinv
  obtain ⟨⟨p1, p2, p3, p4⟩, p5, p6⟩ := hP
  have hm2 := hm.tr (rxTm_pu (S := S1) (op := op2) (a := 0))
  have hk := hm2.tk p1
  have t4 := hk.2.2.2.1 h1
  have f18 : rxPuE S1 op2 0 480 18 = S1 480 18 := by unfold rxPuE; simp [bx_up]
  have f24 : rxPuE S1 op2 0 480 24 = S1 480 24 + 1 := by unfold rxPuE; simp [bx_up]
  have b24 := rxBox24 I0
  have b18 := rxBox18 I0
  have u1 := hs.2.1
  have u2 := hs.2.2.2.2.1
  have u9 := hm2.2.1
  refine ⟨hk.2.2.1, fun S_p hq I1 hsm => ⟨?_, by unfold rxmBS_7 rxmBS_8; omega⟩⟩
  obtain ⟨-, q1, q2⟩ := hq
  have hsm_p := rxSm_of hsm (by decide +kernel)
  have hz := rxPuE_pz (op := op2) hs.1 u1 (by omega) (by omega) (Or.inl ⟨by omega, by omega⟩)
  refine ⟨rxPt_nx hsm_p q1 hz (by omega) (by omega) (by omega), fun _ => ⟨by omega, ((rxSt_ef hs).tr (rxPuE_ef u1 (fun q => by rcases q with q | q <;> omega) (by rw [if_pos (by omega)]; rfl))).tr (hsm_p.ef (by omega) (by omega) 0)⟩⟩
theorem rxsBS_7 {X : (Nat → Int → Int) → Prop} {S0 : Nat → Int → Int} {ws : List Int} (hP : rxPBS S0 ws) : rx_obK X S0 rxCBS.2.2.1 rxCNX.2.2.1 (rxIBS S0 ws) (rxmBS S0 ws) 7 8 rxzBS_7 rxzBS_8 [.inr (3, (0, 480))] none rxPNX rxPSNX := by
  intro S r hinv hXS I0 hin hs_ hf_
  have b_ := bx_bds_sat hs_
  have f_ := bx_fcl_ok hs_.1 hf_
  obtain ⟨⟨l8, u8⟩, ⟨l9, u9⟩, -⟩ := b_
  have g := rxkBS_7 hP hin I0 hinv l8 u8 l9 u9
  have ea : List.map (bx_num r) [.inr (3, (0, 480))] = [480] := by
    simp only [List.map_cons, List.map_nil, bx_xv_ok hs_.1]
    rfl
  rw [ea]
  refine ⟨g.1, fun S_p w r_p hPS hX_p I1 hsm hr hw hs_p => ?_⟩
  have hw : w = none := hPS.1
  subst hw
  have g2 := g.2 S_p hPS I1 hsm
  show rxIBS_8 S0 ws S_p (r_p 8) (r_p 9) ∧ rxmBS_8 S0 ws S_p (r_p 8) (r_p 9) < _
  rw [hr 8 (by decide), hr 9 (by decide)]
  exact g2
theorem rxkBS_9 {S0 : Nat → Int → Int} {ws : List Int} {S : Nat → Int → Int} {test : Int} (hP : rxPBS S0 ws) (hin : bx_same rxL (bx_mdl rxCBS.2.2.1) S0 S) (I0 : bx_Inv rxL S) (hinv : rxIBS_9 S0 ws S test) (l8 : 0 ≤ test) (u8 : test ≤ 1) : rxPIN S [480] ∧ ∀ (S_p : Nat → Int → Int) (its : Int), (-1) ≤ its → its ≤ 32 → rxPSIN S [480] S_p (some its) → bx_Inv rxL S_p → bx_same rxL (bx_mdl rxCIN.2.2.1) S S_p → rxIBS_10 S0 ws S_p test its ∧ rxmBS_10 S0 ws S_p test its < rxmBS_9 S0 ws S test := by
  subst hinv
  refine ⟨trivial, fun S_p its l u hq I1 hsm => ⟨?_, by unfold rxmBS_9 rxmBS_10; omega⟩⟩
  obtain ⟨rfl, its_p, hw, h1⟩ := hq
  have he : its = its_p := Option.some.inj hw
  subst he
  exact ⟨rfl, h1⟩
theorem rxsBS_9 {X : (Nat → Int → Int) → Prop} {S0 : Nat → Int → Int} {ws : List Int} (hP : rxPBS S0 ws) : rx_obK X S0 rxCBS.2.2.1 rxCIN.2.2.1 (rxIBS S0 ws) (rxmBS S0 ws) 9 10 rxzBS_9 rxzBS_10 [.inr (3, (0, 480))] (some 9) rxPIN rxPSIN := by
  intro S r hinv hXS I0 hin hs_ hf_
  have b_ := bx_bds_sat hs_
  have f_ := bx_fcl_ok hs_.1 hf_
  obtain ⟨⟨l8, u8⟩, -⟩ := b_
  have g := rxkBS_9 hP hin I0 hinv l8 u8
  have ea : List.map (bx_num r) [.inr (3, (0, 480))] = [480] := by
    simp only [List.map_cons, List.map_nil, bx_xv_ok hs_.1]
    rfl
  rw [ea]
  refine ⟨g.1, fun S_p w r_p hPS hX_p I1 hsm hr hw hs_p => ?_⟩
  have hw := hw _ rfl
  subst hw
  have b_p := hs_p.2.2 9 _ _ rfl
  have g2 := g.2 S_p (r_p 9) b_p.1 b_p.2 hPS I1 hsm
  show rxIBS_10 S0 ws S_p (r_p 8) (r_p 9) ∧ rxmBS_10 S0 ws S_p (r_p 8) (r_p 9) < _
  rw [hr 8 (by decide)]
  exact g2
theorem rxkBS_11 {S0 : Nat → Int → Int} {ws : List Int} {S : Nat → Int → Int} {test : Int} (hP : rxPBS S0 ws) (hin : bx_same rxL (bx_mdl rxCBS.2.2.1) S0 S) (I0 : bx_Inv rxL S) (hinv : rxIBS_11 S0 ws S test) (l8 : 0 ≤ test) (u8 : test ≤ 1) : rxPIS S [480, 93] ∧ ∀ (S_p : Nat → Int → Int) (is : Int), 0 ≤ is → is ≤ 1 → rxPSIS S [480, 93] S_p (some is) → bx_Inv rxL S_p → bx_same rxL (bx_mdl rxCIS.2.2.1) S S_p → rxIBS_12 S0 ws S_p test is ∧ rxmBS_12 S0 ws S_p test is < rxmBS_11 S0 ws S test := by
  obtain ⟨rfl, hb⟩ := hinv
  refine ⟨trivial, fun S_p is l u hq I1 hsm => ⟨?_, by unfold rxmBS_11 rxmBS_12; omega⟩⟩
  obtain ⟨rfl, x, r, hw, hr, h1⟩ := hq
  have he : is = r := Option.some.inj hr
  exact ⟨rfl, hb, fun q => by have := h1 (by omega); omega⟩
theorem rxsBS_11 {X : (Nat → Int → Int) → Prop} {S0 : Nat → Int → Int} {ws : List Int} (hP : rxPBS S0 ws) : rx_obK X S0 rxCBS.2.2.1 rxCIS.2.2.1 (rxIBS S0 ws) (rxmBS S0 ws) 11 12 rxzBS_11 rxzBS_12 [.inr (3, (0, 480)), .inr (0, (0, 93))] (some 9) rxPIS rxPSIS := by
  intro S r hinv hXS I0 hin hs_ hf_
  have b_ := bx_bds_sat hs_
  have f_ := bx_fcl_ok hs_.1 hf_
  obtain ⟨⟨l8, u8⟩, -⟩ := b_
  have g := rxkBS_11 hP hin I0 hinv l8 u8
  have ea : List.map (bx_num r) [.inr (3, (0, 480)), .inr (0, (0, 93))] = [480, 93] := by
    simp only [List.map_cons, List.map_nil, bx_xv_ok hs_.1]
    rfl
  rw [ea]
  refine ⟨g.1, fun S_p w r_p hPS hX_p I1 hsm hr hw hs_p => ?_⟩
  have hw := hw _ rfl
  subst hw
  have b_p := hs_p.2.2 9 _ _ rfl
  have g2 := g.2 S_p (r_p 9) b_p.1 b_p.2 hPS I1 hsm
  show rxIBS_12 S0 ws S_p (r_p 8) (r_p 9) ∧ rxmBS_12 S0 ws S_p (r_p 8) (r_p 9) < _
  rw [hr 8 (by decide)]
  exact g2
theorem rxkBS_12 {S0 : Nat → Int → Int} {ws : List Int} {S : Nat → Int → Int} {test is : Int} (hP : rxPBS S0 ws) (hin : bx_same rxL (bx_mdl rxCBS.2.2.1) S0 S) (I0 : bx_Inv rxL S) (hinv : rxIBS_12 S0 ws S test is) (l8 : 0 ≤ test) (u8 : test ≤ 1) (l9 : 0 ≤ is) (u9 : is ≤ 1) : rxPMU S [480, is] ∧ ∀ (S_p : Nat → Int → Int), rxPSMU S [480, is] S_p none → bx_Inv rxL S_p → bx_same rxL (bx_mdl rxCMU.2.2.1) S S_p → rxIBS_13 S0 ws S_p test is ∧ rxmBS_13 S0 ws S_p test is < rxmBS_12 S0 ws S test is := by
  obtain ⟨rfl, hb, hi⟩ := hinv
  obtain ⟨⟨p1, p2, p3, p4⟩, p5, p6⟩ := (show rxPt S ∧ S 480 14 = 0 ∧ _ from hP)
  have t4 := p1.2.2.2.1
  refine ⟨p1, fun S_p hq I1 hsm => ⟨⟨hq.2.1, rxSm_of hsm (by decide +kernel), fun g => ?_, fun g => ?_, ?_⟩, by unfold rxmBS_12 rxmBS_13; omega⟩⟩
  · obtain ⟨-, -, is_p, hw2, hc⟩ := hq
    have he : is = is_p := Option.some.inj (congrArg (fun l => l[1]?) hw2)
    rcases hc with ⟨c1, c2, c3, c4⟩ | ⟨c1, c2, c3⟩
    · have t5 := t4 (hi (by omega))
      omega
    · omega
  · obtain ⟨-, -, is_p, hw2, hc⟩ := hq
    rcases hc with ⟨c1, c2, c3, c4⟩ | ⟨c1, c2, c3, -⟩
    · omega
    · exact c3
  · have hs := rxSm_of hsm (by decide +kernel)
    have b24 := rxBox24 I0
    obtain ⟨b, b0, b1, b2, b3⟩ := hb
    have k24 := hs.2.1
    exact ⟨b, b0, by omega, by rw [(hs.2.2.2 b b0 (by omega)).2.2.1]; exact b2, fun j j0 j1 => by rw [(hs.2.2.2 j (by omega) (by omega)).2.2.1]; exact b3 j j0 (by omega)⟩
theorem rxsBS_12 {X : (Nat → Int → Int) → Prop} {S0 : Nat → Int → Int} {ws : List Int} (hP : rxPBS S0 ws) : rx_obK X S0 rxCBS.2.2.1 rxCMU.2.2.1 (rxIBS S0 ws) (rxmBS S0 ws) 12 13 rxzBS_12 rxzBS_13 [.inr (3, (0, 480)), .inr (0, (9, 0))] none rxPMU rxPSMU := by
  intro S r hinv hXS I0 hin hs_ hf_
  have b_ := bx_bds_sat hs_
  have f_ := bx_fcl_ok hs_.1 hf_
  obtain ⟨⟨l8, u8⟩, ⟨l9, u9⟩, -⟩ := b_
  have g := rxkBS_12 hP hin I0 hinv l8 u8 l9 u9
  have ea : List.map (bx_num r) [.inr (3, (0, 480)), .inr (0, (9, 0))] = [480, (r 9)] := by
    simp only [List.map_cons, List.map_nil, bx_xv_ok hs_.1]
    rfl
  rw [ea]
  refine ⟨g.1, fun S_p w r_p hPS hX_p I1 hsm hr hw hs_p => ?_⟩
  have hw : w = none := hPS.1
  subst hw
  have g2 := g.2 S_p hPS I1 hsm
  show rxIBS_13 S0 ws S_p (r_p 8) (r_p 9) ∧ rxmBS_13 S0 ws S_p (r_p 8) (r_p 9) < _
  rw [hr 8 (by decide), hr 9 (by decide)]
  exact g2
theorem rxkBS_14 {S0 : Nat → Int → Int} {ws : List Int} {S : Nat → Int → Int} {test : Int} (hP : rxPBS S0 ws) (hin : bx_same rxL (bx_mdl rxCBS.2.2.1) S0 S) (I0 : bx_Inv rxL S) (hinv : rxIBS_14 S0 ws S test) (l8 : 0 ≤ test) (u8 : test ≤ 1) : rxPST S [480, 5] ∧ ∀ (S_p : Nat → Int → Int), rxPSST S [480, 5] S_p none → bx_Inv rxL S_p → bx_same rxL (bx_mdl rxCST.2.2.1) S S_p → rxIBS_15 S0 ws S_p test ∧ rxmBS_15 S0 ws S_p test < rxmBS_14 S0 ws S test := by
  obtain ⟨h1, h2, h3, h4, b, b0, b1, b2, b3⟩ := hinv
  obtain ⟨⟨p1, p2, p3, p4⟩, p5, p6⟩ := hP
  have b8 := rxBox8 I0
  have b24 := rxBox24 I0
  have b18 := rxBox18 I0
  have k18 := h2.1
  have k24 := h2.2.1
  have t1 := h1.2.1
  have t2 := h1.2.2.1
  have hz := h2.pz p2 (by omega)
  refine ⟨⟨hz, by omega, by omega⟩, fun S_p hq I1 hsm => ⟨?_, by unfold rxmBS_14 rxmBS_15; omega⟩⟩
  obtain ⟨-, l, hw, hs, ht⟩ := hq
  have hl : (5 : Int) = l := Option.some.inj (congrArg (fun l => l[1]?) hw)
  subst hl
  have hm := rxTm_of hsm (by decide +kernel)
  have g := rxSqTop hz b0 b1 b2 b3 hs ht
  have m9 := hm.2.1
  have u1 := hs.2.1
  have u2 := hs.2.2.2.2.1
  exact ⟨⟨hm.tk h1, hs.1, u1, by omega⟩, (h2.ef (by omega) (by omega) 1).tr (rxSt_ef hs), by omega, g.1, g.2⟩
theorem rxsBS_14 {X : (Nat → Int → Int) → Prop} {S0 : Nat → Int → Int} {ws : List Int} (hP : rxPBS S0 ws) : rx_obK X S0 rxCBS.2.2.1 rxCST.2.2.1 (rxIBS S0 ws) (rxmBS S0 ws) 14 15 rxzBS_14 rxzBS_15 [.inr (3, (0, 480)), .inr (0, (0, 5))] none rxPST rxPSST := by
  intro S r hinv hXS I0 hin hs_ hf_
  have b_ := bx_bds_sat hs_
  have f_ := bx_fcl_ok hs_.1 hf_
  obtain ⟨⟨l8, u8⟩, -⟩ := b_
  have g := rxkBS_14 hP hin I0 hinv l8 u8
  have ea : List.map (bx_num r) [.inr (3, (0, 480)), .inr (0, (0, 5))] = [480, 5] := by
    simp only [List.map_cons, List.map_nil, bx_xv_ok hs_.1]
    rfl
  rw [ea]
  refine ⟨g.1, fun S_p w r_p hPS hX_p I1 hsm hr hw hs_p => ?_⟩
  have hw : w = none := hPS.1
  subst hw
  have g2 := g.2 S_p hPS I1 hsm
  show rxIBS_15 S0 ws S_p (r_p 8) ∧ rxmBS_15 S0 ws S_p (r_p 8) < _
  rw [hr 8 (by decide)]
  exact g2
theorem rxkBS_18 {S0 : Nat → Int → Int} {ws : List Int} {S : Nat → Int → Int} {test : Int} (hP : rxPBS S0 ws) (hin : bx_same rxL (bx_mdl rxCBS.2.2.1) S0 S) (I0 : bx_Inv rxL S) (hinv : rxIBS_18 S0 ws S test) (l8 : 0 ≤ test) (u8 : test ≤ 1) : rxPIC S [480] ∧ ∀ (S_p : Nat → Int → Int) (cmp : Int), 0 ≤ cmp → cmp ≤ 1 → rxPSIC S [480] S_p (some cmp) → bx_Inv rxL S_p → bx_same rxL (bx_mdl rxCIC.2.2.1) S S_p → rxIBS_19 S0 ws S_p test cmp ∧ rxmBS_19 S0 ws S_p test cmp < rxmBS_18 S0 ws S test := by
  obtain ⟨rfl, h1⟩ := hinv
  refine ⟨trivial, fun S_p cmp l u hq I1 hsm => ⟨?_, by unfold rxmBS_18 rxmBS_19; omega⟩⟩
  have hq : S_p = S := hq
  subst hq
  exact ⟨rfl, h1⟩
theorem rxsBS_18 {X : (Nat → Int → Int) → Prop} {S0 : Nat → Int → Int} {ws : List Int} (hP : rxPBS S0 ws) : rx_obK X S0 rxCBS.2.2.1 rxCIC.2.2.1 (rxIBS S0 ws) (rxmBS S0 ws) 18 19 rxzBS_18 rxzBS_19 [.inr (3, (0, 480))] (some 9) rxPIC rxPSIC := by
  intro S r hinv hXS I0 hin hs_ hf_
  have b_ := bx_bds_sat hs_
  have f_ := bx_fcl_ok hs_.1 hf_
  obtain ⟨⟨l8, u8⟩, -⟩ := b_
  have g := rxkBS_18 hP hin I0 hinv l8 u8
  have ea : List.map (bx_num r) [.inr (3, (0, 480))] = [480] := by
    simp only [List.map_cons, List.map_nil, bx_xv_ok hs_.1]
    rfl
  rw [ea]
  refine ⟨g.1, fun S_p w r_p hPS hX_p I1 hsm hr hw hs_p => ?_⟩
  have hw := hw _ rfl
  subst hw
  have b_p := hs_p.2.2 9 _ _ rfl
  have g2 := g.2 S_p (r_p 9) b_p.1 b_p.2 hPS I1 hsm
  show rxIBS_19 S0 ws S_p (r_p 8) (r_p 9) ∧ rxmBS_19 S0 ws S_p (r_p 8) (r_p 9) < _
  rw [hr 8 (by decide)]
  exact g2
theorem rxkBS_20 {S0 : Nat → Int → Int} {ws : List Int} {S : Nat → Int → Int} {test op is : Int} (hP : rxPBS S0 ws) (hin : bx_same rxL (bx_mdl rxCBS.2.2.1) S0 S) (I0 : bx_Inv rxL S) (hinv : rxIBS_20 S0 ws S test op is) (l8 : 0 ≤ test) (u8 : test ≤ 1) (l9 : 25 ≤ op) (u9 : op ≤ 27) (l10 : 0 ≤ is) (u10 : is ≤ 1) : rxPMU S [480, is] ∧ ∀ (S_p : Nat → Int → Int), rxPSMU S [480, is] S_p none → bx_Inv rxL S_p → bx_same rxL (bx_mdl rxCMU.2.2.1) S S_p → rxIBS_21 S0 ws S_p test op is ∧ rxmBS_21 S0 ws S_p test op is < rxmBS_20 S0 ws S test op is := by
  obtain ⟨rfl, hn, hi⟩ := hinv
  obtain ⟨⟨p1, p2, p3, p4⟩, p5, p6⟩ := (show rxPt S ∧ S 480 14 = 0 ∧ _ from hP)
  have t4 := p1.2.2.2.1
  refine ⟨p1, fun S_p hq I1 hsm => ⟨⟨hq.2.1, rxSm_of hsm (by decide +kernel), fun g => ?_, fun g => ?_, hn⟩, by unfold rxmBS_20 rxmBS_21; omega⟩⟩
  · obtain ⟨-, -, is_p, hw2, hc⟩ := hq
    have he : is = is_p := Option.some.inj (congrArg (fun l => l[1]?) hw2)
    rcases hc with ⟨c1, c2, c3, c4⟩ | ⟨c1, c2, c3⟩
    · have t5 := t4 (hi (by omega))
      omega
    · omega
  · obtain ⟨-, -, is_p, hw2, hc⟩ := hq
    rcases hc with ⟨c1, c2, c3, c4⟩ | ⟨c1, c2, c3, -⟩
    · omega
    · exact c3
theorem rxsBS_20 {X : (Nat → Int → Int) → Prop} {S0 : Nat → Int → Int} {ws : List Int} (hP : rxPBS S0 ws) : rx_obK X S0 rxCBS.2.2.1 rxCMU.2.2.1 (rxIBS S0 ws) (rxmBS S0 ws) 20 21 rxzBS_20 rxzBS_21 [.inr (3, (0, 480)), .inr (0, (10, 0))] none rxPMU rxPSMU := by
  intro S r hinv hXS I0 hin hs_ hf_
  have b_ := bx_bds_sat hs_
  have f_ := bx_fcl_ok hs_.1 hf_
  obtain ⟨⟨l8, u8⟩, ⟨l9, u9⟩, ⟨l10, u10⟩, -⟩ := b_
  have g := rxkBS_20 hP hin I0 hinv l8 u8 l9 u9 l10 u10
  have ea : List.map (bx_num r) [.inr (3, (0, 480)), .inr (0, (10, 0))] = [480, (r 10)] := by
    simp only [List.map_cons, List.map_nil, bx_xv_ok hs_.1]
    rfl
  rw [ea]
  refine ⟨g.1, fun S_p w r_p hPS hX_p I1 hsm hr hw hs_p => ?_⟩
  have hw : w = none := hPS.1
  subst hw
  have g2 := g.2 S_p hPS I1 hsm
  show rxIBS_21 S0 ws S_p (r_p 8) (r_p 9) (r_p 10) ∧ rxmBS_21 S0 ws S_p (r_p 8) (r_p 9) (r_p 10) < _
  rw [hr 8 (by decide), hr 9 (by decide), hr 10 (by decide)]
  exact g2
theorem rxkBS_22 {S0 : Nat → Int → Int} {ws : List Int} {S : Nat → Int → Int} {test op : Int} (hP : rxPBS S0 ws) (hin : bx_same rxL (bx_mdl rxCBS.2.2.1) S0 S) (I0 : bx_Inv rxL S) (hinv : rxIBS_22 S0 ws S test op) (l8 : 0 ≤ test) (u8 : test ≤ 1) (l9 : 25 ≤ op) (u9 : op ≤ 27) : rxPST S [480, 5] ∧ ∀ (S_p : Nat → Int → Int), rxPSST S [480, 5] S_p none → bx_Inv rxL S_p → bx_same rxL (bx_mdl rxCST.2.2.1) S S_p → rxIBS_23 S0 ws S_p test op ∧ rxmBS_23 S0 ws S_p test op < rxmBS_22 S0 ws S test op := by
  obtain ⟨h1, h2, h3, h4, hn⟩ := hinv
  obtain ⟨⟨p1, p2, p3, p4⟩, p5, p6⟩ := hP
  have b8 := rxBox8 I0
  have b24 := rxBox24 I0
  have b18 := rxBox18 I0
  have k18 := h2.1
  have k24 := h2.2.1
  have t1 := h1.2.1
  have t2 := h1.2.2.1
  have hz := h2.pz p2 (by omega)
  refine ⟨⟨hz, by omega, by omega⟩, fun S_p hq I1 hsm => ⟨?_, by unfold rxmBS_22 rxmBS_23; omega⟩⟩
  obtain ⟨-, l, hw, hs, ht⟩ := hq
  have hm := rxTm_of hsm (by decide +kernel)
  have m9 := hm.2.1
  have m14 := hm.2.2.2.2.2
  have u1 := hs.2.1
  have u2 := hs.2.2.2.2.1
  exact ⟨⟨hm.tk h1, hs.1, u1, by omega⟩, (h2.ef (by omega) (by omega) 1).tr (rxSt_ef hs), by omega, by omega, by omega, rxSt_sq hs (hn.sm h2 (by omega)), by omega⟩
theorem rxsBS_22 {X : (Nat → Int → Int) → Prop} {S0 : Nat → Int → Int} {ws : List Int} (hP : rxPBS S0 ws) : rx_obK X S0 rxCBS.2.2.1 rxCST.2.2.1 (rxIBS S0 ws) (rxmBS S0 ws) 22 23 rxzBS_22 rxzBS_23 [.inr (3, (0, 480)), .inr (0, (0, 5))] none rxPST rxPSST := by
  intro S r hinv hXS I0 hin hs_ hf_
  have b_ := bx_bds_sat hs_
  have f_ := bx_fcl_ok hs_.1 hf_
  obtain ⟨⟨l8, u8⟩, ⟨l9, u9⟩, -⟩ := b_
  have g := rxkBS_22 hP hin I0 hinv l8 u8 l9 u9
  have ea : List.map (bx_num r) [.inr (3, (0, 480)), .inr (0, (0, 5))] = [480, 5] := by
    simp only [List.map_cons, List.map_nil, bx_xv_ok hs_.1]
    rfl
  rw [ea]
  refine ⟨g.1, fun S_p w r_p hPS hX_p I1 hsm hr hw hs_p => ?_⟩
  have hw : w = none := hPS.1
  subst hw
  have g2 := g.2 S_p hPS I1 hsm
  show rxIBS_23 S0 ws S_p (r_p 8) (r_p 9) ∧ rxmBS_23 S0 ws S_p (r_p 8) (r_p 9) < _
  rw [hr 8 (by decide), hr 9 (by decide)]
  exact g2
theorem rxkBS_24 {S0 : Nat → Int → Int} {ws : List Int} {S : Nat → Int → Int} {test op op2 : Int} (hP : rxPBS S0 ws) (hin : bx_same rxL (bx_mdl rxCBS.2.2.1) S0 S) (I0 : bx_Inv rxL S) (hinv : rxIBS_24 S0 ws S test op op2) (l8 : 0 ≤ test) (u8 : test ≤ 1) (l9 : 25 ≤ op) (u9 : op ≤ 27) (l10 : 25 ≤ op2) (u10 : op2 ≤ 27) : rxPPU S [480, op2, 0] ∧ ∀ (S_p : Nat → Int → Int), rxPSPU S [480, op2, 0] S_p none → bx_Inv rxL S_p → bx_same rxL (bx_mdl rxCPU.2.2.1) S S_p → rxIBS_25 S0 ws S_p test op op2 ∧ rxmBS_25 S0 ws S_p test op op2 < rxmBS_24 S0 ws S test op op2 := by
  obtain ⟨⟨q1, q2, q3, q4⟩, h2, h3, h4, h5, h6, h7⟩ := hinv
  have b8 := rxBox8 I0
  have b18 := rxBox18 I0
  have t1 := q1.2.1
  have t2 := q1.2.2.1
  have p4 : S0 480 18 + S0 480 24 ≤ S0 480 9 := hP.1.2.2.2
  refine ⟨by show S 480 24 ≤ 399; omega, fun S_p hq I1 hsm => ⟨?_, by unfold rxmBS_24 rxmBS_25; omega⟩⟩
  obtain ⟨-, o_p, a_p, hw3, rfl⟩ := hq
  have ho : op2 = o_p := Option.some.inj (congrArg (fun l => l[1]?) hw3)
  have ha : (0 : Int) = a_p := Option.some.inj (congrArg (fun l => l[2]?) hw3)
  subst ho
  subst ha
  have f18 : rxPuE S op2 0 480 18 = S 480 18 := by unfold rxPuE; simp [bx_up]
  have f24 : rxPuE S op2 0 480 24 = S 480 24 + 1 := by unfold rxPuE; simp [bx_up]
  have hm := rxTm_pu (S := S) (op := op2) (a := 0)
  have m9 := hm.2.1
  refine ⟨⟨hm.tk q1, rxPuE_pz (op := op2) q2 q3 (by omega) (by omega) (Or.inr h6), by show 0 ≤ rxPuE S op2 0 480 24; omega, by show rxPuE S op2 0 480 18 + rxPuE S op2 0 480 24 ≤ rxPuE S op2 0 480 9; omega⟩, fun _ => ⟨by show S0 480 9 < rxPuE S op2 0 480 9; omega, h2.tr (rxPuE_ef q3 (fun q => by rcases q with q | q <;> omega) (by rw [if_pos (by omega)]; rfl))⟩⟩
theorem rxsBS_24 {X : (Nat → Int → Int) → Prop} {S0 : Nat → Int → Int} {ws : List Int} (hP : rxPBS S0 ws) : rx_obK X S0 rxCBS.2.2.1 rxCPU.2.2.1 (rxIBS S0 ws) (rxmBS S0 ws) 24 25 rxzBS_24 rxzBS_25 [.inr (3, (0, 480)), .inr (0, (10, 0)), .inr (0, (0, 0))] none rxPPU rxPSPU := by
  intro S r hinv hXS I0 hin hs_ hf_
  have b_ := bx_bds_sat hs_
  have f_ := bx_fcl_ok hs_.1 hf_
  obtain ⟨⟨l8, u8⟩, ⟨l9, u9⟩, ⟨l10, u10⟩, -⟩ := b_
  have g := rxkBS_24 hP hin I0 hinv l8 u8 l9 u9 l10 u10
  have ea : List.map (bx_num r) [.inr (3, (0, 480)), .inr (0, (10, 0)), .inr (0, (0, 0))] = [480, (r 10), 0] := by
    simp only [List.map_cons, List.map_nil, bx_xv_ok hs_.1]
    rfl
  rw [ea]
  refine ⟨g.1, fun S_p w r_p hPS hX_p I1 hsm hr hw hs_p => ?_⟩
  have hw : w = none := hPS.1
  subst hw
  have g2 := g.2 S_p hPS I1 hsm
  show rxIBS_25 S0 ws S_p (r_p 8) (r_p 9) (r_p 10) ∧ rxmBS_25 S0 ws S_p (r_p 8) (r_p 9) (r_p 10) < _
  rw [hr 8 (by decide), hr 9 (by decide), hr 10 (by decide)]
  exact g2
theorem rxcBS_0_0 {S0 : Nat → Int → Int} {ws : List Int} {S : Nat → Int → Int} {test x9 : Int} (hP : rxPBS S0 ws) (hin : bx_same rxL (bx_mdl rxCBS.2.2.1) S0 S) (I0 : bx_Inv rxL S) (hinv : rxIBS_0 S0 ws S test) (l8 : 0 ≤ test) (u8 : test ≤ 1) (l9 : 0 ≤ x9) (u9 : x9 ≤ 2) (f0 : x9 ≠ 3) (f1 : x9 ≠ 3) (f2 : x9 ≠ 3) (f3 : x9 ≠ 3) (f4 : x9 ≠ 3) (e0 : S 480 11 = x9) : (True) ∧ (True) ∧ rxIBS_1 S0 ws S test ((-1)) ∧ rxmBS_1 S0 ws S test ((-1)) < rxmBS_0 S0 ws S test := by
  obtain ⟨rfl, hw⟩ := hinv
  exact ⟨trivial, trivial, ⟨rfl, hw, by omega⟩, by unfold rxmBS_0 rxmBS_1; omega⟩
theorem rxgBS_0_0 {X : (Nat → Int → Int) → Prop} {S0 : Nat → Int → Int} {ws : List Int} (hP : rxPBS S0 ws) : bx_obC rxL X S0 rxCBS.2.2.1 (rxIBS S0 ws) (rxmBS S0 ws) 0 rxzBS_0 rxoBS_0_0 := by
  intro S S_p r r_p hinv hX hin hsm_ hseg
  obtain ⟨I0, I1, h0_, hr_, b_, f_, d_⟩ := bx_cl (evs := [(0, (0, 480), (0, 11), .inr (0, (9, 0)))]) (fvs := [(3, (9, 0), (0, 3), (0, 0)), (3, (9, 0), (0, 3), (0, 0)), (3, (9, 0), (0, 3), (0, 0)), (3, (9, 0), (0, 3), (0, 0)), (3, (9, 0), (0, 3), (0, 0))]) hseg (by decide +kernel) (by decide +kernel)
  have hinv : rxIBS_0 S0 ws S (r 8) := hinv
  rw [← hr_ 8 (by decide)] at hinv
  obtain ⟨⟨l8, u8⟩, ⟨l9, u9⟩, -⟩ := b_
  obtain ⟨f0, f1, f2, f3, f4, -⟩ := f_
  obtain ⟨e0, w_⟩ := d_
  subst w_
  have g := rxcBS_0_0 hP hin I0 hinv l8 u8 l9 u9 f0 f1 f2 f3 f4 e0
  refine ⟨bx_narP_ok (l := []) g.1, bx_nfP_ok h0_ (fvs := []) (by decide +kernel) g.2.1, ?_, ?_⟩
  · show rxIBS_1 S0 ws S_p (bx_val [(0, 0), (0, 0), (0, 0), (0, 0), (0, 0), (0, 0), (0, 0), (0, 0), (8, 0), (0, (-1))] r_p 8) (bx_val [(0, 0), (0, 0), (0, 0), (0, 0), (0, 0), (0, 0), (0, 0), (0, 0), (8, 0), (0, (-1))] r_p 9)
    rw [bx_val_x (n := 8) (e := (8, 0)) h0_ rfl, bx_val_x (n := 9) (e := (0, (-1))) h0_ rfl]
    exact g.2.2.1
  · show rxmBS_1 S0 ws S_p (bx_val [(0, 0), (0, 0), (0, 0), (0, 0), (0, 0), (0, 0), (0, 0), (0, 0), (8, 0), (0, (-1))] r_p 8) (bx_val [(0, 0), (0, 0), (0, 0), (0, 0), (0, 0), (0, 0), (0, 0), (0, 0), (8, 0), (0, (-1))] r_p 9) < rxmBS_0 S0 ws S_p (r 8)
    rw [bx_val_x (n := 8) (e := (8, 0)) h0_ rfl, bx_val_x (n := 9) (e := (0, (-1))) h0_ rfl, ← hr_ 8 (by decide)]
    exact g.2.2.2
theorem rxcBS_0_1 {S0 : Nat → Int → Int} {ws : List Int} {S : Nat → Int → Int} {test x9 x10 : Int} (hP : rxPBS S0 ws) (hin : bx_same rxL (bx_mdl rxCBS.2.2.1) S0 S) (I0 : bx_Inv rxL S) (hinv : rxIBS_0 S0 ws S test) (l8 : 0 ≤ test) (u8 : test ≤ 1) (l9 : 3 ≤ x9) (u9 : x9 ≤ 3) (l10 : (-9223372036854775808) ≤ x10) (u10 : x10 ≤ 9223372036854775807) (f0 : x10 ≠ 37) (f1 : x10 ≠ 47) (f2 : x10 ≠ 42) (f3 : x10 ≠ 45) (f4 : x10 ≠ 43) (e1 : S 480 11 = x9) (e0 : S 480 12 = x10) : (True) ∧ (True) ∧ rxIBS_1 S0 ws S test ((-1)) ∧ rxmBS_1 S0 ws S test ((-1)) < rxmBS_0 S0 ws S test := by
  obtain ⟨rfl, hw⟩ := hinv
  exact ⟨trivial, trivial, ⟨rfl, hw, by omega⟩, by unfold rxmBS_0 rxmBS_1; omega⟩
theorem rxgBS_0_1 {X : (Nat → Int → Int) → Prop} {S0 : Nat → Int → Int} {ws : List Int} (hP : rxPBS S0 ws) : bx_obC rxL X S0 rxCBS.2.2.1 (rxIBS S0 ws) (rxmBS S0 ws) 0 rxzBS_0 rxoBS_0_1 := by
  intro S S_p r r_p hinv hX hin hsm_ hseg
  obtain ⟨I0, I1, h0_, hr_, b_, f_, d_⟩ := bx_cl (evs := [(0, (0, 480), (0, 12), .inr (1, (10, 0))), (0, (0, 480), (0, 11), .inr (0, (9, 0)))]) (fvs := [(3, (10, 0), (0, 37), (0, 0)), (3, (10, 0), (0, 47), (0, 0)), (3, (10, 0), (0, 42), (0, 0)), (3, (10, 0), (0, 45), (0, 0)), (3, (10, 0), (0, 43), (0, 0))]) hseg (by decide +kernel) (by decide +kernel)
  have hinv : rxIBS_0 S0 ws S (r 8) := hinv
  rw [← hr_ 8 (by decide)] at hinv
  obtain ⟨⟨l8, u8⟩, ⟨l9, u9⟩, ⟨l10, u10⟩, -⟩ := b_
  obtain ⟨f0, f1, f2, f3, f4, -⟩ := f_
  obtain ⟨e0, ⟨e1, w_⟩⟩ := d_
  subst w_
  have g := rxcBS_0_1 hP hin I0 hinv l8 u8 l9 u9 l10 u10 f0 f1 f2 f3 f4 e1 e0
  refine ⟨bx_narP_ok (l := []) g.1, bx_nfP_ok h0_ (fvs := []) (by decide +kernel) g.2.1, ?_, ?_⟩
  · show rxIBS_1 S0 ws S_p (bx_val [(0, 0), (0, 0), (0, 0), (0, 0), (0, 0), (0, 0), (0, 0), (0, 0), (8, 0), (0, (-1))] r_p 8) (bx_val [(0, 0), (0, 0), (0, 0), (0, 0), (0, 0), (0, 0), (0, 0), (0, 0), (8, 0), (0, (-1))] r_p 9)
    rw [bx_val_x (n := 8) (e := (8, 0)) h0_ rfl, bx_val_x (n := 9) (e := (0, (-1))) h0_ rfl]
    exact g.2.2.1
  · show rxmBS_1 S0 ws S_p (bx_val [(0, 0), (0, 0), (0, 0), (0, 0), (0, 0), (0, 0), (0, 0), (0, 0), (8, 0), (0, (-1))] r_p 8) (bx_val [(0, 0), (0, 0), (0, 0), (0, 0), (0, 0), (0, 0), (0, 0), (0, 0), (8, 0), (0, (-1))] r_p 9) < rxmBS_0 S0 ws S_p (r 8)
    rw [bx_val_x (n := 8) (e := (8, 0)) h0_ rfl, bx_val_x (n := 9) (e := (0, (-1))) h0_ rfl, ← hr_ 8 (by decide)]
    exact g.2.2.2
theorem rxcBS_0_2 {S0 : Nat → Int → Int} {ws : List Int} {S : Nat → Int → Int} {test x9 x10 : Int} (hP : rxPBS S0 ws) (hin : bx_same rxL (bx_mdl rxCBS.2.2.1) S0 S) (I0 : bx_Inv rxL S) (hinv : rxIBS_0 S0 ws S test) (l8 : 0 ≤ test) (u8 : test ≤ 1) (l9 : 3 ≤ x9) (u9 : x9 ≤ 3) (l10 : 37 ≤ x10) (u10 : x10 ≤ 37) (f0 : x10 ≠ 47) (f1 : x10 ≠ 42) (f2 : x10 ≠ 45) (f3 : x10 ≠ 43) (e1 : S 480 11 = x9) (e0 : S 480 12 = x10) : (True) ∧ (True) ∧ rxIBS_1 S0 ws S test 24 ∧ rxmBS_1 S0 ws S test 24 < rxmBS_0 S0 ws S test := by
  obtain ⟨rfl, hw⟩ := hinv
  exact ⟨trivial, trivial, ⟨rfl, hw, by omega⟩, by unfold rxmBS_0 rxmBS_1; omega⟩
theorem rxgBS_0_2 {X : (Nat → Int → Int) → Prop} {S0 : Nat → Int → Int} {ws : List Int} (hP : rxPBS S0 ws) : bx_obC rxL X S0 rxCBS.2.2.1 (rxIBS S0 ws) (rxmBS S0 ws) 0 rxzBS_0 rxoBS_0_2 := by
  intro S S_p r r_p hinv hX hin hsm_ hseg
  obtain ⟨I0, I1, h0_, hr_, b_, f_, d_⟩ := bx_cl (evs := [(0, (0, 480), (0, 12), .inr (1, (10, 0))), (0, (0, 480), (0, 11), .inr (0, (9, 0)))]) (fvs := [(3, (10, 0), (0, 47), (0, 0)), (3, (10, 0), (0, 42), (0, 0)), (3, (10, 0), (0, 45), (0, 0)), (3, (10, 0), (0, 43), (0, 0))]) hseg (by decide +kernel) (by decide +kernel)
  have hinv : rxIBS_0 S0 ws S (r 8) := hinv
  rw [← hr_ 8 (by decide)] at hinv
  obtain ⟨⟨l8, u8⟩, ⟨l9, u9⟩, ⟨l10, u10⟩, -⟩ := b_
  obtain ⟨f0, f1, f2, f3, -⟩ := f_
  obtain ⟨e0, ⟨e1, w_⟩⟩ := d_
  subst w_
  have g := rxcBS_0_2 hP hin I0 hinv l8 u8 l9 u9 l10 u10 f0 f1 f2 f3 e1 e0
  refine ⟨bx_narP_ok (l := []) g.1, bx_nfP_ok h0_ (fvs := []) (by decide +kernel) g.2.1, ?_, ?_⟩
  · show rxIBS_1 S0 ws S_p (bx_val [(0, 0), (0, 0), (0, 0), (0, 0), (0, 0), (0, 0), (0, 0), (0, 0), (8, 0), (0, 24)] r_p 8) (bx_val [(0, 0), (0, 0), (0, 0), (0, 0), (0, 0), (0, 0), (0, 0), (0, 0), (8, 0), (0, 24)] r_p 9)
    rw [bx_val_x (n := 8) (e := (8, 0)) h0_ rfl, bx_val_x (n := 9) (e := (0, 24)) h0_ rfl]
    exact g.2.2.1
  · show rxmBS_1 S0 ws S_p (bx_val [(0, 0), (0, 0), (0, 0), (0, 0), (0, 0), (0, 0), (0, 0), (0, 0), (8, 0), (0, 24)] r_p 8) (bx_val [(0, 0), (0, 0), (0, 0), (0, 0), (0, 0), (0, 0), (0, 0), (0, 0), (8, 0), (0, 24)] r_p 9) < rxmBS_0 S0 ws S_p (r 8)
    rw [bx_val_x (n := 8) (e := (8, 0)) h0_ rfl, bx_val_x (n := 9) (e := (0, 24)) h0_ rfl, ← hr_ 8 (by decide)]
    exact g.2.2.2
theorem rxcBS_0_3 {S0 : Nat → Int → Int} {ws : List Int} {S : Nat → Int → Int} {test x9 x10 : Int} (hP : rxPBS S0 ws) (hin : bx_same rxL (bx_mdl rxCBS.2.2.1) S0 S) (I0 : bx_Inv rxL S) (hinv : rxIBS_0 S0 ws S test) (l8 : 0 ≤ test) (u8 : test ≤ 1) (l9 : 3 ≤ x9) (u9 : x9 ≤ 3) (l10 : 47 ≤ x10) (u10 : x10 ≤ 47) (f0 : x10 ≠ 42) (f1 : x10 ≠ 45) (f2 : x10 ≠ 43) (e1 : S 480 11 = x9) (e0 : S 480 12 = x10) : (True) ∧ (True) ∧ rxIBS_1 S0 ws S test 23 ∧ rxmBS_1 S0 ws S test 23 < rxmBS_0 S0 ws S test := by
  obtain ⟨rfl, hw⟩ := hinv
  exact ⟨trivial, trivial, ⟨rfl, hw, by omega⟩, by unfold rxmBS_0 rxmBS_1; omega⟩
theorem rxgBS_0_3 {X : (Nat → Int → Int) → Prop} {S0 : Nat → Int → Int} {ws : List Int} (hP : rxPBS S0 ws) : bx_obC rxL X S0 rxCBS.2.2.1 (rxIBS S0 ws) (rxmBS S0 ws) 0 rxzBS_0 rxoBS_0_3 := by
  intro S S_p r r_p hinv hX hin hsm_ hseg
  obtain ⟨I0, I1, h0_, hr_, b_, f_, d_⟩ := bx_cl (evs := [(0, (0, 480), (0, 12), .inr (1, (10, 0))), (0, (0, 480), (0, 11), .inr (0, (9, 0)))]) (fvs := [(3, (10, 0), (0, 42), (0, 0)), (3, (10, 0), (0, 45), (0, 0)), (3, (10, 0), (0, 43), (0, 0))]) hseg (by decide +kernel) (by decide +kernel)
  have hinv : rxIBS_0 S0 ws S (r 8) := hinv
  rw [← hr_ 8 (by decide)] at hinv
  obtain ⟨⟨l8, u8⟩, ⟨l9, u9⟩, ⟨l10, u10⟩, -⟩ := b_
  obtain ⟨f0, f1, f2, -⟩ := f_
  obtain ⟨e0, ⟨e1, w_⟩⟩ := d_
  subst w_
  have g := rxcBS_0_3 hP hin I0 hinv l8 u8 l9 u9 l10 u10 f0 f1 f2 e1 e0
  refine ⟨bx_narP_ok (l := []) g.1, bx_nfP_ok h0_ (fvs := []) (by decide +kernel) g.2.1, ?_, ?_⟩
  · show rxIBS_1 S0 ws S_p (bx_val [(0, 0), (0, 0), (0, 0), (0, 0), (0, 0), (0, 0), (0, 0), (0, 0), (8, 0), (0, 23)] r_p 8) (bx_val [(0, 0), (0, 0), (0, 0), (0, 0), (0, 0), (0, 0), (0, 0), (0, 0), (8, 0), (0, 23)] r_p 9)
    rw [bx_val_x (n := 8) (e := (8, 0)) h0_ rfl, bx_val_x (n := 9) (e := (0, 23)) h0_ rfl]
    exact g.2.2.1
  · show rxmBS_1 S0 ws S_p (bx_val [(0, 0), (0, 0), (0, 0), (0, 0), (0, 0), (0, 0), (0, 0), (0, 0), (8, 0), (0, 23)] r_p 8) (bx_val [(0, 0), (0, 0), (0, 0), (0, 0), (0, 0), (0, 0), (0, 0), (0, 0), (8, 0), (0, 23)] r_p 9) < rxmBS_0 S0 ws S_p (r 8)
    rw [bx_val_x (n := 8) (e := (8, 0)) h0_ rfl, bx_val_x (n := 9) (e := (0, 23)) h0_ rfl, ← hr_ 8 (by decide)]
    exact g.2.2.2
theorem rxcBS_0_4 {S0 : Nat → Int → Int} {ws : List Int} {S : Nat → Int → Int} {test x9 x10 : Int} (hP : rxPBS S0 ws) (hin : bx_same rxL (bx_mdl rxCBS.2.2.1) S0 S) (I0 : bx_Inv rxL S) (hinv : rxIBS_0 S0 ws S test) (l8 : 0 ≤ test) (u8 : test ≤ 1) (l9 : 3 ≤ x9) (u9 : x9 ≤ 3) (l10 : 42 ≤ x10) (u10 : x10 ≤ 42) (f0 : x10 ≠ 45) (f1 : x10 ≠ 43) (e1 : S 480 11 = x9) (e0 : S 480 12 = x10) : (True) ∧ (True) ∧ rxIBS_1 S0 ws S test 22 ∧ rxmBS_1 S0 ws S test 22 < rxmBS_0 S0 ws S test := by
  obtain ⟨rfl, hw⟩ := hinv
  exact ⟨trivial, trivial, ⟨rfl, hw, by omega⟩, by unfold rxmBS_0 rxmBS_1; omega⟩
theorem rxgBS_0_4 {X : (Nat → Int → Int) → Prop} {S0 : Nat → Int → Int} {ws : List Int} (hP : rxPBS S0 ws) : bx_obC rxL X S0 rxCBS.2.2.1 (rxIBS S0 ws) (rxmBS S0 ws) 0 rxzBS_0 rxoBS_0_4 := by
  intro S S_p r r_p hinv hX hin hsm_ hseg
  obtain ⟨I0, I1, h0_, hr_, b_, f_, d_⟩ := bx_cl (evs := [(0, (0, 480), (0, 12), .inr (1, (10, 0))), (0, (0, 480), (0, 11), .inr (0, (9, 0)))]) (fvs := [(3, (10, 0), (0, 45), (0, 0)), (3, (10, 0), (0, 43), (0, 0))]) hseg (by decide +kernel) (by decide +kernel)
  have hinv : rxIBS_0 S0 ws S (r 8) := hinv
  rw [← hr_ 8 (by decide)] at hinv
  obtain ⟨⟨l8, u8⟩, ⟨l9, u9⟩, ⟨l10, u10⟩, -⟩ := b_
  obtain ⟨f0, f1, -⟩ := f_
  obtain ⟨e0, ⟨e1, w_⟩⟩ := d_
  subst w_
  have g := rxcBS_0_4 hP hin I0 hinv l8 u8 l9 u9 l10 u10 f0 f1 e1 e0
  refine ⟨bx_narP_ok (l := []) g.1, bx_nfP_ok h0_ (fvs := []) (by decide +kernel) g.2.1, ?_, ?_⟩
  · show rxIBS_1 S0 ws S_p (bx_val [(0, 0), (0, 0), (0, 0), (0, 0), (0, 0), (0, 0), (0, 0), (0, 0), (8, 0), (0, 22)] r_p 8) (bx_val [(0, 0), (0, 0), (0, 0), (0, 0), (0, 0), (0, 0), (0, 0), (0, 0), (8, 0), (0, 22)] r_p 9)
    rw [bx_val_x (n := 8) (e := (8, 0)) h0_ rfl, bx_val_x (n := 9) (e := (0, 22)) h0_ rfl]
    exact g.2.2.1
  · show rxmBS_1 S0 ws S_p (bx_val [(0, 0), (0, 0), (0, 0), (0, 0), (0, 0), (0, 0), (0, 0), (0, 0), (8, 0), (0, 22)] r_p 8) (bx_val [(0, 0), (0, 0), (0, 0), (0, 0), (0, 0), (0, 0), (0, 0), (0, 0), (8, 0), (0, 22)] r_p 9) < rxmBS_0 S0 ws S_p (r 8)
    rw [bx_val_x (n := 8) (e := (8, 0)) h0_ rfl, bx_val_x (n := 9) (e := (0, 22)) h0_ rfl, ← hr_ 8 (by decide)]
    exact g.2.2.2
theorem rxcBS_0_5 {S0 : Nat → Int → Int} {ws : List Int} {S : Nat → Int → Int} {test x9 x10 : Int} (hP : rxPBS S0 ws) (hin : bx_same rxL (bx_mdl rxCBS.2.2.1) S0 S) (I0 : bx_Inv rxL S) (hinv : rxIBS_0 S0 ws S test) (l8 : 0 ≤ test) (u8 : test ≤ 1) (l9 : 3 ≤ x9) (u9 : x9 ≤ 3) (l10 : 45 ≤ x10) (u10 : x10 ≤ 45) (f0 : x10 ≠ 43) (e1 : S 480 11 = x9) (e0 : S 480 12 = x10) : (True) ∧ (True) ∧ rxIBS_1 S0 ws S test 21 ∧ rxmBS_1 S0 ws S test 21 < rxmBS_0 S0 ws S test := by
  obtain ⟨rfl, hw⟩ := hinv
  exact ⟨trivial, trivial, ⟨rfl, hw, by omega⟩, by unfold rxmBS_0 rxmBS_1; omega⟩
theorem rxgBS_0_5 {X : (Nat → Int → Int) → Prop} {S0 : Nat → Int → Int} {ws : List Int} (hP : rxPBS S0 ws) : bx_obC rxL X S0 rxCBS.2.2.1 (rxIBS S0 ws) (rxmBS S0 ws) 0 rxzBS_0 rxoBS_0_5 := by
  intro S S_p r r_p hinv hX hin hsm_ hseg
  obtain ⟨I0, I1, h0_, hr_, b_, f_, d_⟩ := bx_cl (evs := [(0, (0, 480), (0, 12), .inr (1, (10, 0))), (0, (0, 480), (0, 11), .inr (0, (9, 0)))]) (fvs := [(3, (10, 0), (0, 43), (0, 0))]) hseg (by decide +kernel) (by decide +kernel)
  have hinv : rxIBS_0 S0 ws S (r 8) := hinv
  rw [← hr_ 8 (by decide)] at hinv
  obtain ⟨⟨l8, u8⟩, ⟨l9, u9⟩, ⟨l10, u10⟩, -⟩ := b_
  obtain ⟨f0, -⟩ := f_
  obtain ⟨e0, ⟨e1, w_⟩⟩ := d_
  subst w_
  have g := rxcBS_0_5 hP hin I0 hinv l8 u8 l9 u9 l10 u10 f0 e1 e0
  refine ⟨bx_narP_ok (l := []) g.1, bx_nfP_ok h0_ (fvs := []) (by decide +kernel) g.2.1, ?_, ?_⟩
  · show rxIBS_1 S0 ws S_p (bx_val [(0, 0), (0, 0), (0, 0), (0, 0), (0, 0), (0, 0), (0, 0), (0, 0), (8, 0), (0, 21)] r_p 8) (bx_val [(0, 0), (0, 0), (0, 0), (0, 0), (0, 0), (0, 0), (0, 0), (0, 0), (8, 0), (0, 21)] r_p 9)
    rw [bx_val_x (n := 8) (e := (8, 0)) h0_ rfl, bx_val_x (n := 9) (e := (0, 21)) h0_ rfl]
    exact g.2.2.1
  · show rxmBS_1 S0 ws S_p (bx_val [(0, 0), (0, 0), (0, 0), (0, 0), (0, 0), (0, 0), (0, 0), (0, 0), (8, 0), (0, 21)] r_p 8) (bx_val [(0, 0), (0, 0), (0, 0), (0, 0), (0, 0), (0, 0), (0, 0), (0, 0), (8, 0), (0, 21)] r_p 9) < rxmBS_0 S0 ws S_p (r 8)
    rw [bx_val_x (n := 8) (e := (8, 0)) h0_ rfl, bx_val_x (n := 9) (e := (0, 21)) h0_ rfl, ← hr_ 8 (by decide)]
    exact g.2.2.2
theorem rxcBS_0_6 {S0 : Nat → Int → Int} {ws : List Int} {S : Nat → Int → Int} {test x9 x10 : Int} (hP : rxPBS S0 ws) (hin : bx_same rxL (bx_mdl rxCBS.2.2.1) S0 S) (I0 : bx_Inv rxL S) (hinv : rxIBS_0 S0 ws S test) (l8 : 0 ≤ test) (u8 : test ≤ 1) (l9 : 3 ≤ x9) (u9 : x9 ≤ 3) (l10 : 43 ≤ x10) (u10 : x10 ≤ 43) (e1 : S 480 11 = x9) (e0 : S 480 12 = x10) : (True) ∧ (True) ∧ rxIBS_1 S0 ws S test 20 ∧ rxmBS_1 S0 ws S test 20 < rxmBS_0 S0 ws S test := by
  obtain ⟨rfl, hw⟩ := hinv
  exact ⟨trivial, trivial, ⟨rfl, hw, by omega⟩, by unfold rxmBS_0 rxmBS_1; omega⟩
theorem rxgBS_0_6 {X : (Nat → Int → Int) → Prop} {S0 : Nat → Int → Int} {ws : List Int} (hP : rxPBS S0 ws) : bx_obC rxL X S0 rxCBS.2.2.1 (rxIBS S0 ws) (rxmBS S0 ws) 0 rxzBS_0 rxoBS_0_6 := by
  intro S S_p r r_p hinv hX hin hsm_ hseg
  obtain ⟨I0, I1, h0_, hr_, b_, f_, d_⟩ := bx_cl (evs := [(0, (0, 480), (0, 12), .inr (1, (10, 0))), (0, (0, 480), (0, 11), .inr (0, (9, 0)))]) (fvs := []) hseg (by decide +kernel) (by decide +kernel)
  have hinv : rxIBS_0 S0 ws S (r 8) := hinv
  rw [← hr_ 8 (by decide)] at hinv
  obtain ⟨⟨l8, u8⟩, ⟨l9, u9⟩, ⟨l10, u10⟩, -⟩ := b_
  obtain ⟨e0, ⟨e1, w_⟩⟩ := d_
  subst w_
  have g := rxcBS_0_6 hP hin I0 hinv l8 u8 l9 u9 l10 u10 e1 e0
  refine ⟨bx_narP_ok (l := []) g.1, bx_nfP_ok h0_ (fvs := []) (by decide +kernel) g.2.1, ?_, ?_⟩
  · show rxIBS_1 S0 ws S_p (bx_val [(0, 0), (0, 0), (0, 0), (0, 0), (0, 0), (0, 0), (0, 0), (0, 0), (8, 0), (0, 20)] r_p 8) (bx_val [(0, 0), (0, 0), (0, 0), (0, 0), (0, 0), (0, 0), (0, 0), (0, 0), (8, 0), (0, 20)] r_p 9)
    rw [bx_val_x (n := 8) (e := (8, 0)) h0_ rfl, bx_val_x (n := 9) (e := (0, 20)) h0_ rfl]
    exact g.2.2.1
  · show rxmBS_1 S0 ws S_p (bx_val [(0, 0), (0, 0), (0, 0), (0, 0), (0, 0), (0, 0), (0, 0), (0, 0), (8, 0), (0, 20)] r_p 8) (bx_val [(0, 0), (0, 0), (0, 0), (0, 0), (0, 0), (0, 0), (0, 0), (0, 0), (8, 0), (0, 20)] r_p 9) < rxmBS_0 S0 ws S_p (r 8)
    rw [bx_val_x (n := 8) (e := (8, 0)) h0_ rfl, bx_val_x (n := 9) (e := (0, 20)) h0_ rfl, ← hr_ 8 (by decide)]
    exact g.2.2.2
theorem rxcBS_1_0 {S0 : Nat → Int → Int} {ws : List Int} {S : Nat → Int → Int} {test op : Int} (hP : rxPBS S0 ws) (hin : bx_same rxL (bx_mdl rxCBS.2.2.1) S0 S) (I0 : bx_Inv rxL S) (hinv : rxIBS_1 S0 ws S test op) (l8 : 0 ≤ test) (u8 : test ≤ 1) (l9 : 0 ≤ op) (u9 : op ≤ 24) (f0 : op ≠ (-1)) : ((20 ≤ op ∧ op ≤ 24) ∧ (20 ≤ op ∧ op ≤ 24) ∧ True) ∧ (True) ∧ rxIBS_2 S0 ws S test op op ∧ rxmBS_2 S0 ws S test op op < rxmBS_1 S0 ws S test op := by
  obtain ⟨rfl, hw, h1⟩ := hinv
  exact ⟨⟨by omega, by omega, trivial⟩, trivial, ⟨rfl, by omega⟩, by unfold rxmBS_1 rxmBS_2; omega⟩
theorem rxgBS_1_0 {X : (Nat → Int → Int) → Prop} {S0 : Nat → Int → Int} {ws : List Int} (hP : rxPBS S0 ws) : bx_obC rxL X S0 rxCBS.2.2.1 (rxIBS S0 ws) (rxmBS S0 ws) 1 rxzBS_1 rxoBS_1_0 := by
  intro S S_p r r_p hinv hX hin hsm_ hseg
  obtain ⟨I0, I1, h0_, hr_, b_, f_, d_⟩ := bx_cl (evs := []) (fvs := [(3, (9, 0), (0, (-1)), (0, 0))]) hseg (by decide +kernel) (by decide +kernel)
  have hinv : rxIBS_1 S0 ws S (r 8) (r 9) := hinv
  rw [← hr_ 8 (by decide), ← hr_ 9 (by decide)] at hinv
  obtain ⟨⟨l8, u8⟩, ⟨l9, u9⟩, -⟩ := b_
  obtain ⟨f0, -⟩ := f_
  have w_ := d_
  subst w_
  have g := rxcBS_1_0 hP hin I0 hinv l8 u8 l9 u9 f0
  refine ⟨bx_narP_ok (l := [(9, 20, 24), (9, 20, 24)]) g.1, bx_nfP_ok h0_ (fvs := []) (by decide +kernel) g.2.1, ?_, ?_⟩
  · show rxIBS_2 S0 ws S_p (bx_val [(0, 0), (0, 0), (0, 0), (0, 0), (0, 0), (0, 0), (0, 0), (0, 0), (8, 0), (9, 0), (9, 0)] r_p 8) (bx_val [(0, 0), (0, 0), (0, 0), (0, 0), (0, 0), (0, 0), (0, 0), (0, 0), (8, 0), (9, 0), (9, 0)] r_p 9) (bx_val [(0, 0), (0, 0), (0, 0), (0, 0), (0, 0), (0, 0), (0, 0), (0, 0), (8, 0), (9, 0), (9, 0)] r_p 10)
    rw [bx_val_x (n := 8) (e := (8, 0)) h0_ rfl, bx_val_x (n := 9) (e := (9, 0)) h0_ rfl, bx_val_x (n := 10) (e := (9, 0)) h0_ rfl]
    exact g.2.2.1
  · show rxmBS_2 S0 ws S_p (bx_val [(0, 0), (0, 0), (0, 0), (0, 0), (0, 0), (0, 0), (0, 0), (0, 0), (8, 0), (9, 0), (9, 0)] r_p 8) (bx_val [(0, 0), (0, 0), (0, 0), (0, 0), (0, 0), (0, 0), (0, 0), (0, 0), (8, 0), (9, 0), (9, 0)] r_p 9) (bx_val [(0, 0), (0, 0), (0, 0), (0, 0), (0, 0), (0, 0), (0, 0), (0, 0), (8, 0), (9, 0), (9, 0)] r_p 10) < rxmBS_1 S0 ws S_p (r 8) (r 9)
    rw [bx_val_x (n := 8) (e := (8, 0)) h0_ rfl, bx_val_x (n := 9) (e := (9, 0)) h0_ rfl, bx_val_x (n := 10) (e := (9, 0)) h0_ rfl, ← hr_ 8 (by decide), ← hr_ 9 (by decide)]
    exact g.2.2.2
theorem rxcBS_1_1 {S0 : Nat → Int → Int} {ws : List Int} {S : Nat → Int → Int} {test op : Int} (hP : rxPBS S0 ws) (hin : bx_same rxL (bx_mdl rxCBS.2.2.1) S0 S) (I0 : bx_Inv rxL S) (hinv : rxIBS_1 S0 ws S test op) (l8 : 0 ≤ test) (u8 : test ≤ 1) (l9 : (-1) ≤ op) (u9 : op ≤ (-1)) : (True) ∧ (True) ∧ rxIBS_9 S0 ws S test ∧ rxmBS_9 S0 ws S test < rxmBS_1 S0 ws S test op := by
  obtain ⟨rfl, hw, h1⟩ := hinv
  exact ⟨trivial, trivial, rfl, by unfold rxmBS_1 rxmBS_9; omega⟩
theorem rxgBS_1_1 {X : (Nat → Int → Int) → Prop} {S0 : Nat → Int → Int} {ws : List Int} (hP : rxPBS S0 ws) : bx_obC rxL X S0 rxCBS.2.2.1 (rxIBS S0 ws) (rxmBS S0 ws) 1 rxzBS_1 rxoBS_1_1 := by
  intro S S_p r r_p hinv hX hin hsm_ hseg
  obtain ⟨I0, I1, h0_, hr_, b_, f_, d_⟩ := bx_cl (evs := []) (fvs := []) hseg (by decide +kernel) (by decide +kernel)
  have hinv : rxIBS_1 S0 ws S (r 8) (r 9) := hinv
  rw [← hr_ 8 (by decide), ← hr_ 9 (by decide)] at hinv
  obtain ⟨⟨l8, u8⟩, ⟨l9, u9⟩, -⟩ := b_
  have w_ := d_
  subst w_
  have g := rxcBS_1_1 hP hin I0 hinv l8 u8 l9 u9
  refine ⟨bx_narP_ok (l := []) g.1, bx_nfP_ok h0_ (fvs := []) (by decide +kernel) g.2.1, ?_, ?_⟩
  · show rxIBS_9 S0 ws S_p (bx_val [(0, 0), (0, 0), (0, 0), (0, 0), (0, 0), (0, 0), (0, 0), (0, 0), (8, 0)] r_p 8)
    rw [bx_val_x (n := 8) (e := (8, 0)) h0_ rfl]
    exact g.2.2.1
  · show rxmBS_9 S0 ws S_p (bx_val [(0, 0), (0, 0), (0, 0), (0, 0), (0, 0), (0, 0), (0, 0), (0, 0), (8, 0)] r_p 8) < rxmBS_1 S0 ws S_p (r 8) (r 9)
    rw [bx_val_x (n := 8) (e := (8, 0)) h0_ rfl, ← hr_ 8 (by decide), ← hr_ 9 (by decide)]
    exact g.2.2.2
theorem rxcBS_4_0 {S0 : Nat → Int → Int} {ws : List Int} {S : Nat → Int → Int} {test op op2 bd : Int} (hP : rxPBS S0 ws) (hin : bx_same rxL (bx_mdl rxCBS.2.2.1) S0 S) (I0 : bx_Inv rxL S) (hinv : rxIBS_4 S0 ws S test op op2 bd) (l8 : 0 ≤ test) (u8 : test ≤ 1) (l9 : 20 ≤ op) (u9 : op ≤ 24) (l10 : 20 ≤ op2) (u10 : op2 ≤ 24) (l11 : 5 ≤ bd) (u11 : bd ≤ 6) : (True) ∧ (True) ∧ rxIBS_5 S0 ws S test op op ∧ rxmBS_5 S0 ws S test op op < rxmBS_4 S0 ws S test op op2 bd := by
  exact ⟨trivial, trivial, hinv, by unfold rxmBS_4 rxmBS_5; omega⟩
theorem rxgBS_4_0 {X : (Nat → Int → Int) → Prop} {S0 : Nat → Int → Int} {ws : List Int} (hP : rxPBS S0 ws) : bx_obC rxL X S0 rxCBS.2.2.1 (rxIBS S0 ws) (rxmBS S0 ws) 4 rxzBS_4 rxoBS_4_0 := by
  intro S S_p r r_p hinv hX hin hsm_ hseg
  obtain ⟨I0, I1, h0_, hr_, b_, f_, d_⟩ := bx_cl (evs := []) (fvs := []) hseg (by decide +kernel) (by decide +kernel)
  have hinv : rxIBS_4 S0 ws S (r 8) (r 9) (r 10) (r 11) := hinv
  rw [← hr_ 8 (by decide), ← hr_ 9 (by decide), ← hr_ 10 (by decide), ← hr_ 11 (by decide)] at hinv
  obtain ⟨⟨l8, u8⟩, ⟨l9, u9⟩, ⟨l10, u10⟩, ⟨l11, u11⟩, -⟩ := b_
  have w_ := d_
  subst w_
  have g := rxcBS_4_0 hP hin I0 hinv l8 u8 l9 u9 l10 u10 l11 u11
  refine ⟨bx_narP_ok (l := []) g.1, bx_nfP_ok h0_ (fvs := []) (by decide +kernel) g.2.1, ?_, ?_⟩
  · show rxIBS_5 S0 ws S_p (bx_val [(0, 0), (0, 0), (0, 0), (0, 0), (0, 0), (0, 0), (0, 0), (0, 0), (8, 0), (9, 0), (9, 0)] r_p 8) (bx_val [(0, 0), (0, 0), (0, 0), (0, 0), (0, 0), (0, 0), (0, 0), (0, 0), (8, 0), (9, 0), (9, 0)] r_p 9) (bx_val [(0, 0), (0, 0), (0, 0), (0, 0), (0, 0), (0, 0), (0, 0), (0, 0), (8, 0), (9, 0), (9, 0)] r_p 10)
    rw [bx_val_x (n := 8) (e := (8, 0)) h0_ rfl, bx_val_x (n := 9) (e := (9, 0)) h0_ rfl, bx_val_x (n := 10) (e := (9, 0)) h0_ rfl]
    exact g.2.2.1
  · show rxmBS_5 S0 ws S_p (bx_val [(0, 0), (0, 0), (0, 0), (0, 0), (0, 0), (0, 0), (0, 0), (0, 0), (8, 0), (9, 0), (9, 0)] r_p 8) (bx_val [(0, 0), (0, 0), (0, 0), (0, 0), (0, 0), (0, 0), (0, 0), (0, 0), (8, 0), (9, 0), (9, 0)] r_p 9) (bx_val [(0, 0), (0, 0), (0, 0), (0, 0), (0, 0), (0, 0), (0, 0), (0, 0), (8, 0), (9, 0), (9, 0)] r_p 10) < rxmBS_4 S0 ws S_p (r 8) (r 9) (r 10) (r 11)
    rw [bx_val_x (n := 8) (e := (8, 0)) h0_ rfl, bx_val_x (n := 9) (e := (9, 0)) h0_ rfl, bx_val_x (n := 10) (e := (9, 0)) h0_ rfl, ← hr_ 8 (by decide), ← hr_ 9 (by decide), ← hr_ 10 (by decide), ← hr_ 11 (by decide)]
    exact g.2.2.2
theorem rxcBS_6_0 {S0 : Nat → Int → Int} {ws : List Int} {S : Nat → Int → Int} {test op op2 : Int} (hP : rxPBS S0 ws) (hin : bx_same rxL (bx_mdl rxCBS.2.2.1) S0 S) (I0 : bx_Inv rxL S) (hinv : rxIBS_6 S0 ws S test op op2) (l8 : 0 ≤ test) (u8 : test ≤ 1) (l9 : 20 ≤ op) (u9 : op ≤ 24) (l10 : 20 ≤ op2) (u10 : op2 ≤ 24) : (True) ∧ (True) ∧ rxIBS_7 S0 ws S test op ∧ rxmBS_7 S0 ws S test op < rxmBS_6 S0 ws S test op op2 := by
  obtain ⟨S1, h1, h2, h3, h4⟩ := hinv
  exact ⟨trivial, trivial, ⟨S1, op2, by omega, by omega, h1, h2, h3, h4⟩, by unfold rxmBS_6 rxmBS_7; omega⟩
theorem rxgBS_6_0 {X : (Nat → Int → Int) → Prop} {S0 : Nat → Int → Int} {ws : List Int} (hP : rxPBS S0 ws) : bx_obC rxL X S0 rxCBS.2.2.1 (rxIBS S0 ws) (rxmBS S0 ws) 6 rxzBS_6 rxoBS_6_0 := by
  intro S S_p r r_p hinv hX hin hsm_ hseg
  obtain ⟨I0, I1, h0_, hr_, b_, f_, d_⟩ := bx_cl (evs := []) (fvs := []) hseg (by decide +kernel) (by decide +kernel)
  have hinv : rxIBS_6 S0 ws S (r 8) (r 9) (r 10) := hinv
  rw [← hr_ 8 (by decide), ← hr_ 9 (by decide), ← hr_ 10 (by decide)] at hinv
  obtain ⟨⟨l8, u8⟩, ⟨l9, u9⟩, ⟨l10, u10⟩, -⟩ := b_
  have w_ := d_
  subst w_
  have g := rxcBS_6_0 hP hin I0 hinv l8 u8 l9 u9 l10 u10
  refine ⟨bx_narP_ok (l := []) g.1, bx_nfP_ok h0_ (fvs := []) (by decide +kernel) g.2.1, ?_, ?_⟩
  · show rxIBS_7 S0 ws S_p (bx_val [(0, 0), (0, 0), (0, 0), (0, 0), (0, 0), (0, 0), (0, 0), (0, 0), (8, 0), (9, 0)] r_p 8) (bx_val [(0, 0), (0, 0), (0, 0), (0, 0), (0, 0), (0, 0), (0, 0), (0, 0), (8, 0), (9, 0)] r_p 9)
    rw [bx_val_x (n := 8) (e := (8, 0)) h0_ rfl, bx_val_x (n := 9) (e := (9, 0)) h0_ rfl]
    exact g.2.2.1
  · show rxmBS_7 S0 ws S_p (bx_val [(0, 0), (0, 0), (0, 0), (0, 0), (0, 0), (0, 0), (0, 0), (0, 0), (8, 0), (9, 0)] r_p 8) (bx_val [(0, 0), (0, 0), (0, 0), (0, 0), (0, 0), (0, 0), (0, 0), (0, 0), (8, 0), (9, 0)] r_p 9) < rxmBS_6 S0 ws S_p (r 8) (r 9) (r 10)
    rw [bx_val_x (n := 8) (e := (8, 0)) h0_ rfl, bx_val_x (n := 9) (e := (9, 0)) h0_ rfl, ← hr_ 8 (by decide), ← hr_ 9 (by decide), ← hr_ 10 (by decide)]
    exact g.2.2.2
theorem rxdBS_8_0 {S0 : Nat → Int → Int} {ws : List Int} {S : Nat → Int → Int} {test op : Int} (hP : rxPBS S0 ws) (hin : bx_same rxL (bx_mdl rxCBS.2.2.1) S0 S) (hin2 : bx_same rxL (bx_mdl rxCBS.2.2.1) S S) (I0 : bx_Inv rxL S) (I1 : bx_Inv rxL S) (hinv : rxIBS_8 S0 ws S test op) (l8 : 0 ≤ test) (u8 : test ≤ 1) (l9 : 20 ≤ op) (u9 : op ≤ 24) : (True) ∧ rxPSBS S0 ws S (some 1) := by
  obtain ⟨h1, h2⟩ := hinv
  exact ⟨trivial, 1, rfl, h1, Or.inl rfl, fun q => Or.inl ⟨rfl, h2 q⟩⟩
theorem rxfBS_8_0 {X : (Nat → Int → Int) → Prop} {S0 : Nat → Int → Int} {ws : List Int} (hP : rxPBS S0 ws) : bx_obE rxL X S0 rxCBS.2.2.1 (rxIBS S0 ws) (rxPSBS S0 ws) 8 rxzBS_8 rxeBS_8_0 := by
  intro S S_p r r_p hinv hX hin hsm_ hseg
  obtain ⟨I0, I1, h0_, hr_, b_, f_, d_⟩ := bx_cl (evs := []) (fvs := []) hseg (by decide +kernel) (by decide +kernel)
  have hinv : rxIBS_8 S0 ws S (r 8) (r 9) := hinv
  rw [← hr_ 8 (by decide), ← hr_ 9 (by decide)] at hinv
  obtain ⟨⟨l8, u8⟩, ⟨l9, u9⟩, -⟩ := b_
  have w_ := d_
  subst w_
  have g := rxdBS_8_0 hP hin hsm_ I0 I1 hinv l8 u8 l9 u9
  refine ⟨bx_narP_ok (l := []) g.1, ?_⟩
  show rxPSBS S0 ws S_p (some (bx_num r_p (.inr (0, (0, 1)))))
  rw [bx_xv_ok h0_]
  exact g.2
theorem rxcBS_10_0 {S0 : Nat → Int → Int} {ws : List Int} {S : Nat → Int → Int} {test its : Int} (hP : rxPBS S0 ws) (hin : bx_same rxL (bx_mdl rxCBS.2.2.1) S0 S) (I0 : bx_Inv rxL S) (hinv : rxIBS_10 S0 ws S test its) (l8 : 0 ≤ test) (u8 : test ≤ 1) (l9 : 32 ≤ its) (u9 : its ≤ 32) : (True) ∧ (True) ∧ rxIBS_11 S0 ws S test ∧ rxmBS_11 S0 ws S test < rxmBS_10 S0 ws S test its := by
  obtain ⟨rfl, h1⟩ := hinv
  refine ⟨trivial, trivial, ⟨rfl, ?_⟩, by unfold rxmBS_10 rxmBS_11; omega⟩
  rcases h1 with h1 | ⟨h1, b, b0, b1, b2, b3⟩
  · omega
  · exact ⟨b, b0, b1, by omega, b3⟩
theorem rxgBS_10_0 {X : (Nat → Int → Int) → Prop} {S0 : Nat → Int → Int} {ws : List Int} (hP : rxPBS S0 ws) : bx_obC rxL X S0 rxCBS.2.2.1 (rxIBS S0 ws) (rxmBS S0 ws) 10 rxzBS_10 rxoBS_10_0 := by
  intro S S_p r r_p hinv hX hin hsm_ hseg
  obtain ⟨I0, I1, h0_, hr_, b_, f_, d_⟩ := bx_cl (evs := []) (fvs := []) hseg (by decide +kernel) (by decide +kernel)
  have hinv : rxIBS_10 S0 ws S (r 8) (r 9) := hinv
  rw [← hr_ 8 (by decide), ← hr_ 9 (by decide)] at hinv
  obtain ⟨⟨l8, u8⟩, ⟨l9, u9⟩, -⟩ := b_
  have w_ := d_
  subst w_
  have g := rxcBS_10_0 hP hin I0 hinv l8 u8 l9 u9
  refine ⟨bx_narP_ok (l := []) g.1, bx_nfP_ok h0_ (fvs := []) (by decide +kernel) g.2.1, ?_, ?_⟩
  · show rxIBS_11 S0 ws S_p (bx_val [(0, 0), (0, 0), (0, 0), (0, 0), (0, 0), (0, 0), (0, 0), (0, 0), (8, 0)] r_p 8)
    rw [bx_val_x (n := 8) (e := (8, 0)) h0_ rfl]
    exact g.2.2.1
  · show rxmBS_11 S0 ws S_p (bx_val [(0, 0), (0, 0), (0, 0), (0, 0), (0, 0), (0, 0), (0, 0), (0, 0), (8, 0)] r_p 8) < rxmBS_10 S0 ws S_p (r 8) (r 9)
    rw [bx_val_x (n := 8) (e := (8, 0)) h0_ rfl, ← hr_ 8 (by decide), ← hr_ 9 (by decide)]
    exact g.2.2.2
theorem rxcBS_10_1 {S0 : Nat → Int → Int} {ws : List Int} {S : Nat → Int → Int} {test its : Int} (hP : rxPBS S0 ws) (hin : bx_same rxL (bx_mdl rxCBS.2.2.1) S0 S) (I0 : bx_Inv rxL S) (hinv : rxIBS_10 S0 ws S test its) (l8 : 1 ≤ test) (u8 : test ≤ 1) (l9 : (-1) ≤ its) (u9 : its ≤ (-1)) (f0 : test ≠ 0) (f1 : its ≠ 32) : (True) ∧ (True) ∧ rxIBS_18 S0 ws S test ∧ rxmBS_18 S0 ws S test < rxmBS_10 S0 ws S test its := by
  obtain ⟨rfl, h1⟩ := hinv
  refine ⟨trivial, trivial, ⟨rfl, fun j j0 j1 => ?_⟩, by unfold rxmBS_10 rxmBS_18; omega⟩
  rcases h1 with ⟨h1, h2⟩ | ⟨h1, b, b0, b1, b2, b3⟩
  · have := h2 j j0 j1
    omega
  · intro hj
    rcases Int.lt_trichotomy j b with g | g | g
    · have := hP.1.2.1.2.2.1 j b j0 g b1 hj
      omega
    · subst g
      omega
    · have := b3 j g j1
      omega
theorem rxgBS_10_1 {X : (Nat → Int → Int) → Prop} {S0 : Nat → Int → Int} {ws : List Int} (hP : rxPBS S0 ws) : bx_obC rxL X S0 rxCBS.2.2.1 (rxIBS S0 ws) (rxmBS S0 ws) 10 rxzBS_10 rxoBS_10_1 := by
  intro S S_p r r_p hinv hX hin hsm_ hseg
  obtain ⟨I0, I1, h0_, hr_, b_, f_, d_⟩ := bx_cl (evs := []) (fvs := [(3, (8, 0), (0, 0), (0, 0)), (3, (9, 0), (0, 32), (0, 0))]) hseg (by decide +kernel) (by decide +kernel)
  have hinv : rxIBS_10 S0 ws S (r 8) (r 9) := hinv
  rw [← hr_ 8 (by decide), ← hr_ 9 (by decide)] at hinv
  obtain ⟨⟨l8, u8⟩, ⟨l9, u9⟩, -⟩ := b_
  obtain ⟨f0, f1, -⟩ := f_
  have w_ := d_
  subst w_
  have g := rxcBS_10_1 hP hin I0 hinv l8 u8 l9 u9 f0 f1
  refine ⟨bx_narP_ok (l := []) g.1, bx_nfP_ok h0_ (fvs := []) (by decide +kernel) g.2.1, ?_, ?_⟩
  · show rxIBS_18 S0 ws S_p (bx_val [(0, 0), (0, 0), (0, 0), (0, 0), (0, 0), (0, 0), (0, 0), (0, 0), (8, 0)] r_p 8)
    rw [bx_val_x (n := 8) (e := (8, 0)) h0_ rfl]
    exact g.2.2.1
  · show rxmBS_18 S0 ws S_p (bx_val [(0, 0), (0, 0), (0, 0), (0, 0), (0, 0), (0, 0), (0, 0), (0, 0), (8, 0)] r_p 8) < rxmBS_10 S0 ws S_p (r 8) (r 9)
    rw [bx_val_x (n := 8) (e := (8, 0)) h0_ rfl, ← hr_ 8 (by decide), ← hr_ 9 (by decide)]
    exact g.2.2.2
theorem rxcBS_10_2 {S0 : Nat → Int → Int} {ws : List Int} {S : Nat → Int → Int} {test its : Int} (hP : rxPBS S0 ws) (hin : bx_same rxL (bx_mdl rxCBS.2.2.1) S0 S) (I0 : bx_Inv rxL S) (hinv : rxIBS_10 S0 ws S test its) (l8 : 0 ≤ test) (u8 : test ≤ 1) (l9 : 0 ≤ its) (u9 : its ≤ 31) (f0 : its ≠ (-1)) (f1 : its ≠ 32) : (True) ∧ (True) ∧ rxIBS_18 S0 ws S test ∧ rxmBS_18 S0 ws S test < rxmBS_10 S0 ws S test its := by
  obtain ⟨rfl, h1⟩ := hinv
  refine ⟨trivial, trivial, ⟨rfl, fun j j0 j1 => ?_⟩, by unfold rxmBS_10 rxmBS_18; omega⟩
  rcases h1 with ⟨h1, h2⟩ | ⟨h1, b, b0, b1, b2, b3⟩
  · have := h2 j j0 j1
    omega
  · intro hj
    rcases Int.lt_trichotomy j b with g | g | g
    · have := hP.1.2.1.2.2.1 j b j0 g b1 hj
      omega
    · subst g
      omega
    · have := b3 j g j1
      omega
theorem rxgBS_10_2 {X : (Nat → Int → Int) → Prop} {S0 : Nat → Int → Int} {ws : List Int} (hP : rxPBS S0 ws) : bx_obC rxL X S0 rxCBS.2.2.1 (rxIBS S0 ws) (rxmBS S0 ws) 10 rxzBS_10 rxoBS_10_2 := by
  intro S S_p r r_p hinv hX hin hsm_ hseg
  obtain ⟨I0, I1, h0_, hr_, b_, f_, d_⟩ := bx_cl (evs := []) (fvs := [(3, (9, 0), (0, (-1)), (0, 0)), (3, (9, 0), (0, 32), (0, 0))]) hseg (by decide +kernel) (by decide +kernel)
  have hinv : rxIBS_10 S0 ws S (r 8) (r 9) := hinv
  rw [← hr_ 8 (by decide), ← hr_ 9 (by decide)] at hinv
  obtain ⟨⟨l8, u8⟩, ⟨l9, u9⟩, -⟩ := b_
  obtain ⟨f0, f1, -⟩ := f_
  have w_ := d_
  subst w_
  have g := rxcBS_10_2 hP hin I0 hinv l8 u8 l9 u9 f0 f1
  refine ⟨bx_narP_ok (l := []) g.1, bx_nfP_ok h0_ (fvs := []) (by decide +kernel) g.2.1, ?_, ?_⟩
  · show rxIBS_18 S0 ws S_p (bx_val [(0, 0), (0, 0), (0, 0), (0, 0), (0, 0), (0, 0), (0, 0), (0, 0), (8, 0)] r_p 8)
    rw [bx_val_x (n := 8) (e := (8, 0)) h0_ rfl]
    exact g.2.2.1
  · show rxmBS_18 S0 ws S_p (bx_val [(0, 0), (0, 0), (0, 0), (0, 0), (0, 0), (0, 0), (0, 0), (0, 0), (8, 0)] r_p 8) < rxmBS_10 S0 ws S_p (r 8) (r 9)
    rw [bx_val_x (n := 8) (e := (8, 0)) h0_ rfl, ← hr_ 8 (by decide), ← hr_ 9 (by decide)]
    exact g.2.2.2
theorem rxdBS_10_0 {S0 : Nat → Int → Int} {ws : List Int} {S : Nat → Int → Int} {test its : Int} (hP : rxPBS S0 ws) (hin : bx_same rxL (bx_mdl rxCBS.2.2.1) S0 S) (hin2 : bx_same rxL (bx_mdl rxCBS.2.2.1) S S) (I0 : bx_Inv rxL S) (I1 : bx_Inv rxL S) (hinv : rxIBS_10 S0 ws S test its) (l8 : 0 ≤ test) (u8 : test ≤ 0) (l9 : (-1) ≤ its) (u9 : its ≤ (-1)) (f0 : its ≠ 32) : (True) ∧ rxPSBS S0 ws S (some 4) := by
  obtain ⟨rfl, h1⟩ := hinv
  obtain ⟨p1, p5, p6⟩ := hP
  refine ⟨trivial, 4, rfl, p1, by omega, fun q => Or.inr (Or.inr (Or.inr ⟨rfl, rfl, ?_⟩))⟩
  rcases h1 with ⟨h1, h2⟩ | ⟨h1, -⟩
  · exact h2
  · omega
theorem rxfBS_10_0 {X : (Nat → Int → Int) → Prop} {S0 : Nat → Int → Int} {ws : List Int} (hP : rxPBS S0 ws) : bx_obE rxL X S0 rxCBS.2.2.1 (rxIBS S0 ws) (rxPSBS S0 ws) 10 rxzBS_10 rxeBS_10_0 := by
  intro S S_p r r_p hinv hX hin hsm_ hseg
  obtain ⟨I0, I1, h0_, hr_, b_, f_, d_⟩ := bx_cl (evs := []) (fvs := [(3, (9, 0), (0, 32), (0, 0))]) hseg (by decide +kernel) (by decide +kernel)
  have hinv : rxIBS_10 S0 ws S (r 8) (r 9) := hinv
  rw [← hr_ 8 (by decide), ← hr_ 9 (by decide)] at hinv
  obtain ⟨⟨l8, u8⟩, ⟨l9, u9⟩, -⟩ := b_
  obtain ⟨f0, -⟩ := f_
  have w_ := d_
  subst w_
  have g := rxdBS_10_0 hP hin hsm_ I0 I1 hinv l8 u8 l9 u9 f0
  refine ⟨bx_narP_ok (l := []) g.1, ?_⟩
  show rxPSBS S0 ws S_p (some (bx_num r_p (.inr (0, (0, 4)))))
  rw [bx_xv_ok h0_]
  exact g.2
theorem rxcBS_13_0 {S0 : Nat → Int → Int} {ws : List Int} {S : Nat → Int → Int} {test is x10 : Int} (hP : rxPBS S0 ws) (hin : bx_same rxL (bx_mdl rxCBS.2.2.1) S0 S) (I0 : bx_Inv rxL S) (hinv : rxIBS_13 S0 ws S test is) (l8 : 0 ≤ test) (u8 : test ≤ 1) (l9 : 0 ≤ is) (u9 : is ≤ 1) (l10 : 0 ≤ x10) (u10 : x10 ≤ 0) (e0 : S 480 14 = x10) : (True) ∧ (True) ∧ rxIBS_14 S0 ws S test ∧ rxmBS_14 S0 ws S test < rxmBS_13 S0 ws S test is := by
  obtain ⟨h1, h2, h3, h4, h5⟩ := hinv
  exact ⟨trivial, trivial, ⟨h1, h2, by omega, h3 (by omega), h5⟩, by unfold rxmBS_13 rxmBS_14; omega⟩
theorem rxgBS_13_0 {X : (Nat → Int → Int) → Prop} {S0 : Nat → Int → Int} {ws : List Int} (hP : rxPBS S0 ws) : bx_obC rxL X S0 rxCBS.2.2.1 (rxIBS S0 ws) (rxmBS S0 ws) 13 rxzBS_13 rxoBS_13_0 := by
  intro S S_p r r_p hinv hX hin hsm_ hseg
  obtain ⟨I0, I1, h0_, hr_, b_, f_, d_⟩ := bx_cl (evs := [(0, (0, 480), (0, 14), .inr (0, (10, 0)))]) (fvs := []) hseg (by decide +kernel) (by decide +kernel)
  have hinv : rxIBS_13 S0 ws S (r 8) (r 9) := hinv
  rw [← hr_ 8 (by decide), ← hr_ 9 (by decide)] at hinv
  obtain ⟨⟨l8, u8⟩, ⟨l9, u9⟩, ⟨l10, u10⟩, -⟩ := b_
  obtain ⟨e0, w_⟩ := d_
  subst w_
  have g := rxcBS_13_0 hP hin I0 hinv l8 u8 l9 u9 l10 u10 e0
  refine ⟨bx_narP_ok (l := []) g.1, bx_nfP_ok h0_ (fvs := []) (by decide +kernel) g.2.1, ?_, ?_⟩
  · show rxIBS_14 S0 ws S_p (bx_val [(0, 0), (0, 0), (0, 0), (0, 0), (0, 0), (0, 0), (0, 0), (0, 0), (8, 0)] r_p 8)
    rw [bx_val_x (n := 8) (e := (8, 0)) h0_ rfl]
    exact g.2.2.1
  · show rxmBS_14 S0 ws S_p (bx_val [(0, 0), (0, 0), (0, 0), (0, 0), (0, 0), (0, 0), (0, 0), (0, 0), (8, 0)] r_p 8) < rxmBS_13 S0 ws S_p (r 8) (r 9)
    rw [bx_val_x (n := 8) (e := (8, 0)) h0_ rfl, ← hr_ 8 (by decide), ← hr_ 9 (by decide)]
    exact g.2.2.2
theorem rxdBS_13_0 {S0 : Nat → Int → Int} {ws : List Int} {S : Nat → Int → Int} {test is x10 : Int} (hP : rxPBS S0 ws) (hin : bx_same rxL (bx_mdl rxCBS.2.2.1) S0 S) (hin2 : bx_same rxL (bx_mdl rxCBS.2.2.1) S S) (I0 : bx_Inv rxL S) (I1 : bx_Inv rxL S) (hinv : rxIBS_13 S0 ws S test is) (l8 : 0 ≤ test) (u8 : test ≤ 1) (l9 : 0 ≤ is) (u9 : is ≤ 1) (l10 : 1 ≤ x10) (u10 : x10 ≤ 1) (f0 : x10 ≠ 0) (e0 : S 480 14 = x10) : (True) ∧ rxPSBS S0 ws S (some 3) := by
  obtain ⟨h1, h2, h3, h4, h5⟩ := hinv
  obtain ⟨⟨p1, p2, p3, p4⟩, p5, p6⟩ := hP
  have b24 := rxBox24 I0
  have k18 := h2.1
  have k24 := h2.2.1
  have g := h4 (by omega)
  exact ⟨trivial, 3, rfl, ⟨h1, h2.pz p2 (by omega), by omega, by omega⟩, by omega, fun q => by omega⟩
theorem rxfBS_13_0 {X : (Nat → Int → Int) → Prop} {S0 : Nat → Int → Int} {ws : List Int} (hP : rxPBS S0 ws) : bx_obE rxL X S0 rxCBS.2.2.1 (rxIBS S0 ws) (rxPSBS S0 ws) 13 rxzBS_13 rxeBS_13_0 := by
  intro S S_p r r_p hinv hX hin hsm_ hseg
  obtain ⟨I0, I1, h0_, hr_, b_, f_, d_⟩ := bx_cl (evs := [(0, (0, 480), (0, 14), .inr (0, (10, 0)))]) (fvs := [(3, (10, 0), (0, 0), (0, 0))]) hseg (by decide +kernel) (by decide +kernel)
  have hinv : rxIBS_13 S0 ws S (r 8) (r 9) := hinv
  rw [← hr_ 8 (by decide), ← hr_ 9 (by decide)] at hinv
  obtain ⟨⟨l8, u8⟩, ⟨l9, u9⟩, ⟨l10, u10⟩, -⟩ := b_
  obtain ⟨f0, -⟩ := f_
  obtain ⟨e0, w_⟩ := d_
  subst w_
  have g := rxdBS_13_0 hP hin hsm_ I0 I1 hinv l8 u8 l9 u9 l10 u10 f0 e0
  refine ⟨bx_narP_ok (l := []) g.1, ?_⟩
  show rxPSBS S0 ws S_p (some (bx_num r_p (.inr (0, (0, 3)))))
  rw [bx_xv_ok h0_]
  exact g.2
theorem rxcBS_15_0 {S0 : Nat → Int → Int} {ws : List Int} {S : Nat → Int → Int} {test x9 : Int} (hP : rxPBS S0 ws) (hin : bx_same rxL (bx_mdl rxCBS.2.2.1) S0 S) (I0 : bx_Inv rxL S) (hinv : rxIBS_15 S0 ws S test) (l8 : 0 ≤ test) (u8 : test ≤ 1) (l9 : 0 ≤ x9) (u9 : x9 ≤ 400) (e0 : S 480 24 = x9) : ((1 ≤ x9 ∧ x9 ≤ 400) ∧ True) ∧ (True) ∧ rxIBS_16 S0 ws S test x9 ∧ rxmBS_16 S0 ws S test x9 < rxmBS_15 S0 ws S test := by
  obtain ⟨h1, h2, h3, h4, h5⟩ := hinv
  exact ⟨⟨by omega, trivial⟩, trivial, ⟨by omega, h1, h2, h3, h4, h5⟩, by unfold rxmBS_15 rxmBS_16; omega⟩
theorem rxgBS_15_0 {X : (Nat → Int → Int) → Prop} {S0 : Nat → Int → Int} {ws : List Int} (hP : rxPBS S0 ws) : bx_obC rxL X S0 rxCBS.2.2.1 (rxIBS S0 ws) (rxmBS S0 ws) 15 rxzBS_15 rxoBS_15_0 := by
  intro S S_p r r_p hinv hX hin hsm_ hseg
  obtain ⟨I0, I1, h0_, hr_, b_, f_, d_⟩ := bx_cl (evs := [(0, (0, 480), (0, 24), .inr (0, (9, 0)))]) (fvs := []) hseg (by decide +kernel) (by decide +kernel)
  have hinv : rxIBS_15 S0 ws S (r 8) := hinv
  rw [← hr_ 8 (by decide)] at hinv
  obtain ⟨⟨l8, u8⟩, ⟨l9, u9⟩, -⟩ := b_
  obtain ⟨e0, w_⟩ := d_
  subst w_
  have g := rxcBS_15_0 hP hin I0 hinv l8 u8 l9 u9 e0
  refine ⟨bx_narP_ok (l := [(9, 1, 400)]) g.1, bx_nfP_ok h0_ (fvs := []) (by decide +kernel) g.2.1, ?_, ?_⟩
  · show rxIBS_16 S0 ws S_p (bx_val [(0, 0), (0, 0), (0, 0), (0, 0), (0, 0), (0, 0), (0, 0), (0, 0), (8, 0), (9, 0)] r_p 8) (bx_val [(0, 0), (0, 0), (0, 0), (0, 0), (0, 0), (0, 0), (0, 0), (0, 0), (8, 0), (9, 0)] r_p 9)
    rw [bx_val_x (n := 8) (e := (8, 0)) h0_ rfl, bx_val_x (n := 9) (e := (9, 0)) h0_ rfl]
    exact g.2.2.1
  · show rxmBS_16 S0 ws S_p (bx_val [(0, 0), (0, 0), (0, 0), (0, 0), (0, 0), (0, 0), (0, 0), (0, 0), (8, 0), (9, 0)] r_p 8) (bx_val [(0, 0), (0, 0), (0, 0), (0, 0), (0, 0), (0, 0), (0, 0), (0, 0), (8, 0), (9, 0)] r_p 9) < rxmBS_15 S0 ws S_p (r 8)
    rw [bx_val_x (n := 8) (e := (8, 0)) h0_ rfl, bx_val_x (n := 9) (e := (9, 0)) h0_ rfl, ← hr_ 8 (by decide)]
    exact g.2.2.2
theorem rxcBS_16_0 {S0 : Nat → Int → Int} {ws : List Int} {S : Nat → Int → Int} {test pn x10 : Int} (hP : rxPBS S0 ws) (hin : bx_same rxL (bx_mdl rxCBS.2.2.1) S0 S) (I0 : bx_Inv rxL S) (hinv : rxIBS_16 S0 ws S test pn) (l8 : 0 ≤ test) (u8 : test ≤ 1) (l9 : 1 ≤ pn) (u9 : pn ≤ 400) (l10 : 0 ≤ x10) (u10 : x10 ≤ 8) (e0 : (bx_up S 480 24 (pn + (-1))) 480 25 = x10) : ((1 ≤ x10 ∧ x10 ≤ 8) ∧ True) ∧ (True) ∧ rxIBS_17 S0 ws (bx_up S 480 24 (pn + (-1))) test x10 ∧ rxmBS_17 S0 ws (bx_up S 480 24 (pn + (-1))) test x10 < rxmBS_16 S0 ws S test pn := by
  rw [show (bx_up S 480 24 (pn + (-1))) 480 25 = S 480 25 by simp [bx_up]] at e0
  obtain ⟨rfl, h1, h2, h3, h4, h5⟩ := hinv
  have ho := rxOpen1 h1.2.1 h4 (by omega)
  exact ⟨⟨by omega, trivial⟩, trivial, ⟨S, rfl, by omega, h1, h2, h3, h4, h5⟩, by unfold rxmBS_16 rxmBS_17; omega⟩
theorem rxgBS_16_0 {X : (Nat → Int → Int) → Prop} {S0 : Nat → Int → Int} {ws : List Int} (hP : rxPBS S0 ws) : bx_obC rxL X S0 rxCBS.2.2.1 (rxIBS S0 ws) (rxmBS S0 ws) 16 rxzBS_16 rxoBS_16_0 := by
  intro S S_p r r_p hinv hX hin hsm_ hseg
  obtain ⟨I0, I1, h0_, hr_, b_, f_, d_⟩ := bx_cl (evs := [(0, (0, 480), (0, 25), .inr (0, (10, 0))), (1, (0, 480), (0, 24), .inr (0, (9, (-1))))]) (fvs := []) hseg (by decide +kernel) (by decide +kernel)
  have hinv : rxIBS_16 S0 ws S (r 8) (r 9) := hinv
  rw [← hr_ 8 (by decide), ← hr_ 9 (by decide)] at hinv
  obtain ⟨⟨l8, u8⟩, ⟨l9, u9⟩, ⟨l10, u10⟩, -⟩ := b_
  obtain ⟨e0, ⟨T1, w_, w1⟩⟩ := d_
  subst w1
  subst w_
  have g := rxcBS_16_0 hP hin I0 hinv l8 u8 l9 u9 l10 u10 e0
  refine ⟨bx_narP_ok (l := [(10, 1, 8)]) g.1, bx_nfP_ok h0_ (fvs := []) (by decide +kernel) g.2.1, ?_, ?_⟩
  · show rxIBS_17 S0 ws (bx_up T1 480 (24) (r_p 9 + (-1))) (bx_val [(0, 0), (0, 0), (0, 0), (0, 0), (0, 0), (0, 0), (0, 0), (0, 0), (8, 0), (10, 0)] r_p 8) (bx_val [(0, 0), (0, 0), (0, 0), (0, 0), (0, 0), (0, 0), (0, 0), (0, 0), (8, 0), (10, 0)] r_p 9)
    rw [bx_val_x (n := 8) (e := (8, 0)) h0_ rfl, bx_val_x (n := 9) (e := (10, 0)) h0_ rfl]
    exact g.2.2.1
  · show rxmBS_17 S0 ws (bx_up T1 480 (24) (r_p 9 + (-1))) (bx_val [(0, 0), (0, 0), (0, 0), (0, 0), (0, 0), (0, 0), (0, 0), (0, 0), (8, 0), (10, 0)] r_p 8) (bx_val [(0, 0), (0, 0), (0, 0), (0, 0), (0, 0), (0, 0), (0, 0), (0, 0), (8, 0), (10, 0)] r_p 9) < rxmBS_16 S0 ws T1 (r 8) (r 9)
    rw [bx_val_x (n := 8) (e := (8, 0)) h0_ rfl, bx_val_x (n := 9) (e := (10, 0)) h0_ rfl, ← hr_ 8 (by decide), ← hr_ 9 (by decide)]
    exact g.2.2.2
theorem rxdBS_17_0 {S0 : Nat → Int → Int} {ws : List Int} {S : Nat → Int → Int} {test q : Int} (hP : rxPBS S0 ws) (hin : bx_same rxL (bx_mdl rxCBS.2.2.1) S0 S) (hin2 : bx_same rxL (bx_mdl rxCBS.2.2.1) S (bx_up S 480 25 (q + (-1)))) (I0 : bx_Inv rxL S) (I1 : bx_Inv rxL (bx_up S 480 25 (q + (-1)))) (hinv : rxIBS_17 S0 ws S test q) (l8 : 0 ≤ test) (u8 : test ≤ 1) (l9 : 1 ≤ q) (u9 : q ≤ 8) : (True) ∧ rxPSBS S0 ws (bx_up S 480 25 (q + (-1))) (some 3) := by
  obtain ⟨S1, rfl, rfl, h1, h2, h3, h4, h5⟩ := hinv
  have g := rxPopB h1.2.1 h4 (by omega)
  obtain ⟨⟨z1, z2, z3, z4, z5, z6⟩, y2, y3, y4⟩ := h1
  refine ⟨trivial, 3, rfl, ⟨?_, g.1, ?_, ?_⟩, by omega, fun q => Or.inr (Or.inr (Or.inl ⟨rfl, ?_, (h2.tr g.2.1)⟩))⟩
  · unfold rxTk
    simp [bx_up]
    omega
  · simp [bx_up]
    omega
  · simp [bx_up]
    omega
  · simp [bx_up]
    exact h3
theorem rxfBS_17_0 {X : (Nat → Int → Int) → Prop} {S0 : Nat → Int → Int} {ws : List Int} (hP : rxPBS S0 ws) : bx_obE rxL X S0 rxCBS.2.2.1 (rxIBS S0 ws) (rxPSBS S0 ws) 17 rxzBS_17 rxeBS_17_0 := by
  intro S S_p r r_p hinv hX hin hsm_ hseg
  obtain ⟨I0, I1, h0_, hr_, b_, f_, d_⟩ := bx_cl (evs := [(1, (0, 480), (0, 25), .inr (0, (9, (-1))))]) (fvs := []) hseg (by decide +kernel) (by decide +kernel)
  have hinv : rxIBS_17 S0 ws S (r 8) (r 9) := hinv
  rw [← hr_ 8 (by decide), ← hr_ 9 (by decide)] at hinv
  obtain ⟨⟨l8, u8⟩, ⟨l9, u9⟩, -⟩ := b_
  obtain ⟨T0, w_, w0⟩ := d_
  subst w0
  subst w_
  have g := rxdBS_17_0 hP hin hsm_ I0 I1 hinv l8 u8 l9 u9
  refine ⟨bx_narP_ok (l := []) g.1, ?_⟩
  show rxPSBS S0 ws (bx_up T0 480 (25) (r_p 9 + (-1))) (some (bx_num r_p (.inr (0, (0, 3)))))
  rw [bx_xv_ok h0_]
  exact g.2
theorem rxcBS_19_0 {S0 : Nat → Int → Int} {ws : List Int} {S : Nat → Int → Int} {test cmp x10 : Int} (hP : rxPBS S0 ws) (hin : bx_same rxL (bx_mdl rxCBS.2.2.1) S0 S) (I0 : bx_Inv rxL S) (hinv : rxIBS_19 S0 ws S test cmp) (l8 : 0 ≤ test) (u8 : test ≤ 1) (l9 : 0 ≤ cmp) (u9 : cmp ≤ 0) (l10 : 0 ≤ x10) (u10 : x10 ≤ 2) (f0 : x10 ≠ 3) (f1 : x10 ≠ 3) (f2 : x10 ≠ 3) (e0 : S 480 11 = x10) : (True) ∧ (True) ∧ rxIBS_20 S0 ws S test 27 0 ∧ rxmBS_20 S0 ws S test 27 0 < rxmBS_19 S0 ws S test cmp := by
  obtain ⟨rfl, h1⟩ := hinv
  exact ⟨trivial, trivial, ⟨rfl, h1, fun q => by omega⟩, by unfold rxmBS_19 rxmBS_20; omega⟩
theorem rxgBS_19_0 {X : (Nat → Int → Int) → Prop} {S0 : Nat → Int → Int} {ws : List Int} (hP : rxPBS S0 ws) : bx_obC rxL X S0 rxCBS.2.2.1 (rxIBS S0 ws) (rxmBS S0 ws) 19 rxzBS_19 rxoBS_19_0 := by
  intro S S_p r r_p hinv hX hin hsm_ hseg
  obtain ⟨I0, I1, h0_, hr_, b_, f_, d_⟩ := bx_cl (evs := [(0, (0, 480), (0, 11), .inr (0, (10, 0)))]) (fvs := [(3, (10, 0), (0, 3), (0, 0)), (3, (10, 0), (0, 3), (0, 0)), (3, (10, 0), (0, 3), (0, 0))]) hseg (by decide +kernel) (by decide +kernel)
  have hinv : rxIBS_19 S0 ws S (r 8) (r 9) := hinv
  rw [← hr_ 8 (by decide), ← hr_ 9 (by decide)] at hinv
  obtain ⟨⟨l8, u8⟩, ⟨l9, u9⟩, ⟨l10, u10⟩, -⟩ := b_
  obtain ⟨f0, f1, f2, -⟩ := f_
  obtain ⟨e0, w_⟩ := d_
  subst w_
  have g := rxcBS_19_0 hP hin I0 hinv l8 u8 l9 u9 l10 u10 f0 f1 f2 e0
  refine ⟨bx_narP_ok (l := []) g.1, bx_nfP_ok h0_ (fvs := []) (by decide +kernel) g.2.1, ?_, ?_⟩
  · show rxIBS_20 S0 ws S_p (bx_val [(0, 0), (0, 0), (0, 0), (0, 0), (0, 0), (0, 0), (0, 0), (0, 0), (8, 0), (0, 27), (0, 0)] r_p 8) (bx_val [(0, 0), (0, 0), (0, 0), (0, 0), (0, 0), (0, 0), (0, 0), (0, 0), (8, 0), (0, 27), (0, 0)] r_p 9) (bx_val [(0, 0), (0, 0), (0, 0), (0, 0), (0, 0), (0, 0), (0, 0), (0, 0), (8, 0), (0, 27), (0, 0)] r_p 10)
    rw [bx_val_x (n := 8) (e := (8, 0)) h0_ rfl, bx_val_x (n := 9) (e := (0, 27)) h0_ rfl, bx_val_x (n := 10) (e := (0, 0)) h0_ rfl]
    exact g.2.2.1
  · show rxmBS_20 S0 ws S_p (bx_val [(0, 0), (0, 0), (0, 0), (0, 0), (0, 0), (0, 0), (0, 0), (0, 0), (8, 0), (0, 27), (0, 0)] r_p 8) (bx_val [(0, 0), (0, 0), (0, 0), (0, 0), (0, 0), (0, 0), (0, 0), (0, 0), (8, 0), (0, 27), (0, 0)] r_p 9) (bx_val [(0, 0), (0, 0), (0, 0), (0, 0), (0, 0), (0, 0), (0, 0), (0, 0), (8, 0), (0, 27), (0, 0)] r_p 10) < rxmBS_19 S0 ws S_p (r 8) (r 9)
    rw [bx_val_x (n := 8) (e := (8, 0)) h0_ rfl, bx_val_x (n := 9) (e := (0, 27)) h0_ rfl, bx_val_x (n := 10) (e := (0, 0)) h0_ rfl, ← hr_ 8 (by decide), ← hr_ 9 (by decide)]
    exact g.2.2.2
theorem rxcBS_19_1 {S0 : Nat → Int → Int} {ws : List Int} {S : Nat → Int → Int} {test cmp x10 x11 : Int} (hP : rxPBS S0 ws) (hin : bx_same rxL (bx_mdl rxCBS.2.2.1) S0 S) (I0 : bx_Inv rxL S) (hinv : rxIBS_19 S0 ws S test cmp) (l8 : 0 ≤ test) (u8 : test ≤ 1) (l9 : 0 ≤ cmp) (u9 : cmp ≤ 0) (l10 : 3 ≤ x10) (u10 : x10 ≤ 3) (l11 : (-9223372036854775808) ≤ x11) (u11 : x11 ≤ 9223372036854775807) (f0 : x11 ≠ 61) (f1 : x11 ≠ 62) (f2 : x11 ≠ 60) (e1 : S 480 11 = x10) (e0 : S 480 12 = x11) : (True) ∧ (True) ∧ rxIBS_20 S0 ws S test 27 0 ∧ rxmBS_20 S0 ws S test 27 0 < rxmBS_19 S0 ws S test cmp := by
  obtain ⟨rfl, h1⟩ := hinv
  exact ⟨trivial, trivial, ⟨rfl, h1, fun q => by omega⟩, by unfold rxmBS_19 rxmBS_20; omega⟩
theorem rxgBS_19_1 {X : (Nat → Int → Int) → Prop} {S0 : Nat → Int → Int} {ws : List Int} (hP : rxPBS S0 ws) : bx_obC rxL X S0 rxCBS.2.2.1 (rxIBS S0 ws) (rxmBS S0 ws) 19 rxzBS_19 rxoBS_19_1 := by
  intro S S_p r r_p hinv hX hin hsm_ hseg
  obtain ⟨I0, I1, h0_, hr_, b_, f_, d_⟩ := bx_cl (evs := [(0, (0, 480), (0, 12), .inr (1, (11, 0))), (0, (0, 480), (0, 11), .inr (0, (10, 0)))]) (fvs := [(3, (11, 0), (0, 61), (0, 0)), (3, (11, 0), (0, 62), (0, 0)), (3, (11, 0), (0, 60), (0, 0))]) hseg (by decide +kernel) (by decide +kernel)
  have hinv : rxIBS_19 S0 ws S (r 8) (r 9) := hinv
  rw [← hr_ 8 (by decide), ← hr_ 9 (by decide)] at hinv
  obtain ⟨⟨l8, u8⟩, ⟨l9, u9⟩, ⟨l10, u10⟩, ⟨l11, u11⟩, -⟩ := b_
  obtain ⟨f0, f1, f2, -⟩ := f_
  obtain ⟨e0, ⟨e1, w_⟩⟩ := d_
  subst w_
  have g := rxcBS_19_1 hP hin I0 hinv l8 u8 l9 u9 l10 u10 l11 u11 f0 f1 f2 e1 e0
  refine ⟨bx_narP_ok (l := []) g.1, bx_nfP_ok h0_ (fvs := []) (by decide +kernel) g.2.1, ?_, ?_⟩
  · show rxIBS_20 S0 ws S_p (bx_val [(0, 0), (0, 0), (0, 0), (0, 0), (0, 0), (0, 0), (0, 0), (0, 0), (8, 0), (0, 27), (0, 0)] r_p 8) (bx_val [(0, 0), (0, 0), (0, 0), (0, 0), (0, 0), (0, 0), (0, 0), (0, 0), (8, 0), (0, 27), (0, 0)] r_p 9) (bx_val [(0, 0), (0, 0), (0, 0), (0, 0), (0, 0), (0, 0), (0, 0), (0, 0), (8, 0), (0, 27), (0, 0)] r_p 10)
    rw [bx_val_x (n := 8) (e := (8, 0)) h0_ rfl, bx_val_x (n := 9) (e := (0, 27)) h0_ rfl, bx_val_x (n := 10) (e := (0, 0)) h0_ rfl]
    exact g.2.2.1
  · show rxmBS_20 S0 ws S_p (bx_val [(0, 0), (0, 0), (0, 0), (0, 0), (0, 0), (0, 0), (0, 0), (0, 0), (8, 0), (0, 27), (0, 0)] r_p 8) (bx_val [(0, 0), (0, 0), (0, 0), (0, 0), (0, 0), (0, 0), (0, 0), (0, 0), (8, 0), (0, 27), (0, 0)] r_p 9) (bx_val [(0, 0), (0, 0), (0, 0), (0, 0), (0, 0), (0, 0), (0, 0), (0, 0), (8, 0), (0, 27), (0, 0)] r_p 10) < rxmBS_19 S0 ws S_p (r 8) (r 9)
    rw [bx_val_x (n := 8) (e := (8, 0)) h0_ rfl, bx_val_x (n := 9) (e := (0, 27)) h0_ rfl, bx_val_x (n := 10) (e := (0, 0)) h0_ rfl, ← hr_ 8 (by decide), ← hr_ 9 (by decide)]
    exact g.2.2.2
theorem rxcBS_19_2 {S0 : Nat → Int → Int} {ws : List Int} {S : Nat → Int → Int} {test cmp x10 x11 : Int} (hP : rxPBS S0 ws) (hin : bx_same rxL (bx_mdl rxCBS.2.2.1) S0 S) (I0 : bx_Inv rxL S) (hinv : rxIBS_19 S0 ws S test cmp) (l8 : 0 ≤ test) (u8 : test ≤ 1) (l9 : 0 ≤ cmp) (u9 : cmp ≤ 0) (l10 : 3 ≤ x10) (u10 : x10 ≤ 3) (l11 : 61 ≤ x11) (u11 : x11 ≤ 61) (f0 : x11 ≠ 62) (f1 : x11 ≠ 60) (e1 : S 480 11 = x10) (e0 : S 480 12 = x11) : (True) ∧ (True) ∧ rxIBS_20 S0 ws S test 27 1 ∧ rxmBS_20 S0 ws S test 27 1 < rxmBS_19 S0 ws S test cmp := by
  obtain ⟨rfl, h1⟩ := hinv
  exact ⟨trivial, trivial, ⟨rfl, h1, fun q => by omega⟩, by unfold rxmBS_19 rxmBS_20; omega⟩
theorem rxgBS_19_2 {X : (Nat → Int → Int) → Prop} {S0 : Nat → Int → Int} {ws : List Int} (hP : rxPBS S0 ws) : bx_obC rxL X S0 rxCBS.2.2.1 (rxIBS S0 ws) (rxmBS S0 ws) 19 rxzBS_19 rxoBS_19_2 := by
  intro S S_p r r_p hinv hX hin hsm_ hseg
  obtain ⟨I0, I1, h0_, hr_, b_, f_, d_⟩ := bx_cl (evs := [(0, (0, 480), (0, 12), .inr (1, (11, 0))), (0, (0, 480), (0, 11), .inr (0, (10, 0)))]) (fvs := [(3, (11, 0), (0, 62), (0, 0)), (3, (11, 0), (0, 60), (0, 0))]) hseg (by decide +kernel) (by decide +kernel)
  have hinv : rxIBS_19 S0 ws S (r 8) (r 9) := hinv
  rw [← hr_ 8 (by decide), ← hr_ 9 (by decide)] at hinv
  obtain ⟨⟨l8, u8⟩, ⟨l9, u9⟩, ⟨l10, u10⟩, ⟨l11, u11⟩, -⟩ := b_
  obtain ⟨f0, f1, -⟩ := f_
  obtain ⟨e0, ⟨e1, w_⟩⟩ := d_
  subst w_
  have g := rxcBS_19_2 hP hin I0 hinv l8 u8 l9 u9 l10 u10 l11 u11 f0 f1 e1 e0
  refine ⟨bx_narP_ok (l := []) g.1, bx_nfP_ok h0_ (fvs := []) (by decide +kernel) g.2.1, ?_, ?_⟩
  · show rxIBS_20 S0 ws S_p (bx_val [(0, 0), (0, 0), (0, 0), (0, 0), (0, 0), (0, 0), (0, 0), (0, 0), (8, 0), (0, 27), (0, 1)] r_p 8) (bx_val [(0, 0), (0, 0), (0, 0), (0, 0), (0, 0), (0, 0), (0, 0), (0, 0), (8, 0), (0, 27), (0, 1)] r_p 9) (bx_val [(0, 0), (0, 0), (0, 0), (0, 0), (0, 0), (0, 0), (0, 0), (0, 0), (8, 0), (0, 27), (0, 1)] r_p 10)
    rw [bx_val_x (n := 8) (e := (8, 0)) h0_ rfl, bx_val_x (n := 9) (e := (0, 27)) h0_ rfl, bx_val_x (n := 10) (e := (0, 1)) h0_ rfl]
    exact g.2.2.1
  · show rxmBS_20 S0 ws S_p (bx_val [(0, 0), (0, 0), (0, 0), (0, 0), (0, 0), (0, 0), (0, 0), (0, 0), (8, 0), (0, 27), (0, 1)] r_p 8) (bx_val [(0, 0), (0, 0), (0, 0), (0, 0), (0, 0), (0, 0), (0, 0), (0, 0), (8, 0), (0, 27), (0, 1)] r_p 9) (bx_val [(0, 0), (0, 0), (0, 0), (0, 0), (0, 0), (0, 0), (0, 0), (0, 0), (8, 0), (0, 27), (0, 1)] r_p 10) < rxmBS_19 S0 ws S_p (r 8) (r 9)
    rw [bx_val_x (n := 8) (e := (8, 0)) h0_ rfl, bx_val_x (n := 9) (e := (0, 27)) h0_ rfl, bx_val_x (n := 10) (e := (0, 1)) h0_ rfl, ← hr_ 8 (by decide), ← hr_ 9 (by decide)]
    exact g.2.2.2
theorem rxcBS_19_3 {S0 : Nat → Int → Int} {ws : List Int} {S : Nat → Int → Int} {test cmp x10 x11 : Int} (hP : rxPBS S0 ws) (hin : bx_same rxL (bx_mdl rxCBS.2.2.1) S0 S) (I0 : bx_Inv rxL S) (hinv : rxIBS_19 S0 ws S test cmp) (l8 : 0 ≤ test) (u8 : test ≤ 1) (l9 : 0 ≤ cmp) (u9 : cmp ≤ 0) (l10 : 3 ≤ x10) (u10 : x10 ≤ 3) (l11 : 62 ≤ x11) (u11 : x11 ≤ 62) (f0 : x11 ≠ 60) (e1 : S 480 11 = x10) (e0 : S 480 12 = x11) : (True) ∧ (True) ∧ rxIBS_20 S0 ws S test 26 1 ∧ rxmBS_20 S0 ws S test 26 1 < rxmBS_19 S0 ws S test cmp := by
  obtain ⟨rfl, h1⟩ := hinv
  exact ⟨trivial, trivial, ⟨rfl, h1, fun q => by omega⟩, by unfold rxmBS_19 rxmBS_20; omega⟩
theorem rxgBS_19_3 {X : (Nat → Int → Int) → Prop} {S0 : Nat → Int → Int} {ws : List Int} (hP : rxPBS S0 ws) : bx_obC rxL X S0 rxCBS.2.2.1 (rxIBS S0 ws) (rxmBS S0 ws) 19 rxzBS_19 rxoBS_19_3 := by
  intro S S_p r r_p hinv hX hin hsm_ hseg
  obtain ⟨I0, I1, h0_, hr_, b_, f_, d_⟩ := bx_cl (evs := [(0, (0, 480), (0, 12), .inr (1, (11, 0))), (0, (0, 480), (0, 11), .inr (0, (10, 0)))]) (fvs := [(3, (11, 0), (0, 60), (0, 0))]) hseg (by decide +kernel) (by decide +kernel)
  have hinv : rxIBS_19 S0 ws S (r 8) (r 9) := hinv
  rw [← hr_ 8 (by decide), ← hr_ 9 (by decide)] at hinv
  obtain ⟨⟨l8, u8⟩, ⟨l9, u9⟩, ⟨l10, u10⟩, ⟨l11, u11⟩, -⟩ := b_
  obtain ⟨f0, -⟩ := f_
  obtain ⟨e0, ⟨e1, w_⟩⟩ := d_
  subst w_
  have g := rxcBS_19_3 hP hin I0 hinv l8 u8 l9 u9 l10 u10 l11 u11 f0 e1 e0
  refine ⟨bx_narP_ok (l := []) g.1, bx_nfP_ok h0_ (fvs := []) (by decide +kernel) g.2.1, ?_, ?_⟩
  · show rxIBS_20 S0 ws S_p (bx_val [(0, 0), (0, 0), (0, 0), (0, 0), (0, 0), (0, 0), (0, 0), (0, 0), (8, 0), (0, 26), (0, 1)] r_p 8) (bx_val [(0, 0), (0, 0), (0, 0), (0, 0), (0, 0), (0, 0), (0, 0), (0, 0), (8, 0), (0, 26), (0, 1)] r_p 9) (bx_val [(0, 0), (0, 0), (0, 0), (0, 0), (0, 0), (0, 0), (0, 0), (0, 0), (8, 0), (0, 26), (0, 1)] r_p 10)
    rw [bx_val_x (n := 8) (e := (8, 0)) h0_ rfl, bx_val_x (n := 9) (e := (0, 26)) h0_ rfl, bx_val_x (n := 10) (e := (0, 1)) h0_ rfl]
    exact g.2.2.1
  · show rxmBS_20 S0 ws S_p (bx_val [(0, 0), (0, 0), (0, 0), (0, 0), (0, 0), (0, 0), (0, 0), (0, 0), (8, 0), (0, 26), (0, 1)] r_p 8) (bx_val [(0, 0), (0, 0), (0, 0), (0, 0), (0, 0), (0, 0), (0, 0), (0, 0), (8, 0), (0, 26), (0, 1)] r_p 9) (bx_val [(0, 0), (0, 0), (0, 0), (0, 0), (0, 0), (0, 0), (0, 0), (0, 0), (8, 0), (0, 26), (0, 1)] r_p 10) < rxmBS_19 S0 ws S_p (r 8) (r 9)
    rw [bx_val_x (n := 8) (e := (8, 0)) h0_ rfl, bx_val_x (n := 9) (e := (0, 26)) h0_ rfl, bx_val_x (n := 10) (e := (0, 1)) h0_ rfl, ← hr_ 8 (by decide), ← hr_ 9 (by decide)]
    exact g.2.2.2
theorem rxcBS_19_4 {S0 : Nat → Int → Int} {ws : List Int} {S : Nat → Int → Int} {test cmp x10 x11 : Int} (hP : rxPBS S0 ws) (hin : bx_same rxL (bx_mdl rxCBS.2.2.1) S0 S) (I0 : bx_Inv rxL S) (hinv : rxIBS_19 S0 ws S test cmp) (l8 : 0 ≤ test) (u8 : test ≤ 1) (l9 : 0 ≤ cmp) (u9 : cmp ≤ 0) (l10 : 3 ≤ x10) (u10 : x10 ≤ 3) (l11 : 60 ≤ x11) (u11 : x11 ≤ 60) (e1 : S 480 11 = x10) (e0 : S 480 12 = x11) : (True) ∧ (True) ∧ rxIBS_20 S0 ws S test 25 1 ∧ rxmBS_20 S0 ws S test 25 1 < rxmBS_19 S0 ws S test cmp := by
  obtain ⟨rfl, h1⟩ := hinv
  exact ⟨trivial, trivial, ⟨rfl, h1, fun q => by omega⟩, by unfold rxmBS_19 rxmBS_20; omega⟩
theorem rxgBS_19_4 {X : (Nat → Int → Int) → Prop} {S0 : Nat → Int → Int} {ws : List Int} (hP : rxPBS S0 ws) : bx_obC rxL X S0 rxCBS.2.2.1 (rxIBS S0 ws) (rxmBS S0 ws) 19 rxzBS_19 rxoBS_19_4 := by
  intro S S_p r r_p hinv hX hin hsm_ hseg
  obtain ⟨I0, I1, h0_, hr_, b_, f_, d_⟩ := bx_cl (evs := [(0, (0, 480), (0, 12), .inr (1, (11, 0))), (0, (0, 480), (0, 11), .inr (0, (10, 0)))]) (fvs := []) hseg (by decide +kernel) (by decide +kernel)
  have hinv : rxIBS_19 S0 ws S (r 8) (r 9) := hinv
  rw [← hr_ 8 (by decide), ← hr_ 9 (by decide)] at hinv
  obtain ⟨⟨l8, u8⟩, ⟨l9, u9⟩, ⟨l10, u10⟩, ⟨l11, u11⟩, -⟩ := b_
  obtain ⟨e0, ⟨e1, w_⟩⟩ := d_
  subst w_
  have g := rxcBS_19_4 hP hin I0 hinv l8 u8 l9 u9 l10 u10 l11 u11 e1 e0
  refine ⟨bx_narP_ok (l := []) g.1, bx_nfP_ok h0_ (fvs := []) (by decide +kernel) g.2.1, ?_, ?_⟩
  · show rxIBS_20 S0 ws S_p (bx_val [(0, 0), (0, 0), (0, 0), (0, 0), (0, 0), (0, 0), (0, 0), (0, 0), (8, 0), (0, 25), (0, 1)] r_p 8) (bx_val [(0, 0), (0, 0), (0, 0), (0, 0), (0, 0), (0, 0), (0, 0), (0, 0), (8, 0), (0, 25), (0, 1)] r_p 9) (bx_val [(0, 0), (0, 0), (0, 0), (0, 0), (0, 0), (0, 0), (0, 0), (0, 0), (8, 0), (0, 25), (0, 1)] r_p 10)
    rw [bx_val_x (n := 8) (e := (8, 0)) h0_ rfl, bx_val_x (n := 9) (e := (0, 25)) h0_ rfl, bx_val_x (n := 10) (e := (0, 1)) h0_ rfl]
    exact g.2.2.1
  · show rxmBS_20 S0 ws S_p (bx_val [(0, 0), (0, 0), (0, 0), (0, 0), (0, 0), (0, 0), (0, 0), (0, 0), (8, 0), (0, 25), (0, 1)] r_p 8) (bx_val [(0, 0), (0, 0), (0, 0), (0, 0), (0, 0), (0, 0), (0, 0), (0, 0), (8, 0), (0, 25), (0, 1)] r_p 9) (bx_val [(0, 0), (0, 0), (0, 0), (0, 0), (0, 0), (0, 0), (0, 0), (0, 0), (8, 0), (0, 25), (0, 1)] r_p 10) < rxmBS_19 S0 ws S_p (r 8) (r 9)
    rw [bx_val_x (n := 8) (e := (8, 0)) h0_ rfl, bx_val_x (n := 9) (e := (0, 25)) h0_ rfl, bx_val_x (n := 10) (e := (0, 1)) h0_ rfl, ← hr_ 8 (by decide), ← hr_ 9 (by decide)]
    exact g.2.2.2
theorem rxdBS_19_0 {S0 : Nat → Int → Int} {ws : List Int} {S : Nat → Int → Int} {test cmp : Int} (hP : rxPBS S0 ws) (hin : bx_same rxL (bx_mdl rxCBS.2.2.1) S0 S) (hin2 : bx_same rxL (bx_mdl rxCBS.2.2.1) S S) (I0 : bx_Inv rxL S) (I1 : bx_Inv rxL S) (hinv : rxIBS_19 S0 ws S test cmp) (l8 : 0 ≤ test) (u8 : test ≤ 1) (l9 : 1 ≤ cmp) (u9 : cmp ≤ 1) (f0 : cmp ≠ 0) : (True) ∧ rxPSBS S0 ws S (some 2) := by
  obtain ⟨rfl, h1⟩ := hinv
  obtain ⟨p1, p5, p6⟩ := hP
  exact ⟨trivial, 2, rfl, p1, by omega, fun q => Or.inr (Or.inl ⟨rfl, rfl, h1⟩)⟩
theorem rxfBS_19_0 {X : (Nat → Int → Int) → Prop} {S0 : Nat → Int → Int} {ws : List Int} (hP : rxPBS S0 ws) : bx_obE rxL X S0 rxCBS.2.2.1 (rxIBS S0 ws) (rxPSBS S0 ws) 19 rxzBS_19 rxeBS_19_0 := by
  intro S S_p r r_p hinv hX hin hsm_ hseg
  obtain ⟨I0, I1, h0_, hr_, b_, f_, d_⟩ := bx_cl (evs := []) (fvs := [(3, (9, 0), (0, 0), (0, 0))]) hseg (by decide +kernel) (by decide +kernel)
  have hinv : rxIBS_19 S0 ws S (r 8) (r 9) := hinv
  rw [← hr_ 8 (by decide), ← hr_ 9 (by decide)] at hinv
  obtain ⟨⟨l8, u8⟩, ⟨l9, u9⟩, -⟩ := b_
  obtain ⟨f0, -⟩ := f_
  have w_ := d_
  subst w_
  have g := rxdBS_19_0 hP hin hsm_ I0 I1 hinv l8 u8 l9 u9 f0
  refine ⟨bx_narP_ok (l := []) g.1, ?_⟩
  show rxPSBS S0 ws S_p (some (bx_num r_p (.inr (0, (0, 2)))))
  rw [bx_xv_ok h0_]
  exact g.2
theorem rxcBS_21_0 {S0 : Nat → Int → Int} {ws : List Int} {S : Nat → Int → Int} {test op is x11 : Int} (hP : rxPBS S0 ws) (hin : bx_same rxL (bx_mdl rxCBS.2.2.1) S0 S) (I0 : bx_Inv rxL S) (hinv : rxIBS_21 S0 ws S test op is) (l8 : 0 ≤ test) (u8 : test ≤ 1) (l9 : 25 ≤ op) (u9 : op ≤ 27) (l10 : 0 ≤ is) (u10 : is ≤ 1) (l11 : 0 ≤ x11) (u11 : x11 ≤ 0) (e0 : S 480 14 = x11) : (True) ∧ (True) ∧ rxIBS_22 S0 ws S test op ∧ rxmBS_22 S0 ws S test op < rxmBS_21 S0 ws S test op is := by
  obtain ⟨h1, h2, h3, h4, h5⟩ := hinv
  exact ⟨trivial, trivial, ⟨h1, h2, by omega, h3 (by omega), h5⟩, by unfold rxmBS_21 rxmBS_22; omega⟩
theorem rxgBS_21_0 {X : (Nat → Int → Int) → Prop} {S0 : Nat → Int → Int} {ws : List Int} (hP : rxPBS S0 ws) : bx_obC rxL X S0 rxCBS.2.2.1 (rxIBS S0 ws) (rxmBS S0 ws) 21 rxzBS_21 rxoBS_21_0 := by
  intro S S_p r r_p hinv hX hin hsm_ hseg
  obtain ⟨I0, I1, h0_, hr_, b_, f_, d_⟩ := bx_cl (evs := [(0, (0, 480), (0, 14), .inr (0, (11, 0)))]) (fvs := []) hseg (by decide +kernel) (by decide +kernel)
  have hinv : rxIBS_21 S0 ws S (r 8) (r 9) (r 10) := hinv
  rw [← hr_ 8 (by decide), ← hr_ 9 (by decide), ← hr_ 10 (by decide)] at hinv
  obtain ⟨⟨l8, u8⟩, ⟨l9, u9⟩, ⟨l10, u10⟩, ⟨l11, u11⟩, -⟩ := b_
  obtain ⟨e0, w_⟩ := d_
  subst w_
  have g := rxcBS_21_0 hP hin I0 hinv l8 u8 l9 u9 l10 u10 l11 u11 e0
  refine ⟨bx_narP_ok (l := []) g.1, bx_nfP_ok h0_ (fvs := []) (by decide +kernel) g.2.1, ?_, ?_⟩
  · show rxIBS_22 S0 ws S_p (bx_val [(0, 0), (0, 0), (0, 0), (0, 0), (0, 0), (0, 0), (0, 0), (0, 0), (8, 0), (9, 0)] r_p 8) (bx_val [(0, 0), (0, 0), (0, 0), (0, 0), (0, 0), (0, 0), (0, 0), (0, 0), (8, 0), (9, 0)] r_p 9)
    rw [bx_val_x (n := 8) (e := (8, 0)) h0_ rfl, bx_val_x (n := 9) (e := (9, 0)) h0_ rfl]
    exact g.2.2.1
  · show rxmBS_22 S0 ws S_p (bx_val [(0, 0), (0, 0), (0, 0), (0, 0), (0, 0), (0, 0), (0, 0), (0, 0), (8, 0), (9, 0)] r_p 8) (bx_val [(0, 0), (0, 0), (0, 0), (0, 0), (0, 0), (0, 0), (0, 0), (0, 0), (8, 0), (9, 0)] r_p 9) < rxmBS_21 S0 ws S_p (r 8) (r 9) (r 10)
    rw [bx_val_x (n := 8) (e := (8, 0)) h0_ rfl, bx_val_x (n := 9) (e := (9, 0)) h0_ rfl, ← hr_ 8 (by decide), ← hr_ 9 (by decide), ← hr_ 10 (by decide)]
    exact g.2.2.2
theorem rxdBS_21_0 {S0 : Nat → Int → Int} {ws : List Int} {S : Nat → Int → Int} {test op is x11 : Int} (hP : rxPBS S0 ws) (hin : bx_same rxL (bx_mdl rxCBS.2.2.1) S0 S) (hin2 : bx_same rxL (bx_mdl rxCBS.2.2.1) S S) (I0 : bx_Inv rxL S) (I1 : bx_Inv rxL S) (hinv : rxIBS_21 S0 ws S test op is) (l8 : 0 ≤ test) (u8 : test ≤ 1) (l9 : 25 ≤ op) (u9 : op ≤ 27) (l10 : 0 ≤ is) (u10 : is ≤ 1) (l11 : 1 ≤ x11) (u11 : x11 ≤ 1) (f0 : x11 ≠ 0) (e0 : S 480 14 = x11) : (True) ∧ rxPSBS S0 ws S (some 1) := by
  obtain ⟨h1, h2, h3, h4, h5⟩ := hinv
  obtain ⟨⟨p1, p2, p3, p4⟩, p5, p6⟩ := hP
  have b24 := rxBox24 I0
  have k18 := h2.1
  have k24 := h2.2.1
  have g := h4 (by omega)
  exact ⟨trivial, 1, rfl, ⟨h1, h2.pz p2 (by omega), by omega, by omega⟩, by omega, fun q => by omega⟩
theorem rxfBS_21_0 {X : (Nat → Int → Int) → Prop} {S0 : Nat → Int → Int} {ws : List Int} (hP : rxPBS S0 ws) : bx_obE rxL X S0 rxCBS.2.2.1 (rxIBS S0 ws) (rxPSBS S0 ws) 21 rxzBS_21 rxeBS_21_0 := by
  intro S S_p r r_p hinv hX hin hsm_ hseg
  obtain ⟨I0, I1, h0_, hr_, b_, f_, d_⟩ := bx_cl (evs := [(0, (0, 480), (0, 14), .inr (0, (11, 0)))]) (fvs := [(3, (11, 0), (0, 0), (0, 0))]) hseg (by decide +kernel) (by decide +kernel)
  have hinv : rxIBS_21 S0 ws S (r 8) (r 9) (r 10) := hinv
  rw [← hr_ 8 (by decide), ← hr_ 9 (by decide), ← hr_ 10 (by decide)] at hinv
  obtain ⟨⟨l8, u8⟩, ⟨l9, u9⟩, ⟨l10, u10⟩, ⟨l11, u11⟩, -⟩ := b_
  obtain ⟨f0, -⟩ := f_
  obtain ⟨e0, w_⟩ := d_
  subst w_
  have g := rxdBS_21_0 hP hin hsm_ I0 I1 hinv l8 u8 l9 u9 l10 u10 l11 u11 f0 e0
  refine ⟨bx_narP_ok (l := []) g.1, ?_⟩
  show rxPSBS S0 ws S_p (some (bx_num r_p (.inr (0, (0, 1)))))
  rw [bx_xv_ok h0_]
  exact g.2
theorem rxcBS_23_0 {S0 : Nat → Int → Int} {ws : List Int} {S : Nat → Int → Int} {test op : Int} (hP : rxPBS S0 ws) (hin : bx_same rxL (bx_mdl rxCBS.2.2.1) S0 S) (I0 : bx_Inv rxL S) (hinv : rxIBS_23 S0 ws S test op) (l8 : 0 ≤ test) (u8 : test ≤ 1) (l9 : 25 ≤ op) (u9 : op ≤ 27) : (True) ∧ (True) ∧ rxIBS_24 S0 ws S test op op ∧ rxmBS_24 S0 ws S test op op < rxmBS_23 S0 ws S test op := by
  exact ⟨trivial, trivial, hinv, by unfold rxmBS_23 rxmBS_24; omega⟩
theorem rxgBS_23_0 {X : (Nat → Int → Int) → Prop} {S0 : Nat → Int → Int} {ws : List Int} (hP : rxPBS S0 ws) : bx_obC rxL X S0 rxCBS.2.2.1 (rxIBS S0 ws) (rxmBS S0 ws) 23 rxzBS_23 rxoBS_23_0 := by
  intro S S_p r r_p hinv hX hin hsm_ hseg
  obtain ⟨I0, I1, h0_, hr_, b_, f_, d_⟩ := bx_cl (evs := []) (fvs := []) hseg (by decide +kernel) (by decide +kernel)
  have hinv : rxIBS_23 S0 ws S (r 8) (r 9) := hinv
  rw [← hr_ 8 (by decide), ← hr_ 9 (by decide)] at hinv
  obtain ⟨⟨l8, u8⟩, ⟨l9, u9⟩, -⟩ := b_
  have w_ := d_
  subst w_
  have g := rxcBS_23_0 hP hin I0 hinv l8 u8 l9 u9
  refine ⟨bx_narP_ok (l := []) g.1, bx_nfP_ok h0_ (fvs := []) (by decide +kernel) g.2.1, ?_, ?_⟩
  · show rxIBS_24 S0 ws S_p (bx_val [(0, 0), (0, 0), (0, 0), (0, 0), (0, 0), (0, 0), (0, 0), (0, 0), (8, 0), (9, 0), (9, 0)] r_p 8) (bx_val [(0, 0), (0, 0), (0, 0), (0, 0), (0, 0), (0, 0), (0, 0), (0, 0), (8, 0), (9, 0), (9, 0)] r_p 9) (bx_val [(0, 0), (0, 0), (0, 0), (0, 0), (0, 0), (0, 0), (0, 0), (0, 0), (8, 0), (9, 0), (9, 0)] r_p 10)
    rw [bx_val_x (n := 8) (e := (8, 0)) h0_ rfl, bx_val_x (n := 9) (e := (9, 0)) h0_ rfl, bx_val_x (n := 10) (e := (9, 0)) h0_ rfl]
    exact g.2.2.1
  · show rxmBS_24 S0 ws S_p (bx_val [(0, 0), (0, 0), (0, 0), (0, 0), (0, 0), (0, 0), (0, 0), (0, 0), (8, 0), (9, 0), (9, 0)] r_p 8) (bx_val [(0, 0), (0, 0), (0, 0), (0, 0), (0, 0), (0, 0), (0, 0), (0, 0), (8, 0), (9, 0), (9, 0)] r_p 9) (bx_val [(0, 0), (0, 0), (0, 0), (0, 0), (0, 0), (0, 0), (0, 0), (0, 0), (8, 0), (9, 0), (9, 0)] r_p 10) < rxmBS_23 S0 ws S_p (r 8) (r 9)
    rw [bx_val_x (n := 8) (e := (8, 0)) h0_ rfl, bx_val_x (n := 9) (e := (9, 0)) h0_ rfl, bx_val_x (n := 10) (e := (9, 0)) h0_ rfl, ← hr_ 8 (by decide), ← hr_ 9 (by decide)]
    exact g.2.2.2
theorem rxdBS_25_0 {S0 : Nat → Int → Int} {ws : List Int} {S : Nat → Int → Int} {test op op2 : Int} (hP : rxPBS S0 ws) (hin : bx_same rxL (bx_mdl rxCBS.2.2.1) S0 S) (hin2 : bx_same rxL (bx_mdl rxCBS.2.2.1) S S) (I0 : bx_Inv rxL S) (I1 : bx_Inv rxL S) (hinv : rxIBS_25 S0 ws S test op op2) (l8 : 0 ≤ test) (u8 : test ≤ 1) (l9 : 25 ≤ op) (u9 : op ≤ 27) (l10 : 25 ≤ op2) (u10 : op2 ≤ 27) : (True) ∧ rxPSBS S0 ws S (some 1) := by
  obtain ⟨h1, h2⟩ := hinv
  exact ⟨trivial, 1, rfl, h1, Or.inl rfl, fun q => Or.inl ⟨rfl, h2 q⟩⟩
theorem rxfBS_25_0 {X : (Nat → Int → Int) → Prop} {S0 : Nat → Int → Int} {ws : List Int} (hP : rxPBS S0 ws) : bx_obE rxL X S0 rxCBS.2.2.1 (rxIBS S0 ws) (rxPSBS S0 ws) 25 rxzBS_25 rxeBS_25_0 := by
  intro S S_p r r_p hinv hX hin hsm_ hseg
  obtain ⟨I0, I1, h0_, hr_, b_, f_, d_⟩ := bx_cl (evs := []) (fvs := []) hseg (by decide +kernel) (by decide +kernel)
  have hinv : rxIBS_25 S0 ws S (r 8) (r 9) (r 10) := hinv
  rw [← hr_ 8 (by decide), ← hr_ 9 (by decide), ← hr_ 10 (by decide)] at hinv
  obtain ⟨⟨l8, u8⟩, ⟨l9, u9⟩, ⟨l10, u10⟩, -⟩ := b_
  have w_ := d_
  subst w_
  have g := rxdBS_25_0 hP hin hsm_ I0 I1 hinv l8 u8 l9 u9 l10 u10
  refine ⟨bx_narP_ok (l := []) g.1, ?_⟩
  show rxPSBS S0 ws S_p (some (bx_num r_p (.inr (0, (0, 1)))))
  rw [bx_xv_ok h0_]
  exact g.2
theorem rxgCBS {X : (Nat → Int → Int) → Prop} {S0 : Nat → Int → Int} {ws : List Int} (hP : rxPBS S0 ws) : bx_allI (fun i q => rxUBS q = true ∨ bx_allP (fun o => bx_obC rxL X S0 rxCBS.2.2.1 (rxIBS S0 ws) (rxmBS S0 ws) i q.1 o) q.2.1) 0 rxYBS := ⟨Or.inr ⟨rxgBS_0_0 hP, rxgBS_0_1 hP, rxgBS_0_2 hP, rxgBS_0_3 hP, rxgBS_0_4 hP, rxgBS_0_5 hP, rxgBS_0_6 hP, trivial⟩, Or.inr ⟨rxgBS_1_0 hP, rxgBS_1_1 hP, trivial⟩, Or.inl rfl, Or.inl rfl, Or.inr ⟨rxgBS_4_0 hP, trivial⟩, Or.inl rfl, Or.inr ⟨rxgBS_6_0 hP, trivial⟩, Or.inl rfl, Or.inr trivial, Or.inl rfl, Or.inr ⟨rxgBS_10_0 hP, rxgBS_10_1 hP, rxgBS_10_2 hP, trivial⟩, Or.inl rfl, Or.inl rfl, Or.inr ⟨rxgBS_13_0 hP, trivial⟩, Or.inl rfl, Or.inr ⟨rxgBS_15_0 hP, trivial⟩, Or.inr ⟨rxgBS_16_0 hP, trivial⟩, Or.inr trivial, Or.inl rfl, Or.inr ⟨rxgBS_19_0 hP, rxgBS_19_1 hP, rxgBS_19_2 hP, rxgBS_19_3 hP, rxgBS_19_4 hP, trivial⟩, Or.inl rfl, Or.inr ⟨rxgBS_21_0 hP, trivial⟩, Or.inl rfl, Or.inr ⟨rxgBS_23_0 hP, trivial⟩, Or.inl rfl, Or.inr trivial, trivial⟩
theorem rxgEBS {X : (Nat → Int → Int) → Prop} {S0 : Nat → Int → Int} {ws : List Int} (hP : rxPBS S0 ws) : bx_allI (fun i q => rxUBS q = true ∨ bx_allP (fun E => bx_obE rxL X S0 rxCBS.2.2.1 (rxIBS S0 ws) (rxPSBS S0 ws) i q.1 E) q.2.2) 0 rxYBS := ⟨Or.inr trivial, Or.inr trivial, Or.inl rfl, Or.inl rfl, Or.inr trivial, Or.inl rfl, Or.inr trivial, Or.inl rfl, Or.inr ⟨rxfBS_8_0 hP, trivial⟩, Or.inl rfl, Or.inr ⟨rxfBS_10_0 hP, trivial⟩, Or.inl rfl, Or.inl rfl, Or.inr ⟨rxfBS_13_0 hP, trivial⟩, Or.inl rfl, Or.inr trivial, Or.inr trivial, Or.inr ⟨rxfBS_17_0 hP, trivial⟩, Or.inl rfl, Or.inr ⟨rxfBS_19_0 hP, trivial⟩, Or.inl rfl, Or.inr ⟨rxfBS_21_0 hP, trivial⟩, Or.inl rfl, Or.inr trivial, Or.inl rfl, Or.inr ⟨rxfBS_25_0 hP, trivial⟩, trivial⟩
theorem rxuBS {PX : State → Prop} {Dg : va_G} {A : Nat → Prop} {ad xa : Nat → Nat} {l : Launch} {X : (Nat → Int → Int) → Prop} (hPX : rx_PXOK rxNW A PX) (hX : ∀ S S1 : Nat → Int → Int, X S → bx_same rxL (bx_mdl rxCBS.2.2.1) S S1 → X S1) (hQBI : bx_ConP rxG rxNW rxAO PX Dg rxL X vwCl A ad l rxM24 rxCBI rxPBI rxPSBI) (hQST : bx_ConP rxG rxNW rxAO PX Dg rxL X vwCl A ad l rxM275 rxCST rxPST rxPSST) (hQPU : bx_ConP rxG rxNW rxAO PX Dg rxL X vwCl A ad l rxM268 rxCPU rxPPU rxPSPU) (hQNX : bx_ConP rxG rxNW rxAO PX Dg rxL X vwCl A ad l rxM264 rxCNX rxPNX rxPSNX) (hQIN : bx_ConP rxG rxNW rxAO PX Dg rxL X vwCl A ad l rxM276 rxCIN rxPIN rxPSIN) (hQIS : bx_ConP rxG rxNW rxAO PX Dg rxL X vwCl A ad l rxM269 rxCIS rxPIS rxPSIS) (hQMU : bx_ConP rxG rxNW rxAO PX Dg rxL X vwCl A ad l rxM265 rxCMU rxPMU rxPSMU) (hQIC : bx_ConP rxG rxNW rxAO PX Dg rxL X vwCl A ad l rxM277 rxCIC rxPIC rxPSIC) {S0 : Nat → Int → Int} {ws : List Int} (hP : rxPBS S0 ws) : ∀ (i : Nat) (q : bx_HE), rxYBS[i]? = some q → rxUBS q = true → ∀ {p : Program} {e : Env} {R : Room} {s : State} {m : MethodId} {args : Array Value} {below : List Frame} {meth : Method} {c : Code} {Q : State → Prop} {H0 : Heap}, rx_Fr rxG rxNW rxAO PX p s m args meth c rxM279 → (∀ q, H0.size ≤ q → A q) → H0 = s.heap → rxM279.2.2.2.2.2.2.1 ≤ R.cells → rxM279.2.2.2.2.2.2.2 ≤ R.slots → rxCBS.2.2.2.1 ≤ R.frames → rxCBS.2.2.2.1 * 40 ≤ R.locals → bx_Step p l e R s m args below meth c Q Dg rxL X vwCl A xa H0 ad rxM279 rxYBS (rxIBS S0 ws) (rxmBS S0 ws) S0 rxCBS.2.2.1 i q := by
  intro i q hq hus p e R s m args below meth c Q H0 hF hA hH0 hmc hms hd hdl
  match i, hq with
  | 0, hq =>
    cases hq
    exact absurd (show false = true from hus) Bool.false_ne_true
  | 1, hq =>
    cases hq
    exact absurd (show false = true from hus) Bool.false_ne_true
  | 2, hq =>
    cases hq
    exact rx_stepC (ins := .invokestatic 294) (len := 3) (i_p := 3) (M_p := rxM24) (d := rxCBS.2.2.2.1) (as := [.inr (0, (10, 0))]) (t := [.inr (3, (0, 480))]) (ct := rxCBI) hPX hF rfl hA hH0 hmc hms hd hdl (by decide +kernel) rfl rfl (by decide +kernel) (by decide +kernel) hQBI (by decide +kernel) rfl (Or.inr ⟨_, _, _, 1, rfl, rfl, by omega, rfl, rfl, rfl⟩) (rxsBS_2 hP)
  | 3, hq =>
    cases hq
    exact rx_stepC (ins := .invokevirtual 347) (len := 3) (i_p := 4) (M_p := rxM275) (d := rxCBS.2.2.2.1) (as := [.inr (3, (0, 480)), .inr (0, (11, 0))]) (t := []) (ct := rxCST) hPX hF rfl hA hH0 hmc hms hd hdl (by decide +kernel) rfl rfl (by decide +kernel) (by decide +kernel) hQST (by decide +kernel) rfl (Or.inl ⟨rfl, rfl, rfl⟩) (rxsBS_3 hP)
  | 4, hq =>
    cases hq
    exact absurd (show false = true from hus) Bool.false_ne_true
  | 5, hq =>
    cases hq
    exact rx_stepC (ins := .invokevirtual 314) (len := 3) (i_p := 6) (M_p := rxM268) (d := rxCBS.2.2.2.1) (as := [.inr (3, (0, 480)), .inr (0, (10, 0)), .inr (0, (0, 0))]) (t := []) (ct := rxCPU) hPX hF rfl hA hH0 hmc hms hd hdl (by decide +kernel) rfl rfl (by decide +kernel) (by decide +kernel) hQPU (by decide +kernel) rfl (Or.inl ⟨rfl, rfl, rfl⟩) (rxsBS_5 hP)
  | 6, hq =>
    cases hq
    exact absurd (show false = true from hus) Bool.false_ne_true
  | 7, hq =>
    cases hq
    exact rx_stepC (ins := .invokevirtual 253) (len := 3) (i_p := 8) (M_p := rxM264) (d := rxCBS.2.2.2.1) (as := [.inr (3, (0, 480))]) (t := []) (ct := rxCNX) hPX hF rfl hA hH0 hmc hms hd hdl (by decide +kernel) rfl rfl (by decide +kernel) (by decide +kernel) hQNX (by decide +kernel) rfl (Or.inl ⟨rfl, rfl, rfl⟩) (rxsBS_7 hP)
  | 8, hq =>
    cases hq
    exact absurd (show false = true from hus) Bool.false_ne_true
  | 9, hq =>
    cases hq
    exact rx_stepC (ins := .invokevirtual 350) (len := 3) (i_p := 10) (M_p := rxM276) (d := rxCBS.2.2.2.1) (as := [.inr (3, (0, 480))]) (t := []) (ct := rxCIN) hPX hF rfl hA hH0 hmc hms hd hdl (by decide +kernel) rfl rfl (by decide +kernel) (by decide +kernel) hQIN (by decide +kernel) rfl (Or.inr ⟨_, _, _, 1, rfl, rfl, by omega, rfl, rfl, rfl⟩) (rxsBS_9 hP)
  | 10, hq =>
    cases hq
    exact absurd (show false = true from hus) Bool.false_ne_true
  | 11, hq =>
    cases hq
    exact rx_stepC (ins := .invokevirtual 320) (len := 3) (i_p := 12) (M_p := rxM269) (d := rxCBS.2.2.2.1) (as := [.inr (3, (0, 480)), .inr (0, (0, 93))]) (t := [.inr (3, (0, 480))]) (ct := rxCIS) hPX hF rfl hA hH0 hmc hms hd hdl (by decide +kernel) rfl rfl (by decide +kernel) (by decide +kernel) hQIS (by decide +kernel) rfl (Or.inr ⟨_, _, _, 1, rfl, rfl, by omega, rfl, rfl, rfl⟩) (rxsBS_11 hP)
  | 12, hq =>
    cases hq
    exact rx_stepC (ins := .invokevirtual 284) (len := 3) (i_p := 13) (M_p := rxM265) (d := rxCBS.2.2.2.1) (as := [.inr (3, (0, 480)), .inr (0, (9, 0))]) (t := []) (ct := rxCMU) hPX hF rfl hA hH0 hmc hms hd hdl (by decide +kernel) rfl rfl (by decide +kernel) (by decide +kernel) hQMU (by decide +kernel) rfl (Or.inl ⟨rfl, rfl, rfl⟩) (rxsBS_12 hP)
  | 13, hq =>
    cases hq
    exact absurd (show false = true from hus) Bool.false_ne_true
  | 14, hq =>
    cases hq
    exact rx_stepC (ins := .invokevirtual 347) (len := 3) (i_p := 15) (M_p := rxM275) (d := rxCBS.2.2.2.1) (as := [.inr (3, (0, 480)), .inr (0, (0, 5))]) (t := []) (ct := rxCST) hPX hF rfl hA hH0 hmc hms hd hdl (by decide +kernel) rfl rfl (by decide +kernel) (by decide +kernel) hQST (by decide +kernel) rfl (Or.inl ⟨rfl, rfl, rfl⟩) (rxsBS_14 hP)
  | 15, hq =>
    cases hq
    exact absurd (show false = true from hus) Bool.false_ne_true
  | 16, hq =>
    cases hq
    exact absurd (show false = true from hus) Bool.false_ne_true
  | 17, hq =>
    cases hq
    exact absurd (show false = true from hus) Bool.false_ne_true
  | 18, hq =>
    cases hq
    exact rx_stepC (ins := .invokevirtual 353) (len := 3) (i_p := 19) (M_p := rxM277) (d := rxCBS.2.2.2.1) (as := [.inr (3, (0, 480))]) (t := []) (ct := rxCIC) hPX hF rfl hA hH0 hmc hms hd hdl (by decide +kernel) rfl rfl (by decide +kernel) (by decide +kernel) hQIC (by decide +kernel) rfl (Or.inr ⟨_, _, _, 1, rfl, rfl, by omega, rfl, rfl, rfl⟩) (rxsBS_18 hP)
  | 19, hq =>
    cases hq
    exact absurd (show false = true from hus) Bool.false_ne_true
  | 20, hq =>
    cases hq
    exact rx_stepC (ins := .invokevirtual 284) (len := 3) (i_p := 21) (M_p := rxM265) (d := rxCBS.2.2.2.1) (as := [.inr (3, (0, 480)), .inr (0, (10, 0))]) (t := []) (ct := rxCMU) hPX hF rfl hA hH0 hmc hms hd hdl (by decide +kernel) rfl rfl (by decide +kernel) (by decide +kernel) hQMU (by decide +kernel) rfl (Or.inl ⟨rfl, rfl, rfl⟩) (rxsBS_20 hP)
  | 21, hq =>
    cases hq
    exact absurd (show false = true from hus) Bool.false_ne_true
  | 22, hq =>
    cases hq
    exact rx_stepC (ins := .invokevirtual 347) (len := 3) (i_p := 23) (M_p := rxM275) (d := rxCBS.2.2.2.1) (as := [.inr (3, (0, 480)), .inr (0, (0, 5))]) (t := []) (ct := rxCST) hPX hF rfl hA hH0 hmc hms hd hdl (by decide +kernel) rfl rfl (by decide +kernel) (by decide +kernel) hQST (by decide +kernel) rfl (Or.inl ⟨rfl, rfl, rfl⟩) (rxsBS_22 hP)
  | 23, hq =>
    cases hq
    exact absurd (show false = true from hus) Bool.false_ne_true
  | 24, hq =>
    cases hq
    exact rx_stepC (ins := .invokevirtual 314) (len := 3) (i_p := 25) (M_p := rxM268) (d := rxCBS.2.2.2.1) (as := [.inr (3, (0, 480)), .inr (0, (10, 0)), .inr (0, (0, 0))]) (t := []) (ct := rxCPU) hPX hF rfl hA hH0 hmc hms hd hdl (by decide +kernel) rfl rfl (by decide +kernel) (by decide +kernel) hQPU (by decide +kernel) rfl (Or.inl ⟨rfl, rfl, rfl⟩) (rxsBS_24 hP)
  | 25, hq =>
    cases hq
    exact absurd (show false = true from hus) Bool.false_ne_true
  | n + 26, hq => cases hq
theorem rxQBS {PX : State → Prop} {Dg : va_G} {A : Nat → Prop} {ad xa : Nat → Nat} {l : Launch} {X : (Nat → Int → Int) → Prop} (hPX : rx_PXOK rxNW A PX) (hsl : ∀ s : State, PX s → ∀ o idx n : Nat, rxSl o idx = some n → ∃ tx : String, vk_R (rxNm o) idx tx (ad n) s)
    (hX : ∀ S S_p : Nat → Int → Int, X S → bx_same rxL (bx_mdl rxCBS.2.2.1) S S_p → X S_p)
    (ih : ∀ (j2 : Nat) (ct2 : bx_Ct) (M2 : rx_Mt), ct2 ∈ rxCnE j2 → ct2.2.2.2.1 + 1 ≤ rxCBS.2.2.2.1 → rxT.2.2.2.2.2 j2 = some M2 → bx_Con rxG rxNW rxAO PX Dg rxL X vwCl A ad l M2 ct2) (hQBI : bx_ConP rxG rxNW rxAO PX Dg rxL X vwCl A ad l rxM24 rxCBI rxPBI rxPSBI) (hQST : bx_ConP rxG rxNW rxAO PX Dg rxL X vwCl A ad l rxM275 rxCST rxPST rxPSST) (hQPU : bx_ConP rxG rxNW rxAO PX Dg rxL X vwCl A ad l rxM268 rxCPU rxPPU rxPSPU) (hQNX : bx_ConP rxG rxNW rxAO PX Dg rxL X vwCl A ad l rxM264 rxCNX rxPNX rxPSNX) (hQIN : bx_ConP rxG rxNW rxAO PX Dg rxL X vwCl A ad l rxM276 rxCIN rxPIN rxPSIN) (hQIS : bx_ConP rxG rxNW rxAO PX Dg rxL X vwCl A ad l rxM269 rxCIS rxPIS rxPSIS) (hQMU : bx_ConP rxG rxNW rxAO PX Dg rxL X vwCl A ad l rxM265 rxCMU rxPMU rxPSMU) (hQIC : bx_ConP rxG rxNW rxAO PX Dg rxL X vwCl A ad l rxM277 rxCIC rxPIC rxPSIC) : bx_ConP rxG rxNW rxAO PX Dg rxL X vwCl A ad l rxM279 rxCBS rxPBS rxPSBS :=
  rxQof (xa := xa) (Cn := rxCnE) (f := 30000) (j := 279) (tab := rxYBS) (us := rxUBS) hPX hsl hX ih rfl rxYcBS rxIBS rxmBS
    (fun S0 ws r I0 I ht0 ht as he he1 hX0 hI0 hP hs ha => by
      have e := he.symm.trans (show bx_ent0 rxNP rxCBS.1 bx_I0 [] = some ([(0, 0), (0, 0), (0, 0), (0, 0), (0, 0), (0, 0), (0, 0), (0, 0), (0, 1)], [], [.inr (3, (0, 480)), .inr (0, (8, 0))]) from rfl)
      cases e
      subst ha
      have h0 : r 0 = 0 := hs.1
      show rxIBS_0 S0 _ S0 (r 8)
      refine ⟨rfl, ?_⟩
      simp only [List.map_cons, List.map_nil, bx_xv_ok h0]
      rfl)
    (fun S0 ws hP => rxuBS (xa := xa) hPX hX hQBI hQST hQPU hQNX hQIN hQIS hQMU hQIC hP) (fun S0 ws hP => rxgCBS hP) (fun S0 ws hP => rxgEBS hP)
