/-! CONTRACT BY HAND, by program (wip/sim/genhand.py): DeadUnderstudiesModel.play -/
def rxIPLAYK_0 (S0 : Nat → Int → Int) (ws : List Int) (S : Nat → Int → Int) (part : Int) : Prop := rxIPLAYX_0 S0 ws S part ∧ True
def rxmPLAYK_0 (S0 : Nat → Int → Int) (ws : List Int) (S : Nat → Int → Int) (part : Int) : Nat := rxmPLAYX_0 S0 ws S part
def rxzPLAYK_0 : rx_Z := ([(0, 0), (0, 0), (0, 0), (0, 0), (0, 0), (0, 0), (0, 0), (0, 0), ((-2147483648), 2147483647)], [], [], 0, 0, 0, [(0, .inr (3, (0, 480))), (1, .inr (0, (8, 0)))], [])
def rxIPLAYK_1 (S0 : Nat → Int → Int) (ws : List Int) (S : Nat → Int → Int) (part : Int) : Prop := rxIPLAYX_1 S0 ws S part ∧ ((∀ j : Int, 0 ≤ j → j < 6180 → S 482 j = S0 482 j) ∧ S 494 7 = S0 494 7 ∧ S 494 8 = S0 494 8)
def rxmPLAYK_1 (S0 : Nat → Int → Int) (ws : List Int) (S : Nat → Int → Int) (part : Int) : Nat := rxmPLAYX_1 S0 ws S part
def rxzPLAYK_1 : rx_Z := ([(0, 0), (0, 0), (0, 0), (0, 0), (0, 0), (0, 0), (0, 0), (0, 0), (0, 5)], [], [], 0, 0, 22, [(0, .inr (3, (0, 480))), (1, .inr (0, (8, 0)))], [.inr (0, (0, 1)), .inr (3, (0, 480))])
def rxIPLAYK_2 (S0 : Nat → Int → Int) (ws : List Int) (S : Nat → Int → Int) (part : Int) : Prop := rxIPLAYX_2 S0 ws S part ∧ (((∀ j : Int, 0 ≤ j → j < 6180 → S 482 j = S0 482 j) ∧ S 494 7 = S0 494 7 ∧ S 494 8 = S0 494 8) ∧ (S 480 14 = 0 → rjMp S0 S))
def rxmPLAYK_2 (S0 : Nat → Int → Int) (ws : List Int) (S : Nat → Int → Int) (part : Int) : Nat := rxmPLAYX_2 S0 ws S part
def rxzPLAYK_2 : rx_Z := ([(0, 0), (0, 0), (0, 0), (0, 0), (0, 0), (0, 0), (0, 0), (0, 0), (0, 5)], [], [], 0, 0, 25, [(0, .inr (3, (0, 480))), (1, .inr (0, (8, 0)))], [])
def rxIPLAYK_3 (S0 : Nat → Int → Int) (ws : List Int) (S : Nat → Int → Int) (part : Int) : Prop := rxIPLAYX_3 S0 ws S part ∧ (((∀ j : Int, 0 ≤ j → j < 6180 → S 482 j = S0 482 j) ∧ S 494 7 = S0 494 7 ∧ S 494 8 = S0 494 8) ∧ (S 480 14 = 0 → rjMp S0 S))
def rxmPLAYK_3 (S0 : Nat → Int → Int) (ws : List Int) (S : Nat → Int → Int) (part : Int) : Nat := rxmPLAYX_3 S0 ws S part
def rxzPLAYK_3 : rx_Z := ([(0, 0), (0, 0), (0, 0), (0, 0), (0, 0), (0, 0), (0, 0), (0, 0), (0, 5)], [], [], 0, 0, 26, [(0, .inr (3, (0, 480))), (1, .inr (0, (8, 0)))], [.inr (3, (0, 480))])
def rxIPLAYK_4 (S0 : Nat → Int → Int) (ws : List Int) (S : Nat → Int → Int) (part : Int) : Prop := rxIPLAYX_4 S0 ws S part ∧ (((∀ j : Int, 0 ≤ j → j < 6180 → S 482 j = S0 482 j) ∧ S 494 7 = S0 494 7 ∧ S 494 8 = S0 494 8) ∧ (S 480 14 = 0 → rjMq S0 S))
def rxmPLAYK_4 (S0 : Nat → Int → Int) (ws : List Int) (S : Nat → Int → Int) (part : Int) : Nat := rxmPLAYX_4 S0 ws S part
def rxzPLAYK_4 : rx_Z := ([(0, 0), (0, 0), (0, 0), (0, 0), (0, 0), (0, 0), (0, 0), (0, 0), (0, 5)], [], [], 0, 0, 29, [(0, .inr (3, (0, 480))), (1, .inr (0, (8, 0)))], [])
def rxIPLAYK_5 (S0 : Nat → Int → Int) (ws : List Int) (S : Nat → Int → Int) (part : Int) : Prop := rxIPLAYX_5 S0 ws S part ∧ (((∀ j : Int, 0 ≤ j → j < 6180 → S 482 j = S0 482 j) ∧ S 494 7 = S0 494 7 ∧ S 494 8 = S0 494 8) ∧ (S 480 14 = 0 → rjMq S0 S))
def rxmPLAYK_5 (S0 : Nat → Int → Int) (ws : List Int) (S : Nat → Int → Int) (part : Int) : Nat := rxmPLAYX_5 S0 ws S part
def rxzPLAYK_5 : rx_Z := ([(0, 0), (0, 0), (0, 0), (0, 0), (0, 0), (0, 0), (0, 0), (0, 0), (0, 5)], [], [], 0, 0, 29, [(0, .inr (3, (0, 480))), (1, .inr (0, (8, 0)))], [])
def rxIPLAYK_6 (S0 : Nat → Int → Int) (ws : List Int) (S : Nat → Int → Int) (part : Int) : Prop := rxIPLAYX_6 S0 ws S part ∧ (((∀ j : Int, 0 ≤ j → j < 6180 → S 482 j = S0 482 j) ∧ S 494 7 = S0 494 7 ∧ S 494 8 = S0 494 8) ∧ (S 480 14 = 0 → rjMq S0 S))
def rxmPLAYK_6 (S0 : Nat → Int → Int) (ws : List Int) (S : Nat → Int → Int) (part : Int) : Nat := rxmPLAYX_6 S0 ws S part
def rxzPLAYK_6 : rx_Z := ([(0, 0), (0, 0), (0, 0), (0, 0), (0, 0), (0, 0), (0, 0), (0, 0), (0, 5)], [], [], 0, 0, 46, [(0, .inr (3, (0, 480))), (1, .inr (0, (8, 0)))], [.inr (3, (0, 480))])
def rxIPLAYK_7 (S0 : Nat → Int → Int) (ws : List Int) (S : Nat → Int → Int) (part : Int) : Prop := rxIPLAYX_7 S0 ws S part ∧ (((∀ j : Int, 0 ≤ j → j < 6180 → S 482 j = S0 482 j) ∧ S 494 7 = S0 494 7 ∧ S 494 8 = S0 494 8) ∧ (S 480 14 = 0 → rjMp S0 S))
def rxmPLAYK_7 (S0 : Nat → Int → Int) (ws : List Int) (S : Nat → Int → Int) (part : Int) : Nat := rxmPLAYX_7 S0 ws S part
def rxzPLAYK_7 : rx_Z := ([(0, 0), (0, 0), (0, 0), (0, 0), (0, 0), (0, 0), (0, 0), (0, 0), (0, 5)], [], [], 0, 0, 49, [(0, .inr (3, (0, 480))), (1, .inr (0, (8, 0)))], [])
def rxIPLAYK_8 (S0 : Nat → Int → Int) (ws : List Int) (S : Nat → Int → Int) (part : Int) : Prop := rxIPLAYX_8 S0 ws S part ∧ (((∀ j : Int, 0 ≤ j → j < 6180 → S 482 j = S0 482 j) ∧ S 494 7 = S0 494 7 ∧ S 494 8 = S0 494 8) ∧ (S 480 14 = 0 → rjMp S0 S))
def rxmPLAYK_8 (S0 : Nat → Int → Int) (ws : List Int) (S : Nat → Int → Int) (part : Int) : Nat := rxmPLAYX_8 S0 ws S part
def rxzPLAYK_8 : rx_Z := ([(0, 0), (0, 0), (0, 0), (0, 0), (0, 0), (0, 0), (0, 0), (0, 0), (0, 5)], [], [], 0, 0, 50, [(0, .inr (3, (0, 480))), (1, .inr (0, (8, 0)))], [.inr (3, (0, 480))])
def rxIPLAYK_9 (S0 : Nat → Int → Int) (ws : List Int) (S : Nat → Int → Int) (part : Int) : Prop := rxIPLAYX_9 S0 ws S part ∧ (((∀ j : Int, 0 ≤ j → j < 6180 → S 482 j = S0 482 j) ∧ S 494 7 = S0 494 7 ∧ S 494 8 = S0 494 8) ∧ (S 480 14 = 0 → rjMq S0 S))
def rxmPLAYK_9 (S0 : Nat → Int → Int) (ws : List Int) (S : Nat → Int → Int) (part : Int) : Nat := rxmPLAYX_9 S0 ws S part
def rxzPLAYK_9 : rx_Z := ([(0, 0), (0, 0), (0, 0), (0, 0), (0, 0), (0, 0), (0, 0), (0, 0), (0, 5)], [], [], 0, 0, 53, [(0, .inr (3, (0, 480))), (1, .inr (0, (8, 0)))], [])
def rxIPLAYK_10 (S0 : Nat → Int → Int) (ws : List Int) (S : Nat → Int → Int) (part : Int) : Prop := rxIPLAYX_10 S0 ws S part ∧ (((∀ j : Int, 0 ≤ j → j < 6180 → S 482 j = S0 482 j) ∧ S 494 7 = S0 494 7 ∧ S 494 8 = S0 494 8) ∧ (S 480 14 = 0 → rjMq S0 S))
def rxmPLAYK_10 (S0 : Nat → Int → Int) (ws : List Int) (S : Nat → Int → Int) (part : Int) : Nat := rxmPLAYX_10 S0 ws S part
def rxzPLAYK_10 : rx_Z := ([(0, 0), (0, 0), (0, 0), (0, 0), (0, 0), (0, 0), (0, 0), (0, 0), (0, 5)], [], [], 0, 0, 57, [(0, .inr (3, (0, 480))), (1, .inr (0, (8, 0)))], [.inr (3, (0, 480))])
def rxIPLAYK_11 (S0 : Nat → Int → Int) (ws : List Int) (S : Nat → Int → Int) (part : Int) : Prop := rxIPLAYX_11 S0 ws S part ∧ (((∀ j : Int, 0 ≤ j → j < 6180 → S 482 j = S0 482 j) ∧ S 494 7 = S0 494 7 ∧ S 494 8 = S0 494 8) ∧ (S 480 14 = 0 → rjMz S0 S))
def rxmPLAYK_11 (S0 : Nat → Int → Int) (ws : List Int) (S : Nat → Int → Int) (part : Int) : Nat := rxmPLAYX_11 S0 ws S part
def rxzPLAYK_11 : rx_Z := ([(0, 0), (0, 0), (0, 0), (0, 0), (0, 0), (0, 0), (0, 0), (0, 0), (0, 5)], [], [], 0, 0, 60, [(0, .inr (3, (0, 480))), (1, .inr (0, (8, 0)))], [])
def rxIPLAYK_12 (S0 : Nat → Int → Int) (ws : List Int) (S : Nat → Int → Int) (part n at_ : Int) : Prop := rxIPLAYX_12 S0 ws S part n at_ ∧ True
def rxmPLAYK_12 (S0 : Nat → Int → Int) (ws : List Int) (S : Nat → Int → Int) (part n at_ : Int) : Nat := rxmPLAYX_12 S0 ws S part n at_
def rxzPLAYK_12 : rx_Z := ([(0, 0), (0, 0), (0, 0), (0, 0), (0, 0), (0, 0), (0, 0), (0, 0), (0, 5), (0, 432), (0, 120)], [], [], 0, 0, 83, [(0, .inr (3, (0, 480))), (1, .inr (0, (8, 0))), (2, .inr (0, (9, 0))), (3, .inr (0, (10, 0)))], [])
def rxIPLAYK_13 (S0 : Nat → Int → Int) (ws : List Int) (S : Nat → Int → Int) (part n at_ c : Int) : Prop := rxIPLAYX_13 S0 ws S part n at_ c ∧ True
def rxmPLAYK_13 (S0 : Nat → Int → Int) (ws : List Int) (S : Nat → Int → Int) (part n at_ c : Int) : Nat := rxmPLAYX_13 S0 ws S part n at_ c
def rxzPLAYK_13 : rx_Z := ([(0, 0), (0, 0), (0, 0), (0, 0), (0, 0), (0, 0), (0, 0), (0, 0), (0, 5), (0, 432), (0, 110), (0, 36)], [], [], 0, 0, 97, [(0, .inr (3, (0, 480))), (1, .inr (0, (8, 0))), (2, .inr (0, (9, 0))), (3, .inr (0, (10, 0))), (4, .inr (0, (11, 0)))], [])
def rxIPLAYK_14 (S0 : Nat → Int → Int) (ws : List Int) (S : Nat → Int → Int) (part at_ c n a_ pt d6 m6 : Int) : Prop := rxIPLAYX_14 S0 ws S part at_ c n a_ pt d6 m6 ∧ True
def rxmPLAYK_14 (S0 : Nat → Int → Int) (ws : List Int) (S : Nat → Int → Int) (part at_ c n a_ pt d6 m6 : Int) : Nat := rxmPLAYX_14 S0 ws S part at_ c n a_ pt d6 m6
def rxzPLAYK_14 : rx_Z := ([(0, 0), (0, 0), (0, 0), (0, 0), (0, 0), (0, 0), (0, 0), (0, 0), (0, 5), (0, 110), (0, 35), (0, 431), (0, 110), (0, 5), (0, 5), (0, 5)], [], [], 0, 0, 182, [(0, .inr (3, (0, 480))), (1, .inr (0, (8, 0))), (3, .inr (0, (9, 0))), (4, .inr (0, (10, 0)))], [.inr (0, (15, 0)), .inr (0, (14, 0)), .inr (0, (13, 0)), .inr (0, (12, 0)), .inr (3, (0, 480)), .inr (0, (11, 0))])
def rxIPLAYK_15 (S0 : Nat → Int → Int) (ws : List Int) (S : Nat → Int → Int) (part at_ c n a_ pt d6 m6 so : Int) : Prop := rxIPLAYX_15 S0 ws S part at_ c n a_ pt d6 m6 so ∧ True
def rxmPLAYK_15 (S0 : Nat → Int → Int) (ws : List Int) (S : Nat → Int → Int) (part at_ c n a_ pt d6 m6 so : Int) : Nat := rxmPLAYX_15 S0 ws S part at_ c n a_ pt d6 m6 so
def rxzPLAYK_15 : rx_Z := ([(0, 0), (0, 0), (0, 0), (0, 0), (0, 0), (0, 0), (0, 0), (0, 0), (0, 5), (0, 110), (0, 35), (0, 431), (0, 110), (0, 5), (0, 5), (0, 5), (0, 1)], [], [], 0, 0, 185, [(0, .inr (3, (0, 480))), (1, .inr (0, (8, 0))), (3, .inr (0, (9, 0))), (4, .inr (0, (10, 0)))], [.inr (0, (16, 0)), .inr (0, (11, 0))])
def rxoPLAYK_0_0 : bx_HO := (([(0, 0), (0, 0), (0, 0), (0, 0), (0, 0), (0, 0), (0, 0), (0, 0), (0, 5), (1, 6)], [(1, (8, 0), (9, (-1)))], [(((0, 0), 1851192626986356797424340330377019318111018015026043177837658112000000), .inr (0, (9, 0))), (((0, 482), 0), .inr (0, (9, 0))), (((0, 480), 3), .inr (3, (0, 482))), (((0, 0), 1851192626986356797424340330377019318111018015026043177836478467000000), .inr (0, (0, 0))), (((0, 480), 0), .inr (0, (0, 0)))], 0, 0, 22, [(0, .inr (3, (0, 480))), (1, .inr (0, (8, 0)))], [.inr (0, (0, 1)), .inr (3, (0, 480))]), [], [], [(0, 0), (0, 0), (0, 0), (0, 0), (0, 0), (0, 0), (0, 0), (0, 0), (8, 0)], 1)
def rxePLAYK_0_0 : rx_End × List (Nat × Int × Int) := (([(0, 0), (0, 0), (0, 0), (0, 0), (0, 0), (0, 0), (0, 0), (0, 0), (0, 2147483647), (0, 6), ((-2147483648), 2147483647), ((-2147483648), 2147483647)], [(0, (9, (-1)), (8, 0))], [(((0, 0), 1851192626986356797825753743950570534658660943933713684944715779000000), .inr (0, (11, 0))), (((0, 481), 2), .inr (0, (11, 0))), (((0, 0), 1851192626986356797825753743950570534658660943933713684944715776000000), .inr (0, (10, 0))), (((0, 480), 2), .inr (3, (0, 481))), (((0, 0), 1851192626986356797625047037163794926384839479479878431390302211000000), .inr (0, (0, (-2)))), (((0, 480), 1), .inr (0, (0, (-2)))), (((0, 0), 1851192626986356797424340330377019318111018015026043177837658112000000), .inr (0, (9, 0))), (((0, 482), 0), .inr (0, (9, 0))), (((0, 480), 3), .inr (3, (0, 482))), (((0, 0), 1851192626986356797424340330377019318111018015026043177836478467000000), .inr (0, (0, 0))), (((0, 480), 0), .inr (0, (0, 0)))], some (.inr (0, (0, (-2))))), [])
def rxePLAYK_0_1 : rx_End × List (Nat × Int × Int) := (([(0, 0), (0, 0), (0, 0), (0, 0), (0, 0), (0, 0), (0, 0), (0, 0), ((-2147483648), (-1)), (0, 6), ((-2147483648), 2147483647), ((-2147483648), 2147483647)], [], [(((0, 0), 1851192626986356797825753743950570534658660943933713684944715779000000), .inr (0, (11, 0))), (((0, 481), 2), .inr (0, (11, 0))), (((0, 0), 1851192626986356797825753743950570534658660943933713684944715776000000), .inr (0, (10, 0))), (((0, 480), 2), .inr (3, (0, 481))), (((0, 0), 1851192626986356797625047037163794926384839479479878431390302211000000), .inr (0, (0, (-2)))), (((0, 480), 1), .inr (0, (0, (-2)))), (((0, 0), 1851192626986356797424340330377019318111018015026043177837658112000000), .inr (0, (9, 0))), (((0, 482), 0), .inr (0, (9, 0))), (((0, 480), 3), .inr (3, (0, 482))), (((0, 0), 1851192626986356797424340330377019318111018015026043177836478467000000), .inr (0, (0, 0))), (((0, 480), 0), .inr (0, (0, 0)))], some (.inr (0, (0, (-2))))), [])
def rxoPLAYK_2_0 : bx_HO := (([(0, 0), (0, 0), (0, 0), (0, 0), (0, 0), (0, 0), (0, 0), (0, 0), (0, 5)], [], [], 0, 0, 26, [(0, .inr (3, (0, 480))), (1, .inr (0, (8, 0)))], [.inr (3, (0, 480))]), [], [], [(0, 0), (0, 0), (0, 0), (0, 0), (0, 0), (0, 0), (0, 0), (0, 0), (8, 0)], 3)
def rxoPLAYK_4_0 : bx_HO := (([(0, 0), (0, 0), (0, 0), (0, 0), (0, 0), (0, 0), (0, 0), (0, 0), (0, 5), (0, 0), (0, 2)], [(3, (10, 0), (0, 3))], [(((0, 0), 1851192626986356799632114105031551009123054124018230966928539648000000), .inr (0, (10, 0))), (((0, 480), 11), .inr (0, (10, 0))), (((0, 0), 1851192626986356800234234225391877833944518517379736727590010880000000), .inr (0, (9, 0))), (((0, 480), 14), .inr (0, (9, 0)))], 0, 0, 57, [(0, .inr (3, (0, 480))), (1, .inr (0, (8, 0)))], [.inr (3, (0, 480))]), [], [], [(0, 0), (0, 0), (0, 0), (0, 0), (0, 0), (0, 0), (0, 0), (0, 0), (8, 0)], 10)
def rxoPLAYK_4_1 : bx_HO := (([(0, 0), (0, 0), (0, 0), (0, 0), (0, 0), (0, 0), (0, 0), (0, 0), (0, 5), (0, 0), (3, 3), ((-9223372036854775808), 9223372036854775807)], [(3, (11, 0), (0, 59))], [(((0, 0), 1851192626986356799832820811818326617396875588472066220482363392000000), .inr (1, (11, 0))), (((0, 480), 12), .inr (1, (11, 0))), (((0, 0), 1851192626986356799632114105031551009123054124018230966928539648000000), .inr (0, (10, 0))), (((0, 480), 11), .inr (0, (10, 0))), (((0, 0), 1851192626986356800234234225391877833944518517379736727590010880000000), .inr (0, (9, 0))), (((0, 480), 14), .inr (0, (9, 0)))], 0, 0, 57, [(0, .inr (3, (0, 480))), (1, .inr (0, (8, 0)))], [.inr (3, (0, 480))]), [], [], [(0, 0), (0, 0), (0, 0), (0, 0), (0, 0), (0, 0), (0, 0), (0, 0), (8, 0)], 10)
def rxoPLAYK_4_2 : bx_HO := (([(0, 0), (0, 0), (0, 0), (0, 0), (0, 0), (0, 0), (0, 0), (0, 0), (0, 5), (0, 0), (3, 3), (59, 59)], [], [(((0, 0), 1851192626986356799832820811818326617396875588472066220482363392000000), .inr (1, (11, 0))), (((0, 480), 12), .inr (1, (11, 0))), (((0, 0), 1851192626986356799632114105031551009123054124018230966928539648000000), .inr (0, (10, 0))), (((0, 480), 11), .inr (0, (10, 0))), (((0, 0), 1851192626986356800234234225391877833944518517379736727590010880000000), .inr (0, (9, 0))), (((0, 480), 14), .inr (0, (9, 0)))], 0, 0, 46, [(0, .inr (3, (0, 480))), (1, .inr (0, (8, 0)))], [.inr (3, (0, 480))]), [], [], [(0, 0), (0, 0), (0, 0), (0, 0), (0, 0), (0, 0), (0, 0), (0, 0), (8, 0)], 6)
def rxoPLAYK_4_3 : bx_HO := (([(0, 0), (0, 0), (0, 0), (0, 0), (0, 0), (0, 0), (0, 0), (0, 0), (0, 5), (1, 1)], [(3, (9, 0), (0, 0))], [(((0, 0), 1851192626986356800234234225391877833944518517379736727590010880000000), .inr (0, (9, 0))), (((0, 480), 14), .inr (0, (9, 0)))], 0, 0, 57, [(0, .inr (3, (0, 480))), (1, .inr (0, (8, 0)))], [.inr (3, (0, 480))]), [], [], [(0, 0), (0, 0), (0, 0), (0, 0), (0, 0), (0, 0), (0, 0), (0, 0), (8, 0)], 10)
def rxoPLAYK_5_0 : bx_HO := (([(0, 0), (0, 0), (0, 0), (0, 0), (0, 0), (0, 0), (0, 0), (0, 0), (0, 5), (0, 0), (0, 2)], [(3, (10, 0), (0, 3))], [(((0, 0), 1851192626986356799632114105031551009123054124018230966928539648000000), .inr (0, (10, 0))), (((0, 480), 11), .inr (0, (10, 0))), (((0, 0), 1851192626986356800234234225391877833944518517379736727590010880000000), .inr (0, (9, 0))), (((0, 480), 14), .inr (0, (9, 0)))], 0, 0, 57, [(0, .inr (3, (0, 480))), (1, .inr (0, (8, 0)))], [.inr (3, (0, 480))]), [], [], [(0, 0), (0, 0), (0, 0), (0, 0), (0, 0), (0, 0), (0, 0), (0, 0), (8, 0)], 10)
def rxoPLAYK_5_1 : bx_HO := (([(0, 0), (0, 0), (0, 0), (0, 0), (0, 0), (0, 0), (0, 0), (0, 0), (0, 5), (0, 0), (3, 3), ((-9223372036854775808), 9223372036854775807)], [(3, (11, 0), (0, 59))], [(((0, 0), 1851192626986356799832820811818326617396875588472066220482363392000000), .inr (1, (11, 0))), (((0, 480), 12), .inr (1, (11, 0))), (((0, 0), 1851192626986356799632114105031551009123054124018230966928539648000000), .inr (0, (10, 0))), (((0, 480), 11), .inr (0, (10, 0))), (((0, 0), 1851192626986356800234234225391877833944518517379736727590010880000000), .inr (0, (9, 0))), (((0, 480), 14), .inr (0, (9, 0)))], 0, 0, 57, [(0, .inr (3, (0, 480))), (1, .inr (0, (8, 0)))], [.inr (3, (0, 480))]), [], [], [(0, 0), (0, 0), (0, 0), (0, 0), (0, 0), (0, 0), (0, 0), (0, 0), (8, 0)], 10)
def rxoPLAYK_5_2 : bx_HO := (([(0, 0), (0, 0), (0, 0), (0, 0), (0, 0), (0, 0), (0, 0), (0, 0), (0, 5), (0, 0), (3, 3), (59, 59)], [], [(((0, 0), 1851192626986356799832820811818326617396875588472066220482363392000000), .inr (1, (11, 0))), (((0, 480), 12), .inr (1, (11, 0))), (((0, 0), 1851192626986356799632114105031551009123054124018230966928539648000000), .inr (0, (10, 0))), (((0, 480), 11), .inr (0, (10, 0))), (((0, 0), 1851192626986356800234234225391877833944518517379736727590010880000000), .inr (0, (9, 0))), (((0, 480), 14), .inr (0, (9, 0)))], 0, 0, 46, [(0, .inr (3, (0, 480))), (1, .inr (0, (8, 0)))], [.inr (3, (0, 480))]), [], [], [(0, 0), (0, 0), (0, 0), (0, 0), (0, 0), (0, 0), (0, 0), (0, 0), (8, 0)], 6)
def rxoPLAYK_5_3 : bx_HO := (([(0, 0), (0, 0), (0, 0), (0, 0), (0, 0), (0, 0), (0, 0), (0, 0), (0, 5), (1, 1)], [(3, (9, 0), (0, 0))], [(((0, 0), 1851192626986356800234234225391877833944518517379736727590010880000000), .inr (0, (9, 0))), (((0, 480), 14), .inr (0, (9, 0)))], 0, 0, 57, [(0, .inr (3, (0, 480))), (1, .inr (0, (8, 0)))], [.inr (3, (0, 480))]), [], [], [(0, 0), (0, 0), (0, 0), (0, 0), (0, 0), (0, 0), (0, 0), (0, 0), (8, 0)], 10)
def rxoPLAYK_7_0 : bx_HO := (([(0, 0), (0, 0), (0, 0), (0, 0), (0, 0), (0, 0), (0, 0), (0, 0), (0, 5)], [], [], 0, 0, 50, [(0, .inr (3, (0, 480))), (1, .inr (0, (8, 0)))], [.inr (3, (0, 480))]), [], [], [(0, 0), (0, 0), (0, 0), (0, 0), (0, 0), (0, 0), (0, 0), (0, 0), (8, 0)], 8)
def rxoPLAYK_9_0 : bx_HO := (([(0, 0), (0, 0), (0, 0), (0, 0), (0, 0), (0, 0), (0, 0), (0, 0), (0, 5)], [], [], 0, 0, 29, [(0, .inr (3, (0, 480))), (1, .inr (0, (8, 0)))], []), [], [], [(0, 0), (0, 0), (0, 0), (0, 0), (0, 0), (0, 0), (0, 0), (0, 0), (8, 0)], 5)
def rxoPLAYK_11_0 : bx_HO := (([(0, 0), (0, 0), (0, 0), (0, 0), (0, 0), (0, 0), (0, 0), (0, 0), (0, 5), (0, 0)], [], [(((0, 0), 1851192626986356800434940932178653442218339981833571981143834627000000), .inr (0, (0, 1))), (((0, 480), 15), .inr (0, (0, 1))), (((0, 0), 1851192626986356800234234225391877833944518517379736727590010880000000), .inr (0, (9, 0))), (((0, 480), 14), .inr (0, (9, 0)))], 0, 0, 83, [(3, .inr (0, (0, 0))), (2, .inr (0, (0, 0))), (0, .inr (3, (0, 480))), (1, .inr (0, (8, 0)))], []), [], [], [(0, 0), (0, 0), (0, 0), (0, 0), (0, 0), (0, 0), (0, 0), (0, 0), (8, 0), (0, 0), (0, 0)], 12)
def rxePLAYK_11_0 : rx_End × List (Nat × Int × Int) := (([(0, 0), (0, 0), (0, 0), (0, 0), (0, 0), (0, 0), (0, 0), (0, 0), (0, 5), (1, 1), ((-2147483648), 2147483647), ((-2147483648), 2147483647)], [(3, (9, 0), (0, 0))], [(((0, 0), 1851192626986356798628580571097672967753946801749054699160010755000000), .inr (0, (11, 0))), (((0, 481), 6), .inr (0, (11, 0))), (((0, 0), 1851192626986356798628580571097672967753946801749054699160010752000000), .inr (0, (10, 0))), (((0, 480), 2), .inr (3, (0, 481))), (((0, 0), 1851192626986356797625047037163794926384839479479878431390302211000000), .inr (0, (0, (-6)))), (((0, 480), 1), .inr (0, (0, (-6)))), (((0, 0), 1851192626986356800234234225391877833944518517379736727590010880000000), .inr (0, (9, 0))), (((0, 480), 14), .inr (0, (9, 0)))], some (.inr (0, (0, (-6))))), [])
def rxoPLAYK_12_0 : bx_HO := (([(0, 0), (0, 0), (0, 0), (0, 0), (0, 0), (0, 0), (0, 0), (0, 0), (0, 5), (0, 432), (0, 119), (0, 12), (1, 120)], [(0, (10, 0), (12, 0)), (14, (12, 0), (11, 0))], [(((0, 0), 1851192626986356800635647638965429050492161446287407234697658368000000), .inr (0, (11, 0))), (((0, 480), 16), .inr (0, (11, 0)))], 0, 0, 97, [(4, .inr (0, (0, 0))), (0, .inr (3, (0, 480))), (1, .inr (0, (8, 0))), (2, .inr (0, (9, 0))), (3, .inr (0, (10, 0)))], []), [(10, 0, 110)], [], [(0, 0), (0, 0), (0, 0), (0, 0), (0, 0), (0, 0), (0, 0), (0, 0), (8, 0), (9, 0), (10, 0), (0, 0)], 13)
def rxePLAYK_12_0 : rx_End × List (Nat × Int × Int) := (([(0, 0), (0, 0), (0, 0), (0, 0), (0, 0), (0, 0), (0, 0), (0, 0), (0, 5), (0, 432), (0, 120), (0, 12), (0, 120)], [(1, (12, 0), (10, 0)), (14, (12, 0), (11, 0))], [(((0, 0), 1851192626986356797625047037163794926384839479479878431390302211000000), .inr (0, (0, 0))), (((0, 480), 1), .inr (0, (0, 0))), (((0, 0), 1851192626986356800434940932178653442218339981833571981143834627000000), .inr (0, (0, 0))), (((0, 480), 15), .inr (0, (0, 0))), (((0, 0), 1851192626986356800635647638965429050492161446287407234697658368000000), .inr (0, (11, 0))), (((0, 480), 16), .inr (0, (11, 0)))], some (.inr (0, (9, 0)))), [])
def rxoPLAYK_13_0 : bx_HO := (([(0, 0), (0, 0), (0, 0), (0, 0), (0, 0), (0, 0), (0, 0), (0, 0), (0, 5), (0, 432), (0, 110), (0, 35), ((-2147483648), 2147483647), (0, 5), (0, 5), ((-2147483648), 2147483647), (0, 5), (0, 5), (0, 5), (0, 5)], [(2, (16, 0), (17, 0)), (3, (15, 0), (0, (-1))), (2, (13, 0), (14, 0)), (3, (12, 0), (0, (-1)))], [(((0, 0), 1851192626986356797625077662576817810846551183194547290538770432000000), .inr (0, (16, 0))), (((0, 0), 1851192626986356797625077662576817810846551183194547290538770432000000), .inr (0, (15, 0))), (((0, 0), 1851192626986356797424370955790042202572729718740712036984946688000000), .inr (0, (13, 0))), (((0, 0), 1851192626986356797424370955790042202572729718740712036984946688000000), .inr (0, (12, 0))), (((0, 480), 35), .inr (3, (0, 496)))], 0, 0, 182, [(5, .inr (0, (0, 1))), (0, .inr (3, (0, 480))), (1, .inr (0, (8, 0))), (2, .inr (0, (9, 0))), (3, .inr (0, (10, 0))), (4, .inr (0, (11, 0)))], [.inr (0, (19, 0)), .inr (0, (18, 0)), .inr (0, (8, 0)), .inr (0, (10, 0)), .inr (3, (0, 480)), .inr (0, (9, 0))]), [(9, 0, 431)], [], [(0, 0), (0, 0), (0, 0), (0, 0), (0, 0), (0, 0), (0, 0), (0, 0), (8, 0), (10, 0), (11, 0), (9, 0), (10, 0), (8, 0), (18, 0), (19, 0)], 14)
def rxoPLAYK_13_1 : bx_HO := (([(0, 0), (0, 0), (0, 0), (0, 0), (0, 0), (0, 0), (0, 0), (0, 0), (0, 5), (0, 432), (0, 110), (0, 35), ((-2147483648), 2147483647), (0, 5), (0, 5), ((-2147483648), 2147483647), ((-2147483648), 2147483647), (0, 5)], [(3, (16, 0), (17, 0)), (3, (15, 0), (0, (-1))), (2, (13, 0), (14, 0)), (3, (12, 0), (0, (-1)))], [(((0, 0), 1851192626986356797625077662576817810846551183194547290538770432000000), .inr (0, (16, 0))), (((0, 0), 1851192626986356797625077662576817810846551183194547290538770432000000), .inr (0, (15, 0))), (((0, 0), 1851192626986356797424370955790042202572729718740712036984946688000000), .inr (0, (13, 0))), (((0, 0), 1851192626986356797424370955790042202572729718740712036984946688000000), .inr (0, (12, 0))), (((0, 480), 35), .inr (3, (0, 496)))], 0, 0, 97, [(4, .inr (0, (11, 1))), (2, .inr (0, (9, 0))), (5, .inr (0, (0, 0))), (0, .inr (3, (0, 480))), (1, .inr (0, (8, 0))), (3, .inr (0, (10, 0)))], []), [], [], [(0, 0), (0, 0), (0, 0), (0, 0), (0, 0), (0, 0), (0, 0), (0, 0), (8, 0), (9, 0), (10, 0), (11, 1)], 13)
def rxoPLAYK_13_2 : bx_HO := (([(0, 0), (0, 0), (0, 0), (0, 0), (0, 0), (0, 0), (0, 0), (0, 0), (0, 5), (0, 432), (0, 110), (0, 35), ((-2147483648), 2147483647), (0, 5), (0, 5), ((-1), (-1)), (0, 5), (0, 5)], [(2, (13, 0), (14, 0)), (3, (12, 0), (0, (-1)))], [(((0, 0), 1851192626986356797625077662576817810846551183194547290538770432000000), .inr (0, (15, 0))), (((0, 0), 1851192626986356797424370955790042202572729718740712036984946688000000), .inr (0, (13, 0))), (((0, 0), 1851192626986356797424370955790042202572729718740712036984946688000000), .inr (0, (12, 0))), (((0, 480), 35), .inr (3, (0, 496)))], 0, 0, 182, [(5, .inr (0, (0, 1))), (0, .inr (3, (0, 480))), (1, .inr (0, (8, 0))), (2, .inr (0, (9, 0))), (3, .inr (0, (10, 0))), (4, .inr (0, (11, 0)))], [.inr (0, (17, 0)), .inr (0, (16, 0)), .inr (0, (8, 0)), .inr (0, (10, 0)), .inr (3, (0, 480)), .inr (0, (9, 0))]), [(9, 0, 431)], [], [(0, 0), (0, 0), (0, 0), (0, 0), (0, 0), (0, 0), (0, 0), (0, 0), (8, 0), (10, 0), (11, 0), (9, 0), (10, 0), (8, 0), (16, 0), (17, 0)], 14)
def rxoPLAYK_13_3 : bx_HO := (([(0, 0), (0, 0), (0, 0), (0, 0), (0, 0), (0, 0), (0, 0), (0, 0), (0, 5), (0, 432), (0, 110), (0, 35), ((-2147483648), 2147483647), ((-2147483648), 2147483647), (0, 5)], [(3, (13, 0), (14, 0)), (3, (12, 0), (0, (-1)))], [(((0, 0), 1851192626986356797424370955790042202572729718740712036984946688000000), .inr (0, (13, 0))), (((0, 0), 1851192626986356797424370955790042202572729718740712036984946688000000), .inr (0, (12, 0))), (((0, 480), 35), .inr (3, (0, 496)))], 0, 0, 97, [(4, .inr (0, (11, 1))), (2, .inr (0, (9, 0))), (5, .inr (0, (0, 0))), (0, .inr (3, (0, 480))), (1, .inr (0, (8, 0))), (3, .inr (0, (10, 0)))], []), [], [], [(0, 0), (0, 0), (0, 0), (0, 0), (0, 0), (0, 0), (0, 0), (0, 0), (8, 0), (9, 0), (10, 0), (11, 1)], 13)
def rxoPLAYK_13_4 : bx_HO := (([(0, 0), (0, 0), (0, 0), (0, 0), (0, 0), (0, 0), (0, 0), (0, 0), (0, 5), (0, 432), (0, 110), (0, 35), ((-1), (-1)), ((-2147483648), 2147483647), (0, 5), (0, 5), (0, 5), (0, 5)], [(2, (14, 0), (15, 0)), (3, (13, 0), (0, (-1)))], [(((0, 0), 1851192626986356797625077662576817810846551183194547290538770432000000), .inr (0, (14, 0))), (((0, 0), 1851192626986356797625077662576817810846551183194547290538770432000000), .inr (0, (13, 0))), (((0, 0), 1851192626986356797424370955790042202572729718740712036984946688000000), .inr (0, (12, 0))), (((0, 480), 35), .inr (3, (0, 496)))], 0, 0, 182, [(5, .inr (0, (0, 1))), (0, .inr (3, (0, 480))), (1, .inr (0, (8, 0))), (2, .inr (0, (9, 0))), (3, .inr (0, (10, 0))), (4, .inr (0, (11, 0)))], [.inr (0, (17, 0)), .inr (0, (16, 0)), .inr (0, (8, 0)), .inr (0, (10, 0)), .inr (3, (0, 480)), .inr (0, (9, 0))]), [(9, 0, 431)], [], [(0, 0), (0, 0), (0, 0), (0, 0), (0, 0), (0, 0), (0, 0), (0, 0), (8, 0), (10, 0), (11, 0), (9, 0), (10, 0), (8, 0), (16, 0), (17, 0)], 14)
def rxoPLAYK_13_5 : bx_HO := (([(0, 0), (0, 0), (0, 0), (0, 0), (0, 0), (0, 0), (0, 0), (0, 0), (0, 5), (0, 432), (0, 110), (0, 35), ((-1), (-1)), ((-2147483648), 2147483647), ((-2147483648), 2147483647), (0, 5)], [(3, (14, 0), (15, 0)), (3, (13, 0), (0, (-1)))], [(((0, 0), 1851192626986356797625077662576817810846551183194547290538770432000000), .inr (0, (14, 0))), (((0, 0), 1851192626986356797625077662576817810846551183194547290538770432000000), .inr (0, (13, 0))), (((0, 0), 1851192626986356797424370955790042202572729718740712036984946688000000), .inr (0, (12, 0))), (((0, 480), 35), .inr (3, (0, 496)))], 0, 0, 97, [(4, .inr (0, (11, 1))), (2, .inr (0, (9, 0))), (5, .inr (0, (0, 0))), (0, .inr (3, (0, 480))), (1, .inr (0, (8, 0))), (3, .inr (0, (10, 0)))], []), [], [], [(0, 0), (0, 0), (0, 0), (0, 0), (0, 0), (0, 0), (0, 0), (0, 0), (8, 0), (9, 0), (10, 0), (11, 1)], 13)
def rxoPLAYK_13_6 : bx_HO := (([(0, 0), (0, 0), (0, 0), (0, 0), (0, 0), (0, 0), (0, 0), (0, 0), (0, 5), (0, 432), (0, 110), (0, 35), ((-1), (-1)), ((-1), (-1)), (0, 5), (0, 5)], [], [(((0, 0), 1851192626986356797625077662576817810846551183194547290538770432000000), .inr (0, (13, 0))), (((0, 0), 1851192626986356797424370955790042202572729718740712036984946688000000), .inr (0, (12, 0))), (((0, 480), 35), .inr (3, (0, 496)))], 0, 0, 182, [(5, .inr (0, (0, 1))), (0, .inr (3, (0, 480))), (1, .inr (0, (8, 0))), (2, .inr (0, (9, 0))), (3, .inr (0, (10, 0))), (4, .inr (0, (11, 0)))], [.inr (0, (15, 0)), .inr (0, (14, 0)), .inr (0, (8, 0)), .inr (0, (10, 0)), .inr (3, (0, 480)), .inr (0, (9, 0))]), [(9, 0, 431)], [], [(0, 0), (0, 0), (0, 0), (0, 0), (0, 0), (0, 0), (0, 0), (0, 0), (8, 0), (10, 0), (11, 0), (9, 0), (10, 0), (8, 0), (14, 0), (15, 0)], 14)
def rxoPLAYK_13_7 : bx_HO := (([(0, 0), (0, 0), (0, 0), (0, 0), (0, 0), (0, 0), (0, 0), (0, 0), (0, 5), (0, 432), (0, 110), (36, 36)], [], [], 0, 0, 83, [(3, .inr (0, (10, 10))), (0, .inr (3, (0, 480))), (1, .inr (0, (8, 0))), (2, .inr (0, (9, 0))), (4, .inr (0, (11, 0)))], []), [], [], [(0, 0), (0, 0), (0, 0), (0, 0), (0, 0), (0, 0), (0, 0), (0, 0), (8, 0), (9, 0), (10, 10)], 12)
def rxoPLAYK_15_0 : bx_HO := (([(0, 0), (0, 0), (0, 0), (0, 0), (0, 0), (0, 0), (0, 0), (0, 0), (0, 5), (0, 110), (0, 35), (0, 431), (0, 110), (0, 5), (0, 5), (0, 5), (1, 1)], [(3, (16, 0), (0, 0))], [], 0, 0, 97, [(4, .inr (0, (10, 1))), (2, .inr (0, (11, 1))), (0, .inr (3, (0, 480))), (1, .inr (0, (8, 0))), (3, .inr (0, (9, 0)))], []), [], [], [(0, 0), (0, 0), (0, 0), (0, 0), (0, 0), (0, 0), (0, 0), (0, 0), (8, 0), (11, 1), (9, 0), (10, 1)], 13)
def rxoPLAYK_15_1 : bx_HO := (([(0, 0), (0, 0), (0, 0), (0, 0), (0, 0), (0, 0), (0, 0), (0, 0), (0, 5), (0, 110), (0, 35), (0, 431), (0, 110), (0, 5), (0, 5), (0, 5), (0, 0)], [], [], 0, 0, 97, [(4, .inr (0, (10, 1))), (2, .inr (0, (11, 0))), (0, .inr (3, (0, 480))), (1, .inr (0, (8, 0))), (3, .inr (0, (9, 0)))], []), [], [], [(0, 0), (0, 0), (0, 0), (0, 0), (0, 0), (0, 0), (0, 0), (0, 0), (8, 0), (11, 0), (9, 0), (10, 1)], 13)
def rxYPLAYK : List bx_HE := [(rxzPLAYK_0, [rxoPLAYK_0_0], [rxePLAYK_0_0, rxePLAYK_0_1]), (rxzPLAYK_1, [], []), (rxzPLAYK_2, [rxoPLAYK_2_0], []), (rxzPLAYK_3, [], []), (rxzPLAYK_4, [rxoPLAYK_4_0, rxoPLAYK_4_1, rxoPLAYK_4_2, rxoPLAYK_4_3], []), (rxzPLAYK_5, [rxoPLAYK_5_0, rxoPLAYK_5_1, rxoPLAYK_5_2, rxoPLAYK_5_3], []), (rxzPLAYK_6, [], []), (rxzPLAYK_7, [rxoPLAYK_7_0], []), (rxzPLAYK_8, [], []), (rxzPLAYK_9, [rxoPLAYK_9_0], []), (rxzPLAYK_10, [], []), (rxzPLAYK_11, [rxoPLAYK_11_0], [rxePLAYK_11_0]), (rxzPLAYK_12, [rxoPLAYK_12_0], [rxePLAYK_12_0]), (rxzPLAYK_13, [rxoPLAYK_13_0, rxoPLAYK_13_1, rxoPLAYK_13_2, rxoPLAYK_13_3, rxoPLAYK_13_4, rxoPLAYK_13_5, rxoPLAYK_13_6, rxoPLAYK_13_7], []), (rxzPLAYK_14, [], []), (rxzPLAYK_15, [rxoPLAYK_15_0, rxoPLAYK_15_1], [])]
def rxUPLAYK (q : bx_HE) : Bool := Nat.beq (rx_zpc q.1) 22 || Nat.beq (rx_zpc q.1) 26 || Nat.beq (rx_zpc q.1) 46 || Nat.beq (rx_zpc q.1) 50 || Nat.beq (rx_zpc q.1) 57 || Nat.beq (rx_zpc q.1) 182
def rxYBPLAYK : bx_B := (rxV, rxNP, rxDmf, bx_mdH rxC240.2.2.1)
set_option maxRecDepth 100000 in
theorem rxYcPLAYK : bx_chkH rxYBPLAYK rxM240 rxC240 rxYPLAYK (rxUPLAYK, fun cut z => rx_ex2 (rxCT rxYBPLAYK rxCnE) cut 30000 rxC240.2.2.2.1 240 z) = true := by decide +kernel
def rxIPLAYK (S0 : Nat → Int → Int) (ws : List Int) (i : Nat) : bx_SP := fun S r => match i with | 0 => rxIPLAYK_0 S0 ws S (r 8) | 1 => rxIPLAYK_1 S0 ws S (r 8) | 2 => rxIPLAYK_2 S0 ws S (r 8) | 3 => rxIPLAYK_3 S0 ws S (r 8) | 4 => rxIPLAYK_4 S0 ws S (r 8) | 5 => rxIPLAYK_5 S0 ws S (r 8) | 6 => rxIPLAYK_6 S0 ws S (r 8) | 7 => rxIPLAYK_7 S0 ws S (r 8) | 8 => rxIPLAYK_8 S0 ws S (r 8) | 9 => rxIPLAYK_9 S0 ws S (r 8) | 10 => rxIPLAYK_10 S0 ws S (r 8) | 11 => rxIPLAYK_11 S0 ws S (r 8) | 12 => rxIPLAYK_12 S0 ws S (r 8) (r 9) (r 10) | 13 => rxIPLAYK_13 S0 ws S (r 8) (r 9) (r 10) (r 11) | 14 => rxIPLAYK_14 S0 ws S (r 8) (r 9) (r 10) (r 11) (r 12) (r 13) (r 14) (r 15) | 15 => rxIPLAYK_15 S0 ws S (r 8) (r 9) (r 10) (r 11) (r 12) (r 13) (r 14) (r 15) (r 16) | _ => False
def rxmPLAYK (S0 : Nat → Int → Int) (ws : List Int) (i : Nat) (S : Nat → Int → Int) (r : Nat → Int) : Nat := match i with | 0 => rxmPLAYK_0 S0 ws S (r 8) | 1 => rxmPLAYK_1 S0 ws S (r 8) | 2 => rxmPLAYK_2 S0 ws S (r 8) | 3 => rxmPLAYK_3 S0 ws S (r 8) | 4 => rxmPLAYK_4 S0 ws S (r 8) | 5 => rxmPLAYK_5 S0 ws S (r 8) | 6 => rxmPLAYK_6 S0 ws S (r 8) | 7 => rxmPLAYK_7 S0 ws S (r 8) | 8 => rxmPLAYK_8 S0 ws S (r 8) | 9 => rxmPLAYK_9 S0 ws S (r 8) | 10 => rxmPLAYK_10 S0 ws S (r 8) | 11 => rxmPLAYK_11 S0 ws S (r 8) | 12 => rxmPLAYK_12 S0 ws S (r 8) (r 9) (r 10) | 13 => rxmPLAYK_13 S0 ws S (r 8) (r 9) (r 10) (r 11) | 14 => rxmPLAYK_14 S0 ws S (r 8) (r 9) (r 10) (r 11) (r 12) (r 13) (r 14) (r 15) | 15 => rxmPLAYK_15 S0 ws S (r 8) (r 9) (r 10) (r 11) (r 12) (r 13) (r 14) (r 15) (r 16) | _ => 0
def rxPPLAYK (S0 : Nat → Int → Int) (ws : List Int) : Prop := rxPPLAYX S0 ws ∧ (rzCk S0 ∧ S0 494 7 = 0 ∧ S0 494 8 = 0)
def rxPSPLAYK (S0 : Nat → Int → Int) (ws : List Int) (S : Nat → Int → Int) (w : Option Int) : Prop := rxPSPLAYX S0 ws S w ∧ (True)
theorem rxkPLAYK_1 {S0 : Nat → Int → Int} {ws : List Int} {S : Nat → Int → Int} {part : Int} (hP : rxPPLAYK S0 ws) (hin : bx_same rxL (bx_mdl rxC240.2.2.1) S0 S) (I0 : bx_Inv rxL S) (hinv : rxIPLAYK_1 S0 ws S part) (l8 : 0 ≤ part) (u8 : part ≤ 5) : rxPBXW S [480, 1] ∧ ∀ (S_p : Nat → Int → Int), rxPSBXW S [480, 1] S_p none → bx_Inv rxL S_p → bx_same rxL (bx_mdl rxCBXW.2.2.1) S S_p → rxIPLAYK_2 S0 ws S_p part ∧ rxmPLAYK_2 S0 ws S_p part < rxmPLAYK_1 S0 ws S part := by
  obtain ⟨hI, hx⟩ := hinv
  have g_ := rxkPLAYX_1 hP.1 hin I0 hI l8 u8
  exact ⟨g_.1, fun S_p hq I1 hsm => ⟨⟨(g_.2 S_p hq I1 hsm).1, (by
    have k0 := hx
    refine ⟨⟨fun j a b => (rx_sameR hsm (p := 482) (tc := 0) (n := 6180) (g := 63) rfl (by omega) (by decide +kernel) (by decide +kernel) a b).trans (k0.1 j a b), (hsm 494 7 (by decide) (by decide) (by decide +kernel)).trans k0.2.1, (hsm 494 8 (by decide) (by decide) (by decide +kernel)).trans k0.2.2⟩, fun z => ?_⟩
    obtain ⟨g1, g13, gd, ge, g21⟩ := hq.2.2
    have b := hI.2.2
    rw [b.1, b.2.1] at ge
    obtain ⟨-, -, o14, o16, -⟩ := hq.2.1
    exact rjMp_0 o16 ge g21)⟩, (g_.2 S_p hq I1 hsm).2⟩⟩
theorem rxsPLAYK_1 {X : (Nat → Int → Int) → Prop} {S0 : Nat → Int → Int} {ws : List Int} (hP : rxPPLAYK S0 ws) : rx_obK X S0 rxC240.2.2.1 rxCBXW.2.2.1 (rxIPLAYK S0 ws) (rxmPLAYK S0 ws) 1 2 rxzPLAYK_1 rxzPLAYK_2 [.inr (3, (0, 480)), .inr (0, (0, 1))] none rxPBXW rxPSBXW := by
  intro S r hinv hXS I0 hin hs_ hf_
  have b_ := bx_bds_sat hs_
  have f_ := bx_fcl_ok hs_.1 hf_
  obtain ⟨⟨l8, u8⟩, -⟩ := b_
  have g := rxkPLAYK_1 hP hin I0 hinv l8 u8
  have ea : List.map (bx_num r) [.inr (3, (0, 480)), .inr (0, (0, 1))] = [480, 1] := by
    simp only [List.map_cons, List.map_nil, bx_xv_ok hs_.1]
    rfl
  rw [ea]
  refine ⟨g.1, fun S_p w r_p hPS hX_p I1 hsm hr hw hs_p => ?_⟩
  have hw : w = none := hPS.1
  subst hw
  have g2 := g.2 S_p hPS I1 hsm
  show rxIPLAYK_2 S0 ws S_p (r_p 8) ∧ rxmPLAYK_2 S0 ws S_p (r_p 8) < _
  rw [hr 8 (by decide)]
  exact g2
theorem rxkPLAYK_3 {S0 : Nat → Int → Int} {ws : List Int} {S : Nat → Int → Int} {part : Int} (hP : rxPPLAYK S0 ws) (hin : bx_same rxL (bx_mdl rxC240.2.2.1) S0 S) (I0 : bx_Inv rxL S) (hinv : rxIPLAYK_3 S0 ws S part) (l8 : 0 ≤ part) (u8 : part ≤ 5) : rxPRYK S [480] ∧ ∀ (S_p : Nat → Int → Int), rxPSRYK S [480] S_p none → bx_Inv rxL S_p → bx_same rxL (bx_mdl rxCRYK.2.2.1) S S_p → rxIPLAYK_4 S0 ws S_p part ∧ rxmPLAYK_4 S0 ws S_p part < rxmPLAYK_3 S0 ws S part := by
  obtain ⟨hI, hx⟩ := hinv
  have g_ := rxkPLAYX_3 hP.1 hin I0 hI l8 u8
  exact ⟨g_.1, fun S_p hq I1 hsm => ⟨⟨(g_.2 S_p hq.2.1 I1 hsm).1, (by
    have c := hP.2.1
    obtain ⟨k0, hx⟩ := hx
    refine ⟨⟨fun j a b => (rx_sameR hsm (p := 482) (tc := 0) (n := 6180) (g := 63) rfl (by omega) (by decide +kernel) (by decide +kernel) a b).trans (k0.1 j a b), (hsm 494 7 (by decide) (by decide) (by decide +kernel)).trans k0.2.1, (hsm 494 8 (by decide) (by decide) (by decide +kernel)).trans k0.2.2⟩, fun z => ?_⟩
    have z0 : S 480 14 = 0 := hI.1.2.1
    have h := hI.2.2 c
    obtain ⟨q1, q2, q3, q4, q5, q6⟩ := rzRj_q h z0
    have x := hq.2.1.2.2 q1 q2 (by unfold rzWr; rw [q3]; exact if_pos rfl)
    exact rjMq_of (hx z0) (fun k k0 k1 => absurd k1 (by have := hI.1.2.2.1; omega)) q4 q5 (rxBox16 I0).1 (hq.2.2 q1 q2 (by unfold rzWr; rw [q3]; exact if_pos rfl) z) x z (hq.2.1.2.1.2.2 z) fun r p pr => by
      rcases p with p | p
      · exact ⟨of_decide_eq_true p.1, p.2⟩
      · rw [p.2] at pr
        cases pr)⟩, (g_.2 S_p hq.2.1 I1 hsm).2⟩⟩
theorem rxsPLAYK_3 {X : (Nat → Int → Int) → Prop} {S0 : Nat → Int → Int} {ws : List Int} (hP : rxPPLAYK S0 ws) : rx_obK X S0 rxC240.2.2.1 rxCRYK.2.2.1 (rxIPLAYK S0 ws) (rxmPLAYK S0 ws) 3 4 rxzPLAYK_3 rxzPLAYK_4 [.inr (3, (0, 480))] none rxPRYK rxPSRYK := by
  intro S r hinv hXS I0 hin hs_ hf_
  have b_ := bx_bds_sat hs_
  have f_ := bx_fcl_ok hs_.1 hf_
  obtain ⟨⟨l8, u8⟩, -⟩ := b_
  have g := rxkPLAYK_3 hP hin I0 hinv l8 u8
  have ea : List.map (bx_num r) [.inr (3, (0, 480))] = [480] := by
    simp only [List.map_cons, List.map_nil, bx_xv_ok hs_.1]
    rfl
  rw [ea]
  refine ⟨g.1, fun S_p w r_p hPS hX_p I1 hsm hr hw hs_p => ?_⟩
  have hw : w = none := hPS.1
  subst hw
  have g2 := g.2 S_p hPS I1 hsm
  show rxIPLAYK_4 S0 ws S_p (r_p 8) ∧ rxmPLAYK_4 S0 ws S_p (r_p 8) < _
  rw [hr 8 (by decide)]
  exact g2
theorem rxkPLAYK_6 {S0 : Nat → Int → Int} {ws : List Int} {S : Nat → Int → Int} {part : Int} (hP : rxPPLAYK S0 ws) (hin : bx_same rxL (bx_mdl rxC240.2.2.1) S0 S) (I0 : bx_Inv rxL S) (hinv : rxIPLAYK_6 S0 ws S part) (l8 : 0 ≤ part) (u8 : part ≤ 5) : rxPNXX S [480] ∧ ∀ (S_p : Nat → Int → Int), rxPSNXX S [480] S_p none → bx_Inv rxL S_p → bx_same rxL (bx_mdl rxCNXX.2.2.1) S S_p → rxIPLAYK_7 S0 ws S_p part ∧ rxmPLAYK_7 S0 ws S_p part < rxmPLAYK_6 S0 ws S part := by
  obtain ⟨hI, hx⟩ := hinv
  have g_ := rxkPLAYX_6 hP.1 hin I0 hI l8 u8
  exact ⟨g_.1, fun S_p hq I1 hsm => ⟨⟨(g_.2 S_p hq I1 hsm).1, (by
    have c := hP.2.1
    obtain ⟨k0, hx⟩ := hx
    refine ⟨⟨fun j a b => (rx_sameR hsm (p := 482) (tc := 0) (n := 6180) (g := 63) rfl (by omega) (by decide +kernel) (by decide +kernel) a b).trans (k0.1 j a b), (hsm 494 7 (by decide) (by decide) (by decide +kernel)).trans k0.2.1, (hsm 494 8 (by decide) (by decide) (by decide +kernel)).trans k0.2.2⟩, fun z => ?_⟩
    have z0 : S 480 14 = 0 := hI.1.2
    have h := hI.2.2.1 c
    obtain ⟨q1, q2, q3, q4, q5, q6⟩ := rzRj_q h z0
    have hs := hI.2.2.2 z0 q2
    rw [q4, q5] at hs
    have n9 := (rzNw_nx q2 (rzKr_of hsm (by decide +kernel)) hq.2.2.1 hq.2.2.2).2.2
    rw [q4, q5] at n9
    exact rjMp_of (hx z0) hs n9 (hsm 480 21 (by decide) (by decide) (by decide +kernel)) (hsm 480 16 (by decide) (by decide) (by decide +kernel)) (rjPm_sm hsm (by decide +kernel) (fun j x y => (rx_sameR hsm (p := 496) (tc := 0) (n := 120) (g := 77) (j := j) rfl (by omega) (by decide +kernel) (by decide +kernel) x y)) (hI.1.1.2 z0).2 (rxBox16 I0).2 (rxBox18 I0).2))⟩, (g_.2 S_p hq I1 hsm).2⟩⟩
theorem rxsPLAYK_6 {X : (Nat → Int → Int) → Prop} {S0 : Nat → Int → Int} {ws : List Int} (hP : rxPPLAYK S0 ws) : rx_obK X S0 rxC240.2.2.1 rxCNXX.2.2.1 (rxIPLAYK S0 ws) (rxmPLAYK S0 ws) 6 7 rxzPLAYK_6 rxzPLAYK_7 [.inr (3, (0, 480))] none rxPNXX rxPSNXX := by
  intro S r hinv hXS I0 hin hs_ hf_
  have b_ := bx_bds_sat hs_
  have f_ := bx_fcl_ok hs_.1 hf_
  obtain ⟨⟨l8, u8⟩, -⟩ := b_
  have g := rxkPLAYK_6 hP hin I0 hinv l8 u8
  have ea : List.map (bx_num r) [.inr (3, (0, 480))] = [480] := by
    simp only [List.map_cons, List.map_nil, bx_xv_ok hs_.1]
    rfl
  rw [ea]
  refine ⟨g.1, fun S_p w r_p hPS hX_p I1 hsm hr hw hs_p => ?_⟩
  have hw : w = none := hPS.1
  subst hw
  have g2 := g.2 S_p hPS I1 hsm
  show rxIPLAYK_7 S0 ws S_p (r_p 8) ∧ rxmPLAYK_7 S0 ws S_p (r_p 8) < _
  rw [hr 8 (by decide)]
  exact g2
theorem rxkPLAYK_8 {S0 : Nat → Int → Int} {ws : List Int} {S : Nat → Int → Int} {part : Int} (hP : rxPPLAYK S0 ws) (hin : bx_same rxL (bx_mdl rxC240.2.2.1) S0 S) (I0 : bx_Inv rxL S) (hinv : rxIPLAYK_8 S0 ws S part) (l8 : 0 ≤ part) (u8 : part ≤ 5) : rxPRYK S [480] ∧ ∀ (S_p : Nat → Int → Int), rxPSRYK S [480] S_p none → bx_Inv rxL S_p → bx_same rxL (bx_mdl rxCRYK.2.2.1) S S_p → rxIPLAYK_9 S0 ws S_p part ∧ rxmPLAYK_9 S0 ws S_p part < rxmPLAYK_8 S0 ws S part := by
  obtain ⟨hI, hx⟩ := hinv
  have g_ := rxkPLAYX_8 hP.1 hin I0 hI l8 u8
  exact ⟨g_.1, fun S_p hq I1 hsm => ⟨⟨(g_.2 S_p hq.2.1 I1 hsm).1, (by
    have c := hP.2.1
    obtain ⟨k0, hx⟩ := hx
    refine ⟨⟨fun j a b => (rx_sameR hsm (p := 482) (tc := 0) (n := 6180) (g := 63) rfl (by omega) (by decide +kernel) (by decide +kernel) a b).trans (k0.1 j a b), (hsm 494 7 (by decide) (by decide) (by decide +kernel)).trans k0.2.1, (hsm 494 8 (by decide) (by decide) (by decide +kernel)).trans k0.2.2⟩, fun z => ?_⟩
    have z0 : S 480 14 = 0 := hI.1.2
    have h := hI.2.2 c
    obtain ⟨q1, q2, q3, q4, q5, q6⟩ := rzRj_q h z0
    have x := hq.2.1.2.2 q1 q2 (by unfold rzWr; rw [q3]; exact if_pos rfl)
    exact rjMq_of (hx z0) (hI.1.1.2 z0).2 q4 q5 (rxBox16 I0).1 (hq.2.2 q1 q2 (by unfold rzWr; rw [q3]; exact if_pos rfl) z) x z (hq.2.1.2.1.2.2 z) fun r p pr => by
      rcases p with p | p
      · exact ⟨of_decide_eq_true p.1, p.2⟩
      · rw [p.2] at pr
        cases pr)⟩, (g_.2 S_p hq.2.1 I1 hsm).2⟩⟩
theorem rxsPLAYK_8 {X : (Nat → Int → Int) → Prop} {S0 : Nat → Int → Int} {ws : List Int} (hP : rxPPLAYK S0 ws) : rx_obK X S0 rxC240.2.2.1 rxCRYK.2.2.1 (rxIPLAYK S0 ws) (rxmPLAYK S0 ws) 8 9 rxzPLAYK_8 rxzPLAYK_9 [.inr (3, (0, 480))] none rxPRYK rxPSRYK := by
  intro S r hinv hXS I0 hin hs_ hf_
  have b_ := bx_bds_sat hs_
  have f_ := bx_fcl_ok hs_.1 hf_
  obtain ⟨⟨l8, u8⟩, -⟩ := b_
  have g := rxkPLAYK_8 hP hin I0 hinv l8 u8
  have ea : List.map (bx_num r) [.inr (3, (0, 480))] = [480] := by
    simp only [List.map_cons, List.map_nil, bx_xv_ok hs_.1]
    rfl
  rw [ea]
  refine ⟨g.1, fun S_p w r_p hPS hX_p I1 hsm hr hw hs_p => ?_⟩
  have hw : w = none := hPS.1
  subst hw
  have g2 := g.2 S_p hPS I1 hsm
  show rxIPLAYK_9 S0 ws S_p (r_p 8) ∧ rxmPLAYK_9 S0 ws S_p (r_p 8) < _
  rw [hr 8 (by decide)]
  exact g2
theorem rxkPLAYK_10 {S0 : Nat → Int → Int} {ws : List Int} {S : Nat → Int → Int} {part : Int} (hP : rxPPLAYK S0 ws) (hin : bx_same rxL (bx_mdl rxC240.2.2.1) S0 S) (I0 : bx_Inv rxL S) (hinv : rxIPLAYK_10 S0 ws S part) (l8 : 0 ≤ part) (u8 : part ≤ 5) : rxPETW S [480] ∧ ∀ (S_p : Nat → Int → Int), rxPSETW S [480] S_p none → bx_Inv rxL S_p → bx_same rxL (bx_mdl rxCETW.2.2.1) S S_p → rxIPLAYK_11 S0 ws S_p part ∧ rxmPLAYK_11 S0 ws S_p part < rxmPLAYK_10 S0 ws S part := by
  obtain ⟨hI, hx⟩ := hinv
  have g_ := rxkPLAYX_10 hP.1 hin I0 hI l8 u8
  exact ⟨g_.1, fun S_p hq I1 hsm => ⟨⟨(g_.2 S_p hq I1 hsm).1, (by
    have c := hP.2.1
    obtain ⟨k0, hx⟩ := hx
    refine ⟨⟨fun j a b => (rx_sameR hsm (p := 482) (tc := 0) (n := 6180) (g := 63) rfl (by omega) (by decide +kernel) (by decide +kernel) a b).trans (k0.1 j a b), (hsm 494 7 (by decide) (by decide) (by decide +kernel)).trans k0.2.1, (hsm 494 8 (by decide) (by decide) (by decide +kernel)).trans k0.2.2⟩, fun z => ?_⟩
    by_cases z0 : S 480 14 = 0
    · have h := hI.2.2.1 c
      obtain ⟨q1, q2, q3, q4, q5, q6⟩ := rzRj_q h z0
      have hs := hI.2.2.2 z0 q2
      rw [q4, q5] at hs
      exact rjMz_of (hx z0) hs (hsm 480 16 (by decide) (by decide) (by decide +kernel)) (rjPm_sm hsm (by decide +kernel) (fun j x y => (rx_sameR hsm (p := 496) (tc := 0) (n := 120) (g := 77) (j := j) rfl (by omega) (by decide +kernel) (by decide +kernel) x y)) (hI.1.2 z0).2 (rxBox16 I0).2 (rxBox18 I0).2)
    · exact absurd z (hq.2.2.1.2 z0).1)⟩, (g_.2 S_p hq I1 hsm).2⟩⟩
theorem rxsPLAYK_10 {X : (Nat → Int → Int) → Prop} {S0 : Nat → Int → Int} {ws : List Int} (hP : rxPPLAYK S0 ws) : rx_obK X S0 rxC240.2.2.1 rxCETW.2.2.1 (rxIPLAYK S0 ws) (rxmPLAYK S0 ws) 10 11 rxzPLAYK_10 rxzPLAYK_11 [.inr (3, (0, 480))] none rxPETW rxPSETW := by
  intro S r hinv hXS I0 hin hs_ hf_
  have b_ := bx_bds_sat hs_
  have f_ := bx_fcl_ok hs_.1 hf_
  obtain ⟨⟨l8, u8⟩, -⟩ := b_
  have g := rxkPLAYK_10 hP hin I0 hinv l8 u8
  have ea : List.map (bx_num r) [.inr (3, (0, 480))] = [480] := by
    simp only [List.map_cons, List.map_nil, bx_xv_ok hs_.1]
    rfl
  rw [ea]
  refine ⟨g.1, fun S_p w r_p hPS hX_p I1 hsm hr hw hs_p => ?_⟩
  have hw : w = none := hPS.1
  subst hw
  have g2 := g.2 S_p hPS I1 hsm
  show rxIPLAYK_11 S0 ws S_p (r_p 8) ∧ rxmPLAYK_11 S0 ws S_p (r_p 8) < _
  rw [hr 8 (by decide)]
  exact g2
theorem rxkPLAYK_14 {S0 : Nat → Int → Int} {ws : List Int} {S : Nat → Int → Int} {part at_ c n a_ pt d6 m6 : Int} (hP : rxPPLAYK S0 ws) (hin : bx_same rxL (bx_mdl rxC240.2.2.1) S0 S) (I0 : bx_Inv rxL S) (hinv : rxIPLAYK_14 S0 ws S part at_ c n a_ pt d6 m6) (l8 : 0 ≤ part) (u8 : part ≤ 5) (l9 : 0 ≤ at_) (u9 : at_ ≤ 110) (l10 : 0 ≤ c) (u10 : c ≤ 35) (l11 : 0 ≤ n) (u11 : n ≤ 431) (l12 : 0 ≤ a_) (u12 : a_ ≤ 110) (l13 : 0 ≤ pt) (u13 : pt ≤ 5) (l14 : 0 ≤ d6) (u14 : d6 ≤ 5) (l15 : 0 ≤ m6) (u15 : m6 ≤ 5) : rxPIP S [480, a_, pt, d6, m6] ∧ ∀ (S_p : Nat → Int → Int) (so : Int), 0 ≤ so → so ≤ 1 → rxPSIP S [480, a_, pt, d6, m6] S_p (some so) → bx_Inv rxL S_p → bx_same rxL (bx_mdl rxCIP.2.2.1) S S_p → rxIPLAYK_15 S0 ws S_p part at_ c n a_ pt d6 m6 so ∧ rxmPLAYK_15 S0 ws S_p part at_ c n a_ pt d6 m6 so < rxmPLAYK_14 S0 ws S part at_ c n a_ pt d6 m6 := by
  obtain ⟨hI, hx⟩ := hinv
  have g_ := rxkPLAYX_14 hP.1 hin I0 hI l8 u8 l9 u9 l10 u10 l11 u11 l12 u12 l13 u13 l14 u14 l15 u15
  exact ⟨g_.1, fun S_p so l_ u_ hq I1 hsm => ⟨⟨(g_.2 S_p so l_ u_ hq I1 hsm).1, trivial⟩, (g_.2 S_p so l_ u_ hq I1 hsm).2⟩⟩
theorem rxsPLAYK_14 {X : (Nat → Int → Int) → Prop} {S0 : Nat → Int → Int} {ws : List Int} (hP : rxPPLAYK S0 ws) : rx_obK X S0 rxC240.2.2.1 rxCIP.2.2.1 (rxIPLAYK S0 ws) (rxmPLAYK S0 ws) 14 15 rxzPLAYK_14 rxzPLAYK_15 [.inr (3, (0, 480)), .inr (0, (12, 0)), .inr (0, (13, 0)), .inr (0, (14, 0)), .inr (0, (15, 0))] (some 16) rxPIP rxPSIP := by
  intro S r hinv hXS I0 hin hs_ hf_
  have b_ := bx_bds_sat hs_
  have f_ := bx_fcl_ok hs_.1 hf_
  obtain ⟨⟨l8, u8⟩, ⟨l9, u9⟩, ⟨l10, u10⟩, ⟨l11, u11⟩, ⟨l12, u12⟩, ⟨l13, u13⟩, ⟨l14, u14⟩, ⟨l15, u15⟩, -⟩ := b_
  have g := rxkPLAYK_14 hP hin I0 hinv l8 u8 l9 u9 l10 u10 l11 u11 l12 u12 l13 u13 l14 u14 l15 u15
  have ea : List.map (bx_num r) [.inr (3, (0, 480)), .inr (0, (12, 0)), .inr (0, (13, 0)), .inr (0, (14, 0)), .inr (0, (15, 0))] = [480, (r 12), (r 13), (r 14), (r 15)] := by
    simp only [List.map_cons, List.map_nil, bx_xv_ok hs_.1]
    rfl
  rw [ea]
  refine ⟨g.1, fun S_p w r_p hPS hX_p I1 hsm hr hw hs_p => ?_⟩
  have hw := hw _ rfl
  subst hw
  have b_p := hs_p.2.2 16 _ _ rfl
  have g2 := g.2 S_p (r_p 16) b_p.1 b_p.2 hPS I1 hsm
  show rxIPLAYK_15 S0 ws S_p (r_p 8) (r_p 9) (r_p 10) (r_p 11) (r_p 12) (r_p 13) (r_p 14) (r_p 15) (r_p 16) ∧ rxmPLAYK_15 S0 ws S_p (r_p 8) (r_p 9) (r_p 10) (r_p 11) (r_p 12) (r_p 13) (r_p 14) (r_p 15) (r_p 16) < _
  rw [hr 8 (by decide), hr 9 (by decide), hr 10 (by decide), hr 11 (by decide), hr 12 (by decide), hr 13 (by decide), hr 14 (by decide), hr 15 (by decide)]
  exact g2
theorem rxcPLAYK_0_0 {S0 : Nat → Int → Int} {ws : List Int} {S : Nat → Int → Int} {part x9 : Int} (hP : rxPPLAYK S0 ws) (hin : bx_same rxL (bx_mdl rxC240.2.2.1) S0 S) (I0 : bx_Inv rxL S) (hinv : rxIPLAYK_0 S0 ws S part) (l8 : 0 ≤ part) (u8 : part ≤ 5) (l9 : 1 ≤ x9) (u9 : x9 ≤ 6) (f0 : part ≤ x9 + (-1)) (e0 : (bx_up S 480 0 0) 482 0 = x9) : (True) ∧ (True) ∧ rxIPLAYK_1 S0 ws (bx_up S 480 0 0) part ∧ rxmPLAYK_1 S0 ws (bx_up S 480 0 0) part < rxmPLAYK_0 S0 ws S part := by
  obtain ⟨hI, hx⟩ := hinv
  obtain ⟨a_, b_, c_, d_⟩ := rxcPLAYX_0_0 hP.1 hin I0 hI l8 u8 l9 u9 f0 e0
  exact ⟨a_, b_, ⟨c_, (by
    have e := hI.1.1
    subst e
    exact ⟨fun j _ _ => (bx_up_ne (by omega)), (bx_up_ne (by omega)), (bx_up_ne (by omega))⟩)⟩, d_⟩
theorem rxgPLAYK_0_0 {X : (Nat → Int → Int) → Prop} {S0 : Nat → Int → Int} {ws : List Int} (hP : rxPPLAYK S0 ws) : bx_obC rxL X S0 rxC240.2.2.1 (rxIPLAYK S0 ws) (rxmPLAYK S0 ws) 0 rxzPLAYK_0 rxoPLAYK_0_0 := by
  intro S S_p r r_p hinv hX hin hsm_ hseg
  obtain ⟨I0, I1, h0_, hr_, b_, f_, d_⟩ := bx_cl (evs := [(0, (0, 482), (0, 0), .inr (0, (9, 0))), (1, (0, 480), (0, 0), .inr (0, (0, 0)))]) (fvs := [(1, (8, 0), (9, (-1)), (0, 0))]) hseg (by decide +kernel) (by decide +kernel)
  have hinv : rxIPLAYK_0 S0 ws S (r 8) := hinv
  rw [← hr_ 8 (by decide)] at hinv
  obtain ⟨⟨l8, u8⟩, ⟨l9, u9⟩, -⟩ := b_
  obtain ⟨f0, -⟩ := f_
  obtain ⟨e0, ⟨T1, w_, w1⟩⟩ := d_
  subst w1
  subst w_
  have g := rxcPLAYK_0_0 hP hin I0 hinv l8 u8 l9 u9 f0 e0
  refine ⟨bx_narP_ok (l := []) g.1, bx_nfP_ok h0_ (fvs := []) (by decide +kernel) g.2.1, ?_, ?_⟩
  · show rxIPLAYK_1 S0 ws (bx_up T1 480 (0) (0)) (bx_val [(0, 0), (0, 0), (0, 0), (0, 0), (0, 0), (0, 0), (0, 0), (0, 0), (8, 0)] r_p 8)
    rw [bx_val_x (n := 8) (e := (8, 0)) h0_ rfl]
    exact g.2.2.1
  · show rxmPLAYK_1 S0 ws (bx_up T1 480 (0) (0)) (bx_val [(0, 0), (0, 0), (0, 0), (0, 0), (0, 0), (0, 0), (0, 0), (0, 0), (8, 0)] r_p 8) < rxmPLAYK_0 S0 ws T1 (r 8)
    rw [bx_val_x (n := 8) (e := (8, 0)) h0_ rfl, ← hr_ 8 (by decide)]
    exact g.2.2.2
theorem rxdPLAYK_0_0 {S0 : Nat → Int → Int} {ws : List Int} {S : Nat → Int → Int} {part x9 x10 x11 : Int} (hP : rxPPLAYK S0 ws) (hin : bx_same rxL (bx_mdl rxC240.2.2.1) S0 S) (hin2 : bx_same rxL (bx_mdl rxC240.2.2.1) S (bx_up (bx_up (bx_up S 480 0 0) 480 1 ((-2))) 481 2 x11)) (I0 : bx_Inv rxL S) (I1 : bx_Inv rxL (bx_up (bx_up (bx_up S 480 0 0) 480 1 ((-2))) 481 2 x11)) (hinv : rxIPLAYK_0 S0 ws S part) (l8 : 0 ≤ part) (u8 : part ≤ 2147483647) (l9 : 0 ≤ x9) (u9 : x9 ≤ 6) (l10 : (-2147483648) ≤ x10) (u10 : x10 ≤ 2147483647) (l11 : (-2147483648) ≤ x11) (u11 : x11 ≤ 2147483647) (f0 : x9 + (-1) < part) (e3 : (bx_up S 480 0 0) 482 0 = x9) (e1 : (bx_up (bx_up S 480 0 0) 480 1 ((-2))) 481 2 = x10) : (True) ∧ rxPSPLAYK S0 ws (bx_up (bx_up (bx_up S 480 0 0) 480 1 ((-2))) 481 2 x11) (some ((-2))) := by
  obtain ⟨hI, hx⟩ := hinv
  obtain ⟨a_, c_⟩ := rxdPLAYX_0_0 hP.1 hin hin2 I0 I1 hI l8 u8 l9 u9 l10 u10 l11 u11 f0 e3 e1
  exact ⟨a_, c_, trivial⟩
theorem rxfPLAYK_0_0 {X : (Nat → Int → Int) → Prop} {S0 : Nat → Int → Int} {ws : List Int} (hP : rxPPLAYK S0 ws) : bx_obE rxL X S0 rxC240.2.2.1 (rxIPLAYK S0 ws) (rxPSPLAYK S0 ws) 0 rxzPLAYK_0 rxePLAYK_0_0 := by
  intro S S_p r r_p hinv hX hin hsm_ hseg
  obtain ⟨I0, I1, h0_, hr_, b_, f_, d_⟩ := bx_cl (evs := [(1, (0, 481), (0, 2), .inr (0, (11, 0))), (0, (0, 481), (0, 2), .inr (0, (10, 0))), (1, (0, 480), (0, 1), .inr (0, (0, (-2)))), (0, (0, 482), (0, 0), .inr (0, (9, 0))), (1, (0, 480), (0, 0), .inr (0, (0, 0)))]) (fvs := [(0, (9, (-1)), (8, 0), (0, 0))]) hseg (by decide +kernel) (by decide +kernel)
  have hinv : rxIPLAYK_0 S0 ws S (r 8) := hinv
  rw [← hr_ 8 (by decide)] at hinv
  obtain ⟨⟨l8, u8⟩, ⟨l9, u9⟩, ⟨l10, u10⟩, ⟨l11, u11⟩, -⟩ := b_
  obtain ⟨f0, -⟩ := f_
  obtain ⟨T0, ⟨e1, ⟨T2, ⟨e3, ⟨T4, w_, w4⟩⟩, w2⟩⟩, w0⟩ := d_
  subst w0
  subst w2
  subst w4
  subst w_
  have g := rxdPLAYK_0_0 hP hin hsm_ I0 I1 hinv l8 u8 l9 u9 l10 u10 l11 u11 f0 e3 e1
  refine ⟨bx_narP_ok (l := []) g.1, ?_⟩
  show rxPSPLAYK S0 ws (bx_up (bx_up (bx_up T4 480 (0) (0)) 480 (1) ((-2))) 481 (2) (r_p 11)) (some (bx_num r_p (.inr (0, (0, (-2))))))
  rw [bx_xv_ok h0_]
  exact g.2
theorem rxdPLAYK_0_1 {S0 : Nat → Int → Int} {ws : List Int} {S : Nat → Int → Int} {part x9 x10 x11 : Int} (hP : rxPPLAYK S0 ws) (hin : bx_same rxL (bx_mdl rxC240.2.2.1) S0 S) (hin2 : bx_same rxL (bx_mdl rxC240.2.2.1) S (bx_up (bx_up (bx_up S 480 0 0) 480 1 ((-2))) 481 2 x11)) (I0 : bx_Inv rxL S) (I1 : bx_Inv rxL (bx_up (bx_up (bx_up S 480 0 0) 480 1 ((-2))) 481 2 x11)) (hinv : rxIPLAYK_0 S0 ws S part) (l8 : (-2147483648) ≤ part) (u8 : part ≤ (-1)) (l9 : 0 ≤ x9) (u9 : x9 ≤ 6) (l10 : (-2147483648) ≤ x10) (u10 : x10 ≤ 2147483647) (l11 : (-2147483648) ≤ x11) (u11 : x11 ≤ 2147483647) (e3 : (bx_up S 480 0 0) 482 0 = x9) (e1 : (bx_up (bx_up S 480 0 0) 480 1 ((-2))) 481 2 = x10) : (True) ∧ rxPSPLAYK S0 ws (bx_up (bx_up (bx_up S 480 0 0) 480 1 ((-2))) 481 2 x11) (some ((-2))) := by
  obtain ⟨hI, hx⟩ := hinv
  obtain ⟨a_, c_⟩ := rxdPLAYX_0_1 hP.1 hin hin2 I0 I1 hI l8 u8 l9 u9 l10 u10 l11 u11 e3 e1
  exact ⟨a_, c_, trivial⟩
theorem rxfPLAYK_0_1 {X : (Nat → Int → Int) → Prop} {S0 : Nat → Int → Int} {ws : List Int} (hP : rxPPLAYK S0 ws) : bx_obE rxL X S0 rxC240.2.2.1 (rxIPLAYK S0 ws) (rxPSPLAYK S0 ws) 0 rxzPLAYK_0 rxePLAYK_0_1 := by
  intro S S_p r r_p hinv hX hin hsm_ hseg
  obtain ⟨I0, I1, h0_, hr_, b_, f_, d_⟩ := bx_cl (evs := [(1, (0, 481), (0, 2), .inr (0, (11, 0))), (0, (0, 481), (0, 2), .inr (0, (10, 0))), (1, (0, 480), (0, 1), .inr (0, (0, (-2)))), (0, (0, 482), (0, 0), .inr (0, (9, 0))), (1, (0, 480), (0, 0), .inr (0, (0, 0)))]) (fvs := []) hseg (by decide +kernel) (by decide +kernel)
  have hinv : rxIPLAYK_0 S0 ws S (r 8) := hinv
  rw [← hr_ 8 (by decide)] at hinv
  obtain ⟨⟨l8, u8⟩, ⟨l9, u9⟩, ⟨l10, u10⟩, ⟨l11, u11⟩, -⟩ := b_
  obtain ⟨T0, ⟨e1, ⟨T2, ⟨e3, ⟨T4, w_, w4⟩⟩, w2⟩⟩, w0⟩ := d_
  subst w0
  subst w2
  subst w4
  subst w_
  have g := rxdPLAYK_0_1 hP hin hsm_ I0 I1 hinv l8 u8 l9 u9 l10 u10 l11 u11 e3 e1
  refine ⟨bx_narP_ok (l := []) g.1, ?_⟩
  show rxPSPLAYK S0 ws (bx_up (bx_up (bx_up T4 480 (0) (0)) 480 (1) ((-2))) 481 (2) (r_p 11)) (some (bx_num r_p (.inr (0, (0, (-2))))))
  rw [bx_xv_ok h0_]
  exact g.2
theorem rxcPLAYK_2_0 {S0 : Nat → Int → Int} {ws : List Int} {S : Nat → Int → Int} {part : Int} (hP : rxPPLAYK S0 ws) (hin : bx_same rxL (bx_mdl rxC240.2.2.1) S0 S) (I0 : bx_Inv rxL S) (hinv : rxIPLAYK_2 S0 ws S part) (l8 : 0 ≤ part) (u8 : part ≤ 5) : (True) ∧ (True) ∧ rxIPLAYK_3 S0 ws S part ∧ rxmPLAYK_3 S0 ws S part < rxmPLAYK_2 S0 ws S part := by
  obtain ⟨hI, hx⟩ := hinv
  obtain ⟨a_, b_, c_, d_⟩ := rxcPLAYX_2_0 hP.1 hin I0 hI l8 u8
  exact ⟨a_, b_, ⟨c_, hx⟩, d_⟩
theorem rxgPLAYK_2_0 {X : (Nat → Int → Int) → Prop} {S0 : Nat → Int → Int} {ws : List Int} (hP : rxPPLAYK S0 ws) : bx_obC rxL X S0 rxC240.2.2.1 (rxIPLAYK S0 ws) (rxmPLAYK S0 ws) 2 rxzPLAYK_2 rxoPLAYK_2_0 := by
  intro S S_p r r_p hinv hX hin hsm_ hseg
  obtain ⟨I0, I1, h0_, hr_, b_, f_, d_⟩ := bx_cl (evs := []) (fvs := []) hseg (by decide +kernel) (by decide +kernel)
  have hinv : rxIPLAYK_2 S0 ws S (r 8) := hinv
  rw [← hr_ 8 (by decide)] at hinv
  obtain ⟨⟨l8, u8⟩, -⟩ := b_
  have w_ := d_
  subst w_
  have g := rxcPLAYK_2_0 hP hin I0 hinv l8 u8
  refine ⟨bx_narP_ok (l := []) g.1, bx_nfP_ok h0_ (fvs := []) (by decide +kernel) g.2.1, ?_, ?_⟩
  · show rxIPLAYK_3 S0 ws S_p (bx_val [(0, 0), (0, 0), (0, 0), (0, 0), (0, 0), (0, 0), (0, 0), (0, 0), (8, 0)] r_p 8)
    rw [bx_val_x (n := 8) (e := (8, 0)) h0_ rfl]
    exact g.2.2.1
  · show rxmPLAYK_3 S0 ws S_p (bx_val [(0, 0), (0, 0), (0, 0), (0, 0), (0, 0), (0, 0), (0, 0), (0, 0), (8, 0)] r_p 8) < rxmPLAYK_2 S0 ws S_p (r 8)
    rw [bx_val_x (n := 8) (e := (8, 0)) h0_ rfl, ← hr_ 8 (by decide)]
    exact g.2.2.2
theorem rxcPLAYK_4_0 {S0 : Nat → Int → Int} {ws : List Int} {S : Nat → Int → Int} {part x9 x10 : Int} (hP : rxPPLAYK S0 ws) (hin : bx_same rxL (bx_mdl rxC240.2.2.1) S0 S) (I0 : bx_Inv rxL S) (hinv : rxIPLAYK_4 S0 ws S part) (l8 : 0 ≤ part) (u8 : part ≤ 5) (l9 : 0 ≤ x9) (u9 : x9 ≤ 0) (l10 : 0 ≤ x10) (u10 : x10 ≤ 2) (f0 : x10 ≠ 3) (e1 : S 480 14 = x9) (e0 : S 480 11 = x10) : (True) ∧ (True) ∧ rxIPLAYK_10 S0 ws S part ∧ rxmPLAYK_10 S0 ws S part < rxmPLAYK_4 S0 ws S part := by
  obtain ⟨hI, hx⟩ := hinv
  obtain ⟨a_, b_, c_, d_⟩ := rxcPLAYX_4_0 hP.1 hin I0 hI l8 u8 l9 u9 l10 u10 f0 e1 e0
  exact ⟨a_, b_, ⟨c_, hx⟩, d_⟩
theorem rxgPLAYK_4_0 {X : (Nat → Int → Int) → Prop} {S0 : Nat → Int → Int} {ws : List Int} (hP : rxPPLAYK S0 ws) : bx_obC rxL X S0 rxC240.2.2.1 (rxIPLAYK S0 ws) (rxmPLAYK S0 ws) 4 rxzPLAYK_4 rxoPLAYK_4_0 := by
  intro S S_p r r_p hinv hX hin hsm_ hseg
  obtain ⟨I0, I1, h0_, hr_, b_, f_, d_⟩ := bx_cl (evs := [(0, (0, 480), (0, 11), .inr (0, (10, 0))), (0, (0, 480), (0, 14), .inr (0, (9, 0)))]) (fvs := [(3, (10, 0), (0, 3), (0, 0))]) hseg (by decide +kernel) (by decide +kernel)
  have hinv : rxIPLAYK_4 S0 ws S (r 8) := hinv
  rw [← hr_ 8 (by decide)] at hinv
  obtain ⟨⟨l8, u8⟩, ⟨l9, u9⟩, ⟨l10, u10⟩, -⟩ := b_
  obtain ⟨f0, -⟩ := f_
  obtain ⟨e0, ⟨e1, w_⟩⟩ := d_
  subst w_
  have g := rxcPLAYK_4_0 hP hin I0 hinv l8 u8 l9 u9 l10 u10 f0 e1 e0
  refine ⟨bx_narP_ok (l := []) g.1, bx_nfP_ok h0_ (fvs := []) (by decide +kernel) g.2.1, ?_, ?_⟩
  · show rxIPLAYK_10 S0 ws S_p (bx_val [(0, 0), (0, 0), (0, 0), (0, 0), (0, 0), (0, 0), (0, 0), (0, 0), (8, 0)] r_p 8)
    rw [bx_val_x (n := 8) (e := (8, 0)) h0_ rfl]
    exact g.2.2.1
  · show rxmPLAYK_10 S0 ws S_p (bx_val [(0, 0), (0, 0), (0, 0), (0, 0), (0, 0), (0, 0), (0, 0), (0, 0), (8, 0)] r_p 8) < rxmPLAYK_4 S0 ws S_p (r 8)
    rw [bx_val_x (n := 8) (e := (8, 0)) h0_ rfl, ← hr_ 8 (by decide)]
    exact g.2.2.2
theorem rxcPLAYK_4_1 {S0 : Nat → Int → Int} {ws : List Int} {S : Nat → Int → Int} {part x9 x10 x11 : Int} (hP : rxPPLAYK S0 ws) (hin : bx_same rxL (bx_mdl rxC240.2.2.1) S0 S) (I0 : bx_Inv rxL S) (hinv : rxIPLAYK_4 S0 ws S part) (l8 : 0 ≤ part) (u8 : part ≤ 5) (l9 : 0 ≤ x9) (u9 : x9 ≤ 0) (l10 : 3 ≤ x10) (u10 : x10 ≤ 3) (l11 : (-9223372036854775808) ≤ x11) (u11 : x11 ≤ 9223372036854775807) (f0 : x11 ≠ 59) (e2 : S 480 14 = x9) (e1 : S 480 11 = x10) (e0 : S 480 12 = x11) : (True) ∧ (True) ∧ rxIPLAYK_10 S0 ws S part ∧ rxmPLAYK_10 S0 ws S part < rxmPLAYK_4 S0 ws S part := by
  obtain ⟨hI, hx⟩ := hinv
  obtain ⟨a_, b_, c_, d_⟩ := rxcPLAYX_4_1 hP.1 hin I0 hI l8 u8 l9 u9 l10 u10 l11 u11 f0 e2 e1 e0
  exact ⟨a_, b_, ⟨c_, hx⟩, d_⟩
theorem rxgPLAYK_4_1 {X : (Nat → Int → Int) → Prop} {S0 : Nat → Int → Int} {ws : List Int} (hP : rxPPLAYK S0 ws) : bx_obC rxL X S0 rxC240.2.2.1 (rxIPLAYK S0 ws) (rxmPLAYK S0 ws) 4 rxzPLAYK_4 rxoPLAYK_4_1 := by
  intro S S_p r r_p hinv hX hin hsm_ hseg
  obtain ⟨I0, I1, h0_, hr_, b_, f_, d_⟩ := bx_cl (evs := [(0, (0, 480), (0, 12), .inr (1, (11, 0))), (0, (0, 480), (0, 11), .inr (0, (10, 0))), (0, (0, 480), (0, 14), .inr (0, (9, 0)))]) (fvs := [(3, (11, 0), (0, 59), (0, 0))]) hseg (by decide +kernel) (by decide +kernel)
  have hinv : rxIPLAYK_4 S0 ws S (r 8) := hinv
  rw [← hr_ 8 (by decide)] at hinv
  obtain ⟨⟨l8, u8⟩, ⟨l9, u9⟩, ⟨l10, u10⟩, ⟨l11, u11⟩, -⟩ := b_
  obtain ⟨f0, -⟩ := f_
  obtain ⟨e0, ⟨e1, ⟨e2, w_⟩⟩⟩ := d_
  subst w_
  have g := rxcPLAYK_4_1 hP hin I0 hinv l8 u8 l9 u9 l10 u10 l11 u11 f0 e2 e1 e0
  refine ⟨bx_narP_ok (l := []) g.1, bx_nfP_ok h0_ (fvs := []) (by decide +kernel) g.2.1, ?_, ?_⟩
  · show rxIPLAYK_10 S0 ws S_p (bx_val [(0, 0), (0, 0), (0, 0), (0, 0), (0, 0), (0, 0), (0, 0), (0, 0), (8, 0)] r_p 8)
    rw [bx_val_x (n := 8) (e := (8, 0)) h0_ rfl]
    exact g.2.2.1
  · show rxmPLAYK_10 S0 ws S_p (bx_val [(0, 0), (0, 0), (0, 0), (0, 0), (0, 0), (0, 0), (0, 0), (0, 0), (8, 0)] r_p 8) < rxmPLAYK_4 S0 ws S_p (r 8)
    rw [bx_val_x (n := 8) (e := (8, 0)) h0_ rfl, ← hr_ 8 (by decide)]
    exact g.2.2.2
theorem rxcPLAYK_4_2 {S0 : Nat → Int → Int} {ws : List Int} {S : Nat → Int → Int} {part x9 x10 x11 : Int} (hP : rxPPLAYK S0 ws) (hin : bx_same rxL (bx_mdl rxC240.2.2.1) S0 S) (I0 : bx_Inv rxL S) (hinv : rxIPLAYK_4 S0 ws S part) (l8 : 0 ≤ part) (u8 : part ≤ 5) (l9 : 0 ≤ x9) (u9 : x9 ≤ 0) (l10 : 3 ≤ x10) (u10 : x10 ≤ 3) (l11 : 59 ≤ x11) (u11 : x11 ≤ 59) (e2 : S 480 14 = x9) (e1 : S 480 11 = x10) (e0 : S 480 12 = x11) : (True) ∧ (True) ∧ rxIPLAYK_6 S0 ws S part ∧ rxmPLAYK_6 S0 ws S part < rxmPLAYK_4 S0 ws S part := by
  obtain ⟨hI, hx⟩ := hinv
  obtain ⟨a_, b_, c_, d_⟩ := rxcPLAYX_4_2 hP.1 hin I0 hI l8 u8 l9 u9 l10 u10 l11 u11 e2 e1 e0
  exact ⟨a_, b_, ⟨c_, hx⟩, d_⟩
theorem rxgPLAYK_4_2 {X : (Nat → Int → Int) → Prop} {S0 : Nat → Int → Int} {ws : List Int} (hP : rxPPLAYK S0 ws) : bx_obC rxL X S0 rxC240.2.2.1 (rxIPLAYK S0 ws) (rxmPLAYK S0 ws) 4 rxzPLAYK_4 rxoPLAYK_4_2 := by
  intro S S_p r r_p hinv hX hin hsm_ hseg
  obtain ⟨I0, I1, h0_, hr_, b_, f_, d_⟩ := bx_cl (evs := [(0, (0, 480), (0, 12), .inr (1, (11, 0))), (0, (0, 480), (0, 11), .inr (0, (10, 0))), (0, (0, 480), (0, 14), .inr (0, (9, 0)))]) (fvs := []) hseg (by decide +kernel) (by decide +kernel)
  have hinv : rxIPLAYK_4 S0 ws S (r 8) := hinv
  rw [← hr_ 8 (by decide)] at hinv
  obtain ⟨⟨l8, u8⟩, ⟨l9, u9⟩, ⟨l10, u10⟩, ⟨l11, u11⟩, -⟩ := b_
  obtain ⟨e0, ⟨e1, ⟨e2, w_⟩⟩⟩ := d_
  subst w_
  have g := rxcPLAYK_4_2 hP hin I0 hinv l8 u8 l9 u9 l10 u10 l11 u11 e2 e1 e0
  refine ⟨bx_narP_ok (l := []) g.1, bx_nfP_ok h0_ (fvs := []) (by decide +kernel) g.2.1, ?_, ?_⟩
  · show rxIPLAYK_6 S0 ws S_p (bx_val [(0, 0), (0, 0), (0, 0), (0, 0), (0, 0), (0, 0), (0, 0), (0, 0), (8, 0)] r_p 8)
    rw [bx_val_x (n := 8) (e := (8, 0)) h0_ rfl]
    exact g.2.2.1
  · show rxmPLAYK_6 S0 ws S_p (bx_val [(0, 0), (0, 0), (0, 0), (0, 0), (0, 0), (0, 0), (0, 0), (0, 0), (8, 0)] r_p 8) < rxmPLAYK_4 S0 ws S_p (r 8)
    rw [bx_val_x (n := 8) (e := (8, 0)) h0_ rfl, ← hr_ 8 (by decide)]
    exact g.2.2.2
theorem rxcPLAYK_4_3 {S0 : Nat → Int → Int} {ws : List Int} {S : Nat → Int → Int} {part x9 : Int} (hP : rxPPLAYK S0 ws) (hin : bx_same rxL (bx_mdl rxC240.2.2.1) S0 S) (I0 : bx_Inv rxL S) (hinv : rxIPLAYK_4 S0 ws S part) (l8 : 0 ≤ part) (u8 : part ≤ 5) (l9 : 1 ≤ x9) (u9 : x9 ≤ 1) (f0 : x9 ≠ 0) (e0 : S 480 14 = x9) : (True) ∧ (True) ∧ rxIPLAYK_10 S0 ws S part ∧ rxmPLAYK_10 S0 ws S part < rxmPLAYK_4 S0 ws S part := by
  obtain ⟨hI, hx⟩ := hinv
  obtain ⟨a_, b_, c_, d_⟩ := rxcPLAYX_4_3 hP.1 hin I0 hI l8 u8 l9 u9 f0 e0
  exact ⟨a_, b_, ⟨c_, hx⟩, d_⟩
theorem rxgPLAYK_4_3 {X : (Nat → Int → Int) → Prop} {S0 : Nat → Int → Int} {ws : List Int} (hP : rxPPLAYK S0 ws) : bx_obC rxL X S0 rxC240.2.2.1 (rxIPLAYK S0 ws) (rxmPLAYK S0 ws) 4 rxzPLAYK_4 rxoPLAYK_4_3 := by
  intro S S_p r r_p hinv hX hin hsm_ hseg
  obtain ⟨I0, I1, h0_, hr_, b_, f_, d_⟩ := bx_cl (evs := [(0, (0, 480), (0, 14), .inr (0, (9, 0)))]) (fvs := [(3, (9, 0), (0, 0), (0, 0))]) hseg (by decide +kernel) (by decide +kernel)
  have hinv : rxIPLAYK_4 S0 ws S (r 8) := hinv
  rw [← hr_ 8 (by decide)] at hinv
  obtain ⟨⟨l8, u8⟩, ⟨l9, u9⟩, -⟩ := b_
  obtain ⟨f0, -⟩ := f_
  obtain ⟨e0, w_⟩ := d_
  subst w_
  have g := rxcPLAYK_4_3 hP hin I0 hinv l8 u8 l9 u9 f0 e0
  refine ⟨bx_narP_ok (l := []) g.1, bx_nfP_ok h0_ (fvs := []) (by decide +kernel) g.2.1, ?_, ?_⟩
  · show rxIPLAYK_10 S0 ws S_p (bx_val [(0, 0), (0, 0), (0, 0), (0, 0), (0, 0), (0, 0), (0, 0), (0, 0), (8, 0)] r_p 8)
    rw [bx_val_x (n := 8) (e := (8, 0)) h0_ rfl]
    exact g.2.2.1
  · show rxmPLAYK_10 S0 ws S_p (bx_val [(0, 0), (0, 0), (0, 0), (0, 0), (0, 0), (0, 0), (0, 0), (0, 0), (8, 0)] r_p 8) < rxmPLAYK_4 S0 ws S_p (r 8)
    rw [bx_val_x (n := 8) (e := (8, 0)) h0_ rfl, ← hr_ 8 (by decide)]
    exact g.2.2.2
theorem rxcPLAYK_5_0 {S0 : Nat → Int → Int} {ws : List Int} {S : Nat → Int → Int} {part x9 x10 : Int} (hP : rxPPLAYK S0 ws) (hin : bx_same rxL (bx_mdl rxC240.2.2.1) S0 S) (I0 : bx_Inv rxL S) (hinv : rxIPLAYK_5 S0 ws S part) (l8 : 0 ≤ part) (u8 : part ≤ 5) (l9 : 0 ≤ x9) (u9 : x9 ≤ 0) (l10 : 0 ≤ x10) (u10 : x10 ≤ 2) (f0 : x10 ≠ 3) (e1 : S 480 14 = x9) (e0 : S 480 11 = x10) : (True) ∧ (True) ∧ rxIPLAYK_10 S0 ws S part ∧ rxmPLAYK_10 S0 ws S part < rxmPLAYK_5 S0 ws S part := by
  obtain ⟨hI, hx⟩ := hinv
  obtain ⟨a_, b_, c_, d_⟩ := rxcPLAYX_5_0 hP.1 hin I0 hI l8 u8 l9 u9 l10 u10 f0 e1 e0
  exact ⟨a_, b_, ⟨c_, hx⟩, d_⟩
theorem rxgPLAYK_5_0 {X : (Nat → Int → Int) → Prop} {S0 : Nat → Int → Int} {ws : List Int} (hP : rxPPLAYK S0 ws) : bx_obC rxL X S0 rxC240.2.2.1 (rxIPLAYK S0 ws) (rxmPLAYK S0 ws) 5 rxzPLAYK_5 rxoPLAYK_5_0 := by
  intro S S_p r r_p hinv hX hin hsm_ hseg
  obtain ⟨I0, I1, h0_, hr_, b_, f_, d_⟩ := bx_cl (evs := [(0, (0, 480), (0, 11), .inr (0, (10, 0))), (0, (0, 480), (0, 14), .inr (0, (9, 0)))]) (fvs := [(3, (10, 0), (0, 3), (0, 0))]) hseg (by decide +kernel) (by decide +kernel)
  have hinv : rxIPLAYK_5 S0 ws S (r 8) := hinv
  rw [← hr_ 8 (by decide)] at hinv
  obtain ⟨⟨l8, u8⟩, ⟨l9, u9⟩, ⟨l10, u10⟩, -⟩ := b_
  obtain ⟨f0, -⟩ := f_
  obtain ⟨e0, ⟨e1, w_⟩⟩ := d_
  subst w_
  have g := rxcPLAYK_5_0 hP hin I0 hinv l8 u8 l9 u9 l10 u10 f0 e1 e0
  refine ⟨bx_narP_ok (l := []) g.1, bx_nfP_ok h0_ (fvs := []) (by decide +kernel) g.2.1, ?_, ?_⟩
  · show rxIPLAYK_10 S0 ws S_p (bx_val [(0, 0), (0, 0), (0, 0), (0, 0), (0, 0), (0, 0), (0, 0), (0, 0), (8, 0)] r_p 8)
    rw [bx_val_x (n := 8) (e := (8, 0)) h0_ rfl]
    exact g.2.2.1
  · show rxmPLAYK_10 S0 ws S_p (bx_val [(0, 0), (0, 0), (0, 0), (0, 0), (0, 0), (0, 0), (0, 0), (0, 0), (8, 0)] r_p 8) < rxmPLAYK_5 S0 ws S_p (r 8)
    rw [bx_val_x (n := 8) (e := (8, 0)) h0_ rfl, ← hr_ 8 (by decide)]
    exact g.2.2.2
theorem rxcPLAYK_5_1 {S0 : Nat → Int → Int} {ws : List Int} {S : Nat → Int → Int} {part x9 x10 x11 : Int} (hP : rxPPLAYK S0 ws) (hin : bx_same rxL (bx_mdl rxC240.2.2.1) S0 S) (I0 : bx_Inv rxL S) (hinv : rxIPLAYK_5 S0 ws S part) (l8 : 0 ≤ part) (u8 : part ≤ 5) (l9 : 0 ≤ x9) (u9 : x9 ≤ 0) (l10 : 3 ≤ x10) (u10 : x10 ≤ 3) (l11 : (-9223372036854775808) ≤ x11) (u11 : x11 ≤ 9223372036854775807) (f0 : x11 ≠ 59) (e2 : S 480 14 = x9) (e1 : S 480 11 = x10) (e0 : S 480 12 = x11) : (True) ∧ (True) ∧ rxIPLAYK_10 S0 ws S part ∧ rxmPLAYK_10 S0 ws S part < rxmPLAYK_5 S0 ws S part := by
  obtain ⟨hI, hx⟩ := hinv
  obtain ⟨a_, b_, c_, d_⟩ := rxcPLAYX_5_1 hP.1 hin I0 hI l8 u8 l9 u9 l10 u10 l11 u11 f0 e2 e1 e0
  exact ⟨a_, b_, ⟨c_, hx⟩, d_⟩
theorem rxgPLAYK_5_1 {X : (Nat → Int → Int) → Prop} {S0 : Nat → Int → Int} {ws : List Int} (hP : rxPPLAYK S0 ws) : bx_obC rxL X S0 rxC240.2.2.1 (rxIPLAYK S0 ws) (rxmPLAYK S0 ws) 5 rxzPLAYK_5 rxoPLAYK_5_1 := by
  intro S S_p r r_p hinv hX hin hsm_ hseg
  obtain ⟨I0, I1, h0_, hr_, b_, f_, d_⟩ := bx_cl (evs := [(0, (0, 480), (0, 12), .inr (1, (11, 0))), (0, (0, 480), (0, 11), .inr (0, (10, 0))), (0, (0, 480), (0, 14), .inr (0, (9, 0)))]) (fvs := [(3, (11, 0), (0, 59), (0, 0))]) hseg (by decide +kernel) (by decide +kernel)
  have hinv : rxIPLAYK_5 S0 ws S (r 8) := hinv
  rw [← hr_ 8 (by decide)] at hinv
  obtain ⟨⟨l8, u8⟩, ⟨l9, u9⟩, ⟨l10, u10⟩, ⟨l11, u11⟩, -⟩ := b_
  obtain ⟨f0, -⟩ := f_
  obtain ⟨e0, ⟨e1, ⟨e2, w_⟩⟩⟩ := d_
  subst w_
  have g := rxcPLAYK_5_1 hP hin I0 hinv l8 u8 l9 u9 l10 u10 l11 u11 f0 e2 e1 e0
  refine ⟨bx_narP_ok (l := []) g.1, bx_nfP_ok h0_ (fvs := []) (by decide +kernel) g.2.1, ?_, ?_⟩
  · show rxIPLAYK_10 S0 ws S_p (bx_val [(0, 0), (0, 0), (0, 0), (0, 0), (0, 0), (0, 0), (0, 0), (0, 0), (8, 0)] r_p 8)
    rw [bx_val_x (n := 8) (e := (8, 0)) h0_ rfl]
    exact g.2.2.1
  · show rxmPLAYK_10 S0 ws S_p (bx_val [(0, 0), (0, 0), (0, 0), (0, 0), (0, 0), (0, 0), (0, 0), (0, 0), (8, 0)] r_p 8) < rxmPLAYK_5 S0 ws S_p (r 8)
    rw [bx_val_x (n := 8) (e := (8, 0)) h0_ rfl, ← hr_ 8 (by decide)]
    exact g.2.2.2
theorem rxcPLAYK_5_2 {S0 : Nat → Int → Int} {ws : List Int} {S : Nat → Int → Int} {part x9 x10 x11 : Int} (hP : rxPPLAYK S0 ws) (hin : bx_same rxL (bx_mdl rxC240.2.2.1) S0 S) (I0 : bx_Inv rxL S) (hinv : rxIPLAYK_5 S0 ws S part) (l8 : 0 ≤ part) (u8 : part ≤ 5) (l9 : 0 ≤ x9) (u9 : x9 ≤ 0) (l10 : 3 ≤ x10) (u10 : x10 ≤ 3) (l11 : 59 ≤ x11) (u11 : x11 ≤ 59) (e2 : S 480 14 = x9) (e1 : S 480 11 = x10) (e0 : S 480 12 = x11) : (True) ∧ (True) ∧ rxIPLAYK_6 S0 ws S part ∧ rxmPLAYK_6 S0 ws S part < rxmPLAYK_5 S0 ws S part := by
  obtain ⟨hI, hx⟩ := hinv
  obtain ⟨a_, b_, c_, d_⟩ := rxcPLAYX_5_2 hP.1 hin I0 hI l8 u8 l9 u9 l10 u10 l11 u11 e2 e1 e0
  exact ⟨a_, b_, ⟨c_, hx⟩, d_⟩
theorem rxgPLAYK_5_2 {X : (Nat → Int → Int) → Prop} {S0 : Nat → Int → Int} {ws : List Int} (hP : rxPPLAYK S0 ws) : bx_obC rxL X S0 rxC240.2.2.1 (rxIPLAYK S0 ws) (rxmPLAYK S0 ws) 5 rxzPLAYK_5 rxoPLAYK_5_2 := by
  intro S S_p r r_p hinv hX hin hsm_ hseg
  obtain ⟨I0, I1, h0_, hr_, b_, f_, d_⟩ := bx_cl (evs := [(0, (0, 480), (0, 12), .inr (1, (11, 0))), (0, (0, 480), (0, 11), .inr (0, (10, 0))), (0, (0, 480), (0, 14), .inr (0, (9, 0)))]) (fvs := []) hseg (by decide +kernel) (by decide +kernel)
  have hinv : rxIPLAYK_5 S0 ws S (r 8) := hinv
  rw [← hr_ 8 (by decide)] at hinv
  obtain ⟨⟨l8, u8⟩, ⟨l9, u9⟩, ⟨l10, u10⟩, ⟨l11, u11⟩, -⟩ := b_
  obtain ⟨e0, ⟨e1, ⟨e2, w_⟩⟩⟩ := d_
  subst w_
  have g := rxcPLAYK_5_2 hP hin I0 hinv l8 u8 l9 u9 l10 u10 l11 u11 e2 e1 e0
  refine ⟨bx_narP_ok (l := []) g.1, bx_nfP_ok h0_ (fvs := []) (by decide +kernel) g.2.1, ?_, ?_⟩
  · show rxIPLAYK_6 S0 ws S_p (bx_val [(0, 0), (0, 0), (0, 0), (0, 0), (0, 0), (0, 0), (0, 0), (0, 0), (8, 0)] r_p 8)
    rw [bx_val_x (n := 8) (e := (8, 0)) h0_ rfl]
    exact g.2.2.1
  · show rxmPLAYK_6 S0 ws S_p (bx_val [(0, 0), (0, 0), (0, 0), (0, 0), (0, 0), (0, 0), (0, 0), (0, 0), (8, 0)] r_p 8) < rxmPLAYK_5 S0 ws S_p (r 8)
    rw [bx_val_x (n := 8) (e := (8, 0)) h0_ rfl, ← hr_ 8 (by decide)]
    exact g.2.2.2
theorem rxcPLAYK_5_3 {S0 : Nat → Int → Int} {ws : List Int} {S : Nat → Int → Int} {part x9 : Int} (hP : rxPPLAYK S0 ws) (hin : bx_same rxL (bx_mdl rxC240.2.2.1) S0 S) (I0 : bx_Inv rxL S) (hinv : rxIPLAYK_5 S0 ws S part) (l8 : 0 ≤ part) (u8 : part ≤ 5) (l9 : 1 ≤ x9) (u9 : x9 ≤ 1) (f0 : x9 ≠ 0) (e0 : S 480 14 = x9) : (True) ∧ (True) ∧ rxIPLAYK_10 S0 ws S part ∧ rxmPLAYK_10 S0 ws S part < rxmPLAYK_5 S0 ws S part := by
  obtain ⟨hI, hx⟩ := hinv
  obtain ⟨a_, b_, c_, d_⟩ := rxcPLAYX_5_3 hP.1 hin I0 hI l8 u8 l9 u9 f0 e0
  exact ⟨a_, b_, ⟨c_, hx⟩, d_⟩
theorem rxgPLAYK_5_3 {X : (Nat → Int → Int) → Prop} {S0 : Nat → Int → Int} {ws : List Int} (hP : rxPPLAYK S0 ws) : bx_obC rxL X S0 rxC240.2.2.1 (rxIPLAYK S0 ws) (rxmPLAYK S0 ws) 5 rxzPLAYK_5 rxoPLAYK_5_3 := by
  intro S S_p r r_p hinv hX hin hsm_ hseg
  obtain ⟨I0, I1, h0_, hr_, b_, f_, d_⟩ := bx_cl (evs := [(0, (0, 480), (0, 14), .inr (0, (9, 0)))]) (fvs := [(3, (9, 0), (0, 0), (0, 0))]) hseg (by decide +kernel) (by decide +kernel)
  have hinv : rxIPLAYK_5 S0 ws S (r 8) := hinv
  rw [← hr_ 8 (by decide)] at hinv
  obtain ⟨⟨l8, u8⟩, ⟨l9, u9⟩, -⟩ := b_
  obtain ⟨f0, -⟩ := f_
  obtain ⟨e0, w_⟩ := d_
  subst w_
  have g := rxcPLAYK_5_3 hP hin I0 hinv l8 u8 l9 u9 f0 e0
  refine ⟨bx_narP_ok (l := []) g.1, bx_nfP_ok h0_ (fvs := []) (by decide +kernel) g.2.1, ?_, ?_⟩
  · show rxIPLAYK_10 S0 ws S_p (bx_val [(0, 0), (0, 0), (0, 0), (0, 0), (0, 0), (0, 0), (0, 0), (0, 0), (8, 0)] r_p 8)
    rw [bx_val_x (n := 8) (e := (8, 0)) h0_ rfl]
    exact g.2.2.1
  · show rxmPLAYK_10 S0 ws S_p (bx_val [(0, 0), (0, 0), (0, 0), (0, 0), (0, 0), (0, 0), (0, 0), (0, 0), (8, 0)] r_p 8) < rxmPLAYK_5 S0 ws S_p (r 8)
    rw [bx_val_x (n := 8) (e := (8, 0)) h0_ rfl, ← hr_ 8 (by decide)]
    exact g.2.2.2
theorem rxcPLAYK_7_0 {S0 : Nat → Int → Int} {ws : List Int} {S : Nat → Int → Int} {part : Int} (hP : rxPPLAYK S0 ws) (hin : bx_same rxL (bx_mdl rxC240.2.2.1) S0 S) (I0 : bx_Inv rxL S) (hinv : rxIPLAYK_7 S0 ws S part) (l8 : 0 ≤ part) (u8 : part ≤ 5) : (True) ∧ (True) ∧ rxIPLAYK_8 S0 ws S part ∧ rxmPLAYK_8 S0 ws S part < rxmPLAYK_7 S0 ws S part := by
  obtain ⟨hI, hx⟩ := hinv
  obtain ⟨a_, b_, c_, d_⟩ := rxcPLAYX_7_0 hP.1 hin I0 hI l8 u8
  exact ⟨a_, b_, ⟨c_, hx⟩, d_⟩
theorem rxgPLAYK_7_0 {X : (Nat → Int → Int) → Prop} {S0 : Nat → Int → Int} {ws : List Int} (hP : rxPPLAYK S0 ws) : bx_obC rxL X S0 rxC240.2.2.1 (rxIPLAYK S0 ws) (rxmPLAYK S0 ws) 7 rxzPLAYK_7 rxoPLAYK_7_0 := by
  intro S S_p r r_p hinv hX hin hsm_ hseg
  obtain ⟨I0, I1, h0_, hr_, b_, f_, d_⟩ := bx_cl (evs := []) (fvs := []) hseg (by decide +kernel) (by decide +kernel)
  have hinv : rxIPLAYK_7 S0 ws S (r 8) := hinv
  rw [← hr_ 8 (by decide)] at hinv
  obtain ⟨⟨l8, u8⟩, -⟩ := b_
  have w_ := d_
  subst w_
  have g := rxcPLAYK_7_0 hP hin I0 hinv l8 u8
  refine ⟨bx_narP_ok (l := []) g.1, bx_nfP_ok h0_ (fvs := []) (by decide +kernel) g.2.1, ?_, ?_⟩
  · show rxIPLAYK_8 S0 ws S_p (bx_val [(0, 0), (0, 0), (0, 0), (0, 0), (0, 0), (0, 0), (0, 0), (0, 0), (8, 0)] r_p 8)
    rw [bx_val_x (n := 8) (e := (8, 0)) h0_ rfl]
    exact g.2.2.1
  · show rxmPLAYK_8 S0 ws S_p (bx_val [(0, 0), (0, 0), (0, 0), (0, 0), (0, 0), (0, 0), (0, 0), (0, 0), (8, 0)] r_p 8) < rxmPLAYK_7 S0 ws S_p (r 8)
    rw [bx_val_x (n := 8) (e := (8, 0)) h0_ rfl, ← hr_ 8 (by decide)]
    exact g.2.2.2
theorem rxcPLAYK_9_0 {S0 : Nat → Int → Int} {ws : List Int} {S : Nat → Int → Int} {part : Int} (hP : rxPPLAYK S0 ws) (hin : bx_same rxL (bx_mdl rxC240.2.2.1) S0 S) (I0 : bx_Inv rxL S) (hinv : rxIPLAYK_9 S0 ws S part) (l8 : 0 ≤ part) (u8 : part ≤ 5) : (True) ∧ (True) ∧ rxIPLAYK_5 S0 ws S part ∧ rxmPLAYK_5 S0 ws S part < rxmPLAYK_9 S0 ws S part := by
  obtain ⟨hI, hx⟩ := hinv
  obtain ⟨a_, b_, c_, d_⟩ := rxcPLAYX_9_0 hP.1 hin I0 hI l8 u8
  exact ⟨a_, b_, ⟨c_, hx⟩, d_⟩
theorem rxgPLAYK_9_0 {X : (Nat → Int → Int) → Prop} {S0 : Nat → Int → Int} {ws : List Int} (hP : rxPPLAYK S0 ws) : bx_obC rxL X S0 rxC240.2.2.1 (rxIPLAYK S0 ws) (rxmPLAYK S0 ws) 9 rxzPLAYK_9 rxoPLAYK_9_0 := by
  intro S S_p r r_p hinv hX hin hsm_ hseg
  obtain ⟨I0, I1, h0_, hr_, b_, f_, d_⟩ := bx_cl (evs := []) (fvs := []) hseg (by decide +kernel) (by decide +kernel)
  have hinv : rxIPLAYK_9 S0 ws S (r 8) := hinv
  rw [← hr_ 8 (by decide)] at hinv
  obtain ⟨⟨l8, u8⟩, -⟩ := b_
  have w_ := d_
  subst w_
  have g := rxcPLAYK_9_0 hP hin I0 hinv l8 u8
  refine ⟨bx_narP_ok (l := []) g.1, bx_nfP_ok h0_ (fvs := []) (by decide +kernel) g.2.1, ?_, ?_⟩
  · show rxIPLAYK_5 S0 ws S_p (bx_val [(0, 0), (0, 0), (0, 0), (0, 0), (0, 0), (0, 0), (0, 0), (0, 0), (8, 0)] r_p 8)
    rw [bx_val_x (n := 8) (e := (8, 0)) h0_ rfl]
    exact g.2.2.1
  · show rxmPLAYK_5 S0 ws S_p (bx_val [(0, 0), (0, 0), (0, 0), (0, 0), (0, 0), (0, 0), (0, 0), (0, 0), (8, 0)] r_p 8) < rxmPLAYK_9 S0 ws S_p (r 8)
    rw [bx_val_x (n := 8) (e := (8, 0)) h0_ rfl, ← hr_ 8 (by decide)]
    exact g.2.2.2
theorem rxcPLAYK_11_0 {S0 : Nat → Int → Int} {ws : List Int} {S : Nat → Int → Int} {part x9 : Int} (hP : rxPPLAYK S0 ws) (hin : bx_same rxL (bx_mdl rxC240.2.2.1) S0 S) (I0 : bx_Inv rxL S) (hinv : rxIPLAYK_11 S0 ws S part) (l8 : 0 ≤ part) (u8 : part ≤ 5) (l9 : 0 ≤ x9) (u9 : x9 ≤ 0) (e1 : S 480 14 = x9) : (True) ∧ (True) ∧ rxIPLAYK_12 S0 ws (bx_up S 480 15 1) part 0 0 ∧ rxmPLAYK_12 S0 ws (bx_up S 480 15 1) part 0 0 < rxmPLAYK_11 S0 ws S part := by
  obtain ⟨hI, hx⟩ := hinv
  obtain ⟨a_, b_, c_, d_⟩ := rxcPLAYX_11_0 hP.1 hin I0 hI l8 u8 l9 u9 e1
  exact ⟨a_, b_, ⟨c_, trivial⟩, d_⟩
theorem rxgPLAYK_11_0 {X : (Nat → Int → Int) → Prop} {S0 : Nat → Int → Int} {ws : List Int} (hP : rxPPLAYK S0 ws) : bx_obC rxL X S0 rxC240.2.2.1 (rxIPLAYK S0 ws) (rxmPLAYK S0 ws) 11 rxzPLAYK_11 rxoPLAYK_11_0 := by
  intro S S_p r r_p hinv hX hin hsm_ hseg
  obtain ⟨I0, I1, h0_, hr_, b_, f_, d_⟩ := bx_cl (evs := [(1, (0, 480), (0, 15), .inr (0, (0, 1))), (0, (0, 480), (0, 14), .inr (0, (9, 0)))]) (fvs := []) hseg (by decide +kernel) (by decide +kernel)
  have hinv : rxIPLAYK_11 S0 ws S (r 8) := hinv
  rw [← hr_ 8 (by decide)] at hinv
  obtain ⟨⟨l8, u8⟩, ⟨l9, u9⟩, -⟩ := b_
  obtain ⟨T0, ⟨e1, w_⟩, w0⟩ := d_
  subst w0
  subst w_
  have g := rxcPLAYK_11_0 hP hin I0 hinv l8 u8 l9 u9 e1
  refine ⟨bx_narP_ok (l := []) g.1, bx_nfP_ok h0_ (fvs := []) (by decide +kernel) g.2.1, ?_, ?_⟩
  · show rxIPLAYK_12 S0 ws (bx_up T0 480 (15) (1)) (bx_val [(0, 0), (0, 0), (0, 0), (0, 0), (0, 0), (0, 0), (0, 0), (0, 0), (8, 0), (0, 0), (0, 0)] r_p 8) (bx_val [(0, 0), (0, 0), (0, 0), (0, 0), (0, 0), (0, 0), (0, 0), (0, 0), (8, 0), (0, 0), (0, 0)] r_p 9) (bx_val [(0, 0), (0, 0), (0, 0), (0, 0), (0, 0), (0, 0), (0, 0), (0, 0), (8, 0), (0, 0), (0, 0)] r_p 10)
    rw [bx_val_x (n := 8) (e := (8, 0)) h0_ rfl, bx_val_x (n := 9) (e := (0, 0)) h0_ rfl, bx_val_x (n := 10) (e := (0, 0)) h0_ rfl]
    exact g.2.2.1
  · show rxmPLAYK_12 S0 ws (bx_up T0 480 (15) (1)) (bx_val [(0, 0), (0, 0), (0, 0), (0, 0), (0, 0), (0, 0), (0, 0), (0, 0), (8, 0), (0, 0), (0, 0)] r_p 8) (bx_val [(0, 0), (0, 0), (0, 0), (0, 0), (0, 0), (0, 0), (0, 0), (0, 0), (8, 0), (0, 0), (0, 0)] r_p 9) (bx_val [(0, 0), (0, 0), (0, 0), (0, 0), (0, 0), (0, 0), (0, 0), (0, 0), (8, 0), (0, 0), (0, 0)] r_p 10) < rxmPLAYK_11 S0 ws T0 (r 8)
    rw [bx_val_x (n := 8) (e := (8, 0)) h0_ rfl, bx_val_x (n := 9) (e := (0, 0)) h0_ rfl, bx_val_x (n := 10) (e := (0, 0)) h0_ rfl, ← hr_ 8 (by decide)]
    exact g.2.2.2
theorem rxdPLAYK_11_0 {S0 : Nat → Int → Int} {ws : List Int} {S : Nat → Int → Int} {part x9 x10 x11 : Int} (hP : rxPPLAYK S0 ws) (hin : bx_same rxL (bx_mdl rxC240.2.2.1) S0 S) (hin2 : bx_same rxL (bx_mdl rxC240.2.2.1) S (bx_up (bx_up S 480 1 ((-6))) 481 6 x11)) (I0 : bx_Inv rxL S) (I1 : bx_Inv rxL (bx_up (bx_up S 480 1 ((-6))) 481 6 x11)) (hinv : rxIPLAYK_11 S0 ws S part) (l8 : 0 ≤ part) (u8 : part ≤ 5) (l9 : 1 ≤ x9) (u9 : x9 ≤ 1) (l10 : (-2147483648) ≤ x10) (u10 : x10 ≤ 2147483647) (l11 : (-2147483648) ≤ x11) (u11 : x11 ≤ 2147483647) (f0 : x9 ≠ 0) (e3 : S 480 14 = x9) (e1 : (bx_up S 480 1 ((-6))) 481 6 = x10) : (True) ∧ rxPSPLAYK S0 ws (bx_up (bx_up S 480 1 ((-6))) 481 6 x11) (some ((-6))) := by
  obtain ⟨hI, hx⟩ := hinv
  obtain ⟨a_, c_⟩ := rxdPLAYX_11_0 hP.1 hin hin2 I0 I1 hI l8 u8 l9 u9 l10 u10 l11 u11 f0 e3 e1
  exact ⟨a_, c_, trivial⟩
theorem rxfPLAYK_11_0 {X : (Nat → Int → Int) → Prop} {S0 : Nat → Int → Int} {ws : List Int} (hP : rxPPLAYK S0 ws) : bx_obE rxL X S0 rxC240.2.2.1 (rxIPLAYK S0 ws) (rxPSPLAYK S0 ws) 11 rxzPLAYK_11 rxePLAYK_11_0 := by
  intro S S_p r r_p hinv hX hin hsm_ hseg
  obtain ⟨I0, I1, h0_, hr_, b_, f_, d_⟩ := bx_cl (evs := [(1, (0, 481), (0, 6), .inr (0, (11, 0))), (0, (0, 481), (0, 6), .inr (0, (10, 0))), (1, (0, 480), (0, 1), .inr (0, (0, (-6)))), (0, (0, 480), (0, 14), .inr (0, (9, 0)))]) (fvs := [(3, (9, 0), (0, 0), (0, 0))]) hseg (by decide +kernel) (by decide +kernel)
  have hinv : rxIPLAYK_11 S0 ws S (r 8) := hinv
  rw [← hr_ 8 (by decide)] at hinv
  obtain ⟨⟨l8, u8⟩, ⟨l9, u9⟩, ⟨l10, u10⟩, ⟨l11, u11⟩, -⟩ := b_
  obtain ⟨f0, -⟩ := f_
  obtain ⟨T0, ⟨e1, ⟨T2, ⟨e3, w_⟩, w2⟩⟩, w0⟩ := d_
  subst w0
  subst w2
  subst w_
  have g := rxdPLAYK_11_0 hP hin hsm_ I0 I1 hinv l8 u8 l9 u9 l10 u10 l11 u11 f0 e3 e1
  refine ⟨bx_narP_ok (l := []) g.1, ?_⟩
  show rxPSPLAYK S0 ws (bx_up (bx_up T2 480 (1) ((-6))) 481 (6) (r_p 11)) (some (bx_num r_p (.inr (0, (0, (-6))))))
  rw [bx_xv_ok h0_]
  exact g.2
theorem rxcPLAYK_12_0 {S0 : Nat → Int → Int} {ws : List Int} {S : Nat → Int → Int} {part n at_ x11 x12 : Int} (hP : rxPPLAYK S0 ws) (hin : bx_same rxL (bx_mdl rxC240.2.2.1) S0 S) (I0 : bx_Inv rxL S) (hinv : rxIPLAYK_12 S0 ws S part n at_) (l8 : 0 ≤ part) (u8 : part ≤ 5) (l9 : 0 ≤ n) (u9 : n ≤ 432) (l10 : 0 ≤ at_) (u10 : at_ ≤ 119) (l11 : 0 ≤ x11) (u11 : x11 ≤ 12) (l12 : 1 ≤ x12) (u12 : x12 ≤ 120) (f0 : at_ < x12) (f1 : x12 = 10 * (x11)) (e0 : S 480 16 = x11) : ((0 ≤ at_ ∧ at_ ≤ 110) ∧ True) ∧ (True) ∧ rxIPLAYK_13 S0 ws S part n at_ 0 ∧ rxmPLAYK_13 S0 ws S part n at_ 0 < rxmPLAYK_12 S0 ws S part n at_ := by
  obtain ⟨hI, hx⟩ := hinv
  obtain ⟨a_, b_, c_, d_⟩ := rxcPLAYX_12_0 hP.1 hin I0 hI l8 u8 l9 u9 l10 u10 l11 u11 l12 u12 f0 f1 e0
  exact ⟨a_, b_, ⟨c_, trivial⟩, d_⟩
theorem rxgPLAYK_12_0 {X : (Nat → Int → Int) → Prop} {S0 : Nat → Int → Int} {ws : List Int} (hP : rxPPLAYK S0 ws) : bx_obC rxL X S0 rxC240.2.2.1 (rxIPLAYK S0 ws) (rxmPLAYK S0 ws) 12 rxzPLAYK_12 rxoPLAYK_12_0 := by
  intro S S_p r r_p hinv hX hin hsm_ hseg
  obtain ⟨I0, I1, h0_, hr_, b_, f_, d_⟩ := bx_cl (evs := [(0, (0, 480), (0, 16), .inr (0, (11, 0)))]) (fvs := [(0, (10, 0), (12, 0), (0, 0)), (4, (12, 0), (11, 0), (0, 10))]) hseg (by decide +kernel) (by decide +kernel)
  have hinv : rxIPLAYK_12 S0 ws S (r 8) (r 9) (r 10) := hinv
  rw [← hr_ 8 (by decide), ← hr_ 9 (by decide), ← hr_ 10 (by decide)] at hinv
  obtain ⟨⟨l8, u8⟩, ⟨l9, u9⟩, ⟨l10, u10⟩, ⟨l11, u11⟩, ⟨l12, u12⟩, -⟩ := b_
  obtain ⟨f0, f1, -⟩ := f_
  obtain ⟨e0, w_⟩ := d_
  subst w_
  have g := rxcPLAYK_12_0 hP hin I0 hinv l8 u8 l9 u9 l10 u10 l11 u11 l12 u12 f0 f1 e0
  refine ⟨bx_narP_ok (l := [(10, 0, 110)]) g.1, bx_nfP_ok h0_ (fvs := []) (by decide +kernel) g.2.1, ?_, ?_⟩
  · show rxIPLAYK_13 S0 ws S_p (bx_val [(0, 0), (0, 0), (0, 0), (0, 0), (0, 0), (0, 0), (0, 0), (0, 0), (8, 0), (9, 0), (10, 0), (0, 0)] r_p 8) (bx_val [(0, 0), (0, 0), (0, 0), (0, 0), (0, 0), (0, 0), (0, 0), (0, 0), (8, 0), (9, 0), (10, 0), (0, 0)] r_p 9) (bx_val [(0, 0), (0, 0), (0, 0), (0, 0), (0, 0), (0, 0), (0, 0), (0, 0), (8, 0), (9, 0), (10, 0), (0, 0)] r_p 10) (bx_val [(0, 0), (0, 0), (0, 0), (0, 0), (0, 0), (0, 0), (0, 0), (0, 0), (8, 0), (9, 0), (10, 0), (0, 0)] r_p 11)
    rw [bx_val_x (n := 8) (e := (8, 0)) h0_ rfl, bx_val_x (n := 9) (e := (9, 0)) h0_ rfl, bx_val_x (n := 10) (e := (10, 0)) h0_ rfl, bx_val_x (n := 11) (e := (0, 0)) h0_ rfl]
    exact g.2.2.1
  · show rxmPLAYK_13 S0 ws S_p (bx_val [(0, 0), (0, 0), (0, 0), (0, 0), (0, 0), (0, 0), (0, 0), (0, 0), (8, 0), (9, 0), (10, 0), (0, 0)] r_p 8) (bx_val [(0, 0), (0, 0), (0, 0), (0, 0), (0, 0), (0, 0), (0, 0), (0, 0), (8, 0), (9, 0), (10, 0), (0, 0)] r_p 9) (bx_val [(0, 0), (0, 0), (0, 0), (0, 0), (0, 0), (0, 0), (0, 0), (0, 0), (8, 0), (9, 0), (10, 0), (0, 0)] r_p 10) (bx_val [(0, 0), (0, 0), (0, 0), (0, 0), (0, 0), (0, 0), (0, 0), (0, 0), (8, 0), (9, 0), (10, 0), (0, 0)] r_p 11) < rxmPLAYK_12 S0 ws S_p (r 8) (r 9) (r 10)
    rw [bx_val_x (n := 8) (e := (8, 0)) h0_ rfl, bx_val_x (n := 9) (e := (9, 0)) h0_ rfl, bx_val_x (n := 10) (e := (10, 0)) h0_ rfl, bx_val_x (n := 11) (e := (0, 0)) h0_ rfl, ← hr_ 8 (by decide), ← hr_ 9 (by decide), ← hr_ 10 (by decide)]
    exact g.2.2.2
theorem rxdPLAYK_12_0 {S0 : Nat → Int → Int} {ws : List Int} {S : Nat → Int → Int} {part n at_ x11 x12 : Int} (hP : rxPPLAYK S0 ws) (hin : bx_same rxL (bx_mdl rxC240.2.2.1) S0 S) (hin2 : bx_same rxL (bx_mdl rxC240.2.2.1) S (bx_up (bx_up S 480 15 0) 480 1 0)) (I0 : bx_Inv rxL S) (I1 : bx_Inv rxL (bx_up (bx_up S 480 15 0) 480 1 0)) (hinv : rxIPLAYK_12 S0 ws S part n at_) (l8 : 0 ≤ part) (u8 : part ≤ 5) (l9 : 0 ≤ n) (u9 : n ≤ 432) (l10 : 0 ≤ at_) (u10 : at_ ≤ 120) (l11 : 0 ≤ x11) (u11 : x11 ≤ 12) (l12 : 0 ≤ x12) (u12 : x12 ≤ 120) (f0 : x12 ≤ at_) (f1 : x12 = 10 * (x11)) (e2 : S 480 16 = x11) : (True) ∧ rxPSPLAYK S0 ws (bx_up (bx_up S 480 15 0) 480 1 0) (some n) := by
  obtain ⟨hI, hx⟩ := hinv
  obtain ⟨a_, c_⟩ := rxdPLAYX_12_0 hP.1 hin hin2 I0 I1 hI l8 u8 l9 u9 l10 u10 l11 u11 l12 u12 f0 f1 e2
  exact ⟨a_, c_, trivial⟩
theorem rxfPLAYK_12_0 {X : (Nat → Int → Int) → Prop} {S0 : Nat → Int → Int} {ws : List Int} (hP : rxPPLAYK S0 ws) : bx_obE rxL X S0 rxC240.2.2.1 (rxIPLAYK S0 ws) (rxPSPLAYK S0 ws) 12 rxzPLAYK_12 rxePLAYK_12_0 := by
  intro S S_p r r_p hinv hX hin hsm_ hseg
  obtain ⟨I0, I1, h0_, hr_, b_, f_, d_⟩ := bx_cl (evs := [(1, (0, 480), (0, 1), .inr (0, (0, 0))), (1, (0, 480), (0, 15), .inr (0, (0, 0))), (0, (0, 480), (0, 16), .inr (0, (11, 0)))]) (fvs := [(1, (12, 0), (10, 0), (0, 0)), (4, (12, 0), (11, 0), (0, 10))]) hseg (by decide +kernel) (by decide +kernel)
  have hinv : rxIPLAYK_12 S0 ws S (r 8) (r 9) (r 10) := hinv
  rw [← hr_ 8 (by decide), ← hr_ 9 (by decide), ← hr_ 10 (by decide)] at hinv
  obtain ⟨⟨l8, u8⟩, ⟨l9, u9⟩, ⟨l10, u10⟩, ⟨l11, u11⟩, ⟨l12, u12⟩, -⟩ := b_
  obtain ⟨f0, f1, -⟩ := f_
  obtain ⟨T0, ⟨T1, ⟨e2, w_⟩, w1⟩, w0⟩ := d_
  subst w0
  subst w1
  subst w_
  have g := rxdPLAYK_12_0 hP hin hsm_ I0 I1 hinv l8 u8 l9 u9 l10 u10 l11 u11 l12 u12 f0 f1 e2
  refine ⟨bx_narP_ok (l := []) g.1, ?_⟩
  show rxPSPLAYK S0 ws (bx_up (bx_up T1 480 (15) (0)) 480 (1) (0)) (some (bx_num r_p (.inr (0, (9, 0)))))
  rw [bx_xv_ok h0_]
  exact g.2
theorem rxcPLAYK_13_0 {S0 : Nat → Int → Int} {ws : List Int} {S : Nat → Int → Int} {part n at_ c x12 x13 x14 x15 x16 x17 x18 x19 : Int} (hP : rxPPLAYK S0 ws) (hin : bx_same rxL (bx_mdl rxC240.2.2.1) S0 S) (I0 : bx_Inv rxL S) (hinv : rxIPLAYK_13 S0 ws S part n at_ c) (l8 : 0 ≤ part) (u8 : part ≤ 5) (l9 : 0 ≤ n) (u9 : n ≤ 432) (l10 : 0 ≤ at_) (u10 : at_ ≤ 110) (l11 : 0 ≤ c) (u11 : c ≤ 35) (l12 : (-2147483648) ≤ x12) (u12 : x12 ≤ 2147483647) (l13 : 0 ≤ x13) (u13 : x13 ≤ 5) (l14 : 0 ≤ x14) (u14 : x14 ≤ 5) (l15 : (-2147483648) ≤ x15) (u15 : x15 ≤ 2147483647) (l16 : 0 ≤ x16) (u16 : x16 ≤ 5) (l17 : 0 ≤ x17) (u17 : x17 ≤ 5) (l18 : 0 ≤ x18) (u18 : x18 ≤ 5) (l19 : 0 ≤ x19) (u19 : x19 ≤ 5) (f0 : x16 = x17) (f1 : x15 ≠ (-1)) (f2 : x13 = x14) (f3 : x12 ≠ (-1)) (e3 : S 496 at_ = x12) (e2 : S 496 at_ = x13) (e1 : S 496 (at_ + 1) = x15) (e0 : S 496 (at_ + 1) = x16) : ((0 ≤ n ∧ n ≤ 431) ∧ True) ∧ (True) ∧ rxIPLAYK_14 S0 ws S part at_ c n at_ part x18 x19 ∧ rxmPLAYK_14 S0 ws S part at_ c n at_ part x18 x19 < rxmPLAYK_13 S0 ws S part n at_ c := by
  obtain ⟨hI, hx⟩ := hinv
  obtain ⟨a_, b_, c_, d_⟩ := rxcPLAYX_13_0 hP.1 hin I0 hI l8 u8 l9 u9 l10 u10 l11 u11 l12 u12 l13 u13 l14 u14 l15 u15 l16 u16 l17 u17 l18 u18 l19 u19 f0 f1 f2 f3 e3 e2 e1 e0
  exact ⟨a_, b_, ⟨c_, trivial⟩, d_⟩
theorem rxgPLAYK_13_0 {X : (Nat → Int → Int) → Prop} {S0 : Nat → Int → Int} {ws : List Int} (hP : rxPPLAYK S0 ws) : bx_obC rxL X S0 rxC240.2.2.1 (rxIPLAYK S0 ws) (rxmPLAYK S0 ws) 13 rxzPLAYK_13 rxoPLAYK_13_0 := by
  intro S S_p r r_p hinv hX hin hsm_ hseg
  obtain ⟨I0, I1, h0_, hr_, b_, f_, d_⟩ := bx_cl (evs := [(0, (0, 496), (10, 1), .inr (0, (16, 0))), (0, (0, 496), (10, 1), .inr (0, (15, 0))), (0, (0, 496), (10, 0), .inr (0, (13, 0))), (0, (0, 496), (10, 0), .inr (0, (12, 0)))]) (fvs := [(2, (16, 0), (17, 0), (0, 0)), (3, (15, 0), (0, (-1)), (0, 0)), (2, (13, 0), (14, 0), (0, 0)), (3, (12, 0), (0, (-1)), (0, 0))]) hseg (by decide +kernel) (by decide +kernel)
  have hinv : rxIPLAYK_13 S0 ws S (r 8) (r 9) (r 10) (r 11) := hinv
  rw [← hr_ 8 (by decide), ← hr_ 9 (by decide), ← hr_ 10 (by decide), ← hr_ 11 (by decide)] at hinv
  obtain ⟨⟨l8, u8⟩, ⟨l9, u9⟩, ⟨l10, u10⟩, ⟨l11, u11⟩, ⟨l12, u12⟩, ⟨l13, u13⟩, ⟨l14, u14⟩, ⟨l15, u15⟩, ⟨l16, u16⟩, ⟨l17, u17⟩, ⟨l18, u18⟩, ⟨l19, u19⟩, -⟩ := b_
  obtain ⟨f0, f1, f2, f3, -⟩ := f_
  obtain ⟨e0, ⟨e1, ⟨e2, ⟨e3, w_⟩⟩⟩⟩ := d_
  subst w_
  have g := rxcPLAYK_13_0 hP hin I0 hinv l8 u8 l9 u9 l10 u10 l11 u11 l12 u12 l13 u13 l14 u14 l15 u15 l16 u16 l17 u17 l18 u18 l19 u19 f0 f1 f2 f3 e3 e2 e1 e0
  refine ⟨bx_narP_ok (l := [(9, 0, 431)]) g.1, bx_nfP_ok h0_ (fvs := []) (by decide +kernel) g.2.1, ?_, ?_⟩
  · show rxIPLAYK_14 S0 ws S_p (bx_val [(0, 0), (0, 0), (0, 0), (0, 0), (0, 0), (0, 0), (0, 0), (0, 0), (8, 0), (10, 0), (11, 0), (9, 0), (10, 0), (8, 0), (18, 0), (19, 0)] r_p 8) (bx_val [(0, 0), (0, 0), (0, 0), (0, 0), (0, 0), (0, 0), (0, 0), (0, 0), (8, 0), (10, 0), (11, 0), (9, 0), (10, 0), (8, 0), (18, 0), (19, 0)] r_p 9) (bx_val [(0, 0), (0, 0), (0, 0), (0, 0), (0, 0), (0, 0), (0, 0), (0, 0), (8, 0), (10, 0), (11, 0), (9, 0), (10, 0), (8, 0), (18, 0), (19, 0)] r_p 10) (bx_val [(0, 0), (0, 0), (0, 0), (0, 0), (0, 0), (0, 0), (0, 0), (0, 0), (8, 0), (10, 0), (11, 0), (9, 0), (10, 0), (8, 0), (18, 0), (19, 0)] r_p 11) (bx_val [(0, 0), (0, 0), (0, 0), (0, 0), (0, 0), (0, 0), (0, 0), (0, 0), (8, 0), (10, 0), (11, 0), (9, 0), (10, 0), (8, 0), (18, 0), (19, 0)] r_p 12) (bx_val [(0, 0), (0, 0), (0, 0), (0, 0), (0, 0), (0, 0), (0, 0), (0, 0), (8, 0), (10, 0), (11, 0), (9, 0), (10, 0), (8, 0), (18, 0), (19, 0)] r_p 13) (bx_val [(0, 0), (0, 0), (0, 0), (0, 0), (0, 0), (0, 0), (0, 0), (0, 0), (8, 0), (10, 0), (11, 0), (9, 0), (10, 0), (8, 0), (18, 0), (19, 0)] r_p 14) (bx_val [(0, 0), (0, 0), (0, 0), (0, 0), (0, 0), (0, 0), (0, 0), (0, 0), (8, 0), (10, 0), (11, 0), (9, 0), (10, 0), (8, 0), (18, 0), (19, 0)] r_p 15)
    rw [bx_val_x (n := 8) (e := (8, 0)) h0_ rfl, bx_val_x (n := 9) (e := (10, 0)) h0_ rfl, bx_val_x (n := 10) (e := (11, 0)) h0_ rfl, bx_val_x (n := 11) (e := (9, 0)) h0_ rfl, bx_val_x (n := 12) (e := (10, 0)) h0_ rfl, bx_val_x (n := 13) (e := (8, 0)) h0_ rfl, bx_val_x (n := 14) (e := (18, 0)) h0_ rfl, bx_val_x (n := 15) (e := (19, 0)) h0_ rfl]
    exact g.2.2.1
  · show rxmPLAYK_14 S0 ws S_p (bx_val [(0, 0), (0, 0), (0, 0), (0, 0), (0, 0), (0, 0), (0, 0), (0, 0), (8, 0), (10, 0), (11, 0), (9, 0), (10, 0), (8, 0), (18, 0), (19, 0)] r_p 8) (bx_val [(0, 0), (0, 0), (0, 0), (0, 0), (0, 0), (0, 0), (0, 0), (0, 0), (8, 0), (10, 0), (11, 0), (9, 0), (10, 0), (8, 0), (18, 0), (19, 0)] r_p 9) (bx_val [(0, 0), (0, 0), (0, 0), (0, 0), (0, 0), (0, 0), (0, 0), (0, 0), (8, 0), (10, 0), (11, 0), (9, 0), (10, 0), (8, 0), (18, 0), (19, 0)] r_p 10) (bx_val [(0, 0), (0, 0), (0, 0), (0, 0), (0, 0), (0, 0), (0, 0), (0, 0), (8, 0), (10, 0), (11, 0), (9, 0), (10, 0), (8, 0), (18, 0), (19, 0)] r_p 11) (bx_val [(0, 0), (0, 0), (0, 0), (0, 0), (0, 0), (0, 0), (0, 0), (0, 0), (8, 0), (10, 0), (11, 0), (9, 0), (10, 0), (8, 0), (18, 0), (19, 0)] r_p 12) (bx_val [(0, 0), (0, 0), (0, 0), (0, 0), (0, 0), (0, 0), (0, 0), (0, 0), (8, 0), (10, 0), (11, 0), (9, 0), (10, 0), (8, 0), (18, 0), (19, 0)] r_p 13) (bx_val [(0, 0), (0, 0), (0, 0), (0, 0), (0, 0), (0, 0), (0, 0), (0, 0), (8, 0), (10, 0), (11, 0), (9, 0), (10, 0), (8, 0), (18, 0), (19, 0)] r_p 14) (bx_val [(0, 0), (0, 0), (0, 0), (0, 0), (0, 0), (0, 0), (0, 0), (0, 0), (8, 0), (10, 0), (11, 0), (9, 0), (10, 0), (8, 0), (18, 0), (19, 0)] r_p 15) < rxmPLAYK_13 S0 ws S_p (r 8) (r 9) (r 10) (r 11)
    rw [bx_val_x (n := 8) (e := (8, 0)) h0_ rfl, bx_val_x (n := 9) (e := (10, 0)) h0_ rfl, bx_val_x (n := 10) (e := (11, 0)) h0_ rfl, bx_val_x (n := 11) (e := (9, 0)) h0_ rfl, bx_val_x (n := 12) (e := (10, 0)) h0_ rfl, bx_val_x (n := 13) (e := (8, 0)) h0_ rfl, bx_val_x (n := 14) (e := (18, 0)) h0_ rfl, bx_val_x (n := 15) (e := (19, 0)) h0_ rfl, ← hr_ 8 (by decide), ← hr_ 9 (by decide), ← hr_ 10 (by decide), ← hr_ 11 (by decide)]
    exact g.2.2.2
theorem rxcPLAYK_13_1 {S0 : Nat → Int → Int} {ws : List Int} {S : Nat → Int → Int} {part n at_ c x12 x13 x14 x15 x16 x17 : Int} (hP : rxPPLAYK S0 ws) (hin : bx_same rxL (bx_mdl rxC240.2.2.1) S0 S) (I0 : bx_Inv rxL S) (hinv : rxIPLAYK_13 S0 ws S part n at_ c) (l8 : 0 ≤ part) (u8 : part ≤ 5) (l9 : 0 ≤ n) (u9 : n ≤ 432) (l10 : 0 ≤ at_) (u10 : at_ ≤ 110) (l11 : 0 ≤ c) (u11 : c ≤ 35) (l12 : (-2147483648) ≤ x12) (u12 : x12 ≤ 2147483647) (l13 : 0 ≤ x13) (u13 : x13 ≤ 5) (l14 : 0 ≤ x14) (u14 : x14 ≤ 5) (l15 : (-2147483648) ≤ x15) (u15 : x15 ≤ 2147483647) (l16 : (-2147483648) ≤ x16) (u16 : x16 ≤ 2147483647) (l17 : 0 ≤ x17) (u17 : x17 ≤ 5) (f0 : x16 ≠ x17) (f1 : x15 ≠ (-1)) (f2 : x13 = x14) (f3 : x12 ≠ (-1)) (e3 : S 496 at_ = x12) (e2 : S 496 at_ = x13) (e1 : S 496 (at_ + 1) = x15) (e0 : S 496 (at_ + 1) = x16) : (True) ∧ (True) ∧ rxIPLAYK_13 S0 ws S part n at_ (c + 1) ∧ rxmPLAYK_13 S0 ws S part n at_ (c + 1) < rxmPLAYK_13 S0 ws S part n at_ c := by
  obtain ⟨hI, hx⟩ := hinv
  obtain ⟨a_, b_, c_, d_⟩ := rxcPLAYX_13_1 hP.1 hin I0 hI l8 u8 l9 u9 l10 u10 l11 u11 l12 u12 l13 u13 l14 u14 l15 u15 l16 u16 l17 u17 f0 f1 f2 f3 e3 e2 e1 e0
  exact ⟨a_, b_, ⟨c_, trivial⟩, d_⟩
theorem rxgPLAYK_13_1 {X : (Nat → Int → Int) → Prop} {S0 : Nat → Int → Int} {ws : List Int} (hP : rxPPLAYK S0 ws) : bx_obC rxL X S0 rxC240.2.2.1 (rxIPLAYK S0 ws) (rxmPLAYK S0 ws) 13 rxzPLAYK_13 rxoPLAYK_13_1 := by
  intro S S_p r r_p hinv hX hin hsm_ hseg
  obtain ⟨I0, I1, h0_, hr_, b_, f_, d_⟩ := bx_cl (evs := [(0, (0, 496), (10, 1), .inr (0, (16, 0))), (0, (0, 496), (10, 1), .inr (0, (15, 0))), (0, (0, 496), (10, 0), .inr (0, (13, 0))), (0, (0, 496), (10, 0), .inr (0, (12, 0)))]) (fvs := [(3, (16, 0), (17, 0), (0, 0)), (3, (15, 0), (0, (-1)), (0, 0)), (2, (13, 0), (14, 0), (0, 0)), (3, (12, 0), (0, (-1)), (0, 0))]) hseg (by decide +kernel) (by decide +kernel)
  have hinv : rxIPLAYK_13 S0 ws S (r 8) (r 9) (r 10) (r 11) := hinv
  rw [← hr_ 8 (by decide), ← hr_ 9 (by decide), ← hr_ 10 (by decide), ← hr_ 11 (by decide)] at hinv
  obtain ⟨⟨l8, u8⟩, ⟨l9, u9⟩, ⟨l10, u10⟩, ⟨l11, u11⟩, ⟨l12, u12⟩, ⟨l13, u13⟩, ⟨l14, u14⟩, ⟨l15, u15⟩, ⟨l16, u16⟩, ⟨l17, u17⟩, -⟩ := b_
  obtain ⟨f0, f1, f2, f3, -⟩ := f_
  obtain ⟨e0, ⟨e1, ⟨e2, ⟨e3, w_⟩⟩⟩⟩ := d_
  subst w_
  have g := rxcPLAYK_13_1 hP hin I0 hinv l8 u8 l9 u9 l10 u10 l11 u11 l12 u12 l13 u13 l14 u14 l15 u15 l16 u16 l17 u17 f0 f1 f2 f3 e3 e2 e1 e0
  refine ⟨bx_narP_ok (l := []) g.1, bx_nfP_ok h0_ (fvs := []) (by decide +kernel) g.2.1, ?_, ?_⟩
  · show rxIPLAYK_13 S0 ws S_p (bx_val [(0, 0), (0, 0), (0, 0), (0, 0), (0, 0), (0, 0), (0, 0), (0, 0), (8, 0), (9, 0), (10, 0), (11, 1)] r_p 8) (bx_val [(0, 0), (0, 0), (0, 0), (0, 0), (0, 0), (0, 0), (0, 0), (0, 0), (8, 0), (9, 0), (10, 0), (11, 1)] r_p 9) (bx_val [(0, 0), (0, 0), (0, 0), (0, 0), (0, 0), (0, 0), (0, 0), (0, 0), (8, 0), (9, 0), (10, 0), (11, 1)] r_p 10) (bx_val [(0, 0), (0, 0), (0, 0), (0, 0), (0, 0), (0, 0), (0, 0), (0, 0), (8, 0), (9, 0), (10, 0), (11, 1)] r_p 11)
    rw [bx_val_x (n := 8) (e := (8, 0)) h0_ rfl, bx_val_x (n := 9) (e := (9, 0)) h0_ rfl, bx_val_x (n := 10) (e := (10, 0)) h0_ rfl, bx_val_x (n := 11) (e := (11, 1)) h0_ rfl]
    exact g.2.2.1
  · show rxmPLAYK_13 S0 ws S_p (bx_val [(0, 0), (0, 0), (0, 0), (0, 0), (0, 0), (0, 0), (0, 0), (0, 0), (8, 0), (9, 0), (10, 0), (11, 1)] r_p 8) (bx_val [(0, 0), (0, 0), (0, 0), (0, 0), (0, 0), (0, 0), (0, 0), (0, 0), (8, 0), (9, 0), (10, 0), (11, 1)] r_p 9) (bx_val [(0, 0), (0, 0), (0, 0), (0, 0), (0, 0), (0, 0), (0, 0), (0, 0), (8, 0), (9, 0), (10, 0), (11, 1)] r_p 10) (bx_val [(0, 0), (0, 0), (0, 0), (0, 0), (0, 0), (0, 0), (0, 0), (0, 0), (8, 0), (9, 0), (10, 0), (11, 1)] r_p 11) < rxmPLAYK_13 S0 ws S_p (r 8) (r 9) (r 10) (r 11)
    rw [bx_val_x (n := 8) (e := (8, 0)) h0_ rfl, bx_val_x (n := 9) (e := (9, 0)) h0_ rfl, bx_val_x (n := 10) (e := (10, 0)) h0_ rfl, bx_val_x (n := 11) (e := (11, 1)) h0_ rfl, ← hr_ 8 (by decide), ← hr_ 9 (by decide), ← hr_ 10 (by decide), ← hr_ 11 (by decide)]
    exact g.2.2.2
theorem rxcPLAYK_13_2 {S0 : Nat → Int → Int} {ws : List Int} {S : Nat → Int → Int} {part n at_ c x12 x13 x14 x15 x16 x17 : Int} (hP : rxPPLAYK S0 ws) (hin : bx_same rxL (bx_mdl rxC240.2.2.1) S0 S) (I0 : bx_Inv rxL S) (hinv : rxIPLAYK_13 S0 ws S part n at_ c) (l8 : 0 ≤ part) (u8 : part ≤ 5) (l9 : 0 ≤ n) (u9 : n ≤ 432) (l10 : 0 ≤ at_) (u10 : at_ ≤ 110) (l11 : 0 ≤ c) (u11 : c ≤ 35) (l12 : (-2147483648) ≤ x12) (u12 : x12 ≤ 2147483647) (l13 : 0 ≤ x13) (u13 : x13 ≤ 5) (l14 : 0 ≤ x14) (u14 : x14 ≤ 5) (l15 : (-1) ≤ x15) (u15 : x15 ≤ (-1)) (l16 : 0 ≤ x16) (u16 : x16 ≤ 5) (l17 : 0 ≤ x17) (u17 : x17 ≤ 5) (f0 : x13 = x14) (f1 : x12 ≠ (-1)) (e2 : S 496 at_ = x12) (e1 : S 496 at_ = x13) (e0 : S 496 (at_ + 1) = x15) : ((0 ≤ n ∧ n ≤ 431) ∧ True) ∧ (True) ∧ rxIPLAYK_14 S0 ws S part at_ c n at_ part x16 x17 ∧ rxmPLAYK_14 S0 ws S part at_ c n at_ part x16 x17 < rxmPLAYK_13 S0 ws S part n at_ c := by
  obtain ⟨hI, hx⟩ := hinv
  obtain ⟨a_, b_, c_, d_⟩ := rxcPLAYX_13_2 hP.1 hin I0 hI l8 u8 l9 u9 l10 u10 l11 u11 l12 u12 l13 u13 l14 u14 l15 u15 l16 u16 l17 u17 f0 f1 e2 e1 e0
  exact ⟨a_, b_, ⟨c_, trivial⟩, d_⟩
theorem rxgPLAYK_13_2 {X : (Nat → Int → Int) → Prop} {S0 : Nat → Int → Int} {ws : List Int} (hP : rxPPLAYK S0 ws) : bx_obC rxL X S0 rxC240.2.2.1 (rxIPLAYK S0 ws) (rxmPLAYK S0 ws) 13 rxzPLAYK_13 rxoPLAYK_13_2 := by
  intro S S_p r r_p hinv hX hin hsm_ hseg
  obtain ⟨I0, I1, h0_, hr_, b_, f_, d_⟩ := bx_cl (evs := [(0, (0, 496), (10, 1), .inr (0, (15, 0))), (0, (0, 496), (10, 0), .inr (0, (13, 0))), (0, (0, 496), (10, 0), .inr (0, (12, 0)))]) (fvs := [(2, (13, 0), (14, 0), (0, 0)), (3, (12, 0), (0, (-1)), (0, 0))]) hseg (by decide +kernel) (by decide +kernel)
  have hinv : rxIPLAYK_13 S0 ws S (r 8) (r 9) (r 10) (r 11) := hinv
  rw [← hr_ 8 (by decide), ← hr_ 9 (by decide), ← hr_ 10 (by decide), ← hr_ 11 (by decide)] at hinv
  obtain ⟨⟨l8, u8⟩, ⟨l9, u9⟩, ⟨l10, u10⟩, ⟨l11, u11⟩, ⟨l12, u12⟩, ⟨l13, u13⟩, ⟨l14, u14⟩, ⟨l15, u15⟩, ⟨l16, u16⟩, ⟨l17, u17⟩, -⟩ := b_
  obtain ⟨f0, f1, -⟩ := f_
  obtain ⟨e0, ⟨e1, ⟨e2, w_⟩⟩⟩ := d_
  subst w_
  have g := rxcPLAYK_13_2 hP hin I0 hinv l8 u8 l9 u9 l10 u10 l11 u11 l12 u12 l13 u13 l14 u14 l15 u15 l16 u16 l17 u17 f0 f1 e2 e1 e0
  refine ⟨bx_narP_ok (l := [(9, 0, 431)]) g.1, bx_nfP_ok h0_ (fvs := []) (by decide +kernel) g.2.1, ?_, ?_⟩
  · show rxIPLAYK_14 S0 ws S_p (bx_val [(0, 0), (0, 0), (0, 0), (0, 0), (0, 0), (0, 0), (0, 0), (0, 0), (8, 0), (10, 0), (11, 0), (9, 0), (10, 0), (8, 0), (16, 0), (17, 0)] r_p 8) (bx_val [(0, 0), (0, 0), (0, 0), (0, 0), (0, 0), (0, 0), (0, 0), (0, 0), (8, 0), (10, 0), (11, 0), (9, 0), (10, 0), (8, 0), (16, 0), (17, 0)] r_p 9) (bx_val [(0, 0), (0, 0), (0, 0), (0, 0), (0, 0), (0, 0), (0, 0), (0, 0), (8, 0), (10, 0), (11, 0), (9, 0), (10, 0), (8, 0), (16, 0), (17, 0)] r_p 10) (bx_val [(0, 0), (0, 0), (0, 0), (0, 0), (0, 0), (0, 0), (0, 0), (0, 0), (8, 0), (10, 0), (11, 0), (9, 0), (10, 0), (8, 0), (16, 0), (17, 0)] r_p 11) (bx_val [(0, 0), (0, 0), (0, 0), (0, 0), (0, 0), (0, 0), (0, 0), (0, 0), (8, 0), (10, 0), (11, 0), (9, 0), (10, 0), (8, 0), (16, 0), (17, 0)] r_p 12) (bx_val [(0, 0), (0, 0), (0, 0), (0, 0), (0, 0), (0, 0), (0, 0), (0, 0), (8, 0), (10, 0), (11, 0), (9, 0), (10, 0), (8, 0), (16, 0), (17, 0)] r_p 13) (bx_val [(0, 0), (0, 0), (0, 0), (0, 0), (0, 0), (0, 0), (0, 0), (0, 0), (8, 0), (10, 0), (11, 0), (9, 0), (10, 0), (8, 0), (16, 0), (17, 0)] r_p 14) (bx_val [(0, 0), (0, 0), (0, 0), (0, 0), (0, 0), (0, 0), (0, 0), (0, 0), (8, 0), (10, 0), (11, 0), (9, 0), (10, 0), (8, 0), (16, 0), (17, 0)] r_p 15)
    rw [bx_val_x (n := 8) (e := (8, 0)) h0_ rfl, bx_val_x (n := 9) (e := (10, 0)) h0_ rfl, bx_val_x (n := 10) (e := (11, 0)) h0_ rfl, bx_val_x (n := 11) (e := (9, 0)) h0_ rfl, bx_val_x (n := 12) (e := (10, 0)) h0_ rfl, bx_val_x (n := 13) (e := (8, 0)) h0_ rfl, bx_val_x (n := 14) (e := (16, 0)) h0_ rfl, bx_val_x (n := 15) (e := (17, 0)) h0_ rfl]
    exact g.2.2.1
  · show rxmPLAYK_14 S0 ws S_p (bx_val [(0, 0), (0, 0), (0, 0), (0, 0), (0, 0), (0, 0), (0, 0), (0, 0), (8, 0), (10, 0), (11, 0), (9, 0), (10, 0), (8, 0), (16, 0), (17, 0)] r_p 8) (bx_val [(0, 0), (0, 0), (0, 0), (0, 0), (0, 0), (0, 0), (0, 0), (0, 0), (8, 0), (10, 0), (11, 0), (9, 0), (10, 0), (8, 0), (16, 0), (17, 0)] r_p 9) (bx_val [(0, 0), (0, 0), (0, 0), (0, 0), (0, 0), (0, 0), (0, 0), (0, 0), (8, 0), (10, 0), (11, 0), (9, 0), (10, 0), (8, 0), (16, 0), (17, 0)] r_p 10) (bx_val [(0, 0), (0, 0), (0, 0), (0, 0), (0, 0), (0, 0), (0, 0), (0, 0), (8, 0), (10, 0), (11, 0), (9, 0), (10, 0), (8, 0), (16, 0), (17, 0)] r_p 11) (bx_val [(0, 0), (0, 0), (0, 0), (0, 0), (0, 0), (0, 0), (0, 0), (0, 0), (8, 0), (10, 0), (11, 0), (9, 0), (10, 0), (8, 0), (16, 0), (17, 0)] r_p 12) (bx_val [(0, 0), (0, 0), (0, 0), (0, 0), (0, 0), (0, 0), (0, 0), (0, 0), (8, 0), (10, 0), (11, 0), (9, 0), (10, 0), (8, 0), (16, 0), (17, 0)] r_p 13) (bx_val [(0, 0), (0, 0), (0, 0), (0, 0), (0, 0), (0, 0), (0, 0), (0, 0), (8, 0), (10, 0), (11, 0), (9, 0), (10, 0), (8, 0), (16, 0), (17, 0)] r_p 14) (bx_val [(0, 0), (0, 0), (0, 0), (0, 0), (0, 0), (0, 0), (0, 0), (0, 0), (8, 0), (10, 0), (11, 0), (9, 0), (10, 0), (8, 0), (16, 0), (17, 0)] r_p 15) < rxmPLAYK_13 S0 ws S_p (r 8) (r 9) (r 10) (r 11)
    rw [bx_val_x (n := 8) (e := (8, 0)) h0_ rfl, bx_val_x (n := 9) (e := (10, 0)) h0_ rfl, bx_val_x (n := 10) (e := (11, 0)) h0_ rfl, bx_val_x (n := 11) (e := (9, 0)) h0_ rfl, bx_val_x (n := 12) (e := (10, 0)) h0_ rfl, bx_val_x (n := 13) (e := (8, 0)) h0_ rfl, bx_val_x (n := 14) (e := (16, 0)) h0_ rfl, bx_val_x (n := 15) (e := (17, 0)) h0_ rfl, ← hr_ 8 (by decide), ← hr_ 9 (by decide), ← hr_ 10 (by decide), ← hr_ 11 (by decide)]
    exact g.2.2.2
theorem rxcPLAYK_13_3 {S0 : Nat → Int → Int} {ws : List Int} {S : Nat → Int → Int} {part n at_ c x12 x13 x14 : Int} (hP : rxPPLAYK S0 ws) (hin : bx_same rxL (bx_mdl rxC240.2.2.1) S0 S) (I0 : bx_Inv rxL S) (hinv : rxIPLAYK_13 S0 ws S part n at_ c) (l8 : 0 ≤ part) (u8 : part ≤ 5) (l9 : 0 ≤ n) (u9 : n ≤ 432) (l10 : 0 ≤ at_) (u10 : at_ ≤ 110) (l11 : 0 ≤ c) (u11 : c ≤ 35) (l12 : (-2147483648) ≤ x12) (u12 : x12 ≤ 2147483647) (l13 : (-2147483648) ≤ x13) (u13 : x13 ≤ 2147483647) (l14 : 0 ≤ x14) (u14 : x14 ≤ 5) (f0 : x13 ≠ x14) (f1 : x12 ≠ (-1)) (e1 : S 496 at_ = x12) (e0 : S 496 at_ = x13) : (True) ∧ (True) ∧ rxIPLAYK_13 S0 ws S part n at_ (c + 1) ∧ rxmPLAYK_13 S0 ws S part n at_ (c + 1) < rxmPLAYK_13 S0 ws S part n at_ c := by
  obtain ⟨hI, hx⟩ := hinv
  obtain ⟨a_, b_, c_, d_⟩ := rxcPLAYX_13_3 hP.1 hin I0 hI l8 u8 l9 u9 l10 u10 l11 u11 l12 u12 l13 u13 l14 u14 f0 f1 e1 e0
  exact ⟨a_, b_, ⟨c_, trivial⟩, d_⟩
theorem rxgPLAYK_13_3 {X : (Nat → Int → Int) → Prop} {S0 : Nat → Int → Int} {ws : List Int} (hP : rxPPLAYK S0 ws) : bx_obC rxL X S0 rxC240.2.2.1 (rxIPLAYK S0 ws) (rxmPLAYK S0 ws) 13 rxzPLAYK_13 rxoPLAYK_13_3 := by
  intro S S_p r r_p hinv hX hin hsm_ hseg
  obtain ⟨I0, I1, h0_, hr_, b_, f_, d_⟩ := bx_cl (evs := [(0, (0, 496), (10, 0), .inr (0, (13, 0))), (0, (0, 496), (10, 0), .inr (0, (12, 0)))]) (fvs := [(3, (13, 0), (14, 0), (0, 0)), (3, (12, 0), (0, (-1)), (0, 0))]) hseg (by decide +kernel) (by decide +kernel)
  have hinv : rxIPLAYK_13 S0 ws S (r 8) (r 9) (r 10) (r 11) := hinv
  rw [← hr_ 8 (by decide), ← hr_ 9 (by decide), ← hr_ 10 (by decide), ← hr_ 11 (by decide)] at hinv
  obtain ⟨⟨l8, u8⟩, ⟨l9, u9⟩, ⟨l10, u10⟩, ⟨l11, u11⟩, ⟨l12, u12⟩, ⟨l13, u13⟩, ⟨l14, u14⟩, -⟩ := b_
  obtain ⟨f0, f1, -⟩ := f_
  obtain ⟨e0, ⟨e1, w_⟩⟩ := d_
  subst w_
  have g := rxcPLAYK_13_3 hP hin I0 hinv l8 u8 l9 u9 l10 u10 l11 u11 l12 u12 l13 u13 l14 u14 f0 f1 e1 e0
  refine ⟨bx_narP_ok (l := []) g.1, bx_nfP_ok h0_ (fvs := []) (by decide +kernel) g.2.1, ?_, ?_⟩
  · show rxIPLAYK_13 S0 ws S_p (bx_val [(0, 0), (0, 0), (0, 0), (0, 0), (0, 0), (0, 0), (0, 0), (0, 0), (8, 0), (9, 0), (10, 0), (11, 1)] r_p 8) (bx_val [(0, 0), (0, 0), (0, 0), (0, 0), (0, 0), (0, 0), (0, 0), (0, 0), (8, 0), (9, 0), (10, 0), (11, 1)] r_p 9) (bx_val [(0, 0), (0, 0), (0, 0), (0, 0), (0, 0), (0, 0), (0, 0), (0, 0), (8, 0), (9, 0), (10, 0), (11, 1)] r_p 10) (bx_val [(0, 0), (0, 0), (0, 0), (0, 0), (0, 0), (0, 0), (0, 0), (0, 0), (8, 0), (9, 0), (10, 0), (11, 1)] r_p 11)
    rw [bx_val_x (n := 8) (e := (8, 0)) h0_ rfl, bx_val_x (n := 9) (e := (9, 0)) h0_ rfl, bx_val_x (n := 10) (e := (10, 0)) h0_ rfl, bx_val_x (n := 11) (e := (11, 1)) h0_ rfl]
    exact g.2.2.1
  · show rxmPLAYK_13 S0 ws S_p (bx_val [(0, 0), (0, 0), (0, 0), (0, 0), (0, 0), (0, 0), (0, 0), (0, 0), (8, 0), (9, 0), (10, 0), (11, 1)] r_p 8) (bx_val [(0, 0), (0, 0), (0, 0), (0, 0), (0, 0), (0, 0), (0, 0), (0, 0), (8, 0), (9, 0), (10, 0), (11, 1)] r_p 9) (bx_val [(0, 0), (0, 0), (0, 0), (0, 0), (0, 0), (0, 0), (0, 0), (0, 0), (8, 0), (9, 0), (10, 0), (11, 1)] r_p 10) (bx_val [(0, 0), (0, 0), (0, 0), (0, 0), (0, 0), (0, 0), (0, 0), (0, 0), (8, 0), (9, 0), (10, 0), (11, 1)] r_p 11) < rxmPLAYK_13 S0 ws S_p (r 8) (r 9) (r 10) (r 11)
    rw [bx_val_x (n := 8) (e := (8, 0)) h0_ rfl, bx_val_x (n := 9) (e := (9, 0)) h0_ rfl, bx_val_x (n := 10) (e := (10, 0)) h0_ rfl, bx_val_x (n := 11) (e := (11, 1)) h0_ rfl, ← hr_ 8 (by decide), ← hr_ 9 (by decide), ← hr_ 10 (by decide), ← hr_ 11 (by decide)]
    exact g.2.2.2
theorem rxcPLAYK_13_4 {S0 : Nat → Int → Int} {ws : List Int} {S : Nat → Int → Int} {part n at_ c x12 x13 x14 x15 x16 x17 : Int} (hP : rxPPLAYK S0 ws) (hin : bx_same rxL (bx_mdl rxC240.2.2.1) S0 S) (I0 : bx_Inv rxL S) (hinv : rxIPLAYK_13 S0 ws S part n at_ c) (l8 : 0 ≤ part) (u8 : part ≤ 5) (l9 : 0 ≤ n) (u9 : n ≤ 432) (l10 : 0 ≤ at_) (u10 : at_ ≤ 110) (l11 : 0 ≤ c) (u11 : c ≤ 35) (l12 : (-1) ≤ x12) (u12 : x12 ≤ (-1)) (l13 : (-2147483648) ≤ x13) (u13 : x13 ≤ 2147483647) (l14 : 0 ≤ x14) (u14 : x14 ≤ 5) (l15 : 0 ≤ x15) (u15 : x15 ≤ 5) (l16 : 0 ≤ x16) (u16 : x16 ≤ 5) (l17 : 0 ≤ x17) (u17 : x17 ≤ 5) (f0 : x14 = x15) (f1 : x13 ≠ (-1)) (e2 : S 496 at_ = x12) (e1 : S 496 (at_ + 1) = x13) (e0 : S 496 (at_ + 1) = x14) : ((0 ≤ n ∧ n ≤ 431) ∧ True) ∧ (True) ∧ rxIPLAYK_14 S0 ws S part at_ c n at_ part x16 x17 ∧ rxmPLAYK_14 S0 ws S part at_ c n at_ part x16 x17 < rxmPLAYK_13 S0 ws S part n at_ c := by
  obtain ⟨hI, hx⟩ := hinv
  obtain ⟨a_, b_, c_, d_⟩ := rxcPLAYX_13_4 hP.1 hin I0 hI l8 u8 l9 u9 l10 u10 l11 u11 l12 u12 l13 u13 l14 u14 l15 u15 l16 u16 l17 u17 f0 f1 e2 e1 e0
  exact ⟨a_, b_, ⟨c_, trivial⟩, d_⟩
theorem rxgPLAYK_13_4 {X : (Nat → Int → Int) → Prop} {S0 : Nat → Int → Int} {ws : List Int} (hP : rxPPLAYK S0 ws) : bx_obC rxL X S0 rxC240.2.2.1 (rxIPLAYK S0 ws) (rxmPLAYK S0 ws) 13 rxzPLAYK_13 rxoPLAYK_13_4 := by
  intro S S_p r r_p hinv hX hin hsm_ hseg
  obtain ⟨I0, I1, h0_, hr_, b_, f_, d_⟩ := bx_cl (evs := [(0, (0, 496), (10, 1), .inr (0, (14, 0))), (0, (0, 496), (10, 1), .inr (0, (13, 0))), (0, (0, 496), (10, 0), .inr (0, (12, 0)))]) (fvs := [(2, (14, 0), (15, 0), (0, 0)), (3, (13, 0), (0, (-1)), (0, 0))]) hseg (by decide +kernel) (by decide +kernel)
  have hinv : rxIPLAYK_13 S0 ws S (r 8) (r 9) (r 10) (r 11) := hinv
  rw [← hr_ 8 (by decide), ← hr_ 9 (by decide), ← hr_ 10 (by decide), ← hr_ 11 (by decide)] at hinv
  obtain ⟨⟨l8, u8⟩, ⟨l9, u9⟩, ⟨l10, u10⟩, ⟨l11, u11⟩, ⟨l12, u12⟩, ⟨l13, u13⟩, ⟨l14, u14⟩, ⟨l15, u15⟩, ⟨l16, u16⟩, ⟨l17, u17⟩, -⟩ := b_
  obtain ⟨f0, f1, -⟩ := f_
  obtain ⟨e0, ⟨e1, ⟨e2, w_⟩⟩⟩ := d_
  subst w_
  have g := rxcPLAYK_13_4 hP hin I0 hinv l8 u8 l9 u9 l10 u10 l11 u11 l12 u12 l13 u13 l14 u14 l15 u15 l16 u16 l17 u17 f0 f1 e2 e1 e0
  refine ⟨bx_narP_ok (l := [(9, 0, 431)]) g.1, bx_nfP_ok h0_ (fvs := []) (by decide +kernel) g.2.1, ?_, ?_⟩
  · show rxIPLAYK_14 S0 ws S_p (bx_val [(0, 0), (0, 0), (0, 0), (0, 0), (0, 0), (0, 0), (0, 0), (0, 0), (8, 0), (10, 0), (11, 0), (9, 0), (10, 0), (8, 0), (16, 0), (17, 0)] r_p 8) (bx_val [(0, 0), (0, 0), (0, 0), (0, 0), (0, 0), (0, 0), (0, 0), (0, 0), (8, 0), (10, 0), (11, 0), (9, 0), (10, 0), (8, 0), (16, 0), (17, 0)] r_p 9) (bx_val [(0, 0), (0, 0), (0, 0), (0, 0), (0, 0), (0, 0), (0, 0), (0, 0), (8, 0), (10, 0), (11, 0), (9, 0), (10, 0), (8, 0), (16, 0), (17, 0)] r_p 10) (bx_val [(0, 0), (0, 0), (0, 0), (0, 0), (0, 0), (0, 0), (0, 0), (0, 0), (8, 0), (10, 0), (11, 0), (9, 0), (10, 0), (8, 0), (16, 0), (17, 0)] r_p 11) (bx_val [(0, 0), (0, 0), (0, 0), (0, 0), (0, 0), (0, 0), (0, 0), (0, 0), (8, 0), (10, 0), (11, 0), (9, 0), (10, 0), (8, 0), (16, 0), (17, 0)] r_p 12) (bx_val [(0, 0), (0, 0), (0, 0), (0, 0), (0, 0), (0, 0), (0, 0), (0, 0), (8, 0), (10, 0), (11, 0), (9, 0), (10, 0), (8, 0), (16, 0), (17, 0)] r_p 13) (bx_val [(0, 0), (0, 0), (0, 0), (0, 0), (0, 0), (0, 0), (0, 0), (0, 0), (8, 0), (10, 0), (11, 0), (9, 0), (10, 0), (8, 0), (16, 0), (17, 0)] r_p 14) (bx_val [(0, 0), (0, 0), (0, 0), (0, 0), (0, 0), (0, 0), (0, 0), (0, 0), (8, 0), (10, 0), (11, 0), (9, 0), (10, 0), (8, 0), (16, 0), (17, 0)] r_p 15)
    rw [bx_val_x (n := 8) (e := (8, 0)) h0_ rfl, bx_val_x (n := 9) (e := (10, 0)) h0_ rfl, bx_val_x (n := 10) (e := (11, 0)) h0_ rfl, bx_val_x (n := 11) (e := (9, 0)) h0_ rfl, bx_val_x (n := 12) (e := (10, 0)) h0_ rfl, bx_val_x (n := 13) (e := (8, 0)) h0_ rfl, bx_val_x (n := 14) (e := (16, 0)) h0_ rfl, bx_val_x (n := 15) (e := (17, 0)) h0_ rfl]
    exact g.2.2.1
  · show rxmPLAYK_14 S0 ws S_p (bx_val [(0, 0), (0, 0), (0, 0), (0, 0), (0, 0), (0, 0), (0, 0), (0, 0), (8, 0), (10, 0), (11, 0), (9, 0), (10, 0), (8, 0), (16, 0), (17, 0)] r_p 8) (bx_val [(0, 0), (0, 0), (0, 0), (0, 0), (0, 0), (0, 0), (0, 0), (0, 0), (8, 0), (10, 0), (11, 0), (9, 0), (10, 0), (8, 0), (16, 0), (17, 0)] r_p 9) (bx_val [(0, 0), (0, 0), (0, 0), (0, 0), (0, 0), (0, 0), (0, 0), (0, 0), (8, 0), (10, 0), (11, 0), (9, 0), (10, 0), (8, 0), (16, 0), (17, 0)] r_p 10) (bx_val [(0, 0), (0, 0), (0, 0), (0, 0), (0, 0), (0, 0), (0, 0), (0, 0), (8, 0), (10, 0), (11, 0), (9, 0), (10, 0), (8, 0), (16, 0), (17, 0)] r_p 11) (bx_val [(0, 0), (0, 0), (0, 0), (0, 0), (0, 0), (0, 0), (0, 0), (0, 0), (8, 0), (10, 0), (11, 0), (9, 0), (10, 0), (8, 0), (16, 0), (17, 0)] r_p 12) (bx_val [(0, 0), (0, 0), (0, 0), (0, 0), (0, 0), (0, 0), (0, 0), (0, 0), (8, 0), (10, 0), (11, 0), (9, 0), (10, 0), (8, 0), (16, 0), (17, 0)] r_p 13) (bx_val [(0, 0), (0, 0), (0, 0), (0, 0), (0, 0), (0, 0), (0, 0), (0, 0), (8, 0), (10, 0), (11, 0), (9, 0), (10, 0), (8, 0), (16, 0), (17, 0)] r_p 14) (bx_val [(0, 0), (0, 0), (0, 0), (0, 0), (0, 0), (0, 0), (0, 0), (0, 0), (8, 0), (10, 0), (11, 0), (9, 0), (10, 0), (8, 0), (16, 0), (17, 0)] r_p 15) < rxmPLAYK_13 S0 ws S_p (r 8) (r 9) (r 10) (r 11)
    rw [bx_val_x (n := 8) (e := (8, 0)) h0_ rfl, bx_val_x (n := 9) (e := (10, 0)) h0_ rfl, bx_val_x (n := 10) (e := (11, 0)) h0_ rfl, bx_val_x (n := 11) (e := (9, 0)) h0_ rfl, bx_val_x (n := 12) (e := (10, 0)) h0_ rfl, bx_val_x (n := 13) (e := (8, 0)) h0_ rfl, bx_val_x (n := 14) (e := (16, 0)) h0_ rfl, bx_val_x (n := 15) (e := (17, 0)) h0_ rfl, ← hr_ 8 (by decide), ← hr_ 9 (by decide), ← hr_ 10 (by decide), ← hr_ 11 (by decide)]
    exact g.2.2.2
theorem rxcPLAYK_13_5 {S0 : Nat → Int → Int} {ws : List Int} {S : Nat → Int → Int} {part n at_ c x12 x13 x14 x15 : Int} (hP : rxPPLAYK S0 ws) (hin : bx_same rxL (bx_mdl rxC240.2.2.1) S0 S) (I0 : bx_Inv rxL S) (hinv : rxIPLAYK_13 S0 ws S part n at_ c) (l8 : 0 ≤ part) (u8 : part ≤ 5) (l9 : 0 ≤ n) (u9 : n ≤ 432) (l10 : 0 ≤ at_) (u10 : at_ ≤ 110) (l11 : 0 ≤ c) (u11 : c ≤ 35) (l12 : (-1) ≤ x12) (u12 : x12 ≤ (-1)) (l13 : (-2147483648) ≤ x13) (u13 : x13 ≤ 2147483647) (l14 : (-2147483648) ≤ x14) (u14 : x14 ≤ 2147483647) (l15 : 0 ≤ x15) (u15 : x15 ≤ 5) (f0 : x14 ≠ x15) (f1 : x13 ≠ (-1)) (e2 : S 496 at_ = x12) (e1 : S 496 (at_ + 1) = x13) (e0 : S 496 (at_ + 1) = x14) : (True) ∧ (True) ∧ rxIPLAYK_13 S0 ws S part n at_ (c + 1) ∧ rxmPLAYK_13 S0 ws S part n at_ (c + 1) < rxmPLAYK_13 S0 ws S part n at_ c := by
  obtain ⟨hI, hx⟩ := hinv
  obtain ⟨a_, b_, c_, d_⟩ := rxcPLAYX_13_5 hP.1 hin I0 hI l8 u8 l9 u9 l10 u10 l11 u11 l12 u12 l13 u13 l14 u14 l15 u15 f0 f1 e2 e1 e0
  exact ⟨a_, b_, ⟨c_, trivial⟩, d_⟩
theorem rxgPLAYK_13_5 {X : (Nat → Int → Int) → Prop} {S0 : Nat → Int → Int} {ws : List Int} (hP : rxPPLAYK S0 ws) : bx_obC rxL X S0 rxC240.2.2.1 (rxIPLAYK S0 ws) (rxmPLAYK S0 ws) 13 rxzPLAYK_13 rxoPLAYK_13_5 := by
  intro S S_p r r_p hinv hX hin hsm_ hseg
  obtain ⟨I0, I1, h0_, hr_, b_, f_, d_⟩ := bx_cl (evs := [(0, (0, 496), (10, 1), .inr (0, (14, 0))), (0, (0, 496), (10, 1), .inr (0, (13, 0))), (0, (0, 496), (10, 0), .inr (0, (12, 0)))]) (fvs := [(3, (14, 0), (15, 0), (0, 0)), (3, (13, 0), (0, (-1)), (0, 0))]) hseg (by decide +kernel) (by decide +kernel)
  have hinv : rxIPLAYK_13 S0 ws S (r 8) (r 9) (r 10) (r 11) := hinv
  rw [← hr_ 8 (by decide), ← hr_ 9 (by decide), ← hr_ 10 (by decide), ← hr_ 11 (by decide)] at hinv
  obtain ⟨⟨l8, u8⟩, ⟨l9, u9⟩, ⟨l10, u10⟩, ⟨l11, u11⟩, ⟨l12, u12⟩, ⟨l13, u13⟩, ⟨l14, u14⟩, ⟨l15, u15⟩, -⟩ := b_
  obtain ⟨f0, f1, -⟩ := f_
  obtain ⟨e0, ⟨e1, ⟨e2, w_⟩⟩⟩ := d_
  subst w_
  have g := rxcPLAYK_13_5 hP hin I0 hinv l8 u8 l9 u9 l10 u10 l11 u11 l12 u12 l13 u13 l14 u14 l15 u15 f0 f1 e2 e1 e0
  refine ⟨bx_narP_ok (l := []) g.1, bx_nfP_ok h0_ (fvs := []) (by decide +kernel) g.2.1, ?_, ?_⟩
  · show rxIPLAYK_13 S0 ws S_p (bx_val [(0, 0), (0, 0), (0, 0), (0, 0), (0, 0), (0, 0), (0, 0), (0, 0), (8, 0), (9, 0), (10, 0), (11, 1)] r_p 8) (bx_val [(0, 0), (0, 0), (0, 0), (0, 0), (0, 0), (0, 0), (0, 0), (0, 0), (8, 0), (9, 0), (10, 0), (11, 1)] r_p 9) (bx_val [(0, 0), (0, 0), (0, 0), (0, 0), (0, 0), (0, 0), (0, 0), (0, 0), (8, 0), (9, 0), (10, 0), (11, 1)] r_p 10) (bx_val [(0, 0), (0, 0), (0, 0), (0, 0), (0, 0), (0, 0), (0, 0), (0, 0), (8, 0), (9, 0), (10, 0), (11, 1)] r_p 11)
    rw [bx_val_x (n := 8) (e := (8, 0)) h0_ rfl, bx_val_x (n := 9) (e := (9, 0)) h0_ rfl, bx_val_x (n := 10) (e := (10, 0)) h0_ rfl, bx_val_x (n := 11) (e := (11, 1)) h0_ rfl]
    exact g.2.2.1
  · show rxmPLAYK_13 S0 ws S_p (bx_val [(0, 0), (0, 0), (0, 0), (0, 0), (0, 0), (0, 0), (0, 0), (0, 0), (8, 0), (9, 0), (10, 0), (11, 1)] r_p 8) (bx_val [(0, 0), (0, 0), (0, 0), (0, 0), (0, 0), (0, 0), (0, 0), (0, 0), (8, 0), (9, 0), (10, 0), (11, 1)] r_p 9) (bx_val [(0, 0), (0, 0), (0, 0), (0, 0), (0, 0), (0, 0), (0, 0), (0, 0), (8, 0), (9, 0), (10, 0), (11, 1)] r_p 10) (bx_val [(0, 0), (0, 0), (0, 0), (0, 0), (0, 0), (0, 0), (0, 0), (0, 0), (8, 0), (9, 0), (10, 0), (11, 1)] r_p 11) < rxmPLAYK_13 S0 ws S_p (r 8) (r 9) (r 10) (r 11)
    rw [bx_val_x (n := 8) (e := (8, 0)) h0_ rfl, bx_val_x (n := 9) (e := (9, 0)) h0_ rfl, bx_val_x (n := 10) (e := (10, 0)) h0_ rfl, bx_val_x (n := 11) (e := (11, 1)) h0_ rfl, ← hr_ 8 (by decide), ← hr_ 9 (by decide), ← hr_ 10 (by decide), ← hr_ 11 (by decide)]
    exact g.2.2.2
theorem rxcPLAYK_13_6 {S0 : Nat → Int → Int} {ws : List Int} {S : Nat → Int → Int} {part n at_ c x12 x13 x14 x15 : Int} (hP : rxPPLAYK S0 ws) (hin : bx_same rxL (bx_mdl rxC240.2.2.1) S0 S) (I0 : bx_Inv rxL S) (hinv : rxIPLAYK_13 S0 ws S part n at_ c) (l8 : 0 ≤ part) (u8 : part ≤ 5) (l9 : 0 ≤ n) (u9 : n ≤ 432) (l10 : 0 ≤ at_) (u10 : at_ ≤ 110) (l11 : 0 ≤ c) (u11 : c ≤ 35) (l12 : (-1) ≤ x12) (u12 : x12 ≤ (-1)) (l13 : (-1) ≤ x13) (u13 : x13 ≤ (-1)) (l14 : 0 ≤ x14) (u14 : x14 ≤ 5) (l15 : 0 ≤ x15) (u15 : x15 ≤ 5) (e1 : S 496 at_ = x12) (e0 : S 496 (at_ + 1) = x13) : ((0 ≤ n ∧ n ≤ 431) ∧ True) ∧ (True) ∧ rxIPLAYK_14 S0 ws S part at_ c n at_ part x14 x15 ∧ rxmPLAYK_14 S0 ws S part at_ c n at_ part x14 x15 < rxmPLAYK_13 S0 ws S part n at_ c := by
  obtain ⟨hI, hx⟩ := hinv
  obtain ⟨a_, b_, c_, d_⟩ := rxcPLAYX_13_6 hP.1 hin I0 hI l8 u8 l9 u9 l10 u10 l11 u11 l12 u12 l13 u13 l14 u14 l15 u15 e1 e0
  exact ⟨a_, b_, ⟨c_, trivial⟩, d_⟩
theorem rxgPLAYK_13_6 {X : (Nat → Int → Int) → Prop} {S0 : Nat → Int → Int} {ws : List Int} (hP : rxPPLAYK S0 ws) : bx_obC rxL X S0 rxC240.2.2.1 (rxIPLAYK S0 ws) (rxmPLAYK S0 ws) 13 rxzPLAYK_13 rxoPLAYK_13_6 := by
  intro S S_p r r_p hinv hX hin hsm_ hseg
  obtain ⟨I0, I1, h0_, hr_, b_, f_, d_⟩ := bx_cl (evs := [(0, (0, 496), (10, 1), .inr (0, (13, 0))), (0, (0, 496), (10, 0), .inr (0, (12, 0)))]) (fvs := []) hseg (by decide +kernel) (by decide +kernel)
  have hinv : rxIPLAYK_13 S0 ws S (r 8) (r 9) (r 10) (r 11) := hinv
  rw [← hr_ 8 (by decide), ← hr_ 9 (by decide), ← hr_ 10 (by decide), ← hr_ 11 (by decide)] at hinv
  obtain ⟨⟨l8, u8⟩, ⟨l9, u9⟩, ⟨l10, u10⟩, ⟨l11, u11⟩, ⟨l12, u12⟩, ⟨l13, u13⟩, ⟨l14, u14⟩, ⟨l15, u15⟩, -⟩ := b_
  obtain ⟨e0, ⟨e1, w_⟩⟩ := d_
  subst w_
  have g := rxcPLAYK_13_6 hP hin I0 hinv l8 u8 l9 u9 l10 u10 l11 u11 l12 u12 l13 u13 l14 u14 l15 u15 e1 e0
  refine ⟨bx_narP_ok (l := [(9, 0, 431)]) g.1, bx_nfP_ok h0_ (fvs := []) (by decide +kernel) g.2.1, ?_, ?_⟩
  · show rxIPLAYK_14 S0 ws S_p (bx_val [(0, 0), (0, 0), (0, 0), (0, 0), (0, 0), (0, 0), (0, 0), (0, 0), (8, 0), (10, 0), (11, 0), (9, 0), (10, 0), (8, 0), (14, 0), (15, 0)] r_p 8) (bx_val [(0, 0), (0, 0), (0, 0), (0, 0), (0, 0), (0, 0), (0, 0), (0, 0), (8, 0), (10, 0), (11, 0), (9, 0), (10, 0), (8, 0), (14, 0), (15, 0)] r_p 9) (bx_val [(0, 0), (0, 0), (0, 0), (0, 0), (0, 0), (0, 0), (0, 0), (0, 0), (8, 0), (10, 0), (11, 0), (9, 0), (10, 0), (8, 0), (14, 0), (15, 0)] r_p 10) (bx_val [(0, 0), (0, 0), (0, 0), (0, 0), (0, 0), (0, 0), (0, 0), (0, 0), (8, 0), (10, 0), (11, 0), (9, 0), (10, 0), (8, 0), (14, 0), (15, 0)] r_p 11) (bx_val [(0, 0), (0, 0), (0, 0), (0, 0), (0, 0), (0, 0), (0, 0), (0, 0), (8, 0), (10, 0), (11, 0), (9, 0), (10, 0), (8, 0), (14, 0), (15, 0)] r_p 12) (bx_val [(0, 0), (0, 0), (0, 0), (0, 0), (0, 0), (0, 0), (0, 0), (0, 0), (8, 0), (10, 0), (11, 0), (9, 0), (10, 0), (8, 0), (14, 0), (15, 0)] r_p 13) (bx_val [(0, 0), (0, 0), (0, 0), (0, 0), (0, 0), (0, 0), (0, 0), (0, 0), (8, 0), (10, 0), (11, 0), (9, 0), (10, 0), (8, 0), (14, 0), (15, 0)] r_p 14) (bx_val [(0, 0), (0, 0), (0, 0), (0, 0), (0, 0), (0, 0), (0, 0), (0, 0), (8, 0), (10, 0), (11, 0), (9, 0), (10, 0), (8, 0), (14, 0), (15, 0)] r_p 15)
    rw [bx_val_x (n := 8) (e := (8, 0)) h0_ rfl, bx_val_x (n := 9) (e := (10, 0)) h0_ rfl, bx_val_x (n := 10) (e := (11, 0)) h0_ rfl, bx_val_x (n := 11) (e := (9, 0)) h0_ rfl, bx_val_x (n := 12) (e := (10, 0)) h0_ rfl, bx_val_x (n := 13) (e := (8, 0)) h0_ rfl, bx_val_x (n := 14) (e := (14, 0)) h0_ rfl, bx_val_x (n := 15) (e := (15, 0)) h0_ rfl]
    exact g.2.2.1
  · show rxmPLAYK_14 S0 ws S_p (bx_val [(0, 0), (0, 0), (0, 0), (0, 0), (0, 0), (0, 0), (0, 0), (0, 0), (8, 0), (10, 0), (11, 0), (9, 0), (10, 0), (8, 0), (14, 0), (15, 0)] r_p 8) (bx_val [(0, 0), (0, 0), (0, 0), (0, 0), (0, 0), (0, 0), (0, 0), (0, 0), (8, 0), (10, 0), (11, 0), (9, 0), (10, 0), (8, 0), (14, 0), (15, 0)] r_p 9) (bx_val [(0, 0), (0, 0), (0, 0), (0, 0), (0, 0), (0, 0), (0, 0), (0, 0), (8, 0), (10, 0), (11, 0), (9, 0), (10, 0), (8, 0), (14, 0), (15, 0)] r_p 10) (bx_val [(0, 0), (0, 0), (0, 0), (0, 0), (0, 0), (0, 0), (0, 0), (0, 0), (8, 0), (10, 0), (11, 0), (9, 0), (10, 0), (8, 0), (14, 0), (15, 0)] r_p 11) (bx_val [(0, 0), (0, 0), (0, 0), (0, 0), (0, 0), (0, 0), (0, 0), (0, 0), (8, 0), (10, 0), (11, 0), (9, 0), (10, 0), (8, 0), (14, 0), (15, 0)] r_p 12) (bx_val [(0, 0), (0, 0), (0, 0), (0, 0), (0, 0), (0, 0), (0, 0), (0, 0), (8, 0), (10, 0), (11, 0), (9, 0), (10, 0), (8, 0), (14, 0), (15, 0)] r_p 13) (bx_val [(0, 0), (0, 0), (0, 0), (0, 0), (0, 0), (0, 0), (0, 0), (0, 0), (8, 0), (10, 0), (11, 0), (9, 0), (10, 0), (8, 0), (14, 0), (15, 0)] r_p 14) (bx_val [(0, 0), (0, 0), (0, 0), (0, 0), (0, 0), (0, 0), (0, 0), (0, 0), (8, 0), (10, 0), (11, 0), (9, 0), (10, 0), (8, 0), (14, 0), (15, 0)] r_p 15) < rxmPLAYK_13 S0 ws S_p (r 8) (r 9) (r 10) (r 11)
    rw [bx_val_x (n := 8) (e := (8, 0)) h0_ rfl, bx_val_x (n := 9) (e := (10, 0)) h0_ rfl, bx_val_x (n := 10) (e := (11, 0)) h0_ rfl, bx_val_x (n := 11) (e := (9, 0)) h0_ rfl, bx_val_x (n := 12) (e := (10, 0)) h0_ rfl, bx_val_x (n := 13) (e := (8, 0)) h0_ rfl, bx_val_x (n := 14) (e := (14, 0)) h0_ rfl, bx_val_x (n := 15) (e := (15, 0)) h0_ rfl, ← hr_ 8 (by decide), ← hr_ 9 (by decide), ← hr_ 10 (by decide), ← hr_ 11 (by decide)]
    exact g.2.2.2
theorem rxcPLAYK_13_7 {S0 : Nat → Int → Int} {ws : List Int} {S : Nat → Int → Int} {part n at_ c : Int} (hP : rxPPLAYK S0 ws) (hin : bx_same rxL (bx_mdl rxC240.2.2.1) S0 S) (I0 : bx_Inv rxL S) (hinv : rxIPLAYK_13 S0 ws S part n at_ c) (l8 : 0 ≤ part) (u8 : part ≤ 5) (l9 : 0 ≤ n) (u9 : n ≤ 432) (l10 : 0 ≤ at_) (u10 : at_ ≤ 110) (l11 : 36 ≤ c) (u11 : c ≤ 36) : (True) ∧ (True) ∧ rxIPLAYK_12 S0 ws S part n (at_ + 10) ∧ rxmPLAYK_12 S0 ws S part n (at_ + 10) < rxmPLAYK_13 S0 ws S part n at_ c := by
  obtain ⟨hI, hx⟩ := hinv
  obtain ⟨a_, b_, c_, d_⟩ := rxcPLAYX_13_7 hP.1 hin I0 hI l8 u8 l9 u9 l10 u10 l11 u11
  exact ⟨a_, b_, ⟨c_, trivial⟩, d_⟩
theorem rxgPLAYK_13_7 {X : (Nat → Int → Int) → Prop} {S0 : Nat → Int → Int} {ws : List Int} (hP : rxPPLAYK S0 ws) : bx_obC rxL X S0 rxC240.2.2.1 (rxIPLAYK S0 ws) (rxmPLAYK S0 ws) 13 rxzPLAYK_13 rxoPLAYK_13_7 := by
  intro S S_p r r_p hinv hX hin hsm_ hseg
  obtain ⟨I0, I1, h0_, hr_, b_, f_, d_⟩ := bx_cl (evs := []) (fvs := []) hseg (by decide +kernel) (by decide +kernel)
  have hinv : rxIPLAYK_13 S0 ws S (r 8) (r 9) (r 10) (r 11) := hinv
  rw [← hr_ 8 (by decide), ← hr_ 9 (by decide), ← hr_ 10 (by decide), ← hr_ 11 (by decide)] at hinv
  obtain ⟨⟨l8, u8⟩, ⟨l9, u9⟩, ⟨l10, u10⟩, ⟨l11, u11⟩, -⟩ := b_
  have w_ := d_
  subst w_
  have g := rxcPLAYK_13_7 hP hin I0 hinv l8 u8 l9 u9 l10 u10 l11 u11
  refine ⟨bx_narP_ok (l := []) g.1, bx_nfP_ok h0_ (fvs := []) (by decide +kernel) g.2.1, ?_, ?_⟩
  · show rxIPLAYK_12 S0 ws S_p (bx_val [(0, 0), (0, 0), (0, 0), (0, 0), (0, 0), (0, 0), (0, 0), (0, 0), (8, 0), (9, 0), (10, 10)] r_p 8) (bx_val [(0, 0), (0, 0), (0, 0), (0, 0), (0, 0), (0, 0), (0, 0), (0, 0), (8, 0), (9, 0), (10, 10)] r_p 9) (bx_val [(0, 0), (0, 0), (0, 0), (0, 0), (0, 0), (0, 0), (0, 0), (0, 0), (8, 0), (9, 0), (10, 10)] r_p 10)
    rw [bx_val_x (n := 8) (e := (8, 0)) h0_ rfl, bx_val_x (n := 9) (e := (9, 0)) h0_ rfl, bx_val_x (n := 10) (e := (10, 10)) h0_ rfl]
    exact g.2.2.1
  · show rxmPLAYK_12 S0 ws S_p (bx_val [(0, 0), (0, 0), (0, 0), (0, 0), (0, 0), (0, 0), (0, 0), (0, 0), (8, 0), (9, 0), (10, 10)] r_p 8) (bx_val [(0, 0), (0, 0), (0, 0), (0, 0), (0, 0), (0, 0), (0, 0), (0, 0), (8, 0), (9, 0), (10, 10)] r_p 9) (bx_val [(0, 0), (0, 0), (0, 0), (0, 0), (0, 0), (0, 0), (0, 0), (0, 0), (8, 0), (9, 0), (10, 10)] r_p 10) < rxmPLAYK_13 S0 ws S_p (r 8) (r 9) (r 10) (r 11)
    rw [bx_val_x (n := 8) (e := (8, 0)) h0_ rfl, bx_val_x (n := 9) (e := (9, 0)) h0_ rfl, bx_val_x (n := 10) (e := (10, 10)) h0_ rfl, ← hr_ 8 (by decide), ← hr_ 9 (by decide), ← hr_ 10 (by decide), ← hr_ 11 (by decide)]
    exact g.2.2.2
theorem rxcPLAYK_15_0 {S0 : Nat → Int → Int} {ws : List Int} {S : Nat → Int → Int} {part at_ c n a_ pt d6 m6 so : Int} (hP : rxPPLAYK S0 ws) (hin : bx_same rxL (bx_mdl rxC240.2.2.1) S0 S) (I0 : bx_Inv rxL S) (hinv : rxIPLAYK_15 S0 ws S part at_ c n a_ pt d6 m6 so) (l8 : 0 ≤ part) (u8 : part ≤ 5) (l9 : 0 ≤ at_) (u9 : at_ ≤ 110) (l10 : 0 ≤ c) (u10 : c ≤ 35) (l11 : 0 ≤ n) (u11 : n ≤ 431) (l12 : 0 ≤ a_) (u12 : a_ ≤ 110) (l13 : 0 ≤ pt) (u13 : pt ≤ 5) (l14 : 0 ≤ d6) (u14 : d6 ≤ 5) (l15 : 0 ≤ m6) (u15 : m6 ≤ 5) (l16 : 1 ≤ so) (u16 : so ≤ 1) (f0 : so ≠ 0) : (True) ∧ (True) ∧ rxIPLAYK_13 S0 ws S part (n + 1) at_ (c + 1) ∧ rxmPLAYK_13 S0 ws S part (n + 1) at_ (c + 1) < rxmPLAYK_15 S0 ws S part at_ c n a_ pt d6 m6 so := by
  obtain ⟨hI, hx⟩ := hinv
  obtain ⟨a_, b_, c_, d_⟩ := rxcPLAYX_15_0 hP.1 hin I0 hI l8 u8 l9 u9 l10 u10 l11 u11 l12 u12 l13 u13 l14 u14 l15 u15 l16 u16 f0
  exact ⟨a_, b_, ⟨c_, trivial⟩, d_⟩
theorem rxgPLAYK_15_0 {X : (Nat → Int → Int) → Prop} {S0 : Nat → Int → Int} {ws : List Int} (hP : rxPPLAYK S0 ws) : bx_obC rxL X S0 rxC240.2.2.1 (rxIPLAYK S0 ws) (rxmPLAYK S0 ws) 15 rxzPLAYK_15 rxoPLAYK_15_0 := by
  intro S S_p r r_p hinv hX hin hsm_ hseg
  obtain ⟨I0, I1, h0_, hr_, b_, f_, d_⟩ := bx_cl (evs := []) (fvs := [(3, (16, 0), (0, 0), (0, 0))]) hseg (by decide +kernel) (by decide +kernel)
  have hinv : rxIPLAYK_15 S0 ws S (r 8) (r 9) (r 10) (r 11) (r 12) (r 13) (r 14) (r 15) (r 16) := hinv
  rw [← hr_ 8 (by decide), ← hr_ 9 (by decide), ← hr_ 10 (by decide), ← hr_ 11 (by decide), ← hr_ 12 (by decide), ← hr_ 13 (by decide), ← hr_ 14 (by decide), ← hr_ 15 (by decide), ← hr_ 16 (by decide)] at hinv
  obtain ⟨⟨l8, u8⟩, ⟨l9, u9⟩, ⟨l10, u10⟩, ⟨l11, u11⟩, ⟨l12, u12⟩, ⟨l13, u13⟩, ⟨l14, u14⟩, ⟨l15, u15⟩, ⟨l16, u16⟩, -⟩ := b_
  obtain ⟨f0, -⟩ := f_
  have w_ := d_
  subst w_
  have g := rxcPLAYK_15_0 hP hin I0 hinv l8 u8 l9 u9 l10 u10 l11 u11 l12 u12 l13 u13 l14 u14 l15 u15 l16 u16 f0
  refine ⟨bx_narP_ok (l := []) g.1, bx_nfP_ok h0_ (fvs := []) (by decide +kernel) g.2.1, ?_, ?_⟩
  · show rxIPLAYK_13 S0 ws S_p (bx_val [(0, 0), (0, 0), (0, 0), (0, 0), (0, 0), (0, 0), (0, 0), (0, 0), (8, 0), (11, 1), (9, 0), (10, 1)] r_p 8) (bx_val [(0, 0), (0, 0), (0, 0), (0, 0), (0, 0), (0, 0), (0, 0), (0, 0), (8, 0), (11, 1), (9, 0), (10, 1)] r_p 9) (bx_val [(0, 0), (0, 0), (0, 0), (0, 0), (0, 0), (0, 0), (0, 0), (0, 0), (8, 0), (11, 1), (9, 0), (10, 1)] r_p 10) (bx_val [(0, 0), (0, 0), (0, 0), (0, 0), (0, 0), (0, 0), (0, 0), (0, 0), (8, 0), (11, 1), (9, 0), (10, 1)] r_p 11)
    rw [bx_val_x (n := 8) (e := (8, 0)) h0_ rfl, bx_val_x (n := 9) (e := (11, 1)) h0_ rfl, bx_val_x (n := 10) (e := (9, 0)) h0_ rfl, bx_val_x (n := 11) (e := (10, 1)) h0_ rfl]
    exact g.2.2.1
  · show rxmPLAYK_13 S0 ws S_p (bx_val [(0, 0), (0, 0), (0, 0), (0, 0), (0, 0), (0, 0), (0, 0), (0, 0), (8, 0), (11, 1), (9, 0), (10, 1)] r_p 8) (bx_val [(0, 0), (0, 0), (0, 0), (0, 0), (0, 0), (0, 0), (0, 0), (0, 0), (8, 0), (11, 1), (9, 0), (10, 1)] r_p 9) (bx_val [(0, 0), (0, 0), (0, 0), (0, 0), (0, 0), (0, 0), (0, 0), (0, 0), (8, 0), (11, 1), (9, 0), (10, 1)] r_p 10) (bx_val [(0, 0), (0, 0), (0, 0), (0, 0), (0, 0), (0, 0), (0, 0), (0, 0), (8, 0), (11, 1), (9, 0), (10, 1)] r_p 11) < rxmPLAYK_15 S0 ws S_p (r 8) (r 9) (r 10) (r 11) (r 12) (r 13) (r 14) (r 15) (r 16)
    rw [bx_val_x (n := 8) (e := (8, 0)) h0_ rfl, bx_val_x (n := 9) (e := (11, 1)) h0_ rfl, bx_val_x (n := 10) (e := (9, 0)) h0_ rfl, bx_val_x (n := 11) (e := (10, 1)) h0_ rfl, ← hr_ 8 (by decide), ← hr_ 9 (by decide), ← hr_ 10 (by decide), ← hr_ 11 (by decide), ← hr_ 12 (by decide), ← hr_ 13 (by decide), ← hr_ 14 (by decide), ← hr_ 15 (by decide), ← hr_ 16 (by decide)]
    exact g.2.2.2
theorem rxcPLAYK_15_1 {S0 : Nat → Int → Int} {ws : List Int} {S : Nat → Int → Int} {part at_ c n a_ pt d6 m6 so : Int} (hP : rxPPLAYK S0 ws) (hin : bx_same rxL (bx_mdl rxC240.2.2.1) S0 S) (I0 : bx_Inv rxL S) (hinv : rxIPLAYK_15 S0 ws S part at_ c n a_ pt d6 m6 so) (l8 : 0 ≤ part) (u8 : part ≤ 5) (l9 : 0 ≤ at_) (u9 : at_ ≤ 110) (l10 : 0 ≤ c) (u10 : c ≤ 35) (l11 : 0 ≤ n) (u11 : n ≤ 431) (l12 : 0 ≤ a_) (u12 : a_ ≤ 110) (l13 : 0 ≤ pt) (u13 : pt ≤ 5) (l14 : 0 ≤ d6) (u14 : d6 ≤ 5) (l15 : 0 ≤ m6) (u15 : m6 ≤ 5) (l16 : 0 ≤ so) (u16 : so ≤ 0) : (True) ∧ (True) ∧ rxIPLAYK_13 S0 ws S part n at_ (c + 1) ∧ rxmPLAYK_13 S0 ws S part n at_ (c + 1) < rxmPLAYK_15 S0 ws S part at_ c n a_ pt d6 m6 so := by
  obtain ⟨hI, hx⟩ := hinv
  obtain ⟨a_, b_, c_, d_⟩ := rxcPLAYX_15_1 hP.1 hin I0 hI l8 u8 l9 u9 l10 u10 l11 u11 l12 u12 l13 u13 l14 u14 l15 u15 l16 u16
  exact ⟨a_, b_, ⟨c_, trivial⟩, d_⟩
theorem rxgPLAYK_15_1 {X : (Nat → Int → Int) → Prop} {S0 : Nat → Int → Int} {ws : List Int} (hP : rxPPLAYK S0 ws) : bx_obC rxL X S0 rxC240.2.2.1 (rxIPLAYK S0 ws) (rxmPLAYK S0 ws) 15 rxzPLAYK_15 rxoPLAYK_15_1 := by
  intro S S_p r r_p hinv hX hin hsm_ hseg
  obtain ⟨I0, I1, h0_, hr_, b_, f_, d_⟩ := bx_cl (evs := []) (fvs := []) hseg (by decide +kernel) (by decide +kernel)
  have hinv : rxIPLAYK_15 S0 ws S (r 8) (r 9) (r 10) (r 11) (r 12) (r 13) (r 14) (r 15) (r 16) := hinv
  rw [← hr_ 8 (by decide), ← hr_ 9 (by decide), ← hr_ 10 (by decide), ← hr_ 11 (by decide), ← hr_ 12 (by decide), ← hr_ 13 (by decide), ← hr_ 14 (by decide), ← hr_ 15 (by decide), ← hr_ 16 (by decide)] at hinv
  obtain ⟨⟨l8, u8⟩, ⟨l9, u9⟩, ⟨l10, u10⟩, ⟨l11, u11⟩, ⟨l12, u12⟩, ⟨l13, u13⟩, ⟨l14, u14⟩, ⟨l15, u15⟩, ⟨l16, u16⟩, -⟩ := b_
  have w_ := d_
  subst w_
  have g := rxcPLAYK_15_1 hP hin I0 hinv l8 u8 l9 u9 l10 u10 l11 u11 l12 u12 l13 u13 l14 u14 l15 u15 l16 u16
  refine ⟨bx_narP_ok (l := []) g.1, bx_nfP_ok h0_ (fvs := []) (by decide +kernel) g.2.1, ?_, ?_⟩
  · show rxIPLAYK_13 S0 ws S_p (bx_val [(0, 0), (0, 0), (0, 0), (0, 0), (0, 0), (0, 0), (0, 0), (0, 0), (8, 0), (11, 0), (9, 0), (10, 1)] r_p 8) (bx_val [(0, 0), (0, 0), (0, 0), (0, 0), (0, 0), (0, 0), (0, 0), (0, 0), (8, 0), (11, 0), (9, 0), (10, 1)] r_p 9) (bx_val [(0, 0), (0, 0), (0, 0), (0, 0), (0, 0), (0, 0), (0, 0), (0, 0), (8, 0), (11, 0), (9, 0), (10, 1)] r_p 10) (bx_val [(0, 0), (0, 0), (0, 0), (0, 0), (0, 0), (0, 0), (0, 0), (0, 0), (8, 0), (11, 0), (9, 0), (10, 1)] r_p 11)
    rw [bx_val_x (n := 8) (e := (8, 0)) h0_ rfl, bx_val_x (n := 9) (e := (11, 0)) h0_ rfl, bx_val_x (n := 10) (e := (9, 0)) h0_ rfl, bx_val_x (n := 11) (e := (10, 1)) h0_ rfl]
    exact g.2.2.1
  · show rxmPLAYK_13 S0 ws S_p (bx_val [(0, 0), (0, 0), (0, 0), (0, 0), (0, 0), (0, 0), (0, 0), (0, 0), (8, 0), (11, 0), (9, 0), (10, 1)] r_p 8) (bx_val [(0, 0), (0, 0), (0, 0), (0, 0), (0, 0), (0, 0), (0, 0), (0, 0), (8, 0), (11, 0), (9, 0), (10, 1)] r_p 9) (bx_val [(0, 0), (0, 0), (0, 0), (0, 0), (0, 0), (0, 0), (0, 0), (0, 0), (8, 0), (11, 0), (9, 0), (10, 1)] r_p 10) (bx_val [(0, 0), (0, 0), (0, 0), (0, 0), (0, 0), (0, 0), (0, 0), (0, 0), (8, 0), (11, 0), (9, 0), (10, 1)] r_p 11) < rxmPLAYK_15 S0 ws S_p (r 8) (r 9) (r 10) (r 11) (r 12) (r 13) (r 14) (r 15) (r 16)
    rw [bx_val_x (n := 8) (e := (8, 0)) h0_ rfl, bx_val_x (n := 9) (e := (11, 0)) h0_ rfl, bx_val_x (n := 10) (e := (9, 0)) h0_ rfl, bx_val_x (n := 11) (e := (10, 1)) h0_ rfl, ← hr_ 8 (by decide), ← hr_ 9 (by decide), ← hr_ 10 (by decide), ← hr_ 11 (by decide), ← hr_ 12 (by decide), ← hr_ 13 (by decide), ← hr_ 14 (by decide), ← hr_ 15 (by decide), ← hr_ 16 (by decide)]
    exact g.2.2.2
theorem rxgCPLAYK {X : (Nat → Int → Int) → Prop} {S0 : Nat → Int → Int} {ws : List Int} (hP : rxPPLAYK S0 ws) : bx_allI (fun i q => rxUPLAYK q = true ∨ bx_allP (fun o => bx_obC rxL X S0 rxC240.2.2.1 (rxIPLAYK S0 ws) (rxmPLAYK S0 ws) i q.1 o) q.2.1) 0 rxYPLAYK := ⟨Or.inr ⟨rxgPLAYK_0_0 hP, trivial⟩, Or.inl rfl, Or.inr ⟨rxgPLAYK_2_0 hP, trivial⟩, Or.inl rfl, Or.inr ⟨rxgPLAYK_4_0 hP, rxgPLAYK_4_1 hP, rxgPLAYK_4_2 hP, rxgPLAYK_4_3 hP, trivial⟩, Or.inr ⟨rxgPLAYK_5_0 hP, rxgPLAYK_5_1 hP, rxgPLAYK_5_2 hP, rxgPLAYK_5_3 hP, trivial⟩, Or.inl rfl, Or.inr ⟨rxgPLAYK_7_0 hP, trivial⟩, Or.inl rfl, Or.inr ⟨rxgPLAYK_9_0 hP, trivial⟩, Or.inl rfl, Or.inr ⟨rxgPLAYK_11_0 hP, trivial⟩, Or.inr ⟨rxgPLAYK_12_0 hP, trivial⟩, Or.inr ⟨rxgPLAYK_13_0 hP, rxgPLAYK_13_1 hP, rxgPLAYK_13_2 hP, rxgPLAYK_13_3 hP, rxgPLAYK_13_4 hP, rxgPLAYK_13_5 hP, rxgPLAYK_13_6 hP, rxgPLAYK_13_7 hP, trivial⟩, Or.inl rfl, Or.inr ⟨rxgPLAYK_15_0 hP, rxgPLAYK_15_1 hP, trivial⟩, trivial⟩
theorem rxgEPLAYK {X : (Nat → Int → Int) → Prop} {S0 : Nat → Int → Int} {ws : List Int} (hP : rxPPLAYK S0 ws) : bx_allI (fun i q => rxUPLAYK q = true ∨ bx_allP (fun E => bx_obE rxL X S0 rxC240.2.2.1 (rxIPLAYK S0 ws) (rxPSPLAYK S0 ws) i q.1 E) q.2.2) 0 rxYPLAYK := ⟨Or.inr ⟨rxfPLAYK_0_0 hP, rxfPLAYK_0_1 hP, trivial⟩, Or.inl rfl, Or.inr trivial, Or.inl rfl, Or.inr trivial, Or.inr trivial, Or.inl rfl, Or.inr trivial, Or.inl rfl, Or.inr trivial, Or.inl rfl, Or.inr ⟨rxfPLAYK_11_0 hP, trivial⟩, Or.inr ⟨rxfPLAYK_12_0 hP, trivial⟩, Or.inr trivial, Or.inl rfl, Or.inr trivial, trivial⟩
theorem rxuPLAYK {PX : State → Prop} {Dg : va_G} {A : Nat → Prop} {ad xa : Nat → Nat} {l : Launch} {X : (Nat → Int → Int) → Prop} (hPX : rx_PXOK rxNW A PX) (hX : ∀ S S1 : Nat → Int → Int, X S → bx_same rxL (bx_mdl rxC240.2.2.1) S S1 → X S1) (hQBXW : bx_ConP rxG rxNW rxAO PX Dg rxL X vwCl A ad l rxM283 rxCBXW rxPBXW rxPSBXW) (hQRYK : bx_ConP rxG rxNW rxAO PX Dg rxL X vwCl A ad l rxM295 rxCRYK rxPRYK rxPSRYK) (hQNXX : bx_ConP rxG rxNW rxAO PX Dg rxL X vwCl A ad l rxM264 rxCNXX rxPNXX rxPSNXX) (hQETW : bx_ConP rxG rxNW rxAO PX Dg rxL X vwCl A ad l rxM285 rxCETW rxPETW rxPSETW) (hQIP : bx_ConP rxG rxNW rxAO PX Dg rxL X vwCl A ad l rxM296 rxCIP rxPIP rxPSIP) {S0 : Nat → Int → Int} {ws : List Int} (hP : rxPPLAYK S0 ws) : ∀ (i : Nat) (q : bx_HE), rxYPLAYK[i]? = some q → rxUPLAYK q = true → ∀ {p : Program} {e : Env} {R : Room} {s : State} {m : MethodId} {args : Array Value} {below : List Frame} {meth : Method} {c : Code} {Q : State → Prop} {H0 : Heap}, rx_Fr rxG rxNW rxAO PX p s m args meth c rxM240 → (∀ q, H0.size ≤ q → A q) → H0 = s.heap → rxM240.2.2.2.2.2.2.1 ≤ R.cells → rxM240.2.2.2.2.2.2.2 ≤ R.slots → rxC240.2.2.2.1 ≤ R.frames → rxC240.2.2.2.1 * 40 ≤ R.locals → bx_Step p l e R s m args below meth c Q Dg rxL X vwCl A xa H0 ad rxM240 rxYPLAYK (rxIPLAYK S0 ws) (rxmPLAYK S0 ws) S0 rxC240.2.2.1 i q := by
  intro i q hq hus p e R s m args below meth c Q H0 hF hA hH0 hmc hms hd hdl
  match i, hq with
  | 0, hq =>
    cases hq
    exact absurd (show false = true from hus) Bool.false_ne_true
  | 1, hq =>
    cases hq
    exact rx_stepC (ins := .invokevirtual 388) (len := 3) (i_p := 2) (M_p := rxM283) (d := rxC240.2.2.2.1) (as := [.inr (3, (0, 480)), .inr (0, (0, 1))]) (t := []) (ct := rxCBXW) hPX hF rfl hA hH0 hmc hms hd hdl (by decide +kernel) rfl rfl (by decide +kernel) (by decide +kernel) hQBXW (by decide +kernel) rfl (Or.inl ⟨rfl, rfl, rfl⟩) (rxsPLAYK_1 hP)
  | 2, hq =>
    cases hq
    exact absurd (show false = true from hus) Bool.false_ne_true
  | 3, hq =>
    cases hq
    exact rx_stepC (ins := .invokevirtual 463) (len := 3) (i_p := 4) (M_p := rxM295) (d := rxC240.2.2.2.1) (as := [.inr (3, (0, 480))]) (t := []) (ct := rxCRYK) hPX hF rfl hA hH0 hmc hms hd hdl (by decide +kernel) rfl rfl (by decide +kernel) (by decide +kernel) hQRYK (by decide +kernel) rfl (Or.inl ⟨rfl, rfl, rfl⟩) (rxsPLAYK_3 hP)
  | 4, hq =>
    cases hq
    exact absurd (show false = true from hus) Bool.false_ne_true
  | 5, hq =>
    cases hq
    exact absurd (show false = true from hus) Bool.false_ne_true
  | 6, hq =>
    cases hq
    exact rx_stepC (ins := .invokevirtual 253) (len := 3) (i_p := 7) (M_p := rxM264) (d := rxC240.2.2.2.1) (as := [.inr (3, (0, 480))]) (t := []) (ct := rxCNXX) hPX hF rfl hA hH0 hmc hms hd hdl (by decide +kernel) rfl rfl (by decide +kernel) (by decide +kernel) hQNXX (by decide +kernel) rfl (Or.inl ⟨rfl, rfl, rfl⟩) (rxsPLAYK_6 hP)
  | 7, hq =>
    cases hq
    exact absurd (show false = true from hus) Bool.false_ne_true
  | 8, hq =>
    cases hq
    exact rx_stepC (ins := .invokevirtual 463) (len := 3) (i_p := 9) (M_p := rxM295) (d := rxC240.2.2.2.1) (as := [.inr (3, (0, 480))]) (t := []) (ct := rxCRYK) hPX hF rfl hA hH0 hmc hms hd hdl (by decide +kernel) rfl rfl (by decide +kernel) (by decide +kernel) hQRYK (by decide +kernel) rfl (Or.inl ⟨rfl, rfl, rfl⟩) (rxsPLAYK_8 hP)
  | 9, hq =>
    cases hq
    exact absurd (show false = true from hus) Bool.false_ne_true
  | 10, hq =>
    cases hq
    exact rx_stepC (ins := .invokevirtual 394) (len := 3) (i_p := 11) (M_p := rxM285) (d := rxC240.2.2.2.1) (as := [.inr (3, (0, 480))]) (t := []) (ct := rxCETW) hPX hF rfl hA hH0 hmc hms hd hdl (by decide +kernel) rfl rfl (by decide +kernel) (by decide +kernel) hQETW (by decide +kernel) rfl (Or.inl ⟨rfl, rfl, rfl⟩) (rxsPLAYK_10 hP)
  | 11, hq =>
    cases hq
    exact absurd (show false = true from hus) Bool.false_ne_true
  | 12, hq =>
    cases hq
    exact absurd (show false = true from hus) Bool.false_ne_true
  | 13, hq =>
    cases hq
    exact absurd (show false = true from hus) Bool.false_ne_true
  | 14, hq =>
    cases hq
    exact rx_stepC (ins := .invokevirtual 466) (len := 3) (i_p := 15) (M_p := rxM296) (d := rxC240.2.2.2.1) (as := [.inr (3, (0, 480)), .inr (0, (12, 0)), .inr (0, (13, 0)), .inr (0, (14, 0)), .inr (0, (15, 0))]) (t := [.inr (0, (11, 0))]) (ct := rxCIP) hPX hF rfl hA hH0 hmc hms hd hdl (by decide +kernel) rfl rfl (by decide +kernel) (by decide +kernel) hQIP (by decide +kernel) rfl (Or.inr ⟨_, _, _, 1, rfl, rfl, by omega, rfl, rfl, rfl⟩) (rxsPLAYK_14 hP)
  | 15, hq =>
    cases hq
    exact absurd (show false = true from hus) Bool.false_ne_true
  | n + 16, hq => cases hq
theorem rxQPLAYK {PX : State → Prop} {Dg : va_G} {A : Nat → Prop} {ad xa : Nat → Nat} {l : Launch} {X : (Nat → Int → Int) → Prop} (hPX : rx_PXOK rxNW A PX) (hsl : ∀ s : State, PX s → ∀ o idx n : Nat, rxSl o idx = some n → ∃ tx : String, vk_R (rxNm o) idx tx (ad n) s)
    (hX : ∀ S S_p : Nat → Int → Int, X S → bx_same rxL (bx_mdl rxC240.2.2.1) S S_p → X S_p)
    (ih : ∀ (j2 : Nat) (ct2 : bx_Ct) (M2 : rx_Mt), ct2 ∈ rxCnE j2 → ct2.2.2.2.1 + 1 ≤ rxC240.2.2.2.1 → rxT.2.2.2.2.2 j2 = some M2 → bx_Con rxG rxNW rxAO PX Dg rxL X vwCl A ad l M2 ct2) (hQBXW : bx_ConP rxG rxNW rxAO PX Dg rxL X vwCl A ad l rxM283 rxCBXW rxPBXW rxPSBXW) (hQRYK : bx_ConP rxG rxNW rxAO PX Dg rxL X vwCl A ad l rxM295 rxCRYK rxPRYK rxPSRYK) (hQNXX : bx_ConP rxG rxNW rxAO PX Dg rxL X vwCl A ad l rxM264 rxCNXX rxPNXX rxPSNXX) (hQETW : bx_ConP rxG rxNW rxAO PX Dg rxL X vwCl A ad l rxM285 rxCETW rxPETW rxPSETW) (hQIP : bx_ConP rxG rxNW rxAO PX Dg rxL X vwCl A ad l rxM296 rxCIP rxPIP rxPSIP) : bx_ConP rxG rxNW rxAO PX Dg rxL X vwCl A ad l rxM240 rxC240 rxPPLAYK rxPSPLAYK :=
  rxQof (xa := xa) (Cn := rxCnE) (f := 30000) (j := 240) (tab := rxYPLAYK) (us := rxUPLAYK) hPX hsl hX ih rfl rxYcPLAYK rxIPLAYK rxmPLAYK
    (fun S0 ws r I0 I ht0 ht as he he1 hX0 hI0 hP hs ha => by
      have e := he.symm.trans (show bx_ent0 rxNP rxC240.1 bx_I0 [] = some ([(0, 0), (0, 0), (0, 0), (0, 0), (0, 0), (0, 0), (0, 0), (0, 0), ((-2147483648), 2147483647)], [], [.inr (3, (0, 480)), .inr (0, (8, 0))]) from rfl)
      cases e
      subst ha
      have h0 : r 0 = 0 := hs.1
      show rxIPLAYK_0 S0 _ S0 (r 8)
      refine ⟨⟨⟨rfl, ?_⟩, trivial⟩, trivial⟩
      simp only [List.map_cons, List.map_nil, bx_xv_ok h0]
      rfl)
    (fun S0 ws hP => rxuPLAYK (xa := xa) hPX hX hQBXW hQRYK hQNXX hQETW hQIP hP) (fun S0 ws hP => rxgCPLAYK hP) (fun S0 ws hP => rxgEPLAYK hP)
