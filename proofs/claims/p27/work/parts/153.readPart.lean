noncomputable def rxCRP : bx_Ct := ([(3, (1, 480, 0))], some (0, (0, 0, 3)), [(12, 9), (12, 10), (12, 11), (12, 12), (12, 13), (12, 14), (12, 18), (12, 21), (12, 24), (12, 25), (1068, 0), (1069, 0), (1070, 0), (1071, 0)], 4, [])
noncomputable def rxIRP_0 (S0 : Nat → Int → Int) (ws : List Int) (S : Nat → Int → Int) : Prop := S = S0 ∧ ws = [480]
noncomputable def rxmRP_0 (S0 : Nat → Int → Int) (ws : List Int) (S : Nat → Int → Int) : Nat := 100
noncomputable def rxzRP_0 : rx_Z := ([(0, 0), (0, 0), (0, 0), (0, 0), (0, 0), (0, 0), (0, 0), (0, 0)], [], [], 0, 0, 0, [(0, .inr (3, (0, 480)))], [])
noncomputable def rxIRP_1 (S0 : Nat → Int → Int) (ws : List Int) (S : Nat → Int → Int) : Prop := S = S0 ∧ S 480 11 ≠ 0
noncomputable def rxmRP_1 (S0 : Nat → Int → Int) (ws : List Int) (S : Nat → Int → Int) : Nat := 90
noncomputable def rxzRP_1 : rx_Z := ([(0, 0), (0, 0), (0, 0), (0, 0), (0, 0), (0, 0), (0, 0), (0, 0)], [], [], 0, 0, 12, [(0, .inr (3, (0, 480)))], [.inr (0, (0, 32)), .inr (3, (0, 480))])
noncomputable def rxIRP_2 (S0 : Nat → Int → Int) (ws : List Int) (S : Nat → Int → Int) : Prop := rxPt S ∧ (S 480 14 = 0 → S0 480 9 < S 480 9 ∧ rxEf S0 S 0 0)
noncomputable def rxmRP_2 (S0 : Nat → Int → Int) (ws : List Int) (S : Nat → Int → Int) : Nat := 80
noncomputable def rxzRP_2 : rx_Z := ([(0, 0), (0, 0), (0, 0), (0, 0), (0, 0), (0, 0), (0, 0), (0, 0)], [], [], 0, 0, 15, [(0, .inr (3, (0, 480)))], [])
noncomputable def rxIRP_3 (S0 : Nat → Int → Int) (ws : List Int) (S : Nat → Int → Int) : Prop := S = S0
noncomputable def rxmRP_3 (S0 : Nat → Int → Int) (ws : List Int) (S : Nat → Int → Int) : Nat := 70
noncomputable def rxzRP_3 : rx_Z := ([(0, 0), (0, 0), (0, 0), (0, 0), (0, 0), (0, 0), (0, 0), (0, 0)], [], [], 0, 0, 25, [(0, .inr (3, (0, 480)))], [.inr (3, (0, 480))])
noncomputable def rxIRP_4 (S0 : Nat → Int → Int) (ws : List Int) (S : Nat → Int → Int) (its : Int) : Prop := S = S0 ∧ its ≠ 0 ∧ (its ≠ -1 → S 480 11 = 1)
noncomputable def rxmRP_4 (S0 : Nat → Int → Int) (ws : List Int) (S : Nat → Int → Int) (its : Int) : Nat := 60
noncomputable def rxzRP_4 : rx_Z := ([(0, 0), (0, 0), (0, 0), (0, 0), (0, 0), (0, 0), (0, 0), (0, 0), ((-1), 8)], [], [], 0, 0, 28, [(0, .inr (3, (0, 480)))], [.inr (0, (8, 0))])
noncomputable def rxIRP_5 (S0 : Nat → Int → Int) (ws : List Int) (S : Nat → Int → Int) : Prop := S = S0
noncomputable def rxmRP_5 (S0 : Nat → Int → Int) (ws : List Int) (S : Nat → Int → Int) : Nat := 70
noncomputable def rxzRP_5 : rx_Z := ([(0, 0), (0, 0), (0, 0), (0, 0), (0, 0), (0, 0), (0, 0), (0, 0)], [], [], 0, 0, 32, [(0, .inr (3, (0, 480)))], [.inr (3, (0, 480))])
noncomputable def rxIRP_6 (S0 : Nat → Int → Int) (ws : List Int) (S : Nat → Int → Int) (its : Int) : Prop := S = S0 ∧ its ≠ 0 ∧ (its ≠ -1 → S 480 11 = 1)
noncomputable def rxmRP_6 (S0 : Nat → Int → Int) (ws : List Int) (S : Nat → Int → Int) (its : Int) : Nat := 60
noncomputable def rxzRP_6 : rx_Z := ([(0, 0), (0, 0), (0, 0), (0, 0), (0, 0), (0, 0), (0, 0), (0, 0), ((-1), 8)], [], [], 0, 0, 35, [(0, .inr (3, (0, 480)))], [.inr (0, (8, 0))])
noncomputable def rxIRP_7 (S0 : Nat → Int → Int) (ws : List Int) (S : Nat → Int → Int) (is op w_ : Int) : Prop := S = S0 ∧ (is = 1 → S 480 11 ≠ 0)
noncomputable def rxmRP_7 (S0 : Nat → Int → Int) (ws : List Int) (S : Nat → Int → Int) (is op w_ : Int) : Nat := 50
noncomputable def rxzRP_7 : rx_Z := ([(0, 0), (0, 0), (0, 0), (0, 0), (0, 0), (0, 0), (0, 0), (0, 0), (0, 1), (0, 8), (0, 1000)], [], [], 0, 0, 94, [(0, .inr (3, (0, 480)))], [.inr (1, (10, 0)), .inr (0, (9, 0)), .inr (0, (8, 0)), .inr (3, (0, 480))])
noncomputable def rxIRP_8 (S0 : Nat → Int → Int) (ws : List Int) (S : Nat → Int → Int) (is op arg : Int) : Prop := S = S0 ∧ (is = 1 → S 480 11 ≠ 0)
noncomputable def rxmRP_8 (S0 : Nat → Int → Int) (ws : List Int) (S : Nat → Int → Int) (is op arg : Int) : Nat := 40
noncomputable def rxzRP_8 : rx_Z := ([(0, 0), (0, 0), (0, 0), (0, 0), (0, 0), (0, 0), (0, 0), (0, 0), (0, 1), (0, 8), (0, 1000)], [], [], 0, 0, 99, [(0, .inr (3, (0, 480)))], [.inr (0, (10, 0)), .inr (0, (9, 0)), .inr (0, (8, 0)), .inr (3, (0, 480))])
noncomputable def rxIRP_9 (S0 : Nat → Int → Int) (ws : List Int) (S : Nat → Int → Int) (is op arg : Int) : Prop := rxPt S ∧ (S 480 14 = 0 → S0 480 9 < S 480 9 ∧ rxEf S0 S 0 1)
noncomputable def rxmRP_9 (S0 : Nat → Int → Int) (ws : List Int) (S : Nat → Int → Int) (is op arg : Int) : Nat := 30
noncomputable def rxzRP_9 : rx_Z := ([(0, 0), (0, 0), (0, 0), (0, 0), (0, 0), (0, 0), (0, 0), (0, 0), (0, 1), (0, 8), (0, 1000)], [], [], 0, 0, 102, [(0, .inr (3, (0, 480)))], [])
noncomputable def rxoRP_0_0 : bx_HO := (([(0, 0), (0, 0), (0, 0), (0, 0), (0, 0), (0, 0), (0, 0), (0, 0), (0, 2), (1, 1)], [(3, (9, 0), (0, 0)), (3, (8, 0), (0, 3))], [(((0, 0), 1851192626986356800434940932178653442218339981833571981143834624000000), .inr (0, (9, 0))), (((0, 480), 15), .inr (0, (9, 0))), (((0, 0), 1851192626986356799632114105031551009123054124018230966928539648000000), .inr (0, (8, 0))), (((0, 480), 11), .inr (0, (8, 0)))], 0, 0, 25, [(0, .inr (3, (0, 480)))], [.inr (3, (0, 480))]), [], [], [(0, 0), (0, 0), (0, 0), (0, 0), (0, 0), (0, 0), (0, 0), (0, 0)], 3)
noncomputable def rxoRP_0_1 : bx_HO := (([(0, 0), (0, 0), (0, 0), (0, 0), (0, 0), (0, 0), (0, 0), (0, 0), (0, 2), (0, 0)], [(3, (8, 0), (0, 3))], [(((0, 0), 1851192626986356800434940932178653442218339981833571981143834624000000), .inr (0, (9, 0))), (((0, 480), 15), .inr (0, (9, 0))), (((0, 0), 1851192626986356799632114105031551009123054124018230966928539648000000), .inr (0, (8, 0))), (((0, 480), 11), .inr (0, (8, 0)))], 0, 0, 32, [(0, .inr (3, (0, 480)))], [.inr (3, (0, 480))]), [], [], [(0, 0), (0, 0), (0, 0), (0, 0), (0, 0), (0, 0), (0, 0), (0, 0)], 5)
noncomputable def rxoRP_0_2 : bx_HO := (([(0, 0), (0, 0), (0, 0), (0, 0), (0, 0), (0, 0), (0, 0), (0, 0), (3, 3), ((-9223372036854775808), 9223372036854775807), (1, 1)], [(3, (10, 0), (0, 0)), (3, (9, 0), (0, 91))], [(((0, 0), 1851192626986356800434940932178653442218339981833571981143834624000000), .inr (0, (10, 0))), (((0, 480), 15), .inr (0, (10, 0))), (((0, 0), 1851192626986356799832820811818326617396875588472066220482363392000000), .inr (1, (9, 0))), (((0, 480), 12), .inr (1, (9, 0))), (((0, 0), 1851192626986356799632114105031551009123054124018230966928539648000000), .inr (0, (8, 0))), (((0, 480), 11), .inr (0, (8, 0)))], 0, 0, 25, [(0, .inr (3, (0, 480)))], [.inr (3, (0, 480))]), [], [], [(0, 0), (0, 0), (0, 0), (0, 0), (0, 0), (0, 0), (0, 0), (0, 0)], 3)
noncomputable def rxoRP_0_3 : bx_HO := (([(0, 0), (0, 0), (0, 0), (0, 0), (0, 0), (0, 0), (0, 0), (0, 0), (3, 3), ((-9223372036854775808), 9223372036854775807), (0, 0)], [(3, (9, 0), (0, 91))], [(((0, 0), 1851192626986356800434940932178653442218339981833571981143834624000000), .inr (0, (10, 0))), (((0, 480), 15), .inr (0, (10, 0))), (((0, 0), 1851192626986356799832820811818326617396875588472066220482363392000000), .inr (1, (9, 0))), (((0, 480), 12), .inr (1, (9, 0))), (((0, 0), 1851192626986356799632114105031551009123054124018230966928539648000000), .inr (0, (8, 0))), (((0, 480), 11), .inr (0, (8, 0)))], 0, 0, 32, [(0, .inr (3, (0, 480)))], [.inr (3, (0, 480))]), [], [], [(0, 0), (0, 0), (0, 0), (0, 0), (0, 0), (0, 0), (0, 0), (0, 0)], 5)
noncomputable def rxoRP_0_4 : bx_HO := (([(0, 0), (0, 0), (0, 0), (0, 0), (0, 0), (0, 0), (0, 0), (0, 0), (3, 3), (91, 91)], [], [(((0, 0), 1851192626986356799832820811818326617396875588472066220482363392000000), .inr (1, (9, 0))), (((0, 480), 12), .inr (1, (9, 0))), (((0, 0), 1851192626986356799632114105031551009123054124018230966928539648000000), .inr (0, (8, 0))), (((0, 480), 11), .inr (0, (8, 0)))], 0, 0, 12, [(0, .inr (3, (0, 480)))], [.inr (0, (0, 32)), .inr (3, (0, 480))]), [], [], [(0, 0), (0, 0), (0, 0), (0, 0), (0, 0), (0, 0), (0, 0), (0, 0)], 1)
noncomputable def rxeRP_2_0 : rx_End × List (Nat × Int × Int) := (([(0, 0), (0, 0), (0, 0), (0, 0), (0, 0), (0, 0), (0, 0), (0, 0)], [], [], some (.inr (0, (0, 1)))), [])
noncomputable def rxoRP_4_0 : bx_HO := (([(0, 0), (0, 0), (0, 0), (0, 0), (0, 0), (0, 0), (0, 0), (0, 0), ((-1), (-1)), (2, 2), ((-9223372036854775808), 1000)], [], [(((0, 0), 1851192626986356799832820811818326617396875588472066220482363392000000), .inr (1, (10, 0))), (((0, 480), 12), .inr (1, (10, 0))), (((0, 0), 1851192626986356799632114105031551009123054124018230966928539648000000), .inr (0, (9, 0))), (((0, 480), 11), .inr (0, (9, 0)))], 0, 0, 94, [(2, .inr (0, (0, 1))), (1, .inr (0, (8, 0))), (0, .inr (3, (0, 480)))], [.inr (1, (10, 0)), .inr (0, (0, 0)), .inr (0, (0, 1)), .inr (3, (0, 480))]), [(10, 0, 1000)], [], [(0, 0), (0, 0), (0, 0), (0, 0), (0, 0), (0, 0), (0, 0), (0, 0), (0, 1), (0, 0), (10, 0)], 7)
noncomputable def rxoRP_4_1 : bx_HO := (([(0, 0), (0, 0), (0, 0), (0, 0), (0, 0), (0, 0), (0, 0), (0, 0), (0, 8), (2, 2), ((-9223372036854775808), 1000)], [(3, (8, 0), (0, (-1))), (3, (8, 0), (0, (-1)))], [(((0, 0), 1851192626986356799832820811818326617396875588472066220482363392000000), .inr (1, (10, 0))), (((0, 480), 12), .inr (1, (10, 0))), (((0, 0), 1851192626986356799632114105031551009123054124018230966928539648000000), .inr (0, (9, 0))), (((0, 480), 11), .inr (0, (9, 0)))], 0, 0, 94, [(2, .inr (0, (0, 1))), (1, .inr (0, (8, 0))), (0, .inr (3, (0, 480)))], [.inr (1, (10, 0)), .inr (0, (8, 0)), .inr (0, (0, 1)), .inr (3, (0, 480))]), [(10, 0, 1000)], [], [(0, 0), (0, 0), (0, 0), (0, 0), (0, 0), (0, 0), (0, 0), (0, 0), (0, 1), (8, 0), (10, 0)], 7)
noncomputable def rxoRP_4_2 : bx_HO := (([(0, 0), (0, 0), (0, 0), (0, 0), (0, 0), (0, 0), (0, 0), (0, 0), ((-1), (-1)), (2, 2), (1001, 9223372036854775807)], [], [(((0, 0), 1851192626986356799832820811818326617396875588472066220482363392000000), .inr (1, (10, 0))), (((0, 480), 12), .inr (1, (10, 0))), (((0, 0), 1851192626986356799632114105031551009123054124018230966928539648000000), .inr (0, (9, 0))), (((0, 480), 11), .inr (0, (9, 0)))], 0, 0, 99, [(2, .inr (0, (0, 0))), (1, .inr (0, (8, 0))), (0, .inr (3, (0, 480)))], [.inr (0, (0, 0)), .inr (0, (0, 0)), .inr (0, (0, 0)), .inr (3, (0, 480))]), [], [], [(0, 0), (0, 0), (0, 0), (0, 0), (0, 0), (0, 0), (0, 0), (0, 0), (0, 0), (0, 0), (0, 0)], 8)
noncomputable def rxoRP_4_3 : bx_HO := (([(0, 0), (0, 0), (0, 0), (0, 0), (0, 0), (0, 0), (0, 0), (0, 0), (0, 8), (2, 2), (1001, 9223372036854775807)], [(3, (8, 0), (0, (-1))), (3, (8, 0), (0, (-1)))], [(((0, 0), 1851192626986356799832820811818326617396875588472066220482363392000000), .inr (1, (10, 0))), (((0, 480), 12), .inr (1, (10, 0))), (((0, 0), 1851192626986356799632114105031551009123054124018230966928539648000000), .inr (0, (9, 0))), (((0, 480), 11), .inr (0, (9, 0)))], 0, 0, 99, [(2, .inr (0, (0, 0))), (1, .inr (0, (8, 0))), (0, .inr (3, (0, 480)))], [.inr (0, (0, 0)), .inr (0, (8, 0)), .inr (0, (0, 1)), .inr (3, (0, 480))]), [], [], [(0, 0), (0, 0), (0, 0), (0, 0), (0, 0), (0, 0), (0, 0), (0, 0), (0, 1), (8, 0), (0, 0)], 8)
noncomputable def rxoRP_4_4 : bx_HO := (([(0, 0), (0, 0), (0, 0), (0, 0), (0, 0), (0, 0), (0, 0), (0, 0), ((-1), (-1)), (0, 3)], [(3, (9, 0), (0, 2))], [(((0, 0), 1851192626986356799632114105031551009123054124018230966928539648000000), .inr (0, (9, 0))), (((0, 480), 11), .inr (0, (9, 0)))], 0, 0, 99, [(2, .inr (0, (0, 0))), (1, .inr (0, (8, 0))), (0, .inr (3, (0, 480)))], [.inr (0, (0, 0)), .inr (0, (0, 0)), .inr (0, (0, 0)), .inr (3, (0, 480))]), [], [], [(0, 0), (0, 0), (0, 0), (0, 0), (0, 0), (0, 0), (0, 0), (0, 0), (0, 0), (0, 0), (0, 0)], 8)
noncomputable def rxoRP_4_5 : bx_HO := (([(0, 0), (0, 0), (0, 0), (0, 0), (0, 0), (0, 0), (0, 0), (0, 0), (0, 8), (0, 3)], [(3, (8, 0), (0, (-1))), (3, (8, 0), (0, (-1))), (3, (9, 0), (0, 2))], [(((0, 0), 1851192626986356799632114105031551009123054124018230966928539648000000), .inr (0, (9, 0))), (((0, 480), 11), .inr (0, (9, 0)))], 0, 0, 99, [(2, .inr (0, (0, 0))), (1, .inr (0, (8, 0))), (0, .inr (3, (0, 480)))], [.inr (0, (0, 0)), .inr (0, (8, 0)), .inr (0, (0, 1)), .inr (3, (0, 480))]), [], [], [(0, 0), (0, 0), (0, 0), (0, 0), (0, 0), (0, 0), (0, 0), (0, 0), (0, 1), (8, 0), (0, 0)], 8)
noncomputable def rxoRP_6_0 : bx_HO := (([(0, 0), (0, 0), (0, 0), (0, 0), (0, 0), (0, 0), (0, 0), (0, 0), ((-1), (-1)), (2, 2), ((-9223372036854775808), 1000)], [], [(((0, 0), 1851192626986356799832820811818326617396875588472066220482363392000000), .inr (1, (10, 0))), (((0, 480), 12), .inr (1, (10, 0))), (((0, 0), 1851192626986356799632114105031551009123054124018230966928539648000000), .inr (0, (9, 0))), (((0, 480), 11), .inr (0, (9, 0)))], 0, 0, 94, [(2, .inr (0, (0, 1))), (1, .inr (0, (8, 0))), (0, .inr (3, (0, 480)))], [.inr (1, (10, 0)), .inr (0, (0, 0)), .inr (0, (0, 1)), .inr (3, (0, 480))]), [(10, 0, 1000)], [], [(0, 0), (0, 0), (0, 0), (0, 0), (0, 0), (0, 0), (0, 0), (0, 0), (0, 1), (0, 0), (10, 0)], 7)
noncomputable def rxoRP_6_1 : bx_HO := (([(0, 0), (0, 0), (0, 0), (0, 0), (0, 0), (0, 0), (0, 0), (0, 0), (0, 8), (2, 2), ((-9223372036854775808), 1000)], [(3, (8, 0), (0, (-1))), (3, (8, 0), (0, (-1)))], [(((0, 0), 1851192626986356799832820811818326617396875588472066220482363392000000), .inr (1, (10, 0))), (((0, 480), 12), .inr (1, (10, 0))), (((0, 0), 1851192626986356799632114105031551009123054124018230966928539648000000), .inr (0, (9, 0))), (((0, 480), 11), .inr (0, (9, 0)))], 0, 0, 94, [(2, .inr (0, (0, 1))), (1, .inr (0, (8, 0))), (0, .inr (3, (0, 480)))], [.inr (1, (10, 0)), .inr (0, (8, 0)), .inr (0, (0, 1)), .inr (3, (0, 480))]), [(10, 0, 1000)], [], [(0, 0), (0, 0), (0, 0), (0, 0), (0, 0), (0, 0), (0, 0), (0, 0), (0, 1), (8, 0), (10, 0)], 7)
noncomputable def rxoRP_6_2 : bx_HO := (([(0, 0), (0, 0), (0, 0), (0, 0), (0, 0), (0, 0), (0, 0), (0, 0), ((-1), (-1)), (2, 2), (1001, 9223372036854775807)], [], [(((0, 0), 1851192626986356799832820811818326617396875588472066220482363392000000), .inr (1, (10, 0))), (((0, 480), 12), .inr (1, (10, 0))), (((0, 0), 1851192626986356799632114105031551009123054124018230966928539648000000), .inr (0, (9, 0))), (((0, 480), 11), .inr (0, (9, 0)))], 0, 0, 99, [(2, .inr (0, (0, 0))), (1, .inr (0, (8, 0))), (0, .inr (3, (0, 480)))], [.inr (0, (0, 0)), .inr (0, (0, 0)), .inr (0, (0, 0)), .inr (3, (0, 480))]), [], [], [(0, 0), (0, 0), (0, 0), (0, 0), (0, 0), (0, 0), (0, 0), (0, 0), (0, 0), (0, 0), (0, 0)], 8)
noncomputable def rxoRP_6_3 : bx_HO := (([(0, 0), (0, 0), (0, 0), (0, 0), (0, 0), (0, 0), (0, 0), (0, 0), (0, 8), (2, 2), (1001, 9223372036854775807)], [(3, (8, 0), (0, (-1))), (3, (8, 0), (0, (-1)))], [(((0, 0), 1851192626986356799832820811818326617396875588472066220482363392000000), .inr (1, (10, 0))), (((0, 480), 12), .inr (1, (10, 0))), (((0, 0), 1851192626986356799632114105031551009123054124018230966928539648000000), .inr (0, (9, 0))), (((0, 480), 11), .inr (0, (9, 0)))], 0, 0, 99, [(2, .inr (0, (0, 0))), (1, .inr (0, (8, 0))), (0, .inr (3, (0, 480)))], [.inr (0, (0, 0)), .inr (0, (8, 0)), .inr (0, (0, 1)), .inr (3, (0, 480))]), [], [], [(0, 0), (0, 0), (0, 0), (0, 0), (0, 0), (0, 0), (0, 0), (0, 0), (0, 1), (8, 0), (0, 0)], 8)
noncomputable def rxoRP_6_4 : bx_HO := (([(0, 0), (0, 0), (0, 0), (0, 0), (0, 0), (0, 0), (0, 0), (0, 0), ((-1), (-1)), (0, 3)], [(3, (9, 0), (0, 2))], [(((0, 0), 1851192626986356799632114105031551009123054124018230966928539648000000), .inr (0, (9, 0))), (((0, 480), 11), .inr (0, (9, 0)))], 0, 0, 99, [(2, .inr (0, (0, 0))), (1, .inr (0, (8, 0))), (0, .inr (3, (0, 480)))], [.inr (0, (0, 0)), .inr (0, (0, 0)), .inr (0, (0, 0)), .inr (3, (0, 480))]), [], [], [(0, 0), (0, 0), (0, 0), (0, 0), (0, 0), (0, 0), (0, 0), (0, 0), (0, 0), (0, 0), (0, 0)], 8)
noncomputable def rxoRP_6_5 : bx_HO := (([(0, 0), (0, 0), (0, 0), (0, 0), (0, 0), (0, 0), (0, 0), (0, 0), (0, 8), (0, 3)], [(3, (8, 0), (0, (-1))), (3, (8, 0), (0, (-1))), (3, (9, 0), (0, 2))], [(((0, 0), 1851192626986356799632114105031551009123054124018230966928539648000000), .inr (0, (9, 0))), (((0, 480), 11), .inr (0, (9, 0)))], 0, 0, 99, [(2, .inr (0, (0, 0))), (1, .inr (0, (8, 0))), (0, .inr (3, (0, 480)))], [.inr (0, (0, 0)), .inr (0, (8, 0)), .inr (0, (0, 1)), .inr (3, (0, 480))]), [], [], [(0, 0), (0, 0), (0, 0), (0, 0), (0, 0), (0, 0), (0, 0), (0, 0), (0, 1), (8, 0), (0, 0)], 8)
noncomputable def rxoRP_7_0 : bx_HO := (([(0, 0), (0, 0), (0, 0), (0, 0), (0, 0), (0, 0), (0, 0), (0, 0), (0, 1), (0, 8), (0, 1000)], [], [], 0, 0, 99, [(0, .inr (3, (0, 480)))], [.inr (0, (10, 0)), .inr (0, (9, 0)), .inr (0, (8, 0)), .inr (3, (0, 480))]), [], [], [(0, 0), (0, 0), (0, 0), (0, 0), (0, 0), (0, 0), (0, 0), (0, 0), (8, 0), (9, 0), (10, 0)], 8)
noncomputable def rxeRP_9_0 : rx_End × List (Nat × Int × Int) := (([(0, 0), (0, 0), (0, 0), (0, 0), (0, 0), (0, 0), (0, 0), (0, 0), (0, 1), (0, 8), (0, 1000)], [], [], some (.inr (0, (0, 3)))), [])
noncomputable def rxYRP : List bx_HE := [(rxzRP_0, [rxoRP_0_0, rxoRP_0_1, rxoRP_0_2, rxoRP_0_3, rxoRP_0_4], []), (rxzRP_1, [], []), (rxzRP_2, [], [rxeRP_2_0]), (rxzRP_3, [], []), (rxzRP_4, [rxoRP_4_0, rxoRP_4_1, rxoRP_4_2, rxoRP_4_3, rxoRP_4_4, rxoRP_4_5], []), (rxzRP_5, [], []), (rxzRP_6, [rxoRP_6_0, rxoRP_6_1, rxoRP_6_2, rxoRP_6_3, rxoRP_6_4, rxoRP_6_5], []), (rxzRP_7, [rxoRP_7_0], []), (rxzRP_8, [], []), (rxzRP_9, [], [rxeRP_9_0])]
noncomputable def rxURP (q : bx_HE) : Bool := Nat.beq (rx_zpc q.1) 12 || Nat.beq (rx_zpc q.1) 25 || Nat.beq (rx_zpc q.1) 32 || Nat.beq (rx_zpc q.1) 99
noncomputable def rxYBRP : bx_B := (rxV, rxNP, rxDmf, bx_mdH rxCRP.2.2.1)
set_option maxRecDepth 100000 in
theorem rxYcRP : bx_chkH rxYBRP rxM274 rxCRP rxYRP (rxURP, fun cut z => rx_ex2 (rxCT rxYBRP rxCnE) cut 30000 rxCRP.2.2.2.1 274 z) = true := by decide +kernel
noncomputable def rxIRP (S0 : Nat → Int → Int) (ws : List Int) (i : Nat) : bx_SP := fun S r => match i with | 0 => rxIRP_0 S0 ws S | 1 => rxIRP_1 S0 ws S | 2 => rxIRP_2 S0 ws S | 3 => rxIRP_3 S0 ws S | 4 => rxIRP_4 S0 ws S (r 8) | 5 => rxIRP_5 S0 ws S | 6 => rxIRP_6 S0 ws S (r 8) | 7 => rxIRP_7 S0 ws S (r 8) (r 9) (r 10) | 8 => rxIRP_8 S0 ws S (r 8) (r 9) (r 10) | 9 => rxIRP_9 S0 ws S (r 8) (r 9) (r 10) | _ => False
noncomputable def rxmRP (S0 : Nat → Int → Int) (ws : List Int) (i : Nat) (S : Nat → Int → Int) (r : Nat → Int) : Nat := match i with | 0 => rxmRP_0 S0 ws S | 1 => rxmRP_1 S0 ws S | 2 => rxmRP_2 S0 ws S | 3 => rxmRP_3 S0 ws S | 4 => rxmRP_4 S0 ws S (r 8) | 5 => rxmRP_5 S0 ws S | 6 => rxmRP_6 S0 ws S (r 8) | 7 => rxmRP_7 S0 ws S (r 8) (r 9) (r 10) | 8 => rxmRP_8 S0 ws S (r 8) (r 9) (r 10) | 9 => rxmRP_9 S0 ws S (r 8) (r 9) (r 10) | _ => 0
noncomputable def rxPRP (S0 : Nat → Int → Int) (ws : List Int) : Prop := rxPt S0 ∧ S0 480 14 = 0
noncomputable def rxPSRP (S0 : Nat → Int → Int) (ws : List Int) (S : Nat → Int → Int) (w : Option Int) : Prop := ∃ t : Int, w = some t ∧ (t = 1 ∨ t = 3) ∧ rxPt S ∧ (S 480 14 = 0 → S0 480 9 < S 480 9 ∧ ((t = 1 ∧ rxEf S0 S 0 0) ∨ (t = 3 ∧ rxEf S0 S 0 1)))
theorem rxkRP_1 {S0 : Nat → Int → Int} {ws : List Int} {S : Nat → Int → Int} (hP : rxPRP S0 ws) (hin : bx_same rxL (bx_mdl rxCRP.2.2.1) S0 S) (I0 : bx_Inv rxL S) (hinv : rxIRP_1 S0 ws S)  : rxPOB S [480, 32] ∧ ∀ (S_p : Nat → Int → Int), rxPSOB S [480, 32] S_p none → bx_Inv rxL S_p → bx_same rxL (bx_mdl rxCOB.2.2.1) S S_p → rxIRP_2 S0 ws S_p ∧ rxmRP_2 S0 ws S_p < rxmRP_1 S0 ws S := by
  obtain ⟨rfl, h1⟩ := hinv
  refine ⟨⟨hP.1, hP.2, h1, 32, rfl, Or.inl rfl⟩, fun S_p hq I1 hsm => ⟨?_, by unfold rxmRP_1 rxmRP_2; omega⟩⟩
  obtain ⟨-, op, hw, a1, a2, a3, a4, a5⟩ := hq
  exact ⟨⟨a1, a2, a3, a4⟩, fun q => ⟨(a5 q).2.1, (a5 q).1⟩⟩
theorem rxsRP_1 {X : (Nat → Int → Int) → Prop} {S0 : Nat → Int → Int} {ws : List Int} (hP : rxPRP S0 ws) : rx_obK X S0 rxCRP.2.2.1 rxCOB.2.2.1 (rxIRP S0 ws) (rxmRP S0 ws) 1 2 rxzRP_1 rxzRP_2 [.inr (3, (0, 480)), .inr (0, (0, 32))] none rxPOB rxPSOB := by
  intro S r hinv hXS I0 hin hs_ hf_
  have b_ := bx_bds_sat hs_
  have f_ := bx_fcl_ok hs_.1 hf_
  have g := rxkRP_1 hP hin I0 hinv 
  have ea : List.map (bx_num r) [.inr (3, (0, 480)), .inr (0, (0, 32))] = [480, 32] := by
    simp only [List.map_cons, List.map_nil, bx_xv_ok hs_.1]
    rfl
  rw [ea]
  refine ⟨g.1, fun S_p w r_p hPS hX_p I1 hsm hr hw hs_p => ?_⟩
  have hw : w = none := hPS.1
  subst hw
  have g2 := g.2 S_p hPS I1 hsm
  show rxIRP_2 S0 ws S_p ∧ rxmRP_2 S0 ws S_p < _
  exact g2
theorem rxkRP_3 {S0 : Nat → Int → Int} {ws : List Int} {S : Nat → Int → Int} (hP : rxPRP S0 ws) (hin : bx_same rxL (bx_mdl rxCRP.2.2.1) S0 S) (I0 : bx_Inv rxL S) (hinv : rxIRP_3 S0 ws S)  : rxPPP S [480] ∧ ∀ (S_p : Nat → Int → Int) (its : Int), (-1) ≤ its → its ≤ 8 → rxPSPP S [480] S_p (some its) → bx_Inv rxL S_p → bx_same rxL (bx_mdl rxCPP.2.2.1) S S_p → rxIRP_4 S0 ws S_p its ∧ rxmRP_4 S0 ws S_p its < rxmRP_3 S0 ws S := by
  subst hinv
  refine ⟨trivial, fun S_p its l u hq I1 hsm => ⟨?_, by unfold rxmRP_3 rxmRP_4; omega⟩⟩
  obtain ⟨rfl, its_p, hw, h0, h1⟩ := hq
  have he : its = its_p := Option.some.inj hw
  subst he
  exact ⟨rfl, h0, h1⟩
theorem rxsRP_3 {X : (Nat → Int → Int) → Prop} {S0 : Nat → Int → Int} {ws : List Int} (hP : rxPRP S0 ws) : rx_obK X S0 rxCRP.2.2.1 rxCPP.2.2.1 (rxIRP S0 ws) (rxmRP S0 ws) 3 4 rxzRP_3 rxzRP_4 [.inr (3, (0, 480))] (some 8) rxPPP rxPSPP := by
  intro S r hinv hXS I0 hin hs_ hf_
  have b_ := bx_bds_sat hs_
  have f_ := bx_fcl_ok hs_.1 hf_
  have g := rxkRP_3 hP hin I0 hinv 
  have ea : List.map (bx_num r) [.inr (3, (0, 480))] = [480] := by
    simp only [List.map_cons, List.map_nil, bx_xv_ok hs_.1]
    rfl
  rw [ea]
  refine ⟨g.1, fun S_p w r_p hPS hX_p I1 hsm hr hw hs_p => ?_⟩
  have hw := hw _ rfl
  subst hw
  have b_p := hs_p.2.2 8 _ _ rfl
  have g2 := g.2 S_p (r_p 8) b_p.1 b_p.2 hPS I1 hsm
  show rxIRP_4 S0 ws S_p (r_p 8) ∧ rxmRP_4 S0 ws S_p (r_p 8) < _
  exact g2
theorem rxkRP_5 {S0 : Nat → Int → Int} {ws : List Int} {S : Nat → Int → Int} (hP : rxPRP S0 ws) (hin : bx_same rxL (bx_mdl rxCRP.2.2.1) S0 S) (I0 : bx_Inv rxL S) (hinv : rxIRP_5 S0 ws S)  : rxPPA S [480] ∧ ∀ (S_p : Nat → Int → Int) (its : Int), (-1) ≤ its → its ≤ 8 → rxPSPA S [480] S_p (some its) → bx_Inv rxL S_p → bx_same rxL (bx_mdl rxCPA.2.2.1) S S_p → rxIRP_6 S0 ws S_p its ∧ rxmRP_6 S0 ws S_p its < rxmRP_5 S0 ws S := by
  subst hinv
  refine ⟨trivial, fun S_p its l u hq I1 hsm => ⟨?_, by unfold rxmRP_5 rxmRP_6; omega⟩⟩
  obtain ⟨rfl, its_p, hw, h0, h1⟩ := hq
  have he : its = its_p := Option.some.inj hw
  subst he
  exact ⟨rfl, h0, h1⟩
theorem rxsRP_5 {X : (Nat → Int → Int) → Prop} {S0 : Nat → Int → Int} {ws : List Int} (hP : rxPRP S0 ws) : rx_obK X S0 rxCRP.2.2.1 rxCPA.2.2.1 (rxIRP S0 ws) (rxmRP S0 ws) 5 6 rxzRP_5 rxzRP_6 [.inr (3, (0, 480))] (some 8) rxPPA rxPSPA := by
  intro S r hinv hXS I0 hin hs_ hf_
  have b_ := bx_bds_sat hs_
  have f_ := bx_fcl_ok hs_.1 hf_
  have g := rxkRP_5 hP hin I0 hinv 
  have ea : List.map (bx_num r) [.inr (3, (0, 480))] = [480] := by
    simp only [List.map_cons, List.map_nil, bx_xv_ok hs_.1]
    rfl
  rw [ea]
  refine ⟨g.1, fun S_p w r_p hPS hX_p I1 hsm hr hw hs_p => ?_⟩
  have hw := hw _ rfl
  subst hw
  have b_p := hs_p.2.2 8 _ _ rfl
  have g2 := g.2 S_p (r_p 8) b_p.1 b_p.2 hPS I1 hsm
  show rxIRP_6 S0 ws S_p (r_p 8) ∧ rxmRP_6 S0 ws S_p (r_p 8) < _
  exact g2
theorem rxkRP_8 {S0 : Nat → Int → Int} {ws : List Int} {S : Nat → Int → Int} {is op arg : Int} (hP : rxPRP S0 ws) (hin : bx_same rxL (bx_mdl rxCRP.2.2.1) S0 S) (I0 : bx_Inv rxL S) (hinv : rxIRP_8 S0 ws S is op arg) (l8 : 0 ≤ is) (u8 : is ≤ 1) (l9 : 0 ≤ op) (u9 : op ≤ 8) (l10 : 0 ≤ arg) (u10 : arg ≤ 1000) : rxPLF S [480, is, op, arg] ∧ ∀ (S_p : Nat → Int → Int), rxPSLF S [480, is, op, arg] S_p none → bx_Inv rxL S_p → bx_same rxL (bx_mdl rxCLF.2.2.1) S S_p → rxIRP_9 S0 ws S_p is op arg ∧ rxmRP_9 S0 ws S_p is op arg < rxmRP_8 S0 ws S is op arg := by
  obtain ⟨rfl, h1⟩ := hinv
  refine ⟨⟨hP.1, hP.2, is, op, arg, rfl, h1⟩, fun S_p hq I1 hsm => ⟨?_, by unfold rxmRP_8 rxmRP_9; omega⟩⟩
  obtain ⟨-, a1, a2, a3, a4, a5⟩ := hq
  exact ⟨⟨a1, a2, a3, a4⟩, fun q => ⟨(a5 q).2, (a5 q).1⟩⟩
theorem rxsRP_8 {X : (Nat → Int → Int) → Prop} {S0 : Nat → Int → Int} {ws : List Int} (hP : rxPRP S0 ws) : rx_obK X S0 rxCRP.2.2.1 rxCLF.2.2.1 (rxIRP S0 ws) (rxmRP S0 ws) 8 9 rxzRP_8 rxzRP_9 [.inr (3, (0, 480)), .inr (0, (8, 0)), .inr (0, (9, 0)), .inr (0, (10, 0))] none rxPLF rxPSLF := by
  intro S r hinv hXS I0 hin hs_ hf_
  have b_ := bx_bds_sat hs_
  have f_ := bx_fcl_ok hs_.1 hf_
  obtain ⟨⟨l8, u8⟩, ⟨l9, u9⟩, ⟨l10, u10⟩, -⟩ := b_
  have g := rxkRP_8 hP hin I0 hinv l8 u8 l9 u9 l10 u10
  have ea : List.map (bx_num r) [.inr (3, (0, 480)), .inr (0, (8, 0)), .inr (0, (9, 0)), .inr (0, (10, 0))] = [480, (r 8), (r 9), (r 10)] := by
    simp only [List.map_cons, List.map_nil, bx_xv_ok hs_.1]
    rfl
  rw [ea]
  refine ⟨g.1, fun S_p w r_p hPS hX_p I1 hsm hr hw hs_p => ?_⟩
  have hw : w = none := hPS.1
  subst hw
  have g2 := g.2 S_p hPS I1 hsm
  show rxIRP_9 S0 ws S_p (r_p 8) (r_p 9) (r_p 10) ∧ rxmRP_9 S0 ws S_p (r_p 8) (r_p 9) (r_p 10) < _
  rw [hr 8 (by decide), hr 9 (by decide), hr 10 (by decide)]
  exact g2
theorem rxcRP_0_0 {S0 : Nat → Int → Int} {ws : List Int} {S : Nat → Int → Int} {x8 x9 : Int} (hP : rxPRP S0 ws) (hin : bx_same rxL (bx_mdl rxCRP.2.2.1) S0 S) (I0 : bx_Inv rxL S) (hinv : rxIRP_0 S0 ws S) (l8 : 0 ≤ x8) (u8 : x8 ≤ 2) (l9 : 1 ≤ x9) (u9 : x9 ≤ 1) (f0 : x9 ≠ 0) (f1 : x8 ≠ 3) (e1 : S 480 11 = x8) (e0 : S 480 15 = x9) : (True) ∧ (True) ∧ rxIRP_3 S0 ws S ∧ rxmRP_3 S0 ws S < rxmRP_0 S0 ws S := by
  obtain ⟨rfl, hw⟩ := hinv
  obtain ⟨⟨⟨k1, k2, k3, k4, k5, k6⟩, -⟩, kb⟩ := hP
  exact ⟨trivial, trivial, rfl, by unfold rxmRP_0 rxmRP_3; omega⟩
theorem rxgRP_0_0 {X : (Nat → Int → Int) → Prop} {S0 : Nat → Int → Int} {ws : List Int} (hP : rxPRP S0 ws) : bx_obC rxL X S0 rxCRP.2.2.1 (rxIRP S0 ws) (rxmRP S0 ws) 0 rxzRP_0 rxoRP_0_0 := by
  intro S S_p r r_p hinv hX hin hsm_ hseg
  obtain ⟨I0, I1, h0_, hr_, b_, f_, d_⟩ := bx_cl (evs := [(0, (0, 480), (0, 15), .inr (0, (9, 0))), (0, (0, 480), (0, 11), .inr (0, (8, 0)))]) (fvs := [(3, (9, 0), (0, 0), (0, 0)), (3, (8, 0), (0, 3), (0, 0))]) hseg (by decide +kernel) (by decide +kernel)
  have hinv : rxIRP_0 S0 ws S := hinv
  obtain ⟨⟨l8, u8⟩, ⟨l9, u9⟩, -⟩ := b_
  obtain ⟨f0, f1, -⟩ := f_
  obtain ⟨e0, ⟨e1, w_⟩⟩ := d_
  subst w_
  have g := rxcRP_0_0 hP hin I0 hinv l8 u8 l9 u9 f0 f1 e1 e0
  refine ⟨bx_narP_ok (l := []) g.1, bx_nfP_ok h0_ (fvs := []) (by decide +kernel) g.2.1, ?_, ?_⟩
  · show rxIRP_3 S0 ws S_p
    exact g.2.2.1
  · show rxmRP_3 S0 ws S_p < rxmRP_0 S0 ws S_p
    exact g.2.2.2
theorem rxcRP_0_1 {S0 : Nat → Int → Int} {ws : List Int} {S : Nat → Int → Int} {x8 x9 : Int} (hP : rxPRP S0 ws) (hin : bx_same rxL (bx_mdl rxCRP.2.2.1) S0 S) (I0 : bx_Inv rxL S) (hinv : rxIRP_0 S0 ws S) (l8 : 0 ≤ x8) (u8 : x8 ≤ 2) (l9 : 0 ≤ x9) (u9 : x9 ≤ 0) (f0 : x8 ≠ 3) (e1 : S 480 11 = x8) (e0 : S 480 15 = x9) : (True) ∧ (True) ∧ rxIRP_5 S0 ws S ∧ rxmRP_5 S0 ws S < rxmRP_0 S0 ws S := by
  obtain ⟨rfl, hw⟩ := hinv
  obtain ⟨⟨⟨k1, k2, k3, k4, k5, k6⟩, -⟩, kb⟩ := hP
  exact ⟨trivial, trivial, rfl, by unfold rxmRP_0 rxmRP_5; omega⟩
theorem rxgRP_0_1 {X : (Nat → Int → Int) → Prop} {S0 : Nat → Int → Int} {ws : List Int} (hP : rxPRP S0 ws) : bx_obC rxL X S0 rxCRP.2.2.1 (rxIRP S0 ws) (rxmRP S0 ws) 0 rxzRP_0 rxoRP_0_1 := by
  intro S S_p r r_p hinv hX hin hsm_ hseg
  obtain ⟨I0, I1, h0_, hr_, b_, f_, d_⟩ := bx_cl (evs := [(0, (0, 480), (0, 15), .inr (0, (9, 0))), (0, (0, 480), (0, 11), .inr (0, (8, 0)))]) (fvs := [(3, (8, 0), (0, 3), (0, 0))]) hseg (by decide +kernel) (by decide +kernel)
  have hinv : rxIRP_0 S0 ws S := hinv
  obtain ⟨⟨l8, u8⟩, ⟨l9, u9⟩, -⟩ := b_
  obtain ⟨f0, -⟩ := f_
  obtain ⟨e0, ⟨e1, w_⟩⟩ := d_
  subst w_
  have g := rxcRP_0_1 hP hin I0 hinv l8 u8 l9 u9 f0 e1 e0
  refine ⟨bx_narP_ok (l := []) g.1, bx_nfP_ok h0_ (fvs := []) (by decide +kernel) g.2.1, ?_, ?_⟩
  · show rxIRP_5 S0 ws S_p
    exact g.2.2.1
  · show rxmRP_5 S0 ws S_p < rxmRP_0 S0 ws S_p
    exact g.2.2.2
theorem rxcRP_0_2 {S0 : Nat → Int → Int} {ws : List Int} {S : Nat → Int → Int} {x8 x9 x10 : Int} (hP : rxPRP S0 ws) (hin : bx_same rxL (bx_mdl rxCRP.2.2.1) S0 S) (I0 : bx_Inv rxL S) (hinv : rxIRP_0 S0 ws S) (l8 : 3 ≤ x8) (u8 : x8 ≤ 3) (l9 : (-9223372036854775808) ≤ x9) (u9 : x9 ≤ 9223372036854775807) (l10 : 1 ≤ x10) (u10 : x10 ≤ 1) (f0 : x10 ≠ 0) (f1 : x9 ≠ 91) (e2 : S 480 11 = x8) (e1 : S 480 12 = x9) (e0 : S 480 15 = x10) : (True) ∧ (True) ∧ rxIRP_3 S0 ws S ∧ rxmRP_3 S0 ws S < rxmRP_0 S0 ws S := by
  obtain ⟨rfl, hw⟩ := hinv
  obtain ⟨⟨⟨k1, k2, k3, k4, k5, k6⟩, -⟩, kb⟩ := hP
  exact ⟨trivial, trivial, rfl, by unfold rxmRP_0 rxmRP_3; omega⟩
theorem rxgRP_0_2 {X : (Nat → Int → Int) → Prop} {S0 : Nat → Int → Int} {ws : List Int} (hP : rxPRP S0 ws) : bx_obC rxL X S0 rxCRP.2.2.1 (rxIRP S0 ws) (rxmRP S0 ws) 0 rxzRP_0 rxoRP_0_2 := by
  intro S S_p r r_p hinv hX hin hsm_ hseg
  obtain ⟨I0, I1, h0_, hr_, b_, f_, d_⟩ := bx_cl (evs := [(0, (0, 480), (0, 15), .inr (0, (10, 0))), (0, (0, 480), (0, 12), .inr (1, (9, 0))), (0, (0, 480), (0, 11), .inr (0, (8, 0)))]) (fvs := [(3, (10, 0), (0, 0), (0, 0)), (3, (9, 0), (0, 91), (0, 0))]) hseg (by decide +kernel) (by decide +kernel)
  have hinv : rxIRP_0 S0 ws S := hinv
  obtain ⟨⟨l8, u8⟩, ⟨l9, u9⟩, ⟨l10, u10⟩, -⟩ := b_
  obtain ⟨f0, f1, -⟩ := f_
  obtain ⟨e0, ⟨e1, ⟨e2, w_⟩⟩⟩ := d_
  subst w_
  have g := rxcRP_0_2 hP hin I0 hinv l8 u8 l9 u9 l10 u10 f0 f1 e2 e1 e0
  refine ⟨bx_narP_ok (l := []) g.1, bx_nfP_ok h0_ (fvs := []) (by decide +kernel) g.2.1, ?_, ?_⟩
  · show rxIRP_3 S0 ws S_p
    exact g.2.2.1
  · show rxmRP_3 S0 ws S_p < rxmRP_0 S0 ws S_p
    exact g.2.2.2
theorem rxcRP_0_3 {S0 : Nat → Int → Int} {ws : List Int} {S : Nat → Int → Int} {x8 x9 x10 : Int} (hP : rxPRP S0 ws) (hin : bx_same rxL (bx_mdl rxCRP.2.2.1) S0 S) (I0 : bx_Inv rxL S) (hinv : rxIRP_0 S0 ws S) (l8 : 3 ≤ x8) (u8 : x8 ≤ 3) (l9 : (-9223372036854775808) ≤ x9) (u9 : x9 ≤ 9223372036854775807) (l10 : 0 ≤ x10) (u10 : x10 ≤ 0) (f0 : x9 ≠ 91) (e2 : S 480 11 = x8) (e1 : S 480 12 = x9) (e0 : S 480 15 = x10) : (True) ∧ (True) ∧ rxIRP_5 S0 ws S ∧ rxmRP_5 S0 ws S < rxmRP_0 S0 ws S := by
  obtain ⟨rfl, hw⟩ := hinv
  obtain ⟨⟨⟨k1, k2, k3, k4, k5, k6⟩, -⟩, kb⟩ := hP
  exact ⟨trivial, trivial, rfl, by unfold rxmRP_0 rxmRP_5; omega⟩
theorem rxgRP_0_3 {X : (Nat → Int → Int) → Prop} {S0 : Nat → Int → Int} {ws : List Int} (hP : rxPRP S0 ws) : bx_obC rxL X S0 rxCRP.2.2.1 (rxIRP S0 ws) (rxmRP S0 ws) 0 rxzRP_0 rxoRP_0_3 := by
  intro S S_p r r_p hinv hX hin hsm_ hseg
  obtain ⟨I0, I1, h0_, hr_, b_, f_, d_⟩ := bx_cl (evs := [(0, (0, 480), (0, 15), .inr (0, (10, 0))), (0, (0, 480), (0, 12), .inr (1, (9, 0))), (0, (0, 480), (0, 11), .inr (0, (8, 0)))]) (fvs := [(3, (9, 0), (0, 91), (0, 0))]) hseg (by decide +kernel) (by decide +kernel)
  have hinv : rxIRP_0 S0 ws S := hinv
  obtain ⟨⟨l8, u8⟩, ⟨l9, u9⟩, ⟨l10, u10⟩, -⟩ := b_
  obtain ⟨f0, -⟩ := f_
  obtain ⟨e0, ⟨e1, ⟨e2, w_⟩⟩⟩ := d_
  subst w_
  have g := rxcRP_0_3 hP hin I0 hinv l8 u8 l9 u9 l10 u10 f0 e2 e1 e0
  refine ⟨bx_narP_ok (l := []) g.1, bx_nfP_ok h0_ (fvs := []) (by decide +kernel) g.2.1, ?_, ?_⟩
  · show rxIRP_5 S0 ws S_p
    exact g.2.2.1
  · show rxmRP_5 S0 ws S_p < rxmRP_0 S0 ws S_p
    exact g.2.2.2
theorem rxcRP_0_4 {S0 : Nat → Int → Int} {ws : List Int} {S : Nat → Int → Int} {x8 x9 : Int} (hP : rxPRP S0 ws) (hin : bx_same rxL (bx_mdl rxCRP.2.2.1) S0 S) (I0 : bx_Inv rxL S) (hinv : rxIRP_0 S0 ws S) (l8 : 3 ≤ x8) (u8 : x8 ≤ 3) (l9 : 91 ≤ x9) (u9 : x9 ≤ 91) (e1 : S 480 11 = x8) (e0 : S 480 12 = x9) : (True) ∧ (True) ∧ rxIRP_1 S0 ws S ∧ rxmRP_1 S0 ws S < rxmRP_0 S0 ws S := by
  obtain ⟨rfl, hw⟩ := hinv
  obtain ⟨⟨⟨k1, k2, k3, k4, k5, k6⟩, -⟩, kb⟩ := hP
  exact ⟨trivial, trivial, ⟨rfl, by omega⟩, by unfold rxmRP_0 rxmRP_1; omega⟩
theorem rxgRP_0_4 {X : (Nat → Int → Int) → Prop} {S0 : Nat → Int → Int} {ws : List Int} (hP : rxPRP S0 ws) : bx_obC rxL X S0 rxCRP.2.2.1 (rxIRP S0 ws) (rxmRP S0 ws) 0 rxzRP_0 rxoRP_0_4 := by
  intro S S_p r r_p hinv hX hin hsm_ hseg
  obtain ⟨I0, I1, h0_, hr_, b_, f_, d_⟩ := bx_cl (evs := [(0, (0, 480), (0, 12), .inr (1, (9, 0))), (0, (0, 480), (0, 11), .inr (0, (8, 0)))]) (fvs := []) hseg (by decide +kernel) (by decide +kernel)
  have hinv : rxIRP_0 S0 ws S := hinv
  obtain ⟨⟨l8, u8⟩, ⟨l9, u9⟩, -⟩ := b_
  obtain ⟨e0, ⟨e1, w_⟩⟩ := d_
  subst w_
  have g := rxcRP_0_4 hP hin I0 hinv l8 u8 l9 u9 e1 e0
  refine ⟨bx_narP_ok (l := []) g.1, bx_nfP_ok h0_ (fvs := []) (by decide +kernel) g.2.1, ?_, ?_⟩
  · show rxIRP_1 S0 ws S_p
    exact g.2.2.1
  · show rxmRP_1 S0 ws S_p < rxmRP_0 S0 ws S_p
    exact g.2.2.2
theorem rxdRP_2_0 {S0 : Nat → Int → Int} {ws : List Int} {S : Nat → Int → Int} (hP : rxPRP S0 ws) (hin : bx_same rxL (bx_mdl rxCRP.2.2.1) S0 S) (hin2 : bx_same rxL (bx_mdl rxCRP.2.2.1) S S) (I0 : bx_Inv rxL S) (I1 : bx_Inv rxL S) (hinv : rxIRP_2 S0 ws S)  : (True) ∧ rxPSRP S0 ws S (some 1) := by
  obtain ⟨h1, h2⟩ := hinv
  exact ⟨trivial, 1, rfl, Or.inl rfl, h1, fun q => ⟨(h2 q).1, Or.inl ⟨rfl, (h2 q).2⟩⟩⟩
theorem rxfRP_2_0 {X : (Nat → Int → Int) → Prop} {S0 : Nat → Int → Int} {ws : List Int} (hP : rxPRP S0 ws) : bx_obE rxL X S0 rxCRP.2.2.1 (rxIRP S0 ws) (rxPSRP S0 ws) 2 rxzRP_2 rxeRP_2_0 := by
  intro S S_p r r_p hinv hX hin hsm_ hseg
  obtain ⟨I0, I1, h0_, hr_, b_, f_, d_⟩ := bx_cl (evs := []) (fvs := []) hseg (by decide +kernel) (by decide +kernel)
  have hinv : rxIRP_2 S0 ws S := hinv
  have w_ := d_
  subst w_
  have g := rxdRP_2_0 hP hin hsm_ I0 I1 hinv 
  refine ⟨bx_narP_ok (l := []) g.1, ?_⟩
  show rxPSRP S0 ws S_p (some (bx_num r_p (.inr (0, (0, 1)))))
  rw [bx_xv_ok h0_]
  exact g.2
theorem rxcRP_4_0 {S0 : Nat → Int → Int} {ws : List Int} {S : Nat → Int → Int} {its x9 x10 : Int} (hP : rxPRP S0 ws) (hin : bx_same rxL (bx_mdl rxCRP.2.2.1) S0 S) (I0 : bx_Inv rxL S) (hinv : rxIRP_4 S0 ws S its) (l8 : (-1) ≤ its) (u8 : its ≤ (-1)) (l9 : 2 ≤ x9) (u9 : x9 ≤ 2) (l10 : (-9223372036854775808) ≤ x10) (u10 : x10 ≤ 1000) (e1 : S 480 11 = x9) (e0 : S 480 12 = x10) : ((0 ≤ x10 ∧ x10 ≤ 1000) ∧ True) ∧ (True) ∧ rxIRP_7 S0 ws S 1 0 x10 ∧ rxmRP_7 S0 ws S 1 0 x10 < rxmRP_4 S0 ws S its := by
  obtain ⟨rfl, h0, h1⟩ := hinv
  obtain ⟨⟨⟨k1, k2, k3, k4, k5, k6⟩, -⟩, kb⟩ := hP
  exact ⟨⟨by omega, trivial⟩, trivial, ⟨rfl, fun q => by omega⟩, by unfold rxmRP_4 rxmRP_7; omega⟩
theorem rxgRP_4_0 {X : (Nat → Int → Int) → Prop} {S0 : Nat → Int → Int} {ws : List Int} (hP : rxPRP S0 ws) : bx_obC rxL X S0 rxCRP.2.2.1 (rxIRP S0 ws) (rxmRP S0 ws) 4 rxzRP_4 rxoRP_4_0 := by
  intro S S_p r r_p hinv hX hin hsm_ hseg
  obtain ⟨I0, I1, h0_, hr_, b_, f_, d_⟩ := bx_cl (evs := [(0, (0, 480), (0, 12), .inr (1, (10, 0))), (0, (0, 480), (0, 11), .inr (0, (9, 0)))]) (fvs := []) hseg (by decide +kernel) (by decide +kernel)
  have hinv : rxIRP_4 S0 ws S (r 8) := hinv
  rw [← hr_ 8 (by decide)] at hinv
  obtain ⟨⟨l8, u8⟩, ⟨l9, u9⟩, ⟨l10, u10⟩, -⟩ := b_
  obtain ⟨e0, ⟨e1, w_⟩⟩ := d_
  subst w_
  have g := rxcRP_4_0 hP hin I0 hinv l8 u8 l9 u9 l10 u10 e1 e0
  refine ⟨bx_narP_ok (l := [(10, 0, 1000)]) g.1, bx_nfP_ok h0_ (fvs := []) (by decide +kernel) g.2.1, ?_, ?_⟩
  · show rxIRP_7 S0 ws S_p (bx_val [(0, 0), (0, 0), (0, 0), (0, 0), (0, 0), (0, 0), (0, 0), (0, 0), (0, 1), (0, 0), (10, 0)] r_p 8) (bx_val [(0, 0), (0, 0), (0, 0), (0, 0), (0, 0), (0, 0), (0, 0), (0, 0), (0, 1), (0, 0), (10, 0)] r_p 9) (bx_val [(0, 0), (0, 0), (0, 0), (0, 0), (0, 0), (0, 0), (0, 0), (0, 0), (0, 1), (0, 0), (10, 0)] r_p 10)
    rw [bx_val_x (n := 8) (e := (0, 1)) h0_ rfl, bx_val_x (n := 9) (e := (0, 0)) h0_ rfl, bx_val_x (n := 10) (e := (10, 0)) h0_ rfl]
    exact g.2.2.1
  · show rxmRP_7 S0 ws S_p (bx_val [(0, 0), (0, 0), (0, 0), (0, 0), (0, 0), (0, 0), (0, 0), (0, 0), (0, 1), (0, 0), (10, 0)] r_p 8) (bx_val [(0, 0), (0, 0), (0, 0), (0, 0), (0, 0), (0, 0), (0, 0), (0, 0), (0, 1), (0, 0), (10, 0)] r_p 9) (bx_val [(0, 0), (0, 0), (0, 0), (0, 0), (0, 0), (0, 0), (0, 0), (0, 0), (0, 1), (0, 0), (10, 0)] r_p 10) < rxmRP_4 S0 ws S_p (r 8)
    rw [bx_val_x (n := 8) (e := (0, 1)) h0_ rfl, bx_val_x (n := 9) (e := (0, 0)) h0_ rfl, bx_val_x (n := 10) (e := (10, 0)) h0_ rfl, ← hr_ 8 (by decide)]
    exact g.2.2.2
theorem rxcRP_4_1 {S0 : Nat → Int → Int} {ws : List Int} {S : Nat → Int → Int} {its x9 x10 : Int} (hP : rxPRP S0 ws) (hin : bx_same rxL (bx_mdl rxCRP.2.2.1) S0 S) (I0 : bx_Inv rxL S) (hinv : rxIRP_4 S0 ws S its) (l8 : 0 ≤ its) (u8 : its ≤ 8) (l9 : 2 ≤ x9) (u9 : x9 ≤ 2) (l10 : (-9223372036854775808) ≤ x10) (u10 : x10 ≤ 1000) (f0 : its ≠ (-1)) (f1 : its ≠ (-1)) (e1 : S 480 11 = x9) (e0 : S 480 12 = x10) : ((0 ≤ x10 ∧ x10 ≤ 1000) ∧ True) ∧ (True) ∧ rxIRP_7 S0 ws S 1 its x10 ∧ rxmRP_7 S0 ws S 1 its x10 < rxmRP_4 S0 ws S its := by
  obtain ⟨rfl, h0, h1⟩ := hinv
  obtain ⟨⟨⟨k1, k2, k3, k4, k5, k6⟩, -⟩, kb⟩ := hP
  exact ⟨⟨by omega, trivial⟩, trivial, ⟨rfl, fun q => by omega⟩, by unfold rxmRP_4 rxmRP_7; omega⟩
theorem rxgRP_4_1 {X : (Nat → Int → Int) → Prop} {S0 : Nat → Int → Int} {ws : List Int} (hP : rxPRP S0 ws) : bx_obC rxL X S0 rxCRP.2.2.1 (rxIRP S0 ws) (rxmRP S0 ws) 4 rxzRP_4 rxoRP_4_1 := by
  intro S S_p r r_p hinv hX hin hsm_ hseg
  obtain ⟨I0, I1, h0_, hr_, b_, f_, d_⟩ := bx_cl (evs := [(0, (0, 480), (0, 12), .inr (1, (10, 0))), (0, (0, 480), (0, 11), .inr (0, (9, 0)))]) (fvs := [(3, (8, 0), (0, (-1)), (0, 0)), (3, (8, 0), (0, (-1)), (0, 0))]) hseg (by decide +kernel) (by decide +kernel)
  have hinv : rxIRP_4 S0 ws S (r 8) := hinv
  rw [← hr_ 8 (by decide)] at hinv
  obtain ⟨⟨l8, u8⟩, ⟨l9, u9⟩, ⟨l10, u10⟩, -⟩ := b_
  obtain ⟨f0, f1, -⟩ := f_
  obtain ⟨e0, ⟨e1, w_⟩⟩ := d_
  subst w_
  have g := rxcRP_4_1 hP hin I0 hinv l8 u8 l9 u9 l10 u10 f0 f1 e1 e0
  refine ⟨bx_narP_ok (l := [(10, 0, 1000)]) g.1, bx_nfP_ok h0_ (fvs := []) (by decide +kernel) g.2.1, ?_, ?_⟩
  · show rxIRP_7 S0 ws S_p (bx_val [(0, 0), (0, 0), (0, 0), (0, 0), (0, 0), (0, 0), (0, 0), (0, 0), (0, 1), (8, 0), (10, 0)] r_p 8) (bx_val [(0, 0), (0, 0), (0, 0), (0, 0), (0, 0), (0, 0), (0, 0), (0, 0), (0, 1), (8, 0), (10, 0)] r_p 9) (bx_val [(0, 0), (0, 0), (0, 0), (0, 0), (0, 0), (0, 0), (0, 0), (0, 0), (0, 1), (8, 0), (10, 0)] r_p 10)
    rw [bx_val_x (n := 8) (e := (0, 1)) h0_ rfl, bx_val_x (n := 9) (e := (8, 0)) h0_ rfl, bx_val_x (n := 10) (e := (10, 0)) h0_ rfl]
    exact g.2.2.1
  · show rxmRP_7 S0 ws S_p (bx_val [(0, 0), (0, 0), (0, 0), (0, 0), (0, 0), (0, 0), (0, 0), (0, 0), (0, 1), (8, 0), (10, 0)] r_p 8) (bx_val [(0, 0), (0, 0), (0, 0), (0, 0), (0, 0), (0, 0), (0, 0), (0, 0), (0, 1), (8, 0), (10, 0)] r_p 9) (bx_val [(0, 0), (0, 0), (0, 0), (0, 0), (0, 0), (0, 0), (0, 0), (0, 0), (0, 1), (8, 0), (10, 0)] r_p 10) < rxmRP_4 S0 ws S_p (r 8)
    rw [bx_val_x (n := 8) (e := (0, 1)) h0_ rfl, bx_val_x (n := 9) (e := (8, 0)) h0_ rfl, bx_val_x (n := 10) (e := (10, 0)) h0_ rfl, ← hr_ 8 (by decide)]
    exact g.2.2.2
theorem rxcRP_4_2 {S0 : Nat → Int → Int} {ws : List Int} {S : Nat → Int → Int} {its x9 x10 : Int} (hP : rxPRP S0 ws) (hin : bx_same rxL (bx_mdl rxCRP.2.2.1) S0 S) (I0 : bx_Inv rxL S) (hinv : rxIRP_4 S0 ws S its) (l8 : (-1) ≤ its) (u8 : its ≤ (-1)) (l9 : 2 ≤ x9) (u9 : x9 ≤ 2) (l10 : 1001 ≤ x10) (u10 : x10 ≤ 9223372036854775807) (e1 : S 480 11 = x9) (e0 : S 480 12 = x10) : (True) ∧ (True) ∧ rxIRP_8 S0 ws S 0 0 0 ∧ rxmRP_8 S0 ws S 0 0 0 < rxmRP_4 S0 ws S its := by
  obtain ⟨rfl, h0, h1⟩ := hinv
  obtain ⟨⟨⟨k1, k2, k3, k4, k5, k6⟩, -⟩, kb⟩ := hP
  exact ⟨trivial, trivial, ⟨rfl, fun q => by omega⟩, by unfold rxmRP_4 rxmRP_8; omega⟩
theorem rxgRP_4_2 {X : (Nat → Int → Int) → Prop} {S0 : Nat → Int → Int} {ws : List Int} (hP : rxPRP S0 ws) : bx_obC rxL X S0 rxCRP.2.2.1 (rxIRP S0 ws) (rxmRP S0 ws) 4 rxzRP_4 rxoRP_4_2 := by
  intro S S_p r r_p hinv hX hin hsm_ hseg
  obtain ⟨I0, I1, h0_, hr_, b_, f_, d_⟩ := bx_cl (evs := [(0, (0, 480), (0, 12), .inr (1, (10, 0))), (0, (0, 480), (0, 11), .inr (0, (9, 0)))]) (fvs := []) hseg (by decide +kernel) (by decide +kernel)
  have hinv : rxIRP_4 S0 ws S (r 8) := hinv
  rw [← hr_ 8 (by decide)] at hinv
  obtain ⟨⟨l8, u8⟩, ⟨l9, u9⟩, ⟨l10, u10⟩, -⟩ := b_
  obtain ⟨e0, ⟨e1, w_⟩⟩ := d_
  subst w_
  have g := rxcRP_4_2 hP hin I0 hinv l8 u8 l9 u9 l10 u10 e1 e0
  refine ⟨bx_narP_ok (l := []) g.1, bx_nfP_ok h0_ (fvs := []) (by decide +kernel) g.2.1, ?_, ?_⟩
  · show rxIRP_8 S0 ws S_p (bx_val [(0, 0), (0, 0), (0, 0), (0, 0), (0, 0), (0, 0), (0, 0), (0, 0), (0, 0), (0, 0), (0, 0)] r_p 8) (bx_val [(0, 0), (0, 0), (0, 0), (0, 0), (0, 0), (0, 0), (0, 0), (0, 0), (0, 0), (0, 0), (0, 0)] r_p 9) (bx_val [(0, 0), (0, 0), (0, 0), (0, 0), (0, 0), (0, 0), (0, 0), (0, 0), (0, 0), (0, 0), (0, 0)] r_p 10)
    rw [bx_val_x (n := 8) (e := (0, 0)) h0_ rfl, bx_val_x (n := 9) (e := (0, 0)) h0_ rfl, bx_val_x (n := 10) (e := (0, 0)) h0_ rfl]
    exact g.2.2.1
  · show rxmRP_8 S0 ws S_p (bx_val [(0, 0), (0, 0), (0, 0), (0, 0), (0, 0), (0, 0), (0, 0), (0, 0), (0, 0), (0, 0), (0, 0)] r_p 8) (bx_val [(0, 0), (0, 0), (0, 0), (0, 0), (0, 0), (0, 0), (0, 0), (0, 0), (0, 0), (0, 0), (0, 0)] r_p 9) (bx_val [(0, 0), (0, 0), (0, 0), (0, 0), (0, 0), (0, 0), (0, 0), (0, 0), (0, 0), (0, 0), (0, 0)] r_p 10) < rxmRP_4 S0 ws S_p (r 8)
    rw [bx_val_x (n := 8) (e := (0, 0)) h0_ rfl, bx_val_x (n := 9) (e := (0, 0)) h0_ rfl, bx_val_x (n := 10) (e := (0, 0)) h0_ rfl, ← hr_ 8 (by decide)]
    exact g.2.2.2
theorem rxcRP_4_3 {S0 : Nat → Int → Int} {ws : List Int} {S : Nat → Int → Int} {its x9 x10 : Int} (hP : rxPRP S0 ws) (hin : bx_same rxL (bx_mdl rxCRP.2.2.1) S0 S) (I0 : bx_Inv rxL S) (hinv : rxIRP_4 S0 ws S its) (l8 : 0 ≤ its) (u8 : its ≤ 8) (l9 : 2 ≤ x9) (u9 : x9 ≤ 2) (l10 : 1001 ≤ x10) (u10 : x10 ≤ 9223372036854775807) (f0 : its ≠ (-1)) (f1 : its ≠ (-1)) (e1 : S 480 11 = x9) (e0 : S 480 12 = x10) : (True) ∧ (True) ∧ rxIRP_8 S0 ws S 1 its 0 ∧ rxmRP_8 S0 ws S 1 its 0 < rxmRP_4 S0 ws S its := by
  obtain ⟨rfl, h0, h1⟩ := hinv
  obtain ⟨⟨⟨k1, k2, k3, k4, k5, k6⟩, -⟩, kb⟩ := hP
  exact ⟨trivial, trivial, ⟨rfl, fun q => by omega⟩, by unfold rxmRP_4 rxmRP_8; omega⟩
theorem rxgRP_4_3 {X : (Nat → Int → Int) → Prop} {S0 : Nat → Int → Int} {ws : List Int} (hP : rxPRP S0 ws) : bx_obC rxL X S0 rxCRP.2.2.1 (rxIRP S0 ws) (rxmRP S0 ws) 4 rxzRP_4 rxoRP_4_3 := by
  intro S S_p r r_p hinv hX hin hsm_ hseg
  obtain ⟨I0, I1, h0_, hr_, b_, f_, d_⟩ := bx_cl (evs := [(0, (0, 480), (0, 12), .inr (1, (10, 0))), (0, (0, 480), (0, 11), .inr (0, (9, 0)))]) (fvs := [(3, (8, 0), (0, (-1)), (0, 0)), (3, (8, 0), (0, (-1)), (0, 0))]) hseg (by decide +kernel) (by decide +kernel)
  have hinv : rxIRP_4 S0 ws S (r 8) := hinv
  rw [← hr_ 8 (by decide)] at hinv
  obtain ⟨⟨l8, u8⟩, ⟨l9, u9⟩, ⟨l10, u10⟩, -⟩ := b_
  obtain ⟨f0, f1, -⟩ := f_
  obtain ⟨e0, ⟨e1, w_⟩⟩ := d_
  subst w_
  have g := rxcRP_4_3 hP hin I0 hinv l8 u8 l9 u9 l10 u10 f0 f1 e1 e0
  refine ⟨bx_narP_ok (l := []) g.1, bx_nfP_ok h0_ (fvs := []) (by decide +kernel) g.2.1, ?_, ?_⟩
  · show rxIRP_8 S0 ws S_p (bx_val [(0, 0), (0, 0), (0, 0), (0, 0), (0, 0), (0, 0), (0, 0), (0, 0), (0, 1), (8, 0), (0, 0)] r_p 8) (bx_val [(0, 0), (0, 0), (0, 0), (0, 0), (0, 0), (0, 0), (0, 0), (0, 0), (0, 1), (8, 0), (0, 0)] r_p 9) (bx_val [(0, 0), (0, 0), (0, 0), (0, 0), (0, 0), (0, 0), (0, 0), (0, 0), (0, 1), (8, 0), (0, 0)] r_p 10)
    rw [bx_val_x (n := 8) (e := (0, 1)) h0_ rfl, bx_val_x (n := 9) (e := (8, 0)) h0_ rfl, bx_val_x (n := 10) (e := (0, 0)) h0_ rfl]
    exact g.2.2.1
  · show rxmRP_8 S0 ws S_p (bx_val [(0, 0), (0, 0), (0, 0), (0, 0), (0, 0), (0, 0), (0, 0), (0, 0), (0, 1), (8, 0), (0, 0)] r_p 8) (bx_val [(0, 0), (0, 0), (0, 0), (0, 0), (0, 0), (0, 0), (0, 0), (0, 0), (0, 1), (8, 0), (0, 0)] r_p 9) (bx_val [(0, 0), (0, 0), (0, 0), (0, 0), (0, 0), (0, 0), (0, 0), (0, 0), (0, 1), (8, 0), (0, 0)] r_p 10) < rxmRP_4 S0 ws S_p (r 8)
    rw [bx_val_x (n := 8) (e := (0, 1)) h0_ rfl, bx_val_x (n := 9) (e := (8, 0)) h0_ rfl, bx_val_x (n := 10) (e := (0, 0)) h0_ rfl, ← hr_ 8 (by decide)]
    exact g.2.2.2
theorem rxcRP_4_4 {S0 : Nat → Int → Int} {ws : List Int} {S : Nat → Int → Int} {its x9 : Int} (hP : rxPRP S0 ws) (hin : bx_same rxL (bx_mdl rxCRP.2.2.1) S0 S) (I0 : bx_Inv rxL S) (hinv : rxIRP_4 S0 ws S its) (l8 : (-1) ≤ its) (u8 : its ≤ (-1)) (l9 : 0 ≤ x9) (u9 : x9 ≤ 3) (f0 : x9 ≠ 2) (e0 : S 480 11 = x9) : (True) ∧ (True) ∧ rxIRP_8 S0 ws S 0 0 0 ∧ rxmRP_8 S0 ws S 0 0 0 < rxmRP_4 S0 ws S its := by
  obtain ⟨rfl, h0, h1⟩ := hinv
  obtain ⟨⟨⟨k1, k2, k3, k4, k5, k6⟩, -⟩, kb⟩ := hP
  exact ⟨trivial, trivial, ⟨rfl, fun q => by omega⟩, by unfold rxmRP_4 rxmRP_8; omega⟩
theorem rxgRP_4_4 {X : (Nat → Int → Int) → Prop} {S0 : Nat → Int → Int} {ws : List Int} (hP : rxPRP S0 ws) : bx_obC rxL X S0 rxCRP.2.2.1 (rxIRP S0 ws) (rxmRP S0 ws) 4 rxzRP_4 rxoRP_4_4 := by
  intro S S_p r r_p hinv hX hin hsm_ hseg
  obtain ⟨I0, I1, h0_, hr_, b_, f_, d_⟩ := bx_cl (evs := [(0, (0, 480), (0, 11), .inr (0, (9, 0)))]) (fvs := [(3, (9, 0), (0, 2), (0, 0))]) hseg (by decide +kernel) (by decide +kernel)
  have hinv : rxIRP_4 S0 ws S (r 8) := hinv
  rw [← hr_ 8 (by decide)] at hinv
  obtain ⟨⟨l8, u8⟩, ⟨l9, u9⟩, -⟩ := b_
  obtain ⟨f0, -⟩ := f_
  obtain ⟨e0, w_⟩ := d_
  subst w_
  have g := rxcRP_4_4 hP hin I0 hinv l8 u8 l9 u9 f0 e0
  refine ⟨bx_narP_ok (l := []) g.1, bx_nfP_ok h0_ (fvs := []) (by decide +kernel) g.2.1, ?_, ?_⟩
  · show rxIRP_8 S0 ws S_p (bx_val [(0, 0), (0, 0), (0, 0), (0, 0), (0, 0), (0, 0), (0, 0), (0, 0), (0, 0), (0, 0), (0, 0)] r_p 8) (bx_val [(0, 0), (0, 0), (0, 0), (0, 0), (0, 0), (0, 0), (0, 0), (0, 0), (0, 0), (0, 0), (0, 0)] r_p 9) (bx_val [(0, 0), (0, 0), (0, 0), (0, 0), (0, 0), (0, 0), (0, 0), (0, 0), (0, 0), (0, 0), (0, 0)] r_p 10)
    rw [bx_val_x (n := 8) (e := (0, 0)) h0_ rfl, bx_val_x (n := 9) (e := (0, 0)) h0_ rfl, bx_val_x (n := 10) (e := (0, 0)) h0_ rfl]
    exact g.2.2.1
  · show rxmRP_8 S0 ws S_p (bx_val [(0, 0), (0, 0), (0, 0), (0, 0), (0, 0), (0, 0), (0, 0), (0, 0), (0, 0), (0, 0), (0, 0)] r_p 8) (bx_val [(0, 0), (0, 0), (0, 0), (0, 0), (0, 0), (0, 0), (0, 0), (0, 0), (0, 0), (0, 0), (0, 0)] r_p 9) (bx_val [(0, 0), (0, 0), (0, 0), (0, 0), (0, 0), (0, 0), (0, 0), (0, 0), (0, 0), (0, 0), (0, 0)] r_p 10) < rxmRP_4 S0 ws S_p (r 8)
    rw [bx_val_x (n := 8) (e := (0, 0)) h0_ rfl, bx_val_x (n := 9) (e := (0, 0)) h0_ rfl, bx_val_x (n := 10) (e := (0, 0)) h0_ rfl, ← hr_ 8 (by decide)]
    exact g.2.2.2
theorem rxcRP_4_5 {S0 : Nat → Int → Int} {ws : List Int} {S : Nat → Int → Int} {its x9 : Int} (hP : rxPRP S0 ws) (hin : bx_same rxL (bx_mdl rxCRP.2.2.1) S0 S) (I0 : bx_Inv rxL S) (hinv : rxIRP_4 S0 ws S its) (l8 : 0 ≤ its) (u8 : its ≤ 8) (l9 : 0 ≤ x9) (u9 : x9 ≤ 3) (f0 : its ≠ (-1)) (f1 : its ≠ (-1)) (f2 : x9 ≠ 2) (e0 : S 480 11 = x9) : (True) ∧ (True) ∧ rxIRP_8 S0 ws S 1 its 0 ∧ rxmRP_8 S0 ws S 1 its 0 < rxmRP_4 S0 ws S its := by
  obtain ⟨rfl, h0, h1⟩ := hinv
  obtain ⟨⟨⟨k1, k2, k3, k4, k5, k6⟩, -⟩, kb⟩ := hP
  exact ⟨trivial, trivial, ⟨rfl, fun q => by omega⟩, by unfold rxmRP_4 rxmRP_8; omega⟩
theorem rxgRP_4_5 {X : (Nat → Int → Int) → Prop} {S0 : Nat → Int → Int} {ws : List Int} (hP : rxPRP S0 ws) : bx_obC rxL X S0 rxCRP.2.2.1 (rxIRP S0 ws) (rxmRP S0 ws) 4 rxzRP_4 rxoRP_4_5 := by
  intro S S_p r r_p hinv hX hin hsm_ hseg
  obtain ⟨I0, I1, h0_, hr_, b_, f_, d_⟩ := bx_cl (evs := [(0, (0, 480), (0, 11), .inr (0, (9, 0)))]) (fvs := [(3, (8, 0), (0, (-1)), (0, 0)), (3, (8, 0), (0, (-1)), (0, 0)), (3, (9, 0), (0, 2), (0, 0))]) hseg (by decide +kernel) (by decide +kernel)
  have hinv : rxIRP_4 S0 ws S (r 8) := hinv
  rw [← hr_ 8 (by decide)] at hinv
  obtain ⟨⟨l8, u8⟩, ⟨l9, u9⟩, -⟩ := b_
  obtain ⟨f0, f1, f2, -⟩ := f_
  obtain ⟨e0, w_⟩ := d_
  subst w_
  have g := rxcRP_4_5 hP hin I0 hinv l8 u8 l9 u9 f0 f1 f2 e0
  refine ⟨bx_narP_ok (l := []) g.1, bx_nfP_ok h0_ (fvs := []) (by decide +kernel) g.2.1, ?_, ?_⟩
  · show rxIRP_8 S0 ws S_p (bx_val [(0, 0), (0, 0), (0, 0), (0, 0), (0, 0), (0, 0), (0, 0), (0, 0), (0, 1), (8, 0), (0, 0)] r_p 8) (bx_val [(0, 0), (0, 0), (0, 0), (0, 0), (0, 0), (0, 0), (0, 0), (0, 0), (0, 1), (8, 0), (0, 0)] r_p 9) (bx_val [(0, 0), (0, 0), (0, 0), (0, 0), (0, 0), (0, 0), (0, 0), (0, 0), (0, 1), (8, 0), (0, 0)] r_p 10)
    rw [bx_val_x (n := 8) (e := (0, 1)) h0_ rfl, bx_val_x (n := 9) (e := (8, 0)) h0_ rfl, bx_val_x (n := 10) (e := (0, 0)) h0_ rfl]
    exact g.2.2.1
  · show rxmRP_8 S0 ws S_p (bx_val [(0, 0), (0, 0), (0, 0), (0, 0), (0, 0), (0, 0), (0, 0), (0, 0), (0, 1), (8, 0), (0, 0)] r_p 8) (bx_val [(0, 0), (0, 0), (0, 0), (0, 0), (0, 0), (0, 0), (0, 0), (0, 0), (0, 1), (8, 0), (0, 0)] r_p 9) (bx_val [(0, 0), (0, 0), (0, 0), (0, 0), (0, 0), (0, 0), (0, 0), (0, 0), (0, 1), (8, 0), (0, 0)] r_p 10) < rxmRP_4 S0 ws S_p (r 8)
    rw [bx_val_x (n := 8) (e := (0, 1)) h0_ rfl, bx_val_x (n := 9) (e := (8, 0)) h0_ rfl, bx_val_x (n := 10) (e := (0, 0)) h0_ rfl, ← hr_ 8 (by decide)]
    exact g.2.2.2
theorem rxcRP_6_0 {S0 : Nat → Int → Int} {ws : List Int} {S : Nat → Int → Int} {its x9 x10 : Int} (hP : rxPRP S0 ws) (hin : bx_same rxL (bx_mdl rxCRP.2.2.1) S0 S) (I0 : bx_Inv rxL S) (hinv : rxIRP_6 S0 ws S its) (l8 : (-1) ≤ its) (u8 : its ≤ (-1)) (l9 : 2 ≤ x9) (u9 : x9 ≤ 2) (l10 : (-9223372036854775808) ≤ x10) (u10 : x10 ≤ 1000) (e1 : S 480 11 = x9) (e0 : S 480 12 = x10) : ((0 ≤ x10 ∧ x10 ≤ 1000) ∧ True) ∧ (True) ∧ rxIRP_7 S0 ws S 1 0 x10 ∧ rxmRP_7 S0 ws S 1 0 x10 < rxmRP_6 S0 ws S its := by
  obtain ⟨rfl, h0, h1⟩ := hinv
  obtain ⟨⟨⟨k1, k2, k3, k4, k5, k6⟩, -⟩, kb⟩ := hP
  exact ⟨⟨by omega, trivial⟩, trivial, ⟨rfl, fun q => by omega⟩, by unfold rxmRP_6 rxmRP_7; omega⟩
theorem rxgRP_6_0 {X : (Nat → Int → Int) → Prop} {S0 : Nat → Int → Int} {ws : List Int} (hP : rxPRP S0 ws) : bx_obC rxL X S0 rxCRP.2.2.1 (rxIRP S0 ws) (rxmRP S0 ws) 6 rxzRP_6 rxoRP_6_0 := by
  intro S S_p r r_p hinv hX hin hsm_ hseg
  obtain ⟨I0, I1, h0_, hr_, b_, f_, d_⟩ := bx_cl (evs := [(0, (0, 480), (0, 12), .inr (1, (10, 0))), (0, (0, 480), (0, 11), .inr (0, (9, 0)))]) (fvs := []) hseg (by decide +kernel) (by decide +kernel)
  have hinv : rxIRP_6 S0 ws S (r 8) := hinv
  rw [← hr_ 8 (by decide)] at hinv
  obtain ⟨⟨l8, u8⟩, ⟨l9, u9⟩, ⟨l10, u10⟩, -⟩ := b_
  obtain ⟨e0, ⟨e1, w_⟩⟩ := d_
  subst w_
  have g := rxcRP_6_0 hP hin I0 hinv l8 u8 l9 u9 l10 u10 e1 e0
  refine ⟨bx_narP_ok (l := [(10, 0, 1000)]) g.1, bx_nfP_ok h0_ (fvs := []) (by decide +kernel) g.2.1, ?_, ?_⟩
  · show rxIRP_7 S0 ws S_p (bx_val [(0, 0), (0, 0), (0, 0), (0, 0), (0, 0), (0, 0), (0, 0), (0, 0), (0, 1), (0, 0), (10, 0)] r_p 8) (bx_val [(0, 0), (0, 0), (0, 0), (0, 0), (0, 0), (0, 0), (0, 0), (0, 0), (0, 1), (0, 0), (10, 0)] r_p 9) (bx_val [(0, 0), (0, 0), (0, 0), (0, 0), (0, 0), (0, 0), (0, 0), (0, 0), (0, 1), (0, 0), (10, 0)] r_p 10)
    rw [bx_val_x (n := 8) (e := (0, 1)) h0_ rfl, bx_val_x (n := 9) (e := (0, 0)) h0_ rfl, bx_val_x (n := 10) (e := (10, 0)) h0_ rfl]
    exact g.2.2.1
  · show rxmRP_7 S0 ws S_p (bx_val [(0, 0), (0, 0), (0, 0), (0, 0), (0, 0), (0, 0), (0, 0), (0, 0), (0, 1), (0, 0), (10, 0)] r_p 8) (bx_val [(0, 0), (0, 0), (0, 0), (0, 0), (0, 0), (0, 0), (0, 0), (0, 0), (0, 1), (0, 0), (10, 0)] r_p 9) (bx_val [(0, 0), (0, 0), (0, 0), (0, 0), (0, 0), (0, 0), (0, 0), (0, 0), (0, 1), (0, 0), (10, 0)] r_p 10) < rxmRP_6 S0 ws S_p (r 8)
    rw [bx_val_x (n := 8) (e := (0, 1)) h0_ rfl, bx_val_x (n := 9) (e := (0, 0)) h0_ rfl, bx_val_x (n := 10) (e := (10, 0)) h0_ rfl, ← hr_ 8 (by decide)]
    exact g.2.2.2
theorem rxcRP_6_1 {S0 : Nat → Int → Int} {ws : List Int} {S : Nat → Int → Int} {its x9 x10 : Int} (hP : rxPRP S0 ws) (hin : bx_same rxL (bx_mdl rxCRP.2.2.1) S0 S) (I0 : bx_Inv rxL S) (hinv : rxIRP_6 S0 ws S its) (l8 : 0 ≤ its) (u8 : its ≤ 8) (l9 : 2 ≤ x9) (u9 : x9 ≤ 2) (l10 : (-9223372036854775808) ≤ x10) (u10 : x10 ≤ 1000) (f0 : its ≠ (-1)) (f1 : its ≠ (-1)) (e1 : S 480 11 = x9) (e0 : S 480 12 = x10) : ((0 ≤ x10 ∧ x10 ≤ 1000) ∧ True) ∧ (True) ∧ rxIRP_7 S0 ws S 1 its x10 ∧ rxmRP_7 S0 ws S 1 its x10 < rxmRP_6 S0 ws S its := by
  obtain ⟨rfl, h0, h1⟩ := hinv
  obtain ⟨⟨⟨k1, k2, k3, k4, k5, k6⟩, -⟩, kb⟩ := hP
  exact ⟨⟨by omega, trivial⟩, trivial, ⟨rfl, fun q => by omega⟩, by unfold rxmRP_6 rxmRP_7; omega⟩
theorem rxgRP_6_1 {X : (Nat → Int → Int) → Prop} {S0 : Nat → Int → Int} {ws : List Int} (hP : rxPRP S0 ws) : bx_obC rxL X S0 rxCRP.2.2.1 (rxIRP S0 ws) (rxmRP S0 ws) 6 rxzRP_6 rxoRP_6_1 := by
  intro S S_p r r_p hinv hX hin hsm_ hseg
  obtain ⟨I0, I1, h0_, hr_, b_, f_, d_⟩ := bx_cl (evs := [(0, (0, 480), (0, 12), .inr (1, (10, 0))), (0, (0, 480), (0, 11), .inr (0, (9, 0)))]) (fvs := [(3, (8, 0), (0, (-1)), (0, 0)), (3, (8, 0), (0, (-1)), (0, 0))]) hseg (by decide +kernel) (by decide +kernel)
  have hinv : rxIRP_6 S0 ws S (r 8) := hinv
  rw [← hr_ 8 (by decide)] at hinv
  obtain ⟨⟨l8, u8⟩, ⟨l9, u9⟩, ⟨l10, u10⟩, -⟩ := b_
  obtain ⟨f0, f1, -⟩ := f_
  obtain ⟨e0, ⟨e1, w_⟩⟩ := d_
  subst w_
  have g := rxcRP_6_1 hP hin I0 hinv l8 u8 l9 u9 l10 u10 f0 f1 e1 e0
  refine ⟨bx_narP_ok (l := [(10, 0, 1000)]) g.1, bx_nfP_ok h0_ (fvs := []) (by decide +kernel) g.2.1, ?_, ?_⟩
  · show rxIRP_7 S0 ws S_p (bx_val [(0, 0), (0, 0), (0, 0), (0, 0), (0, 0), (0, 0), (0, 0), (0, 0), (0, 1), (8, 0), (10, 0)] r_p 8) (bx_val [(0, 0), (0, 0), (0, 0), (0, 0), (0, 0), (0, 0), (0, 0), (0, 0), (0, 1), (8, 0), (10, 0)] r_p 9) (bx_val [(0, 0), (0, 0), (0, 0), (0, 0), (0, 0), (0, 0), (0, 0), (0, 0), (0, 1), (8, 0), (10, 0)] r_p 10)
    rw [bx_val_x (n := 8) (e := (0, 1)) h0_ rfl, bx_val_x (n := 9) (e := (8, 0)) h0_ rfl, bx_val_x (n := 10) (e := (10, 0)) h0_ rfl]
    exact g.2.2.1
  · show rxmRP_7 S0 ws S_p (bx_val [(0, 0), (0, 0), (0, 0), (0, 0), (0, 0), (0, 0), (0, 0), (0, 0), (0, 1), (8, 0), (10, 0)] r_p 8) (bx_val [(0, 0), (0, 0), (0, 0), (0, 0), (0, 0), (0, 0), (0, 0), (0, 0), (0, 1), (8, 0), (10, 0)] r_p 9) (bx_val [(0, 0), (0, 0), (0, 0), (0, 0), (0, 0), (0, 0), (0, 0), (0, 0), (0, 1), (8, 0), (10, 0)] r_p 10) < rxmRP_6 S0 ws S_p (r 8)
    rw [bx_val_x (n := 8) (e := (0, 1)) h0_ rfl, bx_val_x (n := 9) (e := (8, 0)) h0_ rfl, bx_val_x (n := 10) (e := (10, 0)) h0_ rfl, ← hr_ 8 (by decide)]
    exact g.2.2.2
theorem rxcRP_6_2 {S0 : Nat → Int → Int} {ws : List Int} {S : Nat → Int → Int} {its x9 x10 : Int} (hP : rxPRP S0 ws) (hin : bx_same rxL (bx_mdl rxCRP.2.2.1) S0 S) (I0 : bx_Inv rxL S) (hinv : rxIRP_6 S0 ws S its) (l8 : (-1) ≤ its) (u8 : its ≤ (-1)) (l9 : 2 ≤ x9) (u9 : x9 ≤ 2) (l10 : 1001 ≤ x10) (u10 : x10 ≤ 9223372036854775807) (e1 : S 480 11 = x9) (e0 : S 480 12 = x10) : (True) ∧ (True) ∧ rxIRP_8 S0 ws S 0 0 0 ∧ rxmRP_8 S0 ws S 0 0 0 < rxmRP_6 S0 ws S its := by
  obtain ⟨rfl, h0, h1⟩ := hinv
  obtain ⟨⟨⟨k1, k2, k3, k4, k5, k6⟩, -⟩, kb⟩ := hP
  exact ⟨trivial, trivial, ⟨rfl, fun q => by omega⟩, by unfold rxmRP_6 rxmRP_8; omega⟩
theorem rxgRP_6_2 {X : (Nat → Int → Int) → Prop} {S0 : Nat → Int → Int} {ws : List Int} (hP : rxPRP S0 ws) : bx_obC rxL X S0 rxCRP.2.2.1 (rxIRP S0 ws) (rxmRP S0 ws) 6 rxzRP_6 rxoRP_6_2 := by
  intro S S_p r r_p hinv hX hin hsm_ hseg
  obtain ⟨I0, I1, h0_, hr_, b_, f_, d_⟩ := bx_cl (evs := [(0, (0, 480), (0, 12), .inr (1, (10, 0))), (0, (0, 480), (0, 11), .inr (0, (9, 0)))]) (fvs := []) hseg (by decide +kernel) (by decide +kernel)
  have hinv : rxIRP_6 S0 ws S (r 8) := hinv
  rw [← hr_ 8 (by decide)] at hinv
  obtain ⟨⟨l8, u8⟩, ⟨l9, u9⟩, ⟨l10, u10⟩, -⟩ := b_
  obtain ⟨e0, ⟨e1, w_⟩⟩ := d_
  subst w_
  have g := rxcRP_6_2 hP hin I0 hinv l8 u8 l9 u9 l10 u10 e1 e0
  refine ⟨bx_narP_ok (l := []) g.1, bx_nfP_ok h0_ (fvs := []) (by decide +kernel) g.2.1, ?_, ?_⟩
  · show rxIRP_8 S0 ws S_p (bx_val [(0, 0), (0, 0), (0, 0), (0, 0), (0, 0), (0, 0), (0, 0), (0, 0), (0, 0), (0, 0), (0, 0)] r_p 8) (bx_val [(0, 0), (0, 0), (0, 0), (0, 0), (0, 0), (0, 0), (0, 0), (0, 0), (0, 0), (0, 0), (0, 0)] r_p 9) (bx_val [(0, 0), (0, 0), (0, 0), (0, 0), (0, 0), (0, 0), (0, 0), (0, 0), (0, 0), (0, 0), (0, 0)] r_p 10)
    rw [bx_val_x (n := 8) (e := (0, 0)) h0_ rfl, bx_val_x (n := 9) (e := (0, 0)) h0_ rfl, bx_val_x (n := 10) (e := (0, 0)) h0_ rfl]
    exact g.2.2.1
  · show rxmRP_8 S0 ws S_p (bx_val [(0, 0), (0, 0), (0, 0), (0, 0), (0, 0), (0, 0), (0, 0), (0, 0), (0, 0), (0, 0), (0, 0)] r_p 8) (bx_val [(0, 0), (0, 0), (0, 0), (0, 0), (0, 0), (0, 0), (0, 0), (0, 0), (0, 0), (0, 0), (0, 0)] r_p 9) (bx_val [(0, 0), (0, 0), (0, 0), (0, 0), (0, 0), (0, 0), (0, 0), (0, 0), (0, 0), (0, 0), (0, 0)] r_p 10) < rxmRP_6 S0 ws S_p (r 8)
    rw [bx_val_x (n := 8) (e := (0, 0)) h0_ rfl, bx_val_x (n := 9) (e := (0, 0)) h0_ rfl, bx_val_x (n := 10) (e := (0, 0)) h0_ rfl, ← hr_ 8 (by decide)]
    exact g.2.2.2
theorem rxcRP_6_3 {S0 : Nat → Int → Int} {ws : List Int} {S : Nat → Int → Int} {its x9 x10 : Int} (hP : rxPRP S0 ws) (hin : bx_same rxL (bx_mdl rxCRP.2.2.1) S0 S) (I0 : bx_Inv rxL S) (hinv : rxIRP_6 S0 ws S its) (l8 : 0 ≤ its) (u8 : its ≤ 8) (l9 : 2 ≤ x9) (u9 : x9 ≤ 2) (l10 : 1001 ≤ x10) (u10 : x10 ≤ 9223372036854775807) (f0 : its ≠ (-1)) (f1 : its ≠ (-1)) (e1 : S 480 11 = x9) (e0 : S 480 12 = x10) : (True) ∧ (True) ∧ rxIRP_8 S0 ws S 1 its 0 ∧ rxmRP_8 S0 ws S 1 its 0 < rxmRP_6 S0 ws S its := by
  obtain ⟨rfl, h0, h1⟩ := hinv
  obtain ⟨⟨⟨k1, k2, k3, k4, k5, k6⟩, -⟩, kb⟩ := hP
  exact ⟨trivial, trivial, ⟨rfl, fun q => by omega⟩, by unfold rxmRP_6 rxmRP_8; omega⟩
theorem rxgRP_6_3 {X : (Nat → Int → Int) → Prop} {S0 : Nat → Int → Int} {ws : List Int} (hP : rxPRP S0 ws) : bx_obC rxL X S0 rxCRP.2.2.1 (rxIRP S0 ws) (rxmRP S0 ws) 6 rxzRP_6 rxoRP_6_3 := by
  intro S S_p r r_p hinv hX hin hsm_ hseg
  obtain ⟨I0, I1, h0_, hr_, b_, f_, d_⟩ := bx_cl (evs := [(0, (0, 480), (0, 12), .inr (1, (10, 0))), (0, (0, 480), (0, 11), .inr (0, (9, 0)))]) (fvs := [(3, (8, 0), (0, (-1)), (0, 0)), (3, (8, 0), (0, (-1)), (0, 0))]) hseg (by decide +kernel) (by decide +kernel)
  have hinv : rxIRP_6 S0 ws S (r 8) := hinv
  rw [← hr_ 8 (by decide)] at hinv
  obtain ⟨⟨l8, u8⟩, ⟨l9, u9⟩, ⟨l10, u10⟩, -⟩ := b_
  obtain ⟨f0, f1, -⟩ := f_
  obtain ⟨e0, ⟨e1, w_⟩⟩ := d_
  subst w_
  have g := rxcRP_6_3 hP hin I0 hinv l8 u8 l9 u9 l10 u10 f0 f1 e1 e0
  refine ⟨bx_narP_ok (l := []) g.1, bx_nfP_ok h0_ (fvs := []) (by decide +kernel) g.2.1, ?_, ?_⟩
  · show rxIRP_8 S0 ws S_p (bx_val [(0, 0), (0, 0), (0, 0), (0, 0), (0, 0), (0, 0), (0, 0), (0, 0), (0, 1), (8, 0), (0, 0)] r_p 8) (bx_val [(0, 0), (0, 0), (0, 0), (0, 0), (0, 0), (0, 0), (0, 0), (0, 0), (0, 1), (8, 0), (0, 0)] r_p 9) (bx_val [(0, 0), (0, 0), (0, 0), (0, 0), (0, 0), (0, 0), (0, 0), (0, 0), (0, 1), (8, 0), (0, 0)] r_p 10)
    rw [bx_val_x (n := 8) (e := (0, 1)) h0_ rfl, bx_val_x (n := 9) (e := (8, 0)) h0_ rfl, bx_val_x (n := 10) (e := (0, 0)) h0_ rfl]
    exact g.2.2.1
  · show rxmRP_8 S0 ws S_p (bx_val [(0, 0), (0, 0), (0, 0), (0, 0), (0, 0), (0, 0), (0, 0), (0, 0), (0, 1), (8, 0), (0, 0)] r_p 8) (bx_val [(0, 0), (0, 0), (0, 0), (0, 0), (0, 0), (0, 0), (0, 0), (0, 0), (0, 1), (8, 0), (0, 0)] r_p 9) (bx_val [(0, 0), (0, 0), (0, 0), (0, 0), (0, 0), (0, 0), (0, 0), (0, 0), (0, 1), (8, 0), (0, 0)] r_p 10) < rxmRP_6 S0 ws S_p (r 8)
    rw [bx_val_x (n := 8) (e := (0, 1)) h0_ rfl, bx_val_x (n := 9) (e := (8, 0)) h0_ rfl, bx_val_x (n := 10) (e := (0, 0)) h0_ rfl, ← hr_ 8 (by decide)]
    exact g.2.2.2
theorem rxcRP_6_4 {S0 : Nat → Int → Int} {ws : List Int} {S : Nat → Int → Int} {its x9 : Int} (hP : rxPRP S0 ws) (hin : bx_same rxL (bx_mdl rxCRP.2.2.1) S0 S) (I0 : bx_Inv rxL S) (hinv : rxIRP_6 S0 ws S its) (l8 : (-1) ≤ its) (u8 : its ≤ (-1)) (l9 : 0 ≤ x9) (u9 : x9 ≤ 3) (f0 : x9 ≠ 2) (e0 : S 480 11 = x9) : (True) ∧ (True) ∧ rxIRP_8 S0 ws S 0 0 0 ∧ rxmRP_8 S0 ws S 0 0 0 < rxmRP_6 S0 ws S its := by
  obtain ⟨rfl, h0, h1⟩ := hinv
  obtain ⟨⟨⟨k1, k2, k3, k4, k5, k6⟩, -⟩, kb⟩ := hP
  exact ⟨trivial, trivial, ⟨rfl, fun q => by omega⟩, by unfold rxmRP_6 rxmRP_8; omega⟩
theorem rxgRP_6_4 {X : (Nat → Int → Int) → Prop} {S0 : Nat → Int → Int} {ws : List Int} (hP : rxPRP S0 ws) : bx_obC rxL X S0 rxCRP.2.2.1 (rxIRP S0 ws) (rxmRP S0 ws) 6 rxzRP_6 rxoRP_6_4 := by
  intro S S_p r r_p hinv hX hin hsm_ hseg
  obtain ⟨I0, I1, h0_, hr_, b_, f_, d_⟩ := bx_cl (evs := [(0, (0, 480), (0, 11), .inr (0, (9, 0)))]) (fvs := [(3, (9, 0), (0, 2), (0, 0))]) hseg (by decide +kernel) (by decide +kernel)
  have hinv : rxIRP_6 S0 ws S (r 8) := hinv
  rw [← hr_ 8 (by decide)] at hinv
  obtain ⟨⟨l8, u8⟩, ⟨l9, u9⟩, -⟩ := b_
  obtain ⟨f0, -⟩ := f_
  obtain ⟨e0, w_⟩ := d_
  subst w_
  have g := rxcRP_6_4 hP hin I0 hinv l8 u8 l9 u9 f0 e0
  refine ⟨bx_narP_ok (l := []) g.1, bx_nfP_ok h0_ (fvs := []) (by decide +kernel) g.2.1, ?_, ?_⟩
  · show rxIRP_8 S0 ws S_p (bx_val [(0, 0), (0, 0), (0, 0), (0, 0), (0, 0), (0, 0), (0, 0), (0, 0), (0, 0), (0, 0), (0, 0)] r_p 8) (bx_val [(0, 0), (0, 0), (0, 0), (0, 0), (0, 0), (0, 0), (0, 0), (0, 0), (0, 0), (0, 0), (0, 0)] r_p 9) (bx_val [(0, 0), (0, 0), (0, 0), (0, 0), (0, 0), (0, 0), (0, 0), (0, 0), (0, 0), (0, 0), (0, 0)] r_p 10)
    rw [bx_val_x (n := 8) (e := (0, 0)) h0_ rfl, bx_val_x (n := 9) (e := (0, 0)) h0_ rfl, bx_val_x (n := 10) (e := (0, 0)) h0_ rfl]
    exact g.2.2.1
  · show rxmRP_8 S0 ws S_p (bx_val [(0, 0), (0, 0), (0, 0), (0, 0), (0, 0), (0, 0), (0, 0), (0, 0), (0, 0), (0, 0), (0, 0)] r_p 8) (bx_val [(0, 0), (0, 0), (0, 0), (0, 0), (0, 0), (0, 0), (0, 0), (0, 0), (0, 0), (0, 0), (0, 0)] r_p 9) (bx_val [(0, 0), (0, 0), (0, 0), (0, 0), (0, 0), (0, 0), (0, 0), (0, 0), (0, 0), (0, 0), (0, 0)] r_p 10) < rxmRP_6 S0 ws S_p (r 8)
    rw [bx_val_x (n := 8) (e := (0, 0)) h0_ rfl, bx_val_x (n := 9) (e := (0, 0)) h0_ rfl, bx_val_x (n := 10) (e := (0, 0)) h0_ rfl, ← hr_ 8 (by decide)]
    exact g.2.2.2
theorem rxcRP_6_5 {S0 : Nat → Int → Int} {ws : List Int} {S : Nat → Int → Int} {its x9 : Int} (hP : rxPRP S0 ws) (hin : bx_same rxL (bx_mdl rxCRP.2.2.1) S0 S) (I0 : bx_Inv rxL S) (hinv : rxIRP_6 S0 ws S its) (l8 : 0 ≤ its) (u8 : its ≤ 8) (l9 : 0 ≤ x9) (u9 : x9 ≤ 3) (f0 : its ≠ (-1)) (f1 : its ≠ (-1)) (f2 : x9 ≠ 2) (e0 : S 480 11 = x9) : (True) ∧ (True) ∧ rxIRP_8 S0 ws S 1 its 0 ∧ rxmRP_8 S0 ws S 1 its 0 < rxmRP_6 S0 ws S its := by
  obtain ⟨rfl, h0, h1⟩ := hinv
  obtain ⟨⟨⟨k1, k2, k3, k4, k5, k6⟩, -⟩, kb⟩ := hP
  exact ⟨trivial, trivial, ⟨rfl, fun q => by omega⟩, by unfold rxmRP_6 rxmRP_8; omega⟩
theorem rxgRP_6_5 {X : (Nat → Int → Int) → Prop} {S0 : Nat → Int → Int} {ws : List Int} (hP : rxPRP S0 ws) : bx_obC rxL X S0 rxCRP.2.2.1 (rxIRP S0 ws) (rxmRP S0 ws) 6 rxzRP_6 rxoRP_6_5 := by
  intro S S_p r r_p hinv hX hin hsm_ hseg
  obtain ⟨I0, I1, h0_, hr_, b_, f_, d_⟩ := bx_cl (evs := [(0, (0, 480), (0, 11), .inr (0, (9, 0)))]) (fvs := [(3, (8, 0), (0, (-1)), (0, 0)), (3, (8, 0), (0, (-1)), (0, 0)), (3, (9, 0), (0, 2), (0, 0))]) hseg (by decide +kernel) (by decide +kernel)
  have hinv : rxIRP_6 S0 ws S (r 8) := hinv
  rw [← hr_ 8 (by decide)] at hinv
  obtain ⟨⟨l8, u8⟩, ⟨l9, u9⟩, -⟩ := b_
  obtain ⟨f0, f1, f2, -⟩ := f_
  obtain ⟨e0, w_⟩ := d_
  subst w_
  have g := rxcRP_6_5 hP hin I0 hinv l8 u8 l9 u9 f0 f1 f2 e0
  refine ⟨bx_narP_ok (l := []) g.1, bx_nfP_ok h0_ (fvs := []) (by decide +kernel) g.2.1, ?_, ?_⟩
  · show rxIRP_8 S0 ws S_p (bx_val [(0, 0), (0, 0), (0, 0), (0, 0), (0, 0), (0, 0), (0, 0), (0, 0), (0, 1), (8, 0), (0, 0)] r_p 8) (bx_val [(0, 0), (0, 0), (0, 0), (0, 0), (0, 0), (0, 0), (0, 0), (0, 0), (0, 1), (8, 0), (0, 0)] r_p 9) (bx_val [(0, 0), (0, 0), (0, 0), (0, 0), (0, 0), (0, 0), (0, 0), (0, 0), (0, 1), (8, 0), (0, 0)] r_p 10)
    rw [bx_val_x (n := 8) (e := (0, 1)) h0_ rfl, bx_val_x (n := 9) (e := (8, 0)) h0_ rfl, bx_val_x (n := 10) (e := (0, 0)) h0_ rfl]
    exact g.2.2.1
  · show rxmRP_8 S0 ws S_p (bx_val [(0, 0), (0, 0), (0, 0), (0, 0), (0, 0), (0, 0), (0, 0), (0, 0), (0, 1), (8, 0), (0, 0)] r_p 8) (bx_val [(0, 0), (0, 0), (0, 0), (0, 0), (0, 0), (0, 0), (0, 0), (0, 0), (0, 1), (8, 0), (0, 0)] r_p 9) (bx_val [(0, 0), (0, 0), (0, 0), (0, 0), (0, 0), (0, 0), (0, 0), (0, 0), (0, 1), (8, 0), (0, 0)] r_p 10) < rxmRP_6 S0 ws S_p (r 8)
    rw [bx_val_x (n := 8) (e := (0, 1)) h0_ rfl, bx_val_x (n := 9) (e := (8, 0)) h0_ rfl, bx_val_x (n := 10) (e := (0, 0)) h0_ rfl, ← hr_ 8 (by decide)]
    exact g.2.2.2
theorem rxcRP_7_0 {S0 : Nat → Int → Int} {ws : List Int} {S : Nat → Int → Int} {is op w_ : Int} (hP : rxPRP S0 ws) (hin : bx_same rxL (bx_mdl rxCRP.2.2.1) S0 S) (I0 : bx_Inv rxL S) (hinv : rxIRP_7 S0 ws S is op w_) (l8 : 0 ≤ is) (u8 : is ≤ 1) (l9 : 0 ≤ op) (u9 : op ≤ 8) (l10 : 0 ≤ w_) (u10 : w_ ≤ 1000) : (True) ∧ (True) ∧ rxIRP_8 S0 ws S is op w_ ∧ rxmRP_8 S0 ws S is op w_ < rxmRP_7 S0 ws S is op w_ := by
  obtain ⟨rfl, h1⟩ := hinv
  exact ⟨trivial, trivial, ⟨rfl, h1⟩, by unfold rxmRP_7 rxmRP_8; omega⟩
theorem rxgRP_7_0 {X : (Nat → Int → Int) → Prop} {S0 : Nat → Int → Int} {ws : List Int} (hP : rxPRP S0 ws) : bx_obC rxL X S0 rxCRP.2.2.1 (rxIRP S0 ws) (rxmRP S0 ws) 7 rxzRP_7 rxoRP_7_0 := by
  intro S S_p r r_p hinv hX hin hsm_ hseg
  obtain ⟨I0, I1, h0_, hr_, b_, f_, d_⟩ := bx_cl (evs := []) (fvs := []) hseg (by decide +kernel) (by decide +kernel)
  have hinv : rxIRP_7 S0 ws S (r 8) (r 9) (r 10) := hinv
  rw [← hr_ 8 (by decide), ← hr_ 9 (by decide), ← hr_ 10 (by decide)] at hinv
  obtain ⟨⟨l8, u8⟩, ⟨l9, u9⟩, ⟨l10, u10⟩, -⟩ := b_
  have w_ := d_
  subst w_
  have g := rxcRP_7_0 hP hin I0 hinv l8 u8 l9 u9 l10 u10
  refine ⟨bx_narP_ok (l := []) g.1, bx_nfP_ok h0_ (fvs := []) (by decide +kernel) g.2.1, ?_, ?_⟩
  · show rxIRP_8 S0 ws S_p (bx_val [(0, 0), (0, 0), (0, 0), (0, 0), (0, 0), (0, 0), (0, 0), (0, 0), (8, 0), (9, 0), (10, 0)] r_p 8) (bx_val [(0, 0), (0, 0), (0, 0), (0, 0), (0, 0), (0, 0), (0, 0), (0, 0), (8, 0), (9, 0), (10, 0)] r_p 9) (bx_val [(0, 0), (0, 0), (0, 0), (0, 0), (0, 0), (0, 0), (0, 0), (0, 0), (8, 0), (9, 0), (10, 0)] r_p 10)
    rw [bx_val_x (n := 8) (e := (8, 0)) h0_ rfl, bx_val_x (n := 9) (e := (9, 0)) h0_ rfl, bx_val_x (n := 10) (e := (10, 0)) h0_ rfl]
    exact g.2.2.1
  · show rxmRP_8 S0 ws S_p (bx_val [(0, 0), (0, 0), (0, 0), (0, 0), (0, 0), (0, 0), (0, 0), (0, 0), (8, 0), (9, 0), (10, 0)] r_p 8) (bx_val [(0, 0), (0, 0), (0, 0), (0, 0), (0, 0), (0, 0), (0, 0), (0, 0), (8, 0), (9, 0), (10, 0)] r_p 9) (bx_val [(0, 0), (0, 0), (0, 0), (0, 0), (0, 0), (0, 0), (0, 0), (0, 0), (8, 0), (9, 0), (10, 0)] r_p 10) < rxmRP_7 S0 ws S_p (r 8) (r 9) (r 10)
    rw [bx_val_x (n := 8) (e := (8, 0)) h0_ rfl, bx_val_x (n := 9) (e := (9, 0)) h0_ rfl, bx_val_x (n := 10) (e := (10, 0)) h0_ rfl, ← hr_ 8 (by decide), ← hr_ 9 (by decide), ← hr_ 10 (by decide)]
    exact g.2.2.2
theorem rxdRP_9_0 {S0 : Nat → Int → Int} {ws : List Int} {S : Nat → Int → Int} {is op arg : Int} (hP : rxPRP S0 ws) (hin : bx_same rxL (bx_mdl rxCRP.2.2.1) S0 S) (hin2 : bx_same rxL (bx_mdl rxCRP.2.2.1) S S) (I0 : bx_Inv rxL S) (I1 : bx_Inv rxL S) (hinv : rxIRP_9 S0 ws S is op arg) (l8 : 0 ≤ is) (u8 : is ≤ 1) (l9 : 0 ≤ op) (u9 : op ≤ 8) (l10 : 0 ≤ arg) (u10 : arg ≤ 1000) : (True) ∧ rxPSRP S0 ws S (some 3) := by
  obtain ⟨h1, h2⟩ := hinv
  exact ⟨trivial, 3, rfl, Or.inr rfl, h1, fun q => ⟨(h2 q).1, Or.inr ⟨rfl, (h2 q).2⟩⟩⟩
theorem rxfRP_9_0 {X : (Nat → Int → Int) → Prop} {S0 : Nat → Int → Int} {ws : List Int} (hP : rxPRP S0 ws) : bx_obE rxL X S0 rxCRP.2.2.1 (rxIRP S0 ws) (rxPSRP S0 ws) 9 rxzRP_9 rxeRP_9_0 := by
  intro S S_p r r_p hinv hX hin hsm_ hseg
  obtain ⟨I0, I1, h0_, hr_, b_, f_, d_⟩ := bx_cl (evs := []) (fvs := []) hseg (by decide +kernel) (by decide +kernel)
  have hinv : rxIRP_9 S0 ws S (r 8) (r 9) (r 10) := hinv
  rw [← hr_ 8 (by decide), ← hr_ 9 (by decide), ← hr_ 10 (by decide)] at hinv
  obtain ⟨⟨l8, u8⟩, ⟨l9, u9⟩, ⟨l10, u10⟩, -⟩ := b_
  have w_ := d_
  subst w_
  have g := rxdRP_9_0 hP hin hsm_ I0 I1 hinv l8 u8 l9 u9 l10 u10
  refine ⟨bx_narP_ok (l := []) g.1, ?_⟩
  show rxPSRP S0 ws S_p (some (bx_num r_p (.inr (0, (0, 3)))))
  rw [bx_xv_ok h0_]
  exact g.2
theorem rxgCRP {X : (Nat → Int → Int) → Prop} {S0 : Nat → Int → Int} {ws : List Int} (hP : rxPRP S0 ws) : bx_allI (fun i q => rxURP q = true ∨ bx_allP (fun o => bx_obC rxL X S0 rxCRP.2.2.1 (rxIRP S0 ws) (rxmRP S0 ws) i q.1 o) q.2.1) 0 rxYRP := ⟨Or.inr ⟨rxgRP_0_0 hP, rxgRP_0_1 hP, rxgRP_0_2 hP, rxgRP_0_3 hP, rxgRP_0_4 hP, trivial⟩, Or.inl rfl, Or.inr trivial, Or.inl rfl, Or.inr ⟨rxgRP_4_0 hP, rxgRP_4_1 hP, rxgRP_4_2 hP, rxgRP_4_3 hP, rxgRP_4_4 hP, rxgRP_4_5 hP, trivial⟩, Or.inl rfl, Or.inr ⟨rxgRP_6_0 hP, rxgRP_6_1 hP, rxgRP_6_2 hP, rxgRP_6_3 hP, rxgRP_6_4 hP, rxgRP_6_5 hP, trivial⟩, Or.inr ⟨rxgRP_7_0 hP, trivial⟩, Or.inl rfl, Or.inr trivial, trivial⟩
theorem rxgERP {X : (Nat → Int → Int) → Prop} {S0 : Nat → Int → Int} {ws : List Int} (hP : rxPRP S0 ws) : bx_allI (fun i q => rxURP q = true ∨ bx_allP (fun E => bx_obE rxL X S0 rxCRP.2.2.1 (rxIRP S0 ws) (rxPSRP S0 ws) i q.1 E) q.2.2) 0 rxYRP := ⟨Or.inr trivial, Or.inl rfl, Or.inr ⟨rxfRP_2_0 hP, trivial⟩, Or.inl rfl, Or.inr trivial, Or.inl rfl, Or.inr trivial, Or.inr trivial, Or.inl rfl, Or.inr ⟨rxfRP_9_0 hP, trivial⟩, trivial⟩
theorem rxuRP {PX : State → Prop} {Dg : va_G} {A : Nat → Prop} {ad xa : Nat → Nat} {l : Launch} {X : (Nat → Int → Int) → Prop} (hPX : rx_PXOK rxNW A PX) (hX : ∀ S S1 : Nat → Int → Int, X S → bx_same rxL (bx_mdl rxCRP.2.2.1) S S1 → X S1) (hQOB : bx_ConP rxG rxNW rxAO PX Dg rxL X vwCl A ad l rxM270 rxCOB rxPOB rxPSOB) (hQPP : bx_ConP rxG rxNW rxAO PX Dg rxL X vwCl A ad l rxM271 rxCPP rxPPP rxPSPP) (hQPA : bx_ConP rxG rxNW rxAO PX Dg rxL X vwCl A ad l rxM272 rxCPA rxPPA rxPSPA) (hQLF : bx_ConP rxG rxNW rxAO PX Dg rxL X vwCl A ad l rxM273 rxCLF rxPLF rxPSLF) {S0 : Nat → Int → Int} {ws : List Int} (hP : rxPRP S0 ws) : ∀ (i : Nat) (q : bx_HE), rxYRP[i]? = some q → rxURP q = true → ∀ {p : Program} {e : Env} {R : Room} {s : State} {m : MethodId} {args : Array Value} {below : List Frame} {meth : Method} {c : Code} {Q : State → Prop} {H0 : Heap}, rx_Fr rxG rxNW rxAO PX p s m args meth c rxM274 → (∀ q, H0.size ≤ q → A q) → H0 = s.heap → rxM274.2.2.2.2.2.2.1 ≤ R.cells → rxM274.2.2.2.2.2.2.2 ≤ R.slots → rxCRP.2.2.2.1 ≤ R.frames → rxCRP.2.2.2.1 * 40 ≤ R.locals → bx_Step p l e R s m args below meth c Q Dg rxL X vwCl A xa H0 ad rxM274 rxYRP (rxIRP S0 ws) (rxmRP S0 ws) S0 rxCRP.2.2.1 i q := by
  intro i q hq hus p e R s m args below meth c Q H0 hF hA hH0 hmc hms hd hdl
  match i, hq with
  | 0, hq =>
    cases hq
    exact absurd (show false = true from hus) Bool.false_ne_true
  | 1, hq =>
    cases hq
    exact rx_stepC (ins := .invokevirtual 323) (len := 3) (i_p := 2) (M_p := rxM270) (d := rxCRP.2.2.2.1) (as := [.inr (3, (0, 480)), .inr (0, (0, 32))]) (t := []) (ct := rxCOB) hPX hF rfl hA hH0 hmc hms hd hdl (by decide +kernel) rfl rfl (by decide +kernel) (by decide +kernel) hQOB (by decide +kernel) rfl (Or.inl ⟨rfl, rfl, rfl⟩) (rxsRP_1 hP)
  | 2, hq =>
    cases hq
    exact absurd (show false = true from hus) Bool.false_ne_true
  | 3, hq =>
    cases hq
    exact rx_stepC (ins := .invokevirtual 329) (len := 3) (i_p := 4) (M_p := rxM271) (d := rxCRP.2.2.2.1) (as := [.inr (3, (0, 480))]) (t := []) (ct := rxCPP) hPX hF rfl hA hH0 hmc hms hd hdl (by decide +kernel) rfl rfl (by decide +kernel) (by decide +kernel) hQPP (by decide +kernel) rfl (Or.inr ⟨_, _, _, 1, rfl, rfl, by omega, rfl, rfl, rfl⟩) (rxsRP_3 hP)
  | 4, hq =>
    cases hq
    exact absurd (show false = true from hus) Bool.false_ne_true
  | 5, hq =>
    cases hq
    exact rx_stepC (ins := .invokevirtual 333) (len := 3) (i_p := 6) (M_p := rxM272) (d := rxCRP.2.2.2.1) (as := [.inr (3, (0, 480))]) (t := []) (ct := rxCPA) hPX hF rfl hA hH0 hmc hms hd hdl (by decide +kernel) rfl rfl (by decide +kernel) (by decide +kernel) hQPA (by decide +kernel) rfl (Or.inr ⟨_, _, _, 1, rfl, rfl, by omega, rfl, rfl, rfl⟩) (rxsRP_5 hP)
  | 6, hq =>
    cases hq
    exact absurd (show false = true from hus) Bool.false_ne_true
  | 7, hq =>
    cases hq
    exact absurd (show false = true from hus) Bool.false_ne_true
  | 8, hq =>
    cases hq
    exact rx_stepC (ins := .invokevirtual 338) (len := 3) (i_p := 9) (M_p := rxM273) (d := rxCRP.2.2.2.1) (as := [.inr (3, (0, 480)), .inr (0, (8, 0)), .inr (0, (9, 0)), .inr (0, (10, 0))]) (t := []) (ct := rxCLF) hPX hF rfl hA hH0 hmc hms hd hdl (by decide +kernel) rfl rfl (by decide +kernel) (by decide +kernel) hQLF (by decide +kernel) rfl (Or.inl ⟨rfl, rfl, rfl⟩) (rxsRP_8 hP)
  | 9, hq =>
    cases hq
    exact absurd (show false = true from hus) Bool.false_ne_true
  | n + 10, hq => cases hq
theorem rxQRP {PX : State → Prop} {Dg : va_G} {A : Nat → Prop} {ad xa : Nat → Nat} {l : Launch} {X : (Nat → Int → Int) → Prop} (hPX : rx_PXOK rxNW A PX) (hsl : ∀ s : State, PX s → ∀ o idx n : Nat, rxSl o idx = some n → ∃ tx : String, vk_R (rxNm o) idx tx (ad n) s)
    (hX : ∀ S S_p : Nat → Int → Int, X S → bx_same rxL (bx_mdl rxCRP.2.2.1) S S_p → X S_p)
    (ih : ∀ (j2 : Nat) (ct2 : bx_Ct) (M2 : rx_Mt), ct2 ∈ rxCnE j2 → ct2.2.2.2.1 + 1 ≤ rxCRP.2.2.2.1 → rxT.2.2.2.2.2 j2 = some M2 → bx_Con rxG rxNW rxAO PX Dg rxL X vwCl A ad l M2 ct2) (hQOB : bx_ConP rxG rxNW rxAO PX Dg rxL X vwCl A ad l rxM270 rxCOB rxPOB rxPSOB) (hQPP : bx_ConP rxG rxNW rxAO PX Dg rxL X vwCl A ad l rxM271 rxCPP rxPPP rxPSPP) (hQPA : bx_ConP rxG rxNW rxAO PX Dg rxL X vwCl A ad l rxM272 rxCPA rxPPA rxPSPA) (hQLF : bx_ConP rxG rxNW rxAO PX Dg rxL X vwCl A ad l rxM273 rxCLF rxPLF rxPSLF) : bx_ConP rxG rxNW rxAO PX Dg rxL X vwCl A ad l rxM274 rxCRP rxPRP rxPSRP :=
  rxQof (xa := xa) (Cn := rxCnE) (f := 30000) (j := 274) (tab := rxYRP) (us := rxURP) hPX hsl hX ih rfl rxYcRP rxIRP rxmRP
    (fun S0 ws r I0 I ht0 ht as he he1 hX0 hI0 hP hs ha => by
      have e := he.symm.trans (show bx_ent0 rxNP rxCRP.1 bx_I0 [] = some ([(0, 0), (0, 0), (0, 0), (0, 0), (0, 0), (0, 0), (0, 0), (0, 0)], [], [.inr (3, (0, 480))]) from rfl)
      cases e
      subst ha
      have h0 : r 0 = 0 := hs.1
      show rxIRP_0 S0 _ S0
      refine ⟨rfl, ?_⟩
      simp only [List.map_cons, List.map_nil, bx_xv_ok h0]
      rfl)
    (fun S0 ws hP => rxuRP (xa := xa) hPX hX hQOB hQPP hQPA hQLF hP) (fun S0 ws hP => rxgCRP hP) (fun S0 ws hP => rxgERP hP)
