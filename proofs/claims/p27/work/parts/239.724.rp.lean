noncomputable def rxCRPK : bx_Ct := ([(3, (1, 480, 0))], some (0, (0, 0, 3)), [(12, 9), (12, 10), (12, 11), (12, 12), (12, 13), (12, 14), (12, 18), (12, 21), (12, 24), (12, 25), (1068, 0), (1069, 0), (1070, 0), (1071, 0)], 4, [])
noncomputable def rxIRPK_0 (S0 : Nat → Int → Int) (ws : List Int) (S : Nat → Int → Int) : Prop := rxIRPW_0 S0 ws S ∧ True
noncomputable def rxmRPK_0 (S0 : Nat → Int → Int) (ws : List Int) (S : Nat → Int → Int) : Nat := rxmRPW_0 S0 ws S
noncomputable def rxzRPK_0 : rx_Z := ([(0, 0), (0, 0), (0, 0), (0, 0), (0, 0), (0, 0), (0, 0), (0, 0)], [], [], 0, 0, 0, [(0, .inr (3, (0, 480)))], [])
noncomputable def rxIRPK_1 (S0 : Nat → Int → Int) (ws : List Int) (S : Nat → Int → Int) : Prop := rxIRPW_1 S0 ws S ∧ True
noncomputable def rxmRPK_1 (S0 : Nat → Int → Int) (ws : List Int) (S : Nat → Int → Int) : Nat := rxmRPW_1 S0 ws S
noncomputable def rxzRPK_1 : rx_Z := ([(0, 0), (0, 0), (0, 0), (0, 0), (0, 0), (0, 0), (0, 0), (0, 0)], [], [], 0, 0, 12, [(0, .inr (3, (0, 480)))], [.inr (0, (0, 32)), .inr (3, (0, 480))])
noncomputable def rxIRPK_2 (S0 : Nat → Int → Int) (ws : List Int) (S : Nat → Int → Int) : Prop := rxIRPW_2 S0 ws S ∧ (rzCk S0 → rzDq S0 → ∀ (s : Int) (rest : List Int), ¬ (s = 1 ∧ rzIs (rzCut (S0 485)) (S0 480 8) rzW_not (S0 480 9) = true) → ¬ (s = 1 ∧ rzSg (rzCut (S0 485)) (S0 480 8) 40 (S0 480 9) = true) → rkTq S0 S (s :: rest) false)
noncomputable def rxmRPK_2 (S0 : Nat → Int → Int) (ws : List Int) (S : Nat → Int → Int) : Nat := rxmRPW_2 S0 ws S
noncomputable def rxzRPK_2 : rx_Z := ([(0, 0), (0, 0), (0, 0), (0, 0), (0, 0), (0, 0), (0, 0), (0, 0)], [], [], 0, 0, 15, [(0, .inr (3, (0, 480)))], [])
noncomputable def rxIRPK_3 (S0 : Nat → Int → Int) (ws : List Int) (S : Nat → Int → Int) : Prop := rxIRPW_3 S0 ws S ∧ True
noncomputable def rxmRPK_3 (S0 : Nat → Int → Int) (ws : List Int) (S : Nat → Int → Int) : Nat := rxmRPW_3 S0 ws S
noncomputable def rxzRPK_3 : rx_Z := ([(0, 0), (0, 0), (0, 0), (0, 0), (0, 0), (0, 0), (0, 0), (0, 0)], [], [], 0, 0, 25, [(0, .inr (3, (0, 480)))], [.inr (3, (0, 480))])
noncomputable def rxIRPK_4 (S0 : Nat → Int → Int) (ws : List Int) (S : Nat → Int → Int) (its : Int) : Prop := rxIRPW_4 S0 ws S its ∧ True
noncomputable def rxmRPK_4 (S0 : Nat → Int → Int) (ws : List Int) (S : Nat → Int → Int) (its : Int) : Nat := rxmRPW_4 S0 ws S its
noncomputable def rxzRPK_4 : rx_Z := ([(0, 0), (0, 0), (0, 0), (0, 0), (0, 0), (0, 0), (0, 0), (0, 0), ((-1), 8)], [], [], 0, 0, 28, [(0, .inr (3, (0, 480)))], [.inr (0, (8, 0))])
noncomputable def rxIRPK_5 (S0 : Nat → Int → Int) (ws : List Int) (S : Nat → Int → Int) : Prop := rxIRPW_5 S0 ws S ∧ True
noncomputable def rxmRPK_5 (S0 : Nat → Int → Int) (ws : List Int) (S : Nat → Int → Int) : Nat := rxmRPW_5 S0 ws S
noncomputable def rxzRPK_5 : rx_Z := ([(0, 0), (0, 0), (0, 0), (0, 0), (0, 0), (0, 0), (0, 0), (0, 0)], [], [], 0, 0, 32, [(0, .inr (3, (0, 480)))], [.inr (3, (0, 480))])
noncomputable def rxIRPK_6 (S0 : Nat → Int → Int) (ws : List Int) (S : Nat → Int → Int) (its : Int) : Prop := rxIRPW_6 S0 ws S its ∧ True
noncomputable def rxmRPK_6 (S0 : Nat → Int → Int) (ws : List Int) (S : Nat → Int → Int) (its : Int) : Nat := rxmRPW_6 S0 ws S its
noncomputable def rxzRPK_6 : rx_Z := ([(0, 0), (0, 0), (0, 0), (0, 0), (0, 0), (0, 0), (0, 0), (0, 0), ((-1), 8)], [], [], 0, 0, 35, [(0, .inr (3, (0, 480)))], [.inr (0, (8, 0))])
noncomputable def rxIRPK_7 (S0 : Nat → Int → Int) (ws : List Int) (S : Nat → Int → Int) (is op w_ : Int) : Prop := rxIRPW_7 S0 ws S is op w_ ∧ (rzCk S0 → rzDq S0 → op = 0 ∧ w_ = rzNo (rzCut (S0 485)) (S0 480 8) (S0 480 9) ∧ rzDg (rzCut (S0 485)) (S0 480 8) (S0 480 9) = true)
noncomputable def rxmRPK_7 (S0 : Nat → Int → Int) (ws : List Int) (S : Nat → Int → Int) (is op w_ : Int) : Nat := rxmRPW_7 S0 ws S is op w_
noncomputable def rxzRPK_7 : rx_Z := ([(0, 0), (0, 0), (0, 0), (0, 0), (0, 0), (0, 0), (0, 0), (0, 0), (0, 1), (0, 8), (0, 1000)], [], [], 0, 0, 94, [(0, .inr (3, (0, 480)))], [.inr (1, (10, 0)), .inr (0, (9, 0)), .inr (0, (8, 0)), .inr (3, (0, 480))])
noncomputable def rxIRPK_8 (S0 : Nat → Int → Int) (ws : List Int) (S : Nat → Int → Int) (is op arg : Int) : Prop := rxIRPW_8 S0 ws S is op arg ∧ (rzCk S0 → rzDq S0 → is = 1 → (rzDg (rzCut (S0 485)) (S0 480 8) (S0 480 9) = true ∧ op = 0 ∧ arg = rzNo (rzCut (S0 485)) (S0 480 8) (S0 480 9)) ∨ (¬ rzDg (rzCut (S0 485)) (S0 480 8) (S0 480 9) = true ∧ 0 ≤ rzIxn (rzCut (S0 485)) (S0 480 8) (S0 480 9) (rzWr S0) 0 ∧ op = rzIxn (rzCut (S0 485)) (S0 480 8) (S0 480 9) (rzWr S0) 0 + 1 ∧ arg = 0))
noncomputable def rxmRPK_8 (S0 : Nat → Int → Int) (ws : List Int) (S : Nat → Int → Int) (is op arg : Int) : Nat := rxmRPW_8 S0 ws S is op arg
noncomputable def rxzRPK_8 : rx_Z := ([(0, 0), (0, 0), (0, 0), (0, 0), (0, 0), (0, 0), (0, 0), (0, 0), (0, 1), (0, 8), (0, 1000)], [], [], 0, 0, 99, [(0, .inr (3, (0, 480)))], [.inr (0, (10, 0)), .inr (0, (9, 0)), .inr (0, (8, 0)), .inr (3, (0, 480))])
noncomputable def rxIRPK_9 (S0 : Nat → Int → Int) (ws : List Int) (S : Nat → Int → Int) (is op arg : Int) : Prop := rxIRPW_9 S0 ws S is op arg ∧ (rzCk S0 → rzDq S0 → ∀ (s : Int) (rest : List Int), ¬ (s = 1 ∧ rzIs (rzCut (S0 485)) (S0 480 8) rzW_not (S0 480 9) = true) → ¬ (s = 1 ∧ rzSg (rzCut (S0 485)) (S0 480 8) 40 (S0 480 9) = true) → rkTq S0 S (s :: rest) false)
noncomputable def rxmRPK_9 (S0 : Nat → Int → Int) (ws : List Int) (S : Nat → Int → Int) (is op arg : Int) : Nat := rxmRPW_9 S0 ws S is op arg
noncomputable def rxzRPK_9 : rx_Z := ([(0, 0), (0, 0), (0, 0), (0, 0), (0, 0), (0, 0), (0, 0), (0, 0), (0, 1), (0, 8), (0, 1000)], [], [], 0, 0, 102, [(0, .inr (3, (0, 480)))], [])
noncomputable def rxoRPK_0_0 : bx_HO := (([(0, 0), (0, 0), (0, 0), (0, 0), (0, 0), (0, 0), (0, 0), (0, 0), (0, 2), (1, 1)], [(3, (9, 0), (0, 0)), (3, (8, 0), (0, 3))], [(((0, 0), 1851192626986356800434940932178653442218339981833571981143834624000000), .inr (0, (9, 0))), (((0, 480), 15), .inr (0, (9, 0))), (((0, 0), 1851192626986356799632114105031551009123054124018230966928539648000000), .inr (0, (8, 0))), (((0, 480), 11), .inr (0, (8, 0)))], 0, 0, 25, [(0, .inr (3, (0, 480)))], [.inr (3, (0, 480))]), [], [], [(0, 0), (0, 0), (0, 0), (0, 0), (0, 0), (0, 0), (0, 0), (0, 0)], 3)
noncomputable def rxoRPK_0_1 : bx_HO := (([(0, 0), (0, 0), (0, 0), (0, 0), (0, 0), (0, 0), (0, 0), (0, 0), (0, 2), (0, 0)], [(3, (8, 0), (0, 3))], [(((0, 0), 1851192626986356800434940932178653442218339981833571981143834624000000), .inr (0, (9, 0))), (((0, 480), 15), .inr (0, (9, 0))), (((0, 0), 1851192626986356799632114105031551009123054124018230966928539648000000), .inr (0, (8, 0))), (((0, 480), 11), .inr (0, (8, 0)))], 0, 0, 32, [(0, .inr (3, (0, 480)))], [.inr (3, (0, 480))]), [], [], [(0, 0), (0, 0), (0, 0), (0, 0), (0, 0), (0, 0), (0, 0), (0, 0)], 5)
noncomputable def rxoRPK_0_2 : bx_HO := (([(0, 0), (0, 0), (0, 0), (0, 0), (0, 0), (0, 0), (0, 0), (0, 0), (3, 3), ((-9223372036854775808), 9223372036854775807), (1, 1)], [(3, (10, 0), (0, 0)), (3, (9, 0), (0, 91))], [(((0, 0), 1851192626986356800434940932178653442218339981833571981143834624000000), .inr (0, (10, 0))), (((0, 480), 15), .inr (0, (10, 0))), (((0, 0), 1851192626986356799832820811818326617396875588472066220482363392000000), .inr (1, (9, 0))), (((0, 480), 12), .inr (1, (9, 0))), (((0, 0), 1851192626986356799632114105031551009123054124018230966928539648000000), .inr (0, (8, 0))), (((0, 480), 11), .inr (0, (8, 0)))], 0, 0, 25, [(0, .inr (3, (0, 480)))], [.inr (3, (0, 480))]), [], [], [(0, 0), (0, 0), (0, 0), (0, 0), (0, 0), (0, 0), (0, 0), (0, 0)], 3)
noncomputable def rxoRPK_0_3 : bx_HO := (([(0, 0), (0, 0), (0, 0), (0, 0), (0, 0), (0, 0), (0, 0), (0, 0), (3, 3), ((-9223372036854775808), 9223372036854775807), (0, 0)], [(3, (9, 0), (0, 91))], [(((0, 0), 1851192626986356800434940932178653442218339981833571981143834624000000), .inr (0, (10, 0))), (((0, 480), 15), .inr (0, (10, 0))), (((0, 0), 1851192626986356799832820811818326617396875588472066220482363392000000), .inr (1, (9, 0))), (((0, 480), 12), .inr (1, (9, 0))), (((0, 0), 1851192626986356799632114105031551009123054124018230966928539648000000), .inr (0, (8, 0))), (((0, 480), 11), .inr (0, (8, 0)))], 0, 0, 32, [(0, .inr (3, (0, 480)))], [.inr (3, (0, 480))]), [], [], [(0, 0), (0, 0), (0, 0), (0, 0), (0, 0), (0, 0), (0, 0), (0, 0)], 5)
noncomputable def rxoRPK_0_4 : bx_HO := (([(0, 0), (0, 0), (0, 0), (0, 0), (0, 0), (0, 0), (0, 0), (0, 0), (3, 3), (91, 91)], [], [(((0, 0), 1851192626986356799832820811818326617396875588472066220482363392000000), .inr (1, (9, 0))), (((0, 480), 12), .inr (1, (9, 0))), (((0, 0), 1851192626986356799632114105031551009123054124018230966928539648000000), .inr (0, (8, 0))), (((0, 480), 11), .inr (0, (8, 0)))], 0, 0, 12, [(0, .inr (3, (0, 480)))], [.inr (0, (0, 32)), .inr (3, (0, 480))]), [], [], [(0, 0), (0, 0), (0, 0), (0, 0), (0, 0), (0, 0), (0, 0), (0, 0)], 1)
noncomputable def rxeRPK_2_0 : rx_End × List (Nat × Int × Int) := (([(0, 0), (0, 0), (0, 0), (0, 0), (0, 0), (0, 0), (0, 0), (0, 0)], [], [], some (.inr (0, (0, 1)))), [])
noncomputable def rxoRPK_4_0 : bx_HO := (([(0, 0), (0, 0), (0, 0), (0, 0), (0, 0), (0, 0), (0, 0), (0, 0), ((-1), (-1)), (2, 2), ((-9223372036854775808), 1000)], [], [(((0, 0), 1851192626986356799832820811818326617396875588472066220482363392000000), .inr (1, (10, 0))), (((0, 480), 12), .inr (1, (10, 0))), (((0, 0), 1851192626986356799632114105031551009123054124018230966928539648000000), .inr (0, (9, 0))), (((0, 480), 11), .inr (0, (9, 0)))], 0, 0, 94, [(2, .inr (0, (0, 1))), (1, .inr (0, (8, 0))), (0, .inr (3, (0, 480)))], [.inr (1, (10, 0)), .inr (0, (0, 0)), .inr (0, (0, 1)), .inr (3, (0, 480))]), [(10, 0, 1000)], [], [(0, 0), (0, 0), (0, 0), (0, 0), (0, 0), (0, 0), (0, 0), (0, 0), (0, 1), (0, 0), (10, 0)], 7)
noncomputable def rxoRPK_4_1 : bx_HO := (([(0, 0), (0, 0), (0, 0), (0, 0), (0, 0), (0, 0), (0, 0), (0, 0), (0, 8), (2, 2), ((-9223372036854775808), 1000)], [(3, (8, 0), (0, (-1))), (3, (8, 0), (0, (-1)))], [(((0, 0), 1851192626986356799832820811818326617396875588472066220482363392000000), .inr (1, (10, 0))), (((0, 480), 12), .inr (1, (10, 0))), (((0, 0), 1851192626986356799632114105031551009123054124018230966928539648000000), .inr (0, (9, 0))), (((0, 480), 11), .inr (0, (9, 0)))], 0, 0, 94, [(2, .inr (0, (0, 1))), (1, .inr (0, (8, 0))), (0, .inr (3, (0, 480)))], [.inr (1, (10, 0)), .inr (0, (8, 0)), .inr (0, (0, 1)), .inr (3, (0, 480))]), [(10, 0, 1000)], [], [(0, 0), (0, 0), (0, 0), (0, 0), (0, 0), (0, 0), (0, 0), (0, 0), (0, 1), (8, 0), (10, 0)], 7)
noncomputable def rxoRPK_4_2 : bx_HO := (([(0, 0), (0, 0), (0, 0), (0, 0), (0, 0), (0, 0), (0, 0), (0, 0), ((-1), (-1)), (2, 2), (1001, 9223372036854775807)], [], [(((0, 0), 1851192626986356799832820811818326617396875588472066220482363392000000), .inr (1, (10, 0))), (((0, 480), 12), .inr (1, (10, 0))), (((0, 0), 1851192626986356799632114105031551009123054124018230966928539648000000), .inr (0, (9, 0))), (((0, 480), 11), .inr (0, (9, 0)))], 0, 0, 99, [(2, .inr (0, (0, 0))), (1, .inr (0, (8, 0))), (0, .inr (3, (0, 480)))], [.inr (0, (0, 0)), .inr (0, (0, 0)), .inr (0, (0, 0)), .inr (3, (0, 480))]), [], [], [(0, 0), (0, 0), (0, 0), (0, 0), (0, 0), (0, 0), (0, 0), (0, 0), (0, 0), (0, 0), (0, 0)], 8)
noncomputable def rxoRPK_4_3 : bx_HO := (([(0, 0), (0, 0), (0, 0), (0, 0), (0, 0), (0, 0), (0, 0), (0, 0), (0, 8), (2, 2), (1001, 9223372036854775807)], [(3, (8, 0), (0, (-1))), (3, (8, 0), (0, (-1)))], [(((0, 0), 1851192626986356799832820811818326617396875588472066220482363392000000), .inr (1, (10, 0))), (((0, 480), 12), .inr (1, (10, 0))), (((0, 0), 1851192626986356799632114105031551009123054124018230966928539648000000), .inr (0, (9, 0))), (((0, 480), 11), .inr (0, (9, 0)))], 0, 0, 99, [(2, .inr (0, (0, 0))), (1, .inr (0, (8, 0))), (0, .inr (3, (0, 480)))], [.inr (0, (0, 0)), .inr (0, (8, 0)), .inr (0, (0, 1)), .inr (3, (0, 480))]), [], [], [(0, 0), (0, 0), (0, 0), (0, 0), (0, 0), (0, 0), (0, 0), (0, 0), (0, 1), (8, 0), (0, 0)], 8)
noncomputable def rxoRPK_4_4 : bx_HO := (([(0, 0), (0, 0), (0, 0), (0, 0), (0, 0), (0, 0), (0, 0), (0, 0), ((-1), (-1)), (0, 3)], [(3, (9, 0), (0, 2))], [(((0, 0), 1851192626986356799632114105031551009123054124018230966928539648000000), .inr (0, (9, 0))), (((0, 480), 11), .inr (0, (9, 0)))], 0, 0, 99, [(2, .inr (0, (0, 0))), (1, .inr (0, (8, 0))), (0, .inr (3, (0, 480)))], [.inr (0, (0, 0)), .inr (0, (0, 0)), .inr (0, (0, 0)), .inr (3, (0, 480))]), [], [], [(0, 0), (0, 0), (0, 0), (0, 0), (0, 0), (0, 0), (0, 0), (0, 0), (0, 0), (0, 0), (0, 0)], 8)
noncomputable def rxoRPK_4_5 : bx_HO := (([(0, 0), (0, 0), (0, 0), (0, 0), (0, 0), (0, 0), (0, 0), (0, 0), (0, 8), (0, 3)], [(3, (8, 0), (0, (-1))), (3, (8, 0), (0, (-1))), (3, (9, 0), (0, 2))], [(((0, 0), 1851192626986356799632114105031551009123054124018230966928539648000000), .inr (0, (9, 0))), (((0, 480), 11), .inr (0, (9, 0)))], 0, 0, 99, [(2, .inr (0, (0, 0))), (1, .inr (0, (8, 0))), (0, .inr (3, (0, 480)))], [.inr (0, (0, 0)), .inr (0, (8, 0)), .inr (0, (0, 1)), .inr (3, (0, 480))]), [], [], [(0, 0), (0, 0), (0, 0), (0, 0), (0, 0), (0, 0), (0, 0), (0, 0), (0, 1), (8, 0), (0, 0)], 8)
noncomputable def rxoRPK_6_0 : bx_HO := (([(0, 0), (0, 0), (0, 0), (0, 0), (0, 0), (0, 0), (0, 0), (0, 0), ((-1), (-1)), (2, 2), ((-9223372036854775808), 1000)], [], [(((0, 0), 1851192626986356799832820811818326617396875588472066220482363392000000), .inr (1, (10, 0))), (((0, 480), 12), .inr (1, (10, 0))), (((0, 0), 1851192626986356799632114105031551009123054124018230966928539648000000), .inr (0, (9, 0))), (((0, 480), 11), .inr (0, (9, 0)))], 0, 0, 94, [(2, .inr (0, (0, 1))), (1, .inr (0, (8, 0))), (0, .inr (3, (0, 480)))], [.inr (1, (10, 0)), .inr (0, (0, 0)), .inr (0, (0, 1)), .inr (3, (0, 480))]), [(10, 0, 1000)], [], [(0, 0), (0, 0), (0, 0), (0, 0), (0, 0), (0, 0), (0, 0), (0, 0), (0, 1), (0, 0), (10, 0)], 7)
noncomputable def rxoRPK_6_1 : bx_HO := (([(0, 0), (0, 0), (0, 0), (0, 0), (0, 0), (0, 0), (0, 0), (0, 0), (0, 8), (2, 2), ((-9223372036854775808), 1000)], [(3, (8, 0), (0, (-1))), (3, (8, 0), (0, (-1)))], [(((0, 0), 1851192626986356799832820811818326617396875588472066220482363392000000), .inr (1, (10, 0))), (((0, 480), 12), .inr (1, (10, 0))), (((0, 0), 1851192626986356799632114105031551009123054124018230966928539648000000), .inr (0, (9, 0))), (((0, 480), 11), .inr (0, (9, 0)))], 0, 0, 94, [(2, .inr (0, (0, 1))), (1, .inr (0, (8, 0))), (0, .inr (3, (0, 480)))], [.inr (1, (10, 0)), .inr (0, (8, 0)), .inr (0, (0, 1)), .inr (3, (0, 480))]), [(10, 0, 1000)], [], [(0, 0), (0, 0), (0, 0), (0, 0), (0, 0), (0, 0), (0, 0), (0, 0), (0, 1), (8, 0), (10, 0)], 7)
noncomputable def rxoRPK_6_2 : bx_HO := (([(0, 0), (0, 0), (0, 0), (0, 0), (0, 0), (0, 0), (0, 0), (0, 0), ((-1), (-1)), (2, 2), (1001, 9223372036854775807)], [], [(((0, 0), 1851192626986356799832820811818326617396875588472066220482363392000000), .inr (1, (10, 0))), (((0, 480), 12), .inr (1, (10, 0))), (((0, 0), 1851192626986356799632114105031551009123054124018230966928539648000000), .inr (0, (9, 0))), (((0, 480), 11), .inr (0, (9, 0)))], 0, 0, 99, [(2, .inr (0, (0, 0))), (1, .inr (0, (8, 0))), (0, .inr (3, (0, 480)))], [.inr (0, (0, 0)), .inr (0, (0, 0)), .inr (0, (0, 0)), .inr (3, (0, 480))]), [], [], [(0, 0), (0, 0), (0, 0), (0, 0), (0, 0), (0, 0), (0, 0), (0, 0), (0, 0), (0, 0), (0, 0)], 8)
noncomputable def rxoRPK_6_3 : bx_HO := (([(0, 0), (0, 0), (0, 0), (0, 0), (0, 0), (0, 0), (0, 0), (0, 0), (0, 8), (2, 2), (1001, 9223372036854775807)], [(3, (8, 0), (0, (-1))), (3, (8, 0), (0, (-1)))], [(((0, 0), 1851192626986356799832820811818326617396875588472066220482363392000000), .inr (1, (10, 0))), (((0, 480), 12), .inr (1, (10, 0))), (((0, 0), 1851192626986356799632114105031551009123054124018230966928539648000000), .inr (0, (9, 0))), (((0, 480), 11), .inr (0, (9, 0)))], 0, 0, 99, [(2, .inr (0, (0, 0))), (1, .inr (0, (8, 0))), (0, .inr (3, (0, 480)))], [.inr (0, (0, 0)), .inr (0, (8, 0)), .inr (0, (0, 1)), .inr (3, (0, 480))]), [], [], [(0, 0), (0, 0), (0, 0), (0, 0), (0, 0), (0, 0), (0, 0), (0, 0), (0, 1), (8, 0), (0, 0)], 8)
noncomputable def rxoRPK_6_4 : bx_HO := (([(0, 0), (0, 0), (0, 0), (0, 0), (0, 0), (0, 0), (0, 0), (0, 0), ((-1), (-1)), (0, 3)], [(3, (9, 0), (0, 2))], [(((0, 0), 1851192626986356799632114105031551009123054124018230966928539648000000), .inr (0, (9, 0))), (((0, 480), 11), .inr (0, (9, 0)))], 0, 0, 99, [(2, .inr (0, (0, 0))), (1, .inr (0, (8, 0))), (0, .inr (3, (0, 480)))], [.inr (0, (0, 0)), .inr (0, (0, 0)), .inr (0, (0, 0)), .inr (3, (0, 480))]), [], [], [(0, 0), (0, 0), (0, 0), (0, 0), (0, 0), (0, 0), (0, 0), (0, 0), (0, 0), (0, 0), (0, 0)], 8)
noncomputable def rxoRPK_6_5 : bx_HO := (([(0, 0), (0, 0), (0, 0), (0, 0), (0, 0), (0, 0), (0, 0), (0, 0), (0, 8), (0, 3)], [(3, (8, 0), (0, (-1))), (3, (8, 0), (0, (-1))), (3, (9, 0), (0, 2))], [(((0, 0), 1851192626986356799632114105031551009123054124018230966928539648000000), .inr (0, (9, 0))), (((0, 480), 11), .inr (0, (9, 0)))], 0, 0, 99, [(2, .inr (0, (0, 0))), (1, .inr (0, (8, 0))), (0, .inr (3, (0, 480)))], [.inr (0, (0, 0)), .inr (0, (8, 0)), .inr (0, (0, 1)), .inr (3, (0, 480))]), [], [], [(0, 0), (0, 0), (0, 0), (0, 0), (0, 0), (0, 0), (0, 0), (0, 0), (0, 1), (8, 0), (0, 0)], 8)
noncomputable def rxoRPK_7_0 : bx_HO := (([(0, 0), (0, 0), (0, 0), (0, 0), (0, 0), (0, 0), (0, 0), (0, 0), (0, 1), (0, 8), (0, 1000)], [], [], 0, 0, 99, [(0, .inr (3, (0, 480)))], [.inr (0, (10, 0)), .inr (0, (9, 0)), .inr (0, (8, 0)), .inr (3, (0, 480))]), [], [], [(0, 0), (0, 0), (0, 0), (0, 0), (0, 0), (0, 0), (0, 0), (0, 0), (8, 0), (9, 0), (10, 0)], 8)
noncomputable def rxeRPK_9_0 : rx_End × List (Nat × Int × Int) := (([(0, 0), (0, 0), (0, 0), (0, 0), (0, 0), (0, 0), (0, 0), (0, 0), (0, 1), (0, 8), (0, 1000)], [], [], some (.inr (0, (0, 3)))), [])
noncomputable def rxYRPK : List bx_HE := [(rxzRPK_0, [rxoRPK_0_0, rxoRPK_0_1, rxoRPK_0_2, rxoRPK_0_3, rxoRPK_0_4], []), (rxzRPK_1, [], []), (rxzRPK_2, [], [rxeRPK_2_0]), (rxzRPK_3, [], []), (rxzRPK_4, [rxoRPK_4_0, rxoRPK_4_1, rxoRPK_4_2, rxoRPK_4_3, rxoRPK_4_4, rxoRPK_4_5], []), (rxzRPK_5, [], []), (rxzRPK_6, [rxoRPK_6_0, rxoRPK_6_1, rxoRPK_6_2, rxoRPK_6_3, rxoRPK_6_4, rxoRPK_6_5], []), (rxzRPK_7, [rxoRPK_7_0], []), (rxzRPK_8, [], []), (rxzRPK_9, [], [rxeRPK_9_0])]
noncomputable def rxURPK (q : bx_HE) : Bool := Nat.beq (rx_zpc q.1) 12 || Nat.beq (rx_zpc q.1) 25 || Nat.beq (rx_zpc q.1) 32 || Nat.beq (rx_zpc q.1) 99
noncomputable def rxYBRPK : bx_B := (rxV, rxNP, rxDmf, bx_mdH rxCRPK.2.2.1)
set_option maxRecDepth 100000 in
theorem rxYcRPK : bx_chkH rxYBRPK rxM274 rxCRPK rxYRPK (rxURPK, fun cut z => rx_ex2 (rxCT rxYBRPK rxCnE) cut 30000 rxCRPK.2.2.2.1 274 z) = true := by decide +kernel
noncomputable def rxIRPK (S0 : Nat → Int → Int) (ws : List Int) (i : Nat) : bx_SP := fun S r => match i with | 0 => rxIRPK_0 S0 ws S | 1 => rxIRPK_1 S0 ws S | 2 => rxIRPK_2 S0 ws S | 3 => rxIRPK_3 S0 ws S | 4 => rxIRPK_4 S0 ws S (r 8) | 5 => rxIRPK_5 S0 ws S | 6 => rxIRPK_6 S0 ws S (r 8) | 7 => rxIRPK_7 S0 ws S (r 8) (r 9) (r 10) | 8 => rxIRPK_8 S0 ws S (r 8) (r 9) (r 10) | 9 => rxIRPK_9 S0 ws S (r 8) (r 9) (r 10) | _ => False
noncomputable def rxmRPK (S0 : Nat → Int → Int) (ws : List Int) (i : Nat) (S : Nat → Int → Int) (r : Nat → Int) : Nat := match i with | 0 => rxmRPK_0 S0 ws S | 1 => rxmRPK_1 S0 ws S | 2 => rxmRPK_2 S0 ws S | 3 => rxmRPK_3 S0 ws S | 4 => rxmRPK_4 S0 ws S (r 8) | 5 => rxmRPK_5 S0 ws S | 6 => rxmRPK_6 S0 ws S (r 8) | 7 => rxmRPK_7 S0 ws S (r 8) (r 9) (r 10) | 8 => rxmRPK_8 S0 ws S (r 8) (r 9) (r 10) | 9 => rxmRPK_9 S0 ws S (r 8) (r 9) (r 10) | _ => 0
noncomputable def rxPRPK (S0 : Nat → Int → Int) (ws : List Int) : Prop := rxPRPW S0 ws
noncomputable def rxPSRPK (S0 : Nat → Int → Int) (ws : List Int) (S : Nat → Int → Int) (w : Option Int) : Prop := rxPSRPW S0 ws S w ∧ (rzCk S0 → rzDq S0 → ∀ (s : Int) (rest : List Int), ¬ (s = 1 ∧ rzIs (rzCut (S0 485)) (S0 480 8) rzW_not (S0 480 9) = true) → ¬ (s = 1 ∧ rzSg (rzCut (S0 485)) (S0 480 8) 40 (S0 480 9) = true) → rkTq S0 S (s :: rest) false)
theorem rxkRPK_1 {S0 : Nat → Int → Int} {ws : List Int} {S : Nat → Int → Int} (hP : rxPRPK S0 ws) (hin : bx_same rxL (bx_mdl rxCRPK.2.2.1) S0 S) (I0 : bx_Inv rxL S) (hinv : rxIRPK_1 S0 ws S)  : rxPOBK S [480, 32] ∧ ∀ (S_p : Nat → Int → Int), rxPSOBK S [480, 32] S_p none → bx_Inv rxL S_p → bx_same rxL (bx_mdl rxCOBK.2.2.1) S S_p → rxIRPK_2 S0 ws S_p ∧ rxmRPK_2 S0 ws S_p < rxmRPK_1 S0 ws S := by
  obtain ⟨hI, hx⟩ := hinv
  have g_ := rxkRPW_1 hP hin I0 hI
  exact ⟨g_.1, fun S_p hq I1 hsm => ⟨⟨(g_.2 S_p hq.2.1 I1 hsm).1, (by
    intro c hD s rest hn h40 z14 zne b cc hC hW
    have e := hI.1.1
    subst e
    obtain ⟨op, hw, h⟩ := hq.2.2 z14
    have ho : (32 : Int) = op := Option.some.inj (congrArg (fun l : List Int => l[1]?) hw)
    subst ho
    rw [rkSt_sq (rzSg_np (c := 91) (by decide) (by decide) (hI.2 hD)) hn h40]
    exact h b cc hC)⟩, (g_.2 S_p hq.2.1 I1 hsm).2⟩⟩
theorem rxsRPK_1 {X : (Nat → Int → Int) → Prop} {S0 : Nat → Int → Int} {ws : List Int} (hP : rxPRPK S0 ws) : rx_obK X S0 rxCRPK.2.2.1 rxCOBK.2.2.1 (rxIRPK S0 ws) (rxmRPK S0 ws) 1 2 rxzRPK_1 rxzRPK_2 [.inr (3, (0, 480)), .inr (0, (0, 32))] none rxPOBK rxPSOBK := by
  intro S r hinv hXS I0 hin hs_ hf_
  have b_ := bx_bds_sat hs_
  have f_ := bx_fcl_ok hs_.1 hf_
  have g := rxkRPK_1 hP hin I0 hinv 
  have ea : List.map (bx_num r) [.inr (3, (0, 480)), .inr (0, (0, 32))] = [480, 32] := by
    simp only [List.map_cons, List.map_nil, bx_xv_ok hs_.1]
    rfl
  rw [ea]
  refine ⟨g.1, fun S_p w r_p hPS hX_p I1 hsm hr hw hs_p => ?_⟩
  have hw : w = none := hPS.1
  subst hw
  have g2 := g.2 S_p hPS I1 hsm
  show rxIRPK_2 S0 ws S_p ∧ rxmRPK_2 S0 ws S_p < _
  exact g2
theorem rxkRPK_3 {S0 : Nat → Int → Int} {ws : List Int} {S : Nat → Int → Int} (hP : rxPRPK S0 ws) (hin : bx_same rxL (bx_mdl rxCRPK.2.2.1) S0 S) (I0 : bx_Inv rxL S) (hinv : rxIRPK_3 S0 ws S)  : rxPPPW S [480] ∧ ∀ (S_p : Nat → Int → Int) (its : Int), (-1) ≤ its → its ≤ 8 → rxPSPPW S [480] S_p (some its) → bx_Inv rxL S_p → bx_same rxL (bx_mdl rxCPPW.2.2.1) S S_p → rxIRPK_4 S0 ws S_p its ∧ rxmRPK_4 S0 ws S_p its < rxmRPK_3 S0 ws S := by
  obtain ⟨hI, hx⟩ := hinv
  have g_ := rxkRPW_3 hP hin I0 hI
  exact ⟨g_.1, fun S_p its l_ u_ hq I1 hsm => ⟨⟨(g_.2 S_p its l_ u_ hq I1 hsm).1, trivial⟩, (g_.2 S_p its l_ u_ hq I1 hsm).2⟩⟩
theorem rxsRPK_3 {X : (Nat → Int → Int) → Prop} {S0 : Nat → Int → Int} {ws : List Int} (hP : rxPRPK S0 ws) : rx_obK X S0 rxCRPK.2.2.1 rxCPPW.2.2.1 (rxIRPK S0 ws) (rxmRPK S0 ws) 3 4 rxzRPK_3 rxzRPK_4 [.inr (3, (0, 480))] (some 8) rxPPPW rxPSPPW := by
  intro S r hinv hXS I0 hin hs_ hf_
  have b_ := bx_bds_sat hs_
  have f_ := bx_fcl_ok hs_.1 hf_
  have g := rxkRPK_3 hP hin I0 hinv 
  have ea : List.map (bx_num r) [.inr (3, (0, 480))] = [480] := by
    simp only [List.map_cons, List.map_nil, bx_xv_ok hs_.1]
    rfl
  rw [ea]
  refine ⟨g.1, fun S_p w r_p hPS hX_p I1 hsm hr hw hs_p => ?_⟩
  have hw := hw _ rfl
  subst hw
  have b_p := hs_p.2.2 8 _ _ rfl
  have g2 := g.2 S_p (r_p 8) b_p.1 b_p.2 hPS I1 hsm
  show rxIRPK_4 S0 ws S_p (r_p 8) ∧ rxmRPK_4 S0 ws S_p (r_p 8) < _
  exact g2
theorem rxkRPK_5 {S0 : Nat → Int → Int} {ws : List Int} {S : Nat → Int → Int} (hP : rxPRPK S0 ws) (hin : bx_same rxL (bx_mdl rxCRPK.2.2.1) S0 S) (I0 : bx_Inv rxL S) (hinv : rxIRPK_5 S0 ws S)  : rxPPAW S [480] ∧ ∀ (S_p : Nat → Int → Int) (its : Int), (-1) ≤ its → its ≤ 8 → rxPSPAW S [480] S_p (some its) → bx_Inv rxL S_p → bx_same rxL (bx_mdl rxCPAW.2.2.1) S S_p → rxIRPK_6 S0 ws S_p its ∧ rxmRPK_6 S0 ws S_p its < rxmRPK_5 S0 ws S := by
  obtain ⟨hI, hx⟩ := hinv
  have g_ := rxkRPW_5 hP hin I0 hI
  exact ⟨g_.1, fun S_p its l_ u_ hq I1 hsm => ⟨⟨(g_.2 S_p its l_ u_ hq I1 hsm).1, trivial⟩, (g_.2 S_p its l_ u_ hq I1 hsm).2⟩⟩
theorem rxsRPK_5 {X : (Nat → Int → Int) → Prop} {S0 : Nat → Int → Int} {ws : List Int} (hP : rxPRPK S0 ws) : rx_obK X S0 rxCRPK.2.2.1 rxCPAW.2.2.1 (rxIRPK S0 ws) (rxmRPK S0 ws) 5 6 rxzRPK_5 rxzRPK_6 [.inr (3, (0, 480))] (some 8) rxPPAW rxPSPAW := by
  intro S r hinv hXS I0 hin hs_ hf_
  have b_ := bx_bds_sat hs_
  have f_ := bx_fcl_ok hs_.1 hf_
  have g := rxkRPK_5 hP hin I0 hinv 
  have ea : List.map (bx_num r) [.inr (3, (0, 480))] = [480] := by
    simp only [List.map_cons, List.map_nil, bx_xv_ok hs_.1]
    rfl
  rw [ea]
  refine ⟨g.1, fun S_p w r_p hPS hX_p I1 hsm hr hw hs_p => ?_⟩
  have hw := hw _ rfl
  subst hw
  have b_p := hs_p.2.2 8 _ _ rfl
  have g2 := g.2 S_p (r_p 8) b_p.1 b_p.2 hPS I1 hsm
  show rxIRPK_6 S0 ws S_p (r_p 8) ∧ rxmRPK_6 S0 ws S_p (r_p 8) < _
  exact g2
theorem rxkRPK_8 {S0 : Nat → Int → Int} {ws : List Int} {S : Nat → Int → Int} {is op arg : Int} (hP : rxPRPK S0 ws) (hin : bx_same rxL (bx_mdl rxCRPK.2.2.1) S0 S) (I0 : bx_Inv rxL S) (hinv : rxIRPK_8 S0 ws S is op arg) (l8 : 0 ≤ is) (u8 : is ≤ 1) (l9 : 0 ≤ op) (u9 : op ≤ 8) (l10 : 0 ≤ arg) (u10 : arg ≤ 1000) : rxPLFK S [480, is, op, arg] ∧ ∀ (S_p : Nat → Int → Int), rxPSLFK S [480, is, op, arg] S_p none → bx_Inv rxL S_p → bx_same rxL (bx_mdl rxCLFK.2.2.1) S S_p → rxIRPK_9 S0 ws S_p is op arg ∧ rxmRPK_9 S0 ws S_p is op arg < rxmRPK_8 S0 ws S is op arg := by
  obtain ⟨hI, hx⟩ := hinv
  have g_ := rxkRPW_8 hP hin I0 hI l8 u8 l9 u9 l10 u10
  exact ⟨g_.1, fun S_p hq I1 hsm => ⟨⟨(g_.2 S_p hq.2.1 I1 hsm).1, (by
    intro c hD s rest hn h40 z14 zne b cc hC hW
    have e := hI.1.1
    subst e
    obtain ⟨is0, op0, arg0, hw, h⟩ := hq.2.2 z14
    have e2 : op = op0 := Option.some.inj (congrArg (fun l : List Int => l[2]?) hw)
    have e3 : arg = arg0 := Option.some.inj (congrArg (fun l : List Int => l[3]?) hw)
    subst e2
    subst e3
    have lf := (rzLf_iff rfl).mp ((hq.2.1.2.2 hD).1 z14).1
    rcases hx c hD lf.1 with ⟨dg, o, a⟩ | ⟨nd, hi, o, a⟩
    · rw [rkSt_num dg, ← o, ← a]
      exact h b cc hC
    · rw [rkSt_nam nd hi, ← o, ← a]
      exact h b cc hC)⟩, (g_.2 S_p hq.2.1 I1 hsm).2⟩⟩
theorem rxsRPK_8 {X : (Nat → Int → Int) → Prop} {S0 : Nat → Int → Int} {ws : List Int} (hP : rxPRPK S0 ws) : rx_obK X S0 rxCRPK.2.2.1 rxCLFK.2.2.1 (rxIRPK S0 ws) (rxmRPK S0 ws) 8 9 rxzRPK_8 rxzRPK_9 [.inr (3, (0, 480)), .inr (0, (8, 0)), .inr (0, (9, 0)), .inr (0, (10, 0))] none rxPLFK rxPSLFK := by
  intro S r hinv hXS I0 hin hs_ hf_
  have b_ := bx_bds_sat hs_
  have f_ := bx_fcl_ok hs_.1 hf_
  obtain ⟨⟨l8, u8⟩, ⟨l9, u9⟩, ⟨l10, u10⟩, -⟩ := b_
  have g := rxkRPK_8 hP hin I0 hinv l8 u8 l9 u9 l10 u10
  have ea : List.map (bx_num r) [.inr (3, (0, 480)), .inr (0, (8, 0)), .inr (0, (9, 0)), .inr (0, (10, 0))] = [480, (r 8), (r 9), (r 10)] := by
    simp only [List.map_cons, List.map_nil, bx_xv_ok hs_.1]
    rfl
  rw [ea]
  refine ⟨g.1, fun S_p w r_p hPS hX_p I1 hsm hr hw hs_p => ?_⟩
  have hw : w = none := hPS.1
  subst hw
  have g2 := g.2 S_p hPS I1 hsm
  show rxIRPK_9 S0 ws S_p (r_p 8) (r_p 9) (r_p 10) ∧ rxmRPK_9 S0 ws S_p (r_p 8) (r_p 9) (r_p 10) < _
  rw [hr 8 (by decide), hr 9 (by decide), hr 10 (by decide)]
  exact g2
theorem rxcRPK_0_0 {S0 : Nat → Int → Int} {ws : List Int} {S : Nat → Int → Int} {x8 x9 : Int} (hP : rxPRPK S0 ws) (hin : bx_same rxL (bx_mdl rxCRPK.2.2.1) S0 S) (I0 : bx_Inv rxL S) (hinv : rxIRPK_0 S0 ws S) (l8 : 0 ≤ x8) (u8 : x8 ≤ 2) (l9 : 1 ≤ x9) (u9 : x9 ≤ 1) (f0 : x9 ≠ 0) (f1 : x8 ≠ 3) (e1 : S 480 11 = x8) (e0 : S 480 15 = x9) : (True) ∧ (True) ∧ rxIRPK_3 S0 ws S ∧ rxmRPK_3 S0 ws S < rxmRPK_0 S0 ws S := by
  obtain ⟨hI, hx⟩ := hinv
  obtain ⟨a_, b_, c_, d_⟩ := rxcRPW_0_0 hP hin I0 hI l8 u8 l9 u9 f0 f1 e1 e0
  exact ⟨a_, b_, ⟨c_, trivial⟩, d_⟩
theorem rxgRPK_0_0 {X : (Nat → Int → Int) → Prop} {S0 : Nat → Int → Int} {ws : List Int} (hP : rxPRPK S0 ws) : bx_obC rxL X S0 rxCRPK.2.2.1 (rxIRPK S0 ws) (rxmRPK S0 ws) 0 rxzRPK_0 rxoRPK_0_0 := by
  intro S S_p r r_p hinv hX hin hsm_ hseg
  obtain ⟨I0, I1, h0_, hr_, b_, f_, d_⟩ := bx_cl (evs := [(0, (0, 480), (0, 15), .inr (0, (9, 0))), (0, (0, 480), (0, 11), .inr (0, (8, 0)))]) (fvs := [(3, (9, 0), (0, 0), (0, 0)), (3, (8, 0), (0, 3), (0, 0))]) hseg (by decide +kernel) (by decide +kernel)
  have hinv : rxIRPK_0 S0 ws S := hinv
  obtain ⟨⟨l8, u8⟩, ⟨l9, u9⟩, -⟩ := b_
  obtain ⟨f0, f1, -⟩ := f_
  obtain ⟨e0, ⟨e1, w_⟩⟩ := d_
  subst w_
  have g := rxcRPK_0_0 hP hin I0 hinv l8 u8 l9 u9 f0 f1 e1 e0
  refine ⟨bx_narP_ok (l := []) g.1, bx_nfP_ok h0_ (fvs := []) (by decide +kernel) g.2.1, ?_, ?_⟩
  · show rxIRPK_3 S0 ws S_p
    exact g.2.2.1
  · show rxmRPK_3 S0 ws S_p < rxmRPK_0 S0 ws S_p
    exact g.2.2.2
theorem rxcRPK_0_1 {S0 : Nat → Int → Int} {ws : List Int} {S : Nat → Int → Int} {x8 x9 : Int} (hP : rxPRPK S0 ws) (hin : bx_same rxL (bx_mdl rxCRPK.2.2.1) S0 S) (I0 : bx_Inv rxL S) (hinv : rxIRPK_0 S0 ws S) (l8 : 0 ≤ x8) (u8 : x8 ≤ 2) (l9 : 0 ≤ x9) (u9 : x9 ≤ 0) (f0 : x8 ≠ 3) (e1 : S 480 11 = x8) (e0 : S 480 15 = x9) : (True) ∧ (True) ∧ rxIRPK_5 S0 ws S ∧ rxmRPK_5 S0 ws S < rxmRPK_0 S0 ws S := by
  obtain ⟨hI, hx⟩ := hinv
  obtain ⟨a_, b_, c_, d_⟩ := rxcRPW_0_1 hP hin I0 hI l8 u8 l9 u9 f0 e1 e0
  exact ⟨a_, b_, ⟨c_, trivial⟩, d_⟩
theorem rxgRPK_0_1 {X : (Nat → Int → Int) → Prop} {S0 : Nat → Int → Int} {ws : List Int} (hP : rxPRPK S0 ws) : bx_obC rxL X S0 rxCRPK.2.2.1 (rxIRPK S0 ws) (rxmRPK S0 ws) 0 rxzRPK_0 rxoRPK_0_1 := by
  intro S S_p r r_p hinv hX hin hsm_ hseg
  obtain ⟨I0, I1, h0_, hr_, b_, f_, d_⟩ := bx_cl (evs := [(0, (0, 480), (0, 15), .inr (0, (9, 0))), (0, (0, 480), (0, 11), .inr (0, (8, 0)))]) (fvs := [(3, (8, 0), (0, 3), (0, 0))]) hseg (by decide +kernel) (by decide +kernel)
  have hinv : rxIRPK_0 S0 ws S := hinv
  obtain ⟨⟨l8, u8⟩, ⟨l9, u9⟩, -⟩ := b_
  obtain ⟨f0, -⟩ := f_
  obtain ⟨e0, ⟨e1, w_⟩⟩ := d_
  subst w_
  have g := rxcRPK_0_1 hP hin I0 hinv l8 u8 l9 u9 f0 e1 e0
  refine ⟨bx_narP_ok (l := []) g.1, bx_nfP_ok h0_ (fvs := []) (by decide +kernel) g.2.1, ?_, ?_⟩
  · show rxIRPK_5 S0 ws S_p
    exact g.2.2.1
  · show rxmRPK_5 S0 ws S_p < rxmRPK_0 S0 ws S_p
    exact g.2.2.2
theorem rxcRPK_0_2 {S0 : Nat → Int → Int} {ws : List Int} {S : Nat → Int → Int} {x8 x9 x10 : Int} (hP : rxPRPK S0 ws) (hin : bx_same rxL (bx_mdl rxCRPK.2.2.1) S0 S) (I0 : bx_Inv rxL S) (hinv : rxIRPK_0 S0 ws S) (l8 : 3 ≤ x8) (u8 : x8 ≤ 3) (l9 : (-9223372036854775808) ≤ x9) (u9 : x9 ≤ 9223372036854775807) (l10 : 1 ≤ x10) (u10 : x10 ≤ 1) (f0 : x10 ≠ 0) (f1 : x9 ≠ 91) (e2 : S 480 11 = x8) (e1 : S 480 12 = x9) (e0 : S 480 15 = x10) : (True) ∧ (True) ∧ rxIRPK_3 S0 ws S ∧ rxmRPK_3 S0 ws S < rxmRPK_0 S0 ws S := by
  obtain ⟨hI, hx⟩ := hinv
  obtain ⟨a_, b_, c_, d_⟩ := rxcRPW_0_2 hP hin I0 hI l8 u8 l9 u9 l10 u10 f0 f1 e2 e1 e0
  exact ⟨a_, b_, ⟨c_, trivial⟩, d_⟩
theorem rxgRPK_0_2 {X : (Nat → Int → Int) → Prop} {S0 : Nat → Int → Int} {ws : List Int} (hP : rxPRPK S0 ws) : bx_obC rxL X S0 rxCRPK.2.2.1 (rxIRPK S0 ws) (rxmRPK S0 ws) 0 rxzRPK_0 rxoRPK_0_2 := by
  intro S S_p r r_p hinv hX hin hsm_ hseg
  obtain ⟨I0, I1, h0_, hr_, b_, f_, d_⟩ := bx_cl (evs := [(0, (0, 480), (0, 15), .inr (0, (10, 0))), (0, (0, 480), (0, 12), .inr (1, (9, 0))), (0, (0, 480), (0, 11), .inr (0, (8, 0)))]) (fvs := [(3, (10, 0), (0, 0), (0, 0)), (3, (9, 0), (0, 91), (0, 0))]) hseg (by decide +kernel) (by decide +kernel)
  have hinv : rxIRPK_0 S0 ws S := hinv
  obtain ⟨⟨l8, u8⟩, ⟨l9, u9⟩, ⟨l10, u10⟩, -⟩ := b_
  obtain ⟨f0, f1, -⟩ := f_
  obtain ⟨e0, ⟨e1, ⟨e2, w_⟩⟩⟩ := d_
  subst w_
  have g := rxcRPK_0_2 hP hin I0 hinv l8 u8 l9 u9 l10 u10 f0 f1 e2 e1 e0
  refine ⟨bx_narP_ok (l := []) g.1, bx_nfP_ok h0_ (fvs := []) (by decide +kernel) g.2.1, ?_, ?_⟩
  · show rxIRPK_3 S0 ws S_p
    exact g.2.2.1
  · show rxmRPK_3 S0 ws S_p < rxmRPK_0 S0 ws S_p
    exact g.2.2.2
theorem rxcRPK_0_3 {S0 : Nat → Int → Int} {ws : List Int} {S : Nat → Int → Int} {x8 x9 x10 : Int} (hP : rxPRPK S0 ws) (hin : bx_same rxL (bx_mdl rxCRPK.2.2.1) S0 S) (I0 : bx_Inv rxL S) (hinv : rxIRPK_0 S0 ws S) (l8 : 3 ≤ x8) (u8 : x8 ≤ 3) (l9 : (-9223372036854775808) ≤ x9) (u9 : x9 ≤ 9223372036854775807) (l10 : 0 ≤ x10) (u10 : x10 ≤ 0) (f0 : x9 ≠ 91) (e2 : S 480 11 = x8) (e1 : S 480 12 = x9) (e0 : S 480 15 = x10) : (True) ∧ (True) ∧ rxIRPK_5 S0 ws S ∧ rxmRPK_5 S0 ws S < rxmRPK_0 S0 ws S := by
  obtain ⟨hI, hx⟩ := hinv
  obtain ⟨a_, b_, c_, d_⟩ := rxcRPW_0_3 hP hin I0 hI l8 u8 l9 u9 l10 u10 f0 e2 e1 e0
  exact ⟨a_, b_, ⟨c_, trivial⟩, d_⟩
theorem rxgRPK_0_3 {X : (Nat → Int → Int) → Prop} {S0 : Nat → Int → Int} {ws : List Int} (hP : rxPRPK S0 ws) : bx_obC rxL X S0 rxCRPK.2.2.1 (rxIRPK S0 ws) (rxmRPK S0 ws) 0 rxzRPK_0 rxoRPK_0_3 := by
  intro S S_p r r_p hinv hX hin hsm_ hseg
  obtain ⟨I0, I1, h0_, hr_, b_, f_, d_⟩ := bx_cl (evs := [(0, (0, 480), (0, 15), .inr (0, (10, 0))), (0, (0, 480), (0, 12), .inr (1, (9, 0))), (0, (0, 480), (0, 11), .inr (0, (8, 0)))]) (fvs := [(3, (9, 0), (0, 91), (0, 0))]) hseg (by decide +kernel) (by decide +kernel)
  have hinv : rxIRPK_0 S0 ws S := hinv
  obtain ⟨⟨l8, u8⟩, ⟨l9, u9⟩, ⟨l10, u10⟩, -⟩ := b_
  obtain ⟨f0, -⟩ := f_
  obtain ⟨e0, ⟨e1, ⟨e2, w_⟩⟩⟩ := d_
  subst w_
  have g := rxcRPK_0_3 hP hin I0 hinv l8 u8 l9 u9 l10 u10 f0 e2 e1 e0
  refine ⟨bx_narP_ok (l := []) g.1, bx_nfP_ok h0_ (fvs := []) (by decide +kernel) g.2.1, ?_, ?_⟩
  · show rxIRPK_5 S0 ws S_p
    exact g.2.2.1
  · show rxmRPK_5 S0 ws S_p < rxmRPK_0 S0 ws S_p
    exact g.2.2.2
theorem rxcRPK_0_4 {S0 : Nat → Int → Int} {ws : List Int} {S : Nat → Int → Int} {x8 x9 : Int} (hP : rxPRPK S0 ws) (hin : bx_same rxL (bx_mdl rxCRPK.2.2.1) S0 S) (I0 : bx_Inv rxL S) (hinv : rxIRPK_0 S0 ws S) (l8 : 3 ≤ x8) (u8 : x8 ≤ 3) (l9 : 91 ≤ x9) (u9 : x9 ≤ 91) (e1 : S 480 11 = x8) (e0 : S 480 12 = x9) : (True) ∧ (True) ∧ rxIRPK_1 S0 ws S ∧ rxmRPK_1 S0 ws S < rxmRPK_0 S0 ws S := by
  obtain ⟨hI, hx⟩ := hinv
  obtain ⟨a_, b_, c_, d_⟩ := rxcRPW_0_4 hP hin I0 hI l8 u8 l9 u9 e1 e0
  exact ⟨a_, b_, ⟨c_, trivial⟩, d_⟩
theorem rxgRPK_0_4 {X : (Nat → Int → Int) → Prop} {S0 : Nat → Int → Int} {ws : List Int} (hP : rxPRPK S0 ws) : bx_obC rxL X S0 rxCRPK.2.2.1 (rxIRPK S0 ws) (rxmRPK S0 ws) 0 rxzRPK_0 rxoRPK_0_4 := by
  intro S S_p r r_p hinv hX hin hsm_ hseg
  obtain ⟨I0, I1, h0_, hr_, b_, f_, d_⟩ := bx_cl (evs := [(0, (0, 480), (0, 12), .inr (1, (9, 0))), (0, (0, 480), (0, 11), .inr (0, (8, 0)))]) (fvs := []) hseg (by decide +kernel) (by decide +kernel)
  have hinv : rxIRPK_0 S0 ws S := hinv
  obtain ⟨⟨l8, u8⟩, ⟨l9, u9⟩, -⟩ := b_
  obtain ⟨e0, ⟨e1, w_⟩⟩ := d_
  subst w_
  have g := rxcRPK_0_4 hP hin I0 hinv l8 u8 l9 u9 e1 e0
  refine ⟨bx_narP_ok (l := []) g.1, bx_nfP_ok h0_ (fvs := []) (by decide +kernel) g.2.1, ?_, ?_⟩
  · show rxIRPK_1 S0 ws S_p
    exact g.2.2.1
  · show rxmRPK_1 S0 ws S_p < rxmRPK_0 S0 ws S_p
    exact g.2.2.2
theorem rxdRPK_2_0 {S0 : Nat → Int → Int} {ws : List Int} {S : Nat → Int → Int} (hP : rxPRPK S0 ws) (hin : bx_same rxL (bx_mdl rxCRPK.2.2.1) S0 S) (hin2 : bx_same rxL (bx_mdl rxCRPK.2.2.1) S S) (I0 : bx_Inv rxL S) (I1 : bx_Inv rxL S) (hinv : rxIRPK_2 S0 ws S)  : (True) ∧ rxPSRPK S0 ws S (some 1) := by
  obtain ⟨hI, hx⟩ := hinv
  obtain ⟨a_, c_⟩ := rxdRPW_2_0 hP hin hin2 I0 I1 hI
  exact ⟨a_, c_, hx⟩
theorem rxfRPK_2_0 {X : (Nat → Int → Int) → Prop} {S0 : Nat → Int → Int} {ws : List Int} (hP : rxPRPK S0 ws) : bx_obE rxL X S0 rxCRPK.2.2.1 (rxIRPK S0 ws) (rxPSRPK S0 ws) 2 rxzRPK_2 rxeRPK_2_0 := by
  intro S S_p r r_p hinv hX hin hsm_ hseg
  obtain ⟨I0, I1, h0_, hr_, b_, f_, d_⟩ := bx_cl (evs := []) (fvs := []) hseg (by decide +kernel) (by decide +kernel)
  have hinv : rxIRPK_2 S0 ws S := hinv
  have w_ := d_
  subst w_
  have g := rxdRPK_2_0 hP hin hsm_ I0 I1 hinv 
  refine ⟨bx_narP_ok (l := []) g.1, ?_⟩
  show rxPSRPK S0 ws S_p (some (bx_num r_p (.inr (0, (0, 1)))))
  rw [bx_xv_ok h0_]
  exact g.2
theorem rxcRPK_4_0 {S0 : Nat → Int → Int} {ws : List Int} {S : Nat → Int → Int} {its x9 x10 : Int} (hP : rxPRPK S0 ws) (hin : bx_same rxL (bx_mdl rxCRPK.2.2.1) S0 S) (I0 : bx_Inv rxL S) (hinv : rxIRPK_4 S0 ws S its) (l8 : (-1) ≤ its) (u8 : its ≤ (-1)) (l9 : 2 ≤ x9) (u9 : x9 ≤ 2) (l10 : (-9223372036854775808) ≤ x10) (u10 : x10 ≤ 1000) (e1 : S 480 11 = x9) (e0 : S 480 12 = x10) : ((0 ≤ x10 ∧ x10 ≤ 1000) ∧ True) ∧ (True) ∧ rxIRPK_7 S0 ws S 1 0 x10 ∧ rxmRPK_7 S0 ws S 1 0 x10 < rxmRPK_4 S0 ws S its := by
  obtain ⟨hI, hx⟩ := hinv
  obtain ⟨a_, b_, c_, d_⟩ := rxcRPW_4_0 hP hin I0 hI l8 u8 l9 u9 l10 u10 e1 e0
  exact ⟨a_, b_, ⟨c_, (by
    intro c hD
    have e := hI.1.1
    subst e
    obtain ⟨g91, hits⟩ := hI.2 c hD
    have q := rzDq_nm hD (by omega)
    have q2 := q.2.1 (by omega)
    have dg := (rzDq_dg hD).mp (by omega)
    exact ⟨by first | rfl | (exfalso; have q9 := hI.1.2.2 (by omega); omega), by omega, dg⟩)⟩, d_⟩
theorem rxgRPK_4_0 {X : (Nat → Int → Int) → Prop} {S0 : Nat → Int → Int} {ws : List Int} (hP : rxPRPK S0 ws) : bx_obC rxL X S0 rxCRPK.2.2.1 (rxIRPK S0 ws) (rxmRPK S0 ws) 4 rxzRPK_4 rxoRPK_4_0 := by
  intro S S_p r r_p hinv hX hin hsm_ hseg
  obtain ⟨I0, I1, h0_, hr_, b_, f_, d_⟩ := bx_cl (evs := [(0, (0, 480), (0, 12), .inr (1, (10, 0))), (0, (0, 480), (0, 11), .inr (0, (9, 0)))]) (fvs := []) hseg (by decide +kernel) (by decide +kernel)
  have hinv : rxIRPK_4 S0 ws S (r 8) := hinv
  rw [← hr_ 8 (by decide)] at hinv
  obtain ⟨⟨l8, u8⟩, ⟨l9, u9⟩, ⟨l10, u10⟩, -⟩ := b_
  obtain ⟨e0, ⟨e1, w_⟩⟩ := d_
  subst w_
  have g := rxcRPK_4_0 hP hin I0 hinv l8 u8 l9 u9 l10 u10 e1 e0
  refine ⟨bx_narP_ok (l := [(10, 0, 1000)]) g.1, bx_nfP_ok h0_ (fvs := []) (by decide +kernel) g.2.1, ?_, ?_⟩
  · show rxIRPK_7 S0 ws S_p (bx_val [(0, 0), (0, 0), (0, 0), (0, 0), (0, 0), (0, 0), (0, 0), (0, 0), (0, 1), (0, 0), (10, 0)] r_p 8) (bx_val [(0, 0), (0, 0), (0, 0), (0, 0), (0, 0), (0, 0), (0, 0), (0, 0), (0, 1), (0, 0), (10, 0)] r_p 9) (bx_val [(0, 0), (0, 0), (0, 0), (0, 0), (0, 0), (0, 0), (0, 0), (0, 0), (0, 1), (0, 0), (10, 0)] r_p 10)
    rw [bx_val_x (n := 8) (e := (0, 1)) h0_ rfl, bx_val_x (n := 9) (e := (0, 0)) h0_ rfl, bx_val_x (n := 10) (e := (10, 0)) h0_ rfl]
    exact g.2.2.1
  · show rxmRPK_7 S0 ws S_p (bx_val [(0, 0), (0, 0), (0, 0), (0, 0), (0, 0), (0, 0), (0, 0), (0, 0), (0, 1), (0, 0), (10, 0)] r_p 8) (bx_val [(0, 0), (0, 0), (0, 0), (0, 0), (0, 0), (0, 0), (0, 0), (0, 0), (0, 1), (0, 0), (10, 0)] r_p 9) (bx_val [(0, 0), (0, 0), (0, 0), (0, 0), (0, 0), (0, 0), (0, 0), (0, 0), (0, 1), (0, 0), (10, 0)] r_p 10) < rxmRPK_4 S0 ws S_p (r 8)
    rw [bx_val_x (n := 8) (e := (0, 1)) h0_ rfl, bx_val_x (n := 9) (e := (0, 0)) h0_ rfl, bx_val_x (n := 10) (e := (10, 0)) h0_ rfl, ← hr_ 8 (by decide)]
    exact g.2.2.2
theorem rxcRPK_4_1 {S0 : Nat → Int → Int} {ws : List Int} {S : Nat → Int → Int} {its x9 x10 : Int} (hP : rxPRPK S0 ws) (hin : bx_same rxL (bx_mdl rxCRPK.2.2.1) S0 S) (I0 : bx_Inv rxL S) (hinv : rxIRPK_4 S0 ws S its) (l8 : 0 ≤ its) (u8 : its ≤ 8) (l9 : 2 ≤ x9) (u9 : x9 ≤ 2) (l10 : (-9223372036854775808) ≤ x10) (u10 : x10 ≤ 1000) (f0 : its ≠ (-1)) (f1 : its ≠ (-1)) (e1 : S 480 11 = x9) (e0 : S 480 12 = x10) : ((0 ≤ x10 ∧ x10 ≤ 1000) ∧ True) ∧ (True) ∧ rxIRPK_7 S0 ws S 1 its x10 ∧ rxmRPK_7 S0 ws S 1 its x10 < rxmRPK_4 S0 ws S its := by
  obtain ⟨hI, hx⟩ := hinv
  obtain ⟨a_, b_, c_, d_⟩ := rxcRPW_4_1 hP hin I0 hI l8 u8 l9 u9 l10 u10 f0 f1 e1 e0
  exact ⟨a_, b_, ⟨c_, (by
    intro c hD
    have e := hI.1.1
    subst e
    obtain ⟨g91, hits⟩ := hI.2 c hD
    have q := rzDq_nm hD (by omega)
    have q2 := q.2.1 (by omega)
    have dg := (rzDq_dg hD).mp (by omega)
    exact ⟨by first | rfl | (exfalso; have q9 := hI.1.2.2 (by omega); omega), by omega, dg⟩)⟩, d_⟩
theorem rxgRPK_4_1 {X : (Nat → Int → Int) → Prop} {S0 : Nat → Int → Int} {ws : List Int} (hP : rxPRPK S0 ws) : bx_obC rxL X S0 rxCRPK.2.2.1 (rxIRPK S0 ws) (rxmRPK S0 ws) 4 rxzRPK_4 rxoRPK_4_1 := by
  intro S S_p r r_p hinv hX hin hsm_ hseg
  obtain ⟨I0, I1, h0_, hr_, b_, f_, d_⟩ := bx_cl (evs := [(0, (0, 480), (0, 12), .inr (1, (10, 0))), (0, (0, 480), (0, 11), .inr (0, (9, 0)))]) (fvs := [(3, (8, 0), (0, (-1)), (0, 0)), (3, (8, 0), (0, (-1)), (0, 0))]) hseg (by decide +kernel) (by decide +kernel)
  have hinv : rxIRPK_4 S0 ws S (r 8) := hinv
  rw [← hr_ 8 (by decide)] at hinv
  obtain ⟨⟨l8, u8⟩, ⟨l9, u9⟩, ⟨l10, u10⟩, -⟩ := b_
  obtain ⟨f0, f1, -⟩ := f_
  obtain ⟨e0, ⟨e1, w_⟩⟩ := d_
  subst w_
  have g := rxcRPK_4_1 hP hin I0 hinv l8 u8 l9 u9 l10 u10 f0 f1 e1 e0
  refine ⟨bx_narP_ok (l := [(10, 0, 1000)]) g.1, bx_nfP_ok h0_ (fvs := []) (by decide +kernel) g.2.1, ?_, ?_⟩
  · show rxIRPK_7 S0 ws S_p (bx_val [(0, 0), (0, 0), (0, 0), (0, 0), (0, 0), (0, 0), (0, 0), (0, 0), (0, 1), (8, 0), (10, 0)] r_p 8) (bx_val [(0, 0), (0, 0), (0, 0), (0, 0), (0, 0), (0, 0), (0, 0), (0, 0), (0, 1), (8, 0), (10, 0)] r_p 9) (bx_val [(0, 0), (0, 0), (0, 0), (0, 0), (0, 0), (0, 0), (0, 0), (0, 0), (0, 1), (8, 0), (10, 0)] r_p 10)
    rw [bx_val_x (n := 8) (e := (0, 1)) h0_ rfl, bx_val_x (n := 9) (e := (8, 0)) h0_ rfl, bx_val_x (n := 10) (e := (10, 0)) h0_ rfl]
    exact g.2.2.1
  · show rxmRPK_7 S0 ws S_p (bx_val [(0, 0), (0, 0), (0, 0), (0, 0), (0, 0), (0, 0), (0, 0), (0, 0), (0, 1), (8, 0), (10, 0)] r_p 8) (bx_val [(0, 0), (0, 0), (0, 0), (0, 0), (0, 0), (0, 0), (0, 0), (0, 0), (0, 1), (8, 0), (10, 0)] r_p 9) (bx_val [(0, 0), (0, 0), (0, 0), (0, 0), (0, 0), (0, 0), (0, 0), (0, 0), (0, 1), (8, 0), (10, 0)] r_p 10) < rxmRPK_4 S0 ws S_p (r 8)
    rw [bx_val_x (n := 8) (e := (0, 1)) h0_ rfl, bx_val_x (n := 9) (e := (8, 0)) h0_ rfl, bx_val_x (n := 10) (e := (10, 0)) h0_ rfl, ← hr_ 8 (by decide)]
    exact g.2.2.2
theorem rxcRPK_4_2 {S0 : Nat → Int → Int} {ws : List Int} {S : Nat → Int → Int} {its x9 x10 : Int} (hP : rxPRPK S0 ws) (hin : bx_same rxL (bx_mdl rxCRPK.2.2.1) S0 S) (I0 : bx_Inv rxL S) (hinv : rxIRPK_4 S0 ws S its) (l8 : (-1) ≤ its) (u8 : its ≤ (-1)) (l9 : 2 ≤ x9) (u9 : x9 ≤ 2) (l10 : 1001 ≤ x10) (u10 : x10 ≤ 9223372036854775807) (e1 : S 480 11 = x9) (e0 : S 480 12 = x10) : (True) ∧ (True) ∧ rxIRPK_8 S0 ws S 0 0 0 ∧ rxmRPK_8 S0 ws S 0 0 0 < rxmRPK_4 S0 ws S its := by
  obtain ⟨hI, hx⟩ := hinv
  obtain ⟨a_, b_, c_, d_⟩ := rxcRPW_4_2 hP hin I0 hI l8 u8 l9 u9 l10 u10 e1 e0
  exact ⟨a_, b_, ⟨c_, (by
    intro c hD his
    have e := hI.1.1
    subst e
    obtain ⟨g91, hits⟩ := hI.2 c hD
    by_cases hz : its = -1
    · exfalso
      omega
    · have q9 := hI.1.2.2 hz
      have nd : ¬ rzDg (rzCut (S 485)) (S 480 8) (S 480 9) = true := fun g => by
        have := (rzDq_dg hD).mpr g
        omega
      have hi : 0 ≤ rzIxn (rzCut (S 485)) (S 480 8) (S 480 9) (rzWr S) 0 := by
        by_cases z : 0 ≤ rzIxn (rzCut (S 485)) (S 480 8) (S 480 9) (rzWr S) 0
        · exact z
        · rw [if_neg z] at hits
          omega
      rw [if_pos hi] at hits
      exact Or.inr ⟨nd, hi, by omega, rfl⟩)⟩, d_⟩
theorem rxgRPK_4_2 {X : (Nat → Int → Int) → Prop} {S0 : Nat → Int → Int} {ws : List Int} (hP : rxPRPK S0 ws) : bx_obC rxL X S0 rxCRPK.2.2.1 (rxIRPK S0 ws) (rxmRPK S0 ws) 4 rxzRPK_4 rxoRPK_4_2 := by
  intro S S_p r r_p hinv hX hin hsm_ hseg
  obtain ⟨I0, I1, h0_, hr_, b_, f_, d_⟩ := bx_cl (evs := [(0, (0, 480), (0, 12), .inr (1, (10, 0))), (0, (0, 480), (0, 11), .inr (0, (9, 0)))]) (fvs := []) hseg (by decide +kernel) (by decide +kernel)
  have hinv : rxIRPK_4 S0 ws S (r 8) := hinv
  rw [← hr_ 8 (by decide)] at hinv
  obtain ⟨⟨l8, u8⟩, ⟨l9, u9⟩, ⟨l10, u10⟩, -⟩ := b_
  obtain ⟨e0, ⟨e1, w_⟩⟩ := d_
  subst w_
  have g := rxcRPK_4_2 hP hin I0 hinv l8 u8 l9 u9 l10 u10 e1 e0
  refine ⟨bx_narP_ok (l := []) g.1, bx_nfP_ok h0_ (fvs := []) (by decide +kernel) g.2.1, ?_, ?_⟩
  · show rxIRPK_8 S0 ws S_p (bx_val [(0, 0), (0, 0), (0, 0), (0, 0), (0, 0), (0, 0), (0, 0), (0, 0), (0, 0), (0, 0), (0, 0)] r_p 8) (bx_val [(0, 0), (0, 0), (0, 0), (0, 0), (0, 0), (0, 0), (0, 0), (0, 0), (0, 0), (0, 0), (0, 0)] r_p 9) (bx_val [(0, 0), (0, 0), (0, 0), (0, 0), (0, 0), (0, 0), (0, 0), (0, 0), (0, 0), (0, 0), (0, 0)] r_p 10)
    rw [bx_val_x (n := 8) (e := (0, 0)) h0_ rfl, bx_val_x (n := 9) (e := (0, 0)) h0_ rfl, bx_val_x (n := 10) (e := (0, 0)) h0_ rfl]
    exact g.2.2.1
  · show rxmRPK_8 S0 ws S_p (bx_val [(0, 0), (0, 0), (0, 0), (0, 0), (0, 0), (0, 0), (0, 0), (0, 0), (0, 0), (0, 0), (0, 0)] r_p 8) (bx_val [(0, 0), (0, 0), (0, 0), (0, 0), (0, 0), (0, 0), (0, 0), (0, 0), (0, 0), (0, 0), (0, 0)] r_p 9) (bx_val [(0, 0), (0, 0), (0, 0), (0, 0), (0, 0), (0, 0), (0, 0), (0, 0), (0, 0), (0, 0), (0, 0)] r_p 10) < rxmRPK_4 S0 ws S_p (r 8)
    rw [bx_val_x (n := 8) (e := (0, 0)) h0_ rfl, bx_val_x (n := 9) (e := (0, 0)) h0_ rfl, bx_val_x (n := 10) (e := (0, 0)) h0_ rfl, ← hr_ 8 (by decide)]
    exact g.2.2.2
theorem rxcRPK_4_3 {S0 : Nat → Int → Int} {ws : List Int} {S : Nat → Int → Int} {its x9 x10 : Int} (hP : rxPRPK S0 ws) (hin : bx_same rxL (bx_mdl rxCRPK.2.2.1) S0 S) (I0 : bx_Inv rxL S) (hinv : rxIRPK_4 S0 ws S its) (l8 : 0 ≤ its) (u8 : its ≤ 8) (l9 : 2 ≤ x9) (u9 : x9 ≤ 2) (l10 : 1001 ≤ x10) (u10 : x10 ≤ 9223372036854775807) (f0 : its ≠ (-1)) (f1 : its ≠ (-1)) (e1 : S 480 11 = x9) (e0 : S 480 12 = x10) : (True) ∧ (True) ∧ rxIRPK_8 S0 ws S 1 its 0 ∧ rxmRPK_8 S0 ws S 1 its 0 < rxmRPK_4 S0 ws S its := by
  obtain ⟨hI, hx⟩ := hinv
  obtain ⟨a_, b_, c_, d_⟩ := rxcRPW_4_3 hP hin I0 hI l8 u8 l9 u9 l10 u10 f0 f1 e1 e0
  exact ⟨a_, b_, ⟨c_, (by
    intro c hD his
    have e := hI.1.1
    subst e
    obtain ⟨g91, hits⟩ := hI.2 c hD
    by_cases hz : its = -1
    · exfalso
      omega
    · have q9 := hI.1.2.2 hz
      have nd : ¬ rzDg (rzCut (S 485)) (S 480 8) (S 480 9) = true := fun g => by
        have := (rzDq_dg hD).mpr g
        omega
      have hi : 0 ≤ rzIxn (rzCut (S 485)) (S 480 8) (S 480 9) (rzWr S) 0 := by
        by_cases z : 0 ≤ rzIxn (rzCut (S 485)) (S 480 8) (S 480 9) (rzWr S) 0
        · exact z
        · rw [if_neg z] at hits
          omega
      rw [if_pos hi] at hits
      exact Or.inr ⟨nd, hi, by omega, rfl⟩)⟩, d_⟩
theorem rxgRPK_4_3 {X : (Nat → Int → Int) → Prop} {S0 : Nat → Int → Int} {ws : List Int} (hP : rxPRPK S0 ws) : bx_obC rxL X S0 rxCRPK.2.2.1 (rxIRPK S0 ws) (rxmRPK S0 ws) 4 rxzRPK_4 rxoRPK_4_3 := by
  intro S S_p r r_p hinv hX hin hsm_ hseg
  obtain ⟨I0, I1, h0_, hr_, b_, f_, d_⟩ := bx_cl (evs := [(0, (0, 480), (0, 12), .inr (1, (10, 0))), (0, (0, 480), (0, 11), .inr (0, (9, 0)))]) (fvs := [(3, (8, 0), (0, (-1)), (0, 0)), (3, (8, 0), (0, (-1)), (0, 0))]) hseg (by decide +kernel) (by decide +kernel)
  have hinv : rxIRPK_4 S0 ws S (r 8) := hinv
  rw [← hr_ 8 (by decide)] at hinv
  obtain ⟨⟨l8, u8⟩, ⟨l9, u9⟩, ⟨l10, u10⟩, -⟩ := b_
  obtain ⟨f0, f1, -⟩ := f_
  obtain ⟨e0, ⟨e1, w_⟩⟩ := d_
  subst w_
  have g := rxcRPK_4_3 hP hin I0 hinv l8 u8 l9 u9 l10 u10 f0 f1 e1 e0
  refine ⟨bx_narP_ok (l := []) g.1, bx_nfP_ok h0_ (fvs := []) (by decide +kernel) g.2.1, ?_, ?_⟩
  · show rxIRPK_8 S0 ws S_p (bx_val [(0, 0), (0, 0), (0, 0), (0, 0), (0, 0), (0, 0), (0, 0), (0, 0), (0, 1), (8, 0), (0, 0)] r_p 8) (bx_val [(0, 0), (0, 0), (0, 0), (0, 0), (0, 0), (0, 0), (0, 0), (0, 0), (0, 1), (8, 0), (0, 0)] r_p 9) (bx_val [(0, 0), (0, 0), (0, 0), (0, 0), (0, 0), (0, 0), (0, 0), (0, 0), (0, 1), (8, 0), (0, 0)] r_p 10)
    rw [bx_val_x (n := 8) (e := (0, 1)) h0_ rfl, bx_val_x (n := 9) (e := (8, 0)) h0_ rfl, bx_val_x (n := 10) (e := (0, 0)) h0_ rfl]
    exact g.2.2.1
  · show rxmRPK_8 S0 ws S_p (bx_val [(0, 0), (0, 0), (0, 0), (0, 0), (0, 0), (0, 0), (0, 0), (0, 0), (0, 1), (8, 0), (0, 0)] r_p 8) (bx_val [(0, 0), (0, 0), (0, 0), (0, 0), (0, 0), (0, 0), (0, 0), (0, 0), (0, 1), (8, 0), (0, 0)] r_p 9) (bx_val [(0, 0), (0, 0), (0, 0), (0, 0), (0, 0), (0, 0), (0, 0), (0, 0), (0, 1), (8, 0), (0, 0)] r_p 10) < rxmRPK_4 S0 ws S_p (r 8)
    rw [bx_val_x (n := 8) (e := (0, 1)) h0_ rfl, bx_val_x (n := 9) (e := (8, 0)) h0_ rfl, bx_val_x (n := 10) (e := (0, 0)) h0_ rfl, ← hr_ 8 (by decide)]
    exact g.2.2.2
theorem rxcRPK_4_4 {S0 : Nat → Int → Int} {ws : List Int} {S : Nat → Int → Int} {its x9 : Int} (hP : rxPRPK S0 ws) (hin : bx_same rxL (bx_mdl rxCRPK.2.2.1) S0 S) (I0 : bx_Inv rxL S) (hinv : rxIRPK_4 S0 ws S its) (l8 : (-1) ≤ its) (u8 : its ≤ (-1)) (l9 : 0 ≤ x9) (u9 : x9 ≤ 3) (f0 : x9 ≠ 2) (e0 : S 480 11 = x9) : (True) ∧ (True) ∧ rxIRPK_8 S0 ws S 0 0 0 ∧ rxmRPK_8 S0 ws S 0 0 0 < rxmRPK_4 S0 ws S its := by
  obtain ⟨hI, hx⟩ := hinv
  obtain ⟨a_, b_, c_, d_⟩ := rxcRPW_4_4 hP hin I0 hI l8 u8 l9 u9 f0 e0
  exact ⟨a_, b_, ⟨c_, (by
    intro c hD his
    have e := hI.1.1
    subst e
    obtain ⟨g91, hits⟩ := hI.2 c hD
    by_cases hz : its = -1
    · exfalso
      omega
    · have q9 := hI.1.2.2 hz
      have nd : ¬ rzDg (rzCut (S 485)) (S 480 8) (S 480 9) = true := fun g => by
        have := (rzDq_dg hD).mpr g
        omega
      have hi : 0 ≤ rzIxn (rzCut (S 485)) (S 480 8) (S 480 9) (rzWr S) 0 := by
        by_cases z : 0 ≤ rzIxn (rzCut (S 485)) (S 480 8) (S 480 9) (rzWr S) 0
        · exact z
        · rw [if_neg z] at hits
          omega
      rw [if_pos hi] at hits
      exact Or.inr ⟨nd, hi, by omega, rfl⟩)⟩, d_⟩
theorem rxgRPK_4_4 {X : (Nat → Int → Int) → Prop} {S0 : Nat → Int → Int} {ws : List Int} (hP : rxPRPK S0 ws) : bx_obC rxL X S0 rxCRPK.2.2.1 (rxIRPK S0 ws) (rxmRPK S0 ws) 4 rxzRPK_4 rxoRPK_4_4 := by
  intro S S_p r r_p hinv hX hin hsm_ hseg
  obtain ⟨I0, I1, h0_, hr_, b_, f_, d_⟩ := bx_cl (evs := [(0, (0, 480), (0, 11), .inr (0, (9, 0)))]) (fvs := [(3, (9, 0), (0, 2), (0, 0))]) hseg (by decide +kernel) (by decide +kernel)
  have hinv : rxIRPK_4 S0 ws S (r 8) := hinv
  rw [← hr_ 8 (by decide)] at hinv
  obtain ⟨⟨l8, u8⟩, ⟨l9, u9⟩, -⟩ := b_
  obtain ⟨f0, -⟩ := f_
  obtain ⟨e0, w_⟩ := d_
  subst w_
  have g := rxcRPK_4_4 hP hin I0 hinv l8 u8 l9 u9 f0 e0
  refine ⟨bx_narP_ok (l := []) g.1, bx_nfP_ok h0_ (fvs := []) (by decide +kernel) g.2.1, ?_, ?_⟩
  · show rxIRPK_8 S0 ws S_p (bx_val [(0, 0), (0, 0), (0, 0), (0, 0), (0, 0), (0, 0), (0, 0), (0, 0), (0, 0), (0, 0), (0, 0)] r_p 8) (bx_val [(0, 0), (0, 0), (0, 0), (0, 0), (0, 0), (0, 0), (0, 0), (0, 0), (0, 0), (0, 0), (0, 0)] r_p 9) (bx_val [(0, 0), (0, 0), (0, 0), (0, 0), (0, 0), (0, 0), (0, 0), (0, 0), (0, 0), (0, 0), (0, 0)] r_p 10)
    rw [bx_val_x (n := 8) (e := (0, 0)) h0_ rfl, bx_val_x (n := 9) (e := (0, 0)) h0_ rfl, bx_val_x (n := 10) (e := (0, 0)) h0_ rfl]
    exact g.2.2.1
  · show rxmRPK_8 S0 ws S_p (bx_val [(0, 0), (0, 0), (0, 0), (0, 0), (0, 0), (0, 0), (0, 0), (0, 0), (0, 0), (0, 0), (0, 0)] r_p 8) (bx_val [(0, 0), (0, 0), (0, 0), (0, 0), (0, 0), (0, 0), (0, 0), (0, 0), (0, 0), (0, 0), (0, 0)] r_p 9) (bx_val [(0, 0), (0, 0), (0, 0), (0, 0), (0, 0), (0, 0), (0, 0), (0, 0), (0, 0), (0, 0), (0, 0)] r_p 10) < rxmRPK_4 S0 ws S_p (r 8)
    rw [bx_val_x (n := 8) (e := (0, 0)) h0_ rfl, bx_val_x (n := 9) (e := (0, 0)) h0_ rfl, bx_val_x (n := 10) (e := (0, 0)) h0_ rfl, ← hr_ 8 (by decide)]
    exact g.2.2.2
theorem rxcRPK_4_5 {S0 : Nat → Int → Int} {ws : List Int} {S : Nat → Int → Int} {its x9 : Int} (hP : rxPRPK S0 ws) (hin : bx_same rxL (bx_mdl rxCRPK.2.2.1) S0 S) (I0 : bx_Inv rxL S) (hinv : rxIRPK_4 S0 ws S its) (l8 : 0 ≤ its) (u8 : its ≤ 8) (l9 : 0 ≤ x9) (u9 : x9 ≤ 3) (f0 : its ≠ (-1)) (f1 : its ≠ (-1)) (f2 : x9 ≠ 2) (e0 : S 480 11 = x9) : (True) ∧ (True) ∧ rxIRPK_8 S0 ws S 1 its 0 ∧ rxmRPK_8 S0 ws S 1 its 0 < rxmRPK_4 S0 ws S its := by
  obtain ⟨hI, hx⟩ := hinv
  obtain ⟨a_, b_, c_, d_⟩ := rxcRPW_4_5 hP hin I0 hI l8 u8 l9 u9 f0 f1 f2 e0
  exact ⟨a_, b_, ⟨c_, (by
    intro c hD his
    have e := hI.1.1
    subst e
    obtain ⟨g91, hits⟩ := hI.2 c hD
    by_cases hz : its = -1
    · exfalso
      omega
    · have q9 := hI.1.2.2 hz
      have nd : ¬ rzDg (rzCut (S 485)) (S 480 8) (S 480 9) = true := fun g => by
        have := (rzDq_dg hD).mpr g
        omega
      have hi : 0 ≤ rzIxn (rzCut (S 485)) (S 480 8) (S 480 9) (rzWr S) 0 := by
        by_cases z : 0 ≤ rzIxn (rzCut (S 485)) (S 480 8) (S 480 9) (rzWr S) 0
        · exact z
        · rw [if_neg z] at hits
          omega
      rw [if_pos hi] at hits
      exact Or.inr ⟨nd, hi, by omega, rfl⟩)⟩, d_⟩
theorem rxgRPK_4_5 {X : (Nat → Int → Int) → Prop} {S0 : Nat → Int → Int} {ws : List Int} (hP : rxPRPK S0 ws) : bx_obC rxL X S0 rxCRPK.2.2.1 (rxIRPK S0 ws) (rxmRPK S0 ws) 4 rxzRPK_4 rxoRPK_4_5 := by
  intro S S_p r r_p hinv hX hin hsm_ hseg
  obtain ⟨I0, I1, h0_, hr_, b_, f_, d_⟩ := bx_cl (evs := [(0, (0, 480), (0, 11), .inr (0, (9, 0)))]) (fvs := [(3, (8, 0), (0, (-1)), (0, 0)), (3, (8, 0), (0, (-1)), (0, 0)), (3, (9, 0), (0, 2), (0, 0))]) hseg (by decide +kernel) (by decide +kernel)
  have hinv : rxIRPK_4 S0 ws S (r 8) := hinv
  rw [← hr_ 8 (by decide)] at hinv
  obtain ⟨⟨l8, u8⟩, ⟨l9, u9⟩, -⟩ := b_
  obtain ⟨f0, f1, f2, -⟩ := f_
  obtain ⟨e0, w_⟩ := d_
  subst w_
  have g := rxcRPK_4_5 hP hin I0 hinv l8 u8 l9 u9 f0 f1 f2 e0
  refine ⟨bx_narP_ok (l := []) g.1, bx_nfP_ok h0_ (fvs := []) (by decide +kernel) g.2.1, ?_, ?_⟩
  · show rxIRPK_8 S0 ws S_p (bx_val [(0, 0), (0, 0), (0, 0), (0, 0), (0, 0), (0, 0), (0, 0), (0, 0), (0, 1), (8, 0), (0, 0)] r_p 8) (bx_val [(0, 0), (0, 0), (0, 0), (0, 0), (0, 0), (0, 0), (0, 0), (0, 0), (0, 1), (8, 0), (0, 0)] r_p 9) (bx_val [(0, 0), (0, 0), (0, 0), (0, 0), (0, 0), (0, 0), (0, 0), (0, 0), (0, 1), (8, 0), (0, 0)] r_p 10)
    rw [bx_val_x (n := 8) (e := (0, 1)) h0_ rfl, bx_val_x (n := 9) (e := (8, 0)) h0_ rfl, bx_val_x (n := 10) (e := (0, 0)) h0_ rfl]
    exact g.2.2.1
  · show rxmRPK_8 S0 ws S_p (bx_val [(0, 0), (0, 0), (0, 0), (0, 0), (0, 0), (0, 0), (0, 0), (0, 0), (0, 1), (8, 0), (0, 0)] r_p 8) (bx_val [(0, 0), (0, 0), (0, 0), (0, 0), (0, 0), (0, 0), (0, 0), (0, 0), (0, 1), (8, 0), (0, 0)] r_p 9) (bx_val [(0, 0), (0, 0), (0, 0), (0, 0), (0, 0), (0, 0), (0, 0), (0, 0), (0, 1), (8, 0), (0, 0)] r_p 10) < rxmRPK_4 S0 ws S_p (r 8)
    rw [bx_val_x (n := 8) (e := (0, 1)) h0_ rfl, bx_val_x (n := 9) (e := (8, 0)) h0_ rfl, bx_val_x (n := 10) (e := (0, 0)) h0_ rfl, ← hr_ 8 (by decide)]
    exact g.2.2.2
theorem rxcRPK_6_0 {S0 : Nat → Int → Int} {ws : List Int} {S : Nat → Int → Int} {its x9 x10 : Int} (hP : rxPRPK S0 ws) (hin : bx_same rxL (bx_mdl rxCRPK.2.2.1) S0 S) (I0 : bx_Inv rxL S) (hinv : rxIRPK_6 S0 ws S its) (l8 : (-1) ≤ its) (u8 : its ≤ (-1)) (l9 : 2 ≤ x9) (u9 : x9 ≤ 2) (l10 : (-9223372036854775808) ≤ x10) (u10 : x10 ≤ 1000) (e1 : S 480 11 = x9) (e0 : S 480 12 = x10) : ((0 ≤ x10 ∧ x10 ≤ 1000) ∧ True) ∧ (True) ∧ rxIRPK_7 S0 ws S 1 0 x10 ∧ rxmRPK_7 S0 ws S 1 0 x10 < rxmRPK_6 S0 ws S its := by
  obtain ⟨hI, hx⟩ := hinv
  obtain ⟨a_, b_, c_, d_⟩ := rxcRPW_6_0 hP hin I0 hI l8 u8 l9 u9 l10 u10 e1 e0
  exact ⟨a_, b_, ⟨c_, (by
    intro c hD
    have e := hI.1.1
    subst e
    obtain ⟨g91, hits⟩ := hI.2 c hD
    have q := rzDq_nm hD (by omega)
    have q2 := q.2.1 (by omega)
    have dg := (rzDq_dg hD).mp (by omega)
    exact ⟨by first | rfl | (exfalso; have q9 := hI.1.2.2 (by omega); omega), by omega, dg⟩)⟩, d_⟩
theorem rxgRPK_6_0 {X : (Nat → Int → Int) → Prop} {S0 : Nat → Int → Int} {ws : List Int} (hP : rxPRPK S0 ws) : bx_obC rxL X S0 rxCRPK.2.2.1 (rxIRPK S0 ws) (rxmRPK S0 ws) 6 rxzRPK_6 rxoRPK_6_0 := by
  intro S S_p r r_p hinv hX hin hsm_ hseg
  obtain ⟨I0, I1, h0_, hr_, b_, f_, d_⟩ := bx_cl (evs := [(0, (0, 480), (0, 12), .inr (1, (10, 0))), (0, (0, 480), (0, 11), .inr (0, (9, 0)))]) (fvs := []) hseg (by decide +kernel) (by decide +kernel)
  have hinv : rxIRPK_6 S0 ws S (r 8) := hinv
  rw [← hr_ 8 (by decide)] at hinv
  obtain ⟨⟨l8, u8⟩, ⟨l9, u9⟩, ⟨l10, u10⟩, -⟩ := b_
  obtain ⟨e0, ⟨e1, w_⟩⟩ := d_
  subst w_
  have g := rxcRPK_6_0 hP hin I0 hinv l8 u8 l9 u9 l10 u10 e1 e0
  refine ⟨bx_narP_ok (l := [(10, 0, 1000)]) g.1, bx_nfP_ok h0_ (fvs := []) (by decide +kernel) g.2.1, ?_, ?_⟩
  · show rxIRPK_7 S0 ws S_p (bx_val [(0, 0), (0, 0), (0, 0), (0, 0), (0, 0), (0, 0), (0, 0), (0, 0), (0, 1), (0, 0), (10, 0)] r_p 8) (bx_val [(0, 0), (0, 0), (0, 0), (0, 0), (0, 0), (0, 0), (0, 0), (0, 0), (0, 1), (0, 0), (10, 0)] r_p 9) (bx_val [(0, 0), (0, 0), (0, 0), (0, 0), (0, 0), (0, 0), (0, 0), (0, 0), (0, 1), (0, 0), (10, 0)] r_p 10)
    rw [bx_val_x (n := 8) (e := (0, 1)) h0_ rfl, bx_val_x (n := 9) (e := (0, 0)) h0_ rfl, bx_val_x (n := 10) (e := (10, 0)) h0_ rfl]
    exact g.2.2.1
  · show rxmRPK_7 S0 ws S_p (bx_val [(0, 0), (0, 0), (0, 0), (0, 0), (0, 0), (0, 0), (0, 0), (0, 0), (0, 1), (0, 0), (10, 0)] r_p 8) (bx_val [(0, 0), (0, 0), (0, 0), (0, 0), (0, 0), (0, 0), (0, 0), (0, 0), (0, 1), (0, 0), (10, 0)] r_p 9) (bx_val [(0, 0), (0, 0), (0, 0), (0, 0), (0, 0), (0, 0), (0, 0), (0, 0), (0, 1), (0, 0), (10, 0)] r_p 10) < rxmRPK_6 S0 ws S_p (r 8)
    rw [bx_val_x (n := 8) (e := (0, 1)) h0_ rfl, bx_val_x (n := 9) (e := (0, 0)) h0_ rfl, bx_val_x (n := 10) (e := (10, 0)) h0_ rfl, ← hr_ 8 (by decide)]
    exact g.2.2.2
theorem rxcRPK_6_1 {S0 : Nat → Int → Int} {ws : List Int} {S : Nat → Int → Int} {its x9 x10 : Int} (hP : rxPRPK S0 ws) (hin : bx_same rxL (bx_mdl rxCRPK.2.2.1) S0 S) (I0 : bx_Inv rxL S) (hinv : rxIRPK_6 S0 ws S its) (l8 : 0 ≤ its) (u8 : its ≤ 8) (l9 : 2 ≤ x9) (u9 : x9 ≤ 2) (l10 : (-9223372036854775808) ≤ x10) (u10 : x10 ≤ 1000) (f0 : its ≠ (-1)) (f1 : its ≠ (-1)) (e1 : S 480 11 = x9) (e0 : S 480 12 = x10) : ((0 ≤ x10 ∧ x10 ≤ 1000) ∧ True) ∧ (True) ∧ rxIRPK_7 S0 ws S 1 its x10 ∧ rxmRPK_7 S0 ws S 1 its x10 < rxmRPK_6 S0 ws S its := by
  obtain ⟨hI, hx⟩ := hinv
  obtain ⟨a_, b_, c_, d_⟩ := rxcRPW_6_1 hP hin I0 hI l8 u8 l9 u9 l10 u10 f0 f1 e1 e0
  exact ⟨a_, b_, ⟨c_, (by
    intro c hD
    have e := hI.1.1
    subst e
    obtain ⟨g91, hits⟩ := hI.2 c hD
    have q := rzDq_nm hD (by omega)
    have q2 := q.2.1 (by omega)
    have dg := (rzDq_dg hD).mp (by omega)
    exact ⟨by first | rfl | (exfalso; have q9 := hI.1.2.2 (by omega); omega), by omega, dg⟩)⟩, d_⟩
theorem rxgRPK_6_1 {X : (Nat → Int → Int) → Prop} {S0 : Nat → Int → Int} {ws : List Int} (hP : rxPRPK S0 ws) : bx_obC rxL X S0 rxCRPK.2.2.1 (rxIRPK S0 ws) (rxmRPK S0 ws) 6 rxzRPK_6 rxoRPK_6_1 := by
  intro S S_p r r_p hinv hX hin hsm_ hseg
  obtain ⟨I0, I1, h0_, hr_, b_, f_, d_⟩ := bx_cl (evs := [(0, (0, 480), (0, 12), .inr (1, (10, 0))), (0, (0, 480), (0, 11), .inr (0, (9, 0)))]) (fvs := [(3, (8, 0), (0, (-1)), (0, 0)), (3, (8, 0), (0, (-1)), (0, 0))]) hseg (by decide +kernel) (by decide +kernel)
  have hinv : rxIRPK_6 S0 ws S (r 8) := hinv
  rw [← hr_ 8 (by decide)] at hinv
  obtain ⟨⟨l8, u8⟩, ⟨l9, u9⟩, ⟨l10, u10⟩, -⟩ := b_
  obtain ⟨f0, f1, -⟩ := f_
  obtain ⟨e0, ⟨e1, w_⟩⟩ := d_
  subst w_
  have g := rxcRPK_6_1 hP hin I0 hinv l8 u8 l9 u9 l10 u10 f0 f1 e1 e0
  refine ⟨bx_narP_ok (l := [(10, 0, 1000)]) g.1, bx_nfP_ok h0_ (fvs := []) (by decide +kernel) g.2.1, ?_, ?_⟩
  · show rxIRPK_7 S0 ws S_p (bx_val [(0, 0), (0, 0), (0, 0), (0, 0), (0, 0), (0, 0), (0, 0), (0, 0), (0, 1), (8, 0), (10, 0)] r_p 8) (bx_val [(0, 0), (0, 0), (0, 0), (0, 0), (0, 0), (0, 0), (0, 0), (0, 0), (0, 1), (8, 0), (10, 0)] r_p 9) (bx_val [(0, 0), (0, 0), (0, 0), (0, 0), (0, 0), (0, 0), (0, 0), (0, 0), (0, 1), (8, 0), (10, 0)] r_p 10)
    rw [bx_val_x (n := 8) (e := (0, 1)) h0_ rfl, bx_val_x (n := 9) (e := (8, 0)) h0_ rfl, bx_val_x (n := 10) (e := (10, 0)) h0_ rfl]
    exact g.2.2.1
  · show rxmRPK_7 S0 ws S_p (bx_val [(0, 0), (0, 0), (0, 0), (0, 0), (0, 0), (0, 0), (0, 0), (0, 0), (0, 1), (8, 0), (10, 0)] r_p 8) (bx_val [(0, 0), (0, 0), (0, 0), (0, 0), (0, 0), (0, 0), (0, 0), (0, 0), (0, 1), (8, 0), (10, 0)] r_p 9) (bx_val [(0, 0), (0, 0), (0, 0), (0, 0), (0, 0), (0, 0), (0, 0), (0, 0), (0, 1), (8, 0), (10, 0)] r_p 10) < rxmRPK_6 S0 ws S_p (r 8)
    rw [bx_val_x (n := 8) (e := (0, 1)) h0_ rfl, bx_val_x (n := 9) (e := (8, 0)) h0_ rfl, bx_val_x (n := 10) (e := (10, 0)) h0_ rfl, ← hr_ 8 (by decide)]
    exact g.2.2.2
theorem rxcRPK_6_2 {S0 : Nat → Int → Int} {ws : List Int} {S : Nat → Int → Int} {its x9 x10 : Int} (hP : rxPRPK S0 ws) (hin : bx_same rxL (bx_mdl rxCRPK.2.2.1) S0 S) (I0 : bx_Inv rxL S) (hinv : rxIRPK_6 S0 ws S its) (l8 : (-1) ≤ its) (u8 : its ≤ (-1)) (l9 : 2 ≤ x9) (u9 : x9 ≤ 2) (l10 : 1001 ≤ x10) (u10 : x10 ≤ 9223372036854775807) (e1 : S 480 11 = x9) (e0 : S 480 12 = x10) : (True) ∧ (True) ∧ rxIRPK_8 S0 ws S 0 0 0 ∧ rxmRPK_8 S0 ws S 0 0 0 < rxmRPK_6 S0 ws S its := by
  obtain ⟨hI, hx⟩ := hinv
  obtain ⟨a_, b_, c_, d_⟩ := rxcRPW_6_2 hP hin I0 hI l8 u8 l9 u9 l10 u10 e1 e0
  exact ⟨a_, b_, ⟨c_, (by
    intro c hD his
    have e := hI.1.1
    subst e
    obtain ⟨g91, hits⟩ := hI.2 c hD
    by_cases hz : its = -1
    · exfalso
      omega
    · have q9 := hI.1.2.2 hz
      have nd : ¬ rzDg (rzCut (S 485)) (S 480 8) (S 480 9) = true := fun g => by
        have := (rzDq_dg hD).mpr g
        omega
      have hi : 0 ≤ rzIxn (rzCut (S 485)) (S 480 8) (S 480 9) (rzWr S) 0 := by
        by_cases z : 0 ≤ rzIxn (rzCut (S 485)) (S 480 8) (S 480 9) (rzWr S) 0
        · exact z
        · rw [if_neg z] at hits
          omega
      rw [if_pos hi] at hits
      exact Or.inr ⟨nd, hi, by omega, rfl⟩)⟩, d_⟩
theorem rxgRPK_6_2 {X : (Nat → Int → Int) → Prop} {S0 : Nat → Int → Int} {ws : List Int} (hP : rxPRPK S0 ws) : bx_obC rxL X S0 rxCRPK.2.2.1 (rxIRPK S0 ws) (rxmRPK S0 ws) 6 rxzRPK_6 rxoRPK_6_2 := by
  intro S S_p r r_p hinv hX hin hsm_ hseg
  obtain ⟨I0, I1, h0_, hr_, b_, f_, d_⟩ := bx_cl (evs := [(0, (0, 480), (0, 12), .inr (1, (10, 0))), (0, (0, 480), (0, 11), .inr (0, (9, 0)))]) (fvs := []) hseg (by decide +kernel) (by decide +kernel)
  have hinv : rxIRPK_6 S0 ws S (r 8) := hinv
  rw [← hr_ 8 (by decide)] at hinv
  obtain ⟨⟨l8, u8⟩, ⟨l9, u9⟩, ⟨l10, u10⟩, -⟩ := b_
  obtain ⟨e0, ⟨e1, w_⟩⟩ := d_
  subst w_
  have g := rxcRPK_6_2 hP hin I0 hinv l8 u8 l9 u9 l10 u10 e1 e0
  refine ⟨bx_narP_ok (l := []) g.1, bx_nfP_ok h0_ (fvs := []) (by decide +kernel) g.2.1, ?_, ?_⟩
  · show rxIRPK_8 S0 ws S_p (bx_val [(0, 0), (0, 0), (0, 0), (0, 0), (0, 0), (0, 0), (0, 0), (0, 0), (0, 0), (0, 0), (0, 0)] r_p 8) (bx_val [(0, 0), (0, 0), (0, 0), (0, 0), (0, 0), (0, 0), (0, 0), (0, 0), (0, 0), (0, 0), (0, 0)] r_p 9) (bx_val [(0, 0), (0, 0), (0, 0), (0, 0), (0, 0), (0, 0), (0, 0), (0, 0), (0, 0), (0, 0), (0, 0)] r_p 10)
    rw [bx_val_x (n := 8) (e := (0, 0)) h0_ rfl, bx_val_x (n := 9) (e := (0, 0)) h0_ rfl, bx_val_x (n := 10) (e := (0, 0)) h0_ rfl]
    exact g.2.2.1
  · show rxmRPK_8 S0 ws S_p (bx_val [(0, 0), (0, 0), (0, 0), (0, 0), (0, 0), (0, 0), (0, 0), (0, 0), (0, 0), (0, 0), (0, 0)] r_p 8) (bx_val [(0, 0), (0, 0), (0, 0), (0, 0), (0, 0), (0, 0), (0, 0), (0, 0), (0, 0), (0, 0), (0, 0)] r_p 9) (bx_val [(0, 0), (0, 0), (0, 0), (0, 0), (0, 0), (0, 0), (0, 0), (0, 0), (0, 0), (0, 0), (0, 0)] r_p 10) < rxmRPK_6 S0 ws S_p (r 8)
    rw [bx_val_x (n := 8) (e := (0, 0)) h0_ rfl, bx_val_x (n := 9) (e := (0, 0)) h0_ rfl, bx_val_x (n := 10) (e := (0, 0)) h0_ rfl, ← hr_ 8 (by decide)]
    exact g.2.2.2
theorem rxcRPK_6_3 {S0 : Nat → Int → Int} {ws : List Int} {S : Nat → Int → Int} {its x9 x10 : Int} (hP : rxPRPK S0 ws) (hin : bx_same rxL (bx_mdl rxCRPK.2.2.1) S0 S) (I0 : bx_Inv rxL S) (hinv : rxIRPK_6 S0 ws S its) (l8 : 0 ≤ its) (u8 : its ≤ 8) (l9 : 2 ≤ x9) (u9 : x9 ≤ 2) (l10 : 1001 ≤ x10) (u10 : x10 ≤ 9223372036854775807) (f0 : its ≠ (-1)) (f1 : its ≠ (-1)) (e1 : S 480 11 = x9) (e0 : S 480 12 = x10) : (True) ∧ (True) ∧ rxIRPK_8 S0 ws S 1 its 0 ∧ rxmRPK_8 S0 ws S 1 its 0 < rxmRPK_6 S0 ws S its := by
  obtain ⟨hI, hx⟩ := hinv
  obtain ⟨a_, b_, c_, d_⟩ := rxcRPW_6_3 hP hin I0 hI l8 u8 l9 u9 l10 u10 f0 f1 e1 e0
  exact ⟨a_, b_, ⟨c_, (by
    intro c hD his
    have e := hI.1.1
    subst e
    obtain ⟨g91, hits⟩ := hI.2 c hD
    by_cases hz : its = -1
    · exfalso
      omega
    · have q9 := hI.1.2.2 hz
      have nd : ¬ rzDg (rzCut (S 485)) (S 480 8) (S 480 9) = true := fun g => by
        have := (rzDq_dg hD).mpr g
        omega
      have hi : 0 ≤ rzIxn (rzCut (S 485)) (S 480 8) (S 480 9) (rzWr S) 0 := by
        by_cases z : 0 ≤ rzIxn (rzCut (S 485)) (S 480 8) (S 480 9) (rzWr S) 0
        · exact z
        · rw [if_neg z] at hits
          omega
      rw [if_pos hi] at hits
      exact Or.inr ⟨nd, hi, by omega, rfl⟩)⟩, d_⟩
theorem rxgRPK_6_3 {X : (Nat → Int → Int) → Prop} {S0 : Nat → Int → Int} {ws : List Int} (hP : rxPRPK S0 ws) : bx_obC rxL X S0 rxCRPK.2.2.1 (rxIRPK S0 ws) (rxmRPK S0 ws) 6 rxzRPK_6 rxoRPK_6_3 := by
  intro S S_p r r_p hinv hX hin hsm_ hseg
  obtain ⟨I0, I1, h0_, hr_, b_, f_, d_⟩ := bx_cl (evs := [(0, (0, 480), (0, 12), .inr (1, (10, 0))), (0, (0, 480), (0, 11), .inr (0, (9, 0)))]) (fvs := [(3, (8, 0), (0, (-1)), (0, 0)), (3, (8, 0), (0, (-1)), (0, 0))]) hseg (by decide +kernel) (by decide +kernel)
  have hinv : rxIRPK_6 S0 ws S (r 8) := hinv
  rw [← hr_ 8 (by decide)] at hinv
  obtain ⟨⟨l8, u8⟩, ⟨l9, u9⟩, ⟨l10, u10⟩, -⟩ := b_
  obtain ⟨f0, f1, -⟩ := f_
  obtain ⟨e0, ⟨e1, w_⟩⟩ := d_
  subst w_
  have g := rxcRPK_6_3 hP hin I0 hinv l8 u8 l9 u9 l10 u10 f0 f1 e1 e0
  refine ⟨bx_narP_ok (l := []) g.1, bx_nfP_ok h0_ (fvs := []) (by decide +kernel) g.2.1, ?_, ?_⟩
  · show rxIRPK_8 S0 ws S_p (bx_val [(0, 0), (0, 0), (0, 0), (0, 0), (0, 0), (0, 0), (0, 0), (0, 0), (0, 1), (8, 0), (0, 0)] r_p 8) (bx_val [(0, 0), (0, 0), (0, 0), (0, 0), (0, 0), (0, 0), (0, 0), (0, 0), (0, 1), (8, 0), (0, 0)] r_p 9) (bx_val [(0, 0), (0, 0), (0, 0), (0, 0), (0, 0), (0, 0), (0, 0), (0, 0), (0, 1), (8, 0), (0, 0)] r_p 10)
    rw [bx_val_x (n := 8) (e := (0, 1)) h0_ rfl, bx_val_x (n := 9) (e := (8, 0)) h0_ rfl, bx_val_x (n := 10) (e := (0, 0)) h0_ rfl]
    exact g.2.2.1
  · show rxmRPK_8 S0 ws S_p (bx_val [(0, 0), (0, 0), (0, 0), (0, 0), (0, 0), (0, 0), (0, 0), (0, 0), (0, 1), (8, 0), (0, 0)] r_p 8) (bx_val [(0, 0), (0, 0), (0, 0), (0, 0), (0, 0), (0, 0), (0, 0), (0, 0), (0, 1), (8, 0), (0, 0)] r_p 9) (bx_val [(0, 0), (0, 0), (0, 0), (0, 0), (0, 0), (0, 0), (0, 0), (0, 0), (0, 1), (8, 0), (0, 0)] r_p 10) < rxmRPK_6 S0 ws S_p (r 8)
    rw [bx_val_x (n := 8) (e := (0, 1)) h0_ rfl, bx_val_x (n := 9) (e := (8, 0)) h0_ rfl, bx_val_x (n := 10) (e := (0, 0)) h0_ rfl, ← hr_ 8 (by decide)]
    exact g.2.2.2
theorem rxcRPK_6_4 {S0 : Nat → Int → Int} {ws : List Int} {S : Nat → Int → Int} {its x9 : Int} (hP : rxPRPK S0 ws) (hin : bx_same rxL (bx_mdl rxCRPK.2.2.1) S0 S) (I0 : bx_Inv rxL S) (hinv : rxIRPK_6 S0 ws S its) (l8 : (-1) ≤ its) (u8 : its ≤ (-1)) (l9 : 0 ≤ x9) (u9 : x9 ≤ 3) (f0 : x9 ≠ 2) (e0 : S 480 11 = x9) : (True) ∧ (True) ∧ rxIRPK_8 S0 ws S 0 0 0 ∧ rxmRPK_8 S0 ws S 0 0 0 < rxmRPK_6 S0 ws S its := by
  obtain ⟨hI, hx⟩ := hinv
  obtain ⟨a_, b_, c_, d_⟩ := rxcRPW_6_4 hP hin I0 hI l8 u8 l9 u9 f0 e0
  exact ⟨a_, b_, ⟨c_, (by
    intro c hD his
    have e := hI.1.1
    subst e
    obtain ⟨g91, hits⟩ := hI.2 c hD
    by_cases hz : its = -1
    · exfalso
      omega
    · have q9 := hI.1.2.2 hz
      have nd : ¬ rzDg (rzCut (S 485)) (S 480 8) (S 480 9) = true := fun g => by
        have := (rzDq_dg hD).mpr g
        omega
      have hi : 0 ≤ rzIxn (rzCut (S 485)) (S 480 8) (S 480 9) (rzWr S) 0 := by
        by_cases z : 0 ≤ rzIxn (rzCut (S 485)) (S 480 8) (S 480 9) (rzWr S) 0
        · exact z
        · rw [if_neg z] at hits
          omega
      rw [if_pos hi] at hits
      exact Or.inr ⟨nd, hi, by omega, rfl⟩)⟩, d_⟩
theorem rxgRPK_6_4 {X : (Nat → Int → Int) → Prop} {S0 : Nat → Int → Int} {ws : List Int} (hP : rxPRPK S0 ws) : bx_obC rxL X S0 rxCRPK.2.2.1 (rxIRPK S0 ws) (rxmRPK S0 ws) 6 rxzRPK_6 rxoRPK_6_4 := by
  intro S S_p r r_p hinv hX hin hsm_ hseg
  obtain ⟨I0, I1, h0_, hr_, b_, f_, d_⟩ := bx_cl (evs := [(0, (0, 480), (0, 11), .inr (0, (9, 0)))]) (fvs := [(3, (9, 0), (0, 2), (0, 0))]) hseg (by decide +kernel) (by decide +kernel)
  have hinv : rxIRPK_6 S0 ws S (r 8) := hinv
  rw [← hr_ 8 (by decide)] at hinv
  obtain ⟨⟨l8, u8⟩, ⟨l9, u9⟩, -⟩ := b_
  obtain ⟨f0, -⟩ := f_
  obtain ⟨e0, w_⟩ := d_
  subst w_
  have g := rxcRPK_6_4 hP hin I0 hinv l8 u8 l9 u9 f0 e0
  refine ⟨bx_narP_ok (l := []) g.1, bx_nfP_ok h0_ (fvs := []) (by decide +kernel) g.2.1, ?_, ?_⟩
  · show rxIRPK_8 S0 ws S_p (bx_val [(0, 0), (0, 0), (0, 0), (0, 0), (0, 0), (0, 0), (0, 0), (0, 0), (0, 0), (0, 0), (0, 0)] r_p 8) (bx_val [(0, 0), (0, 0), (0, 0), (0, 0), (0, 0), (0, 0), (0, 0), (0, 0), (0, 0), (0, 0), (0, 0)] r_p 9) (bx_val [(0, 0), (0, 0), (0, 0), (0, 0), (0, 0), (0, 0), (0, 0), (0, 0), (0, 0), (0, 0), (0, 0)] r_p 10)
    rw [bx_val_x (n := 8) (e := (0, 0)) h0_ rfl, bx_val_x (n := 9) (e := (0, 0)) h0_ rfl, bx_val_x (n := 10) (e := (0, 0)) h0_ rfl]
    exact g.2.2.1
  · show rxmRPK_8 S0 ws S_p (bx_val [(0, 0), (0, 0), (0, 0), (0, 0), (0, 0), (0, 0), (0, 0), (0, 0), (0, 0), (0, 0), (0, 0)] r_p 8) (bx_val [(0, 0), (0, 0), (0, 0), (0, 0), (0, 0), (0, 0), (0, 0), (0, 0), (0, 0), (0, 0), (0, 0)] r_p 9) (bx_val [(0, 0), (0, 0), (0, 0), (0, 0), (0, 0), (0, 0), (0, 0), (0, 0), (0, 0), (0, 0), (0, 0)] r_p 10) < rxmRPK_6 S0 ws S_p (r 8)
    rw [bx_val_x (n := 8) (e := (0, 0)) h0_ rfl, bx_val_x (n := 9) (e := (0, 0)) h0_ rfl, bx_val_x (n := 10) (e := (0, 0)) h0_ rfl, ← hr_ 8 (by decide)]
    exact g.2.2.2
theorem rxcRPK_6_5 {S0 : Nat → Int → Int} {ws : List Int} {S : Nat → Int → Int} {its x9 : Int} (hP : rxPRPK S0 ws) (hin : bx_same rxL (bx_mdl rxCRPK.2.2.1) S0 S) (I0 : bx_Inv rxL S) (hinv : rxIRPK_6 S0 ws S its) (l8 : 0 ≤ its) (u8 : its ≤ 8) (l9 : 0 ≤ x9) (u9 : x9 ≤ 3) (f0 : its ≠ (-1)) (f1 : its ≠ (-1)) (f2 : x9 ≠ 2) (e0 : S 480 11 = x9) : (True) ∧ (True) ∧ rxIRPK_8 S0 ws S 1 its 0 ∧ rxmRPK_8 S0 ws S 1 its 0 < rxmRPK_6 S0 ws S its := by
  obtain ⟨hI, hx⟩ := hinv
  obtain ⟨a_, b_, c_, d_⟩ := rxcRPW_6_5 hP hin I0 hI l8 u8 l9 u9 f0 f1 f2 e0
  exact ⟨a_, b_, ⟨c_, (by
    intro c hD his
    have e := hI.1.1
    subst e
    obtain ⟨g91, hits⟩ := hI.2 c hD
    by_cases hz : its = -1
    · exfalso
      omega
    · have q9 := hI.1.2.2 hz
      have nd : ¬ rzDg (rzCut (S 485)) (S 480 8) (S 480 9) = true := fun g => by
        have := (rzDq_dg hD).mpr g
        omega
      have hi : 0 ≤ rzIxn (rzCut (S 485)) (S 480 8) (S 480 9) (rzWr S) 0 := by
        by_cases z : 0 ≤ rzIxn (rzCut (S 485)) (S 480 8) (S 480 9) (rzWr S) 0
        · exact z
        · rw [if_neg z] at hits
          omega
      rw [if_pos hi] at hits
      exact Or.inr ⟨nd, hi, by omega, rfl⟩)⟩, d_⟩
theorem rxgRPK_6_5 {X : (Nat → Int → Int) → Prop} {S0 : Nat → Int → Int} {ws : List Int} (hP : rxPRPK S0 ws) : bx_obC rxL X S0 rxCRPK.2.2.1 (rxIRPK S0 ws) (rxmRPK S0 ws) 6 rxzRPK_6 rxoRPK_6_5 := by
  intro S S_p r r_p hinv hX hin hsm_ hseg
  obtain ⟨I0, I1, h0_, hr_, b_, f_, d_⟩ := bx_cl (evs := [(0, (0, 480), (0, 11), .inr (0, (9, 0)))]) (fvs := [(3, (8, 0), (0, (-1)), (0, 0)), (3, (8, 0), (0, (-1)), (0, 0)), (3, (9, 0), (0, 2), (0, 0))]) hseg (by decide +kernel) (by decide +kernel)
  have hinv : rxIRPK_6 S0 ws S (r 8) := hinv
  rw [← hr_ 8 (by decide)] at hinv
  obtain ⟨⟨l8, u8⟩, ⟨l9, u9⟩, -⟩ := b_
  obtain ⟨f0, f1, f2, -⟩ := f_
  obtain ⟨e0, w_⟩ := d_
  subst w_
  have g := rxcRPK_6_5 hP hin I0 hinv l8 u8 l9 u9 f0 f1 f2 e0
  refine ⟨bx_narP_ok (l := []) g.1, bx_nfP_ok h0_ (fvs := []) (by decide +kernel) g.2.1, ?_, ?_⟩
  · show rxIRPK_8 S0 ws S_p (bx_val [(0, 0), (0, 0), (0, 0), (0, 0), (0, 0), (0, 0), (0, 0), (0, 0), (0, 1), (8, 0), (0, 0)] r_p 8) (bx_val [(0, 0), (0, 0), (0, 0), (0, 0), (0, 0), (0, 0), (0, 0), (0, 0), (0, 1), (8, 0), (0, 0)] r_p 9) (bx_val [(0, 0), (0, 0), (0, 0), (0, 0), (0, 0), (0, 0), (0, 0), (0, 0), (0, 1), (8, 0), (0, 0)] r_p 10)
    rw [bx_val_x (n := 8) (e := (0, 1)) h0_ rfl, bx_val_x (n := 9) (e := (8, 0)) h0_ rfl, bx_val_x (n := 10) (e := (0, 0)) h0_ rfl]
    exact g.2.2.1
  · show rxmRPK_8 S0 ws S_p (bx_val [(0, 0), (0, 0), (0, 0), (0, 0), (0, 0), (0, 0), (0, 0), (0, 0), (0, 1), (8, 0), (0, 0)] r_p 8) (bx_val [(0, 0), (0, 0), (0, 0), (0, 0), (0, 0), (0, 0), (0, 0), (0, 0), (0, 1), (8, 0), (0, 0)] r_p 9) (bx_val [(0, 0), (0, 0), (0, 0), (0, 0), (0, 0), (0, 0), (0, 0), (0, 0), (0, 1), (8, 0), (0, 0)] r_p 10) < rxmRPK_6 S0 ws S_p (r 8)
    rw [bx_val_x (n := 8) (e := (0, 1)) h0_ rfl, bx_val_x (n := 9) (e := (8, 0)) h0_ rfl, bx_val_x (n := 10) (e := (0, 0)) h0_ rfl, ← hr_ 8 (by decide)]
    exact g.2.2.2
theorem rxcRPK_7_0 {S0 : Nat → Int → Int} {ws : List Int} {S : Nat → Int → Int} {is op w_ : Int} (hP : rxPRPK S0 ws) (hin : bx_same rxL (bx_mdl rxCRPK.2.2.1) S0 S) (I0 : bx_Inv rxL S) (hinv : rxIRPK_7 S0 ws S is op w_) (l8 : 0 ≤ is) (u8 : is ≤ 1) (l9 : 0 ≤ op) (u9 : op ≤ 8) (l10 : 0 ≤ w_) (u10 : w_ ≤ 1000) : (True) ∧ (True) ∧ rxIRPK_8 S0 ws S is op w_ ∧ rxmRPK_8 S0 ws S is op w_ < rxmRPK_7 S0 ws S is op w_ := by
  obtain ⟨hI, hx⟩ := hinv
  obtain ⟨a_, b_, c_, d_⟩ := rxcRPW_7_0 hP hin I0 hI l8 u8 l9 u9 l10 u10
  exact ⟨a_, b_, ⟨c_, (by
    intro c hD his
    obtain ⟨h1, h2, h3⟩ := hx c hD
    exact Or.inl ⟨h3, h1, h2⟩)⟩, d_⟩
theorem rxgRPK_7_0 {X : (Nat → Int → Int) → Prop} {S0 : Nat → Int → Int} {ws : List Int} (hP : rxPRPK S0 ws) : bx_obC rxL X S0 rxCRPK.2.2.1 (rxIRPK S0 ws) (rxmRPK S0 ws) 7 rxzRPK_7 rxoRPK_7_0 := by
  intro S S_p r r_p hinv hX hin hsm_ hseg
  obtain ⟨I0, I1, h0_, hr_, b_, f_, d_⟩ := bx_cl (evs := []) (fvs := []) hseg (by decide +kernel) (by decide +kernel)
  have hinv : rxIRPK_7 S0 ws S (r 8) (r 9) (r 10) := hinv
  rw [← hr_ 8 (by decide), ← hr_ 9 (by decide), ← hr_ 10 (by decide)] at hinv
  obtain ⟨⟨l8, u8⟩, ⟨l9, u9⟩, ⟨l10, u10⟩, -⟩ := b_
  have w_ := d_
  subst w_
  have g := rxcRPK_7_0 hP hin I0 hinv l8 u8 l9 u9 l10 u10
  refine ⟨bx_narP_ok (l := []) g.1, bx_nfP_ok h0_ (fvs := []) (by decide +kernel) g.2.1, ?_, ?_⟩
  · show rxIRPK_8 S0 ws S_p (bx_val [(0, 0), (0, 0), (0, 0), (0, 0), (0, 0), (0, 0), (0, 0), (0, 0), (8, 0), (9, 0), (10, 0)] r_p 8) (bx_val [(0, 0), (0, 0), (0, 0), (0, 0), (0, 0), (0, 0), (0, 0), (0, 0), (8, 0), (9, 0), (10, 0)] r_p 9) (bx_val [(0, 0), (0, 0), (0, 0), (0, 0), (0, 0), (0, 0), (0, 0), (0, 0), (8, 0), (9, 0), (10, 0)] r_p 10)
    rw [bx_val_x (n := 8) (e := (8, 0)) h0_ rfl, bx_val_x (n := 9) (e := (9, 0)) h0_ rfl, bx_val_x (n := 10) (e := (10, 0)) h0_ rfl]
    exact g.2.2.1
  · show rxmRPK_8 S0 ws S_p (bx_val [(0, 0), (0, 0), (0, 0), (0, 0), (0, 0), (0, 0), (0, 0), (0, 0), (8, 0), (9, 0), (10, 0)] r_p 8) (bx_val [(0, 0), (0, 0), (0, 0), (0, 0), (0, 0), (0, 0), (0, 0), (0, 0), (8, 0), (9, 0), (10, 0)] r_p 9) (bx_val [(0, 0), (0, 0), (0, 0), (0, 0), (0, 0), (0, 0), (0, 0), (0, 0), (8, 0), (9, 0), (10, 0)] r_p 10) < rxmRPK_7 S0 ws S_p (r 8) (r 9) (r 10)
    rw [bx_val_x (n := 8) (e := (8, 0)) h0_ rfl, bx_val_x (n := 9) (e := (9, 0)) h0_ rfl, bx_val_x (n := 10) (e := (10, 0)) h0_ rfl, ← hr_ 8 (by decide), ← hr_ 9 (by decide), ← hr_ 10 (by decide)]
    exact g.2.2.2
theorem rxdRPK_9_0 {S0 : Nat → Int → Int} {ws : List Int} {S : Nat → Int → Int} {is op arg : Int} (hP : rxPRPK S0 ws) (hin : bx_same rxL (bx_mdl rxCRPK.2.2.1) S0 S) (hin2 : bx_same rxL (bx_mdl rxCRPK.2.2.1) S S) (I0 : bx_Inv rxL S) (I1 : bx_Inv rxL S) (hinv : rxIRPK_9 S0 ws S is op arg) (l8 : 0 ≤ is) (u8 : is ≤ 1) (l9 : 0 ≤ op) (u9 : op ≤ 8) (l10 : 0 ≤ arg) (u10 : arg ≤ 1000) : (True) ∧ rxPSRPK S0 ws S (some 3) := by
  obtain ⟨hI, hx⟩ := hinv
  obtain ⟨a_, c_⟩ := rxdRPW_9_0 hP hin hin2 I0 I1 hI l8 u8 l9 u9 l10 u10
  exact ⟨a_, c_, hx⟩
theorem rxfRPK_9_0 {X : (Nat → Int → Int) → Prop} {S0 : Nat → Int → Int} {ws : List Int} (hP : rxPRPK S0 ws) : bx_obE rxL X S0 rxCRPK.2.2.1 (rxIRPK S0 ws) (rxPSRPK S0 ws) 9 rxzRPK_9 rxeRPK_9_0 := by
  intro S S_p r r_p hinv hX hin hsm_ hseg
  obtain ⟨I0, I1, h0_, hr_, b_, f_, d_⟩ := bx_cl (evs := []) (fvs := []) hseg (by decide +kernel) (by decide +kernel)
  have hinv : rxIRPK_9 S0 ws S (r 8) (r 9) (r 10) := hinv
  rw [← hr_ 8 (by decide), ← hr_ 9 (by decide), ← hr_ 10 (by decide)] at hinv
  obtain ⟨⟨l8, u8⟩, ⟨l9, u9⟩, ⟨l10, u10⟩, -⟩ := b_
  have w_ := d_
  subst w_
  have g := rxdRPK_9_0 hP hin hsm_ I0 I1 hinv l8 u8 l9 u9 l10 u10
  refine ⟨bx_narP_ok (l := []) g.1, ?_⟩
  show rxPSRPK S0 ws S_p (some (bx_num r_p (.inr (0, (0, 3)))))
  rw [bx_xv_ok h0_]
  exact g.2
theorem rxgCRPK {X : (Nat → Int → Int) → Prop} {S0 : Nat → Int → Int} {ws : List Int} (hP : rxPRPK S0 ws) : bx_allI (fun i q => rxURPK q = true ∨ bx_allP (fun o => bx_obC rxL X S0 rxCRPK.2.2.1 (rxIRPK S0 ws) (rxmRPK S0 ws) i q.1 o) q.2.1) 0 rxYRPK := ⟨Or.inr ⟨rxgRPK_0_0 hP, rxgRPK_0_1 hP, rxgRPK_0_2 hP, rxgRPK_0_3 hP, rxgRPK_0_4 hP, trivial⟩, Or.inl rfl, Or.inr trivial, Or.inl rfl, Or.inr ⟨rxgRPK_4_0 hP, rxgRPK_4_1 hP, rxgRPK_4_2 hP, rxgRPK_4_3 hP, rxgRPK_4_4 hP, rxgRPK_4_5 hP, trivial⟩, Or.inl rfl, Or.inr ⟨rxgRPK_6_0 hP, rxgRPK_6_1 hP, rxgRPK_6_2 hP, rxgRPK_6_3 hP, rxgRPK_6_4 hP, rxgRPK_6_5 hP, trivial⟩, Or.inr ⟨rxgRPK_7_0 hP, trivial⟩, Or.inl rfl, Or.inr trivial, trivial⟩
theorem rxgERPK {X : (Nat → Int → Int) → Prop} {S0 : Nat → Int → Int} {ws : List Int} (hP : rxPRPK S0 ws) : bx_allI (fun i q => rxURPK q = true ∨ bx_allP (fun E => bx_obE rxL X S0 rxCRPK.2.2.1 (rxIRPK S0 ws) (rxPSRPK S0 ws) i q.1 E) q.2.2) 0 rxYRPK := ⟨Or.inr trivial, Or.inl rfl, Or.inr ⟨rxfRPK_2_0 hP, trivial⟩, Or.inl rfl, Or.inr trivial, Or.inl rfl, Or.inr trivial, Or.inr trivial, Or.inl rfl, Or.inr ⟨rxfRPK_9_0 hP, trivial⟩, trivial⟩
theorem rxuRPK {PX : State → Prop} {Dg : va_G} {A : Nat → Prop} {ad xa : Nat → Nat} {l : Launch} {X : (Nat → Int → Int) → Prop} (hPX : rx_PXOK rxNW A PX) (hX : ∀ S S1 : Nat → Int → Int, X S → bx_same rxL (bx_mdl rxCRPK.2.2.1) S S1 → X S1) (hQOBK : bx_ConP rxG rxNW rxAO PX Dg rxL X vwCl A ad l rxM270 rxCOBK rxPOBK rxPSOBK) (hQPPW : bx_ConP rxG rxNW rxAO PX Dg rxL X vwCl A ad l rxM271 rxCPPW rxPPPW rxPSPPW) (hQPAW : bx_ConP rxG rxNW rxAO PX Dg rxL X vwCl A ad l rxM272 rxCPAW rxPPAW rxPSPAW) (hQLFK : bx_ConP rxG rxNW rxAO PX Dg rxL X vwCl A ad l rxM273 rxCLFK rxPLFK rxPSLFK) {S0 : Nat → Int → Int} {ws : List Int} (hP : rxPRPK S0 ws) : ∀ (i : Nat) (q : bx_HE), rxYRPK[i]? = some q → rxURPK q = true → ∀ {p : Program} {e : Env} {R : Room} {s : State} {m : MethodId} {args : Array Value} {below : List Frame} {meth : Method} {c : Code} {Q : State → Prop} {H0 : Heap}, rx_Fr rxG rxNW rxAO PX p s m args meth c rxM274 → (∀ q, H0.size ≤ q → A q) → H0 = s.heap → rxM274.2.2.2.2.2.2.1 ≤ R.cells → rxM274.2.2.2.2.2.2.2 ≤ R.slots → rxCRPK.2.2.2.1 ≤ R.frames → rxCRPK.2.2.2.1 * 40 ≤ R.locals → bx_Step p l e R s m args below meth c Q Dg rxL X vwCl A xa H0 ad rxM274 rxYRPK (rxIRPK S0 ws) (rxmRPK S0 ws) S0 rxCRPK.2.2.1 i q := by
  intro i q hq hus p e R s m args below meth c Q H0 hF hA hH0 hmc hms hd hdl
  match i, hq with
  | 0, hq =>
    cases hq
    exact absurd (show false = true from hus) Bool.false_ne_true
  | 1, hq =>
    cases hq
    exact rx_stepC (ins := .invokevirtual 323) (len := 3) (i_p := 2) (M_p := rxM270) (d := rxCRPK.2.2.2.1) (as := [.inr (3, (0, 480)), .inr (0, (0, 32))]) (t := []) (ct := rxCOBK) hPX hF rfl hA hH0 hmc hms hd hdl (by decide +kernel) rfl rfl (by decide +kernel) (by decide +kernel) hQOBK (by decide +kernel) rfl (Or.inl ⟨rfl, rfl, rfl⟩) (rxsRPK_1 hP)
  | 2, hq =>
    cases hq
    exact absurd (show false = true from hus) Bool.false_ne_true
  | 3, hq =>
    cases hq
    exact rx_stepC (ins := .invokevirtual 329) (len := 3) (i_p := 4) (M_p := rxM271) (d := rxCRPK.2.2.2.1) (as := [.inr (3, (0, 480))]) (t := []) (ct := rxCPPW) hPX hF rfl hA hH0 hmc hms hd hdl (by decide +kernel) rfl rfl (by decide +kernel) (by decide +kernel) hQPPW (by decide +kernel) rfl (Or.inr ⟨_, _, _, 1, rfl, rfl, by omega, rfl, rfl, rfl⟩) (rxsRPK_3 hP)
  | 4, hq =>
    cases hq
    exact absurd (show false = true from hus) Bool.false_ne_true
  | 5, hq =>
    cases hq
    exact rx_stepC (ins := .invokevirtual 333) (len := 3) (i_p := 6) (M_p := rxM272) (d := rxCRPK.2.2.2.1) (as := [.inr (3, (0, 480))]) (t := []) (ct := rxCPAW) hPX hF rfl hA hH0 hmc hms hd hdl (by decide +kernel) rfl rfl (by decide +kernel) (by decide +kernel) hQPAW (by decide +kernel) rfl (Or.inr ⟨_, _, _, 1, rfl, rfl, by omega, rfl, rfl, rfl⟩) (rxsRPK_5 hP)
  | 6, hq =>
    cases hq
    exact absurd (show false = true from hus) Bool.false_ne_true
  | 7, hq =>
    cases hq
    exact absurd (show false = true from hus) Bool.false_ne_true
  | 8, hq =>
    cases hq
    exact rx_stepC (ins := .invokevirtual 338) (len := 3) (i_p := 9) (M_p := rxM273) (d := rxCRPK.2.2.2.1) (as := [.inr (3, (0, 480)), .inr (0, (8, 0)), .inr (0, (9, 0)), .inr (0, (10, 0))]) (t := []) (ct := rxCLFK) hPX hF rfl hA hH0 hmc hms hd hdl (by decide +kernel) rfl rfl (by decide +kernel) (by decide +kernel) hQLFK (by decide +kernel) rfl (Or.inl ⟨rfl, rfl, rfl⟩) (rxsRPK_8 hP)
  | 9, hq =>
    cases hq
    exact absurd (show false = true from hus) Bool.false_ne_true
  | n + 10, hq => cases hq
theorem rxQRPK {PX : State → Prop} {Dg : va_G} {A : Nat → Prop} {ad xa : Nat → Nat} {l : Launch} {X : (Nat → Int → Int) → Prop} (hPX : rx_PXOK rxNW A PX) (hsl : ∀ s : State, PX s → ∀ o idx n : Nat, rxSl o idx = some n → ∃ tx : String, vk_R (rxNm o) idx tx (ad n) s)
    (hX : ∀ S S_p : Nat → Int → Int, X S → bx_same rxL (bx_mdl rxCRPK.2.2.1) S S_p → X S_p)
    (ih : ∀ (j2 : Nat) (ct2 : bx_Ct) (M2 : rx_Mt), ct2 ∈ rxCnE j2 → ct2.2.2.2.1 + 1 ≤ rxCRPK.2.2.2.1 → rxT.2.2.2.2.2 j2 = some M2 → bx_Con rxG rxNW rxAO PX Dg rxL X vwCl A ad l M2 ct2) (hQOBK : bx_ConP rxG rxNW rxAO PX Dg rxL X vwCl A ad l rxM270 rxCOBK rxPOBK rxPSOBK) (hQPPW : bx_ConP rxG rxNW rxAO PX Dg rxL X vwCl A ad l rxM271 rxCPPW rxPPPW rxPSPPW) (hQPAW : bx_ConP rxG rxNW rxAO PX Dg rxL X vwCl A ad l rxM272 rxCPAW rxPPAW rxPSPAW) (hQLFK : bx_ConP rxG rxNW rxAO PX Dg rxL X vwCl A ad l rxM273 rxCLFK rxPLFK rxPSLFK) : bx_ConP rxG rxNW rxAO PX Dg rxL X vwCl A ad l rxM274 rxCRPK rxPRPK rxPSRPK :=
  rxQof (xa := xa) (Cn := rxCnE) (f := 30000) (j := 274) (tab := rxYRPK) (us := rxURPK) hPX hsl hX ih rfl rxYcRPK rxIRPK rxmRPK
    (fun S0 ws r I0 I ht0 ht as he he1 hX0 hI0 hP hs ha => by
      have e := he.symm.trans (show bx_ent0 rxNP rxCRPK.1 bx_I0 [] = some ([(0, 0), (0, 0), (0, 0), (0, 0), (0, 0), (0, 0), (0, 0), (0, 0)], [], [.inr (3, (0, 480))]) from rfl)
      cases e
      subst ha
      have h0 : r 0 = 0 := hs.1
      show rxIRPK_0 S0 _ S0
      refine ⟨⟨⟨rfl, ?_⟩, trivial⟩, trivial⟩
      simp only [List.map_cons, List.map_nil, bx_xv_ok h0]
      rfl)
    (fun S0 ws hP => rxuRPK (xa := xa) hPX hX hQOBK hQPPW hQPAW hQLFK hP) (fun S0 ws hP => rxgCRPK hP) (fun S0 ws hP => rxgERPK hP)
noncomputable def rxCRNK : bx_Ct := ([(3, (1, 480, 0))], some (0, (0, 0, 3)), [(12, 9), (12, 10), (12, 11), (12, 12), (12, 13), (12, 14), (12, 18), (12, 21), (12, 24), (12, 25), (1068, 0), (1069, 0), (1070, 0), (1071, 0)], 5, [])
noncomputable def rxIRNK_0 (S0 : Nat → Int → Int) (ws : List Int) (S : Nat → Int → Int) : Prop := rxIRNW_0 S0 ws S ∧ True
noncomputable def rxmRNK_0 (S0 : Nat → Int → Int) (ws : List Int) (S : Nat → Int → Int) : Nat := rxmRNW_0 S0 ws S
noncomputable def rxzRNK_0 : rx_Z := ([(0, 0), (0, 0), (0, 0), (0, 0), (0, 0), (0, 0), (0, 0), (0, 0)], [], [], 0, 0, 0, [(0, .inr (3, (0, 480)))], [])
noncomputable def rxIRNK_1 (S0 : Nat → Int → Int) (ws : List Int) (S : Nat → Int → Int) : Prop := rxIRNW_1 S0 ws S ∧ True
noncomputable def rxmRNK_1 (S0 : Nat → Int → Int) (ws : List Int) (S : Nat → Int → Int) : Nat := rxmRNW_1 S0 ws S
noncomputable def rxzRNK_1 : rx_Z := ([(0, 0), (0, 0), (0, 0), (0, 0), (0, 0), (0, 0), (0, 0), (0, 0)], [], [], 0, 0, 14, [(0, .inr (3, (0, 480)))], [.inr (0, (0, 0)), .inr (0, (0, 28)), .inr (3, (0, 480))])
noncomputable def rxIRNK_2 (S0 : Nat → Int → Int) (ws : List Int) (S : Nat → Int → Int) : Prop := rxIRNW_2 S0 ws S ∧ (∀ (b : Int) (c : rkC), rkMd S0 b c → rkMd S b (rkPush 28 0 c) ∧ rkFm S0 S b)
noncomputable def rxmRNK_2 (S0 : Nat → Int → Int) (ws : List Int) (S : Nat → Int → Int) : Nat := rxmRNW_2 S0 ws S
noncomputable def rxzRNK_2 : rx_Z := ([(0, 0), (0, 0), (0, 0), (0, 0), (0, 0), (0, 0), (0, 0), (0, 0)], [], [], 0, 0, 17, [(0, .inr (3, (0, 480)))], [])
noncomputable def rxIRNK_3 (S0 : Nat → Int → Int) (ws : List Int) (S : Nat → Int → Int) : Prop := rxIRNW_3 S0 ws S ∧ (∀ (b : Int) (c : rkC), rkMd S0 b c → rkMd S b (rkPush 28 0 c) ∧ rkFm S0 S b)
noncomputable def rxmRNK_3 (S0 : Nat → Int → Int) (ws : List Int) (S : Nat → Int → Int) : Nat := rxmRNW_3 S0 ws S
noncomputable def rxzRNK_3 : rx_Z := ([(0, 0), (0, 0), (0, 0), (0, 0), (0, 0), (0, 0), (0, 0), (0, 0)], [], [], 0, 0, 18, [(0, .inr (3, (0, 480)))], [.inr (3, (0, 480))])
noncomputable def rxIRNK_4 (S0 : Nat → Int → Int) (ws : List Int) (S : Nat → Int → Int) : Prop := rxIRNW_4 S0 ws S ∧ (rzCk S0 → rzDq S0 → ∀ rest : List Int, rkTq S0 S (1 :: rest) false)
noncomputable def rxmRNK_4 (S0 : Nat → Int → Int) (ws : List Int) (S : Nat → Int → Int) : Nat := rxmRNW_4 S0 ws S
noncomputable def rxzRNK_4 : rx_Z := ([(0, 0), (0, 0), (0, 0), (0, 0), (0, 0), (0, 0), (0, 0), (0, 0)], [], [], 0, 0, 21, [(0, .inr (3, (0, 480)))], [])
noncomputable def rxIRNK_5 (S0 : Nat → Int → Int) (ws : List Int) (S : Nat → Int → Int) : Prop := rxIRNW_5 S0 ws S ∧ True
noncomputable def rxmRNK_5 (S0 : Nat → Int → Int) (ws : List Int) (S : Nat → Int → Int) : Nat := rxmRNW_5 S0 ws S
noncomputable def rxzRNK_5 : rx_Z := ([(0, 0), (0, 0), (0, 0), (0, 0), (0, 0), (0, 0), (0, 0), (0, 0)], [], [], 0, 0, 35, [(0, .inr (3, (0, 480)))], [.inr (0, (0, 31)), .inr (3, (0, 480))])
noncomputable def rxIRNK_6 (S0 : Nat → Int → Int) (ws : List Int) (S : Nat → Int → Int) : Prop := rxIRNW_6 S0 ws S ∧ (rzCk S0 → rzDq S0 → ∀ rest : List Int, rkTq S0 S (1 :: rest) false)
noncomputable def rxmRNK_6 (S0 : Nat → Int → Int) (ws : List Int) (S : Nat → Int → Int) : Nat := rxmRNW_6 S0 ws S
noncomputable def rxzRNK_6 : rx_Z := ([(0, 0), (0, 0), (0, 0), (0, 0), (0, 0), (0, 0), (0, 0), (0, 0)], [], [], 0, 0, 38, [(0, .inr (3, (0, 480)))], [])
noncomputable def rxIRNK_7 (S0 : Nat → Int → Int) (ws : List Int) (S : Nat → Int → Int) : Prop := rxIRNW_7 S0 ws S ∧ True
noncomputable def rxmRNK_7 (S0 : Nat → Int → Int) (ws : List Int) (S : Nat → Int → Int) : Nat := rxmRNW_7 S0 ws S
noncomputable def rxzRNK_7 : rx_Z := ([(0, 0), (0, 0), (0, 0), (0, 0), (0, 0), (0, 0), (0, 0), (0, 0)], [], [], 0, 0, 41, [(0, .inr (3, (0, 480)))], [.inr (3, (0, 480))])
noncomputable def rxIRNK_8 (S0 : Nat → Int → Int) (ws : List Int) (S : Nat → Int → Int) (t : Int) : Prop := rxIRNW_8 S0 ws S t ∧ (rzCk S0 → rzDq S0 → ∀ rest : List Int, rkTq S0 S (1 :: rest) false)
noncomputable def rxmRNK_8 (S0 : Nat → Int → Int) (ws : List Int) (S : Nat → Int → Int) (t : Int) : Nat := rxmRNW_8 S0 ws S t
noncomputable def rxzRNK_8 : rx_Z := ([(0, 0), (0, 0), (0, 0), (0, 0), (0, 0), (0, 0), (0, 0), (0, 0), (0, 3)], [], [], 0, 0, 44, [(0, .inr (3, (0, 480)))], [.inr (0, (8, 0))])
noncomputable def rxoRNK_0_0 : bx_HO := (([(0, 0), (0, 0), (0, 0), (0, 0), (0, 0), (0, 0), (0, 0), (0, 0), (0, 2)], [(3, (8, 0), (0, 3)), (3, (8, 0), (0, 1))], [(((0, 0), 1851192626986356799632114105031551009123054124018230966928539648000000), .inr (0, (8, 0))), (((0, 480), 11), .inr (0, (8, 0)))], 0, 0, 41, [(0, .inr (3, (0, 480)))], [.inr (3, (0, 480))]), [], [], [(0, 0), (0, 0), (0, 0), (0, 0), (0, 0), (0, 0), (0, 0), (0, 0)], 7)
noncomputable def rxoRNK_0_1 : bx_HO := (([(0, 0), (0, 0), (0, 0), (0, 0), (0, 0), (0, 0), (0, 0), (0, 0), (3, 3), ((-9223372036854775808), 9223372036854775807)], [(3, (9, 0), (0, 40)), (3, (8, 0), (0, 1))], [(((0, 0), 1851192626986356799832820811818326617396875588472066220482363392000000), .inr (1, (9, 0))), (((0, 480), 12), .inr (1, (9, 0))), (((0, 0), 1851192626986356799632114105031551009123054124018230966928539648000000), .inr (0, (8, 0))), (((0, 480), 11), .inr (0, (8, 0)))], 0, 0, 41, [(0, .inr (3, (0, 480)))], [.inr (3, (0, 480))]), [], [], [(0, 0), (0, 0), (0, 0), (0, 0), (0, 0), (0, 0), (0, 0), (0, 0)], 7)
noncomputable def rxoRNK_0_2 : bx_HO := (([(0, 0), (0, 0), (0, 0), (0, 0), (0, 0), (0, 0), (0, 0), (0, 0), (3, 3), (40, 40)], [(3, (8, 0), (0, 1))], [(((0, 0), 1851192626986356799832820811818326617396875588472066220482363392000000), .inr (1, (9, 0))), (((0, 480), 12), .inr (1, (9, 0))), (((0, 0), 1851192626986356799632114105031551009123054124018230966928539648000000), .inr (0, (8, 0))), (((0, 480), 11), .inr (0, (8, 0)))], 0, 0, 35, [(0, .inr (3, (0, 480)))], [.inr (0, (0, 31)), .inr (3, (0, 480))]), [], [], [(0, 0), (0, 0), (0, 0), (0, 0), (0, 0), (0, 0), (0, 0), (0, 0)], 5)
noncomputable def rxoRNK_0_3 : bx_HO := (([(0, 0), (0, 0), (0, 0), (0, 0), (0, 0), (0, 0), (0, 0), (0, 0), (1, 1), ((-9223372036854775808), 9223372036854775807)], [(3, (9, 0), (0, 14836))], [(((0, 0), 1851192626986356799832820811818326617396875588472066220482363392000000), .inr (1, (9, 0))), (((0, 480), 12), .inr (1, (9, 0))), (((0, 0), 1851192626986356799632114105031551009123054124018230966928539648000000), .inr (0, (8, 0))), (((0, 480), 11), .inr (0, (8, 0)))], 0, 0, 41, [(0, .inr (3, (0, 480)))], [.inr (3, (0, 480))]), [], [], [(0, 0), (0, 0), (0, 0), (0, 0), (0, 0), (0, 0), (0, 0), (0, 0)], 7)
noncomputable def rxoRNK_0_4 : bx_HO := (([(0, 0), (0, 0), (0, 0), (0, 0), (0, 0), (0, 0), (0, 0), (0, 0), (1, 1), (14836, 14836)], [], [(((0, 0), 1851192626986356799832820811818326617396875588472066220482363392000000), .inr (1, (9, 0))), (((0, 480), 12), .inr (1, (9, 0))), (((0, 0), 1851192626986356799632114105031551009123054124018230966928539648000000), .inr (0, (8, 0))), (((0, 480), 11), .inr (0, (8, 0)))], 0, 0, 14, [(0, .inr (3, (0, 480)))], [.inr (0, (0, 0)), .inr (0, (0, 28)), .inr (3, (0, 480))]), [], [], [(0, 0), (0, 0), (0, 0), (0, 0), (0, 0), (0, 0), (0, 0), (0, 0)], 1)
noncomputable def rxoRNK_2_0 : bx_HO := (([(0, 0), (0, 0), (0, 0), (0, 0), (0, 0), (0, 0), (0, 0), (0, 0)], [], [], 0, 0, 18, [(0, .inr (3, (0, 480)))], [.inr (3, (0, 480))]), [], [], [(0, 0), (0, 0), (0, 0), (0, 0), (0, 0), (0, 0), (0, 0), (0, 0)], 3)
noncomputable def rxeRNK_4_0 : rx_End × List (Nat × Int × Int) := (([(0, 0), (0, 0), (0, 0), (0, 0), (0, 0), (0, 0), (0, 0), (0, 0)], [], [], some (.inr (0, (0, 0)))), [])
noncomputable def rxeRNK_6_0 : rx_End × List (Nat × Int × Int) := (([(0, 0), (0, 0), (0, 0), (0, 0), (0, 0), (0, 0), (0, 0), (0, 0)], [], [], some (.inr (0, (0, 0)))), [])
noncomputable def rxeRNK_8_0 : rx_End × List (Nat × Int × Int) := (([(0, 0), (0, 0), (0, 0), (0, 0), (0, 0), (0, 0), (0, 0), (0, 0), (0, 3)], [], [], some (.inr (0, (8, 0)))), [])
noncomputable def rxYRNK : List bx_HE := [(rxzRNK_0, [rxoRNK_0_0, rxoRNK_0_1, rxoRNK_0_2, rxoRNK_0_3, rxoRNK_0_4], []), (rxzRNK_1, [], []), (rxzRNK_2, [rxoRNK_2_0], []), (rxzRNK_3, [], []), (rxzRNK_4, [], [rxeRNK_4_0]), (rxzRNK_5, [], []), (rxzRNK_6, [], [rxeRNK_6_0]), (rxzRNK_7, [], []), (rxzRNK_8, [], [rxeRNK_8_0])]
noncomputable def rxURNK (q : bx_HE) : Bool := Nat.beq (rx_zpc q.1) 14 || Nat.beq (rx_zpc q.1) 18 || Nat.beq (rx_zpc q.1) 35 || Nat.beq (rx_zpc q.1) 41
noncomputable def rxYBRNK : bx_B := (rxV, rxNP, rxDmf, bx_mdH rxCRNK.2.2.1)
set_option maxRecDepth 100000 in
theorem rxYcRNK : bx_chkH rxYBRNK rxM278 rxCRNK rxYRNK (rxURNK, fun cut z => rx_ex2 (rxCT rxYBRNK rxCnE) cut 30000 rxCRNK.2.2.2.1 278 z) = true := by decide +kernel
noncomputable def rxIRNK (S0 : Nat → Int → Int) (ws : List Int) (i : Nat) : bx_SP := fun S r => match i with | 0 => rxIRNK_0 S0 ws S | 1 => rxIRNK_1 S0 ws S | 2 => rxIRNK_2 S0 ws S | 3 => rxIRNK_3 S0 ws S | 4 => rxIRNK_4 S0 ws S | 5 => rxIRNK_5 S0 ws S | 6 => rxIRNK_6 S0 ws S | 7 => rxIRNK_7 S0 ws S | 8 => rxIRNK_8 S0 ws S (r 8) | _ => False
noncomputable def rxmRNK (S0 : Nat → Int → Int) (ws : List Int) (i : Nat) (S : Nat → Int → Int) (r : Nat → Int) : Nat := match i with | 0 => rxmRNK_0 S0 ws S | 1 => rxmRNK_1 S0 ws S | 2 => rxmRNK_2 S0 ws S | 3 => rxmRNK_3 S0 ws S | 4 => rxmRNK_4 S0 ws S | 5 => rxmRNK_5 S0 ws S | 6 => rxmRNK_6 S0 ws S | 7 => rxmRNK_7 S0 ws S | 8 => rxmRNK_8 S0 ws S (r 8) | _ => 0
noncomputable def rxPRNK (S0 : Nat → Int → Int) (ws : List Int) : Prop := rxPRNW S0 ws
noncomputable def rxPSRNK (S0 : Nat → Int → Int) (ws : List Int) (S : Nat → Int → Int) (w : Option Int) : Prop := rxPSRNW S0 ws S w ∧ (rzCk S0 → rzDq S0 → ∀ rest : List Int, rkTq S0 S (1 :: rest) false)
theorem rxkRNK_1 {S0 : Nat → Int → Int} {ws : List Int} {S : Nat → Int → Int} (hP : rxPRNK S0 ws) (hin : bx_same rxL (bx_mdl rxCRNK.2.2.1) S0 S) (I0 : bx_Inv rxL S) (hinv : rxIRNK_1 S0 ws S)  : rxPPU S [480, 28, 0] ∧ ∀ (S_p : Nat → Int → Int), rxPSPU S [480, 28, 0] S_p none → bx_Inv rxL S_p → bx_same rxL (bx_mdl rxCPU.2.2.1) S S_p → rxIRNK_2 S0 ws S_p ∧ rxmRNK_2 S0 ws S_p < rxmRNK_1 S0 ws S := by
  obtain ⟨hI, hx⟩ := hinv
  have g_ := rxkRNW_1 hP hin I0 hI
  exact ⟨g_.1, fun S_p hq I1 hsm => ⟨⟨(g_.2 S_p hq I1 hsm).1, (by
    have e := hI.1.1
    subst e
    obtain ⟨-, o2, a2, hw2, e⟩ := hq
    have ho : (28 : Int) = o2 := Option.some.inj (congrArg (fun l : List Int => l[1]?) hw2)
    subst ho
    subst e
    intro b c hC
    exact rkMd_pu (op := 28) (a := 0) (x := a2) hC (fun g => by rcases g with g | g <;> omega))⟩, (g_.2 S_p hq I1 hsm).2⟩⟩
theorem rxsRNK_1 {X : (Nat → Int → Int) → Prop} {S0 : Nat → Int → Int} {ws : List Int} (hP : rxPRNK S0 ws) : rx_obK X S0 rxCRNK.2.2.1 rxCPU.2.2.1 (rxIRNK S0 ws) (rxmRNK S0 ws) 1 2 rxzRNK_1 rxzRNK_2 [.inr (3, (0, 480)), .inr (0, (0, 28)), .inr (0, (0, 0))] none rxPPU rxPSPU := by
  intro S r hinv hXS I0 hin hs_ hf_
  have b_ := bx_bds_sat hs_
  have f_ := bx_fcl_ok hs_.1 hf_
  have g := rxkRNK_1 hP hin I0 hinv 
  have ea : List.map (bx_num r) [.inr (3, (0, 480)), .inr (0, (0, 28)), .inr (0, (0, 0))] = [480, 28, 0] := by
    simp only [List.map_cons, List.map_nil, bx_xv_ok hs_.1]
    rfl
  rw [ea]
  refine ⟨g.1, fun S_p w r_p hPS hX_p I1 hsm hr hw hs_p => ?_⟩
  have hw : w = none := hPS.1
  subst hw
  have g2 := g.2 S_p hPS I1 hsm
  show rxIRNK_2 S0 ws S_p ∧ rxmRNK_2 S0 ws S_p < _
  exact g2
theorem rxkRNK_3 {S0 : Nat → Int → Int} {ws : List Int} {S : Nat → Int → Int} (hP : rxPRNK S0 ws) (hin : bx_same rxL (bx_mdl rxCRNK.2.2.1) S0 S) (I0 : bx_Inv rxL S) (hinv : rxIRNK_3 S0 ws S)  : rxPNXX S [480] ∧ ∀ (S_p : Nat → Int → Int), rxPSNXX S [480] S_p none → bx_Inv rxL S_p → bx_same rxL (bx_mdl rxCNXX.2.2.1) S S_p → rxIRNK_4 S0 ws S_p ∧ rxmRNK_4 S0 ws S_p < rxmRNK_3 S0 ws S := by
  obtain ⟨hI, hx⟩ := hinv
  have g_ := rxkRNW_3 hP hin I0 hI
  exact ⟨g_.1, fun S_p hq I1 hsm => ⟨⟨(g_.2 S_p hq I1 hsm).1, (by
    intro c hD rest z14 zne b cc hC hW
    have hs := hI.2 hD
    rw [rkSt_not (rzIs_np (by decide) (by decide) (by decide) hs) ⟨rfl, hs⟩]
    obtain ⟨g1, g2⟩ := hx b cc hC
    have q_ := rkMd_of g1 I0 hsm (by decide +kernel)
    exact ⟨q_.1, g2.tr q_.2⟩)⟩, (g_.2 S_p hq I1 hsm).2⟩⟩
theorem rxsRNK_3 {X : (Nat → Int → Int) → Prop} {S0 : Nat → Int → Int} {ws : List Int} (hP : rxPRNK S0 ws) : rx_obK X S0 rxCRNK.2.2.1 rxCNXX.2.2.1 (rxIRNK S0 ws) (rxmRNK S0 ws) 3 4 rxzRNK_3 rxzRNK_4 [.inr (3, (0, 480))] none rxPNXX rxPSNXX := by
  intro S r hinv hXS I0 hin hs_ hf_
  have b_ := bx_bds_sat hs_
  have f_ := bx_fcl_ok hs_.1 hf_
  have g := rxkRNK_3 hP hin I0 hinv 
  have ea : List.map (bx_num r) [.inr (3, (0, 480))] = [480] := by
    simp only [List.map_cons, List.map_nil, bx_xv_ok hs_.1]
    rfl
  rw [ea]
  refine ⟨g.1, fun S_p w r_p hPS hX_p I1 hsm hr hw hs_p => ?_⟩
  have hw : w = none := hPS.1
  subst hw
  have g2 := g.2 S_p hPS I1 hsm
  show rxIRNK_4 S0 ws S_p ∧ rxmRNK_4 S0 ws S_p < _
  exact g2
theorem rxkRNK_5 {S0 : Nat → Int → Int} {ws : List Int} {S : Nat → Int → Int} (hP : rxPRNK S0 ws) (hin : bx_same rxL (bx_mdl rxCRNK.2.2.1) S0 S) (I0 : bx_Inv rxL S) (hinv : rxIRNK_5 S0 ws S)  : rxPOBK S [480, 31] ∧ ∀ (S_p : Nat → Int → Int), rxPSOBK S [480, 31] S_p none → bx_Inv rxL S_p → bx_same rxL (bx_mdl rxCOBK.2.2.1) S S_p → rxIRNK_6 S0 ws S_p ∧ rxmRNK_6 S0 ws S_p < rxmRNK_5 S0 ws S := by
  obtain ⟨hI, hx⟩ := hinv
  have g_ := rxkRNW_5 hP hin I0 hI
  exact ⟨g_.1, fun S_p hq I1 hsm => ⟨⟨(g_.2 S_p hq.2.1 I1 hsm).1, (by
    intro c hD rest z14 zne b cc hC hW
    have e := hI.1.1
    subst e
    obtain ⟨op, hw, h⟩ := hq.2.2 z14
    have ho : (31 : Int) = op := Option.some.inj (congrArg (fun l : List Int => l[1]?) hw)
    subst ho
    obtain ⟨h1, h2⟩ := hI.2 hD
    rw [rkSt_par (rzSg_np (c := 40) (by decide) (by decide) h2) (fun g => by rw [h1] at g; exact absurd g.2 (by decide)) ⟨rfl, h2⟩]
    exact h b cc hC)⟩, (g_.2 S_p hq.2.1 I1 hsm).2⟩⟩
theorem rxsRNK_5 {X : (Nat → Int → Int) → Prop} {S0 : Nat → Int → Int} {ws : List Int} (hP : rxPRNK S0 ws) : rx_obK X S0 rxCRNK.2.2.1 rxCOBK.2.2.1 (rxIRNK S0 ws) (rxmRNK S0 ws) 5 6 rxzRNK_5 rxzRNK_6 [.inr (3, (0, 480)), .inr (0, (0, 31))] none rxPOBK rxPSOBK := by
  intro S r hinv hXS I0 hin hs_ hf_
  have b_ := bx_bds_sat hs_
  have f_ := bx_fcl_ok hs_.1 hf_
  have g := rxkRNK_5 hP hin I0 hinv 
  have ea : List.map (bx_num r) [.inr (3, (0, 480)), .inr (0, (0, 31))] = [480, 31] := by
    simp only [List.map_cons, List.map_nil, bx_xv_ok hs_.1]
    rfl
  rw [ea]
  refine ⟨g.1, fun S_p w r_p hPS hX_p I1 hsm hr hw hs_p => ?_⟩
  have hw : w = none := hPS.1
  subst hw
  have g2 := g.2 S_p hPS I1 hsm
  show rxIRNK_6 S0 ws S_p ∧ rxmRNK_6 S0 ws S_p < _
  exact g2
theorem rxkRNK_7 {S0 : Nat → Int → Int} {ws : List Int} {S : Nat → Int → Int} (hP : rxPRNK S0 ws) (hin : bx_same rxL (bx_mdl rxCRNK.2.2.1) S0 S) (I0 : bx_Inv rxL S) (hinv : rxIRNK_7 S0 ws S)  : rxPRPK S [480] ∧ ∀ (S_p : Nat → Int → Int) (t : Int), 0 ≤ t → t ≤ 3 → rxPSRPK S [480] S_p (some t) → bx_Inv rxL S_p → bx_same rxL (bx_mdl rxCRPK.2.2.1) S S_p → rxIRNK_8 S0 ws S_p t ∧ rxmRNK_8 S0 ws S_p t < rxmRNK_7 S0 ws S := by
  obtain ⟨hI, hx⟩ := hinv
  have g_ := rxkRNW_7 hP hin I0 hI
  exact ⟨g_.1, fun S_p t l_ u_ hq I1 hsm => ⟨⟨(g_.2 S_p t l_ u_ hq.1 I1 hsm).1, (by
    intro c hD rest
    have e := hI.1
    subst e
    obtain ⟨h1, h2⟩ := hI.2 hD
    exact hq.2 c hD 1 rest (fun g => by rw [h1] at g; exact absurd g.2 (by decide)) (fun g => by rw [h2] at g; exact absurd g.2 (by decide)))⟩, (g_.2 S_p t l_ u_ hq.1 I1 hsm).2⟩⟩
theorem rxsRNK_7 {X : (Nat → Int → Int) → Prop} {S0 : Nat → Int → Int} {ws : List Int} (hP : rxPRNK S0 ws) : rx_obK X S0 rxCRNK.2.2.1 rxCRPK.2.2.1 (rxIRNK S0 ws) (rxmRNK S0 ws) 7 8 rxzRNK_7 rxzRNK_8 [.inr (3, (0, 480))] (some 8) rxPRPK rxPSRPK := by
  intro S r hinv hXS I0 hin hs_ hf_
  have b_ := bx_bds_sat hs_
  have f_ := bx_fcl_ok hs_.1 hf_
  have g := rxkRNK_7 hP hin I0 hinv 
  have ea : List.map (bx_num r) [.inr (3, (0, 480))] = [480] := by
    simp only [List.map_cons, List.map_nil, bx_xv_ok hs_.1]
    rfl
  rw [ea]
  refine ⟨g.1, fun S_p w r_p hPS hX_p I1 hsm hr hw hs_p => ?_⟩
  have hw := hw _ rfl
  subst hw
  have b_p := hs_p.2.2 8 _ _ rfl
  have g2 := g.2 S_p (r_p 8) b_p.1 b_p.2 hPS I1 hsm
  show rxIRNK_8 S0 ws S_p (r_p 8) ∧ rxmRNK_8 S0 ws S_p (r_p 8) < _
  exact g2
theorem rxcRNK_0_0 {S0 : Nat → Int → Int} {ws : List Int} {S : Nat → Int → Int} {x8 : Int} (hP : rxPRNK S0 ws) (hin : bx_same rxL (bx_mdl rxCRNK.2.2.1) S0 S) (I0 : bx_Inv rxL S) (hinv : rxIRNK_0 S0 ws S) (l8 : 0 ≤ x8) (u8 : x8 ≤ 2) (f0 : x8 ≠ 3) (f1 : x8 ≠ 1) (e0 : S 480 11 = x8) : (True) ∧ (True) ∧ rxIRNK_7 S0 ws S ∧ rxmRNK_7 S0 ws S < rxmRNK_0 S0 ws S := by
  obtain ⟨hI, hx⟩ := hinv
  obtain ⟨a_, b_, c_, d_⟩ := rxcRNW_0_0 hP hin I0 hI l8 u8 f0 f1 e0
  exact ⟨a_, b_, ⟨c_, trivial⟩, d_⟩
theorem rxgRNK_0_0 {X : (Nat → Int → Int) → Prop} {S0 : Nat → Int → Int} {ws : List Int} (hP : rxPRNK S0 ws) : bx_obC rxL X S0 rxCRNK.2.2.1 (rxIRNK S0 ws) (rxmRNK S0 ws) 0 rxzRNK_0 rxoRNK_0_0 := by
  intro S S_p r r_p hinv hX hin hsm_ hseg
  obtain ⟨I0, I1, h0_, hr_, b_, f_, d_⟩ := bx_cl (evs := [(0, (0, 480), (0, 11), .inr (0, (8, 0)))]) (fvs := [(3, (8, 0), (0, 3), (0, 0)), (3, (8, 0), (0, 1), (0, 0))]) hseg (by decide +kernel) (by decide +kernel)
  have hinv : rxIRNK_0 S0 ws S := hinv
  obtain ⟨⟨l8, u8⟩, -⟩ := b_
  obtain ⟨f0, f1, -⟩ := f_
  obtain ⟨e0, w_⟩ := d_
  subst w_
  have g := rxcRNK_0_0 hP hin I0 hinv l8 u8 f0 f1 e0
  refine ⟨bx_narP_ok (l := []) g.1, bx_nfP_ok h0_ (fvs := []) (by decide +kernel) g.2.1, ?_, ?_⟩
  · show rxIRNK_7 S0 ws S_p
    exact g.2.2.1
  · show rxmRNK_7 S0 ws S_p < rxmRNK_0 S0 ws S_p
    exact g.2.2.2
theorem rxcRNK_0_1 {S0 : Nat → Int → Int} {ws : List Int} {S : Nat → Int → Int} {x8 x9 : Int} (hP : rxPRNK S0 ws) (hin : bx_same rxL (bx_mdl rxCRNK.2.2.1) S0 S) (I0 : bx_Inv rxL S) (hinv : rxIRNK_0 S0 ws S) (l8 : 3 ≤ x8) (u8 : x8 ≤ 3) (l9 : (-9223372036854775808) ≤ x9) (u9 : x9 ≤ 9223372036854775807) (f0 : x9 ≠ 40) (f1 : x8 ≠ 1) (e1 : S 480 11 = x8) (e0 : S 480 12 = x9) : (True) ∧ (True) ∧ rxIRNK_7 S0 ws S ∧ rxmRNK_7 S0 ws S < rxmRNK_0 S0 ws S := by
  obtain ⟨hI, hx⟩ := hinv
  obtain ⟨a_, b_, c_, d_⟩ := rxcRNW_0_1 hP hin I0 hI l8 u8 l9 u9 f0 f1 e1 e0
  exact ⟨a_, b_, ⟨c_, trivial⟩, d_⟩
theorem rxgRNK_0_1 {X : (Nat → Int → Int) → Prop} {S0 : Nat → Int → Int} {ws : List Int} (hP : rxPRNK S0 ws) : bx_obC rxL X S0 rxCRNK.2.2.1 (rxIRNK S0 ws) (rxmRNK S0 ws) 0 rxzRNK_0 rxoRNK_0_1 := by
  intro S S_p r r_p hinv hX hin hsm_ hseg
  obtain ⟨I0, I1, h0_, hr_, b_, f_, d_⟩ := bx_cl (evs := [(0, (0, 480), (0, 12), .inr (1, (9, 0))), (0, (0, 480), (0, 11), .inr (0, (8, 0)))]) (fvs := [(3, (9, 0), (0, 40), (0, 0)), (3, (8, 0), (0, 1), (0, 0))]) hseg (by decide +kernel) (by decide +kernel)
  have hinv : rxIRNK_0 S0 ws S := hinv
  obtain ⟨⟨l8, u8⟩, ⟨l9, u9⟩, -⟩ := b_
  obtain ⟨f0, f1, -⟩ := f_
  obtain ⟨e0, ⟨e1, w_⟩⟩ := d_
  subst w_
  have g := rxcRNK_0_1 hP hin I0 hinv l8 u8 l9 u9 f0 f1 e1 e0
  refine ⟨bx_narP_ok (l := []) g.1, bx_nfP_ok h0_ (fvs := []) (by decide +kernel) g.2.1, ?_, ?_⟩
  · show rxIRNK_7 S0 ws S_p
    exact g.2.2.1
  · show rxmRNK_7 S0 ws S_p < rxmRNK_0 S0 ws S_p
    exact g.2.2.2
theorem rxcRNK_0_2 {S0 : Nat → Int → Int} {ws : List Int} {S : Nat → Int → Int} {x8 x9 : Int} (hP : rxPRNK S0 ws) (hin : bx_same rxL (bx_mdl rxCRNK.2.2.1) S0 S) (I0 : bx_Inv rxL S) (hinv : rxIRNK_0 S0 ws S) (l8 : 3 ≤ x8) (u8 : x8 ≤ 3) (l9 : 40 ≤ x9) (u9 : x9 ≤ 40) (f0 : x8 ≠ 1) (e1 : S 480 11 = x8) (e0 : S 480 12 = x9) : (True) ∧ (True) ∧ rxIRNK_5 S0 ws S ∧ rxmRNK_5 S0 ws S < rxmRNK_0 S0 ws S := by
  obtain ⟨hI, hx⟩ := hinv
  obtain ⟨a_, b_, c_, d_⟩ := rxcRNW_0_2 hP hin I0 hI l8 u8 l9 u9 f0 e1 e0
  exact ⟨a_, b_, ⟨c_, trivial⟩, d_⟩
theorem rxgRNK_0_2 {X : (Nat → Int → Int) → Prop} {S0 : Nat → Int → Int} {ws : List Int} (hP : rxPRNK S0 ws) : bx_obC rxL X S0 rxCRNK.2.2.1 (rxIRNK S0 ws) (rxmRNK S0 ws) 0 rxzRNK_0 rxoRNK_0_2 := by
  intro S S_p r r_p hinv hX hin hsm_ hseg
  obtain ⟨I0, I1, h0_, hr_, b_, f_, d_⟩ := bx_cl (evs := [(0, (0, 480), (0, 12), .inr (1, (9, 0))), (0, (0, 480), (0, 11), .inr (0, (8, 0)))]) (fvs := [(3, (8, 0), (0, 1), (0, 0))]) hseg (by decide +kernel) (by decide +kernel)
  have hinv : rxIRNK_0 S0 ws S := hinv
  obtain ⟨⟨l8, u8⟩, ⟨l9, u9⟩, -⟩ := b_
  obtain ⟨f0, -⟩ := f_
  obtain ⟨e0, ⟨e1, w_⟩⟩ := d_
  subst w_
  have g := rxcRNK_0_2 hP hin I0 hinv l8 u8 l9 u9 f0 e1 e0
  refine ⟨bx_narP_ok (l := []) g.1, bx_nfP_ok h0_ (fvs := []) (by decide +kernel) g.2.1, ?_, ?_⟩
  · show rxIRNK_5 S0 ws S_p
    exact g.2.2.1
  · show rxmRNK_5 S0 ws S_p < rxmRNK_0 S0 ws S_p
    exact g.2.2.2
theorem rxcRNK_0_3 {S0 : Nat → Int → Int} {ws : List Int} {S : Nat → Int → Int} {x8 x9 : Int} (hP : rxPRNK S0 ws) (hin : bx_same rxL (bx_mdl rxCRNK.2.2.1) S0 S) (I0 : bx_Inv rxL S) (hinv : rxIRNK_0 S0 ws S) (l8 : 1 ≤ x8) (u8 : x8 ≤ 1) (l9 : (-9223372036854775808) ≤ x9) (u9 : x9 ≤ 9223372036854775807) (f0 : x9 ≠ 14836) (e1 : S 480 11 = x8) (e0 : S 480 12 = x9) : (True) ∧ (True) ∧ rxIRNK_7 S0 ws S ∧ rxmRNK_7 S0 ws S < rxmRNK_0 S0 ws S := by
  obtain ⟨hI, hx⟩ := hinv
  obtain ⟨a_, b_, c_, d_⟩ := rxcRNW_0_3 hP hin I0 hI l8 u8 l9 u9 f0 e1 e0
  exact ⟨a_, b_, ⟨c_, trivial⟩, d_⟩
theorem rxgRNK_0_3 {X : (Nat → Int → Int) → Prop} {S0 : Nat → Int → Int} {ws : List Int} (hP : rxPRNK S0 ws) : bx_obC rxL X S0 rxCRNK.2.2.1 (rxIRNK S0 ws) (rxmRNK S0 ws) 0 rxzRNK_0 rxoRNK_0_3 := by
  intro S S_p r r_p hinv hX hin hsm_ hseg
  obtain ⟨I0, I1, h0_, hr_, b_, f_, d_⟩ := bx_cl (evs := [(0, (0, 480), (0, 12), .inr (1, (9, 0))), (0, (0, 480), (0, 11), .inr (0, (8, 0)))]) (fvs := [(3, (9, 0), (0, 14836), (0, 0))]) hseg (by decide +kernel) (by decide +kernel)
  have hinv : rxIRNK_0 S0 ws S := hinv
  obtain ⟨⟨l8, u8⟩, ⟨l9, u9⟩, -⟩ := b_
  obtain ⟨f0, -⟩ := f_
  obtain ⟨e0, ⟨e1, w_⟩⟩ := d_
  subst w_
  have g := rxcRNK_0_3 hP hin I0 hinv l8 u8 l9 u9 f0 e1 e0
  refine ⟨bx_narP_ok (l := []) g.1, bx_nfP_ok h0_ (fvs := []) (by decide +kernel) g.2.1, ?_, ?_⟩
  · show rxIRNK_7 S0 ws S_p
    exact g.2.2.1
  · show rxmRNK_7 S0 ws S_p < rxmRNK_0 S0 ws S_p
    exact g.2.2.2
theorem rxcRNK_0_4 {S0 : Nat → Int → Int} {ws : List Int} {S : Nat → Int → Int} {x8 x9 : Int} (hP : rxPRNK S0 ws) (hin : bx_same rxL (bx_mdl rxCRNK.2.2.1) S0 S) (I0 : bx_Inv rxL S) (hinv : rxIRNK_0 S0 ws S) (l8 : 1 ≤ x8) (u8 : x8 ≤ 1) (l9 : 14836 ≤ x9) (u9 : x9 ≤ 14836) (e1 : S 480 11 = x8) (e0 : S 480 12 = x9) : (True) ∧ (True) ∧ rxIRNK_1 S0 ws S ∧ rxmRNK_1 S0 ws S < rxmRNK_0 S0 ws S := by
  obtain ⟨hI, hx⟩ := hinv
  obtain ⟨a_, b_, c_, d_⟩ := rxcRNW_0_4 hP hin I0 hI l8 u8 l9 u9 e1 e0
  exact ⟨a_, b_, ⟨c_, trivial⟩, d_⟩
theorem rxgRNK_0_4 {X : (Nat → Int → Int) → Prop} {S0 : Nat → Int → Int} {ws : List Int} (hP : rxPRNK S0 ws) : bx_obC rxL X S0 rxCRNK.2.2.1 (rxIRNK S0 ws) (rxmRNK S0 ws) 0 rxzRNK_0 rxoRNK_0_4 := by
  intro S S_p r r_p hinv hX hin hsm_ hseg
  obtain ⟨I0, I1, h0_, hr_, b_, f_, d_⟩ := bx_cl (evs := [(0, (0, 480), (0, 12), .inr (1, (9, 0))), (0, (0, 480), (0, 11), .inr (0, (8, 0)))]) (fvs := []) hseg (by decide +kernel) (by decide +kernel)
  have hinv : rxIRNK_0 S0 ws S := hinv
  obtain ⟨⟨l8, u8⟩, ⟨l9, u9⟩, -⟩ := b_
  obtain ⟨e0, ⟨e1, w_⟩⟩ := d_
  subst w_
  have g := rxcRNK_0_4 hP hin I0 hinv l8 u8 l9 u9 e1 e0
  refine ⟨bx_narP_ok (l := []) g.1, bx_nfP_ok h0_ (fvs := []) (by decide +kernel) g.2.1, ?_, ?_⟩
  · show rxIRNK_1 S0 ws S_p
    exact g.2.2.1
  · show rxmRNK_1 S0 ws S_p < rxmRNK_0 S0 ws S_p
    exact g.2.2.2
theorem rxcRNK_2_0 {S0 : Nat → Int → Int} {ws : List Int} {S : Nat → Int → Int} (hP : rxPRNK S0 ws) (hin : bx_same rxL (bx_mdl rxCRNK.2.2.1) S0 S) (I0 : bx_Inv rxL S) (hinv : rxIRNK_2 S0 ws S)  : (True) ∧ (True) ∧ rxIRNK_3 S0 ws S ∧ rxmRNK_3 S0 ws S < rxmRNK_2 S0 ws S := by
  obtain ⟨hI, hx⟩ := hinv
  obtain ⟨a_, b_, c_, d_⟩ := rxcRNW_2_0 hP hin I0 hI
  exact ⟨a_, b_, ⟨c_, hx⟩, d_⟩
theorem rxgRNK_2_0 {X : (Nat → Int → Int) → Prop} {S0 : Nat → Int → Int} {ws : List Int} (hP : rxPRNK S0 ws) : bx_obC rxL X S0 rxCRNK.2.2.1 (rxIRNK S0 ws) (rxmRNK S0 ws) 2 rxzRNK_2 rxoRNK_2_0 := by
  intro S S_p r r_p hinv hX hin hsm_ hseg
  obtain ⟨I0, I1, h0_, hr_, b_, f_, d_⟩ := bx_cl (evs := []) (fvs := []) hseg (by decide +kernel) (by decide +kernel)
  have hinv : rxIRNK_2 S0 ws S := hinv
  have w_ := d_
  subst w_
  have g := rxcRNK_2_0 hP hin I0 hinv 
  refine ⟨bx_narP_ok (l := []) g.1, bx_nfP_ok h0_ (fvs := []) (by decide +kernel) g.2.1, ?_, ?_⟩
  · show rxIRNK_3 S0 ws S_p
    exact g.2.2.1
  · show rxmRNK_3 S0 ws S_p < rxmRNK_2 S0 ws S_p
    exact g.2.2.2
theorem rxdRNK_4_0 {S0 : Nat → Int → Int} {ws : List Int} {S : Nat → Int → Int} (hP : rxPRNK S0 ws) (hin : bx_same rxL (bx_mdl rxCRNK.2.2.1) S0 S) (hin2 : bx_same rxL (bx_mdl rxCRNK.2.2.1) S S) (I0 : bx_Inv rxL S) (I1 : bx_Inv rxL S) (hinv : rxIRNK_4 S0 ws S)  : (True) ∧ rxPSRNK S0 ws S (some 0) := by
  obtain ⟨hI, hx⟩ := hinv
  obtain ⟨a_, c_⟩ := rxdRNW_4_0 hP hin hin2 I0 I1 hI
  exact ⟨a_, c_, hx⟩
theorem rxfRNK_4_0 {X : (Nat → Int → Int) → Prop} {S0 : Nat → Int → Int} {ws : List Int} (hP : rxPRNK S0 ws) : bx_obE rxL X S0 rxCRNK.2.2.1 (rxIRNK S0 ws) (rxPSRNK S0 ws) 4 rxzRNK_4 rxeRNK_4_0 := by
  intro S S_p r r_p hinv hX hin hsm_ hseg
  obtain ⟨I0, I1, h0_, hr_, b_, f_, d_⟩ := bx_cl (evs := []) (fvs := []) hseg (by decide +kernel) (by decide +kernel)
  have hinv : rxIRNK_4 S0 ws S := hinv
  have w_ := d_
  subst w_
  have g := rxdRNK_4_0 hP hin hsm_ I0 I1 hinv 
  refine ⟨bx_narP_ok (l := []) g.1, ?_⟩
  show rxPSRNK S0 ws S_p (some (bx_num r_p (.inr (0, (0, 0)))))
  rw [bx_xv_ok h0_]
  exact g.2
theorem rxdRNK_6_0 {S0 : Nat → Int → Int} {ws : List Int} {S : Nat → Int → Int} (hP : rxPRNK S0 ws) (hin : bx_same rxL (bx_mdl rxCRNK.2.2.1) S0 S) (hin2 : bx_same rxL (bx_mdl rxCRNK.2.2.1) S S) (I0 : bx_Inv rxL S) (I1 : bx_Inv rxL S) (hinv : rxIRNK_6 S0 ws S)  : (True) ∧ rxPSRNK S0 ws S (some 0) := by
  obtain ⟨hI, hx⟩ := hinv
  obtain ⟨a_, c_⟩ := rxdRNW_6_0 hP hin hin2 I0 I1 hI
  exact ⟨a_, c_, hx⟩
theorem rxfRNK_6_0 {X : (Nat → Int → Int) → Prop} {S0 : Nat → Int → Int} {ws : List Int} (hP : rxPRNK S0 ws) : bx_obE rxL X S0 rxCRNK.2.2.1 (rxIRNK S0 ws) (rxPSRNK S0 ws) 6 rxzRNK_6 rxeRNK_6_0 := by
  intro S S_p r r_p hinv hX hin hsm_ hseg
  obtain ⟨I0, I1, h0_, hr_, b_, f_, d_⟩ := bx_cl (evs := []) (fvs := []) hseg (by decide +kernel) (by decide +kernel)
  have hinv : rxIRNK_6 S0 ws S := hinv
  have w_ := d_
  subst w_
  have g := rxdRNK_6_0 hP hin hsm_ I0 I1 hinv 
  refine ⟨bx_narP_ok (l := []) g.1, ?_⟩
  show rxPSRNK S0 ws S_p (some (bx_num r_p (.inr (0, (0, 0)))))
  rw [bx_xv_ok h0_]
  exact g.2
theorem rxdRNK_8_0 {S0 : Nat → Int → Int} {ws : List Int} {S : Nat → Int → Int} {t : Int} (hP : rxPRNK S0 ws) (hin : bx_same rxL (bx_mdl rxCRNK.2.2.1) S0 S) (hin2 : bx_same rxL (bx_mdl rxCRNK.2.2.1) S S) (I0 : bx_Inv rxL S) (I1 : bx_Inv rxL S) (hinv : rxIRNK_8 S0 ws S t) (l8 : 0 ≤ t) (u8 : t ≤ 3) : (True) ∧ rxPSRNK S0 ws S (some t) := by
  obtain ⟨hI, hx⟩ := hinv
  obtain ⟨a_, c_⟩ := rxdRNW_8_0 hP hin hin2 I0 I1 hI l8 u8
  exact ⟨a_, c_, hx⟩
theorem rxfRNK_8_0 {X : (Nat → Int → Int) → Prop} {S0 : Nat → Int → Int} {ws : List Int} (hP : rxPRNK S0 ws) : bx_obE rxL X S0 rxCRNK.2.2.1 (rxIRNK S0 ws) (rxPSRNK S0 ws) 8 rxzRNK_8 rxeRNK_8_0 := by
  intro S S_p r r_p hinv hX hin hsm_ hseg
  obtain ⟨I0, I1, h0_, hr_, b_, f_, d_⟩ := bx_cl (evs := []) (fvs := []) hseg (by decide +kernel) (by decide +kernel)
  have hinv : rxIRNK_8 S0 ws S (r 8) := hinv
  rw [← hr_ 8 (by decide)] at hinv
  obtain ⟨⟨l8, u8⟩, -⟩ := b_
  have w_ := d_
  subst w_
  have g := rxdRNK_8_0 hP hin hsm_ I0 I1 hinv l8 u8
  refine ⟨bx_narP_ok (l := []) g.1, ?_⟩
  show rxPSRNK S0 ws S_p (some (bx_num r_p (.inr (0, (8, 0)))))
  rw [bx_xv_ok h0_]
  exact g.2
theorem rxgCRNK {X : (Nat → Int → Int) → Prop} {S0 : Nat → Int → Int} {ws : List Int} (hP : rxPRNK S0 ws) : bx_allI (fun i q => rxURNK q = true ∨ bx_allP (fun o => bx_obC rxL X S0 rxCRNK.2.2.1 (rxIRNK S0 ws) (rxmRNK S0 ws) i q.1 o) q.2.1) 0 rxYRNK := ⟨Or.inr ⟨rxgRNK_0_0 hP, rxgRNK_0_1 hP, rxgRNK_0_2 hP, rxgRNK_0_3 hP, rxgRNK_0_4 hP, trivial⟩, Or.inl rfl, Or.inr ⟨rxgRNK_2_0 hP, trivial⟩, Or.inl rfl, Or.inr trivial, Or.inl rfl, Or.inr trivial, Or.inl rfl, Or.inr trivial, trivial⟩
theorem rxgERNK {X : (Nat → Int → Int) → Prop} {S0 : Nat → Int → Int} {ws : List Int} (hP : rxPRNK S0 ws) : bx_allI (fun i q => rxURNK q = true ∨ bx_allP (fun E => bx_obE rxL X S0 rxCRNK.2.2.1 (rxIRNK S0 ws) (rxPSRNK S0 ws) i q.1 E) q.2.2) 0 rxYRNK := ⟨Or.inr trivial, Or.inl rfl, Or.inr trivial, Or.inl rfl, Or.inr ⟨rxfRNK_4_0 hP, trivial⟩, Or.inl rfl, Or.inr ⟨rxfRNK_6_0 hP, trivial⟩, Or.inl rfl, Or.inr ⟨rxfRNK_8_0 hP, trivial⟩, trivial⟩
theorem rxuRNK {PX : State → Prop} {Dg : va_G} {A : Nat → Prop} {ad xa : Nat → Nat} {l : Launch} {X : (Nat → Int → Int) → Prop} (hPX : rx_PXOK rxNW A PX) (hX : ∀ S S1 : Nat → Int → Int, X S → bx_same rxL (bx_mdl rxCRNK.2.2.1) S S1 → X S1) (hQPU : bx_ConP rxG rxNW rxAO PX Dg rxL X vwCl A ad l rxM268 rxCPU rxPPU rxPSPU) (hQNXX : bx_ConP rxG rxNW rxAO PX Dg rxL X vwCl A ad l rxM264 rxCNXX rxPNXX rxPSNXX) (hQOBK : bx_ConP rxG rxNW rxAO PX Dg rxL X vwCl A ad l rxM270 rxCOBK rxPOBK rxPSOBK) (hQRPK : bx_ConP rxG rxNW rxAO PX Dg rxL X vwCl A ad l rxM274 rxCRPK rxPRPK rxPSRPK) {S0 : Nat → Int → Int} {ws : List Int} (hP : rxPRNK S0 ws) : ∀ (i : Nat) (q : bx_HE), rxYRNK[i]? = some q → rxURNK q = true → ∀ {p : Program} {e : Env} {R : Room} {s : State} {m : MethodId} {args : Array Value} {below : List Frame} {meth : Method} {c : Code} {Q : State → Prop} {H0 : Heap}, rx_Fr rxG rxNW rxAO PX p s m args meth c rxM278 → (∀ q, H0.size ≤ q → A q) → H0 = s.heap → rxM278.2.2.2.2.2.2.1 ≤ R.cells → rxM278.2.2.2.2.2.2.2 ≤ R.slots → rxCRNK.2.2.2.1 ≤ R.frames → rxCRNK.2.2.2.1 * 40 ≤ R.locals → bx_Step p l e R s m args below meth c Q Dg rxL X vwCl A xa H0 ad rxM278 rxYRNK (rxIRNK S0 ws) (rxmRNK S0 ws) S0 rxCRNK.2.2.1 i q := by
  intro i q hq hus p e R s m args below meth c Q H0 hF hA hH0 hmc hms hd hdl
  match i, hq with
  | 0, hq =>
    cases hq
    exact absurd (show false = true from hus) Bool.false_ne_true
  | 1, hq =>
    cases hq
    exact rx_stepC (ins := .invokevirtual 314) (len := 3) (i_p := 2) (M_p := rxM268) (d := rxCRNK.2.2.2.1) (as := [.inr (3, (0, 480)), .inr (0, (0, 28)), .inr (0, (0, 0))]) (t := []) (ct := rxCPU) hPX hF rfl hA hH0 hmc hms hd hdl (by decide +kernel) rfl rfl (by decide +kernel) (by decide +kernel) hQPU (by decide +kernel) rfl (Or.inl ⟨rfl, rfl, rfl⟩) (rxsRNK_1 hP)
  | 2, hq =>
    cases hq
    exact absurd (show false = true from hus) Bool.false_ne_true
  | 3, hq =>
    cases hq
    exact rx_stepC (ins := .invokevirtual 253) (len := 3) (i_p := 4) (M_p := rxM264) (d := rxCRNK.2.2.2.1) (as := [.inr (3, (0, 480))]) (t := []) (ct := rxCNXX) hPX hF rfl hA hH0 hmc hms hd hdl (by decide +kernel) rfl rfl (by decide +kernel) (by decide +kernel) hQNXX (by decide +kernel) rfl (Or.inl ⟨rfl, rfl, rfl⟩) (rxsRNK_3 hP)
  | 4, hq =>
    cases hq
    exact absurd (show false = true from hus) Bool.false_ne_true
  | 5, hq =>
    cases hq
    exact rx_stepC (ins := .invokevirtual 323) (len := 3) (i_p := 6) (M_p := rxM270) (d := rxCRNK.2.2.2.1) (as := [.inr (3, (0, 480)), .inr (0, (0, 31))]) (t := []) (ct := rxCOBK) hPX hF rfl hA hH0 hmc hms hd hdl (by decide +kernel) rfl rfl (by decide +kernel) (by decide +kernel) hQOBK (by decide +kernel) rfl (Or.inl ⟨rfl, rfl, rfl⟩) (rxsRNK_5 hP)
  | 6, hq =>
    cases hq
    exact absurd (show false = true from hus) Bool.false_ne_true
  | 7, hq =>
    cases hq
    exact rx_stepC (ins := .invokevirtual 344) (len := 3) (i_p := 8) (M_p := rxM274) (d := rxCRNK.2.2.2.1) (as := [.inr (3, (0, 480))]) (t := []) (ct := rxCRPK) hPX hF rfl hA hH0 hmc hms hd hdl (by decide +kernel) rfl rfl (by decide +kernel) (by decide +kernel) hQRPK (by decide +kernel) rfl (Or.inr ⟨_, _, _, 1, rfl, rfl, by omega, rfl, rfl, rfl⟩) (rxsRNK_7 hP)
  | 8, hq =>
    cases hq
    exact absurd (show false = true from hus) Bool.false_ne_true
  | n + 9, hq => cases hq
theorem rxQRNK {PX : State → Prop} {Dg : va_G} {A : Nat → Prop} {ad xa : Nat → Nat} {l : Launch} {X : (Nat → Int → Int) → Prop} (hPX : rx_PXOK rxNW A PX) (hsl : ∀ s : State, PX s → ∀ o idx n : Nat, rxSl o idx = some n → ∃ tx : String, vk_R (rxNm o) idx tx (ad n) s)
    (hX : ∀ S S_p : Nat → Int → Int, X S → bx_same rxL (bx_mdl rxCRNK.2.2.1) S S_p → X S_p)
    (ih : ∀ (j2 : Nat) (ct2 : bx_Ct) (M2 : rx_Mt), ct2 ∈ rxCnE j2 → ct2.2.2.2.1 + 1 ≤ rxCRNK.2.2.2.1 → rxT.2.2.2.2.2 j2 = some M2 → bx_Con rxG rxNW rxAO PX Dg rxL X vwCl A ad l M2 ct2) (hQPU : bx_ConP rxG rxNW rxAO PX Dg rxL X vwCl A ad l rxM268 rxCPU rxPPU rxPSPU) (hQNXX : bx_ConP rxG rxNW rxAO PX Dg rxL X vwCl A ad l rxM264 rxCNXX rxPNXX rxPSNXX) (hQOBK : bx_ConP rxG rxNW rxAO PX Dg rxL X vwCl A ad l rxM270 rxCOBK rxPOBK rxPSOBK) (hQRPK : bx_ConP rxG rxNW rxAO PX Dg rxL X vwCl A ad l rxM274 rxCRPK rxPRPK rxPSRPK) : bx_ConP rxG rxNW rxAO PX Dg rxL X vwCl A ad l rxM278 rxCRNK rxPRNK rxPSRNK :=
  rxQof (xa := xa) (Cn := rxCnE) (f := 30000) (j := 278) (tab := rxYRNK) (us := rxURNK) hPX hsl hX ih rfl rxYcRNK rxIRNK rxmRNK
    (fun S0 ws r I0 I ht0 ht as he he1 hX0 hI0 hP hs ha => by
      have e := he.symm.trans (show bx_ent0 rxNP rxCRNK.1 bx_I0 [] = some ([(0, 0), (0, 0), (0, 0), (0, 0), (0, 0), (0, 0), (0, 0), (0, 0)], [], [.inr (3, (0, 480))]) from rfl)
      cases e
      subst ha
      have h0 : r 0 = 0 := hs.1
      show rxIRNK_0 S0 _ S0
      refine ⟨⟨⟨rfl, ?_⟩, trivial⟩, trivial⟩
      simp only [List.map_cons, List.map_nil, bx_xv_ok h0]
      rfl)
    (fun S0 ws hP => rxuRNK (xa := xa) hPX hX hQPU hQNXX hQOBK hQRPK hP) (fun S0 ws hP => rxgCRNK hP) (fun S0 ws hP => rxgERNK hP)
