noncomputable def rxCBTK : bx_Ct := ([(3, (1, 480, 0))], some (0, (0, 0, 4)), [(12, 9), (12, 10), (12, 11), (12, 12), (12, 13), (12, 14), (12, 18), (12, 21), (12, 24), (12, 25), (1068, 0), (1069, 0), (1070, 0), (1071, 0)], 5, [])
noncomputable def rxIBTK_0 (S0 : Nat → Int → Int) (ws : List Int) (S : Nat → Int → Int) : Prop := rxIBTW_0 S0 ws S ∧ True
noncomputable def rxmBTK_0 (S0 : Nat → Int → Int) (ws : List Int) (S : Nat → Int → Int) : Nat := rxmBTW_0 S0 ws S
noncomputable def rxzBTK_0 : rx_Z := ([(0, 0), (0, 0), (0, 0), (0, 0), (0, 0), (0, 0), (0, 0), (0, 0)], [], [], 0, 0, 0, [(0, .inr (3, (0, 480)))], [])
noncomputable def rxIBTK_1 (S0 : Nat → Int → Int) (ws : List Int) (S : Nat → Int → Int) (an bd : Int) : Prop := rxIBTW_1 S0 ws S an bd ∧ (rzDq S0 → (an = 1 ∧ rzIs (rzCut (S0 485)) (S0 480 8) rzW_and (S0 480 9) = true) ∨ (an = 0 ∧ rzIs (rzCut (S0 485)) (S0 480 8) rzW_or (S0 480 9) = true)) ∧ bd = (if an = 1 then 2 else 1)
noncomputable def rxmBTK_1 (S0 : Nat → Int → Int) (ws : List Int) (S : Nat → Int → Int) (an bd : Int) : Nat := rxmBTW_1 S0 ws S an bd
noncomputable def rxzBTK_1 : rx_Z := ([(0, 0), (0, 0), (0, 0), (0, 0), (0, 0), (0, 0), (0, 0), (0, 0), (0, 1), (1, 2)], [], [], 0, 0, 32, [(0, .inr (3, (0, 480))), (1, .inr (0, (8, 0)))], [.inr (0, (9, 0)), .inr (3, (0, 480))])
noncomputable def rxIBTK_2 (S0 : Nat → Int → Int) (ws : List Int) (S : Nat → Int → Int) (an bd : Int) : Prop := rxIBTW_2 S0 ws S an bd ∧ (rzDq S0 → (an = 1 ∧ rzIs (rzCut (S0 485)) (S0 480 8) rzW_and (S0 480 9) = true) ∨ (an = 0 ∧ rzIs (rzCut (S0 485)) (S0 480 8) rzW_or (S0 480 9) = true)) ∧ (∀ (b : Int) (c : rkC), rkMd S0 b c → rkW c → rkMd S b (rkRed (if an = 1 then 2 else 1) c) ∧ rkFm S0 S b)
noncomputable def rxmBTK_2 (S0 : Nat → Int → Int) (ws : List Int) (S : Nat → Int → Int) (an bd : Int) : Nat := rxmBTW_2 S0 ws S an bd
noncomputable def rxzBTK_2 : rx_Z := ([(0, 0), (0, 0), (0, 0), (0, 0), (0, 0), (0, 0), (0, 0), (0, 0), (0, 1), (1, 2)], [], [], 0, 0, 35, [(0, .inr (3, (0, 480))), (1, .inr (0, (8, 0)))], [])
noncomputable def rxIBTK_3 (S0 : Nat → Int → Int) (ws : List Int) (S : Nat → Int → Int) (an op n : Int) : Prop := rxIBTW_3 S0 ws S an op n ∧ (rzDq S0 → (an = 1 ∧ rzIs (rzCut (S0 485)) (S0 480 8) rzW_and (S0 480 9) = true) ∨ (an = 0 ∧ rzIs (rzCut (S0 485)) (S0 480 8) rzW_or (S0 480 9) = true)) ∧ ((an = 1 ∧ op = 29) ∨ (an = 0 ∧ op = 30)) ∧ n = S 480 18 ∧ (∀ (b : Int) (c : rkC), rkMd S0 b c → rkW c → rkMd S b (rkRed (if op = 29 then 2 else 1) c) ∧ rkFm S0 S b)
noncomputable def rxmBTK_3 (S0 : Nat → Int → Int) (ws : List Int) (S : Nat → Int → Int) (an op n : Int) : Nat := rxmBTW_3 S0 ws S an op n
noncomputable def rxzBTK_3 : rx_Z := ([(0, 0), (0, 0), (0, 0), (0, 0), (0, 0), (0, 0), (0, 0), (0, 0), (0, 1), (29, 30), (0, 400)], [], [], 0, 0, 51, [(0, .inr (3, (0, 480))), (1, .inr (0, (8, 0)))], [.inr (0, (10, 0)), .inr (0, (9, 0)), .inr (3, (0, 480))])
noncomputable def rxIBTK_4 (S0 : Nat → Int → Int) (ws : List Int) (S : Nat → Int → Int) (an op n : Int) : Prop := rxIBTW_4 S0 ws S an op n ∧ (rzDq S0 → (an = 1 ∧ rzIs (rzCut (S0 485)) (S0 480 8) rzW_and (S0 480 9) = true) ∨ (an = 0 ∧ rzIs (rzCut (S0 485)) (S0 480 8) rzW_or (S0 480 9) = true)) ∧ ((an = 1 ∧ op = 29) ∨ (an = 0 ∧ op = 30)) ∧ (∀ (b : Int) (c : rkC), rkMd S0 b c → rkW c → rkMd S b (rkPush op (rkM (rkRed (if op = 29 then 2 else 1) c)) (rkRed (if op = 29 then 2 else 1) c)) ∧ rkFm S0 S b)
noncomputable def rxmBTK_4 (S0 : Nat → Int → Int) (ws : List Int) (S : Nat → Int → Int) (an op n : Int) : Nat := rxmBTW_4 S0 ws S an op n
noncomputable def rxzBTK_4 : rx_Z := ([(0, 0), (0, 0), (0, 0), (0, 0), (0, 0), (0, 0), (0, 0), (0, 0), (0, 1), (29, 30), (0, 400)], [], [], 0, 0, 54, [(0, .inr (3, (0, 480))), (1, .inr (0, (8, 0)))], [])
noncomputable def rxIBTK_5 (S0 : Nat → Int → Int) (ws : List Int) (S : Nat → Int → Int) (an op : Int) : Prop := rxIBTW_5 S0 ws S an op ∧ (rzDq S0 → (an = 1 ∧ rzIs (rzCut (S0 485)) (S0 480 8) rzW_and (S0 480 9) = true) ∨ (an = 0 ∧ rzIs (rzCut (S0 485)) (S0 480 8) rzW_or (S0 480 9) = true)) ∧ ((an = 1 ∧ op = 29) ∨ (an = 0 ∧ op = 30)) ∧ (∀ (b : Int) (c : rkC), rkMd S0 b c → rkW c → rkMd S b (rkPush op (rkM (rkRed (if op = 29 then 2 else 1) c)) (rkRed (if op = 29 then 2 else 1) c)) ∧ rkFm S0 S b)
noncomputable def rxmBTK_5 (S0 : Nat → Int → Int) (ws : List Int) (S : Nat → Int → Int) (an op : Int) : Nat := rxmBTW_5 S0 ws S an op
noncomputable def rxzBTK_5 : rx_Z := ([(0, 0), (0, 0), (0, 0), (0, 0), (0, 0), (0, 0), (0, 0), (0, 0), (0, 1), (29, 30)], [], [], 0, 0, 67, [(0, .inr (3, (0, 480))), (1, .inr (0, (8, 0)))], [.inr (0, (0, 0)), .inr (0, (9, 0)), .inr (3, (0, 480))])
noncomputable def rxIBTK_6 (S0 : Nat → Int → Int) (ws : List Int) (S : Nat → Int → Int) (an op : Int) : Prop := rxIBTW_6 S0 ws S an op ∧ (∃ op : Int, ((an = 1 ∧ op = 29) ∨ (an = 0 ∧ op = 30)) ∧ (∀ (b : Int) (c : rkC), rkMd S0 b c → rkW c → rkMd S b (rkEmit op 0 (rkPush op (rkM (rkRed (if op = 29 then 2 else 1) c)) (rkRed (if op = 29 then 2 else 1) c))) ∧ rkFm S0 S b)) ∧ (rzDq S0 → (an = 1 ∧ rzIs (rzCut (S0 485)) (S0 480 8) rzW_and (S0 480 9) = true) ∨ (an = 0 ∧ rzIs (rzCut (S0 485)) (S0 480 8) rzW_or (S0 480 9) = true))
noncomputable def rxmBTK_6 (S0 : Nat → Int → Int) (ws : List Int) (S : Nat → Int → Int) (an op : Int) : Nat := rxmBTW_6 S0 ws S an op
noncomputable def rxzBTK_6 : rx_Z := ([(0, 0), (0, 0), (0, 0), (0, 0), (0, 0), (0, 0), (0, 0), (0, 0), (0, 1), (29, 30)], [], [], 0, 0, 70, [(0, .inr (3, (0, 480))), (1, .inr (0, (8, 0)))], [])
noncomputable def rxIBTK_7 (S0 : Nat → Int → Int) (ws : List Int) (S : Nat → Int → Int) (an : Int) : Prop := rxIBTW_7 S0 ws S an ∧ (∃ op : Int, ((an = 1 ∧ op = 29) ∨ (an = 0 ∧ op = 30)) ∧ (∀ (b : Int) (c : rkC), rkMd S0 b c → rkW c → rkMd S b (rkEmit op 0 (rkPush op (rkM (rkRed (if op = 29 then 2 else 1) c)) (rkRed (if op = 29 then 2 else 1) c))) ∧ rkFm S0 S b)) ∧ (rzDq S0 → (an = 1 ∧ rzIs (rzCut (S0 485)) (S0 480 8) rzW_and (S0 480 9) = true) ∨ (an = 0 ∧ rzIs (rzCut (S0 485)) (S0 480 8) rzW_or (S0 480 9) = true))
noncomputable def rxmBTK_7 (S0 : Nat → Int → Int) (ws : List Int) (S : Nat → Int → Int) (an : Int) : Nat := rxmBTW_7 S0 ws S an
noncomputable def rxzBTK_7 : rx_Z := ([(0, 0), (0, 0), (0, 0), (0, 0), (0, 0), (0, 0), (0, 0), (0, 0), (0, 1)], [], [], 0, 0, 71, [(0, .inr (3, (0, 480))), (1, .inr (0, (8, 0)))], [.inr (3, (0, 480))])
noncomputable def rxIBTK_8 (S0 : Nat → Int → Int) (ws : List Int) (S : Nat → Int → Int) (an : Int) : Prop := rxIBTW_8 S0 ws S an ∧ (rzCk S0 → rzDq S0 → ∀ (tst s : Int) (rest : List Int), rzSr S0 tst (s :: rest) → (s = 3 ∨ s = 4) → rkTq S0 S (s :: rest) true)
noncomputable def rxmBTK_8 (S0 : Nat → Int → Int) (ws : List Int) (S : Nat → Int → Int) (an : Int) : Nat := rxmBTW_8 S0 ws S an
noncomputable def rxzBTK_8 : rx_Z := ([(0, 0), (0, 0), (0, 0), (0, 0), (0, 0), (0, 0), (0, 0), (0, 0), (0, 1)], [], [], 0, 0, 74, [(0, .inr (3, (0, 480))), (1, .inr (0, (8, 0)))], [])
noncomputable def rxIBTK_9 (S0 : Nat → Int → Int) (ws : List Int) (S : Nat → Int → Int) : Prop := rxIBTW_9 S0 ws S ∧ True
noncomputable def rxmBTK_9 (S0 : Nat → Int → Int) (ws : List Int) (S : Nat → Int → Int) : Nat := rxmBTW_9 S0 ws S
noncomputable def rxzBTK_9 : rx_Z := ([(0, 0), (0, 0), (0, 0), (0, 0), (0, 0), (0, 0), (0, 0), (0, 0)], [], [], 0, 0, 77, [(0, .inr (3, (0, 480)))], [.inr (3, (0, 480))])
noncomputable def rxIBTK_10 (S0 : Nat → Int → Int) (ws : List Int) (S : Nat → Int → Int) (its : Int) : Prop := rxIBTW_10 S0 ws S its ∧ True
noncomputable def rxmBTK_10 (S0 : Nat → Int → Int) (ws : List Int) (S : Nat → Int → Int) (its : Int) : Nat := rxmBTW_10 S0 ws S its
noncomputable def rxzBTK_10 : rx_Z := ([(0, 0), (0, 0), (0, 0), (0, 0), (0, 0), (0, 0), (0, 0), (0, 0), ((-1), 32)], [], [], 0, 0, 80, [(0, .inr (3, (0, 480)))], [.inr (0, (8, 0))])
noncomputable def rxIBTK_11 (S0 : Nat → Int → Int) (ws : List Int) (S : Nat → Int → Int) : Prop := rxIBTW_11 S0 ws S ∧ True
noncomputable def rxmBTK_11 (S0 : Nat → Int → Int) (ws : List Int) (S : Nat → Int → Int) : Nat := rxmBTW_11 S0 ws S
noncomputable def rxzBTK_11 : rx_Z := ([(0, 0), (0, 0), (0, 0), (0, 0), (0, 0), (0, 0), (0, 0), (0, 0)], [], [], 0, 0, 90, [(0, .inr (3, (0, 480)))], [.inr (0, (0, 41)), .inr (3, (0, 480)), .inr (3, (0, 480))])
noncomputable def rxIBTK_12 (S0 : Nat → Int → Int) (ws : List Int) (S : Nat → Int → Int) (is : Int) : Prop := rxIBTW_12 S0 ws S is ∧ True
noncomputable def rxmBTK_12 (S0 : Nat → Int → Int) (ws : List Int) (S : Nat → Int → Int) (is : Int) : Nat := rxmBTW_12 S0 ws S is
noncomputable def rxzBTK_12 : rx_Z := ([(0, 0), (0, 0), (0, 0), (0, 0), (0, 0), (0, 0), (0, 0), (0, 0), (0, 1)], [], [], 0, 0, 93, [(0, .inr (3, (0, 480)))], [.inr (0, (8, 0)), .inr (3, (0, 480))])
noncomputable def rxIBTK_13 (S0 : Nat → Int → Int) (ws : List Int) (S : Nat → Int → Int) (is : Int) : Prop := rxIBTW_13 S0 ws S is ∧ (∀ (b : Int) (c : rkC), rkMd S0 b c → rkMd S b c ∧ rkFm S0 S b)
noncomputable def rxmBTK_13 (S0 : Nat → Int → Int) (ws : List Int) (S : Nat → Int → Int) (is : Int) : Nat := rxmBTW_13 S0 ws S is
noncomputable def rxzBTK_13 : rx_Z := ([(0, 0), (0, 0), (0, 0), (0, 0), (0, 0), (0, 0), (0, 0), (0, 0), (0, 1)], [], [], 0, 0, 96, [(0, .inr (3, (0, 480)))], [])
noncomputable def rxIBTK_14 (S0 : Nat → Int → Int) (ws : List Int) (S : Nat → Int → Int) : Prop := rxIBTW_14 S0 ws S ∧ (∀ (b : Int) (c : rkC), rkMd S0 b c → rkMd S b c ∧ rkFm S0 S b)
noncomputable def rxmBTK_14 (S0 : Nat → Int → Int) (ws : List Int) (S : Nat → Int → Int) : Nat := rxmBTW_14 S0 ws S
noncomputable def rxzBTK_14 : rx_Z := ([(0, 0), (0, 0), (0, 0), (0, 0), (0, 0), (0, 0), (0, 0), (0, 0)], [], [], 0, 0, 105, [(0, .inr (3, (0, 480)))], [.inr (0, (0, 1)), .inr (3, (0, 480))])
noncomputable def rxIBTK_15 (S0 : Nat → Int → Int) (ws : List Int) (S : Nat → Int → Int) : Prop := rxIBTW_15 S0 ws S ∧ (∀ (b : Int) (c : rkC), rkMd S0 b c → rkW c → rkMd S b (rkRed 1 c) ∧ rkFm S0 S b)
noncomputable def rxmBTK_15 (S0 : Nat → Int → Int) (ws : List Int) (S : Nat → Int → Int) : Nat := rxmBTW_15 S0 ws S
noncomputable def rxzBTK_15 : rx_Z := ([(0, 0), (0, 0), (0, 0), (0, 0), (0, 0), (0, 0), (0, 0), (0, 0)], [], [], 0, 0, 108, [(0, .inr (3, (0, 480)))], [])
noncomputable def rxIBTK_16 (S0 : Nat → Int → Int) (ws : List Int) (S : Nat → Int → Int) (pn : Int) : Prop := rxIBTW_16 S0 ws S pn ∧ (∀ (b : Int) (c : rkC), rkMd S0 b c → rkW c → rkMd S b (rkRed 1 c) ∧ rkFm S0 S b)
noncomputable def rxmBTK_16 (S0 : Nat → Int → Int) (ws : List Int) (S : Nat → Int → Int) (pn : Int) : Nat := rxmBTW_16 S0 ws S pn
noncomputable def rxzBTK_16 : rx_Z := ([(0, 0), (0, 0), (0, 0), (0, 0), (0, 0), (0, 0), (0, 0), (0, 0), (1, 400)], [], [], 0, 0, 113, [(0, .inr (3, (0, 480)))], [.inr (0, (8, 0)), .inr (3, (0, 480))])
noncomputable def rxIBTK_17 (S0 : Nat → Int → Int) (ws : List Int) (S : Nat → Int → Int) (q : Int) : Prop := rxIBTW_17 S0 ws S q ∧ (∀ (b : Int) (c : rkC), rkMd S0 b c → rkW c → rkMd S b (rkPop (rkRed 1 c)) ∧ rkFm S0 S b)
noncomputable def rxmBTK_17 (S0 : Nat → Int → Int) (ws : List Int) (S : Nat → Int → Int) (q : Int) : Nat := rxmBTW_17 S0 ws S q
noncomputable def rxzBTK_17 : rx_Z := ([(0, 0), (0, 0), (0, 0), (0, 0), (0, 0), (0, 0), (0, 0), (0, 0), (1, 8)], [], [], 0, 0, 123, [(0, .inr (3, (0, 480)))], [.inr (0, (8, 0)), .inr (3, (0, 480))])
noncomputable def rxoBTK_0_0 : bx_HO := (([(0, 0), (0, 0), (0, 0), (0, 0), (0, 0), (0, 0), (0, 0), (0, 0), (0, 3)], [(3, (8, 0), (0, 1)), (3, (8, 0), (0, 1))], [(((0, 0), 1851192626986356799632114105031551009123054124018230966928539648000000), .inr (0, (8, 0))), (((0, 480), 11), .inr (0, (8, 0)))], 0, 0, 77, [(1, .inr (0, (0, 0))), (0, .inr (3, (0, 480)))], [.inr (3, (0, 480))]), [], [], [(0, 0), (0, 0), (0, 0), (0, 0), (0, 0), (0, 0), (0, 0), (0, 0)], 9)
noncomputable def rxoBTK_0_1 : bx_HO := (([(0, 0), (0, 0), (0, 0), (0, 0), (0, 0), (0, 0), (0, 0), (0, 0), (1, 1), ((-9223372036854775808), 9223372036854775807)], [(3, (9, 0), (0, 498)), (3, (9, 0), (0, 1476))], [(((0, 0), 1851192626986356799832820811818326617396875588472066220482363392000000), .inr (1, (9, 0))), (((0, 480), 12), .inr (1, (9, 0))), (((0, 0), 1851192626986356799632114105031551009123054124018230966928539648000000), .inr (0, (8, 0))), (((0, 480), 11), .inr (0, (8, 0)))], 0, 0, 77, [(1, .inr (0, (0, 0))), (0, .inr (3, (0, 480)))], [.inr (3, (0, 480))]), [], [], [(0, 0), (0, 0), (0, 0), (0, 0), (0, 0), (0, 0), (0, 0), (0, 0)], 9)
noncomputable def rxoBTK_0_2 : bx_HO := (([(0, 0), (0, 0), (0, 0), (0, 0), (0, 0), (0, 0), (0, 0), (0, 0), (1, 1), (498, 498)], [(3, (9, 0), (0, 1476))], [(((0, 0), 1851192626986356799832820811818326617396875588472066220482363392000000), .inr (1, (9, 0))), (((0, 480), 12), .inr (1, (9, 0))), (((0, 0), 1851192626986356799632114105031551009123054124018230966928539648000000), .inr (0, (8, 0))), (((0, 480), 11), .inr (0, (8, 0)))], 0, 0, 32, [(1, .inr (0, (0, 0))), (0, .inr (3, (0, 480)))], [.inr (0, (0, 1)), .inr (3, (0, 480))]), [], [], [(0, 0), (0, 0), (0, 0), (0, 0), (0, 0), (0, 0), (0, 0), (0, 0), (0, 0), (0, 1)], 1)
noncomputable def rxoBTK_0_3 : bx_HO := (([(0, 0), (0, 0), (0, 0), (0, 0), (0, 0), (0, 0), (0, 0), (0, 0), (1, 1), (1476, 1476)], [], [(((0, 0), 1851192626986356799832820811818326617396875588472066220482363392000000), .inr (1, (9, 0))), (((0, 480), 12), .inr (1, (9, 0))), (((0, 0), 1851192626986356799632114105031551009123054124018230966928539648000000), .inr (0, (8, 0))), (((0, 480), 11), .inr (0, (8, 0)))], 0, 0, 32, [(1, .inr (0, (0, 1))), (0, .inr (3, (0, 480)))], [.inr (0, (0, 2)), .inr (3, (0, 480))]), [], [], [(0, 0), (0, 0), (0, 0), (0, 0), (0, 0), (0, 0), (0, 0), (0, 0), (0, 1), (0, 2)], 1)
noncomputable def rxoBTK_2_0 : bx_HO := (([(0, 0), (0, 0), (0, 0), (0, 0), (0, 0), (0, 0), (0, 0), (0, 0), (1, 1), (1, 2), (0, 400)], [(3, (8, 0), (0, 0))], [(((0, 0), 1851192626986356801037061052538980267039804375195077741805305856000000), .inr (0, (10, 0))), (((0, 480), 18), .inr (0, (10, 0)))], 0, 0, 51, [(0, .inr (3, (0, 480))), (1, .inr (0, (8, 0)))], [.inr (0, (10, 0)), .inr (0, (0, 29)), .inr (3, (0, 480))]), [], [], [(0, 0), (0, 0), (0, 0), (0, 0), (0, 0), (0, 0), (0, 0), (0, 0), (8, 0), (0, 29), (10, 0)], 3)
noncomputable def rxoBTK_2_1 : bx_HO := (([(0, 0), (0, 0), (0, 0), (0, 0), (0, 0), (0, 0), (0, 0), (0, 0), (0, 0), (1, 2), (0, 400)], [], [(((0, 0), 1851192626986356801037061052538980267039804375195077741805305856000000), .inr (0, (10, 0))), (((0, 480), 18), .inr (0, (10, 0)))], 0, 0, 51, [(0, .inr (3, (0, 480))), (1, .inr (0, (8, 0)))], [.inr (0, (10, 0)), .inr (0, (0, 30)), .inr (3, (0, 480))]), [], [], [(0, 0), (0, 0), (0, 0), (0, 0), (0, 0), (0, 0), (0, 0), (0, 0), (8, 0), (0, 30), (10, 0)], 3)
noncomputable def rxoBTK_4_0 : bx_HO := (([(0, 0), (0, 0), (0, 0), (0, 0), (0, 0), (0, 0), (0, 0), (0, 0), (1, 1), (29, 30), (0, 400)], [(3, (8, 0), (0, 0))], [], 0, 0, 67, [(0, .inr (3, (0, 480))), (1, .inr (0, (8, 0)))], [.inr (0, (0, 0)), .inr (0, (0, 29)), .inr (3, (0, 480))]), [], [], [(0, 0), (0, 0), (0, 0), (0, 0), (0, 0), (0, 0), (0, 0), (0, 0), (8, 0), (0, 29)], 5)
noncomputable def rxoBTK_4_1 : bx_HO := (([(0, 0), (0, 0), (0, 0), (0, 0), (0, 0), (0, 0), (0, 0), (0, 0), (0, 0), (29, 30), (0, 400)], [], [], 0, 0, 67, [(0, .inr (3, (0, 480))), (1, .inr (0, (8, 0)))], [.inr (0, (0, 0)), .inr (0, (0, 30)), .inr (3, (0, 480))]), [], [], [(0, 0), (0, 0), (0, 0), (0, 0), (0, 0), (0, 0), (0, 0), (0, 0), (8, 0), (0, 30)], 5)
noncomputable def rxoBTK_6_0 : bx_HO := (([(0, 0), (0, 0), (0, 0), (0, 0), (0, 0), (0, 0), (0, 0), (0, 0), (0, 1), (29, 30)], [], [], 0, 0, 71, [(0, .inr (3, (0, 480))), (1, .inr (0, (8, 0)))], [.inr (3, (0, 480))]), [], [], [(0, 0), (0, 0), (0, 0), (0, 0), (0, 0), (0, 0), (0, 0), (0, 0), (8, 0)], 7)
noncomputable def rxeBTK_8_0 : rx_End × List (Nat × Int × Int) := (([(0, 0), (0, 0), (0, 0), (0, 0), (0, 0), (0, 0), (0, 0), (0, 0), (0, 1)], [], [], some (.inr (0, (0, 0)))), [])
noncomputable def rxoBTK_10_0 : bx_HO := (([(0, 0), (0, 0), (0, 0), (0, 0), (0, 0), (0, 0), (0, 0), (0, 0), (0, 32)], [(3, (8, 0), (0, (-1)))], [], 0, 0, 90, [(0, .inr (3, (0, 480)))], [.inr (0, (0, 41)), .inr (3, (0, 480)), .inr (3, (0, 480))]), [], [], [(0, 0), (0, 0), (0, 0), (0, 0), (0, 0), (0, 0), (0, 0), (0, 0)], 11)
noncomputable def rxeBTK_10_0 : rx_End × List (Nat × Int × Int) := (([(0, 0), (0, 0), (0, 0), (0, 0), (0, 0), (0, 0), (0, 0), (0, 0), ((-1), (-1))], [], [], some (.inr (0, (0, 4)))), [])
noncomputable def rxoBTK_13_0 : bx_HO := (([(0, 0), (0, 0), (0, 0), (0, 0), (0, 0), (0, 0), (0, 0), (0, 0), (0, 1), (0, 0)], [], [(((0, 0), 1851192626986356800234234225391877833944518517379736727590010880000000), .inr (0, (9, 0))), (((0, 480), 14), .inr (0, (9, 0)))], 0, 0, 105, [(0, .inr (3, (0, 480)))], [.inr (0, (0, 1)), .inr (3, (0, 480))]), [], [], [(0, 0), (0, 0), (0, 0), (0, 0), (0, 0), (0, 0), (0, 0), (0, 0)], 14)
noncomputable def rxeBTK_13_0 : rx_End × List (Nat × Int × Int) := (([(0, 0), (0, 0), (0, 0), (0, 0), (0, 0), (0, 0), (0, 0), (0, 0), (0, 1), (1, 1)], [(3, (9, 0), (0, 0))], [(((0, 0), 1851192626986356800234234225391877833944518517379736727590010880000000), .inr (0, (9, 0))), (((0, 480), 14), .inr (0, (9, 0)))], some (.inr (0, (0, 2)))), [])
noncomputable def rxoBTK_15_0 : bx_HO := (([(0, 0), (0, 0), (0, 0), (0, 0), (0, 0), (0, 0), (0, 0), (0, 0), (0, 400)], [], [(((0, 0), 1851192626986356802241301293259633916682733161918089263128248320000000), .inr (0, (8, 0))), (((0, 480), 24), .inr (0, (8, 0)))], 0, 0, 113, [(0, .inr (3, (0, 480)))], [.inr (0, (8, 0)), .inr (3, (0, 480))]), [(8, 1, 400)], [], [(0, 0), (0, 0), (0, 0), (0, 0), (0, 0), (0, 0), (0, 0), (0, 0), (8, 0)], 16)
noncomputable def rxoBTK_16_0 : bx_HO := (([(0, 0), (0, 0), (0, 0), (0, 0), (0, 0), (0, 0), (0, 0), (0, 0), (1, 400), (0, 8)], [], [(((0, 0), 1851192626986356802442008000046409524956554626371924516682072064000000), .inr (0, (9, 0))), (((0, 480), 25), .inr (0, (9, 0))), (((0, 0), 1851192626986356802241301293259633916682733161918089263128248323000000), .inr (0, (8, (-1)))), (((0, 480), 24), .inr (0, (8, (-1))))], 0, 0, 123, [(0, .inr (3, (0, 480)))], [.inr (0, (9, 0)), .inr (3, (0, 480))]), [(9, 1, 8)], [], [(0, 0), (0, 0), (0, 0), (0, 0), (0, 0), (0, 0), (0, 0), (0, 0), (9, 0)], 17)
noncomputable def rxeBTK_17_0 : rx_End × List (Nat × Int × Int) := (([(0, 0), (0, 0), (0, 0), (0, 0), (0, 0), (0, 0), (0, 0), (0, 0), (1, 8)], [], [(((0, 0), 1851192626986356802442008000046409524956554626371924516682072067000000), .inr (0, (8, (-1)))), (((0, 480), 25), .inr (0, (8, (-1))))], some (.inr (0, (0, 2)))), [])
noncomputable def rxYBTK : List bx_HE := [(rxzBTK_0, [rxoBTK_0_0, rxoBTK_0_1, rxoBTK_0_2, rxoBTK_0_3], []), (rxzBTK_1, [], []), (rxzBTK_2, [rxoBTK_2_0, rxoBTK_2_1], []), (rxzBTK_3, [], []), (rxzBTK_4, [rxoBTK_4_0, rxoBTK_4_1], []), (rxzBTK_5, [], []), (rxzBTK_6, [rxoBTK_6_0], []), (rxzBTK_7, [], []), (rxzBTK_8, [], [rxeBTK_8_0]), (rxzBTK_9, [], []), (rxzBTK_10, [rxoBTK_10_0], [rxeBTK_10_0]), (rxzBTK_11, [], []), (rxzBTK_12, [], []), (rxzBTK_13, [rxoBTK_13_0], [rxeBTK_13_0]), (rxzBTK_14, [], []), (rxzBTK_15, [rxoBTK_15_0], []), (rxzBTK_16, [rxoBTK_16_0], []), (rxzBTK_17, [], [rxeBTK_17_0])]
noncomputable def rxUBTK (q : bx_HE) : Bool := Nat.beq (rx_zpc q.1) 32 || Nat.beq (rx_zpc q.1) 51 || Nat.beq (rx_zpc q.1) 67 || Nat.beq (rx_zpc q.1) 71 || Nat.beq (rx_zpc q.1) 77 || Nat.beq (rx_zpc q.1) 90 || Nat.beq (rx_zpc q.1) 93 || Nat.beq (rx_zpc q.1) 105
noncomputable def rxYBBTK : bx_B := (rxV, rxNP, rxDmf, bx_mdH rxCBTK.2.2.1)
set_option maxRecDepth 100000 in
theorem rxYcBTK : bx_chkH rxYBBTK rxM280 rxCBTK rxYBTK (rxUBTK, fun cut z => rx_ex2 (rxCT rxYBBTK rxCnE) cut 30000 rxCBTK.2.2.2.1 280 z) = true := by decide +kernel
noncomputable def rxIBTK (S0 : Nat → Int → Int) (ws : List Int) (i : Nat) : bx_SP := fun S r => match i with | 0 => rxIBTK_0 S0 ws S | 1 => rxIBTK_1 S0 ws S (r 8) (r 9) | 2 => rxIBTK_2 S0 ws S (r 8) (r 9) | 3 => rxIBTK_3 S0 ws S (r 8) (r 9) (r 10) | 4 => rxIBTK_4 S0 ws S (r 8) (r 9) (r 10) | 5 => rxIBTK_5 S0 ws S (r 8) (r 9) | 6 => rxIBTK_6 S0 ws S (r 8) (r 9) | 7 => rxIBTK_7 S0 ws S (r 8) | 8 => rxIBTK_8 S0 ws S (r 8) | 9 => rxIBTK_9 S0 ws S | 10 => rxIBTK_10 S0 ws S (r 8) | 11 => rxIBTK_11 S0 ws S | 12 => rxIBTK_12 S0 ws S (r 8) | 13 => rxIBTK_13 S0 ws S (r 8) | 14 => rxIBTK_14 S0 ws S | 15 => rxIBTK_15 S0 ws S | 16 => rxIBTK_16 S0 ws S (r 8) | 17 => rxIBTK_17 S0 ws S (r 8) | _ => False
noncomputable def rxmBTK (S0 : Nat → Int → Int) (ws : List Int) (i : Nat) (S : Nat → Int → Int) (r : Nat → Int) : Nat := match i with | 0 => rxmBTK_0 S0 ws S | 1 => rxmBTK_1 S0 ws S (r 8) (r 9) | 2 => rxmBTK_2 S0 ws S (r 8) (r 9) | 3 => rxmBTK_3 S0 ws S (r 8) (r 9) (r 10) | 4 => rxmBTK_4 S0 ws S (r 8) (r 9) (r 10) | 5 => rxmBTK_5 S0 ws S (r 8) (r 9) | 6 => rxmBTK_6 S0 ws S (r 8) (r 9) | 7 => rxmBTK_7 S0 ws S (r 8) | 8 => rxmBTK_8 S0 ws S (r 8) | 9 => rxmBTK_9 S0 ws S | 10 => rxmBTK_10 S0 ws S (r 8) | 11 => rxmBTK_11 S0 ws S | 12 => rxmBTK_12 S0 ws S (r 8) | 13 => rxmBTK_13 S0 ws S (r 8) | 14 => rxmBTK_14 S0 ws S | 15 => rxmBTK_15 S0 ws S | 16 => rxmBTK_16 S0 ws S (r 8) | 17 => rxmBTK_17 S0 ws S (r 8) | _ => 0
noncomputable def rxPBTK (S0 : Nat → Int → Int) (ws : List Int) : Prop := rxPBTW S0 ws
noncomputable def rxPSBTK (S0 : Nat → Int → Int) (ws : List Int) (S : Nat → Int → Int) (w : Option Int) : Prop := rxPSBTW S0 ws S w ∧ (rzCk S0 → rzDq S0 → ∀ (tst s : Int) (rest : List Int), rzSr S0 tst (s :: rest) → (s = 3 ∨ s = 4) → rkTq S0 S (s :: rest) true)
theorem rxkBTK_1 {S0 : Nat → Int → Int} {ws : List Int} {S : Nat → Int → Int} {an bd : Int} (hP : rxPBTK S0 ws) (hin : bx_same rxL (bx_mdl rxCBTK.2.2.1) S0 S) (I0 : bx_Inv rxL S) (hinv : rxIBTK_1 S0 ws S an bd) (l8 : 0 ≤ an) (u8 : an ≤ 1) (l9 : 1 ≤ bd) (u9 : bd ≤ 2) : rxPSTK S [480, bd] ∧ ∀ (S_p : Nat → Int → Int), rxPSSTK S [480, bd] S_p none → bx_Inv rxL S_p → bx_same rxL (bx_mdl rxCSTK.2.2.1) S S_p → rxIBTK_2 S0 ws S_p an bd ∧ rxmBTK_2 S0 ws S_p an bd < rxmBTK_1 S0 ws S an bd := by
  obtain ⟨hI, hx⟩ := hinv
  have g_ := rxkBTW_1 hP hin I0 hI l8 u8 l9 u9
  exact ⟨g_.1, fun S_p hq I1 hsm => ⟨⟨(g_.2 S_p hq.2.1 I1 hsm).1, (by
    have e := hI.1.1
    subst e
    obtain ⟨l2, hw2, hm⟩ := hq.2.2
    have e2 : bd = l2 := Option.some.inj (congrArg (fun l : List Int => l[1]?) hw2)
    subst e2
    refine ⟨hx.1, fun b c hC hW => ?_⟩
    rw [← hx.2]
    exact hm b c hC hW)⟩, (g_.2 S_p hq.2.1 I1 hsm).2⟩⟩
theorem rxsBTK_1 {X : (Nat → Int → Int) → Prop} {S0 : Nat → Int → Int} {ws : List Int} (hP : rxPBTK S0 ws) : rx_obK X S0 rxCBTK.2.2.1 rxCSTK.2.2.1 (rxIBTK S0 ws) (rxmBTK S0 ws) 1 2 rxzBTK_1 rxzBTK_2 [.inr (3, (0, 480)), .inr (0, (9, 0))] none rxPSTK rxPSSTK := by
  intro S r hinv hXS I0 hin hs_ hf_
  have b_ := bx_bds_sat hs_
  have f_ := bx_fcl_ok hs_.1 hf_
  obtain ⟨⟨l8, u8⟩, ⟨l9, u9⟩, -⟩ := b_
  have g := rxkBTK_1 hP hin I0 hinv l8 u8 l9 u9
  have ea : List.map (bx_num r) [.inr (3, (0, 480)), .inr (0, (9, 0))] = [480, (r 9)] := by
    simp only [List.map_cons, List.map_nil, bx_xv_ok hs_.1]
    rfl
  rw [ea]
  refine ⟨g.1, fun S_p w r_p hPS hX_p I1 hsm hr hw hs_p => ?_⟩
  have hw : w = none := hPS.1
  subst hw
  have g2 := g.2 S_p hPS I1 hsm
  show rxIBTK_2 S0 ws S_p (r_p 8) (r_p 9) ∧ rxmBTK_2 S0 ws S_p (r_p 8) (r_p 9) < _
  rw [hr 8 (by decide), hr 9 (by decide)]
  exact g2
theorem rxkBTK_3 {S0 : Nat → Int → Int} {ws : List Int} {S : Nat → Int → Int} {an op n : Int} (hP : rxPBTK S0 ws) (hin : bx_same rxL (bx_mdl rxCBTK.2.2.1) S0 S) (I0 : bx_Inv rxL S) (hinv : rxIBTK_3 S0 ws S an op n) (l8 : 0 ≤ an) (u8 : an ≤ 1) (l9 : 29 ≤ op) (u9 : op ≤ 30) (l10 : 0 ≤ n) (u10 : n ≤ 400) : rxPPU S [480, op, n] ∧ ∀ (S_p : Nat → Int → Int), rxPSPU S [480, op, n] S_p none → bx_Inv rxL S_p → bx_same rxL (bx_mdl rxCPU.2.2.1) S S_p → rxIBTK_4 S0 ws S_p an op n ∧ rxmBTK_4 S0 ws S_p an op n < rxmBTK_3 S0 ws S an op n := by
  obtain ⟨hI, hx⟩ := hinv
  have g_ := rxkBTW_3 hP hin I0 hI l8 u8 l9 u9 l10 u10
  exact ⟨g_.1, fun S_p hq I1 hsm => ⟨⟨(g_.2 S_p hq I1 hsm).1, (by
    obtain ⟨-, o2, a2, hw3, e3⟩ := hq
    have he : op = o2 := Option.some.inj (congrArg (fun l : List Int => l[1]?) hw3)
    have ha : n = a2 := Option.some.inj (congrArg (fun l : List Int => l[2]?) hw3)
    subst he
    subst ha
    subst e3
    obtain ⟨h1, h2, h3, h4⟩ := hx
    refine ⟨h1, h2, fun b c hC hW => ?_⟩
    obtain ⟨g1, g2⟩ := h4 b c hC hW
    have e18 := g1.2.2.2.1
    have q_ := rkMd_pu (op := op) (a := rkM (rkRed (if op = 29 then 2 else 1) c)) (x := n) g1 (fun _ => by omega)
    exact ⟨q_.1, g2.tr q_.2⟩)⟩, (g_.2 S_p hq I1 hsm).2⟩⟩
theorem rxsBTK_3 {X : (Nat → Int → Int) → Prop} {S0 : Nat → Int → Int} {ws : List Int} (hP : rxPBTK S0 ws) : rx_obK X S0 rxCBTK.2.2.1 rxCPU.2.2.1 (rxIBTK S0 ws) (rxmBTK S0 ws) 3 4 rxzBTK_3 rxzBTK_4 [.inr (3, (0, 480)), .inr (0, (9, 0)), .inr (0, (10, 0))] none rxPPU rxPSPU := by
  intro S r hinv hXS I0 hin hs_ hf_
  have b_ := bx_bds_sat hs_
  have f_ := bx_fcl_ok hs_.1 hf_
  obtain ⟨⟨l8, u8⟩, ⟨l9, u9⟩, ⟨l10, u10⟩, -⟩ := b_
  have g := rxkBTK_3 hP hin I0 hinv l8 u8 l9 u9 l10 u10
  have ea : List.map (bx_num r) [.inr (3, (0, 480)), .inr (0, (9, 0)), .inr (0, (10, 0))] = [480, (r 9), (r 10)] := by
    simp only [List.map_cons, List.map_nil, bx_xv_ok hs_.1]
    rfl
  rw [ea]
  refine ⟨g.1, fun S_p w r_p hPS hX_p I1 hsm hr hw hs_p => ?_⟩
  have hw : w = none := hPS.1
  subst hw
  have g2 := g.2 S_p hPS I1 hsm
  show rxIBTK_4 S0 ws S_p (r_p 8) (r_p 9) (r_p 10) ∧ rxmBTK_4 S0 ws S_p (r_p 8) (r_p 9) (r_p 10) < _
  rw [hr 8 (by decide), hr 9 (by decide), hr 10 (by decide)]
  exact g2
theorem rxkBTK_5 {S0 : Nat → Int → Int} {ws : List Int} {S : Nat → Int → Int} {an op : Int} (hP : rxPBTK S0 ws) (hin : bx_same rxL (bx_mdl rxCBTK.2.2.1) S0 S) (I0 : bx_Inv rxL S) (hinv : rxIBTK_5 S0 ws S an op) (l8 : 0 ≤ an) (u8 : an ≤ 1) (l9 : 29 ≤ op) (u9 : op ≤ 30) : rxPEM S [480, op, 0] ∧ ∀ (S_p : Nat → Int → Int), rxPSEM S [480, op, 0] S_p none → bx_Inv rxL S_p → bx_same rxL (bx_mdl rxCEM.2.2.1) S S_p → rxIBTK_6 S0 ws S_p an op ∧ rxmBTK_6 S0 ws S_p an op < rxmBTK_5 S0 ws S an op := by
  obtain ⟨hI, hx⟩ := hinv
  have g_ := rxkBTW_5 hP hin I0 hI l8 u8 l9 u9
  exact ⟨g_.1, fun S_p hq I1 hsm => ⟨⟨(g_.2 S_p hq I1 hsm).1, (by
    obtain ⟨-, o2, a2, hw3, e3⟩ := hq
    have he : op = o2 := Option.some.inj (congrArg (fun l : List Int => l[1]?) hw3)
    have ha : (0 : Int) = a2 := Option.some.inj (congrArg (fun l : List Int => l[2]?) hw3)
    subst he
    subst ha
    subst e3
    refine ⟨⟨op, hx.2.1, fun b c hC hW => ?_⟩, hx.1⟩
    obtain ⟨g1, g2⟩ := hx.2.2 b c hC hW
    have q_ := rkMd_em (op := op) (a := 0) (x := 0) g1 rkAi_0.symm
    exact ⟨q_.1, g2.tr q_.2⟩)⟩, (g_.2 S_p hq I1 hsm).2⟩⟩
theorem rxsBTK_5 {X : (Nat → Int → Int) → Prop} {S0 : Nat → Int → Int} {ws : List Int} (hP : rxPBTK S0 ws) : rx_obK X S0 rxCBTK.2.2.1 rxCEM.2.2.1 (rxIBTK S0 ws) (rxmBTK S0 ws) 5 6 rxzBTK_5 rxzBTK_6 [.inr (3, (0, 480)), .inr (0, (9, 0)), .inr (0, (0, 0))] none rxPEM rxPSEM := by
  intro S r hinv hXS I0 hin hs_ hf_
  have b_ := bx_bds_sat hs_
  have f_ := bx_fcl_ok hs_.1 hf_
  obtain ⟨⟨l8, u8⟩, ⟨l9, u9⟩, -⟩ := b_
  have g := rxkBTK_5 hP hin I0 hinv l8 u8 l9 u9
  have ea : List.map (bx_num r) [.inr (3, (0, 480)), .inr (0, (9, 0)), .inr (0, (0, 0))] = [480, (r 9), 0] := by
    simp only [List.map_cons, List.map_nil, bx_xv_ok hs_.1]
    rfl
  rw [ea]
  refine ⟨g.1, fun S_p w r_p hPS hX_p I1 hsm hr hw hs_p => ?_⟩
  have hw : w = none := hPS.1
  subst hw
  have g2 := g.2 S_p hPS I1 hsm
  show rxIBTK_6 S0 ws S_p (r_p 8) (r_p 9) ∧ rxmBTK_6 S0 ws S_p (r_p 8) (r_p 9) < _
  rw [hr 8 (by decide), hr 9 (by decide)]
  exact g2
theorem rxkBTK_7 {S0 : Nat → Int → Int} {ws : List Int} {S : Nat → Int → Int} {an : Int} (hP : rxPBTK S0 ws) (hin : bx_same rxL (bx_mdl rxCBTK.2.2.1) S0 S) (I0 : bx_Inv rxL S) (hinv : rxIBTK_7 S0 ws S an) (l8 : 0 ≤ an) (u8 : an ≤ 1) : rxPNXX S [480] ∧ ∀ (S_p : Nat → Int → Int), rxPSNXX S [480] S_p none → bx_Inv rxL S_p → bx_same rxL (bx_mdl rxCNXX.2.2.1) S S_p → rxIBTK_8 S0 ws S_p an ∧ rxmBTK_8 S0 ws S_p an < rxmBTK_7 S0 ws S an := by
  obtain ⟨hI, hx⟩ := hinv
  have g_ := rxkBTW_7 hP hin I0 hI l8 u8
  exact ⟨g_.1, fun S_p hq I1 hsm => ⟨⟨(g_.2 S_p hq I1 hsm).1, (by
    intro c hD tst s rest r hc z14 zne b cc hC hW
    obtain ⟨⟨op, h1, h2⟩, h3⟩ := hx
    obtain ⟨g1, g2⟩ := h2 b cc hC hW
    have q_ := rkMd_of g1 I0 hsm (by decide +kernel)
    rcases h3 hD with ⟨a, h⟩ | ⟨a, h⟩
    · have ho : op = 29 := by omega
      subst ho
      rw [rkSt_an h hc]
      exact ⟨q_.1, g2.tr q_.2⟩
    · have ho : op = 30 := by omega
      subst ho
      rw [rkSt_or h hc]
      exact ⟨q_.1, g2.tr q_.2⟩)⟩, (g_.2 S_p hq I1 hsm).2⟩⟩
theorem rxsBTK_7 {X : (Nat → Int → Int) → Prop} {S0 : Nat → Int → Int} {ws : List Int} (hP : rxPBTK S0 ws) : rx_obK X S0 rxCBTK.2.2.1 rxCNXX.2.2.1 (rxIBTK S0 ws) (rxmBTK S0 ws) 7 8 rxzBTK_7 rxzBTK_8 [.inr (3, (0, 480))] none rxPNXX rxPSNXX := by
  intro S r hinv hXS I0 hin hs_ hf_
  have b_ := bx_bds_sat hs_
  have f_ := bx_fcl_ok hs_.1 hf_
  obtain ⟨⟨l8, u8⟩, -⟩ := b_
  have g := rxkBTK_7 hP hin I0 hinv l8 u8
  have ea : List.map (bx_num r) [.inr (3, (0, 480))] = [480] := by
    simp only [List.map_cons, List.map_nil, bx_xv_ok hs_.1]
    rfl
  rw [ea]
  refine ⟨g.1, fun S_p w r_p hPS hX_p I1 hsm hr hw hs_p => ?_⟩
  have hw : w = none := hPS.1
  subst hw
  have g2 := g.2 S_p hPS I1 hsm
  show rxIBTK_8 S0 ws S_p (r_p 8) ∧ rxmBTK_8 S0 ws S_p (r_p 8) < _
  rw [hr 8 (by decide)]
  exact g2
theorem rxkBTK_9 {S0 : Nat → Int → Int} {ws : List Int} {S : Nat → Int → Int} (hP : rxPBTK S0 ws) (hin : bx_same rxL (bx_mdl rxCBTK.2.2.1) S0 S) (I0 : bx_Inv rxL S) (hinv : rxIBTK_9 S0 ws S)  : rxPIN S [480] ∧ ∀ (S_p : Nat → Int → Int) (its : Int), (-1) ≤ its → its ≤ 32 → rxPSIN S [480] S_p (some its) → bx_Inv rxL S_p → bx_same rxL (bx_mdl rxCIN.2.2.1) S S_p → rxIBTK_10 S0 ws S_p its ∧ rxmBTK_10 S0 ws S_p its < rxmBTK_9 S0 ws S := by
  obtain ⟨hI, hx⟩ := hinv
  have g_ := rxkBTW_9 hP hin I0 hI
  exact ⟨g_.1, fun S_p its l_ u_ hq I1 hsm => ⟨⟨(g_.2 S_p its l_ u_ hq I1 hsm).1, trivial⟩, (g_.2 S_p its l_ u_ hq I1 hsm).2⟩⟩
theorem rxsBTK_9 {X : (Nat → Int → Int) → Prop} {S0 : Nat → Int → Int} {ws : List Int} (hP : rxPBTK S0 ws) : rx_obK X S0 rxCBTK.2.2.1 rxCIN.2.2.1 (rxIBTK S0 ws) (rxmBTK S0 ws) 9 10 rxzBTK_9 rxzBTK_10 [.inr (3, (0, 480))] (some 8) rxPIN rxPSIN := by
  intro S r hinv hXS I0 hin hs_ hf_
  have b_ := bx_bds_sat hs_
  have f_ := bx_fcl_ok hs_.1 hf_
  have g := rxkBTK_9 hP hin I0 hinv 
  have ea : List.map (bx_num r) [.inr (3, (0, 480))] = [480] := by
    simp only [List.map_cons, List.map_nil, bx_xv_ok hs_.1]
    rfl
  rw [ea]
  refine ⟨g.1, fun S_p w r_p hPS hX_p I1 hsm hr hw hs_p => ?_⟩
  have hw := hw _ rfl
  subst hw
  have b_p := hs_p.2.2 8 _ _ rfl
  have g2 := g.2 S_p (r_p 8) b_p.1 b_p.2 hPS I1 hsm
  show rxIBTK_10 S0 ws S_p (r_p 8) ∧ rxmBTK_10 S0 ws S_p (r_p 8) < _
  exact g2
theorem rxkBTK_11 {S0 : Nat → Int → Int} {ws : List Int} {S : Nat → Int → Int} (hP : rxPBTK S0 ws) (hin : bx_same rxL (bx_mdl rxCBTK.2.2.1) S0 S) (I0 : bx_Inv rxL S) (hinv : rxIBTK_11 S0 ws S)  : rxPISW S [480, 41] ∧ ∀ (S_p : Nat → Int → Int) (is : Int), 0 ≤ is → is ≤ 1 → rxPSISW S [480, 41] S_p (some is) → bx_Inv rxL S_p → bx_same rxL (bx_mdl rxCISW.2.2.1) S S_p → rxIBTK_12 S0 ws S_p is ∧ rxmBTK_12 S0 ws S_p is < rxmBTK_11 S0 ws S := by
  obtain ⟨hI, hx⟩ := hinv
  have g_ := rxkBTW_11 hP hin I0 hI
  exact ⟨g_.1, fun S_p is l_ u_ hq I1 hsm => ⟨⟨(g_.2 S_p is l_ u_ hq I1 hsm).1, trivial⟩, (g_.2 S_p is l_ u_ hq I1 hsm).2⟩⟩
theorem rxsBTK_11 {X : (Nat → Int → Int) → Prop} {S0 : Nat → Int → Int} {ws : List Int} (hP : rxPBTK S0 ws) : rx_obK X S0 rxCBTK.2.2.1 rxCISW.2.2.1 (rxIBTK S0 ws) (rxmBTK S0 ws) 11 12 rxzBTK_11 rxzBTK_12 [.inr (3, (0, 480)), .inr (0, (0, 41))] (some 8) rxPISW rxPSISW := by
  intro S r hinv hXS I0 hin hs_ hf_
  have b_ := bx_bds_sat hs_
  have f_ := bx_fcl_ok hs_.1 hf_
  have g := rxkBTK_11 hP hin I0 hinv 
  have ea : List.map (bx_num r) [.inr (3, (0, 480)), .inr (0, (0, 41))] = [480, 41] := by
    simp only [List.map_cons, List.map_nil, bx_xv_ok hs_.1]
    rfl
  rw [ea]
  refine ⟨g.1, fun S_p w r_p hPS hX_p I1 hsm hr hw hs_p => ?_⟩
  have hw := hw _ rfl
  subst hw
  have b_p := hs_p.2.2 8 _ _ rfl
  have g2 := g.2 S_p (r_p 8) b_p.1 b_p.2 hPS I1 hsm
  show rxIBTK_12 S0 ws S_p (r_p 8) ∧ rxmBTK_12 S0 ws S_p (r_p 8) < _
  exact g2
theorem rxkBTK_12 {S0 : Nat → Int → Int} {ws : List Int} {S : Nat → Int → Int} {is : Int} (hP : rxPBTK S0 ws) (hin : bx_same rxL (bx_mdl rxCBTK.2.2.1) S0 S) (I0 : bx_Inv rxL S) (hinv : rxIBTK_12 S0 ws S is) (l8 : 0 ≤ is) (u8 : is ≤ 1) : rxPMUW S [480, is] ∧ ∀ (S_p : Nat → Int → Int), rxPSMUW S [480, is] S_p none → bx_Inv rxL S_p → bx_same rxL (bx_mdl rxCMUW.2.2.1) S S_p → rxIBTK_13 S0 ws S_p is ∧ rxmBTK_13 S0 ws S_p is < rxmBTK_12 S0 ws S is := by
  obtain ⟨hI, hx⟩ := hinv
  have g_ := rxkBTW_12 hP hin I0 hI l8 u8
  exact ⟨g_.1, fun S_p hq I1 hsm => ⟨⟨(g_.2 S_p hq I1 hsm).1, (by
    have e := hI.1.1
    subst e
    exact fun b c hC => rkMd_of hC I0 hsm (by decide +kernel))⟩, (g_.2 S_p hq I1 hsm).2⟩⟩
theorem rxsBTK_12 {X : (Nat → Int → Int) → Prop} {S0 : Nat → Int → Int} {ws : List Int} (hP : rxPBTK S0 ws) : rx_obK X S0 rxCBTK.2.2.1 rxCMUW.2.2.1 (rxIBTK S0 ws) (rxmBTK S0 ws) 12 13 rxzBTK_12 rxzBTK_13 [.inr (3, (0, 480)), .inr (0, (8, 0))] none rxPMUW rxPSMUW := by
  intro S r hinv hXS I0 hin hs_ hf_
  have b_ := bx_bds_sat hs_
  have f_ := bx_fcl_ok hs_.1 hf_
  obtain ⟨⟨l8, u8⟩, -⟩ := b_
  have g := rxkBTK_12 hP hin I0 hinv l8 u8
  have ea : List.map (bx_num r) [.inr (3, (0, 480)), .inr (0, (8, 0))] = [480, (r 8)] := by
    simp only [List.map_cons, List.map_nil, bx_xv_ok hs_.1]
    rfl
  rw [ea]
  refine ⟨g.1, fun S_p w r_p hPS hX_p I1 hsm hr hw hs_p => ?_⟩
  have hw : w = none := hPS.1
  subst hw
  have g2 := g.2 S_p hPS I1 hsm
  show rxIBTK_13 S0 ws S_p (r_p 8) ∧ rxmBTK_13 S0 ws S_p (r_p 8) < _
  rw [hr 8 (by decide)]
  exact g2
theorem rxkBTK_14 {S0 : Nat → Int → Int} {ws : List Int} {S : Nat → Int → Int} (hP : rxPBTK S0 ws) (hin : bx_same rxL (bx_mdl rxCBTK.2.2.1) S0 S) (I0 : bx_Inv rxL S) (hinv : rxIBTK_14 S0 ws S)  : rxPSTK S [480, 1] ∧ ∀ (S_p : Nat → Int → Int), rxPSSTK S [480, 1] S_p none → bx_Inv rxL S_p → bx_same rxL (bx_mdl rxCSTK.2.2.1) S S_p → rxIBTK_15 S0 ws S_p ∧ rxmBTK_15 S0 ws S_p < rxmBTK_14 S0 ws S := by
  obtain ⟨hI, hx⟩ := hinv
  have g_ := rxkBTW_14 hP hin I0 hI
  exact ⟨g_.1, fun S_p hq I1 hsm => ⟨⟨(g_.2 S_p hq.2.1 I1 hsm).1, (by
    obtain ⟨l2, hw2, hm⟩ := hq.2.2
    have e2 : (1 : Int) = l2 := Option.some.inj (congrArg (fun l : List Int => l[1]?) hw2)
    subst e2
    intro b c hC hW
    obtain ⟨g1, g2⟩ := hx b c hC
    obtain ⟨k1, k2⟩ := hm b c g1 hW
    exact ⟨k1, g2.tr k2⟩)⟩, (g_.2 S_p hq.2.1 I1 hsm).2⟩⟩
theorem rxsBTK_14 {X : (Nat → Int → Int) → Prop} {S0 : Nat → Int → Int} {ws : List Int} (hP : rxPBTK S0 ws) : rx_obK X S0 rxCBTK.2.2.1 rxCSTK.2.2.1 (rxIBTK S0 ws) (rxmBTK S0 ws) 14 15 rxzBTK_14 rxzBTK_15 [.inr (3, (0, 480)), .inr (0, (0, 1))] none rxPSTK rxPSSTK := by
  intro S r hinv hXS I0 hin hs_ hf_
  have b_ := bx_bds_sat hs_
  have f_ := bx_fcl_ok hs_.1 hf_
  have g := rxkBTK_14 hP hin I0 hinv 
  have ea : List.map (bx_num r) [.inr (3, (0, 480)), .inr (0, (0, 1))] = [480, 1] := by
    simp only [List.map_cons, List.map_nil, bx_xv_ok hs_.1]
    rfl
  rw [ea]
  refine ⟨g.1, fun S_p w r_p hPS hX_p I1 hsm hr hw hs_p => ?_⟩
  have hw : w = none := hPS.1
  subst hw
  have g2 := g.2 S_p hPS I1 hsm
  show rxIBTK_15 S0 ws S_p ∧ rxmBTK_15 S0 ws S_p < _
  exact g2
theorem rxcBTK_0_0 {S0 : Nat → Int → Int} {ws : List Int} {S : Nat → Int → Int} {x8 : Int} (hP : rxPBTK S0 ws) (hin : bx_same rxL (bx_mdl rxCBTK.2.2.1) S0 S) (I0 : bx_Inv rxL S) (hinv : rxIBTK_0 S0 ws S) (l8 : 0 ≤ x8) (u8 : x8 ≤ 3) (f0 : x8 ≠ 1) (f1 : x8 ≠ 1) (e0 : S 480 11 = x8) : (True) ∧ (True) ∧ rxIBTK_9 S0 ws S ∧ rxmBTK_9 S0 ws S < rxmBTK_0 S0 ws S := by
  obtain ⟨hI, hx⟩ := hinv
  obtain ⟨a_, b_, c_, d_⟩ := rxcBTW_0_0 hP hin I0 hI l8 u8 f0 f1 e0
  exact ⟨a_, b_, ⟨c_, trivial⟩, d_⟩
theorem rxgBTK_0_0 {X : (Nat → Int → Int) → Prop} {S0 : Nat → Int → Int} {ws : List Int} (hP : rxPBTK S0 ws) : bx_obC rxL X S0 rxCBTK.2.2.1 (rxIBTK S0 ws) (rxmBTK S0 ws) 0 rxzBTK_0 rxoBTK_0_0 := by
  intro S S_p r r_p hinv hX hin hsm_ hseg
  obtain ⟨I0, I1, h0_, hr_, b_, f_, d_⟩ := bx_cl (evs := [(0, (0, 480), (0, 11), .inr (0, (8, 0)))]) (fvs := [(3, (8, 0), (0, 1), (0, 0)), (3, (8, 0), (0, 1), (0, 0))]) hseg (by decide +kernel) (by decide +kernel)
  have hinv : rxIBTK_0 S0 ws S := hinv
  obtain ⟨⟨l8, u8⟩, -⟩ := b_
  obtain ⟨f0, f1, -⟩ := f_
  obtain ⟨e0, w_⟩ := d_
  subst w_
  have g := rxcBTK_0_0 hP hin I0 hinv l8 u8 f0 f1 e0
  refine ⟨bx_narP_ok (l := []) g.1, bx_nfP_ok h0_ (fvs := []) (by decide +kernel) g.2.1, ?_, ?_⟩
  · show rxIBTK_9 S0 ws S_p
    exact g.2.2.1
  · show rxmBTK_9 S0 ws S_p < rxmBTK_0 S0 ws S_p
    exact g.2.2.2
theorem rxcBTK_0_1 {S0 : Nat → Int → Int} {ws : List Int} {S : Nat → Int → Int} {x8 x9 : Int} (hP : rxPBTK S0 ws) (hin : bx_same rxL (bx_mdl rxCBTK.2.2.1) S0 S) (I0 : bx_Inv rxL S) (hinv : rxIBTK_0 S0 ws S) (l8 : 1 ≤ x8) (u8 : x8 ≤ 1) (l9 : (-9223372036854775808) ≤ x9) (u9 : x9 ≤ 9223372036854775807) (f0 : x9 ≠ 498) (f1 : x9 ≠ 1476) (e1 : S 480 11 = x8) (e0 : S 480 12 = x9) : (True) ∧ (True) ∧ rxIBTK_9 S0 ws S ∧ rxmBTK_9 S0 ws S < rxmBTK_0 S0 ws S := by
  obtain ⟨hI, hx⟩ := hinv
  obtain ⟨a_, b_, c_, d_⟩ := rxcBTW_0_1 hP hin I0 hI l8 u8 l9 u9 f0 f1 e1 e0
  exact ⟨a_, b_, ⟨c_, trivial⟩, d_⟩
theorem rxgBTK_0_1 {X : (Nat → Int → Int) → Prop} {S0 : Nat → Int → Int} {ws : List Int} (hP : rxPBTK S0 ws) : bx_obC rxL X S0 rxCBTK.2.2.1 (rxIBTK S0 ws) (rxmBTK S0 ws) 0 rxzBTK_0 rxoBTK_0_1 := by
  intro S S_p r r_p hinv hX hin hsm_ hseg
  obtain ⟨I0, I1, h0_, hr_, b_, f_, d_⟩ := bx_cl (evs := [(0, (0, 480), (0, 12), .inr (1, (9, 0))), (0, (0, 480), (0, 11), .inr (0, (8, 0)))]) (fvs := [(3, (9, 0), (0, 498), (0, 0)), (3, (9, 0), (0, 1476), (0, 0))]) hseg (by decide +kernel) (by decide +kernel)
  have hinv : rxIBTK_0 S0 ws S := hinv
  obtain ⟨⟨l8, u8⟩, ⟨l9, u9⟩, -⟩ := b_
  obtain ⟨f0, f1, -⟩ := f_
  obtain ⟨e0, ⟨e1, w_⟩⟩ := d_
  subst w_
  have g := rxcBTK_0_1 hP hin I0 hinv l8 u8 l9 u9 f0 f1 e1 e0
  refine ⟨bx_narP_ok (l := []) g.1, bx_nfP_ok h0_ (fvs := []) (by decide +kernel) g.2.1, ?_, ?_⟩
  · show rxIBTK_9 S0 ws S_p
    exact g.2.2.1
  · show rxmBTK_9 S0 ws S_p < rxmBTK_0 S0 ws S_p
    exact g.2.2.2
theorem rxcBTK_0_2 {S0 : Nat → Int → Int} {ws : List Int} {S : Nat → Int → Int} {x8 x9 : Int} (hP : rxPBTK S0 ws) (hin : bx_same rxL (bx_mdl rxCBTK.2.2.1) S0 S) (I0 : bx_Inv rxL S) (hinv : rxIBTK_0 S0 ws S) (l8 : 1 ≤ x8) (u8 : x8 ≤ 1) (l9 : 498 ≤ x9) (u9 : x9 ≤ 498) (f0 : x9 ≠ 1476) (e1 : S 480 11 = x8) (e0 : S 480 12 = x9) : (True) ∧ (True) ∧ rxIBTK_1 S0 ws S 0 1 ∧ rxmBTK_1 S0 ws S 0 1 < rxmBTK_0 S0 ws S := by
  obtain ⟨hI, hx⟩ := hinv
  obtain ⟨a_, b_, c_, d_⟩ := rxcBTW_0_2 hP hin I0 hI l8 u8 l9 u9 f0 e1 e0
  exact ⟨a_, b_, ⟨c_, (by
    refine ⟨fun hD => ?_, by first | rfl | decide⟩
    have e := hI.1.1
    subst e
    exact Or.inr ⟨rfl, (rzDq_is hD (w := rzW_or) (v := 498) (by decide) (by decide)).mp ⟨by omega, by omega⟩⟩)⟩, d_⟩
theorem rxgBTK_0_2 {X : (Nat → Int → Int) → Prop} {S0 : Nat → Int → Int} {ws : List Int} (hP : rxPBTK S0 ws) : bx_obC rxL X S0 rxCBTK.2.2.1 (rxIBTK S0 ws) (rxmBTK S0 ws) 0 rxzBTK_0 rxoBTK_0_2 := by
  intro S S_p r r_p hinv hX hin hsm_ hseg
  obtain ⟨I0, I1, h0_, hr_, b_, f_, d_⟩ := bx_cl (evs := [(0, (0, 480), (0, 12), .inr (1, (9, 0))), (0, (0, 480), (0, 11), .inr (0, (8, 0)))]) (fvs := [(3, (9, 0), (0, 1476), (0, 0))]) hseg (by decide +kernel) (by decide +kernel)
  have hinv : rxIBTK_0 S0 ws S := hinv
  obtain ⟨⟨l8, u8⟩, ⟨l9, u9⟩, -⟩ := b_
  obtain ⟨f0, -⟩ := f_
  obtain ⟨e0, ⟨e1, w_⟩⟩ := d_
  subst w_
  have g := rxcBTK_0_2 hP hin I0 hinv l8 u8 l9 u9 f0 e1 e0
  refine ⟨bx_narP_ok (l := []) g.1, bx_nfP_ok h0_ (fvs := []) (by decide +kernel) g.2.1, ?_, ?_⟩
  · show rxIBTK_1 S0 ws S_p (bx_val [(0, 0), (0, 0), (0, 0), (0, 0), (0, 0), (0, 0), (0, 0), (0, 0), (0, 0), (0, 1)] r_p 8) (bx_val [(0, 0), (0, 0), (0, 0), (0, 0), (0, 0), (0, 0), (0, 0), (0, 0), (0, 0), (0, 1)] r_p 9)
    rw [bx_val_x (n := 8) (e := (0, 0)) h0_ rfl, bx_val_x (n := 9) (e := (0, 1)) h0_ rfl]
    exact g.2.2.1
  · show rxmBTK_1 S0 ws S_p (bx_val [(0, 0), (0, 0), (0, 0), (0, 0), (0, 0), (0, 0), (0, 0), (0, 0), (0, 0), (0, 1)] r_p 8) (bx_val [(0, 0), (0, 0), (0, 0), (0, 0), (0, 0), (0, 0), (0, 0), (0, 0), (0, 0), (0, 1)] r_p 9) < rxmBTK_0 S0 ws S_p
    rw [bx_val_x (n := 8) (e := (0, 0)) h0_ rfl, bx_val_x (n := 9) (e := (0, 1)) h0_ rfl]
    exact g.2.2.2
theorem rxcBTK_0_3 {S0 : Nat → Int → Int} {ws : List Int} {S : Nat → Int → Int} {x8 x9 : Int} (hP : rxPBTK S0 ws) (hin : bx_same rxL (bx_mdl rxCBTK.2.2.1) S0 S) (I0 : bx_Inv rxL S) (hinv : rxIBTK_0 S0 ws S) (l8 : 1 ≤ x8) (u8 : x8 ≤ 1) (l9 : 1476 ≤ x9) (u9 : x9 ≤ 1476) (e1 : S 480 11 = x8) (e0 : S 480 12 = x9) : (True) ∧ (True) ∧ rxIBTK_1 S0 ws S 1 2 ∧ rxmBTK_1 S0 ws S 1 2 < rxmBTK_0 S0 ws S := by
  obtain ⟨hI, hx⟩ := hinv
  obtain ⟨a_, b_, c_, d_⟩ := rxcBTW_0_3 hP hin I0 hI l8 u8 l9 u9 e1 e0
  exact ⟨a_, b_, ⟨c_, (by
    refine ⟨fun hD => ?_, by first | rfl | decide⟩
    have e := hI.1.1
    subst e
    exact Or.inl ⟨rfl, (rzDq_is hD (w := rzW_and) (v := 1476) (by decide) (by decide)).mp ⟨by omega, by omega⟩⟩)⟩, d_⟩
theorem rxgBTK_0_3 {X : (Nat → Int → Int) → Prop} {S0 : Nat → Int → Int} {ws : List Int} (hP : rxPBTK S0 ws) : bx_obC rxL X S0 rxCBTK.2.2.1 (rxIBTK S0 ws) (rxmBTK S0 ws) 0 rxzBTK_0 rxoBTK_0_3 := by
  intro S S_p r r_p hinv hX hin hsm_ hseg
  obtain ⟨I0, I1, h0_, hr_, b_, f_, d_⟩ := bx_cl (evs := [(0, (0, 480), (0, 12), .inr (1, (9, 0))), (0, (0, 480), (0, 11), .inr (0, (8, 0)))]) (fvs := []) hseg (by decide +kernel) (by decide +kernel)
  have hinv : rxIBTK_0 S0 ws S := hinv
  obtain ⟨⟨l8, u8⟩, ⟨l9, u9⟩, -⟩ := b_
  obtain ⟨e0, ⟨e1, w_⟩⟩ := d_
  subst w_
  have g := rxcBTK_0_3 hP hin I0 hinv l8 u8 l9 u9 e1 e0
  refine ⟨bx_narP_ok (l := []) g.1, bx_nfP_ok h0_ (fvs := []) (by decide +kernel) g.2.1, ?_, ?_⟩
  · show rxIBTK_1 S0 ws S_p (bx_val [(0, 0), (0, 0), (0, 0), (0, 0), (0, 0), (0, 0), (0, 0), (0, 0), (0, 1), (0, 2)] r_p 8) (bx_val [(0, 0), (0, 0), (0, 0), (0, 0), (0, 0), (0, 0), (0, 0), (0, 0), (0, 1), (0, 2)] r_p 9)
    rw [bx_val_x (n := 8) (e := (0, 1)) h0_ rfl, bx_val_x (n := 9) (e := (0, 2)) h0_ rfl]
    exact g.2.2.1
  · show rxmBTK_1 S0 ws S_p (bx_val [(0, 0), (0, 0), (0, 0), (0, 0), (0, 0), (0, 0), (0, 0), (0, 0), (0, 1), (0, 2)] r_p 8) (bx_val [(0, 0), (0, 0), (0, 0), (0, 0), (0, 0), (0, 0), (0, 0), (0, 0), (0, 1), (0, 2)] r_p 9) < rxmBTK_0 S0 ws S_p
    rw [bx_val_x (n := 8) (e := (0, 1)) h0_ rfl, bx_val_x (n := 9) (e := (0, 2)) h0_ rfl]
    exact g.2.2.2
theorem rxcBTK_2_0 {S0 : Nat → Int → Int} {ws : List Int} {S : Nat → Int → Int} {an bd x10 : Int} (hP : rxPBTK S0 ws) (hin : bx_same rxL (bx_mdl rxCBTK.2.2.1) S0 S) (I0 : bx_Inv rxL S) (hinv : rxIBTK_2 S0 ws S an bd) (l8 : 1 ≤ an) (u8 : an ≤ 1) (l9 : 1 ≤ bd) (u9 : bd ≤ 2) (l10 : 0 ≤ x10) (u10 : x10 ≤ 400) (f0 : an ≠ 0) (e0 : S 480 18 = x10) : (True) ∧ (True) ∧ rxIBTK_3 S0 ws S an 29 x10 ∧ rxmBTK_3 S0 ws S an 29 x10 < rxmBTK_2 S0 ws S an bd := by
  obtain ⟨hI, hx⟩ := hinv
  obtain ⟨a_, b_, c_, d_⟩ := rxcBTW_2_0 hP hin I0 hI l8 u8 l9 u9 l10 u10 f0 e0
  exact ⟨a_, b_, ⟨c_, (by
    have g18 := e0
    refine ⟨hx.1, Or.inl ⟨by omega, rfl⟩, by omega, fun b c hC hW => ?_⟩
    have g := hx.2 b c hC hW
    rw [if_pos (by omega)] at g
    rw [if_pos rfl]
    exact g)⟩, d_⟩
theorem rxgBTK_2_0 {X : (Nat → Int → Int) → Prop} {S0 : Nat → Int → Int} {ws : List Int} (hP : rxPBTK S0 ws) : bx_obC rxL X S0 rxCBTK.2.2.1 (rxIBTK S0 ws) (rxmBTK S0 ws) 2 rxzBTK_2 rxoBTK_2_0 := by
  intro S S_p r r_p hinv hX hin hsm_ hseg
  obtain ⟨I0, I1, h0_, hr_, b_, f_, d_⟩ := bx_cl (evs := [(0, (0, 480), (0, 18), .inr (0, (10, 0)))]) (fvs := [(3, (8, 0), (0, 0), (0, 0))]) hseg (by decide +kernel) (by decide +kernel)
  have hinv : rxIBTK_2 S0 ws S (r 8) (r 9) := hinv
  rw [← hr_ 8 (by decide), ← hr_ 9 (by decide)] at hinv
  obtain ⟨⟨l8, u8⟩, ⟨l9, u9⟩, ⟨l10, u10⟩, -⟩ := b_
  obtain ⟨f0, -⟩ := f_
  obtain ⟨e0, w_⟩ := d_
  subst w_
  have g := rxcBTK_2_0 hP hin I0 hinv l8 u8 l9 u9 l10 u10 f0 e0
  refine ⟨bx_narP_ok (l := []) g.1, bx_nfP_ok h0_ (fvs := []) (by decide +kernel) g.2.1, ?_, ?_⟩
  · show rxIBTK_3 S0 ws S_p (bx_val [(0, 0), (0, 0), (0, 0), (0, 0), (0, 0), (0, 0), (0, 0), (0, 0), (8, 0), (0, 29), (10, 0)] r_p 8) (bx_val [(0, 0), (0, 0), (0, 0), (0, 0), (0, 0), (0, 0), (0, 0), (0, 0), (8, 0), (0, 29), (10, 0)] r_p 9) (bx_val [(0, 0), (0, 0), (0, 0), (0, 0), (0, 0), (0, 0), (0, 0), (0, 0), (8, 0), (0, 29), (10, 0)] r_p 10)
    rw [bx_val_x (n := 8) (e := (8, 0)) h0_ rfl, bx_val_x (n := 9) (e := (0, 29)) h0_ rfl, bx_val_x (n := 10) (e := (10, 0)) h0_ rfl]
    exact g.2.2.1
  · show rxmBTK_3 S0 ws S_p (bx_val [(0, 0), (0, 0), (0, 0), (0, 0), (0, 0), (0, 0), (0, 0), (0, 0), (8, 0), (0, 29), (10, 0)] r_p 8) (bx_val [(0, 0), (0, 0), (0, 0), (0, 0), (0, 0), (0, 0), (0, 0), (0, 0), (8, 0), (0, 29), (10, 0)] r_p 9) (bx_val [(0, 0), (0, 0), (0, 0), (0, 0), (0, 0), (0, 0), (0, 0), (0, 0), (8, 0), (0, 29), (10, 0)] r_p 10) < rxmBTK_2 S0 ws S_p (r 8) (r 9)
    rw [bx_val_x (n := 8) (e := (8, 0)) h0_ rfl, bx_val_x (n := 9) (e := (0, 29)) h0_ rfl, bx_val_x (n := 10) (e := (10, 0)) h0_ rfl, ← hr_ 8 (by decide), ← hr_ 9 (by decide)]
    exact g.2.2.2
theorem rxcBTK_2_1 {S0 : Nat → Int → Int} {ws : List Int} {S : Nat → Int → Int} {an bd x10 : Int} (hP : rxPBTK S0 ws) (hin : bx_same rxL (bx_mdl rxCBTK.2.2.1) S0 S) (I0 : bx_Inv rxL S) (hinv : rxIBTK_2 S0 ws S an bd) (l8 : 0 ≤ an) (u8 : an ≤ 0) (l9 : 1 ≤ bd) (u9 : bd ≤ 2) (l10 : 0 ≤ x10) (u10 : x10 ≤ 400) (e0 : S 480 18 = x10) : (True) ∧ (True) ∧ rxIBTK_3 S0 ws S an 30 x10 ∧ rxmBTK_3 S0 ws S an 30 x10 < rxmBTK_2 S0 ws S an bd := by
  obtain ⟨hI, hx⟩ := hinv
  obtain ⟨a_, b_, c_, d_⟩ := rxcBTW_2_1 hP hin I0 hI l8 u8 l9 u9 l10 u10 e0
  exact ⟨a_, b_, ⟨c_, (by
    have g18 := e0
    refine ⟨hx.1, Or.inr ⟨by omega, rfl⟩, by omega, fun b c hC hW => ?_⟩
    have g := hx.2 b c hC hW
    rw [if_neg (by omega)] at g
    rw [if_neg (by decide)]
    exact g)⟩, d_⟩
theorem rxgBTK_2_1 {X : (Nat → Int → Int) → Prop} {S0 : Nat → Int → Int} {ws : List Int} (hP : rxPBTK S0 ws) : bx_obC rxL X S0 rxCBTK.2.2.1 (rxIBTK S0 ws) (rxmBTK S0 ws) 2 rxzBTK_2 rxoBTK_2_1 := by
  intro S S_p r r_p hinv hX hin hsm_ hseg
  obtain ⟨I0, I1, h0_, hr_, b_, f_, d_⟩ := bx_cl (evs := [(0, (0, 480), (0, 18), .inr (0, (10, 0)))]) (fvs := []) hseg (by decide +kernel) (by decide +kernel)
  have hinv : rxIBTK_2 S0 ws S (r 8) (r 9) := hinv
  rw [← hr_ 8 (by decide), ← hr_ 9 (by decide)] at hinv
  obtain ⟨⟨l8, u8⟩, ⟨l9, u9⟩, ⟨l10, u10⟩, -⟩ := b_
  obtain ⟨e0, w_⟩ := d_
  subst w_
  have g := rxcBTK_2_1 hP hin I0 hinv l8 u8 l9 u9 l10 u10 e0
  refine ⟨bx_narP_ok (l := []) g.1, bx_nfP_ok h0_ (fvs := []) (by decide +kernel) g.2.1, ?_, ?_⟩
  · show rxIBTK_3 S0 ws S_p (bx_val [(0, 0), (0, 0), (0, 0), (0, 0), (0, 0), (0, 0), (0, 0), (0, 0), (8, 0), (0, 30), (10, 0)] r_p 8) (bx_val [(0, 0), (0, 0), (0, 0), (0, 0), (0, 0), (0, 0), (0, 0), (0, 0), (8, 0), (0, 30), (10, 0)] r_p 9) (bx_val [(0, 0), (0, 0), (0, 0), (0, 0), (0, 0), (0, 0), (0, 0), (0, 0), (8, 0), (0, 30), (10, 0)] r_p 10)
    rw [bx_val_x (n := 8) (e := (8, 0)) h0_ rfl, bx_val_x (n := 9) (e := (0, 30)) h0_ rfl, bx_val_x (n := 10) (e := (10, 0)) h0_ rfl]
    exact g.2.2.1
  · show rxmBTK_3 S0 ws S_p (bx_val [(0, 0), (0, 0), (0, 0), (0, 0), (0, 0), (0, 0), (0, 0), (0, 0), (8, 0), (0, 30), (10, 0)] r_p 8) (bx_val [(0, 0), (0, 0), (0, 0), (0, 0), (0, 0), (0, 0), (0, 0), (0, 0), (8, 0), (0, 30), (10, 0)] r_p 9) (bx_val [(0, 0), (0, 0), (0, 0), (0, 0), (0, 0), (0, 0), (0, 0), (0, 0), (8, 0), (0, 30), (10, 0)] r_p 10) < rxmBTK_2 S0 ws S_p (r 8) (r 9)
    rw [bx_val_x (n := 8) (e := (8, 0)) h0_ rfl, bx_val_x (n := 9) (e := (0, 30)) h0_ rfl, bx_val_x (n := 10) (e := (10, 0)) h0_ rfl, ← hr_ 8 (by decide), ← hr_ 9 (by decide)]
    exact g.2.2.2
theorem rxcBTK_4_0 {S0 : Nat → Int → Int} {ws : List Int} {S : Nat → Int → Int} {an op n : Int} (hP : rxPBTK S0 ws) (hin : bx_same rxL (bx_mdl rxCBTK.2.2.1) S0 S) (I0 : bx_Inv rxL S) (hinv : rxIBTK_4 S0 ws S an op n) (l8 : 1 ≤ an) (u8 : an ≤ 1) (l9 : 29 ≤ op) (u9 : op ≤ 30) (l10 : 0 ≤ n) (u10 : n ≤ 400) (f0 : an ≠ 0) : (True) ∧ (True) ∧ rxIBTK_5 S0 ws S an 29 ∧ rxmBTK_5 S0 ws S an 29 < rxmBTK_4 S0 ws S an op n := by
  obtain ⟨hI, hx⟩ := hinv
  obtain ⟨a_, b_, c_, d_⟩ := rxcBTW_4_0 hP hin I0 hI l8 u8 l9 u9 l10 u10 f0
  exact ⟨a_, b_, ⟨c_, (by
    have ho : op = 29 := by have := hx.2.1; omega
    subst ho
    exact hx)⟩, d_⟩
theorem rxgBTK_4_0 {X : (Nat → Int → Int) → Prop} {S0 : Nat → Int → Int} {ws : List Int} (hP : rxPBTK S0 ws) : bx_obC rxL X S0 rxCBTK.2.2.1 (rxIBTK S0 ws) (rxmBTK S0 ws) 4 rxzBTK_4 rxoBTK_4_0 := by
  intro S S_p r r_p hinv hX hin hsm_ hseg
  obtain ⟨I0, I1, h0_, hr_, b_, f_, d_⟩ := bx_cl (evs := []) (fvs := [(3, (8, 0), (0, 0), (0, 0))]) hseg (by decide +kernel) (by decide +kernel)
  have hinv : rxIBTK_4 S0 ws S (r 8) (r 9) (r 10) := hinv
  rw [← hr_ 8 (by decide), ← hr_ 9 (by decide), ← hr_ 10 (by decide)] at hinv
  obtain ⟨⟨l8, u8⟩, ⟨l9, u9⟩, ⟨l10, u10⟩, -⟩ := b_
  obtain ⟨f0, -⟩ := f_
  have w_ := d_
  subst w_
  have g := rxcBTK_4_0 hP hin I0 hinv l8 u8 l9 u9 l10 u10 f0
  refine ⟨bx_narP_ok (l := []) g.1, bx_nfP_ok h0_ (fvs := []) (by decide +kernel) g.2.1, ?_, ?_⟩
  · show rxIBTK_5 S0 ws S_p (bx_val [(0, 0), (0, 0), (0, 0), (0, 0), (0, 0), (0, 0), (0, 0), (0, 0), (8, 0), (0, 29)] r_p 8) (bx_val [(0, 0), (0, 0), (0, 0), (0, 0), (0, 0), (0, 0), (0, 0), (0, 0), (8, 0), (0, 29)] r_p 9)
    rw [bx_val_x (n := 8) (e := (8, 0)) h0_ rfl, bx_val_x (n := 9) (e := (0, 29)) h0_ rfl]
    exact g.2.2.1
  · show rxmBTK_5 S0 ws S_p (bx_val [(0, 0), (0, 0), (0, 0), (0, 0), (0, 0), (0, 0), (0, 0), (0, 0), (8, 0), (0, 29)] r_p 8) (bx_val [(0, 0), (0, 0), (0, 0), (0, 0), (0, 0), (0, 0), (0, 0), (0, 0), (8, 0), (0, 29)] r_p 9) < rxmBTK_4 S0 ws S_p (r 8) (r 9) (r 10)
    rw [bx_val_x (n := 8) (e := (8, 0)) h0_ rfl, bx_val_x (n := 9) (e := (0, 29)) h0_ rfl, ← hr_ 8 (by decide), ← hr_ 9 (by decide), ← hr_ 10 (by decide)]
    exact g.2.2.2
theorem rxcBTK_4_1 {S0 : Nat → Int → Int} {ws : List Int} {S : Nat → Int → Int} {an op n : Int} (hP : rxPBTK S0 ws) (hin : bx_same rxL (bx_mdl rxCBTK.2.2.1) S0 S) (I0 : bx_Inv rxL S) (hinv : rxIBTK_4 S0 ws S an op n) (l8 : 0 ≤ an) (u8 : an ≤ 0) (l9 : 29 ≤ op) (u9 : op ≤ 30) (l10 : 0 ≤ n) (u10 : n ≤ 400) : (True) ∧ (True) ∧ rxIBTK_5 S0 ws S an 30 ∧ rxmBTK_5 S0 ws S an 30 < rxmBTK_4 S0 ws S an op n := by
  obtain ⟨hI, hx⟩ := hinv
  obtain ⟨a_, b_, c_, d_⟩ := rxcBTW_4_1 hP hin I0 hI l8 u8 l9 u9 l10 u10
  exact ⟨a_, b_, ⟨c_, (by
    have ho : op = 30 := by have := hx.2.1; omega
    subst ho
    exact hx)⟩, d_⟩
theorem rxgBTK_4_1 {X : (Nat → Int → Int) → Prop} {S0 : Nat → Int → Int} {ws : List Int} (hP : rxPBTK S0 ws) : bx_obC rxL X S0 rxCBTK.2.2.1 (rxIBTK S0 ws) (rxmBTK S0 ws) 4 rxzBTK_4 rxoBTK_4_1 := by
  intro S S_p r r_p hinv hX hin hsm_ hseg
  obtain ⟨I0, I1, h0_, hr_, b_, f_, d_⟩ := bx_cl (evs := []) (fvs := []) hseg (by decide +kernel) (by decide +kernel)
  have hinv : rxIBTK_4 S0 ws S (r 8) (r 9) (r 10) := hinv
  rw [← hr_ 8 (by decide), ← hr_ 9 (by decide), ← hr_ 10 (by decide)] at hinv
  obtain ⟨⟨l8, u8⟩, ⟨l9, u9⟩, ⟨l10, u10⟩, -⟩ := b_
  have w_ := d_
  subst w_
  have g := rxcBTK_4_1 hP hin I0 hinv l8 u8 l9 u9 l10 u10
  refine ⟨bx_narP_ok (l := []) g.1, bx_nfP_ok h0_ (fvs := []) (by decide +kernel) g.2.1, ?_, ?_⟩
  · show rxIBTK_5 S0 ws S_p (bx_val [(0, 0), (0, 0), (0, 0), (0, 0), (0, 0), (0, 0), (0, 0), (0, 0), (8, 0), (0, 30)] r_p 8) (bx_val [(0, 0), (0, 0), (0, 0), (0, 0), (0, 0), (0, 0), (0, 0), (0, 0), (8, 0), (0, 30)] r_p 9)
    rw [bx_val_x (n := 8) (e := (8, 0)) h0_ rfl, bx_val_x (n := 9) (e := (0, 30)) h0_ rfl]
    exact g.2.2.1
  · show rxmBTK_5 S0 ws S_p (bx_val [(0, 0), (0, 0), (0, 0), (0, 0), (0, 0), (0, 0), (0, 0), (0, 0), (8, 0), (0, 30)] r_p 8) (bx_val [(0, 0), (0, 0), (0, 0), (0, 0), (0, 0), (0, 0), (0, 0), (0, 0), (8, 0), (0, 30)] r_p 9) < rxmBTK_4 S0 ws S_p (r 8) (r 9) (r 10)
    rw [bx_val_x (n := 8) (e := (8, 0)) h0_ rfl, bx_val_x (n := 9) (e := (0, 30)) h0_ rfl, ← hr_ 8 (by decide), ← hr_ 9 (by decide), ← hr_ 10 (by decide)]
    exact g.2.2.2
theorem rxcBTK_6_0 {S0 : Nat → Int → Int} {ws : List Int} {S : Nat → Int → Int} {an op : Int} (hP : rxPBTK S0 ws) (hin : bx_same rxL (bx_mdl rxCBTK.2.2.1) S0 S) (I0 : bx_Inv rxL S) (hinv : rxIBTK_6 S0 ws S an op) (l8 : 0 ≤ an) (u8 : an ≤ 1) (l9 : 29 ≤ op) (u9 : op ≤ 30) : (True) ∧ (True) ∧ rxIBTK_7 S0 ws S an ∧ rxmBTK_7 S0 ws S an < rxmBTK_6 S0 ws S an op := by
  obtain ⟨hI, hx⟩ := hinv
  obtain ⟨a_, b_, c_, d_⟩ := rxcBTW_6_0 hP hin I0 hI l8 u8 l9 u9
  exact ⟨a_, b_, ⟨c_, hx⟩, d_⟩
theorem rxgBTK_6_0 {X : (Nat → Int → Int) → Prop} {S0 : Nat → Int → Int} {ws : List Int} (hP : rxPBTK S0 ws) : bx_obC rxL X S0 rxCBTK.2.2.1 (rxIBTK S0 ws) (rxmBTK S0 ws) 6 rxzBTK_6 rxoBTK_6_0 := by
  intro S S_p r r_p hinv hX hin hsm_ hseg
  obtain ⟨I0, I1, h0_, hr_, b_, f_, d_⟩ := bx_cl (evs := []) (fvs := []) hseg (by decide +kernel) (by decide +kernel)
  have hinv : rxIBTK_6 S0 ws S (r 8) (r 9) := hinv
  rw [← hr_ 8 (by decide), ← hr_ 9 (by decide)] at hinv
  obtain ⟨⟨l8, u8⟩, ⟨l9, u9⟩, -⟩ := b_
  have w_ := d_
  subst w_
  have g := rxcBTK_6_0 hP hin I0 hinv l8 u8 l9 u9
  refine ⟨bx_narP_ok (l := []) g.1, bx_nfP_ok h0_ (fvs := []) (by decide +kernel) g.2.1, ?_, ?_⟩
  · show rxIBTK_7 S0 ws S_p (bx_val [(0, 0), (0, 0), (0, 0), (0, 0), (0, 0), (0, 0), (0, 0), (0, 0), (8, 0)] r_p 8)
    rw [bx_val_x (n := 8) (e := (8, 0)) h0_ rfl]
    exact g.2.2.1
  · show rxmBTK_7 S0 ws S_p (bx_val [(0, 0), (0, 0), (0, 0), (0, 0), (0, 0), (0, 0), (0, 0), (0, 0), (8, 0)] r_p 8) < rxmBTK_6 S0 ws S_p (r 8) (r 9)
    rw [bx_val_x (n := 8) (e := (8, 0)) h0_ rfl, ← hr_ 8 (by decide), ← hr_ 9 (by decide)]
    exact g.2.2.2
theorem rxdBTK_8_0 {S0 : Nat → Int → Int} {ws : List Int} {S : Nat → Int → Int} {an : Int} (hP : rxPBTK S0 ws) (hin : bx_same rxL (bx_mdl rxCBTK.2.2.1) S0 S) (hin2 : bx_same rxL (bx_mdl rxCBTK.2.2.1) S S) (I0 : bx_Inv rxL S) (I1 : bx_Inv rxL S) (hinv : rxIBTK_8 S0 ws S an) (l8 : 0 ≤ an) (u8 : an ≤ 1) : (True) ∧ rxPSBTK S0 ws S (some 0) := by
  obtain ⟨hI, hx⟩ := hinv
  obtain ⟨a_, c_⟩ := rxdBTW_8_0 hP hin hin2 I0 I1 hI l8 u8
  exact ⟨a_, c_, hx⟩
theorem rxfBTK_8_0 {X : (Nat → Int → Int) → Prop} {S0 : Nat → Int → Int} {ws : List Int} (hP : rxPBTK S0 ws) : bx_obE rxL X S0 rxCBTK.2.2.1 (rxIBTK S0 ws) (rxPSBTK S0 ws) 8 rxzBTK_8 rxeBTK_8_0 := by
  intro S S_p r r_p hinv hX hin hsm_ hseg
  obtain ⟨I0, I1, h0_, hr_, b_, f_, d_⟩ := bx_cl (evs := []) (fvs := []) hseg (by decide +kernel) (by decide +kernel)
  have hinv : rxIBTK_8 S0 ws S (r 8) := hinv
  rw [← hr_ 8 (by decide)] at hinv
  obtain ⟨⟨l8, u8⟩, -⟩ := b_
  have w_ := d_
  subst w_
  have g := rxdBTK_8_0 hP hin hsm_ I0 I1 hinv l8 u8
  refine ⟨bx_narP_ok (l := []) g.1, ?_⟩
  show rxPSBTK S0 ws S_p (some (bx_num r_p (.inr (0, (0, 0)))))
  rw [bx_xv_ok h0_]
  exact g.2
theorem rxcBTK_10_0 {S0 : Nat → Int → Int} {ws : List Int} {S : Nat → Int → Int} {its : Int} (hP : rxPBTK S0 ws) (hin : bx_same rxL (bx_mdl rxCBTK.2.2.1) S0 S) (I0 : bx_Inv rxL S) (hinv : rxIBTK_10 S0 ws S its) (l8 : 0 ≤ its) (u8 : its ≤ 32) (f0 : its ≠ (-1)) : (True) ∧ (True) ∧ rxIBTK_11 S0 ws S ∧ rxmBTK_11 S0 ws S < rxmBTK_10 S0 ws S its := by
  obtain ⟨hI, hx⟩ := hinv
  obtain ⟨a_, b_, c_, d_⟩ := rxcBTW_10_0 hP hin I0 hI l8 u8 f0
  exact ⟨a_, b_, ⟨c_, trivial⟩, d_⟩
theorem rxgBTK_10_0 {X : (Nat → Int → Int) → Prop} {S0 : Nat → Int → Int} {ws : List Int} (hP : rxPBTK S0 ws) : bx_obC rxL X S0 rxCBTK.2.2.1 (rxIBTK S0 ws) (rxmBTK S0 ws) 10 rxzBTK_10 rxoBTK_10_0 := by
  intro S S_p r r_p hinv hX hin hsm_ hseg
  obtain ⟨I0, I1, h0_, hr_, b_, f_, d_⟩ := bx_cl (evs := []) (fvs := [(3, (8, 0), (0, (-1)), (0, 0))]) hseg (by decide +kernel) (by decide +kernel)
  have hinv : rxIBTK_10 S0 ws S (r 8) := hinv
  rw [← hr_ 8 (by decide)] at hinv
  obtain ⟨⟨l8, u8⟩, -⟩ := b_
  obtain ⟨f0, -⟩ := f_
  have w_ := d_
  subst w_
  have g := rxcBTK_10_0 hP hin I0 hinv l8 u8 f0
  refine ⟨bx_narP_ok (l := []) g.1, bx_nfP_ok h0_ (fvs := []) (by decide +kernel) g.2.1, ?_, ?_⟩
  · show rxIBTK_11 S0 ws S_p
    exact g.2.2.1
  · show rxmBTK_11 S0 ws S_p < rxmBTK_10 S0 ws S_p (r 8)
    rw [← hr_ 8 (by decide)]
    exact g.2.2.2
theorem rxdBTK_10_0 {S0 : Nat → Int → Int} {ws : List Int} {S : Nat → Int → Int} {its : Int} (hP : rxPBTK S0 ws) (hin : bx_same rxL (bx_mdl rxCBTK.2.2.1) S0 S) (hin2 : bx_same rxL (bx_mdl rxCBTK.2.2.1) S S) (I0 : bx_Inv rxL S) (I1 : bx_Inv rxL S) (hinv : rxIBTK_10 S0 ws S its) (l8 : (-1) ≤ its) (u8 : its ≤ (-1)) : (True) ∧ rxPSBTK S0 ws S (some 4) := by
  obtain ⟨hI, hx⟩ := hinv
  obtain ⟨a_, c_⟩ := rxdBTW_10_0 hP hin hin2 I0 I1 hI l8 u8
  exact ⟨a_, c_, (by
    intro c hD tst s rest r hc z14 zne
    have e := hI.1.1
    subst e
    exact absurd rfl zne)⟩
theorem rxfBTK_10_0 {X : (Nat → Int → Int) → Prop} {S0 : Nat → Int → Int} {ws : List Int} (hP : rxPBTK S0 ws) : bx_obE rxL X S0 rxCBTK.2.2.1 (rxIBTK S0 ws) (rxPSBTK S0 ws) 10 rxzBTK_10 rxeBTK_10_0 := by
  intro S S_p r r_p hinv hX hin hsm_ hseg
  obtain ⟨I0, I1, h0_, hr_, b_, f_, d_⟩ := bx_cl (evs := []) (fvs := []) hseg (by decide +kernel) (by decide +kernel)
  have hinv : rxIBTK_10 S0 ws S (r 8) := hinv
  rw [← hr_ 8 (by decide)] at hinv
  obtain ⟨⟨l8, u8⟩, -⟩ := b_
  have w_ := d_
  subst w_
  have g := rxdBTK_10_0 hP hin hsm_ I0 I1 hinv l8 u8
  refine ⟨bx_narP_ok (l := []) g.1, ?_⟩
  show rxPSBTK S0 ws S_p (some (bx_num r_p (.inr (0, (0, 4)))))
  rw [bx_xv_ok h0_]
  exact g.2
theorem rxcBTK_13_0 {S0 : Nat → Int → Int} {ws : List Int} {S : Nat → Int → Int} {is x9 : Int} (hP : rxPBTK S0 ws) (hin : bx_same rxL (bx_mdl rxCBTK.2.2.1) S0 S) (I0 : bx_Inv rxL S) (hinv : rxIBTK_13 S0 ws S is) (l8 : 0 ≤ is) (u8 : is ≤ 1) (l9 : 0 ≤ x9) (u9 : x9 ≤ 0) (e0 : S 480 14 = x9) : (True) ∧ (True) ∧ rxIBTK_14 S0 ws S ∧ rxmBTK_14 S0 ws S < rxmBTK_13 S0 ws S is := by
  obtain ⟨hI, hx⟩ := hinv
  obtain ⟨a_, b_, c_, d_⟩ := rxcBTW_13_0 hP hin I0 hI l8 u8 l9 u9 e0
  exact ⟨a_, b_, ⟨c_, hx⟩, d_⟩
theorem rxgBTK_13_0 {X : (Nat → Int → Int) → Prop} {S0 : Nat → Int → Int} {ws : List Int} (hP : rxPBTK S0 ws) : bx_obC rxL X S0 rxCBTK.2.2.1 (rxIBTK S0 ws) (rxmBTK S0 ws) 13 rxzBTK_13 rxoBTK_13_0 := by
  intro S S_p r r_p hinv hX hin hsm_ hseg
  obtain ⟨I0, I1, h0_, hr_, b_, f_, d_⟩ := bx_cl (evs := [(0, (0, 480), (0, 14), .inr (0, (9, 0)))]) (fvs := []) hseg (by decide +kernel) (by decide +kernel)
  have hinv : rxIBTK_13 S0 ws S (r 8) := hinv
  rw [← hr_ 8 (by decide)] at hinv
  obtain ⟨⟨l8, u8⟩, ⟨l9, u9⟩, -⟩ := b_
  obtain ⟨e0, w_⟩ := d_
  subst w_
  have g := rxcBTK_13_0 hP hin I0 hinv l8 u8 l9 u9 e0
  refine ⟨bx_narP_ok (l := []) g.1, bx_nfP_ok h0_ (fvs := []) (by decide +kernel) g.2.1, ?_, ?_⟩
  · show rxIBTK_14 S0 ws S_p
    exact g.2.2.1
  · show rxmBTK_14 S0 ws S_p < rxmBTK_13 S0 ws S_p (r 8)
    rw [← hr_ 8 (by decide)]
    exact g.2.2.2
theorem rxdBTK_13_0 {S0 : Nat → Int → Int} {ws : List Int} {S : Nat → Int → Int} {is x9 : Int} (hP : rxPBTK S0 ws) (hin : bx_same rxL (bx_mdl rxCBTK.2.2.1) S0 S) (hin2 : bx_same rxL (bx_mdl rxCBTK.2.2.1) S S) (I0 : bx_Inv rxL S) (I1 : bx_Inv rxL S) (hinv : rxIBTK_13 S0 ws S is) (l8 : 0 ≤ is) (u8 : is ≤ 1) (l9 : 1 ≤ x9) (u9 : x9 ≤ 1) (f0 : x9 ≠ 0) (e0 : S 480 14 = x9) : (True) ∧ rxPSBTK S0 ws S (some 2) := by
  obtain ⟨hI, hx⟩ := hinv
  obtain ⟨a_, c_⟩ := rxdBTW_13_0 hP hin hin2 I0 I1 hI l8 u8 l9 u9 f0 e0
  exact ⟨a_, c_, (by
    intro c hD tst s rest r hc z14
    exact absurd z14 (by omega))⟩
theorem rxfBTK_13_0 {X : (Nat → Int → Int) → Prop} {S0 : Nat → Int → Int} {ws : List Int} (hP : rxPBTK S0 ws) : bx_obE rxL X S0 rxCBTK.2.2.1 (rxIBTK S0 ws) (rxPSBTK S0 ws) 13 rxzBTK_13 rxeBTK_13_0 := by
  intro S S_p r r_p hinv hX hin hsm_ hseg
  obtain ⟨I0, I1, h0_, hr_, b_, f_, d_⟩ := bx_cl (evs := [(0, (0, 480), (0, 14), .inr (0, (9, 0)))]) (fvs := [(3, (9, 0), (0, 0), (0, 0))]) hseg (by decide +kernel) (by decide +kernel)
  have hinv : rxIBTK_13 S0 ws S (r 8) := hinv
  rw [← hr_ 8 (by decide)] at hinv
  obtain ⟨⟨l8, u8⟩, ⟨l9, u9⟩, -⟩ := b_
  obtain ⟨f0, -⟩ := f_
  obtain ⟨e0, w_⟩ := d_
  subst w_
  have g := rxdBTK_13_0 hP hin hsm_ I0 I1 hinv l8 u8 l9 u9 f0 e0
  refine ⟨bx_narP_ok (l := []) g.1, ?_⟩
  show rxPSBTK S0 ws S_p (some (bx_num r_p (.inr (0, (0, 2)))))
  rw [bx_xv_ok h0_]
  exact g.2
theorem rxcBTK_15_0 {S0 : Nat → Int → Int} {ws : List Int} {S : Nat → Int → Int} {x8 : Int} (hP : rxPBTK S0 ws) (hin : bx_same rxL (bx_mdl rxCBTK.2.2.1) S0 S) (I0 : bx_Inv rxL S) (hinv : rxIBTK_15 S0 ws S) (l8 : 0 ≤ x8) (u8 : x8 ≤ 400) (e0 : S 480 24 = x8) : ((1 ≤ x8 ∧ x8 ≤ 400) ∧ True) ∧ (True) ∧ rxIBTK_16 S0 ws S x8 ∧ rxmBTK_16 S0 ws S x8 < rxmBTK_15 S0 ws S := by
  obtain ⟨hI, hx⟩ := hinv
  obtain ⟨a_, b_, c_, d_⟩ := rxcBTW_15_0 hP hin I0 hI l8 u8 e0
  exact ⟨a_, b_, ⟨c_, hx⟩, d_⟩
theorem rxgBTK_15_0 {X : (Nat → Int → Int) → Prop} {S0 : Nat → Int → Int} {ws : List Int} (hP : rxPBTK S0 ws) : bx_obC rxL X S0 rxCBTK.2.2.1 (rxIBTK S0 ws) (rxmBTK S0 ws) 15 rxzBTK_15 rxoBTK_15_0 := by
  intro S S_p r r_p hinv hX hin hsm_ hseg
  obtain ⟨I0, I1, h0_, hr_, b_, f_, d_⟩ := bx_cl (evs := [(0, (0, 480), (0, 24), .inr (0, (8, 0)))]) (fvs := []) hseg (by decide +kernel) (by decide +kernel)
  have hinv : rxIBTK_15 S0 ws S := hinv
  obtain ⟨⟨l8, u8⟩, -⟩ := b_
  obtain ⟨e0, w_⟩ := d_
  subst w_
  have g := rxcBTK_15_0 hP hin I0 hinv l8 u8 e0
  refine ⟨bx_narP_ok (l := [(8, 1, 400)]) g.1, bx_nfP_ok h0_ (fvs := []) (by decide +kernel) g.2.1, ?_, ?_⟩
  · show rxIBTK_16 S0 ws S_p (bx_val [(0, 0), (0, 0), (0, 0), (0, 0), (0, 0), (0, 0), (0, 0), (0, 0), (8, 0)] r_p 8)
    rw [bx_val_x (n := 8) (e := (8, 0)) h0_ rfl]
    exact g.2.2.1
  · show rxmBTK_16 S0 ws S_p (bx_val [(0, 0), (0, 0), (0, 0), (0, 0), (0, 0), (0, 0), (0, 0), (0, 0), (8, 0)] r_p 8) < rxmBTK_15 S0 ws S_p
    rw [bx_val_x (n := 8) (e := (8, 0)) h0_ rfl]
    exact g.2.2.2
theorem rxcBTK_16_0 {S0 : Nat → Int → Int} {ws : List Int} {S : Nat → Int → Int} {pn x9 : Int} (hP : rxPBTK S0 ws) (hin : bx_same rxL (bx_mdl rxCBTK.2.2.1) S0 S) (I0 : bx_Inv rxL S) (hinv : rxIBTK_16 S0 ws S pn) (l8 : 1 ≤ pn) (u8 : pn ≤ 400) (l9 : 0 ≤ x9) (u9 : x9 ≤ 8) (e0 : (bx_up S 480 24 (pn + (-1))) 480 25 = x9) : ((1 ≤ x9 ∧ x9 ≤ 8) ∧ True) ∧ (True) ∧ rxIBTK_17 S0 ws (bx_up S 480 24 (pn + (-1))) x9 ∧ rxmBTK_17 S0 ws (bx_up S 480 24 (pn + (-1))) x9 < rxmBTK_16 S0 ws S pn := by
  obtain ⟨hI, hx⟩ := hinv
  obtain ⟨a_, b_, c_, d_⟩ := rxcBTW_16_0 hP hin I0 hI l8 u8 l9 u9 e0
  exact ⟨a_, b_, ⟨c_, (by
    intro b c hC hW
    obtain ⟨g1, g2⟩ := hx b c hC hW
    have e := g1.2.2.1
    obtain ⟨hpn, -⟩ := hI.1
    have q_ := rkMd_pop (S_p := (bx_up S 480 24 (pn + (-1)))) g1 (by omega) ((bx_up_at).trans (by omega)) ((bx_up_ne (by omega))) (fun j => ⟨(bx_up_ne (by omega)), (bx_up_ne (by omega))⟩) (fun j => ⟨(bx_up_ne (by omega)), (bx_up_ne (by omega))⟩)
    exact ⟨q_.1, g2.tr q_.2⟩)⟩, d_⟩
theorem rxgBTK_16_0 {X : (Nat → Int → Int) → Prop} {S0 : Nat → Int → Int} {ws : List Int} (hP : rxPBTK S0 ws) : bx_obC rxL X S0 rxCBTK.2.2.1 (rxIBTK S0 ws) (rxmBTK S0 ws) 16 rxzBTK_16 rxoBTK_16_0 := by
  intro S S_p r r_p hinv hX hin hsm_ hseg
  obtain ⟨I0, I1, h0_, hr_, b_, f_, d_⟩ := bx_cl (evs := [(0, (0, 480), (0, 25), .inr (0, (9, 0))), (1, (0, 480), (0, 24), .inr (0, (8, (-1))))]) (fvs := []) hseg (by decide +kernel) (by decide +kernel)
  have hinv : rxIBTK_16 S0 ws S (r 8) := hinv
  rw [← hr_ 8 (by decide)] at hinv
  obtain ⟨⟨l8, u8⟩, ⟨l9, u9⟩, -⟩ := b_
  obtain ⟨e0, ⟨T1, w_, w1⟩⟩ := d_
  subst w1
  subst w_
  have g := rxcBTK_16_0 hP hin I0 hinv l8 u8 l9 u9 e0
  refine ⟨bx_narP_ok (l := [(9, 1, 8)]) g.1, bx_nfP_ok h0_ (fvs := []) (by decide +kernel) g.2.1, ?_, ?_⟩
  · show rxIBTK_17 S0 ws (bx_up T1 480 (24) (r_p 8 + (-1))) (bx_val [(0, 0), (0, 0), (0, 0), (0, 0), (0, 0), (0, 0), (0, 0), (0, 0), (9, 0)] r_p 8)
    rw [bx_val_x (n := 8) (e := (9, 0)) h0_ rfl]
    exact g.2.2.1
  · show rxmBTK_17 S0 ws (bx_up T1 480 (24) (r_p 8 + (-1))) (bx_val [(0, 0), (0, 0), (0, 0), (0, 0), (0, 0), (0, 0), (0, 0), (0, 0), (9, 0)] r_p 8) < rxmBTK_16 S0 ws T1 (r 8)
    rw [bx_val_x (n := 8) (e := (9, 0)) h0_ rfl, ← hr_ 8 (by decide)]
    exact g.2.2.2
theorem rxdBTK_17_0 {S0 : Nat → Int → Int} {ws : List Int} {S : Nat → Int → Int} {q : Int} (hP : rxPBTK S0 ws) (hin : bx_same rxL (bx_mdl rxCBTK.2.2.1) S0 S) (hin2 : bx_same rxL (bx_mdl rxCBTK.2.2.1) S (bx_up S 480 25 (q + (-1)))) (I0 : bx_Inv rxL S) (I1 : bx_Inv rxL (bx_up S 480 25 (q + (-1)))) (hinv : rxIBTK_17 S0 ws S q) (l8 : 1 ≤ q) (u8 : q ≤ 8) : (True) ∧ rxPSBTK S0 ws (bx_up S 480 25 (q + (-1))) (some 2) := by
  obtain ⟨hI, hx⟩ := hinv
  obtain ⟨a_, c_⟩ := rxdBTW_17_0 hP hin hin2 I0 I1 hI l8 u8
  exact ⟨a_, c_, (by
    intro c hD tst s rest r hc z14 zne b cc hC hW
    obtain ⟨hb, h14, hh⟩ := hI.2
    have g41 := (hh hD).1
    obtain ⟨g1, g2⟩ := hx b cc hC hW
    have q_ := rkMd_ne (S_p := (bx_up S 480 25 (q + (-1)))) g1 ((bx_up_ne (by omega))) ((bx_up_ne (by omega))) (fun j => ⟨(bx_up_ne (by omega)), (bx_up_ne (by omega))⟩) (fun j => ⟨(bx_up_ne (by omega)), (bx_up_ne (by omega))⟩)
    obtain ⟨its, hi, i1⟩ := hb
    have hr : rest ≠ [] := by
      rcases rzBr_in r.2.2 r.1 hi with q | q | q
      · omega
      · exact q.1
      · exact q.1
    rw [rkSt_cl (Or.inr ⟨hr, hc, g41⟩)]
    exact ⟨q_.1, g2.tr q_.2⟩)⟩
theorem rxfBTK_17_0 {X : (Nat → Int → Int) → Prop} {S0 : Nat → Int → Int} {ws : List Int} (hP : rxPBTK S0 ws) : bx_obE rxL X S0 rxCBTK.2.2.1 (rxIBTK S0 ws) (rxPSBTK S0 ws) 17 rxzBTK_17 rxeBTK_17_0 := by
  intro S S_p r r_p hinv hX hin hsm_ hseg
  obtain ⟨I0, I1, h0_, hr_, b_, f_, d_⟩ := bx_cl (evs := [(1, (0, 480), (0, 25), .inr (0, (8, (-1))))]) (fvs := []) hseg (by decide +kernel) (by decide +kernel)
  have hinv : rxIBTK_17 S0 ws S (r 8) := hinv
  rw [← hr_ 8 (by decide)] at hinv
  obtain ⟨⟨l8, u8⟩, -⟩ := b_
  obtain ⟨T0, w_, w0⟩ := d_
  subst w0
  subst w_
  have g := rxdBTK_17_0 hP hin hsm_ I0 I1 hinv l8 u8
  refine ⟨bx_narP_ok (l := []) g.1, ?_⟩
  show rxPSBTK S0 ws (bx_up T0 480 (25) (r_p 8 + (-1))) (some (bx_num r_p (.inr (0, (0, 2)))))
  rw [bx_xv_ok h0_]
  exact g.2
theorem rxgCBTK {X : (Nat → Int → Int) → Prop} {S0 : Nat → Int → Int} {ws : List Int} (hP : rxPBTK S0 ws) : bx_allI (fun i q => rxUBTK q = true ∨ bx_allP (fun o => bx_obC rxL X S0 rxCBTK.2.2.1 (rxIBTK S0 ws) (rxmBTK S0 ws) i q.1 o) q.2.1) 0 rxYBTK := ⟨Or.inr ⟨rxgBTK_0_0 hP, rxgBTK_0_1 hP, rxgBTK_0_2 hP, rxgBTK_0_3 hP, trivial⟩, Or.inl rfl, Or.inr ⟨rxgBTK_2_0 hP, rxgBTK_2_1 hP, trivial⟩, Or.inl rfl, Or.inr ⟨rxgBTK_4_0 hP, rxgBTK_4_1 hP, trivial⟩, Or.inl rfl, Or.inr ⟨rxgBTK_6_0 hP, trivial⟩, Or.inl rfl, Or.inr trivial, Or.inl rfl, Or.inr ⟨rxgBTK_10_0 hP, trivial⟩, Or.inl rfl, Or.inl rfl, Or.inr ⟨rxgBTK_13_0 hP, trivial⟩, Or.inl rfl, Or.inr ⟨rxgBTK_15_0 hP, trivial⟩, Or.inr ⟨rxgBTK_16_0 hP, trivial⟩, Or.inr trivial, trivial⟩
theorem rxgEBTK {X : (Nat → Int → Int) → Prop} {S0 : Nat → Int → Int} {ws : List Int} (hP : rxPBTK S0 ws) : bx_allI (fun i q => rxUBTK q = true ∨ bx_allP (fun E => bx_obE rxL X S0 rxCBTK.2.2.1 (rxIBTK S0 ws) (rxPSBTK S0 ws) i q.1 E) q.2.2) 0 rxYBTK := ⟨Or.inr trivial, Or.inl rfl, Or.inr trivial, Or.inl rfl, Or.inr trivial, Or.inl rfl, Or.inr trivial, Or.inl rfl, Or.inr ⟨rxfBTK_8_0 hP, trivial⟩, Or.inl rfl, Or.inr ⟨rxfBTK_10_0 hP, trivial⟩, Or.inl rfl, Or.inl rfl, Or.inr ⟨rxfBTK_13_0 hP, trivial⟩, Or.inl rfl, Or.inr trivial, Or.inr trivial, Or.inr ⟨rxfBTK_17_0 hP, trivial⟩, trivial⟩
theorem rxuBTK {PX : State → Prop} {Dg : va_G} {A : Nat → Prop} {ad xa : Nat → Nat} {l : Launch} {X : (Nat → Int → Int) → Prop} (hPX : rx_PXOK rxNW A PX) (hX : ∀ S S1 : Nat → Int → Int, X S → bx_same rxL (bx_mdl rxCBTK.2.2.1) S S1 → X S1) (hQSTK : bx_ConP rxG rxNW rxAO PX Dg rxL X vwCl A ad l rxM275 rxCSTK rxPSTK rxPSSTK) (hQPU : bx_ConP rxG rxNW rxAO PX Dg rxL X vwCl A ad l rxM268 rxCPU rxPPU rxPSPU) (hQEM : bx_ConP rxG rxNW rxAO PX Dg rxL X vwCl A ad l rxM266 rxCEM rxPEM rxPSEM) (hQNXX : bx_ConP rxG rxNW rxAO PX Dg rxL X vwCl A ad l rxM264 rxCNXX rxPNXX rxPSNXX) (hQIN : bx_ConP rxG rxNW rxAO PX Dg rxL X vwCl A ad l rxM276 rxCIN rxPIN rxPSIN) (hQISW : bx_ConP rxG rxNW rxAO PX Dg rxL X vwCl A ad l rxM269 rxCISW rxPISW rxPSISW) (hQMUW : bx_ConP rxG rxNW rxAO PX Dg rxL X vwCl A ad l rxM265 rxCMUW rxPMUW rxPSMUW) {S0 : Nat → Int → Int} {ws : List Int} (hP : rxPBTK S0 ws) : ∀ (i : Nat) (q : bx_HE), rxYBTK[i]? = some q → rxUBTK q = true → ∀ {p : Program} {e : Env} {R : Room} {s : State} {m : MethodId} {args : Array Value} {below : List Frame} {meth : Method} {c : Code} {Q : State → Prop} {H0 : Heap}, rx_Fr rxG rxNW rxAO PX p s m args meth c rxM280 → (∀ q, H0.size ≤ q → A q) → H0 = s.heap → rxM280.2.2.2.2.2.2.1 ≤ R.cells → rxM280.2.2.2.2.2.2.2 ≤ R.slots → rxCBTK.2.2.2.1 ≤ R.frames → rxCBTK.2.2.2.1 * 40 ≤ R.locals → bx_Step p l e R s m args below meth c Q Dg rxL X vwCl A xa H0 ad rxM280 rxYBTK (rxIBTK S0 ws) (rxmBTK S0 ws) S0 rxCBTK.2.2.1 i q := by
  intro i q hq hus p e R s m args below meth c Q H0 hF hA hH0 hmc hms hd hdl
  match i, hq with
  | 0, hq =>
    cases hq
    exact absurd (show false = true from hus) Bool.false_ne_true
  | 1, hq =>
    cases hq
    exact rx_stepC (ins := .invokevirtual 347) (len := 3) (i_p := 2) (M_p := rxM275) (d := rxCBTK.2.2.2.1) (as := [.inr (3, (0, 480)), .inr (0, (9, 0))]) (t := []) (ct := rxCSTK) hPX hF rfl hA hH0 hmc hms hd hdl (by decide +kernel) rfl rfl (by decide +kernel) (by decide +kernel) hQSTK (by decide +kernel) rfl (Or.inl ⟨rfl, rfl, rfl⟩) (rxsBTK_1 hP)
  | 2, hq =>
    cases hq
    exact absurd (show false = true from hus) Bool.false_ne_true
  | 3, hq =>
    cases hq
    exact rx_stepC (ins := .invokevirtual 314) (len := 3) (i_p := 4) (M_p := rxM268) (d := rxCBTK.2.2.2.1) (as := [.inr (3, (0, 480)), .inr (0, (9, 0)), .inr (0, (10, 0))]) (t := []) (ct := rxCPU) hPX hF rfl hA hH0 hmc hms hd hdl (by decide +kernel) rfl rfl (by decide +kernel) (by decide +kernel) hQPU (by decide +kernel) rfl (Or.inl ⟨rfl, rfl, rfl⟩) (rxsBTK_3 hP)
  | 4, hq =>
    cases hq
    exact absurd (show false = true from hus) Bool.false_ne_true
  | 5, hq =>
    cases hq
    exact rx_stepC (ins := .invokevirtual 297) (len := 3) (i_p := 6) (M_p := rxM266) (d := rxCBTK.2.2.2.1) (as := [.inr (3, (0, 480)), .inr (0, (9, 0)), .inr (0, (0, 0))]) (t := []) (ct := rxCEM) hPX hF rfl hA hH0 hmc hms hd hdl (by decide +kernel) rfl rfl (by decide +kernel) (by decide +kernel) hQEM (by decide +kernel) rfl (Or.inl ⟨rfl, rfl, rfl⟩) (rxsBTK_5 hP)
  | 6, hq =>
    cases hq
    exact absurd (show false = true from hus) Bool.false_ne_true
  | 7, hq =>
    cases hq
    exact rx_stepC (ins := .invokevirtual 253) (len := 3) (i_p := 8) (M_p := rxM264) (d := rxCBTK.2.2.2.1) (as := [.inr (3, (0, 480))]) (t := []) (ct := rxCNXX) hPX hF rfl hA hH0 hmc hms hd hdl (by decide +kernel) rfl rfl (by decide +kernel) (by decide +kernel) hQNXX (by decide +kernel) rfl (Or.inl ⟨rfl, rfl, rfl⟩) (rxsBTK_7 hP)
  | 8, hq =>
    cases hq
    exact absurd (show false = true from hus) Bool.false_ne_true
  | 9, hq =>
    cases hq
    exact rx_stepC (ins := .invokevirtual 350) (len := 3) (i_p := 10) (M_p := rxM276) (d := rxCBTK.2.2.2.1) (as := [.inr (3, (0, 480))]) (t := []) (ct := rxCIN) hPX hF rfl hA hH0 hmc hms hd hdl (by decide +kernel) rfl rfl (by decide +kernel) (by decide +kernel) hQIN (by decide +kernel) rfl (Or.inr ⟨_, _, _, 1, rfl, rfl, by omega, rfl, rfl, rfl⟩) (rxsBTK_9 hP)
  | 10, hq =>
    cases hq
    exact absurd (show false = true from hus) Bool.false_ne_true
  | 11, hq =>
    cases hq
    exact rx_stepC (ins := .invokevirtual 320) (len := 3) (i_p := 12) (M_p := rxM269) (d := rxCBTK.2.2.2.1) (as := [.inr (3, (0, 480)), .inr (0, (0, 41))]) (t := [.inr (3, (0, 480))]) (ct := rxCISW) hPX hF rfl hA hH0 hmc hms hd hdl (by decide +kernel) rfl rfl (by decide +kernel) (by decide +kernel) hQISW (by decide +kernel) rfl (Or.inr ⟨_, _, _, 1, rfl, rfl, by omega, rfl, rfl, rfl⟩) (rxsBTK_11 hP)
  | 12, hq =>
    cases hq
    exact rx_stepC (ins := .invokevirtual 284) (len := 3) (i_p := 13) (M_p := rxM265) (d := rxCBTK.2.2.2.1) (as := [.inr (3, (0, 480)), .inr (0, (8, 0))]) (t := []) (ct := rxCMUW) hPX hF rfl hA hH0 hmc hms hd hdl (by decide +kernel) rfl rfl (by decide +kernel) (by decide +kernel) hQMUW (by decide +kernel) rfl (Or.inl ⟨rfl, rfl, rfl⟩) (rxsBTK_12 hP)
  | 13, hq =>
    cases hq
    exact absurd (show false = true from hus) Bool.false_ne_true
  | 14, hq =>
    cases hq
    exact rx_stepC (ins := .invokevirtual 347) (len := 3) (i_p := 15) (M_p := rxM275) (d := rxCBTK.2.2.2.1) (as := [.inr (3, (0, 480)), .inr (0, (0, 1))]) (t := []) (ct := rxCSTK) hPX hF rfl hA hH0 hmc hms hd hdl (by decide +kernel) rfl rfl (by decide +kernel) (by decide +kernel) hQSTK (by decide +kernel) rfl (Or.inl ⟨rfl, rfl, rfl⟩) (rxsBTK_14 hP)
  | 15, hq =>
    cases hq
    exact absurd (show false = true from hus) Bool.false_ne_true
  | 16, hq =>
    cases hq
    exact absurd (show false = true from hus) Bool.false_ne_true
  | 17, hq =>
    cases hq
    exact absurd (show false = true from hus) Bool.false_ne_true
  | n + 18, hq => cases hq
theorem rxQBTK {PX : State → Prop} {Dg : va_G} {A : Nat → Prop} {ad xa : Nat → Nat} {l : Launch} {X : (Nat → Int → Int) → Prop} (hPX : rx_PXOK rxNW A PX) (hsl : ∀ s : State, PX s → ∀ o idx n : Nat, rxSl o idx = some n → ∃ tx : String, vk_R (rxNm o) idx tx (ad n) s)
    (hX : ∀ S S_p : Nat → Int → Int, X S → bx_same rxL (bx_mdl rxCBTK.2.2.1) S S_p → X S_p)
    (ih : ∀ (j2 : Nat) (ct2 : bx_Ct) (M2 : rx_Mt), ct2 ∈ rxCnE j2 → ct2.2.2.2.1 + 1 ≤ rxCBTK.2.2.2.1 → rxT.2.2.2.2.2 j2 = some M2 → bx_Con rxG rxNW rxAO PX Dg rxL X vwCl A ad l M2 ct2) (hQSTK : bx_ConP rxG rxNW rxAO PX Dg rxL X vwCl A ad l rxM275 rxCSTK rxPSTK rxPSSTK) (hQPU : bx_ConP rxG rxNW rxAO PX Dg rxL X vwCl A ad l rxM268 rxCPU rxPPU rxPSPU) (hQEM : bx_ConP rxG rxNW rxAO PX Dg rxL X vwCl A ad l rxM266 rxCEM rxPEM rxPSEM) (hQNXX : bx_ConP rxG rxNW rxAO PX Dg rxL X vwCl A ad l rxM264 rxCNXX rxPNXX rxPSNXX) (hQIN : bx_ConP rxG rxNW rxAO PX Dg rxL X vwCl A ad l rxM276 rxCIN rxPIN rxPSIN) (hQISW : bx_ConP rxG rxNW rxAO PX Dg rxL X vwCl A ad l rxM269 rxCISW rxPISW rxPSISW) (hQMUW : bx_ConP rxG rxNW rxAO PX Dg rxL X vwCl A ad l rxM265 rxCMUW rxPMUW rxPSMUW) : bx_ConP rxG rxNW rxAO PX Dg rxL X vwCl A ad l rxM280 rxCBTK rxPBTK rxPSBTK :=
  rxQof (xa := xa) (Cn := rxCnE) (f := 30000) (j := 280) (tab := rxYBTK) (us := rxUBTK) hPX hsl hX ih rfl rxYcBTK rxIBTK rxmBTK
    (fun S0 ws r I0 I ht0 ht as he he1 hX0 hI0 hP hs ha => by
      have e := he.symm.trans (show bx_ent0 rxNP rxCBTK.1 bx_I0 [] = some ([(0, 0), (0, 0), (0, 0), (0, 0), (0, 0), (0, 0), (0, 0), (0, 0)], [], [.inr (3, (0, 480))]) from rfl)
      cases e
      subst ha
      have h0 : r 0 = 0 := hs.1
      show rxIBTK_0 S0 _ S0
      refine ⟨⟨⟨rfl, ?_⟩, trivial⟩, trivial⟩
      simp only [List.map_cons, List.map_nil, bx_xv_ok h0]
      rfl)
    (fun S0 ws hP => rxuBTK (xa := xa) hPX hX hQSTK hQPU hQEM hQNXX hQIN hQISW hQMUW hP) (fun S0 ws hP => rxgCBTK hP) (fun S0 ws hP => rxgEBTK hP)
