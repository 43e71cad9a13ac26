noncomputable def rxCSTK : bx_Ct := ([(3, (1, 480, 0)), (0, (0, 1, 6))], none, [(12, 18), (12, 24), (1068, 0), (1069, 0)], 1, [])
noncomputable def rxISTK_0 (S0 : Nat → Int → Int) (ws : List Int) (S : Nat → Int → Int) (least : Int) : Prop := rxIST_0 S0 ws S least ∧ True
noncomputable def rxmSTK_0 (S0 : Nat → Int → Int) (ws : List Int) (S : Nat → Int → Int) (least : Int) : Nat := rxmST_0 S0 ws S least
noncomputable def rxzSTK_0 : rx_Z := ([(0, 0), (0, 0), (0, 0), (0, 0), (0, 0), (0, 0), (0, 0), (0, 0), (1, 6)], [], [], 0, 0, 0, [(0, .inr (3, (0, 480))), (1, .inr (0, (8, 0)))], [])
noncomputable def rxISTK_1 (S0 : Nat → Int → Int) (ws : List Int) (S : Nat → Int → Int) (least : Int) : Prop := rxIST_1 S0 ws S least ∧ rkMr S0 S least
noncomputable def rxmSTK_1 (S0 : Nat → Int → Int) (ws : List Int) (S : Nat → Int → Int) (least : Int) : Nat := rxmST_1 S0 ws S least
noncomputable def rxzSTK_1 : rx_Z := ([(0, 0), (0, 0), (0, 0), (0, 0), (0, 0), (0, 0), (0, 0), (0, 0), (1, 6)], [], [], 0, 0, 0, [(0, .inr (3, (0, 480))), (1, .inr (0, (8, 0)))], [])
noncomputable def rxISTK_2 (S0 : Nat → Int → Int) (ws : List Int) (S : Nat → Int → Int) (least p : Int) : Prop := rxIST_2 S0 ws S least p ∧ rkMr S0 S least
noncomputable def rxmSTK_2 (S0 : Nat → Int → Int) (ws : List Int) (S : Nat → Int → Int) (least p : Int) : Nat := rxmST_2 S0 ws S least p
noncomputable def rxzSTK_2 : rx_Z := ([(0, 0), (0, 0), (0, 0), (0, 0), (0, 0), (0, 0), (0, 0), (0, 0), (1, 6), (1, 400)], [], [(((0, 480), 24), .inr (0, (9, 0)))], 0, 0, 25, [(0, .inr (3, (0, 480))), (1, .inr (0, (8, 0)))], [])
noncomputable def rxISTK_3 (S0 : Nat → Int → Int) (ws : List Int) (S : Nat → Int → Int) (least y n : Int) : Prop := rxIST_3 S0 ws S least y n ∧ rkMr S0 (rkBk S) least
noncomputable def rxmSTK_3 (S0 : Nat → Int → Int) (ws : List Int) (S : Nat → Int → Int) (least y n : Int) : Nat := rxmST_3 S0 ws S least y n
noncomputable def rxzSTK_3 : rx_Z := ([(0, 0), (0, 0), (0, 0), (0, 0), (0, 0), (0, 0), (0, 0), (0, 0), (1, 6), (0, 399), (0, 400)], [], [], 0, 0, 80, [(0, .inr (3, (0, 480))), (1, .inr (0, (8, 0)))], [.inr (0, (10, 0)), .inr (0, (9, 0)), .inr (3, (0, 488))])
noncomputable def rxISTK_4 (S0 : Nat → Int → Int) (ws : List Int) (S : Nat → Int → Int) (least op : Int) : Prop := rxIST_4 S0 ws S least op ∧ rkMr S0 (rkBk S) least
noncomputable def rxmSTK_4 (S0 : Nat → Int → Int) (ws : List Int) (S : Nat → Int → Int) (least op : Int) : Nat := rxmST_4 S0 ws S least op
noncomputable def rxzSTK_4 : rx_Z := ([(0, 0), (0, 0), (0, 0), (0, 0), (0, 0), (0, 0), (0, 0), (0, 0), (1, 6), (0, 30)], [], [], 0, 0, 95, [(0, .inr (3, (0, 480))), (1, .inr (0, (8, 0)))], [.inr (0, (0, 0)), .inr (0, (9, 0)), .inr (3, (0, 480))])
noncomputable def rxISTK_5 (S0 : Nat → Int → Int) (ws : List Int) (S : Nat → Int → Int) (least op : Int) : Prop := rxIST_5 S0 ws S least op ∧ rkMr S0 S least
noncomputable def rxmSTK_5 (S0 : Nat → Int → Int) (ws : List Int) (S : Nat → Int → Int) (least op : Int) : Nat := rxmST_5 S0 ws S least op
noncomputable def rxzSTK_5 : rx_Z := ([(0, 0), (0, 0), (0, 0), (0, 0), (0, 0), (0, 0), (0, 0), (0, 0), (1, 6), (0, 30)], [], [], 0, 0, 98, [(0, .inr (3, (0, 480))), (1, .inr (0, (8, 0)))], [])
noncomputable def rxoSTK_0_0 : bx_HO := (([(0, 0), (0, 0), (0, 0), (0, 0), (0, 0), (0, 0), (0, 0), (0, 0), (1, 5), (1, 400), (0, 21)], [(3, (10, 0), (0, 28)), (3, (10, 0), (0, 29)), (3, (10, 0), (0, 30))], [(((0, 0), 1851192626986356797223661186461964305852737083915409897513091072000000), .inr (0, (10, 0))), (((0, 480), 22), .inr (3, (0, 489))), (((0, 0), 1851192626986356802241301293259633916682733161918089263128248320000000), .inr (0, (9, 0))), (((0, 480), 24), .inr (0, (9, 0)))], 0, 0, 25, [(0, .inr (3, (0, 480))), (1, .inr (0, (8, 0)))], []), [], [], [(0, 0), (0, 0), (0, 0), (0, 0), (0, 0), (0, 0), (0, 0), (0, 0), (8, 0), (9, 0)], 2)
noncomputable def rxoSTK_0_1 : bx_HO := (([(0, 0), (0, 0), (0, 0), (0, 0), (0, 0), (0, 0), (0, 0), (0, 0), (1, 6), (1, 400), (22, 24)], [(3, (10, 0), (0, 28)), (3, (10, 0), (0, 29)), (3, (10, 0), (0, 30))], [(((0, 0), 1851192626986356797223661186461964305852737083915409897513091072000000), .inr (0, (10, 0))), (((0, 480), 22), .inr (3, (0, 489))), (((0, 0), 1851192626986356802241301293259633916682733161918089263128248320000000), .inr (0, (9, 0))), (((0, 480), 24), .inr (0, (9, 0)))], 0, 0, 25, [(0, .inr (3, (0, 480))), (1, .inr (0, (8, 0)))], []), [], [], [(0, 0), (0, 0), (0, 0), (0, 0), (0, 0), (0, 0), (0, 0), (0, 0), (8, 0), (9, 0)], 2)
noncomputable def rxoSTK_0_2 : bx_HO := (([(0, 0), (0, 0), (0, 0), (0, 0), (0, 0), (0, 0), (0, 0), (0, 0), (1, 4), (1, 400), (25, 27)], [(3, (10, 0), (0, 28)), (3, (10, 0), (0, 29)), (3, (10, 0), (0, 30))], [(((0, 0), 1851192626986356797223661186461964305852737083915409897513091072000000), .inr (0, (10, 0))), (((0, 480), 22), .inr (3, (0, 489))), (((0, 0), 1851192626986356802241301293259633916682733161918089263128248320000000), .inr (0, (9, 0))), (((0, 480), 24), .inr (0, (9, 0)))], 0, 0, 25, [(0, .inr (3, (0, 480))), (1, .inr (0, (8, 0)))], []), [], [], [(0, 0), (0, 0), (0, 0), (0, 0), (0, 0), (0, 0), (0, 0), (0, 0), (8, 0), (9, 0)], 2)
noncomputable def rxoSTK_0_3 : bx_HO := (([(0, 0), (0, 0), (0, 0), (0, 0), (0, 0), (0, 0), (0, 0), (0, 0), (1, 3), (1, 400), (28, 28)], [(3, (10, 0), (0, 29)), (3, (10, 0), (0, 30))], [(((0, 0), 1851192626986356797223661186461964305852737083915409897513091072000000), .inr (0, (10, 0))), (((0, 480), 22), .inr (3, (0, 489))), (((0, 0), 1851192626986356802241301293259633916682733161918089263128248320000000), .inr (0, (9, 0))), (((0, 480), 24), .inr (0, (9, 0)))], 0, 0, 25, [(0, .inr (3, (0, 480))), (1, .inr (0, (8, 0)))], []), [], [], [(0, 0), (0, 0), (0, 0), (0, 0), (0, 0), (0, 0), (0, 0), (0, 0), (8, 0), (9, 0)], 2)
noncomputable def rxoSTK_0_4 : bx_HO := (([(0, 0), (0, 0), (0, 0), (0, 0), (0, 0), (0, 0), (0, 0), (0, 0), (1, 2), (1, 400), (29, 29)], [(3, (10, 0), (0, 30))], [(((0, 0), 1851192626986356797223661186461964305852737083915409897513091072000000), .inr (0, (10, 0))), (((0, 480), 22), .inr (3, (0, 489))), (((0, 0), 1851192626986356802241301293259633916682733161918089263128248320000000), .inr (0, (9, 0))), (((0, 480), 24), .inr (0, (9, 0)))], 0, 0, 25, [(0, .inr (3, (0, 480))), (1, .inr (0, (8, 0)))], []), [], [], [(0, 0), (0, 0), (0, 0), (0, 0), (0, 0), (0, 0), (0, 0), (0, 0), (8, 0), (9, 0)], 2)
noncomputable def rxoSTK_0_5 : bx_HO := (([(0, 0), (0, 0), (0, 0), (0, 0), (0, 0), (0, 0), (0, 0), (0, 0), (1, 1), (1, 400), (30, 30)], [], [(((0, 0), 1851192626986356797223661186461964305852737083915409897513091072000000), .inr (0, (10, 0))), (((0, 480), 22), .inr (3, (0, 489))), (((0, 0), 1851192626986356802241301293259633916682733161918089263128248320000000), .inr (0, (9, 0))), (((0, 480), 24), .inr (0, (9, 0)))], 0, 0, 25, [(0, .inr (3, (0, 480))), (1, .inr (0, (8, 0)))], []), [], [], [(0, 0), (0, 0), (0, 0), (0, 0), (0, 0), (0, 0), (0, 0), (0, 0), (8, 0), (9, 0)], 2)
noncomputable def rxeSTK_0_0 : rx_End × List (Nat × Int × Int) := (([(0, 0), (0, 0), (0, 0), (0, 0), (0, 0), (0, 0), (0, 0), (0, 0), (6, 6), (1, 400), (0, 21)], [(3, (10, 0), (0, 28)), (3, (10, 0), (0, 29)), (3, (10, 0), (0, 30))], [(((0, 0), 1851192626986356797223661186461964305852737083915409897513091072000000), .inr (0, (10, 0))), (((0, 480), 22), .inr (3, (0, 489))), (((0, 0), 1851192626986356802241301293259633916682733161918089263128248320000000), .inr (0, (9, 0))), (((0, 480), 24), .inr (0, (9, 0)))], none), [])
noncomputable def rxeSTK_0_1 : rx_End × List (Nat × Int × Int) := (([(0, 0), (0, 0), (0, 0), (0, 0), (0, 0), (0, 0), (0, 0), (0, 0), (5, 6), (1, 400), (25, 27)], [(3, (10, 0), (0, 28)), (3, (10, 0), (0, 29)), (3, (10, 0), (0, 30))], [(((0, 0), 1851192626986356797223661186461964305852737083915409897513091072000000), .inr (0, (10, 0))), (((0, 480), 22), .inr (3, (0, 489))), (((0, 0), 1851192626986356802241301293259633916682733161918089263128248320000000), .inr (0, (9, 0))), (((0, 480), 24), .inr (0, (9, 0)))], none), [])
noncomputable def rxeSTK_0_2 : rx_End × List (Nat × Int × Int) := (([(0, 0), (0, 0), (0, 0), (0, 0), (0, 0), (0, 0), (0, 0), (0, 0), (4, 6), (1, 400), (28, 28)], [(3, (10, 0), (0, 29)), (3, (10, 0), (0, 30))], [(((0, 0), 1851192626986356797223661186461964305852737083915409897513091072000000), .inr (0, (10, 0))), (((0, 480), 22), .inr (3, (0, 489))), (((0, 0), 1851192626986356802241301293259633916682733161918089263128248320000000), .inr (0, (9, 0))), (((0, 480), 24), .inr (0, (9, 0)))], none), [])
noncomputable def rxeSTK_0_3 : rx_End × List (Nat × Int × Int) := (([(0, 0), (0, 0), (0, 0), (0, 0), (0, 0), (0, 0), (0, 0), (0, 0), (3, 6), (1, 400), (29, 29)], [(3, (10, 0), (0, 30))], [(((0, 0), 1851192626986356797223661186461964305852737083915409897513091072000000), .inr (0, (10, 0))), (((0, 480), 22), .inr (3, (0, 489))), (((0, 0), 1851192626986356802241301293259633916682733161918089263128248320000000), .inr (0, (9, 0))), (((0, 480), 24), .inr (0, (9, 0)))], none), [])
noncomputable def rxeSTK_0_4 : rx_End × List (Nat × Int × Int) := (([(0, 0), (0, 0), (0, 0), (0, 0), (0, 0), (0, 0), (0, 0), (0, 0), (2, 6), (1, 400), (30, 30)], [], [(((0, 0), 1851192626986356797223661186461964305852737083915409897513091072000000), .inr (0, (10, 0))), (((0, 480), 22), .inr (3, (0, 489))), (((0, 0), 1851192626986356802241301293259633916682733161918089263128248320000000), .inr (0, (9, 0))), (((0, 480), 24), .inr (0, (9, 0)))], none), [])
noncomputable def rxeSTK_0_5 : rx_End × List (Nat × Int × Int) := (([(0, 0), (0, 0), (0, 0), (0, 0), (0, 0), (0, 0), (0, 0), (0, 0), (1, 6), (1, 400), (31, 32)], [], [(((0, 0), 1851192626986356797223661186461964305852737083915409897513091072000000), .inr (0, (10, 0))), (((0, 480), 22), .inr (3, (0, 489))), (((0, 0), 1851192626986356802241301293259633916682733161918089263128248320000000), .inr (0, (9, 0))), (((0, 480), 24), .inr (0, (9, 0)))], none), [])
noncomputable def rxeSTK_0_6 : rx_End × List (Nat × Int × Int) := (([(0, 0), (0, 0), (0, 0), (0, 0), (0, 0), (0, 0), (0, 0), (0, 0), (1, 6), (0, 0)], [], [(((0, 0), 1851192626986356802241301293259633916682733161918089263128248320000000), .inr (0, (9, 0))), (((0, 480), 24), .inr (0, (9, 0)))], none), [])
noncomputable def rxoSTK_1_0 : bx_HO := (([(0, 0), (0, 0), (0, 0), (0, 0), (0, 0), (0, 0), (0, 0), (0, 0), (1, 5), (1, 400), (0, 21)], [(3, (10, 0), (0, 28)), (3, (10, 0), (0, 29)), (3, (10, 0), (0, 30))], [(((0, 0), 1851192626986356797223661186461964305852737083915409897513091072000000), .inr (0, (10, 0))), (((0, 480), 22), .inr (3, (0, 489))), (((0, 0), 1851192626986356802241301293259633916682733161918089263128248320000000), .inr (0, (9, 0))), (((0, 480), 24), .inr (0, (9, 0)))], 0, 0, 25, [(0, .inr (3, (0, 480))), (1, .inr (0, (8, 0)))], []), [], [], [(0, 0), (0, 0), (0, 0), (0, 0), (0, 0), (0, 0), (0, 0), (0, 0), (8, 0), (9, 0)], 2)
noncomputable def rxoSTK_1_1 : bx_HO := (([(0, 0), (0, 0), (0, 0), (0, 0), (0, 0), (0, 0), (0, 0), (0, 0), (1, 6), (1, 400), (22, 24)], [(3, (10, 0), (0, 28)), (3, (10, 0), (0, 29)), (3, (10, 0), (0, 30))], [(((0, 0), 1851192626986356797223661186461964305852737083915409897513091072000000), .inr (0, (10, 0))), (((0, 480), 22), .inr (3, (0, 489))), (((0, 0), 1851192626986356802241301293259633916682733161918089263128248320000000), .inr (0, (9, 0))), (((0, 480), 24), .inr (0, (9, 0)))], 0, 0, 25, [(0, .inr (3, (0, 480))), (1, .inr (0, (8, 0)))], []), [], [], [(0, 0), (0, 0), (0, 0), (0, 0), (0, 0), (0, 0), (0, 0), (0, 0), (8, 0), (9, 0)], 2)
noncomputable def rxoSTK_1_2 : bx_HO := (([(0, 0), (0, 0), (0, 0), (0, 0), (0, 0), (0, 0), (0, 0), (0, 0), (1, 4), (1, 400), (25, 27)], [(3, (10, 0), (0, 28)), (3, (10, 0), (0, 29)), (3, (10, 0), (0, 30))], [(((0, 0), 1851192626986356797223661186461964305852737083915409897513091072000000), .inr (0, (10, 0))), (((0, 480), 22), .inr (3, (0, 489))), (((0, 0), 1851192626986356802241301293259633916682733161918089263128248320000000), .inr (0, (9, 0))), (((0, 480), 24), .inr (0, (9, 0)))], 0, 0, 25, [(0, .inr (3, (0, 480))), (1, .inr (0, (8, 0)))], []), [], [], [(0, 0), (0, 0), (0, 0), (0, 0), (0, 0), (0, 0), (0, 0), (0, 0), (8, 0), (9, 0)], 2)
noncomputable def rxoSTK_1_3 : bx_HO := (([(0, 0), (0, 0), (0, 0), (0, 0), (0, 0), (0, 0), (0, 0), (0, 0), (1, 3), (1, 400), (28, 28)], [(3, (10, 0), (0, 29)), (3, (10, 0), (0, 30))], [(((0, 0), 1851192626986356797223661186461964305852737083915409897513091072000000), .inr (0, (10, 0))), (((0, 480), 22), .inr (3, (0, 489))), (((0, 0), 1851192626986356802241301293259633916682733161918089263128248320000000), .inr (0, (9, 0))), (((0, 480), 24), .inr (0, (9, 0)))], 0, 0, 25, [(0, .inr (3, (0, 480))), (1, .inr (0, (8, 0)))], []), [], [], [(0, 0), (0, 0), (0, 0), (0, 0), (0, 0), (0, 0), (0, 0), (0, 0), (8, 0), (9, 0)], 2)
noncomputable def rxoSTK_1_4 : bx_HO := (([(0, 0), (0, 0), (0, 0), (0, 0), (0, 0), (0, 0), (0, 0), (0, 0), (1, 2), (1, 400), (29, 29)], [(3, (10, 0), (0, 30))], [(((0, 0), 1851192626986356797223661186461964305852737083915409897513091072000000), .inr (0, (10, 0))), (((0, 480), 22), .inr (3, (0, 489))), (((0, 0), 1851192626986356802241301293259633916682733161918089263128248320000000), .inr (0, (9, 0))), (((0, 480), 24), .inr (0, (9, 0)))], 0, 0, 25, [(0, .inr (3, (0, 480))), (1, .inr (0, (8, 0)))], []), [], [], [(0, 0), (0, 0), (0, 0), (0, 0), (0, 0), (0, 0), (0, 0), (0, 0), (8, 0), (9, 0)], 2)
noncomputable def rxoSTK_1_5 : bx_HO := (([(0, 0), (0, 0), (0, 0), (0, 0), (0, 0), (0, 0), (0, 0), (0, 0), (1, 1), (1, 400), (30, 30)], [], [(((0, 0), 1851192626986356797223661186461964305852737083915409897513091072000000), .inr (0, (10, 0))), (((0, 480), 22), .inr (3, (0, 489))), (((0, 0), 1851192626986356802241301293259633916682733161918089263128248320000000), .inr (0, (9, 0))), (((0, 480), 24), .inr (0, (9, 0)))], 0, 0, 25, [(0, .inr (3, (0, 480))), (1, .inr (0, (8, 0)))], []), [], [], [(0, 0), (0, 0), (0, 0), (0, 0), (0, 0), (0, 0), (0, 0), (0, 0), (8, 0), (9, 0)], 2)
noncomputable def rxeSTK_1_0 : rx_End × List (Nat × Int × Int) := (([(0, 0), (0, 0), (0, 0), (0, 0), (0, 0), (0, 0), (0, 0), (0, 0), (6, 6), (1, 400), (0, 21)], [(3, (10, 0), (0, 28)), (3, (10, 0), (0, 29)), (3, (10, 0), (0, 30))], [(((0, 0), 1851192626986356797223661186461964305852737083915409897513091072000000), .inr (0, (10, 0))), (((0, 480), 22), .inr (3, (0, 489))), (((0, 0), 1851192626986356802241301293259633916682733161918089263128248320000000), .inr (0, (9, 0))), (((0, 480), 24), .inr (0, (9, 0)))], none), [])
noncomputable def rxeSTK_1_1 : rx_End × List (Nat × Int × Int) := (([(0, 0), (0, 0), (0, 0), (0, 0), (0, 0), (0, 0), (0, 0), (0, 0), (5, 6), (1, 400), (25, 27)], [(3, (10, 0), (0, 28)), (3, (10, 0), (0, 29)), (3, (10, 0), (0, 30))], [(((0, 0), 1851192626986356797223661186461964305852737083915409897513091072000000), .inr (0, (10, 0))), (((0, 480), 22), .inr (3, (0, 489))), (((0, 0), 1851192626986356802241301293259633916682733161918089263128248320000000), .inr (0, (9, 0))), (((0, 480), 24), .inr (0, (9, 0)))], none), [])
noncomputable def rxeSTK_1_2 : rx_End × List (Nat × Int × Int) := (([(0, 0), (0, 0), (0, 0), (0, 0), (0, 0), (0, 0), (0, 0), (0, 0), (4, 6), (1, 400), (28, 28)], [(3, (10, 0), (0, 29)), (3, (10, 0), (0, 30))], [(((0, 0), 1851192626986356797223661186461964305852737083915409897513091072000000), .inr (0, (10, 0))), (((0, 480), 22), .inr (3, (0, 489))), (((0, 0), 1851192626986356802241301293259633916682733161918089263128248320000000), .inr (0, (9, 0))), (((0, 480), 24), .inr (0, (9, 0)))], none), [])
noncomputable def rxeSTK_1_3 : rx_End × List (Nat × Int × Int) := (([(0, 0), (0, 0), (0, 0), (0, 0), (0, 0), (0, 0), (0, 0), (0, 0), (3, 6), (1, 400), (29, 29)], [(3, (10, 0), (0, 30))], [(((0, 0), 1851192626986356797223661186461964305852737083915409897513091072000000), .inr (0, (10, 0))), (((0, 480), 22), .inr (3, (0, 489))), (((0, 0), 1851192626986356802241301293259633916682733161918089263128248320000000), .inr (0, (9, 0))), (((0, 480), 24), .inr (0, (9, 0)))], none), [])
noncomputable def rxeSTK_1_4 : rx_End × List (Nat × Int × Int) := (([(0, 0), (0, 0), (0, 0), (0, 0), (0, 0), (0, 0), (0, 0), (0, 0), (2, 6), (1, 400), (30, 30)], [], [(((0, 0), 1851192626986356797223661186461964305852737083915409897513091072000000), .inr (0, (10, 0))), (((0, 480), 22), .inr (3, (0, 489))), (((0, 0), 1851192626986356802241301293259633916682733161918089263128248320000000), .inr (0, (9, 0))), (((0, 480), 24), .inr (0, (9, 0)))], none), [])
noncomputable def rxeSTK_1_5 : rx_End × List (Nat × Int × Int) := (([(0, 0), (0, 0), (0, 0), (0, 0), (0, 0), (0, 0), (0, 0), (0, 0), (1, 6), (1, 400), (31, 32)], [], [(((0, 0), 1851192626986356797223661186461964305852737083915409897513091072000000), .inr (0, (10, 0))), (((0, 480), 22), .inr (3, (0, 489))), (((0, 0), 1851192626986356802241301293259633916682733161918089263128248320000000), .inr (0, (9, 0))), (((0, 480), 24), .inr (0, (9, 0)))], none), [])
noncomputable def rxeSTK_1_6 : rx_End × List (Nat × Int × Int) := (([(0, 0), (0, 0), (0, 0), (0, 0), (0, 0), (0, 0), (0, 0), (0, 0), (1, 6), (0, 0)], [], [(((0, 0), 1851192626986356802241301293259633916682733161918089263128248320000000), .inr (0, (9, 0))), (((0, 480), 24), .inr (0, (9, 0)))], none), [])
noncomputable def rxoSTK_2_0 : bx_HO := (([(0, 0), (0, 0), (0, 0), (0, 0), (0, 0), (0, 0), (0, 0), (0, 0), (1, 6), (1, 400), (0, 32), (30, 30), (0, 400), (0, 400)], [(3, (10, 0), (0, 29))], [(((0, 0), 1851192626986356801037061052538980267039804375195077741805305856000000), .inr (0, (13, 0))), (((0, 480), 18), .inr (0, (13, 0))), (((0, 0), 1851192626986356797223661186461964305852737083915409897513680896000000), .inr (0, (12, 0))), (((0, 480), 23), .inr (3, (0, 490))), (((0, 480), 20), .inr (3, (0, 488))), (((0, 0), 1851192626986356797223661186461964305852737083915409897513091072000000), .inr (0, (11, 0))), (((0, 0), 1851192626986356797223661186461964305852737083915409897513091072000000), .inr (0, (10, 0))), (((0, 480), 22), .inr (3, (0, 489))), (((0, 0), 1851192626986356802241301293259633916682733161918089263128248323000000), .inr (0, (9, (-1)))), (((0, 480), 24), .inr (0, (9, (-1))))], 0, 0, 80, [(0, .inr (3, (0, 480))), (1, .inr (0, (8, 0)))], [.inr (0, (13, 0)), .inr (0, (12, 0)), .inr (3, (0, 488))]), [(12, 0, 399)], [], [(0, 0), (0, 0), (0, 0), (0, 0), (0, 0), (0, 0), (0, 0), (0, 0), (8, 0), (12, 0), (13, 0)], 3)
noncomputable def rxoSTK_2_1 : bx_HO := (([(0, 0), (0, 0), (0, 0), (0, 0), (0, 0), (0, 0), (0, 0), (0, 0), (1, 6), (1, 400), (0, 32), (0, 32), (0, 32)], [(3, (11, 0), (0, 30)), (3, (10, 0), (0, 29))], [(((0, 0), 1851192626986356797223661186461964305852737083915409897513091072000000), .inr (0, (12, 0))), (((0, 0), 1851192626986356797223661186461964305852737083915409897513091072000000), .inr (0, (11, 0))), (((0, 0), 1851192626986356797223661186461964305852737083915409897513091072000000), .inr (0, (10, 0))), (((0, 480), 22), .inr (3, (0, 489))), (((0, 0), 1851192626986356802241301293259633916682733161918089263128248323000000), .inr (0, (9, (-1)))), (((0, 480), 24), .inr (0, (9, (-1))))], 0, 0, 95, [(0, .inr (3, (0, 480))), (1, .inr (0, (8, 0)))], [.inr (0, (0, 0)), .inr (0, (12, 0)), .inr (3, (0, 480))]), [(12, 0, 30)], [], [(0, 0), (0, 0), (0, 0), (0, 0), (0, 0), (0, 0), (0, 0), (0, 0), (8, 0), (12, 0)], 4)
noncomputable def rxoSTK_2_2 : bx_HO := (([(0, 0), (0, 0), (0, 0), (0, 0), (0, 0), (0, 0), (0, 0), (0, 0), (1, 6), (1, 400), (29, 29), (0, 400), (0, 400)], [], [(((0, 0), 1851192626986356801037061052538980267039804375195077741805305856000000), .inr (0, (12, 0))), (((0, 480), 18), .inr (0, (12, 0))), (((0, 0), 1851192626986356797223661186461964305852737083915409897513680896000000), .inr (0, (11, 0))), (((0, 480), 23), .inr (3, (0, 490))), (((0, 480), 20), .inr (3, (0, 488))), (((0, 0), 1851192626986356797223661186461964305852737083915409897513091072000000), .inr (0, (10, 0))), (((0, 480), 22), .inr (3, (0, 489))), (((0, 0), 1851192626986356802241301293259633916682733161918089263128248323000000), .inr (0, (9, (-1)))), (((0, 480), 24), .inr (0, (9, (-1))))], 0, 0, 80, [(0, .inr (3, (0, 480))), (1, .inr (0, (8, 0)))], [.inr (0, (12, 0)), .inr (0, (11, 0)), .inr (3, (0, 488))]), [(11, 0, 399)], [], [(0, 0), (0, 0), (0, 0), (0, 0), (0, 0), (0, 0), (0, 0), (0, 0), (8, 0), (11, 0), (12, 0)], 3)
noncomputable def rxoSTK_3_0 : bx_HO := (([(0, 0), (0, 0), (0, 0), (0, 0), (0, 0), (0, 0), (0, 0), (0, 0), (1, 6), (0, 399), (0, 400)], [], [(((0, 0), 1851192626986356797424367893248739914126558548369245151066324995000000), .inr (0, (10, 0)))], 0, 0, 0, [(0, .inr (3, (0, 480))), (1, .inr (0, (8, 0)))], []), [], [], [(0, 0), (0, 0), (0, 0), (0, 0), (0, 0), (0, 0), (0, 0), (0, 0), (8, 0)], 1)
noncomputable def rxoSTK_5_0 : bx_HO := (([(0, 0), (0, 0), (0, 0), (0, 0), (0, 0), (0, 0), (0, 0), (0, 0), (1, 6), (0, 30)], [], [], 0, 0, 0, [(0, .inr (3, (0, 480))), (1, .inr (0, (8, 0)))], []), [], [], [(0, 0), (0, 0), (0, 0), (0, 0), (0, 0), (0, 0), (0, 0), (0, 0), (8, 0)], 1)
noncomputable def rxYSTK : List bx_HE := [(rxzSTK_0, [rxoSTK_0_0, rxoSTK_0_1, rxoSTK_0_2, rxoSTK_0_3, rxoSTK_0_4, rxoSTK_0_5], [rxeSTK_0_0, rxeSTK_0_1, rxeSTK_0_2, rxeSTK_0_3, rxeSTK_0_4, rxeSTK_0_5, rxeSTK_0_6]), (rxzSTK_1, [rxoSTK_1_0, rxoSTK_1_1, rxoSTK_1_2, rxoSTK_1_3, rxoSTK_1_4, rxoSTK_1_5], [rxeSTK_1_0, rxeSTK_1_1, rxeSTK_1_2, rxeSTK_1_3, rxeSTK_1_4, rxeSTK_1_5, rxeSTK_1_6]), (rxzSTK_2, [rxoSTK_2_0, rxoSTK_2_1, rxoSTK_2_2], []), (rxzSTK_3, [rxoSTK_3_0], []), (rxzSTK_4, [], []), (rxzSTK_5, [rxoSTK_5_0], [])]
noncomputable def rxUSTK (q : bx_HE) : Bool := Nat.beq (rx_zpc q.1) 95
noncomputable def rxYBSTK : bx_B := (rxV, rxNP, rxDmf, bx_mdH rxCSTK.2.2.1)
set_option maxRecDepth 100000 in
theorem rxYcSTK : bx_chkH rxYBSTK rxM275 rxCSTK rxYSTK (rxUSTK, fun cut z => rx_ex2 (rxCT rxYBSTK rxCnE) cut 30000 rxCSTK.2.2.2.1 275 z) = true := by decide +kernel
noncomputable def rxISTK (S0 : Nat → Int → Int) (ws : List Int) (i : Nat) : bx_SP := fun S r => match i with | 0 => rxISTK_0 S0 ws S (r 8) | 1 => rxISTK_1 S0 ws S (r 8) | 2 => rxISTK_2 S0 ws S (r 8) (r 9) | 3 => rxISTK_3 S0 ws S (r 8) (r 9) (r 10) | 4 => rxISTK_4 S0 ws S (r 8) (r 9) | 5 => rxISTK_5 S0 ws S (r 8) (r 9) | _ => False
noncomputable def rxmSTK (S0 : Nat → Int → Int) (ws : List Int) (i : Nat) (S : Nat → Int → Int) (r : Nat → Int) : Nat := match i with | 0 => rxmSTK_0 S0 ws S (r 8) | 1 => rxmSTK_1 S0 ws S (r 8) | 2 => rxmSTK_2 S0 ws S (r 8) (r 9) | 3 => rxmSTK_3 S0 ws S (r 8) (r 9) (r 10) | 4 => rxmSTK_4 S0 ws S (r 8) (r 9) | 5 => rxmSTK_5 S0 ws S (r 8) (r 9) | _ => 0
noncomputable def rxPSTK (S0 : Nat → Int → Int) (ws : List Int) : Prop := rxPST S0 ws
noncomputable def rxPSSTK (S0 : Nat → Int → Int) (ws : List Int) (S : Nat → Int → Int) (w : Option Int) : Prop := w = none ∧ rxPSST S0 ws S w ∧ (∃ least : Int, ws = [480, least] ∧ rkMe S0 S least)
theorem rxkSTK_4 {S0 : Nat → Int → Int} {ws : List Int} {S : Nat → Int → Int} {least op : Int} (hP : rxPSTK S0 ws) (hin : bx_same rxL (bx_mdl rxCSTK.2.2.1) S0 S) (I0 : bx_Inv rxL S) (hinv : rxISTK_4 S0 ws S least op) (l8 : 1 ≤ least) (u8 : least ≤ 6) (l9 : 0 ≤ op) (u9 : op ≤ 30) : rxPEM S [480, op, 0] ∧ ∀ (S_p : Nat → Int → Int), rxPSEM S [480, op, 0] S_p none → bx_Inv rxL S_p → bx_same rxL (bx_mdl rxCEM.2.2.1) S S_p → rxISTK_5 S0 ws S_p least op ∧ rxmSTK_5 S0 ws S_p least op < rxmSTK_4 S0 ws S least op := by
  obtain ⟨hI, hx⟩ := hinv
  have g_ := rxkST_4 hP hin I0 hI l8 u8 l9 u9
  exact ⟨g_.1, fun S_p hq I1 hsm => ⟨⟨(g_.2 S_p hq I1 hsm).1, (by
    obtain ⟨S1, hs, hw, h1, e, hb, hj, e2⟩ := hI
    subst e
    rw [rkBk_at] at hx
    obtain ⟨-, op_p, arg_p, hw2, e⟩ := hq
    have ho : op = op_p := Option.some.inj (congrArg (fun l : List Int => l[1]?) hw2)
    have ha : (0 : Int) = arg_p := Option.some.inj (congrArg (fun l : List Int => l[2]?) hw2)
    subst ho
    subst ha
    rw [show bx_up S1 480 24 (S1 480 24 - 1) 480 18 = S1 480 18 from bx_up_ne (by omega)] at e
    subst e
    exact rkMr_step hx l8 h1 hb fun b c d w hn => rkMd_te d w hn hj e2)⟩, (g_.2 S_p hq I1 hsm).2⟩⟩
theorem rxsSTK_4 {X : (Nat → Int → Int) → Prop} {S0 : Nat → Int → Int} {ws : List Int} (hP : rxPSTK S0 ws) : rx_obK X S0 rxCSTK.2.2.1 rxCEM.2.2.1 (rxISTK S0 ws) (rxmSTK S0 ws) 4 5 rxzSTK_4 rxzSTK_5 [.inr (3, (0, 480)), .inr (0, (9, 0)), .inr (0, (0, 0))] none rxPEM rxPSEM := by
  intro S r hinv hXS I0 hin hs_ hf_
  have b_ := bx_bds_sat hs_
  have f_ := bx_fcl_ok hs_.1 hf_
  obtain ⟨⟨l8, u8⟩, ⟨l9, u9⟩, -⟩ := b_
  have g := rxkSTK_4 hP hin I0 hinv l8 u8 l9 u9
  have ea : List.map (bx_num r) [.inr (3, (0, 480)), .inr (0, (9, 0)), .inr (0, (0, 0))] = [480, (r 9), 0] := by
    simp only [List.map_cons, List.map_nil, bx_xv_ok hs_.1]
    rfl
  rw [ea]
  refine ⟨g.1, fun S_p w r_p hPS hX_p I1 hsm hr hw hs_p => ?_⟩
  have hw : w = none := hPS.1
  subst hw
  have g2 := g.2 S_p hPS I1 hsm
  show rxISTK_5 S0 ws S_p (r_p 8) (r_p 9) ∧ rxmSTK_5 S0 ws S_p (r_p 8) (r_p 9) < _
  rw [hr 8 (by decide), hr 9 (by decide)]
  exact g2
theorem rxcSTK_0_0 {S0 : Nat → Int → Int} {ws : List Int} {S : Nat → Int → Int} {least x9 x10 : Int} (hP : rxPSTK S0 ws) (hin : bx_same rxL (bx_mdl rxCSTK.2.2.1) S0 S) (I0 : bx_Inv rxL S) (hinv : rxISTK_0 S0 ws S least) (l8 : 1 ≤ least) (u8 : least ≤ 5) (l9 : 1 ≤ x9) (u9 : x9 ≤ 400) (l10 : 0 ≤ x10) (u10 : x10 ≤ 21) (f0 : x10 ≠ 28) (f1 : x10 ≠ 29) (f2 : x10 ≠ 30) (e1 : S 480 24 = x9) (e0 : S 489 (x9 + (-1)) = x10) : (True) ∧ (True) ∧ rxISTK_2 S0 ws S least x9 ∧ rxmSTK_2 S0 ws S least x9 < rxmSTK_0 S0 ws S least := by
  obtain ⟨hI, hx⟩ := hinv
  obtain ⟨a_, b_, c_, d_⟩ := rxcST_0_0 hP hin I0 hI l8 u8 l9 u9 l10 u10 f0 f1 f2 e1 e0
  exact ⟨a_, b_, ⟨c_, (by
    have e := hI.1
    subst e
    exact rkMr_0)⟩, d_⟩
theorem rxgSTK_0_0 {X : (Nat → Int → Int) → Prop} {S0 : Nat → Int → Int} {ws : List Int} (hP : rxPSTK S0 ws) : bx_obC rxL X S0 rxCSTK.2.2.1 (rxISTK S0 ws) (rxmSTK S0 ws) 0 rxzSTK_0 rxoSTK_0_0 := by
  intro S S_p r r_p hinv hX hin hsm_ hseg
  obtain ⟨I0, I1, h0_, hr_, b_, f_, d_⟩ := bx_cl (evs := [(0, (0, 489), (9, (-1)), .inr (0, (10, 0))), (0, (0, 480), (0, 24), .inr (0, (9, 0)))]) (fvs := [(3, (10, 0), (0, 28), (0, 0)), (3, (10, 0), (0, 29), (0, 0)), (3, (10, 0), (0, 30), (0, 0))]) hseg (by decide +kernel) (by decide +kernel)
  have hinv : rxISTK_0 S0 ws S (r 8) := hinv
  rw [← hr_ 8 (by decide)] at hinv
  obtain ⟨⟨l8, u8⟩, ⟨l9, u9⟩, ⟨l10, u10⟩, -⟩ := b_
  obtain ⟨f0, f1, f2, -⟩ := f_
  obtain ⟨e0, ⟨e1, w_⟩⟩ := d_
  subst w_
  have g := rxcSTK_0_0 hP hin I0 hinv l8 u8 l9 u9 l10 u10 f0 f1 f2 e1 e0
  refine ⟨bx_narP_ok (l := []) g.1, bx_nfP_ok h0_ (fvs := []) (by decide +kernel) g.2.1, ?_, ?_⟩
  · show rxISTK_2 S0 ws S_p (bx_val [(0, 0), (0, 0), (0, 0), (0, 0), (0, 0), (0, 0), (0, 0), (0, 0), (8, 0), (9, 0)] r_p 8) (bx_val [(0, 0), (0, 0), (0, 0), (0, 0), (0, 0), (0, 0), (0, 0), (0, 0), (8, 0), (9, 0)] r_p 9)
    rw [bx_val_x (n := 8) (e := (8, 0)) h0_ rfl, bx_val_x (n := 9) (e := (9, 0)) h0_ rfl]
    exact g.2.2.1
  · show rxmSTK_2 S0 ws S_p (bx_val [(0, 0), (0, 0), (0, 0), (0, 0), (0, 0), (0, 0), (0, 0), (0, 0), (8, 0), (9, 0)] r_p 8) (bx_val [(0, 0), (0, 0), (0, 0), (0, 0), (0, 0), (0, 0), (0, 0), (0, 0), (8, 0), (9, 0)] r_p 9) < rxmSTK_0 S0 ws S_p (r 8)
    rw [bx_val_x (n := 8) (e := (8, 0)) h0_ rfl, bx_val_x (n := 9) (e := (9, 0)) h0_ rfl, ← hr_ 8 (by decide)]
    exact g.2.2.2
theorem rxcSTK_0_1 {S0 : Nat → Int → Int} {ws : List Int} {S : Nat → Int → Int} {least x9 x10 : Int} (hP : rxPSTK S0 ws) (hin : bx_same rxL (bx_mdl rxCSTK.2.2.1) S0 S) (I0 : bx_Inv rxL S) (hinv : rxISTK_0 S0 ws S least) (l8 : 1 ≤ least) (u8 : least ≤ 6) (l9 : 1 ≤ x9) (u9 : x9 ≤ 400) (l10 : 22 ≤ x10) (u10 : x10 ≤ 24) (f0 : x10 ≠ 28) (f1 : x10 ≠ 29) (f2 : x10 ≠ 30) (e1 : S 480 24 = x9) (e0 : S 489 (x9 + (-1)) = x10) : (True) ∧ (True) ∧ rxISTK_2 S0 ws S least x9 ∧ rxmSTK_2 S0 ws S least x9 < rxmSTK_0 S0 ws S least := by
  obtain ⟨hI, hx⟩ := hinv
  obtain ⟨a_, b_, c_, d_⟩ := rxcST_0_1 hP hin I0 hI l8 u8 l9 u9 l10 u10 f0 f1 f2 e1 e0
  exact ⟨a_, b_, ⟨c_, (by
    have e := hI.1
    subst e
    exact rkMr_0)⟩, d_⟩
theorem rxgSTK_0_1 {X : (Nat → Int → Int) → Prop} {S0 : Nat → Int → Int} {ws : List Int} (hP : rxPSTK S0 ws) : bx_obC rxL X S0 rxCSTK.2.2.1 (rxISTK S0 ws) (rxmSTK S0 ws) 0 rxzSTK_0 rxoSTK_0_1 := by
  intro S S_p r r_p hinv hX hin hsm_ hseg
  obtain ⟨I0, I1, h0_, hr_, b_, f_, d_⟩ := bx_cl (evs := [(0, (0, 489), (9, (-1)), .inr (0, (10, 0))), (0, (0, 480), (0, 24), .inr (0, (9, 0)))]) (fvs := [(3, (10, 0), (0, 28), (0, 0)), (3, (10, 0), (0, 29), (0, 0)), (3, (10, 0), (0, 30), (0, 0))]) hseg (by decide +kernel) (by decide +kernel)
  have hinv : rxISTK_0 S0 ws S (r 8) := hinv
  rw [← hr_ 8 (by decide)] at hinv
  obtain ⟨⟨l8, u8⟩, ⟨l9, u9⟩, ⟨l10, u10⟩, -⟩ := b_
  obtain ⟨f0, f1, f2, -⟩ := f_
  obtain ⟨e0, ⟨e1, w_⟩⟩ := d_
  subst w_
  have g := rxcSTK_0_1 hP hin I0 hinv l8 u8 l9 u9 l10 u10 f0 f1 f2 e1 e0
  refine ⟨bx_narP_ok (l := []) g.1, bx_nfP_ok h0_ (fvs := []) (by decide +kernel) g.2.1, ?_, ?_⟩
  · show rxISTK_2 S0 ws S_p (bx_val [(0, 0), (0, 0), (0, 0), (0, 0), (0, 0), (0, 0), (0, 0), (0, 0), (8, 0), (9, 0)] r_p 8) (bx_val [(0, 0), (0, 0), (0, 0), (0, 0), (0, 0), (0, 0), (0, 0), (0, 0), (8, 0), (9, 0)] r_p 9)
    rw [bx_val_x (n := 8) (e := (8, 0)) h0_ rfl, bx_val_x (n := 9) (e := (9, 0)) h0_ rfl]
    exact g.2.2.1
  · show rxmSTK_2 S0 ws S_p (bx_val [(0, 0), (0, 0), (0, 0), (0, 0), (0, 0), (0, 0), (0, 0), (0, 0), (8, 0), (9, 0)] r_p 8) (bx_val [(0, 0), (0, 0), (0, 0), (0, 0), (0, 0), (0, 0), (0, 0), (0, 0), (8, 0), (9, 0)] r_p 9) < rxmSTK_0 S0 ws S_p (r 8)
    rw [bx_val_x (n := 8) (e := (8, 0)) h0_ rfl, bx_val_x (n := 9) (e := (9, 0)) h0_ rfl, ← hr_ 8 (by decide)]
    exact g.2.2.2
theorem rxcSTK_0_2 {S0 : Nat → Int → Int} {ws : List Int} {S : Nat → Int → Int} {least x9 x10 : Int} (hP : rxPSTK S0 ws) (hin : bx_same rxL (bx_mdl rxCSTK.2.2.1) S0 S) (I0 : bx_Inv rxL S) (hinv : rxISTK_0 S0 ws S least) (l8 : 1 ≤ least) (u8 : least ≤ 4) (l9 : 1 ≤ x9) (u9 : x9 ≤ 400) (l10 : 25 ≤ x10) (u10 : x10 ≤ 27) (f0 : x10 ≠ 28) (f1 : x10 ≠ 29) (f2 : x10 ≠ 30) (e1 : S 480 24 = x9) (e0 : S 489 (x9 + (-1)) = x10) : (True) ∧ (True) ∧ rxISTK_2 S0 ws S least x9 ∧ rxmSTK_2 S0 ws S least x9 < rxmSTK_0 S0 ws S least := by
  obtain ⟨hI, hx⟩ := hinv
  obtain ⟨a_, b_, c_, d_⟩ := rxcST_0_2 hP hin I0 hI l8 u8 l9 u9 l10 u10 f0 f1 f2 e1 e0
  exact ⟨a_, b_, ⟨c_, (by
    have e := hI.1
    subst e
    exact rkMr_0)⟩, d_⟩
theorem rxgSTK_0_2 {X : (Nat → Int → Int) → Prop} {S0 : Nat → Int → Int} {ws : List Int} (hP : rxPSTK S0 ws) : bx_obC rxL X S0 rxCSTK.2.2.1 (rxISTK S0 ws) (rxmSTK S0 ws) 0 rxzSTK_0 rxoSTK_0_2 := by
  intro S S_p r r_p hinv hX hin hsm_ hseg
  obtain ⟨I0, I1, h0_, hr_, b_, f_, d_⟩ := bx_cl (evs := [(0, (0, 489), (9, (-1)), .inr (0, (10, 0))), (0, (0, 480), (0, 24), .inr (0, (9, 0)))]) (fvs := [(3, (10, 0), (0, 28), (0, 0)), (3, (10, 0), (0, 29), (0, 0)), (3, (10, 0), (0, 30), (0, 0))]) hseg (by decide +kernel) (by decide +kernel)
  have hinv : rxISTK_0 S0 ws S (r 8) := hinv
  rw [← hr_ 8 (by decide)] at hinv
  obtain ⟨⟨l8, u8⟩, ⟨l9, u9⟩, ⟨l10, u10⟩, -⟩ := b_
  obtain ⟨f0, f1, f2, -⟩ := f_
  obtain ⟨e0, ⟨e1, w_⟩⟩ := d_
  subst w_
  have g := rxcSTK_0_2 hP hin I0 hinv l8 u8 l9 u9 l10 u10 f0 f1 f2 e1 e0
  refine ⟨bx_narP_ok (l := []) g.1, bx_nfP_ok h0_ (fvs := []) (by decide +kernel) g.2.1, ?_, ?_⟩
  · show rxISTK_2 S0 ws S_p (bx_val [(0, 0), (0, 0), (0, 0), (0, 0), (0, 0), (0, 0), (0, 0), (0, 0), (8, 0), (9, 0)] r_p 8) (bx_val [(0, 0), (0, 0), (0, 0), (0, 0), (0, 0), (0, 0), (0, 0), (0, 0), (8, 0), (9, 0)] r_p 9)
    rw [bx_val_x (n := 8) (e := (8, 0)) h0_ rfl, bx_val_x (n := 9) (e := (9, 0)) h0_ rfl]
    exact g.2.2.1
  · show rxmSTK_2 S0 ws S_p (bx_val [(0, 0), (0, 0), (0, 0), (0, 0), (0, 0), (0, 0), (0, 0), (0, 0), (8, 0), (9, 0)] r_p 8) (bx_val [(0, 0), (0, 0), (0, 0), (0, 0), (0, 0), (0, 0), (0, 0), (0, 0), (8, 0), (9, 0)] r_p 9) < rxmSTK_0 S0 ws S_p (r 8)
    rw [bx_val_x (n := 8) (e := (8, 0)) h0_ rfl, bx_val_x (n := 9) (e := (9, 0)) h0_ rfl, ← hr_ 8 (by decide)]
    exact g.2.2.2
theorem rxcSTK_0_3 {S0 : Nat → Int → Int} {ws : List Int} {S : Nat → Int → Int} {least x9 x10 : Int} (hP : rxPSTK S0 ws) (hin : bx_same rxL (bx_mdl rxCSTK.2.2.1) S0 S) (I0 : bx_Inv rxL S) (hinv : rxISTK_0 S0 ws S least) (l8 : 1 ≤ least) (u8 : least ≤ 3) (l9 : 1 ≤ x9) (u9 : x9 ≤ 400) (l10 : 28 ≤ x10) (u10 : x10 ≤ 28) (f0 : x10 ≠ 29) (f1 : x10 ≠ 30) (e1 : S 480 24 = x9) (e0 : S 489 (x9 + (-1)) = x10) : (True) ∧ (True) ∧ rxISTK_2 S0 ws S least x9 ∧ rxmSTK_2 S0 ws S least x9 < rxmSTK_0 S0 ws S least := by
  obtain ⟨hI, hx⟩ := hinv
  obtain ⟨a_, b_, c_, d_⟩ := rxcST_0_3 hP hin I0 hI l8 u8 l9 u9 l10 u10 f0 f1 e1 e0
  exact ⟨a_, b_, ⟨c_, (by
    have e := hI.1
    subst e
    exact rkMr_0)⟩, d_⟩
theorem rxgSTK_0_3 {X : (Nat → Int → Int) → Prop} {S0 : Nat → Int → Int} {ws : List Int} (hP : rxPSTK S0 ws) : bx_obC rxL X S0 rxCSTK.2.2.1 (rxISTK S0 ws) (rxmSTK S0 ws) 0 rxzSTK_0 rxoSTK_0_3 := by
  intro S S_p r r_p hinv hX hin hsm_ hseg
  obtain ⟨I0, I1, h0_, hr_, b_, f_, d_⟩ := bx_cl (evs := [(0, (0, 489), (9, (-1)), .inr (0, (10, 0))), (0, (0, 480), (0, 24), .inr (0, (9, 0)))]) (fvs := [(3, (10, 0), (0, 29), (0, 0)), (3, (10, 0), (0, 30), (0, 0))]) hseg (by decide +kernel) (by decide +kernel)
  have hinv : rxISTK_0 S0 ws S (r 8) := hinv
  rw [← hr_ 8 (by decide)] at hinv
  obtain ⟨⟨l8, u8⟩, ⟨l9, u9⟩, ⟨l10, u10⟩, -⟩ := b_
  obtain ⟨f0, f1, -⟩ := f_
  obtain ⟨e0, ⟨e1, w_⟩⟩ := d_
  subst w_
  have g := rxcSTK_0_3 hP hin I0 hinv l8 u8 l9 u9 l10 u10 f0 f1 e1 e0
  refine ⟨bx_narP_ok (l := []) g.1, bx_nfP_ok h0_ (fvs := []) (by decide +kernel) g.2.1, ?_, ?_⟩
  · show rxISTK_2 S0 ws S_p (bx_val [(0, 0), (0, 0), (0, 0), (0, 0), (0, 0), (0, 0), (0, 0), (0, 0), (8, 0), (9, 0)] r_p 8) (bx_val [(0, 0), (0, 0), (0, 0), (0, 0), (0, 0), (0, 0), (0, 0), (0, 0), (8, 0), (9, 0)] r_p 9)
    rw [bx_val_x (n := 8) (e := (8, 0)) h0_ rfl, bx_val_x (n := 9) (e := (9, 0)) h0_ rfl]
    exact g.2.2.1
  · show rxmSTK_2 S0 ws S_p (bx_val [(0, 0), (0, 0), (0, 0), (0, 0), (0, 0), (0, 0), (0, 0), (0, 0), (8, 0), (9, 0)] r_p 8) (bx_val [(0, 0), (0, 0), (0, 0), (0, 0), (0, 0), (0, 0), (0, 0), (0, 0), (8, 0), (9, 0)] r_p 9) < rxmSTK_0 S0 ws S_p (r 8)
    rw [bx_val_x (n := 8) (e := (8, 0)) h0_ rfl, bx_val_x (n := 9) (e := (9, 0)) h0_ rfl, ← hr_ 8 (by decide)]
    exact g.2.2.2
theorem rxcSTK_0_4 {S0 : Nat → Int → Int} {ws : List Int} {S : Nat → Int → Int} {least x9 x10 : Int} (hP : rxPSTK S0 ws) (hin : bx_same rxL (bx_mdl rxCSTK.2.2.1) S0 S) (I0 : bx_Inv rxL S) (hinv : rxISTK_0 S0 ws S least) (l8 : 1 ≤ least) (u8 : least ≤ 2) (l9 : 1 ≤ x9) (u9 : x9 ≤ 400) (l10 : 29 ≤ x10) (u10 : x10 ≤ 29) (f0 : x10 ≠ 30) (e1 : S 480 24 = x9) (e0 : S 489 (x9 + (-1)) = x10) : (True) ∧ (True) ∧ rxISTK_2 S0 ws S least x9 ∧ rxmSTK_2 S0 ws S least x9 < rxmSTK_0 S0 ws S least := by
  obtain ⟨hI, hx⟩ := hinv
  obtain ⟨a_, b_, c_, d_⟩ := rxcST_0_4 hP hin I0 hI l8 u8 l9 u9 l10 u10 f0 e1 e0
  exact ⟨a_, b_, ⟨c_, (by
    have e := hI.1
    subst e
    exact rkMr_0)⟩, d_⟩
theorem rxgSTK_0_4 {X : (Nat → Int → Int) → Prop} {S0 : Nat → Int → Int} {ws : List Int} (hP : rxPSTK S0 ws) : bx_obC rxL X S0 rxCSTK.2.2.1 (rxISTK S0 ws) (rxmSTK S0 ws) 0 rxzSTK_0 rxoSTK_0_4 := by
  intro S S_p r r_p hinv hX hin hsm_ hseg
  obtain ⟨I0, I1, h0_, hr_, b_, f_, d_⟩ := bx_cl (evs := [(0, (0, 489), (9, (-1)), .inr (0, (10, 0))), (0, (0, 480), (0, 24), .inr (0, (9, 0)))]) (fvs := [(3, (10, 0), (0, 30), (0, 0))]) hseg (by decide +kernel) (by decide +kernel)
  have hinv : rxISTK_0 S0 ws S (r 8) := hinv
  rw [← hr_ 8 (by decide)] at hinv
  obtain ⟨⟨l8, u8⟩, ⟨l9, u9⟩, ⟨l10, u10⟩, -⟩ := b_
  obtain ⟨f0, -⟩ := f_
  obtain ⟨e0, ⟨e1, w_⟩⟩ := d_
  subst w_
  have g := rxcSTK_0_4 hP hin I0 hinv l8 u8 l9 u9 l10 u10 f0 e1 e0
  refine ⟨bx_narP_ok (l := []) g.1, bx_nfP_ok h0_ (fvs := []) (by decide +kernel) g.2.1, ?_, ?_⟩
  · show rxISTK_2 S0 ws S_p (bx_val [(0, 0), (0, 0), (0, 0), (0, 0), (0, 0), (0, 0), (0, 0), (0, 0), (8, 0), (9, 0)] r_p 8) (bx_val [(0, 0), (0, 0), (0, 0), (0, 0), (0, 0), (0, 0), (0, 0), (0, 0), (8, 0), (9, 0)] r_p 9)
    rw [bx_val_x (n := 8) (e := (8, 0)) h0_ rfl, bx_val_x (n := 9) (e := (9, 0)) h0_ rfl]
    exact g.2.2.1
  · show rxmSTK_2 S0 ws S_p (bx_val [(0, 0), (0, 0), (0, 0), (0, 0), (0, 0), (0, 0), (0, 0), (0, 0), (8, 0), (9, 0)] r_p 8) (bx_val [(0, 0), (0, 0), (0, 0), (0, 0), (0, 0), (0, 0), (0, 0), (0, 0), (8, 0), (9, 0)] r_p 9) < rxmSTK_0 S0 ws S_p (r 8)
    rw [bx_val_x (n := 8) (e := (8, 0)) h0_ rfl, bx_val_x (n := 9) (e := (9, 0)) h0_ rfl, ← hr_ 8 (by decide)]
    exact g.2.2.2
theorem rxcSTK_0_5 {S0 : Nat → Int → Int} {ws : List Int} {S : Nat → Int → Int} {least x9 x10 : Int} (hP : rxPSTK S0 ws) (hin : bx_same rxL (bx_mdl rxCSTK.2.2.1) S0 S) (I0 : bx_Inv rxL S) (hinv : rxISTK_0 S0 ws S least) (l8 : 1 ≤ least) (u8 : least ≤ 1) (l9 : 1 ≤ x9) (u9 : x9 ≤ 400) (l10 : 30 ≤ x10) (u10 : x10 ≤ 30) (e1 : S 480 24 = x9) (e0 : S 489 (x9 + (-1)) = x10) : (True) ∧ (True) ∧ rxISTK_2 S0 ws S least x9 ∧ rxmSTK_2 S0 ws S least x9 < rxmSTK_0 S0 ws S least := by
  obtain ⟨hI, hx⟩ := hinv
  obtain ⟨a_, b_, c_, d_⟩ := rxcST_0_5 hP hin I0 hI l8 u8 l9 u9 l10 u10 e1 e0
  exact ⟨a_, b_, ⟨c_, (by
    have e := hI.1
    subst e
    exact rkMr_0)⟩, d_⟩
theorem rxgSTK_0_5 {X : (Nat → Int → Int) → Prop} {S0 : Nat → Int → Int} {ws : List Int} (hP : rxPSTK S0 ws) : bx_obC rxL X S0 rxCSTK.2.2.1 (rxISTK S0 ws) (rxmSTK S0 ws) 0 rxzSTK_0 rxoSTK_0_5 := by
  intro S S_p r r_p hinv hX hin hsm_ hseg
  obtain ⟨I0, I1, h0_, hr_, b_, f_, d_⟩ := bx_cl (evs := [(0, (0, 489), (9, (-1)), .inr (0, (10, 0))), (0, (0, 480), (0, 24), .inr (0, (9, 0)))]) (fvs := []) hseg (by decide +kernel) (by decide +kernel)
  have hinv : rxISTK_0 S0 ws S (r 8) := hinv
  rw [← hr_ 8 (by decide)] at hinv
  obtain ⟨⟨l8, u8⟩, ⟨l9, u9⟩, ⟨l10, u10⟩, -⟩ := b_
  obtain ⟨e0, ⟨e1, w_⟩⟩ := d_
  subst w_
  have g := rxcSTK_0_5 hP hin I0 hinv l8 u8 l9 u9 l10 u10 e1 e0
  refine ⟨bx_narP_ok (l := []) g.1, bx_nfP_ok h0_ (fvs := []) (by decide +kernel) g.2.1, ?_, ?_⟩
  · show rxISTK_2 S0 ws S_p (bx_val [(0, 0), (0, 0), (0, 0), (0, 0), (0, 0), (0, 0), (0, 0), (0, 0), (8, 0), (9, 0)] r_p 8) (bx_val [(0, 0), (0, 0), (0, 0), (0, 0), (0, 0), (0, 0), (0, 0), (0, 0), (8, 0), (9, 0)] r_p 9)
    rw [bx_val_x (n := 8) (e := (8, 0)) h0_ rfl, bx_val_x (n := 9) (e := (9, 0)) h0_ rfl]
    exact g.2.2.1
  · show rxmSTK_2 S0 ws S_p (bx_val [(0, 0), (0, 0), (0, 0), (0, 0), (0, 0), (0, 0), (0, 0), (0, 0), (8, 0), (9, 0)] r_p 8) (bx_val [(0, 0), (0, 0), (0, 0), (0, 0), (0, 0), (0, 0), (0, 0), (0, 0), (8, 0), (9, 0)] r_p 9) < rxmSTK_0 S0 ws S_p (r 8)
    rw [bx_val_x (n := 8) (e := (8, 0)) h0_ rfl, bx_val_x (n := 9) (e := (9, 0)) h0_ rfl, ← hr_ 8 (by decide)]
    exact g.2.2.2
theorem rxdSTK_0_0 {S0 : Nat → Int → Int} {ws : List Int} {S : Nat → Int → Int} {least x9 x10 : Int} (hP : rxPSTK S0 ws) (hin : bx_same rxL (bx_mdl rxCSTK.2.2.1) S0 S) (hin2 : bx_same rxL (bx_mdl rxCSTK.2.2.1) S S) (I0 : bx_Inv rxL S) (I1 : bx_Inv rxL S) (hinv : rxISTK_0 S0 ws S least) (l8 : 6 ≤ least) (u8 : least ≤ 6) (l9 : 1 ≤ x9) (u9 : x9 ≤ 400) (l10 : 0 ≤ x10) (u10 : x10 ≤ 21) (f0 : x10 ≠ 28) (f1 : x10 ≠ 29) (f2 : x10 ≠ 30) (e1 : S 480 24 = x9) (e0 : S 489 (x9 + (-1)) = x10) : (True) ∧ rxPSSTK S0 ws S none := by
  obtain ⟨hI, hx⟩ := hinv
  obtain ⟨a_, c_⟩ := rxdST_0_0 hP hin hin2 I0 I1 hI l8 u8 l9 u9 l10 u10 f0 f1 f2 e1 e0
  exact ⟨a_, rfl, c_, (by
    have hw := hI.2
    have e := hI.1
    subst e
    obtain ⟨-, l2, hw2, hs2, hz⟩ := c_
    have e2 : least = l2 := Option.some.inj (congrArg (fun l : List Int => l[1]?) (hw.symm.trans hw2))
    subst e2
    exact ⟨least, hw2, rkMr_end rkMr_0 hz⟩)⟩
theorem rxfSTK_0_0 {X : (Nat → Int → Int) → Prop} {S0 : Nat → Int → Int} {ws : List Int} (hP : rxPSTK S0 ws) : bx_obE rxL X S0 rxCSTK.2.2.1 (rxISTK S0 ws) (rxPSSTK S0 ws) 0 rxzSTK_0 rxeSTK_0_0 := by
  intro S S_p r r_p hinv hX hin hsm_ hseg
  obtain ⟨I0, I1, h0_, hr_, b_, f_, d_⟩ := bx_cl (evs := [(0, (0, 489), (9, (-1)), .inr (0, (10, 0))), (0, (0, 480), (0, 24), .inr (0, (9, 0)))]) (fvs := [(3, (10, 0), (0, 28), (0, 0)), (3, (10, 0), (0, 29), (0, 0)), (3, (10, 0), (0, 30), (0, 0))]) hseg (by decide +kernel) (by decide +kernel)
  have hinv : rxISTK_0 S0 ws S (r 8) := hinv
  rw [← hr_ 8 (by decide)] at hinv
  obtain ⟨⟨l8, u8⟩, ⟨l9, u9⟩, ⟨l10, u10⟩, -⟩ := b_
  obtain ⟨f0, f1, f2, -⟩ := f_
  obtain ⟨e0, ⟨e1, w_⟩⟩ := d_
  subst w_
  have g := rxdSTK_0_0 hP hin hsm_ I0 I1 hinv l8 u8 l9 u9 l10 u10 f0 f1 f2 e1 e0
  refine ⟨bx_narP_ok (l := []) g.1, ?_⟩
  exact g.2
theorem rxdSTK_0_1 {S0 : Nat → Int → Int} {ws : List Int} {S : Nat → Int → Int} {least x9 x10 : Int} (hP : rxPSTK S0 ws) (hin : bx_same rxL (bx_mdl rxCSTK.2.2.1) S0 S) (hin2 : bx_same rxL (bx_mdl rxCSTK.2.2.1) S S) (I0 : bx_Inv rxL S) (I1 : bx_Inv rxL S) (hinv : rxISTK_0 S0 ws S least) (l8 : 5 ≤ least) (u8 : least ≤ 6) (l9 : 1 ≤ x9) (u9 : x9 ≤ 400) (l10 : 25 ≤ x10) (u10 : x10 ≤ 27) (f0 : x10 ≠ 28) (f1 : x10 ≠ 29) (f2 : x10 ≠ 30) (e1 : S 480 24 = x9) (e0 : S 489 (x9 + (-1)) = x10) : (True) ∧ rxPSSTK S0 ws S none := by
  obtain ⟨hI, hx⟩ := hinv
  obtain ⟨a_, c_⟩ := rxdST_0_1 hP hin hin2 I0 I1 hI l8 u8 l9 u9 l10 u10 f0 f1 f2 e1 e0
  exact ⟨a_, rfl, c_, (by
    have hw := hI.2
    have e := hI.1
    subst e
    obtain ⟨-, l2, hw2, hs2, hz⟩ := c_
    have e2 : least = l2 := Option.some.inj (congrArg (fun l : List Int => l[1]?) (hw.symm.trans hw2))
    subst e2
    exact ⟨least, hw2, rkMr_end rkMr_0 hz⟩)⟩
theorem rxfSTK_0_1 {X : (Nat → Int → Int) → Prop} {S0 : Nat → Int → Int} {ws : List Int} (hP : rxPSTK S0 ws) : bx_obE rxL X S0 rxCSTK.2.2.1 (rxISTK S0 ws) (rxPSSTK S0 ws) 0 rxzSTK_0 rxeSTK_0_1 := by
  intro S S_p r r_p hinv hX hin hsm_ hseg
  obtain ⟨I0, I1, h0_, hr_, b_, f_, d_⟩ := bx_cl (evs := [(0, (0, 489), (9, (-1)), .inr (0, (10, 0))), (0, (0, 480), (0, 24), .inr (0, (9, 0)))]) (fvs := [(3, (10, 0), (0, 28), (0, 0)), (3, (10, 0), (0, 29), (0, 0)), (3, (10, 0), (0, 30), (0, 0))]) hseg (by decide +kernel) (by decide +kernel)
  have hinv : rxISTK_0 S0 ws S (r 8) := hinv
  rw [← hr_ 8 (by decide)] at hinv
  obtain ⟨⟨l8, u8⟩, ⟨l9, u9⟩, ⟨l10, u10⟩, -⟩ := b_
  obtain ⟨f0, f1, f2, -⟩ := f_
  obtain ⟨e0, ⟨e1, w_⟩⟩ := d_
  subst w_
  have g := rxdSTK_0_1 hP hin hsm_ I0 I1 hinv l8 u8 l9 u9 l10 u10 f0 f1 f2 e1 e0
  refine ⟨bx_narP_ok (l := []) g.1, ?_⟩
  exact g.2
theorem rxdSTK_0_2 {S0 : Nat → Int → Int} {ws : List Int} {S : Nat → Int → Int} {least x9 x10 : Int} (hP : rxPSTK S0 ws) (hin : bx_same rxL (bx_mdl rxCSTK.2.2.1) S0 S) (hin2 : bx_same rxL (bx_mdl rxCSTK.2.2.1) S S) (I0 : bx_Inv rxL S) (I1 : bx_Inv rxL S) (hinv : rxISTK_0 S0 ws S least) (l8 : 4 ≤ least) (u8 : least ≤ 6) (l9 : 1 ≤ x9) (u9 : x9 ≤ 400) (l10 : 28 ≤ x10) (u10 : x10 ≤ 28) (f0 : x10 ≠ 29) (f1 : x10 ≠ 30) (e1 : S 480 24 = x9) (e0 : S 489 (x9 + (-1)) = x10) : (True) ∧ rxPSSTK S0 ws S none := by
  obtain ⟨hI, hx⟩ := hinv
  obtain ⟨a_, c_⟩ := rxdST_0_2 hP hin hin2 I0 I1 hI l8 u8 l9 u9 l10 u10 f0 f1 e1 e0
  exact ⟨a_, rfl, c_, (by
    have hw := hI.2
    have e := hI.1
    subst e
    obtain ⟨-, l2, hw2, hs2, hz⟩ := c_
    have e2 : least = l2 := Option.some.inj (congrArg (fun l : List Int => l[1]?) (hw.symm.trans hw2))
    subst e2
    exact ⟨least, hw2, rkMr_end rkMr_0 hz⟩)⟩
theorem rxfSTK_0_2 {X : (Nat → Int → Int) → Prop} {S0 : Nat → Int → Int} {ws : List Int} (hP : rxPSTK S0 ws) : bx_obE rxL X S0 rxCSTK.2.2.1 (rxISTK S0 ws) (rxPSSTK S0 ws) 0 rxzSTK_0 rxeSTK_0_2 := by
  intro S S_p r r_p hinv hX hin hsm_ hseg
  obtain ⟨I0, I1, h0_, hr_, b_, f_, d_⟩ := bx_cl (evs := [(0, (0, 489), (9, (-1)), .inr (0, (10, 0))), (0, (0, 480), (0, 24), .inr (0, (9, 0)))]) (fvs := [(3, (10, 0), (0, 29), (0, 0)), (3, (10, 0), (0, 30), (0, 0))]) hseg (by decide +kernel) (by decide +kernel)
  have hinv : rxISTK_0 S0 ws S (r 8) := hinv
  rw [← hr_ 8 (by decide)] at hinv
  obtain ⟨⟨l8, u8⟩, ⟨l9, u9⟩, ⟨l10, u10⟩, -⟩ := b_
  obtain ⟨f0, f1, -⟩ := f_
  obtain ⟨e0, ⟨e1, w_⟩⟩ := d_
  subst w_
  have g := rxdSTK_0_2 hP hin hsm_ I0 I1 hinv l8 u8 l9 u9 l10 u10 f0 f1 e1 e0
  refine ⟨bx_narP_ok (l := []) g.1, ?_⟩
  exact g.2
theorem rxdSTK_0_3 {S0 : Nat → Int → Int} {ws : List Int} {S : Nat → Int → Int} {least x9 x10 : Int} (hP : rxPSTK S0 ws) (hin : bx_same rxL (bx_mdl rxCSTK.2.2.1) S0 S) (hin2 : bx_same rxL (bx_mdl rxCSTK.2.2.1) S S) (I0 : bx_Inv rxL S) (I1 : bx_Inv rxL S) (hinv : rxISTK_0 S0 ws S least) (l8 : 3 ≤ least) (u8 : least ≤ 6) (l9 : 1 ≤ x9) (u9 : x9 ≤ 400) (l10 : 29 ≤ x10) (u10 : x10 ≤ 29) (f0 : x10 ≠ 30) (e1 : S 480 24 = x9) (e0 : S 489 (x9 + (-1)) = x10) : (True) ∧ rxPSSTK S0 ws S none := by
  obtain ⟨hI, hx⟩ := hinv
  obtain ⟨a_, c_⟩ := rxdST_0_3 hP hin hin2 I0 I1 hI l8 u8 l9 u9 l10 u10 f0 e1 e0
  exact ⟨a_, rfl, c_, (by
    have hw := hI.2
    have e := hI.1
    subst e
    obtain ⟨-, l2, hw2, hs2, hz⟩ := c_
    have e2 : least = l2 := Option.some.inj (congrArg (fun l : List Int => l[1]?) (hw.symm.trans hw2))
    subst e2
    exact ⟨least, hw2, rkMr_end rkMr_0 hz⟩)⟩
theorem rxfSTK_0_3 {X : (Nat → Int → Int) → Prop} {S0 : Nat → Int → Int} {ws : List Int} (hP : rxPSTK S0 ws) : bx_obE rxL X S0 rxCSTK.2.2.1 (rxISTK S0 ws) (rxPSSTK S0 ws) 0 rxzSTK_0 rxeSTK_0_3 := by
  intro S S_p r r_p hinv hX hin hsm_ hseg
  obtain ⟨I0, I1, h0_, hr_, b_, f_, d_⟩ := bx_cl (evs := [(0, (0, 489), (9, (-1)), .inr (0, (10, 0))), (0, (0, 480), (0, 24), .inr (0, (9, 0)))]) (fvs := [(3, (10, 0), (0, 30), (0, 0))]) hseg (by decide +kernel) (by decide +kernel)
  have hinv : rxISTK_0 S0 ws S (r 8) := hinv
  rw [← hr_ 8 (by decide)] at hinv
  obtain ⟨⟨l8, u8⟩, ⟨l9, u9⟩, ⟨l10, u10⟩, -⟩ := b_
  obtain ⟨f0, -⟩ := f_
  obtain ⟨e0, ⟨e1, w_⟩⟩ := d_
  subst w_
  have g := rxdSTK_0_3 hP hin hsm_ I0 I1 hinv l8 u8 l9 u9 l10 u10 f0 e1 e0
  refine ⟨bx_narP_ok (l := []) g.1, ?_⟩
  exact g.2
theorem rxdSTK_0_4 {S0 : Nat → Int → Int} {ws : List Int} {S : Nat → Int → Int} {least x9 x10 : Int} (hP : rxPSTK S0 ws) (hin : bx_same rxL (bx_mdl rxCSTK.2.2.1) S0 S) (hin2 : bx_same rxL (bx_mdl rxCSTK.2.2.1) S S) (I0 : bx_Inv rxL S) (I1 : bx_Inv rxL S) (hinv : rxISTK_0 S0 ws S least) (l8 : 2 ≤ least) (u8 : least ≤ 6) (l9 : 1 ≤ x9) (u9 : x9 ≤ 400) (l10 : 30 ≤ x10) (u10 : x10 ≤ 30) (e1 : S 480 24 = x9) (e0 : S 489 (x9 + (-1)) = x10) : (True) ∧ rxPSSTK S0 ws S none := by
  obtain ⟨hI, hx⟩ := hinv
  obtain ⟨a_, c_⟩ := rxdST_0_4 hP hin hin2 I0 I1 hI l8 u8 l9 u9 l10 u10 e1 e0
  exact ⟨a_, rfl, c_, (by
    have hw := hI.2
    have e := hI.1
    subst e
    obtain ⟨-, l2, hw2, hs2, hz⟩ := c_
    have e2 : least = l2 := Option.some.inj (congrArg (fun l : List Int => l[1]?) (hw.symm.trans hw2))
    subst e2
    exact ⟨least, hw2, rkMr_end rkMr_0 hz⟩)⟩
theorem rxfSTK_0_4 {X : (Nat → Int → Int) → Prop} {S0 : Nat → Int → Int} {ws : List Int} (hP : rxPSTK S0 ws) : bx_obE rxL X S0 rxCSTK.2.2.1 (rxISTK S0 ws) (rxPSSTK S0 ws) 0 rxzSTK_0 rxeSTK_0_4 := by
  intro S S_p r r_p hinv hX hin hsm_ hseg
  obtain ⟨I0, I1, h0_, hr_, b_, f_, d_⟩ := bx_cl (evs := [(0, (0, 489), (9, (-1)), .inr (0, (10, 0))), (0, (0, 480), (0, 24), .inr (0, (9, 0)))]) (fvs := []) hseg (by decide +kernel) (by decide +kernel)
  have hinv : rxISTK_0 S0 ws S (r 8) := hinv
  rw [← hr_ 8 (by decide)] at hinv
  obtain ⟨⟨l8, u8⟩, ⟨l9, u9⟩, ⟨l10, u10⟩, -⟩ := b_
  obtain ⟨e0, ⟨e1, w_⟩⟩ := d_
  subst w_
  have g := rxdSTK_0_4 hP hin hsm_ I0 I1 hinv l8 u8 l9 u9 l10 u10 e1 e0
  refine ⟨bx_narP_ok (l := []) g.1, ?_⟩
  exact g.2
theorem rxdSTK_0_5 {S0 : Nat → Int → Int} {ws : List Int} {S : Nat → Int → Int} {least x9 x10 : Int} (hP : rxPSTK S0 ws) (hin : bx_same rxL (bx_mdl rxCSTK.2.2.1) S0 S) (hin2 : bx_same rxL (bx_mdl rxCSTK.2.2.1) S S) (I0 : bx_Inv rxL S) (I1 : bx_Inv rxL S) (hinv : rxISTK_0 S0 ws S least) (l8 : 1 ≤ least) (u8 : least ≤ 6) (l9 : 1 ≤ x9) (u9 : x9 ≤ 400) (l10 : 31 ≤ x10) (u10 : x10 ≤ 32) (e1 : S 480 24 = x9) (e0 : S 489 (x9 + (-1)) = x10) : (True) ∧ rxPSSTK S0 ws S none := by
  obtain ⟨hI, hx⟩ := hinv
  obtain ⟨a_, c_⟩ := rxdST_0_5 hP hin hin2 I0 I1 hI l8 u8 l9 u9 l10 u10 e1 e0
  exact ⟨a_, rfl, c_, (by
    have hw := hI.2
    have e := hI.1
    subst e
    obtain ⟨-, l2, hw2, hs2, hz⟩ := c_
    have e2 : least = l2 := Option.some.inj (congrArg (fun l : List Int => l[1]?) (hw.symm.trans hw2))
    subst e2
    exact ⟨least, hw2, rkMr_end rkMr_0 hz⟩)⟩
theorem rxfSTK_0_5 {X : (Nat → Int → Int) → Prop} {S0 : Nat → Int → Int} {ws : List Int} (hP : rxPSTK S0 ws) : bx_obE rxL X S0 rxCSTK.2.2.1 (rxISTK S0 ws) (rxPSSTK S0 ws) 0 rxzSTK_0 rxeSTK_0_5 := by
  intro S S_p r r_p hinv hX hin hsm_ hseg
  obtain ⟨I0, I1, h0_, hr_, b_, f_, d_⟩ := bx_cl (evs := [(0, (0, 489), (9, (-1)), .inr (0, (10, 0))), (0, (0, 480), (0, 24), .inr (0, (9, 0)))]) (fvs := []) hseg (by decide +kernel) (by decide +kernel)
  have hinv : rxISTK_0 S0 ws S (r 8) := hinv
  rw [← hr_ 8 (by decide)] at hinv
  obtain ⟨⟨l8, u8⟩, ⟨l9, u9⟩, ⟨l10, u10⟩, -⟩ := b_
  obtain ⟨e0, ⟨e1, w_⟩⟩ := d_
  subst w_
  have g := rxdSTK_0_5 hP hin hsm_ I0 I1 hinv l8 u8 l9 u9 l10 u10 e1 e0
  refine ⟨bx_narP_ok (l := []) g.1, ?_⟩
  exact g.2
theorem rxdSTK_0_6 {S0 : Nat → Int → Int} {ws : List Int} {S : Nat → Int → Int} {least x9 : Int} (hP : rxPSTK S0 ws) (hin : bx_same rxL (bx_mdl rxCSTK.2.2.1) S0 S) (hin2 : bx_same rxL (bx_mdl rxCSTK.2.2.1) S S) (I0 : bx_Inv rxL S) (I1 : bx_Inv rxL S) (hinv : rxISTK_0 S0 ws S least) (l8 : 1 ≤ least) (u8 : least ≤ 6) (l9 : 0 ≤ x9) (u9 : x9 ≤ 0) (e0 : S 480 24 = x9) : (True) ∧ rxPSSTK S0 ws S none := by
  obtain ⟨hI, hx⟩ := hinv
  obtain ⟨a_, c_⟩ := rxdST_0_6 hP hin hin2 I0 I1 hI l8 u8 l9 u9 e0
  exact ⟨a_, rfl, c_, (by
    have hw := hI.2
    have e := hI.1
    subst e
    obtain ⟨-, l2, hw2, hs2, hz⟩ := c_
    have e2 : least = l2 := Option.some.inj (congrArg (fun l : List Int => l[1]?) (hw.symm.trans hw2))
    subst e2
    exact ⟨least, hw2, rkMr_end rkMr_0 hz⟩)⟩
theorem rxfSTK_0_6 {X : (Nat → Int → Int) → Prop} {S0 : Nat → Int → Int} {ws : List Int} (hP : rxPSTK S0 ws) : bx_obE rxL X S0 rxCSTK.2.2.1 (rxISTK S0 ws) (rxPSSTK S0 ws) 0 rxzSTK_0 rxeSTK_0_6 := by
  intro S S_p r r_p hinv hX hin hsm_ hseg
  obtain ⟨I0, I1, h0_, hr_, b_, f_, d_⟩ := bx_cl (evs := [(0, (0, 480), (0, 24), .inr (0, (9, 0)))]) (fvs := []) hseg (by decide +kernel) (by decide +kernel)
  have hinv : rxISTK_0 S0 ws S (r 8) := hinv
  rw [← hr_ 8 (by decide)] at hinv
  obtain ⟨⟨l8, u8⟩, ⟨l9, u9⟩, -⟩ := b_
  obtain ⟨e0, w_⟩ := d_
  subst w_
  have g := rxdSTK_0_6 hP hin hsm_ I0 I1 hinv l8 u8 l9 u9 e0
  refine ⟨bx_narP_ok (l := []) g.1, ?_⟩
  exact g.2
theorem rxcSTK_1_0 {S0 : Nat → Int → Int} {ws : List Int} {S : Nat → Int → Int} {least x9 x10 : Int} (hP : rxPSTK S0 ws) (hin : bx_same rxL (bx_mdl rxCSTK.2.2.1) S0 S) (I0 : bx_Inv rxL S) (hinv : rxISTK_1 S0 ws S least) (l8 : 1 ≤ least) (u8 : least ≤ 5) (l9 : 1 ≤ x9) (u9 : x9 ≤ 400) (l10 : 0 ≤ x10) (u10 : x10 ≤ 21) (f0 : x10 ≠ 28) (f1 : x10 ≠ 29) (f2 : x10 ≠ 30) (e1 : S 480 24 = x9) (e0 : S 489 (x9 + (-1)) = x10) : (True) ∧ (True) ∧ rxISTK_2 S0 ws S least x9 ∧ rxmSTK_2 S0 ws S least x9 < rxmSTK_1 S0 ws S least := by
  obtain ⟨hI, hx⟩ := hinv
  obtain ⟨a_, b_, c_, d_⟩ := rxcST_1_0 hP hin I0 hI l8 u8 l9 u9 l10 u10 f0 f1 f2 e1 e0
  exact ⟨a_, b_, ⟨c_, hx⟩, d_⟩
theorem rxgSTK_1_0 {X : (Nat → Int → Int) → Prop} {S0 : Nat → Int → Int} {ws : List Int} (hP : rxPSTK S0 ws) : bx_obC rxL X S0 rxCSTK.2.2.1 (rxISTK S0 ws) (rxmSTK S0 ws) 1 rxzSTK_1 rxoSTK_1_0 := by
  intro S S_p r r_p hinv hX hin hsm_ hseg
  obtain ⟨I0, I1, h0_, hr_, b_, f_, d_⟩ := bx_cl (evs := [(0, (0, 489), (9, (-1)), .inr (0, (10, 0))), (0, (0, 480), (0, 24), .inr (0, (9, 0)))]) (fvs := [(3, (10, 0), (0, 28), (0, 0)), (3, (10, 0), (0, 29), (0, 0)), (3, (10, 0), (0, 30), (0, 0))]) hseg (by decide +kernel) (by decide +kernel)
  have hinv : rxISTK_1 S0 ws S (r 8) := hinv
  rw [← hr_ 8 (by decide)] at hinv
  obtain ⟨⟨l8, u8⟩, ⟨l9, u9⟩, ⟨l10, u10⟩, -⟩ := b_
  obtain ⟨f0, f1, f2, -⟩ := f_
  obtain ⟨e0, ⟨e1, w_⟩⟩ := d_
  subst w_
  have g := rxcSTK_1_0 hP hin I0 hinv l8 u8 l9 u9 l10 u10 f0 f1 f2 e1 e0
  refine ⟨bx_narP_ok (l := []) g.1, bx_nfP_ok h0_ (fvs := []) (by decide +kernel) g.2.1, ?_, ?_⟩
  · show rxISTK_2 S0 ws S_p (bx_val [(0, 0), (0, 0), (0, 0), (0, 0), (0, 0), (0, 0), (0, 0), (0, 0), (8, 0), (9, 0)] r_p 8) (bx_val [(0, 0), (0, 0), (0, 0), (0, 0), (0, 0), (0, 0), (0, 0), (0, 0), (8, 0), (9, 0)] r_p 9)
    rw [bx_val_x (n := 8) (e := (8, 0)) h0_ rfl, bx_val_x (n := 9) (e := (9, 0)) h0_ rfl]
    exact g.2.2.1
  · show rxmSTK_2 S0 ws S_p (bx_val [(0, 0), (0, 0), (0, 0), (0, 0), (0, 0), (0, 0), (0, 0), (0, 0), (8, 0), (9, 0)] r_p 8) (bx_val [(0, 0), (0, 0), (0, 0), (0, 0), (0, 0), (0, 0), (0, 0), (0, 0), (8, 0), (9, 0)] r_p 9) < rxmSTK_1 S0 ws S_p (r 8)
    rw [bx_val_x (n := 8) (e := (8, 0)) h0_ rfl, bx_val_x (n := 9) (e := (9, 0)) h0_ rfl, ← hr_ 8 (by decide)]
    exact g.2.2.2
theorem rxcSTK_1_1 {S0 : Nat → Int → Int} {ws : List Int} {S : Nat → Int → Int} {least x9 x10 : Int} (hP : rxPSTK S0 ws) (hin : bx_same rxL (bx_mdl rxCSTK.2.2.1) S0 S) (I0 : bx_Inv rxL S) (hinv : rxISTK_1 S0 ws S least) (l8 : 1 ≤ least) (u8 : least ≤ 6) (l9 : 1 ≤ x9) (u9 : x9 ≤ 400) (l10 : 22 ≤ x10) (u10 : x10 ≤ 24) (f0 : x10 ≠ 28) (f1 : x10 ≠ 29) (f2 : x10 ≠ 30) (e1 : S 480 24 = x9) (e0 : S 489 (x9 + (-1)) = x10) : (True) ∧ (True) ∧ rxISTK_2 S0 ws S least x9 ∧ rxmSTK_2 S0 ws S least x9 < rxmSTK_1 S0 ws S least := by
  obtain ⟨hI, hx⟩ := hinv
  obtain ⟨a_, b_, c_, d_⟩ := rxcST_1_1 hP hin I0 hI l8 u8 l9 u9 l10 u10 f0 f1 f2 e1 e0
  exact ⟨a_, b_, ⟨c_, hx⟩, d_⟩
theorem rxgSTK_1_1 {X : (Nat → Int → Int) → Prop} {S0 : Nat → Int → Int} {ws : List Int} (hP : rxPSTK S0 ws) : bx_obC rxL X S0 rxCSTK.2.2.1 (rxISTK S0 ws) (rxmSTK S0 ws) 1 rxzSTK_1 rxoSTK_1_1 := by
  intro S S_p r r_p hinv hX hin hsm_ hseg
  obtain ⟨I0, I1, h0_, hr_, b_, f_, d_⟩ := bx_cl (evs := [(0, (0, 489), (9, (-1)), .inr (0, (10, 0))), (0, (0, 480), (0, 24), .inr (0, (9, 0)))]) (fvs := [(3, (10, 0), (0, 28), (0, 0)), (3, (10, 0), (0, 29), (0, 0)), (3, (10, 0), (0, 30), (0, 0))]) hseg (by decide +kernel) (by decide +kernel)
  have hinv : rxISTK_1 S0 ws S (r 8) := hinv
  rw [← hr_ 8 (by decide)] at hinv
  obtain ⟨⟨l8, u8⟩, ⟨l9, u9⟩, ⟨l10, u10⟩, -⟩ := b_
  obtain ⟨f0, f1, f2, -⟩ := f_
  obtain ⟨e0, ⟨e1, w_⟩⟩ := d_
  subst w_
  have g := rxcSTK_1_1 hP hin I0 hinv l8 u8 l9 u9 l10 u10 f0 f1 f2 e1 e0
  refine ⟨bx_narP_ok (l := []) g.1, bx_nfP_ok h0_ (fvs := []) (by decide +kernel) g.2.1, ?_, ?_⟩
  · show rxISTK_2 S0 ws S_p (bx_val [(0, 0), (0, 0), (0, 0), (0, 0), (0, 0), (0, 0), (0, 0), (0, 0), (8, 0), (9, 0)] r_p 8) (bx_val [(0, 0), (0, 0), (0, 0), (0, 0), (0, 0), (0, 0), (0, 0), (0, 0), (8, 0), (9, 0)] r_p 9)
    rw [bx_val_x (n := 8) (e := (8, 0)) h0_ rfl, bx_val_x (n := 9) (e := (9, 0)) h0_ rfl]
    exact g.2.2.1
  · show rxmSTK_2 S0 ws S_p (bx_val [(0, 0), (0, 0), (0, 0), (0, 0), (0, 0), (0, 0), (0, 0), (0, 0), (8, 0), (9, 0)] r_p 8) (bx_val [(0, 0), (0, 0), (0, 0), (0, 0), (0, 0), (0, 0), (0, 0), (0, 0), (8, 0), (9, 0)] r_p 9) < rxmSTK_1 S0 ws S_p (r 8)
    rw [bx_val_x (n := 8) (e := (8, 0)) h0_ rfl, bx_val_x (n := 9) (e := (9, 0)) h0_ rfl, ← hr_ 8 (by decide)]
    exact g.2.2.2
theorem rxcSTK_1_2 {S0 : Nat → Int → Int} {ws : List Int} {S : Nat → Int → Int} {least x9 x10 : Int} (hP : rxPSTK S0 ws) (hin : bx_same rxL (bx_mdl rxCSTK.2.2.1) S0 S) (I0 : bx_Inv rxL S) (hinv : rxISTK_1 S0 ws S least) (l8 : 1 ≤ least) (u8 : least ≤ 4) (l9 : 1 ≤ x9) (u9 : x9 ≤ 400) (l10 : 25 ≤ x10) (u10 : x10 ≤ 27) (f0 : x10 ≠ 28) (f1 : x10 ≠ 29) (f2 : x10 ≠ 30) (e1 : S 480 24 = x9) (e0 : S 489 (x9 + (-1)) = x10) : (True) ∧ (True) ∧ rxISTK_2 S0 ws S least x9 ∧ rxmSTK_2 S0 ws S least x9 < rxmSTK_1 S0 ws S least := by
  obtain ⟨hI, hx⟩ := hinv
  obtain ⟨a_, b_, c_, d_⟩ := rxcST_1_2 hP hin I0 hI l8 u8 l9 u9 l10 u10 f0 f1 f2 e1 e0
  exact ⟨a_, b_, ⟨c_, hx⟩, d_⟩
theorem rxgSTK_1_2 {X : (Nat → Int → Int) → Prop} {S0 : Nat → Int → Int} {ws : List Int} (hP : rxPSTK S0 ws) : bx_obC rxL X S0 rxCSTK.2.2.1 (rxISTK S0 ws) (rxmSTK S0 ws) 1 rxzSTK_1 rxoSTK_1_2 := by
  intro S S_p r r_p hinv hX hin hsm_ hseg
  obtain ⟨I0, I1, h0_, hr_, b_, f_, d_⟩ := bx_cl (evs := [(0, (0, 489), (9, (-1)), .inr (0, (10, 0))), (0, (0, 480), (0, 24), .inr (0, (9, 0)))]) (fvs := [(3, (10, 0), (0, 28), (0, 0)), (3, (10, 0), (0, 29), (0, 0)), (3, (10, 0), (0, 30), (0, 0))]) hseg (by decide +kernel) (by decide +kernel)
  have hinv : rxISTK_1 S0 ws S (r 8) := hinv
  rw [← hr_ 8 (by decide)] at hinv
  obtain ⟨⟨l8, u8⟩, ⟨l9, u9⟩, ⟨l10, u10⟩, -⟩ := b_
  obtain ⟨f0, f1, f2, -⟩ := f_
  obtain ⟨e0, ⟨e1, w_⟩⟩ := d_
  subst w_
  have g := rxcSTK_1_2 hP hin I0 hinv l8 u8 l9 u9 l10 u10 f0 f1 f2 e1 e0
  refine ⟨bx_narP_ok (l := []) g.1, bx_nfP_ok h0_ (fvs := []) (by decide +kernel) g.2.1, ?_, ?_⟩
  · show rxISTK_2 S0 ws S_p (bx_val [(0, 0), (0, 0), (0, 0), (0, 0), (0, 0), (0, 0), (0, 0), (0, 0), (8, 0), (9, 0)] r_p 8) (bx_val [(0, 0), (0, 0), (0, 0), (0, 0), (0, 0), (0, 0), (0, 0), (0, 0), (8, 0), (9, 0)] r_p 9)
    rw [bx_val_x (n := 8) (e := (8, 0)) h0_ rfl, bx_val_x (n := 9) (e := (9, 0)) h0_ rfl]
    exact g.2.2.1
  · show rxmSTK_2 S0 ws S_p (bx_val [(0, 0), (0, 0), (0, 0), (0, 0), (0, 0), (0, 0), (0, 0), (0, 0), (8, 0), (9, 0)] r_p 8) (bx_val [(0, 0), (0, 0), (0, 0), (0, 0), (0, 0), (0, 0), (0, 0), (0, 0), (8, 0), (9, 0)] r_p 9) < rxmSTK_1 S0 ws S_p (r 8)
    rw [bx_val_x (n := 8) (e := (8, 0)) h0_ rfl, bx_val_x (n := 9) (e := (9, 0)) h0_ rfl, ← hr_ 8 (by decide)]
    exact g.2.2.2
theorem rxcSTK_1_3 {S0 : Nat → Int → Int} {ws : List Int} {S : Nat → Int → Int} {least x9 x10 : Int} (hP : rxPSTK S0 ws) (hin : bx_same rxL (bx_mdl rxCSTK.2.2.1) S0 S) (I0 : bx_Inv rxL S) (hinv : rxISTK_1 S0 ws S least) (l8 : 1 ≤ least) (u8 : least ≤ 3) (l9 : 1 ≤ x9) (u9 : x9 ≤ 400) (l10 : 28 ≤ x10) (u10 : x10 ≤ 28) (f0 : x10 ≠ 29) (f1 : x10 ≠ 30) (e1 : S 480 24 = x9) (e0 : S 489 (x9 + (-1)) = x10) : (True) ∧ (True) ∧ rxISTK_2 S0 ws S least x9 ∧ rxmSTK_2 S0 ws S least x9 < rxmSTK_1 S0 ws S least := by
  obtain ⟨hI, hx⟩ := hinv
  obtain ⟨a_, b_, c_, d_⟩ := rxcST_1_3 hP hin I0 hI l8 u8 l9 u9 l10 u10 f0 f1 e1 e0
  exact ⟨a_, b_, ⟨c_, hx⟩, d_⟩
theorem rxgSTK_1_3 {X : (Nat → Int → Int) → Prop} {S0 : Nat → Int → Int} {ws : List Int} (hP : rxPSTK S0 ws) : bx_obC rxL X S0 rxCSTK.2.2.1 (rxISTK S0 ws) (rxmSTK S0 ws) 1 rxzSTK_1 rxoSTK_1_3 := by
  intro S S_p r r_p hinv hX hin hsm_ hseg
  obtain ⟨I0, I1, h0_, hr_, b_, f_, d_⟩ := bx_cl (evs := [(0, (0, 489), (9, (-1)), .inr (0, (10, 0))), (0, (0, 480), (0, 24), .inr (0, (9, 0)))]) (fvs := [(3, (10, 0), (0, 29), (0, 0)), (3, (10, 0), (0, 30), (0, 0))]) hseg (by decide +kernel) (by decide +kernel)
  have hinv : rxISTK_1 S0 ws S (r 8) := hinv
  rw [← hr_ 8 (by decide)] at hinv
  obtain ⟨⟨l8, u8⟩, ⟨l9, u9⟩, ⟨l10, u10⟩, -⟩ := b_
  obtain ⟨f0, f1, -⟩ := f_
  obtain ⟨e0, ⟨e1, w_⟩⟩ := d_
  subst w_
  have g := rxcSTK_1_3 hP hin I0 hinv l8 u8 l9 u9 l10 u10 f0 f1 e1 e0
  refine ⟨bx_narP_ok (l := []) g.1, bx_nfP_ok h0_ (fvs := []) (by decide +kernel) g.2.1, ?_, ?_⟩
  · show rxISTK_2 S0 ws S_p (bx_val [(0, 0), (0, 0), (0, 0), (0, 0), (0, 0), (0, 0), (0, 0), (0, 0), (8, 0), (9, 0)] r_p 8) (bx_val [(0, 0), (0, 0), (0, 0), (0, 0), (0, 0), (0, 0), (0, 0), (0, 0), (8, 0), (9, 0)] r_p 9)
    rw [bx_val_x (n := 8) (e := (8, 0)) h0_ rfl, bx_val_x (n := 9) (e := (9, 0)) h0_ rfl]
    exact g.2.2.1
  · show rxmSTK_2 S0 ws S_p (bx_val [(0, 0), (0, 0), (0, 0), (0, 0), (0, 0), (0, 0), (0, 0), (0, 0), (8, 0), (9, 0)] r_p 8) (bx_val [(0, 0), (0, 0), (0, 0), (0, 0), (0, 0), (0, 0), (0, 0), (0, 0), (8, 0), (9, 0)] r_p 9) < rxmSTK_1 S0 ws S_p (r 8)
    rw [bx_val_x (n := 8) (e := (8, 0)) h0_ rfl, bx_val_x (n := 9) (e := (9, 0)) h0_ rfl, ← hr_ 8 (by decide)]
    exact g.2.2.2
theorem rxcSTK_1_4 {S0 : Nat → Int → Int} {ws : List Int} {S : Nat → Int → Int} {least x9 x10 : Int} (hP : rxPSTK S0 ws) (hin : bx_same rxL (bx_mdl rxCSTK.2.2.1) S0 S) (I0 : bx_Inv rxL S) (hinv : rxISTK_1 S0 ws S least) (l8 : 1 ≤ least) (u8 : least ≤ 2) (l9 : 1 ≤ x9) (u9 : x9 ≤ 400) (l10 : 29 ≤ x10) (u10 : x10 ≤ 29) (f0 : x10 ≠ 30) (e1 : S 480 24 = x9) (e0 : S 489 (x9 + (-1)) = x10) : (True) ∧ (True) ∧ rxISTK_2 S0 ws S least x9 ∧ rxmSTK_2 S0 ws S least x9 < rxmSTK_1 S0 ws S least := by
  obtain ⟨hI, hx⟩ := hinv
  obtain ⟨a_, b_, c_, d_⟩ := rxcST_1_4 hP hin I0 hI l8 u8 l9 u9 l10 u10 f0 e1 e0
  exact ⟨a_, b_, ⟨c_, hx⟩, d_⟩
theorem rxgSTK_1_4 {X : (Nat → Int → Int) → Prop} {S0 : Nat → Int → Int} {ws : List Int} (hP : rxPSTK S0 ws) : bx_obC rxL X S0 rxCSTK.2.2.1 (rxISTK S0 ws) (rxmSTK S0 ws) 1 rxzSTK_1 rxoSTK_1_4 := by
  intro S S_p r r_p hinv hX hin hsm_ hseg
  obtain ⟨I0, I1, h0_, hr_, b_, f_, d_⟩ := bx_cl (evs := [(0, (0, 489), (9, (-1)), .inr (0, (10, 0))), (0, (0, 480), (0, 24), .inr (0, (9, 0)))]) (fvs := [(3, (10, 0), (0, 30), (0, 0))]) hseg (by decide +kernel) (by decide +kernel)
  have hinv : rxISTK_1 S0 ws S (r 8) := hinv
  rw [← hr_ 8 (by decide)] at hinv
  obtain ⟨⟨l8, u8⟩, ⟨l9, u9⟩, ⟨l10, u10⟩, -⟩ := b_
  obtain ⟨f0, -⟩ := f_
  obtain ⟨e0, ⟨e1, w_⟩⟩ := d_
  subst w_
  have g := rxcSTK_1_4 hP hin I0 hinv l8 u8 l9 u9 l10 u10 f0 e1 e0
  refine ⟨bx_narP_ok (l := []) g.1, bx_nfP_ok h0_ (fvs := []) (by decide +kernel) g.2.1, ?_, ?_⟩
  · show rxISTK_2 S0 ws S_p (bx_val [(0, 0), (0, 0), (0, 0), (0, 0), (0, 0), (0, 0), (0, 0), (0, 0), (8, 0), (9, 0)] r_p 8) (bx_val [(0, 0), (0, 0), (0, 0), (0, 0), (0, 0), (0, 0), (0, 0), (0, 0), (8, 0), (9, 0)] r_p 9)
    rw [bx_val_x (n := 8) (e := (8, 0)) h0_ rfl, bx_val_x (n := 9) (e := (9, 0)) h0_ rfl]
    exact g.2.2.1
  · show rxmSTK_2 S0 ws S_p (bx_val [(0, 0), (0, 0), (0, 0), (0, 0), (0, 0), (0, 0), (0, 0), (0, 0), (8, 0), (9, 0)] r_p 8) (bx_val [(0, 0), (0, 0), (0, 0), (0, 0), (0, 0), (0, 0), (0, 0), (0, 0), (8, 0), (9, 0)] r_p 9) < rxmSTK_1 S0 ws S_p (r 8)
    rw [bx_val_x (n := 8) (e := (8, 0)) h0_ rfl, bx_val_x (n := 9) (e := (9, 0)) h0_ rfl, ← hr_ 8 (by decide)]
    exact g.2.2.2
theorem rxcSTK_1_5 {S0 : Nat → Int → Int} {ws : List Int} {S : Nat → Int → Int} {least x9 x10 : Int} (hP : rxPSTK S0 ws) (hin : bx_same rxL (bx_mdl rxCSTK.2.2.1) S0 S) (I0 : bx_Inv rxL S) (hinv : rxISTK_1 S0 ws S least) (l8 : 1 ≤ least) (u8 : least ≤ 1) (l9 : 1 ≤ x9) (u9 : x9 ≤ 400) (l10 : 30 ≤ x10) (u10 : x10 ≤ 30) (e1 : S 480 24 = x9) (e0 : S 489 (x9 + (-1)) = x10) : (True) ∧ (True) ∧ rxISTK_2 S0 ws S least x9 ∧ rxmSTK_2 S0 ws S least x9 < rxmSTK_1 S0 ws S least := by
  obtain ⟨hI, hx⟩ := hinv
  obtain ⟨a_, b_, c_, d_⟩ := rxcST_1_5 hP hin I0 hI l8 u8 l9 u9 l10 u10 e1 e0
  exact ⟨a_, b_, ⟨c_, hx⟩, d_⟩
theorem rxgSTK_1_5 {X : (Nat → Int → Int) → Prop} {S0 : Nat → Int → Int} {ws : List Int} (hP : rxPSTK S0 ws) : bx_obC rxL X S0 rxCSTK.2.2.1 (rxISTK S0 ws) (rxmSTK S0 ws) 1 rxzSTK_1 rxoSTK_1_5 := by
  intro S S_p r r_p hinv hX hin hsm_ hseg
  obtain ⟨I0, I1, h0_, hr_, b_, f_, d_⟩ := bx_cl (evs := [(0, (0, 489), (9, (-1)), .inr (0, (10, 0))), (0, (0, 480), (0, 24), .inr (0, (9, 0)))]) (fvs := []) hseg (by decide +kernel) (by decide +kernel)
  have hinv : rxISTK_1 S0 ws S (r 8) := hinv
  rw [← hr_ 8 (by decide)] at hinv
  obtain ⟨⟨l8, u8⟩, ⟨l9, u9⟩, ⟨l10, u10⟩, -⟩ := b_
  obtain ⟨e0, ⟨e1, w_⟩⟩ := d_
  subst w_
  have g := rxcSTK_1_5 hP hin I0 hinv l8 u8 l9 u9 l10 u10 e1 e0
  refine ⟨bx_narP_ok (l := []) g.1, bx_nfP_ok h0_ (fvs := []) (by decide +kernel) g.2.1, ?_, ?_⟩
  · show rxISTK_2 S0 ws S_p (bx_val [(0, 0), (0, 0), (0, 0), (0, 0), (0, 0), (0, 0), (0, 0), (0, 0), (8, 0), (9, 0)] r_p 8) (bx_val [(0, 0), (0, 0), (0, 0), (0, 0), (0, 0), (0, 0), (0, 0), (0, 0), (8, 0), (9, 0)] r_p 9)
    rw [bx_val_x (n := 8) (e := (8, 0)) h0_ rfl, bx_val_x (n := 9) (e := (9, 0)) h0_ rfl]
    exact g.2.2.1
  · show rxmSTK_2 S0 ws S_p (bx_val [(0, 0), (0, 0), (0, 0), (0, 0), (0, 0), (0, 0), (0, 0), (0, 0), (8, 0), (9, 0)] r_p 8) (bx_val [(0, 0), (0, 0), (0, 0), (0, 0), (0, 0), (0, 0), (0, 0), (0, 0), (8, 0), (9, 0)] r_p 9) < rxmSTK_1 S0 ws S_p (r 8)
    rw [bx_val_x (n := 8) (e := (8, 0)) h0_ rfl, bx_val_x (n := 9) (e := (9, 0)) h0_ rfl, ← hr_ 8 (by decide)]
    exact g.2.2.2
theorem rxdSTK_1_0 {S0 : Nat → Int → Int} {ws : List Int} {S : Nat → Int → Int} {least x9 x10 : Int} (hP : rxPSTK S0 ws) (hin : bx_same rxL (bx_mdl rxCSTK.2.2.1) S0 S) (hin2 : bx_same rxL (bx_mdl rxCSTK.2.2.1) S S) (I0 : bx_Inv rxL S) (I1 : bx_Inv rxL S) (hinv : rxISTK_1 S0 ws S least) (l8 : 6 ≤ least) (u8 : least ≤ 6) (l9 : 1 ≤ x9) (u9 : x9 ≤ 400) (l10 : 0 ≤ x10) (u10 : x10 ≤ 21) (f0 : x10 ≠ 28) (f1 : x10 ≠ 29) (f2 : x10 ≠ 30) (e1 : S 480 24 = x9) (e0 : S 489 (x9 + (-1)) = x10) : (True) ∧ rxPSSTK S0 ws S none := by
  obtain ⟨hI, hx⟩ := hinv
  obtain ⟨a_, c_⟩ := rxdST_1_0 hP hin hin2 I0 I1 hI l8 u8 l9 u9 l10 u10 f0 f1 f2 e1 e0
  exact ⟨a_, rfl, c_, (by
    have hw := hI.1
    obtain ⟨-, l2, hw2, hs2, hz⟩ := c_
    have e2 : least = l2 := Option.some.inj (congrArg (fun l : List Int => l[1]?) (hw.symm.trans hw2))
    subst e2
    exact ⟨least, hw2, rkMr_end hx hz⟩)⟩
theorem rxfSTK_1_0 {X : (Nat → Int → Int) → Prop} {S0 : Nat → Int → Int} {ws : List Int} (hP : rxPSTK S0 ws) : bx_obE rxL X S0 rxCSTK.2.2.1 (rxISTK S0 ws) (rxPSSTK S0 ws) 1 rxzSTK_1 rxeSTK_1_0 := by
  intro S S_p r r_p hinv hX hin hsm_ hseg
  obtain ⟨I0, I1, h0_, hr_, b_, f_, d_⟩ := bx_cl (evs := [(0, (0, 489), (9, (-1)), .inr (0, (10, 0))), (0, (0, 480), (0, 24), .inr (0, (9, 0)))]) (fvs := [(3, (10, 0), (0, 28), (0, 0)), (3, (10, 0), (0, 29), (0, 0)), (3, (10, 0), (0, 30), (0, 0))]) hseg (by decide +kernel) (by decide +kernel)
  have hinv : rxISTK_1 S0 ws S (r 8) := hinv
  rw [← hr_ 8 (by decide)] at hinv
  obtain ⟨⟨l8, u8⟩, ⟨l9, u9⟩, ⟨l10, u10⟩, -⟩ := b_
  obtain ⟨f0, f1, f2, -⟩ := f_
  obtain ⟨e0, ⟨e1, w_⟩⟩ := d_
  subst w_
  have g := rxdSTK_1_0 hP hin hsm_ I0 I1 hinv l8 u8 l9 u9 l10 u10 f0 f1 f2 e1 e0
  refine ⟨bx_narP_ok (l := []) g.1, ?_⟩
  exact g.2
theorem rxdSTK_1_1 {S0 : Nat → Int → Int} {ws : List Int} {S : Nat → Int → Int} {least x9 x10 : Int} (hP : rxPSTK S0 ws) (hin : bx_same rxL (bx_mdl rxCSTK.2.2.1) S0 S) (hin2 : bx_same rxL (bx_mdl rxCSTK.2.2.1) S S) (I0 : bx_Inv rxL S) (I1 : bx_Inv rxL S) (hinv : rxISTK_1 S0 ws S least) (l8 : 5 ≤ least) (u8 : least ≤ 6) (l9 : 1 ≤ x9) (u9 : x9 ≤ 400) (l10 : 25 ≤ x10) (u10 : x10 ≤ 27) (f0 : x10 ≠ 28) (f1 : x10 ≠ 29) (f2 : x10 ≠ 30) (e1 : S 480 24 = x9) (e0 : S 489 (x9 + (-1)) = x10) : (True) ∧ rxPSSTK S0 ws S none := by
  obtain ⟨hI, hx⟩ := hinv
  obtain ⟨a_, c_⟩ := rxdST_1_1 hP hin hin2 I0 I1 hI l8 u8 l9 u9 l10 u10 f0 f1 f2 e1 e0
  exact ⟨a_, rfl, c_, (by
    have hw := hI.1
    obtain ⟨-, l2, hw2, hs2, hz⟩ := c_
    have e2 : least = l2 := Option.some.inj (congrArg (fun l : List Int => l[1]?) (hw.symm.trans hw2))
    subst e2
    exact ⟨least, hw2, rkMr_end hx hz⟩)⟩
theorem rxfSTK_1_1 {X : (Nat → Int → Int) → Prop} {S0 : Nat → Int → Int} {ws : List Int} (hP : rxPSTK S0 ws) : bx_obE rxL X S0 rxCSTK.2.2.1 (rxISTK S0 ws) (rxPSSTK S0 ws) 1 rxzSTK_1 rxeSTK_1_1 := by
  intro S S_p r r_p hinv hX hin hsm_ hseg
  obtain ⟨I0, I1, h0_, hr_, b_, f_, d_⟩ := bx_cl (evs := [(0, (0, 489), (9, (-1)), .inr (0, (10, 0))), (0, (0, 480), (0, 24), .inr (0, (9, 0)))]) (fvs := [(3, (10, 0), (0, 28), (0, 0)), (3, (10, 0), (0, 29), (0, 0)), (3, (10, 0), (0, 30), (0, 0))]) hseg (by decide +kernel) (by decide +kernel)
  have hinv : rxISTK_1 S0 ws S (r 8) := hinv
  rw [← hr_ 8 (by decide)] at hinv
  obtain ⟨⟨l8, u8⟩, ⟨l9, u9⟩, ⟨l10, u10⟩, -⟩ := b_
  obtain ⟨f0, f1, f2, -⟩ := f_
  obtain ⟨e0, ⟨e1, w_⟩⟩ := d_
  subst w_
  have g := rxdSTK_1_1 hP hin hsm_ I0 I1 hinv l8 u8 l9 u9 l10 u10 f0 f1 f2 e1 e0
  refine ⟨bx_narP_ok (l := []) g.1, ?_⟩
  exact g.2
theorem rxdSTK_1_2 {S0 : Nat → Int → Int} {ws : List Int} {S : Nat → Int → Int} {least x9 x10 : Int} (hP : rxPSTK S0 ws) (hin : bx_same rxL (bx_mdl rxCSTK.2.2.1) S0 S) (hin2 : bx_same rxL (bx_mdl rxCSTK.2.2.1) S S) (I0 : bx_Inv rxL S) (I1 : bx_Inv rxL S) (hinv : rxISTK_1 S0 ws S least) (l8 : 4 ≤ least) (u8 : least ≤ 6) (l9 : 1 ≤ x9) (u9 : x9 ≤ 400) (l10 : 28 ≤ x10) (u10 : x10 ≤ 28) (f0 : x10 ≠ 29) (f1 : x10 ≠ 30) (e1 : S 480 24 = x9) (e0 : S 489 (x9 + (-1)) = x10) : (True) ∧ rxPSSTK S0 ws S none := by
  obtain ⟨hI, hx⟩ := hinv
  obtain ⟨a_, c_⟩ := rxdST_1_2 hP hin hin2 I0 I1 hI l8 u8 l9 u9 l10 u10 f0 f1 e1 e0
  exact ⟨a_, rfl, c_, (by
    have hw := hI.1
    obtain ⟨-, l2, hw2, hs2, hz⟩ := c_
    have e2 : least = l2 := Option.some.inj (congrArg (fun l : List Int => l[1]?) (hw.symm.trans hw2))
    subst e2
    exact ⟨least, hw2, rkMr_end hx hz⟩)⟩
theorem rxfSTK_1_2 {X : (Nat → Int → Int) → Prop} {S0 : Nat → Int → Int} {ws : List Int} (hP : rxPSTK S0 ws) : bx_obE rxL X S0 rxCSTK.2.2.1 (rxISTK S0 ws) (rxPSSTK S0 ws) 1 rxzSTK_1 rxeSTK_1_2 := by
  intro S S_p r r_p hinv hX hin hsm_ hseg
  obtain ⟨I0, I1, h0_, hr_, b_, f_, d_⟩ := bx_cl (evs := [(0, (0, 489), (9, (-1)), .inr (0, (10, 0))), (0, (0, 480), (0, 24), .inr (0, (9, 0)))]) (fvs := [(3, (10, 0), (0, 29), (0, 0)), (3, (10, 0), (0, 30), (0, 0))]) hseg (by decide +kernel) (by decide +kernel)
  have hinv : rxISTK_1 S0 ws S (r 8) := hinv
  rw [← hr_ 8 (by decide)] at hinv
  obtain ⟨⟨l8, u8⟩, ⟨l9, u9⟩, ⟨l10, u10⟩, -⟩ := b_
  obtain ⟨f0, f1, -⟩ := f_
  obtain ⟨e0, ⟨e1, w_⟩⟩ := d_
  subst w_
  have g := rxdSTK_1_2 hP hin hsm_ I0 I1 hinv l8 u8 l9 u9 l10 u10 f0 f1 e1 e0
  refine ⟨bx_narP_ok (l := []) g.1, ?_⟩
  exact g.2
theorem rxdSTK_1_3 {S0 : Nat → Int → Int} {ws : List Int} {S : Nat → Int → Int} {least x9 x10 : Int} (hP : rxPSTK S0 ws) (hin : bx_same rxL (bx_mdl rxCSTK.2.2.1) S0 S) (hin2 : bx_same rxL (bx_mdl rxCSTK.2.2.1) S S) (I0 : bx_Inv rxL S) (I1 : bx_Inv rxL S) (hinv : rxISTK_1 S0 ws S least) (l8 : 3 ≤ least) (u8 : least ≤ 6) (l9 : 1 ≤ x9) (u9 : x9 ≤ 400) (l10 : 29 ≤ x10) (u10 : x10 ≤ 29) (f0 : x10 ≠ 30) (e1 : S 480 24 = x9) (e0 : S 489 (x9 + (-1)) = x10) : (True) ∧ rxPSSTK S0 ws S none := by
  obtain ⟨hI, hx⟩ := hinv
  obtain ⟨a_, c_⟩ := rxdST_1_3 hP hin hin2 I0 I1 hI l8 u8 l9 u9 l10 u10 f0 e1 e0
  exact ⟨a_, rfl, c_, (by
    have hw := hI.1
    obtain ⟨-, l2, hw2, hs2, hz⟩ := c_
    have e2 : least = l2 := Option.some.inj (congrArg (fun l : List Int => l[1]?) (hw.symm.trans hw2))
    subst e2
    exact ⟨least, hw2, rkMr_end hx hz⟩)⟩
theorem rxfSTK_1_3 {X : (Nat → Int → Int) → Prop} {S0 : Nat → Int → Int} {ws : List Int} (hP : rxPSTK S0 ws) : bx_obE rxL X S0 rxCSTK.2.2.1 (rxISTK S0 ws) (rxPSSTK S0 ws) 1 rxzSTK_1 rxeSTK_1_3 := by
  intro S S_p r r_p hinv hX hin hsm_ hseg
  obtain ⟨I0, I1, h0_, hr_, b_, f_, d_⟩ := bx_cl (evs := [(0, (0, 489), (9, (-1)), .inr (0, (10, 0))), (0, (0, 480), (0, 24), .inr (0, (9, 0)))]) (fvs := [(3, (10, 0), (0, 30), (0, 0))]) hseg (by decide +kernel) (by decide +kernel)
  have hinv : rxISTK_1 S0 ws S (r 8) := hinv
  rw [← hr_ 8 (by decide)] at hinv
  obtain ⟨⟨l8, u8⟩, ⟨l9, u9⟩, ⟨l10, u10⟩, -⟩ := b_
  obtain ⟨f0, -⟩ := f_
  obtain ⟨e0, ⟨e1, w_⟩⟩ := d_
  subst w_
  have g := rxdSTK_1_3 hP hin hsm_ I0 I1 hinv l8 u8 l9 u9 l10 u10 f0 e1 e0
  refine ⟨bx_narP_ok (l := []) g.1, ?_⟩
  exact g.2
theorem rxdSTK_1_4 {S0 : Nat → Int → Int} {ws : List Int} {S : Nat → Int → Int} {least x9 x10 : Int} (hP : rxPSTK S0 ws) (hin : bx_same rxL (bx_mdl rxCSTK.2.2.1) S0 S) (hin2 : bx_same rxL (bx_mdl rxCSTK.2.2.1) S S) (I0 : bx_Inv rxL S) (I1 : bx_Inv rxL S) (hinv : rxISTK_1 S0 ws S least) (l8 : 2 ≤ least) (u8 : least ≤ 6) (l9 : 1 ≤ x9) (u9 : x9 ≤ 400) (l10 : 30 ≤ x10) (u10 : x10 ≤ 30) (e1 : S 480 24 = x9) (e0 : S 489 (x9 + (-1)) = x10) : (True) ∧ rxPSSTK S0 ws S none := by
  obtain ⟨hI, hx⟩ := hinv
  obtain ⟨a_, c_⟩ := rxdST_1_4 hP hin hin2 I0 I1 hI l8 u8 l9 u9 l10 u10 e1 e0
  exact ⟨a_, rfl, c_, (by
    have hw := hI.1
    obtain ⟨-, l2, hw2, hs2, hz⟩ := c_
    have e2 : least = l2 := Option.some.inj (congrArg (fun l : List Int => l[1]?) (hw.symm.trans hw2))
    subst e2
    exact ⟨least, hw2, rkMr_end hx hz⟩)⟩
theorem rxfSTK_1_4 {X : (Nat → Int → Int) → Prop} {S0 : Nat → Int → Int} {ws : List Int} (hP : rxPSTK S0 ws) : bx_obE rxL X S0 rxCSTK.2.2.1 (rxISTK S0 ws) (rxPSSTK S0 ws) 1 rxzSTK_1 rxeSTK_1_4 := by
  intro S S_p r r_p hinv hX hin hsm_ hseg
  obtain ⟨I0, I1, h0_, hr_, b_, f_, d_⟩ := bx_cl (evs := [(0, (0, 489), (9, (-1)), .inr (0, (10, 0))), (0, (0, 480), (0, 24), .inr (0, (9, 0)))]) (fvs := []) hseg (by decide +kernel) (by decide +kernel)
  have hinv : rxISTK_1 S0 ws S (r 8) := hinv
  rw [← hr_ 8 (by decide)] at hinv
  obtain ⟨⟨l8, u8⟩, ⟨l9, u9⟩, ⟨l10, u10⟩, -⟩ := b_
  obtain ⟨e0, ⟨e1, w_⟩⟩ := d_
  subst w_
  have g := rxdSTK_1_4 hP hin hsm_ I0 I1 hinv l8 u8 l9 u9 l10 u10 e1 e0
  refine ⟨bx_narP_ok (l := []) g.1, ?_⟩
  exact g.2
theorem rxdSTK_1_5 {S0 : Nat → Int → Int} {ws : List Int} {S : Nat → Int → Int} {least x9 x10 : Int} (hP : rxPSTK S0 ws) (hin : bx_same rxL (bx_mdl rxCSTK.2.2.1) S0 S) (hin2 : bx_same rxL (bx_mdl rxCSTK.2.2.1) S S) (I0 : bx_Inv rxL S) (I1 : bx_Inv rxL S) (hinv : rxISTK_1 S0 ws S least) (l8 : 1 ≤ least) (u8 : least ≤ 6) (l9 : 1 ≤ x9) (u9 : x9 ≤ 400) (l10 : 31 ≤ x10) (u10 : x10 ≤ 32) (e1 : S 480 24 = x9) (e0 : S 489 (x9 + (-1)) = x10) : (True) ∧ rxPSSTK S0 ws S none := by
  obtain ⟨hI, hx⟩ := hinv
  obtain ⟨a_, c_⟩ := rxdST_1_5 hP hin hin2 I0 I1 hI l8 u8 l9 u9 l10 u10 e1 e0
  exact ⟨a_, rfl, c_, (by
    have hw := hI.1
    obtain ⟨-, l2, hw2, hs2, hz⟩ := c_
    have e2 : least = l2 := Option.some.inj (congrArg (fun l : List Int => l[1]?) (hw.symm.trans hw2))
    subst e2
    exact ⟨least, hw2, rkMr_end hx hz⟩)⟩
theorem rxfSTK_1_5 {X : (Nat → Int → Int) → Prop} {S0 : Nat → Int → Int} {ws : List Int} (hP : rxPSTK S0 ws) : bx_obE rxL X S0 rxCSTK.2.2.1 (rxISTK S0 ws) (rxPSSTK S0 ws) 1 rxzSTK_1 rxeSTK_1_5 := by
  intro S S_p r r_p hinv hX hin hsm_ hseg
  obtain ⟨I0, I1, h0_, hr_, b_, f_, d_⟩ := bx_cl (evs := [(0, (0, 489), (9, (-1)), .inr (0, (10, 0))), (0, (0, 480), (0, 24), .inr (0, (9, 0)))]) (fvs := []) hseg (by decide +kernel) (by decide +kernel)
  have hinv : rxISTK_1 S0 ws S (r 8) := hinv
  rw [← hr_ 8 (by decide)] at hinv
  obtain ⟨⟨l8, u8⟩, ⟨l9, u9⟩, ⟨l10, u10⟩, -⟩ := b_
  obtain ⟨e0, ⟨e1, w_⟩⟩ := d_
  subst w_
  have g := rxdSTK_1_5 hP hin hsm_ I0 I1 hinv l8 u8 l9 u9 l10 u10 e1 e0
  refine ⟨bx_narP_ok (l := []) g.1, ?_⟩
  exact g.2
theorem rxdSTK_1_6 {S0 : Nat → Int → Int} {ws : List Int} {S : Nat → Int → Int} {least x9 : Int} (hP : rxPSTK S0 ws) (hin : bx_same rxL (bx_mdl rxCSTK.2.2.1) S0 S) (hin2 : bx_same rxL (bx_mdl rxCSTK.2.2.1) S S) (I0 : bx_Inv rxL S) (I1 : bx_Inv rxL S) (hinv : rxISTK_1 S0 ws S least) (l8 : 1 ≤ least) (u8 : least ≤ 6) (l9 : 0 ≤ x9) (u9 : x9 ≤ 0) (e0 : S 480 24 = x9) : (True) ∧ rxPSSTK S0 ws S none := by
  obtain ⟨hI, hx⟩ := hinv
  obtain ⟨a_, c_⟩ := rxdST_1_6 hP hin hin2 I0 I1 hI l8 u8 l9 u9 e0
  exact ⟨a_, rfl, c_, (by
    have hw := hI.1
    obtain ⟨-, l2, hw2, hs2, hz⟩ := c_
    have e2 : least = l2 := Option.some.inj (congrArg (fun l : List Int => l[1]?) (hw.symm.trans hw2))
    subst e2
    exact ⟨least, hw2, rkMr_end hx hz⟩)⟩
theorem rxfSTK_1_6 {X : (Nat → Int → Int) → Prop} {S0 : Nat → Int → Int} {ws : List Int} (hP : rxPSTK S0 ws) : bx_obE rxL X S0 rxCSTK.2.2.1 (rxISTK S0 ws) (rxPSSTK S0 ws) 1 rxzSTK_1 rxeSTK_1_6 := by
  intro S S_p r r_p hinv hX hin hsm_ hseg
  obtain ⟨I0, I1, h0_, hr_, b_, f_, d_⟩ := bx_cl (evs := [(0, (0, 480), (0, 24), .inr (0, (9, 0)))]) (fvs := []) hseg (by decide +kernel) (by decide +kernel)
  have hinv : rxISTK_1 S0 ws S (r 8) := hinv
  rw [← hr_ 8 (by decide)] at hinv
  obtain ⟨⟨l8, u8⟩, ⟨l9, u9⟩, -⟩ := b_
  obtain ⟨e0, w_⟩ := d_
  subst w_
  have g := rxdSTK_1_6 hP hin hsm_ I0 I1 hinv l8 u8 l9 u9 e0
  refine ⟨bx_narP_ok (l := []) g.1, ?_⟩
  exact g.2
theorem rxcSTK_2_0 {S0 : Nat → Int → Int} {ws : List Int} {S : Nat → Int → Int} {least p x10 x11 x12 x13 : Int} (hP : rxPSTK S0 ws) (hin : bx_same rxL (bx_mdl rxCSTK.2.2.1) S0 S) (I0 : bx_Inv rxL S) (hinv : rxISTK_2 S0 ws S least p) (l8 : 1 ≤ least) (u8 : least ≤ 6) (l9 : 1 ≤ p) (u9 : p ≤ 400) (l10 : 0 ≤ x10) (u10 : x10 ≤ 32) (l11 : 30 ≤ x11) (u11 : x11 ≤ 30) (l12 : 0 ≤ x12) (u12 : x12 ≤ 400) (l13 : 0 ≤ x13) (u13 : x13 ≤ 400) (f0 : x10 ≠ 29) (e3 : (bx_up S 480 24 (p + (-1))) 489 (p + (-1)) = x10) (e2 : (bx_up S 480 24 (p + (-1))) 489 (p + (-1)) = x11) (e1 : (bx_up S 480 24 (p + (-1))) 490 (p + (-1)) = x12) (e0 : (bx_up S 480 24 (p + (-1))) 480 18 = x13) : ((0 ≤ x12 ∧ x12 ≤ 399) ∧ True) ∧ (True) ∧ rxISTK_3 S0 ws (bx_up S 480 24 (p + (-1))) least x12 x13 ∧ rxmSTK_3 S0 ws (bx_up S 480 24 (p + (-1))) least x12 x13 < rxmSTK_2 S0 ws S least p := by
  obtain ⟨hI, hx⟩ := hinv
  obtain ⟨a_, b_, c_, d_⟩ := rxcST_2_0 hP hin I0 hI l8 u8 l9 u9 l10 u10 l11 u11 l12 u12 l13 u13 f0 e3 e2 e1 e0
  exact ⟨a_, b_, ⟨c_, (by
    have e : (bx_up S 480 24 (p + (-1))) = bx_up S 480 24 (S 480 24 - 1) := congrArg (bx_up S 480 24) (by have := hI.1; omega)
    rw [e, rkBk_at]
    exact hx)⟩, d_⟩
theorem rxgSTK_2_0 {X : (Nat → Int → Int) → Prop} {S0 : Nat → Int → Int} {ws : List Int} (hP : rxPSTK S0 ws) : bx_obC rxL X S0 rxCSTK.2.2.1 (rxISTK S0 ws) (rxmSTK S0 ws) 2 rxzSTK_2 rxoSTK_2_0 := by
  intro S S_p r r_p hinv hX hin hsm_ hseg
  obtain ⟨I0, I1, h0_, hr_, b_, f_, d_⟩ := bx_cl (evs := [(0, (0, 480), (0, 18), .inr (0, (13, 0))), (0, (0, 490), (9, (-1)), .inr (0, (12, 0))), (0, (0, 489), (9, (-1)), .inr (0, (11, 0))), (0, (0, 489), (9, (-1)), .inr (0, (10, 0))), (1, (0, 480), (0, 24), .inr (0, (9, (-1))))]) (fvs := [(3, (10, 0), (0, 29), (0, 0))]) hseg (by decide +kernel) (by decide +kernel)
  have hinv : rxISTK_2 S0 ws S (r 8) (r 9) := hinv
  rw [← hr_ 8 (by decide), ← hr_ 9 (by decide)] at hinv
  obtain ⟨⟨l8, u8⟩, ⟨l9, u9⟩, ⟨l10, u10⟩, ⟨l11, u11⟩, ⟨l12, u12⟩, ⟨l13, u13⟩, -⟩ := b_
  obtain ⟨f0, -⟩ := f_
  obtain ⟨e0, ⟨e1, ⟨e2, ⟨e3, ⟨T4, w_, w4⟩⟩⟩⟩⟩ := d_
  subst w4
  subst w_
  have g := rxcSTK_2_0 hP hin I0 hinv l8 u8 l9 u9 l10 u10 l11 u11 l12 u12 l13 u13 f0 e3 e2 e1 e0
  refine ⟨bx_narP_ok (l := [(12, 0, 399)]) g.1, bx_nfP_ok h0_ (fvs := []) (by decide +kernel) g.2.1, ?_, ?_⟩
  · show rxISTK_3 S0 ws (bx_up T4 480 (24) (r_p 9 + (-1))) (bx_val [(0, 0), (0, 0), (0, 0), (0, 0), (0, 0), (0, 0), (0, 0), (0, 0), (8, 0), (12, 0), (13, 0)] r_p 8) (bx_val [(0, 0), (0, 0), (0, 0), (0, 0), (0, 0), (0, 0), (0, 0), (0, 0), (8, 0), (12, 0), (13, 0)] r_p 9) (bx_val [(0, 0), (0, 0), (0, 0), (0, 0), (0, 0), (0, 0), (0, 0), (0, 0), (8, 0), (12, 0), (13, 0)] r_p 10)
    rw [bx_val_x (n := 8) (e := (8, 0)) h0_ rfl, bx_val_x (n := 9) (e := (12, 0)) h0_ rfl, bx_val_x (n := 10) (e := (13, 0)) h0_ rfl]
    exact g.2.2.1
  · show rxmSTK_3 S0 ws (bx_up T4 480 (24) (r_p 9 + (-1))) (bx_val [(0, 0), (0, 0), (0, 0), (0, 0), (0, 0), (0, 0), (0, 0), (0, 0), (8, 0), (12, 0), (13, 0)] r_p 8) (bx_val [(0, 0), (0, 0), (0, 0), (0, 0), (0, 0), (0, 0), (0, 0), (0, 0), (8, 0), (12, 0), (13, 0)] r_p 9) (bx_val [(0, 0), (0, 0), (0, 0), (0, 0), (0, 0), (0, 0), (0, 0), (0, 0), (8, 0), (12, 0), (13, 0)] r_p 10) < rxmSTK_2 S0 ws T4 (r 8) (r 9)
    rw [bx_val_x (n := 8) (e := (8, 0)) h0_ rfl, bx_val_x (n := 9) (e := (12, 0)) h0_ rfl, bx_val_x (n := 10) (e := (13, 0)) h0_ rfl, ← hr_ 8 (by decide), ← hr_ 9 (by decide)]
    exact g.2.2.2
theorem rxcSTK_2_1 {S0 : Nat → Int → Int} {ws : List Int} {S : Nat → Int → Int} {least p x10 x11 x12 : Int} (hP : rxPSTK S0 ws) (hin : bx_same rxL (bx_mdl rxCSTK.2.2.1) S0 S) (I0 : bx_Inv rxL S) (hinv : rxISTK_2 S0 ws S least p) (l8 : 1 ≤ least) (u8 : least ≤ 6) (l9 : 1 ≤ p) (u9 : p ≤ 400) (l10 : 0 ≤ x10) (u10 : x10 ≤ 32) (l11 : 0 ≤ x11) (u11 : x11 ≤ 32) (l12 : 0 ≤ x12) (u12 : x12 ≤ 32) (f0 : x11 ≠ 30) (f1 : x10 ≠ 29) (e2 : (bx_up S 480 24 (p + (-1))) 489 (p + (-1)) = x10) (e1 : (bx_up S 480 24 (p + (-1))) 489 (p + (-1)) = x11) (e0 : (bx_up S 480 24 (p + (-1))) 489 (p + (-1)) = x12) : ((0 ≤ x12 ∧ x12 ≤ 30) ∧ True) ∧ (True) ∧ rxISTK_4 S0 ws (bx_up S 480 24 (p + (-1))) least x12 ∧ rxmSTK_4 S0 ws (bx_up S 480 24 (p + (-1))) least x12 < rxmSTK_2 S0 ws S least p := by
  obtain ⟨hI, hx⟩ := hinv
  obtain ⟨a_, b_, c_, d_⟩ := rxcST_2_1 hP hin I0 hI l8 u8 l9 u9 l10 u10 l11 u11 l12 u12 f0 f1 e2 e1 e0
  exact ⟨a_, b_, ⟨c_, (by
    have e : (bx_up S 480 24 (p + (-1))) = bx_up S 480 24 (S 480 24 - 1) := congrArg (bx_up S 480 24) (by have := hI.1; omega)
    rw [e, rkBk_at]
    exact hx)⟩, d_⟩
theorem rxgSTK_2_1 {X : (Nat → Int → Int) → Prop} {S0 : Nat → Int → Int} {ws : List Int} (hP : rxPSTK S0 ws) : bx_obC rxL X S0 rxCSTK.2.2.1 (rxISTK S0 ws) (rxmSTK S0 ws) 2 rxzSTK_2 rxoSTK_2_1 := by
  intro S S_p r r_p hinv hX hin hsm_ hseg
  obtain ⟨I0, I1, h0_, hr_, b_, f_, d_⟩ := bx_cl (evs := [(0, (0, 489), (9, (-1)), .inr (0, (12, 0))), (0, (0, 489), (9, (-1)), .inr (0, (11, 0))), (0, (0, 489), (9, (-1)), .inr (0, (10, 0))), (1, (0, 480), (0, 24), .inr (0, (9, (-1))))]) (fvs := [(3, (11, 0), (0, 30), (0, 0)), (3, (10, 0), (0, 29), (0, 0))]) hseg (by decide +kernel) (by decide +kernel)
  have hinv : rxISTK_2 S0 ws S (r 8) (r 9) := hinv
  rw [← hr_ 8 (by decide), ← hr_ 9 (by decide)] at hinv
  obtain ⟨⟨l8, u8⟩, ⟨l9, u9⟩, ⟨l10, u10⟩, ⟨l11, u11⟩, ⟨l12, u12⟩, -⟩ := b_
  obtain ⟨f0, f1, -⟩ := f_
  obtain ⟨e0, ⟨e1, ⟨e2, ⟨T3, w_, w3⟩⟩⟩⟩ := d_
  subst w3
  subst w_
  have g := rxcSTK_2_1 hP hin I0 hinv l8 u8 l9 u9 l10 u10 l11 u11 l12 u12 f0 f1 e2 e1 e0
  refine ⟨bx_narP_ok (l := [(12, 0, 30)]) g.1, bx_nfP_ok h0_ (fvs := []) (by decide +kernel) g.2.1, ?_, ?_⟩
  · show rxISTK_4 S0 ws (bx_up T3 480 (24) (r_p 9 + (-1))) (bx_val [(0, 0), (0, 0), (0, 0), (0, 0), (0, 0), (0, 0), (0, 0), (0, 0), (8, 0), (12, 0)] r_p 8) (bx_val [(0, 0), (0, 0), (0, 0), (0, 0), (0, 0), (0, 0), (0, 0), (0, 0), (8, 0), (12, 0)] r_p 9)
    rw [bx_val_x (n := 8) (e := (8, 0)) h0_ rfl, bx_val_x (n := 9) (e := (12, 0)) h0_ rfl]
    exact g.2.2.1
  · show rxmSTK_4 S0 ws (bx_up T3 480 (24) (r_p 9 + (-1))) (bx_val [(0, 0), (0, 0), (0, 0), (0, 0), (0, 0), (0, 0), (0, 0), (0, 0), (8, 0), (12, 0)] r_p 8) (bx_val [(0, 0), (0, 0), (0, 0), (0, 0), (0, 0), (0, 0), (0, 0), (0, 0), (8, 0), (12, 0)] r_p 9) < rxmSTK_2 S0 ws T3 (r 8) (r 9)
    rw [bx_val_x (n := 8) (e := (8, 0)) h0_ rfl, bx_val_x (n := 9) (e := (12, 0)) h0_ rfl, ← hr_ 8 (by decide), ← hr_ 9 (by decide)]
    exact g.2.2.2
theorem rxcSTK_2_2 {S0 : Nat → Int → Int} {ws : List Int} {S : Nat → Int → Int} {least p x10 x11 x12 : Int} (hP : rxPSTK S0 ws) (hin : bx_same rxL (bx_mdl rxCSTK.2.2.1) S0 S) (I0 : bx_Inv rxL S) (hinv : rxISTK_2 S0 ws S least p) (l8 : 1 ≤ least) (u8 : least ≤ 6) (l9 : 1 ≤ p) (u9 : p ≤ 400) (l10 : 29 ≤ x10) (u10 : x10 ≤ 29) (l11 : 0 ≤ x11) (u11 : x11 ≤ 400) (l12 : 0 ≤ x12) (u12 : x12 ≤ 400) (e2 : (bx_up S 480 24 (p + (-1))) 489 (p + (-1)) = x10) (e1 : (bx_up S 480 24 (p + (-1))) 490 (p + (-1)) = x11) (e0 : (bx_up S 480 24 (p + (-1))) 480 18 = x12) : ((0 ≤ x11 ∧ x11 ≤ 399) ∧ True) ∧ (True) ∧ rxISTK_3 S0 ws (bx_up S 480 24 (p + (-1))) least x11 x12 ∧ rxmSTK_3 S0 ws (bx_up S 480 24 (p + (-1))) least x11 x12 < rxmSTK_2 S0 ws S least p := by
  obtain ⟨hI, hx⟩ := hinv
  obtain ⟨a_, b_, c_, d_⟩ := rxcST_2_2 hP hin I0 hI l8 u8 l9 u9 l10 u10 l11 u11 l12 u12 e2 e1 e0
  exact ⟨a_, b_, ⟨c_, (by
    have e : (bx_up S 480 24 (p + (-1))) = bx_up S 480 24 (S 480 24 - 1) := congrArg (bx_up S 480 24) (by have := hI.1; omega)
    rw [e, rkBk_at]
    exact hx)⟩, d_⟩
theorem rxgSTK_2_2 {X : (Nat → Int → Int) → Prop} {S0 : Nat → Int → Int} {ws : List Int} (hP : rxPSTK S0 ws) : bx_obC rxL X S0 rxCSTK.2.2.1 (rxISTK S0 ws) (rxmSTK S0 ws) 2 rxzSTK_2 rxoSTK_2_2 := by
  intro S S_p r r_p hinv hX hin hsm_ hseg
  obtain ⟨I0, I1, h0_, hr_, b_, f_, d_⟩ := bx_cl (evs := [(0, (0, 480), (0, 18), .inr (0, (12, 0))), (0, (0, 490), (9, (-1)), .inr (0, (11, 0))), (0, (0, 489), (9, (-1)), .inr (0, (10, 0))), (1, (0, 480), (0, 24), .inr (0, (9, (-1))))]) (fvs := []) hseg (by decide +kernel) (by decide +kernel)
  have hinv : rxISTK_2 S0 ws S (r 8) (r 9) := hinv
  rw [← hr_ 8 (by decide), ← hr_ 9 (by decide)] at hinv
  obtain ⟨⟨l8, u8⟩, ⟨l9, u9⟩, ⟨l10, u10⟩, ⟨l11, u11⟩, ⟨l12, u12⟩, -⟩ := b_
  obtain ⟨e0, ⟨e1, ⟨e2, ⟨T3, w_, w3⟩⟩⟩⟩ := d_
  subst w3
  subst w_
  have g := rxcSTK_2_2 hP hin I0 hinv l8 u8 l9 u9 l10 u10 l11 u11 l12 u12 e2 e1 e0
  refine ⟨bx_narP_ok (l := [(11, 0, 399)]) g.1, bx_nfP_ok h0_ (fvs := []) (by decide +kernel) g.2.1, ?_, ?_⟩
  · show rxISTK_3 S0 ws (bx_up T3 480 (24) (r_p 9 + (-1))) (bx_val [(0, 0), (0, 0), (0, 0), (0, 0), (0, 0), (0, 0), (0, 0), (0, 0), (8, 0), (11, 0), (12, 0)] r_p 8) (bx_val [(0, 0), (0, 0), (0, 0), (0, 0), (0, 0), (0, 0), (0, 0), (0, 0), (8, 0), (11, 0), (12, 0)] r_p 9) (bx_val [(0, 0), (0, 0), (0, 0), (0, 0), (0, 0), (0, 0), (0, 0), (0, 0), (8, 0), (11, 0), (12, 0)] r_p 10)
    rw [bx_val_x (n := 8) (e := (8, 0)) h0_ rfl, bx_val_x (n := 9) (e := (11, 0)) h0_ rfl, bx_val_x (n := 10) (e := (12, 0)) h0_ rfl]
    exact g.2.2.1
  · show rxmSTK_3 S0 ws (bx_up T3 480 (24) (r_p 9 + (-1))) (bx_val [(0, 0), (0, 0), (0, 0), (0, 0), (0, 0), (0, 0), (0, 0), (0, 0), (8, 0), (11, 0), (12, 0)] r_p 8) (bx_val [(0, 0), (0, 0), (0, 0), (0, 0), (0, 0), (0, 0), (0, 0), (0, 0), (8, 0), (11, 0), (12, 0)] r_p 9) (bx_val [(0, 0), (0, 0), (0, 0), (0, 0), (0, 0), (0, 0), (0, 0), (0, 0), (8, 0), (11, 0), (12, 0)] r_p 10) < rxmSTK_2 S0 ws T3 (r 8) (r 9)
    rw [bx_val_x (n := 8) (e := (8, 0)) h0_ rfl, bx_val_x (n := 9) (e := (11, 0)) h0_ rfl, bx_val_x (n := 10) (e := (12, 0)) h0_ rfl, ← hr_ 8 (by decide), ← hr_ 9 (by decide)]
    exact g.2.2.2
theorem rxcSTK_3_0 {S0 : Nat → Int → Int} {ws : List Int} {S : Nat → Int → Int} {least y n : Int} (hP : rxPSTK S0 ws) (hin : bx_same rxL (bx_mdl rxCSTK.2.2.1) S0 S) (I0 : bx_Inv rxL S) (hinv : rxISTK_3 S0 ws S least y n) (l8 : 1 ≤ least) (u8 : least ≤ 6) (l9 : 0 ≤ y) (u9 : y ≤ 399) (l10 : 0 ≤ n) (u10 : n ≤ 400) : (True) ∧ (True) ∧ rxISTK_1 S0 ws (bx_up S 488 y n) least ∧ rxmSTK_1 S0 ws (bx_up S 488 y n) least < rxmSTK_3 S0 ws S least y n := by
  obtain ⟨hI, hx⟩ := hinv
  obtain ⟨a_, b_, c_, d_⟩ := rxcST_3_0 hP hin I0 hI l8 u8 l9 u9 l10 u10
  exact ⟨a_, b_, ⟨c_, (by
    obtain ⟨S1, hs, hw, h1, e, hb, hj, e2, e3⟩ := hI
    subst e
    subst e2
    subst e3
    rw [rkBk_at] at hx
    exact rkMr_step hx l8 h1 hb fun b c d w hn => rkMd_tj d w hn hj ((bx_up_ne (by omega)).trans bx_up_at) ((bx_up_ne (by omega)).trans ((bx_up_ne (by omega)))) (fun j => ⟨(bx_up_ne (by omega)).trans ((bx_up_ne (by omega))), (bx_up_ne (by omega)).trans ((bx_up_ne (by omega)))⟩) (fun j => (bx_up_ne (by omega)).trans ((bx_up_ne (by omega)))) (fun j hj2 => (bx_up_ne (by omega)).trans ((bx_up_ne (by omega)))) bx_up_at)⟩, d_⟩
theorem rxgSTK_3_0 {X : (Nat → Int → Int) → Prop} {S0 : Nat → Int → Int} {ws : List Int} (hP : rxPSTK S0 ws) : bx_obC rxL X S0 rxCSTK.2.2.1 (rxISTK S0 ws) (rxmSTK S0 ws) 3 rxzSTK_3 rxoSTK_3_0 := by
  intro S S_p r r_p hinv hX hin hsm_ hseg
  obtain ⟨I0, I1, h0_, hr_, b_, f_, d_⟩ := bx_cl (evs := [(1, (0, 488), (9, 0), .inr (0, (10, 0)))]) (fvs := []) hseg (by decide +kernel) (by decide +kernel)
  have hinv : rxISTK_3 S0 ws S (r 8) (r 9) (r 10) := hinv
  rw [← hr_ 8 (by decide), ← hr_ 9 (by decide), ← hr_ 10 (by decide)] at hinv
  obtain ⟨⟨l8, u8⟩, ⟨l9, u9⟩, ⟨l10, u10⟩, -⟩ := b_
  obtain ⟨T0, w_, w0⟩ := d_
  subst w0
  subst w_
  have g := rxcSTK_3_0 hP hin I0 hinv l8 u8 l9 u9 l10 u10
  refine ⟨bx_narP_ok (l := []) g.1, bx_nfP_ok h0_ (fvs := []) (by decide +kernel) g.2.1, ?_, ?_⟩
  · show rxISTK_1 S0 ws (bx_up T0 488 (r_p 9) (r_p 10)) (bx_val [(0, 0), (0, 0), (0, 0), (0, 0), (0, 0), (0, 0), (0, 0), (0, 0), (8, 0)] r_p 8)
    rw [bx_val_x (n := 8) (e := (8, 0)) h0_ rfl]
    exact g.2.2.1
  · show rxmSTK_1 S0 ws (bx_up T0 488 (r_p 9) (r_p 10)) (bx_val [(0, 0), (0, 0), (0, 0), (0, 0), (0, 0), (0, 0), (0, 0), (0, 0), (8, 0)] r_p 8) < rxmSTK_3 S0 ws T0 (r 8) (r 9) (r 10)
    rw [bx_val_x (n := 8) (e := (8, 0)) h0_ rfl, ← hr_ 8 (by decide), ← hr_ 9 (by decide), ← hr_ 10 (by decide)]
    exact g.2.2.2
theorem rxcSTK_5_0 {S0 : Nat → Int → Int} {ws : List Int} {S : Nat → Int → Int} {least op : Int} (hP : rxPSTK S0 ws) (hin : bx_same rxL (bx_mdl rxCSTK.2.2.1) S0 S) (I0 : bx_Inv rxL S) (hinv : rxISTK_5 S0 ws S least op) (l8 : 1 ≤ least) (u8 : least ≤ 6) (l9 : 0 ≤ op) (u9 : op ≤ 30) : (True) ∧ (True) ∧ rxISTK_1 S0 ws S least ∧ rxmSTK_1 S0 ws S least < rxmSTK_5 S0 ws S least op := by
  obtain ⟨hI, hx⟩ := hinv
  obtain ⟨a_, b_, c_, d_⟩ := rxcST_5_0 hP hin I0 hI l8 u8 l9 u9
  exact ⟨a_, b_, ⟨c_, hx⟩, d_⟩
theorem rxgSTK_5_0 {X : (Nat → Int → Int) → Prop} {S0 : Nat → Int → Int} {ws : List Int} (hP : rxPSTK S0 ws) : bx_obC rxL X S0 rxCSTK.2.2.1 (rxISTK S0 ws) (rxmSTK S0 ws) 5 rxzSTK_5 rxoSTK_5_0 := by
  intro S S_p r r_p hinv hX hin hsm_ hseg
  obtain ⟨I0, I1, h0_, hr_, b_, f_, d_⟩ := bx_cl (evs := []) (fvs := []) hseg (by decide +kernel) (by decide +kernel)
  have hinv : rxISTK_5 S0 ws S (r 8) (r 9) := hinv
  rw [← hr_ 8 (by decide), ← hr_ 9 (by decide)] at hinv
  obtain ⟨⟨l8, u8⟩, ⟨l9, u9⟩, -⟩ := b_
  have w_ := d_
  subst w_
  have g := rxcSTK_5_0 hP hin I0 hinv l8 u8 l9 u9
  refine ⟨bx_narP_ok (l := []) g.1, bx_nfP_ok h0_ (fvs := []) (by decide +kernel) g.2.1, ?_, ?_⟩
  · show rxISTK_1 S0 ws S_p (bx_val [(0, 0), (0, 0), (0, 0), (0, 0), (0, 0), (0, 0), (0, 0), (0, 0), (8, 0)] r_p 8)
    rw [bx_val_x (n := 8) (e := (8, 0)) h0_ rfl]
    exact g.2.2.1
  · show rxmSTK_1 S0 ws S_p (bx_val [(0, 0), (0, 0), (0, 0), (0, 0), (0, 0), (0, 0), (0, 0), (0, 0), (8, 0)] r_p 8) < rxmSTK_5 S0 ws S_p (r 8) (r 9)
    rw [bx_val_x (n := 8) (e := (8, 0)) h0_ rfl, ← hr_ 8 (by decide), ← hr_ 9 (by decide)]
    exact g.2.2.2
theorem rxgCSTK {X : (Nat → Int → Int) → Prop} {S0 : Nat → Int → Int} {ws : List Int} (hP : rxPSTK S0 ws) : bx_allI (fun i q => rxUSTK q = true ∨ bx_allP (fun o => bx_obC rxL X S0 rxCSTK.2.2.1 (rxISTK S0 ws) (rxmSTK S0 ws) i q.1 o) q.2.1) 0 rxYSTK := ⟨Or.inr ⟨rxgSTK_0_0 hP, rxgSTK_0_1 hP, rxgSTK_0_2 hP, rxgSTK_0_3 hP, rxgSTK_0_4 hP, rxgSTK_0_5 hP, trivial⟩, Or.inr ⟨rxgSTK_1_0 hP, rxgSTK_1_1 hP, rxgSTK_1_2 hP, rxgSTK_1_3 hP, rxgSTK_1_4 hP, rxgSTK_1_5 hP, trivial⟩, Or.inr ⟨rxgSTK_2_0 hP, rxgSTK_2_1 hP, rxgSTK_2_2 hP, trivial⟩, Or.inr ⟨rxgSTK_3_0 hP, trivial⟩, Or.inl rfl, Or.inr ⟨rxgSTK_5_0 hP, trivial⟩, trivial⟩
theorem rxgESTK {X : (Nat → Int → Int) → Prop} {S0 : Nat → Int → Int} {ws : List Int} (hP : rxPSTK S0 ws) : bx_allI (fun i q => rxUSTK q = true ∨ bx_allP (fun E => bx_obE rxL X S0 rxCSTK.2.2.1 (rxISTK S0 ws) (rxPSSTK S0 ws) i q.1 E) q.2.2) 0 rxYSTK := ⟨Or.inr ⟨rxfSTK_0_0 hP, rxfSTK_0_1 hP, rxfSTK_0_2 hP, rxfSTK_0_3 hP, rxfSTK_0_4 hP, rxfSTK_0_5 hP, rxfSTK_0_6 hP, trivial⟩, Or.inr ⟨rxfSTK_1_0 hP, rxfSTK_1_1 hP, rxfSTK_1_2 hP, rxfSTK_1_3 hP, rxfSTK_1_4 hP, rxfSTK_1_5 hP, rxfSTK_1_6 hP, trivial⟩, Or.inr trivial, Or.inr trivial, Or.inl rfl, Or.inr trivial, trivial⟩
theorem rxuSTK {PX : State → Prop} {Dg : va_G} {A : Nat → Prop} {ad xa : Nat → Nat} {l : Launch} {X : (Nat → Int → Int) → Prop} (hPX : rx_PXOK rxNW A PX) (hX : ∀ S S1 : Nat → Int → Int, X S → bx_same rxL (bx_mdl rxCSTK.2.2.1) S S1 → X S1) (hQEM : bx_ConP rxG rxNW rxAO PX Dg rxL X vwCl A ad l rxM266 rxCEM rxPEM rxPSEM) {S0 : Nat → Int → Int} {ws : List Int} (hP : rxPSTK S0 ws) : ∀ (i : Nat) (q : bx_HE), rxYSTK[i]? = some q → rxUSTK q = true → ∀ {p : Program} {e : Env} {R : Room} {s : State} {m : MethodId} {args : Array Value} {below : List Frame} {meth : Method} {c : Code} {Q : State → Prop} {H0 : Heap}, rx_Fr rxG rxNW rxAO PX p s m args meth c rxM275 → (∀ q, H0.size ≤ q → A q) → H0 = s.heap → rxM275.2.2.2.2.2.2.1 ≤ R.cells → rxM275.2.2.2.2.2.2.2 ≤ R.slots → rxCSTK.2.2.2.1 ≤ R.frames → rxCSTK.2.2.2.1 * 40 ≤ R.locals → bx_Step p l e R s m args below meth c Q Dg rxL X vwCl A xa H0 ad rxM275 rxYSTK (rxISTK S0 ws) (rxmSTK S0 ws) S0 rxCSTK.2.2.1 i q := by
  intro i q hq hus p e R s m args below meth c Q H0 hF hA hH0 hmc hms hd hdl
  match i, hq with
  | 0, hq =>
    cases hq
    exact absurd (show false = true from hus) Bool.false_ne_true
  | 1, hq =>
    cases hq
    exact absurd (show false = true from hus) Bool.false_ne_true
  | 2, hq =>
    cases hq
    exact absurd (show false = true from hus) Bool.false_ne_true
  | 3, hq =>
    cases hq
    exact absurd (show false = true from hus) Bool.false_ne_true
  | 4, hq =>
    cases hq
    exact rx_stepC (ins := .invokevirtual 297) (len := 3) (i_p := 5) (M_p := rxM266) (d := rxCSTK.2.2.2.1) (as := [.inr (3, (0, 480)), .inr (0, (9, 0)), .inr (0, (0, 0))]) (t := []) (ct := rxCEM) hPX hF rfl hA hH0 hmc hms hd hdl (by decide +kernel) rfl rfl (by decide +kernel) (by decide +kernel) hQEM (by decide +kernel) rfl (Or.inl ⟨rfl, rfl, rfl⟩) (rxsSTK_4 hP)
  | 5, hq =>
    cases hq
    exact absurd (show false = true from hus) Bool.false_ne_true
  | n + 6, hq => cases hq
theorem rxQSTK {PX : State → Prop} {Dg : va_G} {A : Nat → Prop} {ad xa : Nat → Nat} {l : Launch} {X : (Nat → Int → Int) → Prop} (hPX : rx_PXOK rxNW A PX) (hsl : ∀ s : State, PX s → ∀ o idx n : Nat, rxSl o idx = some n → ∃ tx : String, vk_R (rxNm o) idx tx (ad n) s)
    (hX : ∀ S S_p : Nat → Int → Int, X S → bx_same rxL (bx_mdl rxCSTK.2.2.1) S S_p → X S_p)
    (ih : ∀ (j2 : Nat) (ct2 : bx_Ct) (M2 : rx_Mt), ct2 ∈ rxCnE j2 → ct2.2.2.2.1 + 1 ≤ rxCSTK.2.2.2.1 → rxT.2.2.2.2.2 j2 = some M2 → bx_Con rxG rxNW rxAO PX Dg rxL X vwCl A ad l M2 ct2) (hQEM : bx_ConP rxG rxNW rxAO PX Dg rxL X vwCl A ad l rxM266 rxCEM rxPEM rxPSEM) : bx_ConP rxG rxNW rxAO PX Dg rxL X vwCl A ad l rxM275 rxCSTK rxPSTK rxPSSTK :=
  rxQof (xa := xa) (Cn := rxCnE) (f := 30000) (j := 275) (tab := rxYSTK) (us := rxUSTK) hPX hsl hX ih rfl rxYcSTK rxISTK rxmSTK
    (fun S0 ws r I0 I ht0 ht as he he1 hX0 hI0 hP hs ha => by
      have e := he.symm.trans (show bx_ent0 rxNP rxCSTK.1 bx_I0 [] = some ([(0, 0), (0, 0), (0, 0), (0, 0), (0, 0), (0, 0), (0, 0), (0, 0), (1, 6)], [], [.inr (3, (0, 480)), .inr (0, (8, 0))]) from rfl)
      cases e
      subst ha
      have h0 : r 0 = 0 := hs.1
      show rxISTK_0 S0 _ S0 (r 8)
      refine ⟨⟨rfl, ?_⟩, trivial⟩
      simp only [List.map_cons, List.map_nil, bx_xv_ok h0]
      rfl)
    (fun S0 ws hP => rxuSTK (xa := xa) hPX hX hQEM hP) (fun S0 ws hP => rxgCSTK hP) (fun S0 ws hP => rxgESTK hP)
