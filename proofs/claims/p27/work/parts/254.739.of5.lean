noncomputable def rxCRDXO : bx_Ct := ([(3, (1, 412, 0)), (3, (1, 411, 0)), (0, (0, 0, 400)), (0, (0, 0, 1)), (3, (1, 427, 0))], some (0, (0, 0, 1)), [(6, 0), (6, 4), (7, 0), (7, 1), (7, 2), (7, 3), (7, 4), (7, 5), (7, 6), (7, 7), (7, 8), (7, 10), (1021, 0), (1022, 0), (1024, 0), (1025, 0), (1026, 0), (1027, 0), (1034, 0), (1035, 0), (1036, 0)], 9, [])
noncomputable def rxIRDXO_0 (S0 : Nat → Int → Int) (ws : List Int) (S : Nat → Int → Int) (nb ap : Int) : Prop := rxIRDXK_0 S0 ws S nb ap ∧ True
noncomputable def rxmRDXO_0 (S0 : Nat → Int → Int) (ws : List Int) (S : Nat → Int → Int) (nb ap : Int) : Nat := rxmRDXK_0 S0 ws S nb ap
noncomputable def rxzRDXO_0 : rx_Z := ([(0, 0), (0, 0), (0, 0), (0, 0), (0, 0), (0, 0), (0, 0), (0, 0), (0, 400), (0, 1)], [], [], 0, 0, 0, [(0, .inr (3, (0, 412))), (1, .inr (3, (0, 411))), (2, .inr (0, (8, 0))), (3, .inr (0, (9, 0))), (4, .inr (3, (0, 427)))], [])
noncomputable def rxIRDXO_1 (S0 : Nat → Int → Int) (ws : List Int) (S : Nat → Int → Int) (nb ap : Int) : Prop := rxIRDXK_1 S0 ws S nb ap ∧ (rkPp S0 → rkPO S0 S)
noncomputable def rxmRDXO_1 (S0 : Nat → Int → Int) (ws : List Int) (S : Nat → Int → Int) (nb ap : Int) : Nat := rxmRDXK_1 S0 ws S nb ap
noncomputable def rxzRDXO_1 : rx_Z := ([(0, 0), (0, 0), (0, 0), (0, 0), (0, 0), (0, 0), (0, 0), (0, 0), (0, 400), (0, 1)], [], [(((0, 412), 0), .inr (3, (0, 411))), (((0, 412), 6), .inr (3, (0, 427)))], 0, 0, 52, [(0, .inr (3, (0, 412))), (2, .inr (0, (8, 0))), (3, .inr (0, (9, 0)))], [.inr (3, (0, 412))])
noncomputable def rxIRDXO_2 (S0 : Nat → Int → Int) (ws : List Int) (S : Nat → Int → Int) (nb ap : Int) : Prop := rxIRDXK_2 S0 ws S nb ap ∧ (rkPp S0 → rkPO S0 S)
noncomputable def rxmRDXO_2 (S0 : Nat → Int → Int) (ws : List Int) (S : Nat → Int → Int) (nb ap : Int) : Nat := rxmRDXK_2 S0 ws S nb ap
noncomputable def rxzRDXO_2 : rx_Z := ([(0, 0), (0, 0), (0, 0), (0, 0), (0, 0), (0, 0), (0, 0), (0, 0), (0, 400), (0, 1)], [], [(((0, 412), 0), .inr (3, (0, 411))), (((0, 412), 6), .inr (3, (0, 427)))], 0, 0, 55, [(0, .inr (3, (0, 412))), (2, .inr (0, (8, 0))), (3, .inr (0, (9, 0)))], [])
noncomputable def rxIRDXO_3 (S0 : Nat → Int → Int) (ws : List Int) (S : Nat → Int → Int) (nb ap cl : Int) : Prop := rxIRDXK_3 S0 ws S nb ap cl ∧ (rkPp S0 → rkPO S0 S)
noncomputable def rxmRDXO_3 (S0 : Nat → Int → Int) (ws : List Int) (S : Nat → Int → Int) (nb ap cl : Int) : Nat := rxmRDXK_3 S0 ws S nb ap cl
noncomputable def rxzRDXO_3 : rx_Z := ([(0, 0), (0, 0), (0, 0), (0, 0), (0, 0), (0, 0), (0, 0), (0, 0), (0, 400), (0, 1), (0, 12)], [], [(((0, 412), 0), .inr (3, (0, 411))), (((0, 412), 6), .inr (3, (0, 427)))], 0, 0, 58, [(0, .inr (3, (0, 412))), (2, .inr (0, (8, 0))), (3, .inr (0, (9, 0))), (5, .inr (0, (10, 0)))], [])
noncomputable def rxIRDXO_4 (S0 : Nat → Int → Int) (ws : List Int) (S : Nat → Int → Int) (nb ap cl : Int) : Prop := rxIRDXK_4 S0 ws S nb ap cl ∧ (rkPp S0 → rkPO S0 S)
noncomputable def rxmRDXO_4 (S0 : Nat → Int → Int) (ws : List Int) (S : Nat → Int → Int) (nb ap cl : Int) : Nat := rxmRDXK_4 S0 ws S nb ap cl
noncomputable def rxzRDXO_4 : rx_Z := ([(0, 0), (0, 0), (0, 0), (0, 0), (0, 0), (0, 0), (0, 0), (0, 0), (0, 400), (0, 1), (0, 11)], [], [(((0, 412), 0), .inr (3, (0, 411))), (((0, 412), 6), .inr (3, (0, 427)))], 0, 0, 73, [(0, .inr (3, (0, 412))), (2, .inr (0, (8, 0))), (3, .inr (0, (9, 0))), (5, .inr (0, (10, 0)))], [.inr (3, (0, 412))])
noncomputable def rxIRDXO_5 (S0 : Nat → Int → Int) (ws : List Int) (S : Nat → Int → Int) (nb ap cl res : Int) : Prop := rxIRDXK_5 S0 ws S nb ap cl res ∧ (rkPp S0 → rkPO S0 S)
noncomputable def rxmRDXO_5 (S0 : Nat → Int → Int) (ws : List Int) (S : Nat → Int → Int) (nb ap cl res : Int) : Nat := rxmRDXK_5 S0 ws S nb ap cl res
noncomputable def rxzRDXO_5 : rx_Z := ([(0, 0), (0, 0), (0, 0), (0, 0), (0, 0), (0, 0), (0, 0), (0, 0), (0, 400), (0, 1), (0, 11), (0, 1)], [], [(((0, 412), 0), .inr (3, (0, 411))), (((0, 412), 6), .inr (3, (0, 427)))], 0, 0, 76, [(0, .inr (3, (0, 412))), (2, .inr (0, (8, 0))), (3, .inr (0, (9, 0))), (5, .inr (0, (10, 0)))], [.inr (0, (11, 0))])
noncomputable def rxIRDXO_6 (S0 : Nat → Int → Int) (ws : List Int) (S : Nat → Int → Int) (nb ap cl : Int) : Prop := rxIRDXK_6 S0 ws S nb ap cl ∧ (rkPp S0 → rkPO S0 S)
noncomputable def rxmRDXO_6 (S0 : Nat → Int → Int) (ws : List Int) (S : Nat → Int → Int) (nb ap cl : Int) : Nat := rxmRDXK_6 S0 ws S nb ap cl
noncomputable def rxzRDXO_6 : rx_Z := ([(0, 0), (0, 0), (0, 0), (0, 0), (0, 0), (0, 0), (0, 0), (0, 0), (0, 400), (0, 1), (0, 11)], [], [(((0, 412), 0), .inr (3, (0, 411))), (((0, 412), 6), .inr (3, (0, 427)))], 0, 0, 80, [(0, .inr (3, (0, 412))), (2, .inr (0, (8, 0))), (3, .inr (0, (9, 0))), (5, .inr (0, (10, 0)))], [.inr (3, (0, 412))])
noncomputable def rxIRDXO_7 (S0 : Nat → Int → Int) (ws : List Int) (S : Nat → Int → Int) (nb ap cl res : Int) : Prop := rxIRDXK_7 S0 ws S nb ap cl res ∧ (rkPp S0 → rkPO S0 S)
noncomputable def rxmRDXO_7 (S0 : Nat → Int → Int) (ws : List Int) (S : Nat → Int → Int) (nb ap cl res : Int) : Nat := rxmRDXK_7 S0 ws S nb ap cl res
noncomputable def rxzRDXO_7 : rx_Z := ([(0, 0), (0, 0), (0, 0), (0, 0), (0, 0), (0, 0), (0, 0), (0, 0), (0, 400), (0, 1), (0, 11), (0, 1)], [], [(((0, 412), 0), .inr (3, (0, 411))), (((0, 412), 6), .inr (3, (0, 427)))], 0, 0, 83, [(0, .inr (3, (0, 412))), (2, .inr (0, (8, 0))), (3, .inr (0, (9, 0))), (5, .inr (0, (10, 0)))], [.inr (0, (11, 0))])
noncomputable def rxIRDXO_8 (S0 : Nat → Int → Int) (ws : List Int) (S : Nat → Int → Int) (nb ap cl : Int) : Prop := rxIRDXK_8 S0 ws S nb ap cl ∧ (rkPp S0 → rkPO S0 S)
noncomputable def rxmRDXO_8 (S0 : Nat → Int → Int) (ws : List Int) (S : Nat → Int → Int) (nb ap cl : Int) : Nat := rxmRDXK_8 S0 ws S nb ap cl
noncomputable def rxzRDXO_8 : rx_Z := ([(0, 0), (0, 0), (0, 0), (0, 0), (0, 0), (0, 0), (0, 0), (0, 0), (0, 400), (0, 1), (0, 11)], [], [(((0, 412), 0), .inr (3, (0, 411))), (((0, 412), 6), .inr (3, (0, 427)))], 0, 0, 91, [(0, .inr (3, (0, 412))), (2, .inr (0, (8, 0))), (3, .inr (0, (9, 0))), (5, .inr (0, (10, 0)))], [.inr (3, (0, 412))])
noncomputable def rxIRDXO_9 (S0 : Nat → Int → Int) (ws : List Int) (S : Nat → Int → Int) (nb ap cl res : Int) : Prop := rxIRDXK_9 S0 ws S nb ap cl res ∧ (rkPp S0 → rkPO S0 S)
noncomputable def rxmRDXO_9 (S0 : Nat → Int → Int) (ws : List Int) (S : Nat → Int → Int) (nb ap cl res : Int) : Nat := rxmRDXK_9 S0 ws S nb ap cl res
noncomputable def rxzRDXO_9 : rx_Z := ([(0, 0), (0, 0), (0, 0), (0, 0), (0, 0), (0, 0), (0, 0), (0, 0), (0, 400), (0, 1), (0, 11), (0, 1)], [], [(((0, 412), 0), .inr (3, (0, 411))), (((0, 412), 6), .inr (3, (0, 427)))], 0, 0, 94, [(0, .inr (3, (0, 412))), (2, .inr (0, (8, 0))), (3, .inr (0, (9, 0))), (5, .inr (0, (10, 0)))], [.inr (0, (11, 0))])
noncomputable def rxIRDXO_10 (S0 : Nat → Int → Int) (ws : List Int) (S : Nat → Int → Int) (nb ap cl : Int) : Prop := rxIRDXK_10 S0 ws S nb ap cl ∧ (rkPp S0 → rkPO S0 S)
noncomputable def rxmRDXO_10 (S0 : Nat → Int → Int) (ws : List Int) (S : Nat → Int → Int) (nb ap cl : Int) : Nat := rxmRDXK_10 S0 ws S nb ap cl
noncomputable def rxzRDXO_10 : rx_Z := ([(0, 0), (0, 0), (0, 0), (0, 0), (0, 0), (0, 0), (0, 0), (0, 0), (0, 400), (0, 1), (0, 11)], [], [(((0, 412), 0), .inr (3, (0, 411))), (((0, 412), 6), .inr (3, (0, 427)))], 0, 0, 127, [(0, .inr (3, (0, 412))), (2, .inr (0, (8, 0))), (3, .inr (0, (9, 0))), (5, .inr (0, (10, 0)))], [.inr (3, (0, 412))])
noncomputable def rxIRDXO_11 (S0 : Nat → Int → Int) (ws : List Int) (S : Nat → Int → Int) (nb ap cl : Int) : Prop := rxIRDXK_11 S0 ws S nb ap cl ∧ (rkPp S0 → rkPO S0 S)
noncomputable def rxmRDXO_11 (S0 : Nat → Int → Int) (ws : List Int) (S : Nat → Int → Int) (nb ap cl : Int) : Nat := rxmRDXK_11 S0 ws S nb ap cl
noncomputable def rxzRDXO_11 : rx_Z := ([(0, 0), (0, 0), (0, 0), (0, 0), (0, 0), (0, 0), (0, 0), (0, 0), (0, 400), (0, 1), (0, 11)], [], [(((0, 412), 0), .inr (3, (0, 411))), (((0, 412), 6), .inr (3, (0, 427)))], 0, 0, 130, [(0, .inr (3, (0, 412))), (2, .inr (0, (8, 0))), (3, .inr (0, (9, 0))), (5, .inr (0, (10, 0)))], [])
noncomputable def rxoRDXO_0_0 : bx_HO := (([(0, 0), (0, 0), (0, 0), (0, 0), (0, 0), (0, 0), (0, 0), (0, 0), (0, 400), (0, 1)], [], [(((0, 0), 1851192626986356798829287277884448576027768266202889952673136643000000), .inr (0, (0, 0))), (((0, 412), 7), .inr (0, (0, 0))), (((0, 0), 1851192626986356798227167157524121751206303872841384192020512771000000), .inr (0, (0, 0))), (((0, 427), 4), .inr (0, (0, 0))), (((0, 0), 1851192626986356797424340330377019318111018015026043177805217795000000), .inr (0, (0, 0))), (((0, 427), 0), .inr (0, (0, 0))), (((0, 0), 1851192626986356798628580571097672967753946801749054699119312899000000), .inr (3, (0, 427))), (((0, 412), 6), .inr (3, (0, 427))), (((0, 0), 1851192626986356798427873864310897359480125337295219445565489155000000), .inr (0, (9, 0))), (((0, 412), 5), .inr (0, (9, 0))), (((0, 0), 1851192626986356798227167157524121751206303872841384192011665411000000), .inr (0, (0, (-1)))), (((0, 412), 4), .inr (0, (0, (-1)))), (((0, 0), 1851192626986356798026460450737346142932482408387548938457841667000000), .inr (0, (0, 0))), (((0, 412), 3), .inr (0, (0, 0))), (((0, 0), 1851192626986356797625047037163794926384839479479878431350194179000000), .inr (0, (8, 0))), (((0, 412), 1), .inr (0, (8, 0))), (((0, 0), 1851192626986356797424340330377019318111018015026043177796370435000000), .inr (3, (0, 411))), (((0, 412), 0), .inr (3, (0, 411)))], 0, 0, 52, [(0, .inr (3, (0, 412))), (1, .inr (3, (0, 411))), (2, .inr (0, (8, 0))), (3, .inr (0, (9, 0))), (4, .inr (3, (0, 427)))], [.inr (3, (0, 412))]), [], [], [(0, 0), (0, 0), (0, 0), (0, 0), (0, 0), (0, 0), (0, 0), (0, 0), (8, 0), (9, 0)], 1)
noncomputable def rxoRDXO_2_0 : bx_HO := (([(0, 0), (0, 0), (0, 0), (0, 0), (0, 0), (0, 0), (0, 0), (0, 0), (0, 400), (0, 1)], [], [(((0, 412), 0), .inr (3, (0, 411))), (((0, 412), 6), .inr (3, (0, 427)))], 0, 0, 58, [(5, .inr (0, (0, 0))), (0, .inr (3, (0, 412))), (2, .inr (0, (8, 0))), (3, .inr (0, (9, 0)))], []), [], [], [(0, 0), (0, 0), (0, 0), (0, 0), (0, 0), (0, 0), (0, 0), (0, 0), (8, 0), (9, 0), (0, 0)], 3)
noncomputable def rxoRDXO_3_0 : bx_HO := (([(0, 0), (0, 0), (0, 0), (0, 0), (0, 0), (0, 0), (0, 0), (0, 0), (0, 400), (0, 1), (0, 11), (1, 1)], [(3, (11, 0), (0, 0))], [(((0, 0), 1851192626986356798427873864310897359480125337295219445565489152000000), .inr (0, (11, 0))), (((0, 412), 5), .inr (0, (11, 0))), (((0, 412), 0), .inr (3, (0, 411))), (((0, 412), 6), .inr (3, (0, 427)))], 0, 0, 73, [(0, .inr (3, (0, 412))), (2, .inr (0, (8, 0))), (3, .inr (0, (9, 0))), (5, .inr (0, (10, 0)))], [.inr (3, (0, 412))]), [], [], [(0, 0), (0, 0), (0, 0), (0, 0), (0, 0), (0, 0), (0, 0), (0, 0), (8, 0), (9, 0), (10, 0)], 4)
noncomputable def rxoRDXO_3_1 : bx_HO := (([(0, 0), (0, 0), (0, 0), (0, 0), (0, 0), (0, 0), (0, 0), (0, 0), (0, 400), (0, 1), (0, 11), (0, 0)], [], [(((0, 0), 1851192626986356798427873864310897359480125337295219445565489152000000), .inr (0, (11, 0))), (((0, 412), 5), .inr (0, (11, 0))), (((0, 412), 0), .inr (3, (0, 411))), (((0, 412), 6), .inr (3, (0, 427)))], 0, 0, 80, [(0, .inr (3, (0, 412))), (2, .inr (0, (8, 0))), (3, .inr (0, (9, 0))), (5, .inr (0, (10, 0)))], [.inr (3, (0, 412))]), [], [], [(0, 0), (0, 0), (0, 0), (0, 0), (0, 0), (0, 0), (0, 0), (0, 0), (8, 0), (9, 0), (10, 0)], 6)
noncomputable def rxeRDXO_3_0 : rx_End × List (Nat × Int × Int) := (([(0, 0), (0, 0), (0, 0), (0, 0), (0, 0), (0, 0), (0, 0), (0, 0), (0, 400), (0, 1), (12, 12), (0, 400)], [], [(((0, 0), 1851192626986356798227167157524121751206303872841384192011665411000000), .inr (0, (11, 0))), (((0, 412), 4), .inr (0, (11, 0))), (((0, 0), 1851192626986356797825753743950570534658660943933713684904017920000000), .inr (0, (11, 0))), (((0, 412), 2), .inr (0, (11, 0))), (((0, 412), 0), .inr (3, (0, 411))), (((0, 412), 6), .inr (3, (0, 427)))], some (.inr (0, (0, 0)))), [])
noncomputable def rxoRDXO_5_0 : bx_HO := (([(0, 0), (0, 0), (0, 0), (0, 0), (0, 0), (0, 0), (0, 0), (0, 0), (0, 400), (0, 1), (0, 11), (1, 1)], [(3, (11, 0), (0, 0))], [(((0, 412), 0), .inr (3, (0, 411))), (((0, 412), 6), .inr (3, (0, 427)))], 0, 0, 91, [(6, .inr (0, (11, 0))), (0, .inr (3, (0, 412))), (2, .inr (0, (8, 0))), (3, .inr (0, (9, 0))), (5, .inr (0, (10, 0)))], [.inr (3, (0, 412))]), [], [], [(0, 0), (0, 0), (0, 0), (0, 0), (0, 0), (0, 0), (0, 0), (0, 0), (8, 0), (9, 0), (10, 0)], 8)
noncomputable def rxeRDXO_5_0 : rx_End × List (Nat × Int × Int) := (([(0, 0), (0, 0), (0, 0), (0, 0), (0, 0), (0, 0), (0, 0), (0, 0), (0, 400), (0, 1), (0, 11), (0, 0)], [], [(((0, 412), 0), .inr (3, (0, 411))), (((0, 412), 6), .inr (3, (0, 427)))], some (.inr (0, (0, 0)))), [])
noncomputable def rxoRDXO_7_0 : bx_HO := (([(0, 0), (0, 0), (0, 0), (0, 0), (0, 0), (0, 0), (0, 0), (0, 0), (0, 400), (0, 1), (0, 11), (1, 1)], [(3, (11, 0), (0, 0))], [(((0, 412), 0), .inr (3, (0, 411))), (((0, 412), 6), .inr (3, (0, 427)))], 0, 0, 91, [(6, .inr (0, (11, 0))), (0, .inr (3, (0, 412))), (2, .inr (0, (8, 0))), (3, .inr (0, (9, 0))), (5, .inr (0, (10, 0)))], [.inr (3, (0, 412))]), [], [], [(0, 0), (0, 0), (0, 0), (0, 0), (0, 0), (0, 0), (0, 0), (0, 0), (8, 0), (9, 0), (10, 0)], 8)
noncomputable def rxeRDXO_7_0 : rx_End × List (Nat × Int × Int) := (([(0, 0), (0, 0), (0, 0), (0, 0), (0, 0), (0, 0), (0, 0), (0, 0), (0, 400), (0, 1), (0, 11), (0, 0)], [], [(((0, 412), 0), .inr (3, (0, 411))), (((0, 412), 6), .inr (3, (0, 427)))], some (.inr (0, (0, 0)))), [])
noncomputable def rxoRDXO_9_0 : bx_HO := (([(0, 0), (0, 0), (0, 0), (0, 0), (0, 0), (0, 0), (0, 0), (0, 0), (0, 400), (0, 1), (0, 11), (1, 1), (0, 399), (1, 400), (59, 59)], [(0, (12, 0), (13, 0)), (0, (12, 0), (13, 0)), (3, (11, 0), (0, 0))], [(((0, 0), 1851192626986356797424377080872646779465072059483645808762617856000000), .inr (0, (14, 0))), (((0, 0), 1851192626986356797625047037163794926384839479479878431350194176000000), .inr (0, (13, 0))), (((0, 412), 1), .inr (0, (13, 0))), (((0, 0), 1851192626986356797825753743950570534658660943933713684904017920000000), .inr (0, (12, 0))), (((0, 412), 2), .inr (0, (12, 0))), (((0, 412), 0), .inr (3, (0, 411))), (((0, 412), 6), .inr (3, (0, 427)))], 0, 0, 127, [(0, .inr (3, (0, 412))), (2, .inr (0, (8, 0))), (3, .inr (0, (9, 0))), (5, .inr (0, (10, 0)))], [.inr (3, (0, 412))]), [], [], [(0, 0), (0, 0), (0, 0), (0, 0), (0, 0), (0, 0), (0, 0), (0, 0), (8, 0), (9, 0), (10, 0)], 10)
noncomputable def rxeRDXO_9_0 : rx_End × List (Nat × Int × Int) := (([(0, 0), (0, 0), (0, 0), (0, 0), (0, 0), (0, 0), (0, 0), (0, 0), (0, 400), (0, 1), (0, 11), (0, 0)], [], [(((0, 412), 0), .inr (3, (0, 411))), (((0, 412), 6), .inr (3, (0, 427)))], some (.inr (0, (0, 0)))), [])
noncomputable def rxeRDXO_9_1 : rx_End × List (Nat × Int × Int) := (([(0, 0), (0, 0), (0, 0), (0, 0), (0, 0), (0, 0), (0, 0), (0, 0), (0, 400), (0, 1), (0, 11), (1, 1), (0, 400), (0, 400)], [(1, (13, 0), (12, 0)), (3, (11, 0), (0, 0))], [(((0, 0), 1851192626986356797625047037163794926384839479479878431350194176000000), .inr (0, (13, 0))), (((0, 412), 1), .inr (0, (13, 0))), (((0, 0), 1851192626986356797825753743950570534658660943933713684904017920000000), .inr (0, (12, 0))), (((0, 412), 2), .inr (0, (12, 0))), (((0, 412), 0), .inr (3, (0, 411))), (((0, 412), 6), .inr (3, (0, 427)))], some (.inr (0, (0, 1)))), [])
noncomputable def rxeRDXO_9_2 : rx_End × List (Nat × Int × Int) := (([(0, 0), (0, 0), (0, 0), (0, 0), (0, 0), (0, 0), (0, 0), (0, 0), (0, 400), (0, 1), (0, 11), (1, 1), (0, 399), (1, 400), (0, 255)], [(3, (14, 0), (0, 59)), (0, (12, 0), (13, 0)), (0, (12, 0), (13, 0)), (3, (11, 0), (0, 0))], [(((0, 0), 1851192626986356798227167157524121751206303872841384192011665411000000), .inr (0, (12, 0))), (((0, 412), 4), .inr (0, (12, 0))), (((0, 0), 1851192626986356797424377080872646779465072059483645808762617856000000), .inr (0, (14, 0))), (((0, 0), 1851192626986356797625047037163794926384839479479878431350194176000000), .inr (0, (13, 0))), (((0, 412), 1), .inr (0, (13, 0))), (((0, 0), 1851192626986356797825753743950570534658660943933713684904017920000000), .inr (0, (12, 0))), (((0, 412), 2), .inr (0, (12, 0))), (((0, 412), 0), .inr (3, (0, 411))), (((0, 412), 6), .inr (3, (0, 427)))], some (.inr (0, (0, 0)))), [])
noncomputable def rxoRDXO_11_0 : bx_HO := (([(0, 0), (0, 0), (0, 0), (0, 0), (0, 0), (0, 0), (0, 0), (0, 0), (0, 400), (0, 1), (0, 11)], [], [(((0, 412), 0), .inr (3, (0, 411))), (((0, 412), 6), .inr (3, (0, 427)))], 0, 0, 58, [(5, .inr (0, (10, 1))), (0, .inr (3, (0, 412))), (2, .inr (0, (8, 0))), (3, .inr (0, (9, 0)))], []), [], [], [(0, 0), (0, 0), (0, 0), (0, 0), (0, 0), (0, 0), (0, 0), (0, 0), (8, 0), (9, 0), (10, 1)], 3)
noncomputable def rxYRDXO : List bx_HE := [(rxzRDXO_0, [rxoRDXO_0_0], []), (rxzRDXO_1, [], []), (rxzRDXO_2, [rxoRDXO_2_0], []), (rxzRDXO_3, [rxoRDXO_3_0, rxoRDXO_3_1], [rxeRDXO_3_0]), (rxzRDXO_4, [], []), (rxzRDXO_5, [rxoRDXO_5_0], [rxeRDXO_5_0]), (rxzRDXO_6, [], []), (rxzRDXO_7, [rxoRDXO_7_0], [rxeRDXO_7_0]), (rxzRDXO_8, [], []), (rxzRDXO_9, [rxoRDXO_9_0], [rxeRDXO_9_0, rxeRDXO_9_1, rxeRDXO_9_2]), (rxzRDXO_10, [], []), (rxzRDXO_11, [rxoRDXO_11_0], [])]
noncomputable def rxURDXO (q : bx_HE) : Bool := Nat.beq (rx_zpc q.1) 52 || Nat.beq (rx_zpc q.1) 73 || Nat.beq (rx_zpc q.1) 80 || Nat.beq (rx_zpc q.1) 91 || Nat.beq (rx_zpc q.1) 127
noncomputable def rxYBRDXO : bx_B := (rxV, rxNP, rxDmf, bx_mdH rxCRDXO.2.2.1)
set_option maxRecDepth 100000 in
theorem rxYcRDXO : bx_chkH rxYBRDXO rxM119 rxCRDXO rxYRDXO (rxURDXO, fun cut z => rx_ex2 (rxCT rxYBRDXO rxCnE) cut 30000 rxCRDXO.2.2.2.1 119 z) = true := by decide +kernel
noncomputable def rxIRDXO (S0 : Nat → Int → Int) (ws : List Int) (i : Nat) : bx_SP := fun S r => match i with | 0 => rxIRDXO_0 S0 ws S (r 8) (r 9) | 1 => rxIRDXO_1 S0 ws S (r 8) (r 9) | 2 => rxIRDXO_2 S0 ws S (r 8) (r 9) | 3 => rxIRDXO_3 S0 ws S (r 8) (r 9) (r 10) | 4 => rxIRDXO_4 S0 ws S (r 8) (r 9) (r 10) | 5 => rxIRDXO_5 S0 ws S (r 8) (r 9) (r 10) (r 11) | 6 => rxIRDXO_6 S0 ws S (r 8) (r 9) (r 10) | 7 => rxIRDXO_7 S0 ws S (r 8) (r 9) (r 10) (r 11) | 8 => rxIRDXO_8 S0 ws S (r 8) (r 9) (r 10) | 9 => rxIRDXO_9 S0 ws S (r 8) (r 9) (r 10) (r 11) | 10 => rxIRDXO_10 S0 ws S (r 8) (r 9) (r 10) | 11 => rxIRDXO_11 S0 ws S (r 8) (r 9) (r 10) | _ => False
noncomputable def rxmRDXO (S0 : Nat → Int → Int) (ws : List Int) (i : Nat) (S : Nat → Int → Int) (r : Nat → Int) : Nat := match i with | 0 => rxmRDXO_0 S0 ws S (r 8) (r 9) | 1 => rxmRDXO_1 S0 ws S (r 8) (r 9) | 2 => rxmRDXO_2 S0 ws S (r 8) (r 9) | 3 => rxmRDXO_3 S0 ws S (r 8) (r 9) (r 10) | 4 => rxmRDXO_4 S0 ws S (r 8) (r 9) (r 10) | 5 => rxmRDXO_5 S0 ws S (r 8) (r 9) (r 10) (r 11) | 6 => rxmRDXO_6 S0 ws S (r 8) (r 9) (r 10) | 7 => rxmRDXO_7 S0 ws S (r 8) (r 9) (r 10) (r 11) | 8 => rxmRDXO_8 S0 ws S (r 8) (r 9) (r 10) | 9 => rxmRDXO_9 S0 ws S (r 8) (r 9) (r 10) (r 11) | 10 => rxmRDXO_10 S0 ws S (r 8) (r 9) (r 10) | 11 => rxmRDXO_11 S0 ws S (r 8) (r 9) (r 10) | _ => 0
noncomputable def rxPRDXO (S0 : Nat → Int → Int) (ws : List Int) : Prop := rxPRDXK S0 ws
noncomputable def rxPSRDXO (S0 : Nat → Int → Int) (ws : List Int) (S : Nat → Int → Int) (w : Option Int) : Prop := rxPSRDXK S0 ws S w ∧ (rkPp S0 → rkPO S0 S)
theorem rxkRDXO_1 {S0 : Nat → Int → Int} {ws : List Int} {S : Nat → Int → Int} {nb ap : Int} (hP : rxPRDXO S0 ws) (hin : bx_same rxL (bx_mdl rxCRDXO.2.2.1) S0 S) (I0 : bx_Inv rxL S) (hinv : rxIRDXO_1 S0 ws S nb ap) (l8 : 0 ≤ nb) (u8 : nb ≤ 400) (l9 : 0 ≤ ap) (u9 : ap ≤ 1) : rxPAD S [412] ∧ ∀ (S_p : Nat → Int → Int), rxPSAD S [412] S_p none → bx_Inv rxL S_p → bx_same rxL (bx_mdl rxC84.2.2.1) S S_p → rxIRDXO_2 S0 ws S_p nb ap ∧ rxmRDXO_2 S0 ws S_p nb ap < rxmRDXO_1 S0 ws S nb ap := by
  obtain ⟨hI, hx⟩ := hinv
  have g_ := rxkRDXK_1 hP hin I0 hI l8 u8 l9 u9
  exact ⟨g_.1, fun S_p hq I1 hsm => ⟨⟨(g_.2 S_p hq I1 hsm).1, (by
    intro hp
    exact rkPO_sm hsm (by decide +kernel) (hx hp))⟩, (g_.2 S_p hq I1 hsm).2⟩⟩
theorem rxsRDXO_1 {X : (Nat → Int → Int) → Prop} {S0 : Nat → Int → Int} {ws : List Int} (hP : rxPRDXO S0 ws) : rx_obK X S0 rxCRDXO.2.2.1 rxC84.2.2.1 (rxIRDXO S0 ws) (rxmRDXO S0 ws) 1 2 rxzRDXO_1 rxzRDXO_2 [.inr (3, (0, 412))] none rxPAD rxPSAD := by
  intro S r hinv hXS I0 hin hs_ hf_
  have b_ := bx_bds_sat hs_
  have f_ := bx_fcl_ok hs_.1 hf_
  obtain ⟨⟨l8, u8⟩, ⟨l9, u9⟩, -⟩ := b_
  have g := rxkRDXO_1 hP hin I0 hinv l8 u8 l9 u9
  have ea : List.map (bx_num r) [.inr (3, (0, 412))] = [412] := by
    simp only [List.map_cons, List.map_nil, bx_xv_ok hs_.1]
    rfl
  rw [ea]
  refine ⟨g.1, fun S_p w r_p hPS hX_p I1 hsm hr hw hs_p => ?_⟩
  have hw : w = none := hPS.1
  subst hw
  have g2 := g.2 S_p hPS I1 hsm
  show rxIRDXO_2 S0 ws S_p (r_p 8) (r_p 9) ∧ rxmRDXO_2 S0 ws S_p (r_p 8) (r_p 9) < _
  rw [hr 8 (by decide), hr 9 (by decide)]
  exact g2
theorem rxkRDXO_4 {S0 : Nat → Int → Int} {ws : List Int} {S : Nat → Int → Int} {nb ap cl : Int} (hP : rxPRDXO S0 ws) (hin : bx_same rxL (bx_mdl rxCRDXO.2.2.1) S0 S) (I0 : bx_Inv rxL S) (hinv : rxIRDXO_4 S0 ws S nb ap cl) (l8 : 0 ≤ nb) (u8 : nb ≤ 400) (l9 : 0 ≤ ap) (u9 : ap ≤ 1) (l10 : 0 ≤ cl) (u10 : cl ≤ 11) : rxPRPCO S [412] ∧ ∀ (S_p : Nat → Int → Int) (res : Int), 0 ≤ res → res ≤ 1 → rxPSRPCO S [412] S_p (some res) → bx_Inv rxL S_p → bx_same rxL (bx_mdl rxCRPCO.2.2.1) S S_p → rxIRDXO_5 S0 ws S_p nb ap cl res ∧ rxmRDXO_5 S0 ws S_p nb ap cl res < rxmRDXO_4 S0 ws S nb ap cl := by
  obtain ⟨hI, hx⟩ := hinv
  have g_ := rxkRDXK_4 hP hin I0 hI l8 u8 l9 u9 l10 u10
  exact ⟨g_.1, fun S_p res l_ u_ hq I1 hsm => ⟨⟨(g_.2 S_p res l_ u_ hq.1 I1 hsm).1, (by
    intro hp
    have g := hx hp
    obtain ⟨L, h1, h2, h3, h4, -⟩ := hI.2 hp
    have bz : 0 ≤ S 427 0 ∧ S 427 0 ≤ 400 := I0 427 0 (by decide) (by decide)
    exact g.tr (hq.2 ⟨h3, by omega, by omega, bz.1, bz.2, h4⟩))⟩, (g_.2 S_p res l_ u_ hq.1 I1 hsm).2⟩⟩
theorem rxsRDXO_4 {X : (Nat → Int → Int) → Prop} {S0 : Nat → Int → Int} {ws : List Int} (hP : rxPRDXO S0 ws) : rx_obK X S0 rxCRDXO.2.2.1 rxCRPCO.2.2.1 (rxIRDXO S0 ws) (rxmRDXO S0 ws) 4 5 rxzRDXO_4 rxzRDXO_5 [.inr (3, (0, 412))] (some 11) rxPRPCO rxPSRPCO := by
  intro S r hinv hXS I0 hin hs_ hf_
  have b_ := bx_bds_sat hs_
  have f_ := bx_fcl_ok hs_.1 hf_
  obtain ⟨⟨l8, u8⟩, ⟨l9, u9⟩, ⟨l10, u10⟩, -⟩ := b_
  have g := rxkRDXO_4 hP hin I0 hinv l8 u8 l9 u9 l10 u10
  have ea : List.map (bx_num r) [.inr (3, (0, 412))] = [412] := by
    simp only [List.map_cons, List.map_nil, bx_xv_ok hs_.1]
    rfl
  rw [ea]
  refine ⟨g.1, fun S_p w r_p hPS hX_p I1 hsm hr hw hs_p => ?_⟩
  have hw := hw _ rfl
  subst hw
  have b_p := hs_p.2.2 11 _ _ rfl
  have g2 := g.2 S_p (r_p 11) b_p.1 b_p.2 hPS I1 hsm
  show rxIRDXO_5 S0 ws S_p (r_p 8) (r_p 9) (r_p 10) (r_p 11) ∧ rxmRDXO_5 S0 ws S_p (r_p 8) (r_p 9) (r_p 10) (r_p 11) < _
  rw [hr 8 (by decide), hr 9 (by decide), hr 10 (by decide)]
  exact g2
theorem rxkRDXO_6 {S0 : Nat → Int → Int} {ws : List Int} {S : Nat → Int → Int} {nb ap cl : Int} (hP : rxPRDXO S0 ws) (hin : bx_same rxL (bx_mdl rxCRDXO.2.2.1) S0 S) (I0 : bx_Inv rxL S) (hinv : rxIRDXO_6 S0 ws S nb ap cl) (l8 : 0 ≤ nb) (u8 : nb ≤ 400) (l9 : 0 ≤ ap) (u9 : ap ≤ 1) (l10 : 0 ≤ cl) (u10 : cl ≤ 11) : rxPRLCO S [412] ∧ ∀ (S_p : Nat → Int → Int) (res : Int), 0 ≤ res → res ≤ 1 → rxPSRLCO S [412] S_p (some res) → bx_Inv rxL S_p → bx_same rxL (bx_mdl rxCRLCO.2.2.1) S S_p → rxIRDXO_7 S0 ws S_p nb ap cl res ∧ rxmRDXO_7 S0 ws S_p nb ap cl res < rxmRDXO_6 S0 ws S nb ap cl := by
  obtain ⟨hI, hx⟩ := hinv
  have g_ := rxkRDXK_6 hP hin I0 hI l8 u8 l9 u9 l10 u10
  exact ⟨g_.1, fun S_p res l_ u_ hq I1 hsm => ⟨⟨(g_.2 S_p res l_ u_ hq.1 I1 hsm).1, (by
    intro hp
    have g := hx hp
    obtain ⟨L, h1, h2, h3, h4, -⟩ := hI.2 hp
    have bz : 0 ≤ S 427 0 ∧ S 427 0 ≤ 400 := I0 427 0 (by decide) (by decide)
    exact g.tr (hq.2 ⟨h3, by omega, by omega, bz.1, bz.2, h4⟩))⟩, (g_.2 S_p res l_ u_ hq.1 I1 hsm).2⟩⟩
theorem rxsRDXO_6 {X : (Nat → Int → Int) → Prop} {S0 : Nat → Int → Int} {ws : List Int} (hP : rxPRDXO S0 ws) : rx_obK X S0 rxCRDXO.2.2.1 rxCRLCO.2.2.1 (rxIRDXO S0 ws) (rxmRDXO S0 ws) 6 7 rxzRDXO_6 rxzRDXO_7 [.inr (3, (0, 412))] (some 11) rxPRLCO rxPSRLCO := by
  intro S r hinv hXS I0 hin hs_ hf_
  have b_ := bx_bds_sat hs_
  have f_ := bx_fcl_ok hs_.1 hf_
  obtain ⟨⟨l8, u8⟩, ⟨l9, u9⟩, ⟨l10, u10⟩, -⟩ := b_
  have g := rxkRDXO_6 hP hin I0 hinv l8 u8 l9 u9 l10 u10
  have ea : List.map (bx_num r) [.inr (3, (0, 412))] = [412] := by
    simp only [List.map_cons, List.map_nil, bx_xv_ok hs_.1]
    rfl
  rw [ea]
  refine ⟨g.1, fun S_p w r_p hPS hX_p I1 hsm hr hw hs_p => ?_⟩
  have hw := hw _ rfl
  subst hw
  have b_p := hs_p.2.2 11 _ _ rfl
  have g2 := g.2 S_p (r_p 11) b_p.1 b_p.2 hPS I1 hsm
  show rxIRDXO_7 S0 ws S_p (r_p 8) (r_p 9) (r_p 10) (r_p 11) ∧ rxmRDXO_7 S0 ws S_p (r_p 8) (r_p 9) (r_p 10) (r_p 11) < _
  rw [hr 8 (by decide), hr 9 (by decide), hr 10 (by decide)]
  exact g2
theorem rxkRDXO_8 {S0 : Nat → Int → Int} {ws : List Int} {S : Nat → Int → Int} {nb ap cl : Int} (hP : rxPRDXO S0 ws) (hin : bx_same rxL (bx_mdl rxCRDXO.2.2.1) S0 S) (I0 : bx_Inv rxL S) (hinv : rxIRDXO_8 S0 ws S nb ap cl) (l8 : 0 ≤ nb) (u8 : nb ≤ 400) (l9 : 0 ≤ ap) (u9 : ap ≤ 1) (l10 : 0 ≤ cl) (u10 : cl ≤ 11) : rxPRIFO S [412] ∧ ∀ (S_p : Nat → Int → Int) (res : Int), 0 ≤ res → res ≤ 1 → rxPSRIFO S [412] S_p (some res) → bx_Inv rxL S_p → bx_same rxL (bx_mdl rxCRIFO.2.2.1) S S_p → rxIRDXO_9 S0 ws S_p nb ap cl res ∧ rxmRDXO_9 S0 ws S_p nb ap cl res < rxmRDXO_8 S0 ws S nb ap cl := by
  obtain ⟨hI, hx⟩ := hinv
  have g_ := rxkRDXK_8 hP hin I0 hI l8 u8 l9 u9 l10 u10
  exact ⟨g_.1, fun S_p res l_ u_ hq I1 hsm => ⟨⟨(g_.2 S_p res l_ u_ hq.1 I1 hsm).1, (by
    intro hp
    have g := hx hp
    exact g.tr (hq.2 g.1))⟩, (g_.2 S_p res l_ u_ hq.1 I1 hsm).2⟩⟩
theorem rxsRDXO_8 {X : (Nat → Int → Int) → Prop} {S0 : Nat → Int → Int} {ws : List Int} (hP : rxPRDXO S0 ws) : rx_obK X S0 rxCRDXO.2.2.1 rxCRIFO.2.2.1 (rxIRDXO S0 ws) (rxmRDXO S0 ws) 8 9 rxzRDXO_8 rxzRDXO_9 [.inr (3, (0, 412))] (some 11) rxPRIFO rxPSRIFO := by
  intro S r hinv hXS I0 hin hs_ hf_
  have b_ := bx_bds_sat hs_
  have f_ := bx_fcl_ok hs_.1 hf_
  obtain ⟨⟨l8, u8⟩, ⟨l9, u9⟩, ⟨l10, u10⟩, -⟩ := b_
  have g := rxkRDXO_8 hP hin I0 hinv l8 u8 l9 u9 l10 u10
  have ea : List.map (bx_num r) [.inr (3, (0, 412))] = [412] := by
    simp only [List.map_cons, List.map_nil, bx_xv_ok hs_.1]
    rfl
  rw [ea]
  refine ⟨g.1, fun S_p w r_p hPS hX_p I1 hsm hr hw hs_p => ?_⟩
  have hw := hw _ rfl
  subst hw
  have b_p := hs_p.2.2 11 _ _ rfl
  have g2 := g.2 S_p (r_p 11) b_p.1 b_p.2 hPS I1 hsm
  show rxIRDXO_9 S0 ws S_p (r_p 8) (r_p 9) (r_p 10) (r_p 11) ∧ rxmRDXO_9 S0 ws S_p (r_p 8) (r_p 9) (r_p 10) (r_p 11) < _
  rw [hr 8 (by decide), hr 9 (by decide), hr 10 (by decide)]
  exact g2
theorem rxkRDXO_10 {S0 : Nat → Int → Int} {ws : List Int} {S : Nat → Int → Int} {nb ap cl : Int} (hP : rxPRDXO S0 ws) (hin : bx_same rxL (bx_mdl rxCRDXO.2.2.1) S0 S) (I0 : bx_Inv rxL S) (hinv : rxIRDXO_10 S0 ws S nb ap cl) (l8 : 0 ≤ nb) (u8 : nb ≤ 400) (l9 : 0 ≤ ap) (u9 : ap ≤ 1) (l10 : 0 ≤ cl) (u10 : cl ≤ 11) : rxPAD S [412] ∧ ∀ (S_p : Nat → Int → Int), rxPSAD S [412] S_p none → bx_Inv rxL S_p → bx_same rxL (bx_mdl rxC84.2.2.1) S S_p → rxIRDXO_11 S0 ws S_p nb ap cl ∧ rxmRDXO_11 S0 ws S_p nb ap cl < rxmRDXO_10 S0 ws S nb ap cl := by
  obtain ⟨hI, hx⟩ := hinv
  have g_ := rxkRDXK_10 hP hin I0 hI l8 u8 l9 u9 l10 u10
  exact ⟨g_.1, fun S_p hq I1 hsm => ⟨⟨(g_.2 S_p hq I1 hsm).1, (by
    intro hp
    exact rkPO_sm hsm (by decide +kernel) (hx hp))⟩, (g_.2 S_p hq I1 hsm).2⟩⟩
theorem rxsRDXO_10 {X : (Nat → Int → Int) → Prop} {S0 : Nat → Int → Int} {ws : List Int} (hP : rxPRDXO S0 ws) : rx_obK X S0 rxCRDXO.2.2.1 rxC84.2.2.1 (rxIRDXO S0 ws) (rxmRDXO S0 ws) 10 11 rxzRDXO_10 rxzRDXO_11 [.inr (3, (0, 412))] none rxPAD rxPSAD := by
  intro S r hinv hXS I0 hin hs_ hf_
  have b_ := bx_bds_sat hs_
  have f_ := bx_fcl_ok hs_.1 hf_
  obtain ⟨⟨l8, u8⟩, ⟨l9, u9⟩, ⟨l10, u10⟩, -⟩ := b_
  have g := rxkRDXO_10 hP hin I0 hinv l8 u8 l9 u9 l10 u10
  have ea : List.map (bx_num r) [.inr (3, (0, 412))] = [412] := by
    simp only [List.map_cons, List.map_nil, bx_xv_ok hs_.1]
    rfl
  rw [ea]
  refine ⟨g.1, fun S_p w r_p hPS hX_p I1 hsm hr hw hs_p => ?_⟩
  have hw : w = none := hPS.1
  subst hw
  have g2 := g.2 S_p hPS I1 hsm
  show rxIRDXO_11 S0 ws S_p (r_p 8) (r_p 9) (r_p 10) ∧ rxmRDXO_11 S0 ws S_p (r_p 8) (r_p 9) (r_p 10) < _
  rw [hr 8 (by decide), hr 9 (by decide), hr 10 (by decide)]
  exact g2
theorem rxcRDXO_0_0 {S0 : Nat → Int → Int} {ws : List Int} {S : Nat → Int → Int} {nb ap : Int} (hP : rxPRDXO S0 ws) (hin : bx_same rxL (bx_mdl rxCRDXO.2.2.1) S0 S) (I0 : bx_Inv rxL S) (hinv : rxIRDXO_0 S0 ws S nb ap) (l8 : 0 ≤ nb) (u8 : nb ≤ 400) (l9 : 0 ≤ ap) (u9 : ap ≤ 1) : (True) ∧ (True) ∧ rxIRDXO_1 S0 ws (bx_up (bx_up (bx_up (bx_up (bx_up (bx_up (bx_up (bx_up (bx_up S 412 0 411) 412 1 nb) 412 3 0) 412 4 ((-1))) 412 5 ap) 412 6 427) 427 0 0) 427 4 0) 412 7 0) nb ap ∧ rxmRDXO_1 S0 ws (bx_up (bx_up (bx_up (bx_up (bx_up (bx_up (bx_up (bx_up (bx_up S 412 0 411) 412 1 nb) 412 3 0) 412 4 ((-1))) 412 5 ap) 412 6 427) 427 0 0) 427 4 0) 412 7 0) nb ap < rxmRDXO_0 S0 ws S nb ap := by
  obtain ⟨hI, hx⟩ := hinv
  obtain ⟨a_, b_, c_, d_⟩ := rxcRDXK_0_0 hP hin I0 hI l8 u8 l9 u9
  exact ⟨a_, b_, ⟨c_, (by
    have e := hI.1.1
    subst e
    intro hp
    exact (rkPO_up (q := 412) (by decide +kernel) (fun g => absurd g.1 (by decide)) (rkPO_up (q := 427) (by decide +kernel) (by omega) (rkPO_up (q := 427) (by decide +kernel) (by omega) (rkPO_up (q := 412) (by decide +kernel) (fun g => absurd g.1 (by decide)) (rkPO_up (q := 412) (by decide +kernel) (fun g => absurd g.1 (by decide)) (rkPO_up (q := 412) (by decide +kernel) (fun g => absurd g.1 (by decide)) (rkPO_up (q := 412) (by decide +kernel) (fun g => absurd g.1 (by decide)) (rkPO_up (q := 412) (by decide +kernel) (fun g => absurd g.1 (by decide)) (rkPO_up (q := 412) (by decide +kernel) (fun g => absurd g.1 (by decide)) (rkPO_rf hp)))))))))))⟩, d_⟩
theorem rxgRDXO_0_0 {X : (Nat → Int → Int) → Prop} {S0 : Nat → Int → Int} {ws : List Int} (hP : rxPRDXO S0 ws) : bx_obC rxL X S0 rxCRDXO.2.2.1 (rxIRDXO S0 ws) (rxmRDXO S0 ws) 0 rxzRDXO_0 rxoRDXO_0_0 := by
  intro S S_p r r_p hinv hX hin hsm_ hseg
  obtain ⟨I0, I1, h0_, hr_, b_, f_, d_⟩ := bx_cl (evs := [(1, (0, 412), (0, 7), .inr (0, (0, 0))), (1, (0, 427), (0, 4), .inr (0, (0, 0))), (1, (0, 427), (0, 0), .inr (0, (0, 0))), (1, (0, 412), (0, 6), .inr (3, (0, 427))), (1, (0, 412), (0, 5), .inr (0, (9, 0))), (1, (0, 412), (0, 4), .inr (0, (0, (-1)))), (1, (0, 412), (0, 3), .inr (0, (0, 0))), (1, (0, 412), (0, 1), .inr (0, (8, 0))), (1, (0, 412), (0, 0), .inr (3, (0, 411)))]) (fvs := []) hseg (by decide +kernel) (by decide +kernel)
  have hinv : rxIRDXO_0 S0 ws S (r 8) (r 9) := hinv
  rw [← hr_ 8 (by decide), ← hr_ 9 (by decide)] at hinv
  obtain ⟨⟨l8, u8⟩, ⟨l9, u9⟩, -⟩ := b_
  obtain ⟨T0, ⟨T1, ⟨T2, ⟨T3, ⟨T4, ⟨T5, ⟨T6, ⟨T7, ⟨T8, w_, w8⟩, w7⟩, w6⟩, w5⟩, w4⟩, w3⟩, w2⟩, w1⟩, w0⟩ := d_
  subst w0
  subst w1
  subst w2
  subst w3
  subst w4
  subst w5
  subst w6
  subst w7
  subst w8
  subst w_
  have g := rxcRDXO_0_0 hP hin I0 hinv l8 u8 l9 u9
  refine ⟨bx_narP_ok (l := []) g.1, bx_nfP_ok h0_ (fvs := []) (by decide +kernel) g.2.1, ?_, ?_⟩
  · show rxIRDXO_1 S0 ws (bx_up (bx_up (bx_up (bx_up (bx_up (bx_up (bx_up (bx_up (bx_up T8 412 (0) (411)) 412 (1) (r_p 8)) 412 (3) (0)) 412 (4) ((-1))) 412 (5) (r_p 9)) 412 (6) (427)) 427 (0) (0)) 427 (4) (0)) 412 (7) (0)) (bx_val [(0, 0), (0, 0), (0, 0), (0, 0), (0, 0), (0, 0), (0, 0), (0, 0), (8, 0), (9, 0)] r_p 8) (bx_val [(0, 0), (0, 0), (0, 0), (0, 0), (0, 0), (0, 0), (0, 0), (0, 0), (8, 0), (9, 0)] r_p 9)
    rw [bx_val_x (n := 8) (e := (8, 0)) h0_ rfl, bx_val_x (n := 9) (e := (9, 0)) h0_ rfl]
    exact g.2.2.1
  · show rxmRDXO_1 S0 ws (bx_up (bx_up (bx_up (bx_up (bx_up (bx_up (bx_up (bx_up (bx_up T8 412 (0) (411)) 412 (1) (r_p 8)) 412 (3) (0)) 412 (4) ((-1))) 412 (5) (r_p 9)) 412 (6) (427)) 427 (0) (0)) 427 (4) (0)) 412 (7) (0)) (bx_val [(0, 0), (0, 0), (0, 0), (0, 0), (0, 0), (0, 0), (0, 0), (0, 0), (8, 0), (9, 0)] r_p 8) (bx_val [(0, 0), (0, 0), (0, 0), (0, 0), (0, 0), (0, 0), (0, 0), (0, 0), (8, 0), (9, 0)] r_p 9) < rxmRDXO_0 S0 ws T8 (r 8) (r 9)
    rw [bx_val_x (n := 8) (e := (8, 0)) h0_ rfl, bx_val_x (n := 9) (e := (9, 0)) h0_ rfl, ← hr_ 8 (by decide), ← hr_ 9 (by decide)]
    exact g.2.2.2
theorem rxcRDXO_2_0 {S0 : Nat → Int → Int} {ws : List Int} {S : Nat → Int → Int} {nb ap : Int} (hP : rxPRDXO S0 ws) (hin : bx_same rxL (bx_mdl rxCRDXO.2.2.1) S0 S) (I0 : bx_Inv rxL S) (hinv : rxIRDXO_2 S0 ws S nb ap) (l8 : 0 ≤ nb) (u8 : nb ≤ 400) (l9 : 0 ≤ ap) (u9 : ap ≤ 1) : (True) ∧ (True) ∧ rxIRDXO_3 S0 ws S nb ap 0 ∧ rxmRDXO_3 S0 ws S nb ap 0 < rxmRDXO_2 S0 ws S nb ap := by
  obtain ⟨hI, hx⟩ := hinv
  obtain ⟨a_, b_, c_, d_⟩ := rxcRDXK_2_0 hP hin I0 hI l8 u8 l9 u9
  exact ⟨a_, b_, ⟨c_, hx⟩, d_⟩
theorem rxgRDXO_2_0 {X : (Nat → Int → Int) → Prop} {S0 : Nat → Int → Int} {ws : List Int} (hP : rxPRDXO S0 ws) : bx_obC rxL X S0 rxCRDXO.2.2.1 (rxIRDXO S0 ws) (rxmRDXO S0 ws) 2 rxzRDXO_2 rxoRDXO_2_0 := by
  intro S S_p r r_p hinv hX hin hsm_ hseg
  obtain ⟨I0, I1, h0_, hr_, b_, f_, d_⟩ := bx_cl (evs := []) (fvs := []) hseg (by decide +kernel) (by decide +kernel)
  have hinv : rxIRDXO_2 S0 ws S (r 8) (r 9) := hinv
  rw [← hr_ 8 (by decide), ← hr_ 9 (by decide)] at hinv
  obtain ⟨⟨l8, u8⟩, ⟨l9, u9⟩, -⟩ := b_
  have w_ := d_
  subst w_
  have g := rxcRDXO_2_0 hP hin I0 hinv l8 u8 l9 u9
  refine ⟨bx_narP_ok (l := []) g.1, bx_nfP_ok h0_ (fvs := []) (by decide +kernel) g.2.1, ?_, ?_⟩
  · show rxIRDXO_3 S0 ws S_p (bx_val [(0, 0), (0, 0), (0, 0), (0, 0), (0, 0), (0, 0), (0, 0), (0, 0), (8, 0), (9, 0), (0, 0)] r_p 8) (bx_val [(0, 0), (0, 0), (0, 0), (0, 0), (0, 0), (0, 0), (0, 0), (0, 0), (8, 0), (9, 0), (0, 0)] r_p 9) (bx_val [(0, 0), (0, 0), (0, 0), (0, 0), (0, 0), (0, 0), (0, 0), (0, 0), (8, 0), (9, 0), (0, 0)] r_p 10)
    rw [bx_val_x (n := 8) (e := (8, 0)) h0_ rfl, bx_val_x (n := 9) (e := (9, 0)) h0_ rfl, bx_val_x (n := 10) (e := (0, 0)) h0_ rfl]
    exact g.2.2.1
  · show rxmRDXO_3 S0 ws S_p (bx_val [(0, 0), (0, 0), (0, 0), (0, 0), (0, 0), (0, 0), (0, 0), (0, 0), (8, 0), (9, 0), (0, 0)] r_p 8) (bx_val [(0, 0), (0, 0), (0, 0), (0, 0), (0, 0), (0, 0), (0, 0), (0, 0), (8, 0), (9, 0), (0, 0)] r_p 9) (bx_val [(0, 0), (0, 0), (0, 0), (0, 0), (0, 0), (0, 0), (0, 0), (0, 0), (8, 0), (9, 0), (0, 0)] r_p 10) < rxmRDXO_2 S0 ws S_p (r 8) (r 9)
    rw [bx_val_x (n := 8) (e := (8, 0)) h0_ rfl, bx_val_x (n := 9) (e := (9, 0)) h0_ rfl, bx_val_x (n := 10) (e := (0, 0)) h0_ rfl, ← hr_ 8 (by decide), ← hr_ 9 (by decide)]
    exact g.2.2.2
theorem rxcRDXO_3_0 {S0 : Nat → Int → Int} {ws : List Int} {S : Nat → Int → Int} {nb ap cl x11 : Int} (hP : rxPRDXO S0 ws) (hin : bx_same rxL (bx_mdl rxCRDXO.2.2.1) S0 S) (I0 : bx_Inv rxL S) (hinv : rxIRDXO_3 S0 ws S nb ap cl) (l8 : 0 ≤ nb) (u8 : nb ≤ 400) (l9 : 0 ≤ ap) (u9 : ap ≤ 1) (l10 : 0 ≤ cl) (u10 : cl ≤ 11) (l11 : 1 ≤ x11) (u11 : x11 ≤ 1) (f0 : x11 ≠ 0) (e0 : S 412 5 = x11) : (True) ∧ (True) ∧ rxIRDXO_4 S0 ws S nb ap cl ∧ rxmRDXO_4 S0 ws S nb ap cl < rxmRDXO_3 S0 ws S nb ap cl := by
  obtain ⟨hI, hx⟩ := hinv
  obtain ⟨a_, b_, c_, d_⟩ := rxcRDXK_3_0 hP hin I0 hI l8 u8 l9 u9 l10 u10 l11 u11 f0 e0
  exact ⟨a_, b_, ⟨c_, hx⟩, d_⟩
theorem rxgRDXO_3_0 {X : (Nat → Int → Int) → Prop} {S0 : Nat → Int → Int} {ws : List Int} (hP : rxPRDXO S0 ws) : bx_obC rxL X S0 rxCRDXO.2.2.1 (rxIRDXO S0 ws) (rxmRDXO S0 ws) 3 rxzRDXO_3 rxoRDXO_3_0 := by
  intro S S_p r r_p hinv hX hin hsm_ hseg
  obtain ⟨I0, I1, h0_, hr_, b_, f_, d_⟩ := bx_cl (evs := [(0, (0, 412), (0, 5), .inr (0, (11, 0)))]) (fvs := [(3, (11, 0), (0, 0), (0, 0))]) hseg (by decide +kernel) (by decide +kernel)
  have hinv : rxIRDXO_3 S0 ws S (r 8) (r 9) (r 10) := hinv
  rw [← hr_ 8 (by decide), ← hr_ 9 (by decide), ← hr_ 10 (by decide)] at hinv
  obtain ⟨⟨l8, u8⟩, ⟨l9, u9⟩, ⟨l10, u10⟩, ⟨l11, u11⟩, -⟩ := b_
  obtain ⟨f0, -⟩ := f_
  obtain ⟨e0, w_⟩ := d_
  subst w_
  have g := rxcRDXO_3_0 hP hin I0 hinv l8 u8 l9 u9 l10 u10 l11 u11 f0 e0
  refine ⟨bx_narP_ok (l := []) g.1, bx_nfP_ok h0_ (fvs := []) (by decide +kernel) g.2.1, ?_, ?_⟩
  · show rxIRDXO_4 S0 ws S_p (bx_val [(0, 0), (0, 0), (0, 0), (0, 0), (0, 0), (0, 0), (0, 0), (0, 0), (8, 0), (9, 0), (10, 0)] r_p 8) (bx_val [(0, 0), (0, 0), (0, 0), (0, 0), (0, 0), (0, 0), (0, 0), (0, 0), (8, 0), (9, 0), (10, 0)] r_p 9) (bx_val [(0, 0), (0, 0), (0, 0), (0, 0), (0, 0), (0, 0), (0, 0), (0, 0), (8, 0), (9, 0), (10, 0)] r_p 10)
    rw [bx_val_x (n := 8) (e := (8, 0)) h0_ rfl, bx_val_x (n := 9) (e := (9, 0)) h0_ rfl, bx_val_x (n := 10) (e := (10, 0)) h0_ rfl]
    exact g.2.2.1
  · show rxmRDXO_4 S0 ws S_p (bx_val [(0, 0), (0, 0), (0, 0), (0, 0), (0, 0), (0, 0), (0, 0), (0, 0), (8, 0), (9, 0), (10, 0)] r_p 8) (bx_val [(0, 0), (0, 0), (0, 0), (0, 0), (0, 0), (0, 0), (0, 0), (0, 0), (8, 0), (9, 0), (10, 0)] r_p 9) (bx_val [(0, 0), (0, 0), (0, 0), (0, 0), (0, 0), (0, 0), (0, 0), (0, 0), (8, 0), (9, 0), (10, 0)] r_p 10) < rxmRDXO_3 S0 ws S_p (r 8) (r 9) (r 10)
    rw [bx_val_x (n := 8) (e := (8, 0)) h0_ rfl, bx_val_x (n := 9) (e := (9, 0)) h0_ rfl, bx_val_x (n := 10) (e := (10, 0)) h0_ rfl, ← hr_ 8 (by decide), ← hr_ 9 (by decide), ← hr_ 10 (by decide)]
    exact g.2.2.2
theorem rxcRDXO_3_1 {S0 : Nat → Int → Int} {ws : List Int} {S : Nat → Int → Int} {nb ap cl x11 : Int} (hP : rxPRDXO S0 ws) (hin : bx_same rxL (bx_mdl rxCRDXO.2.2.1) S0 S) (I0 : bx_Inv rxL S) (hinv : rxIRDXO_3 S0 ws S nb ap cl) (l8 : 0 ≤ nb) (u8 : nb ≤ 400) (l9 : 0 ≤ ap) (u9 : ap ≤ 1) (l10 : 0 ≤ cl) (u10 : cl ≤ 11) (l11 : 0 ≤ x11) (u11 : x11 ≤ 0) (e0 : S 412 5 = x11) : (True) ∧ (True) ∧ rxIRDXO_6 S0 ws S nb ap cl ∧ rxmRDXO_6 S0 ws S nb ap cl < rxmRDXO_3 S0 ws S nb ap cl := by
  obtain ⟨hI, hx⟩ := hinv
  obtain ⟨a_, b_, c_, d_⟩ := rxcRDXK_3_1 hP hin I0 hI l8 u8 l9 u9 l10 u10 l11 u11 e0
  exact ⟨a_, b_, ⟨c_, hx⟩, d_⟩
theorem rxgRDXO_3_1 {X : (Nat → Int → Int) → Prop} {S0 : Nat → Int → Int} {ws : List Int} (hP : rxPRDXO S0 ws) : bx_obC rxL X S0 rxCRDXO.2.2.1 (rxIRDXO S0 ws) (rxmRDXO S0 ws) 3 rxzRDXO_3 rxoRDXO_3_1 := by
  intro S S_p r r_p hinv hX hin hsm_ hseg
  obtain ⟨I0, I1, h0_, hr_, b_, f_, d_⟩ := bx_cl (evs := [(0, (0, 412), (0, 5), .inr (0, (11, 0)))]) (fvs := []) hseg (by decide +kernel) (by decide +kernel)
  have hinv : rxIRDXO_3 S0 ws S (r 8) (r 9) (r 10) := hinv
  rw [← hr_ 8 (by decide), ← hr_ 9 (by decide), ← hr_ 10 (by decide)] at hinv
  obtain ⟨⟨l8, u8⟩, ⟨l9, u9⟩, ⟨l10, u10⟩, ⟨l11, u11⟩, -⟩ := b_
  obtain ⟨e0, w_⟩ := d_
  subst w_
  have g := rxcRDXO_3_1 hP hin I0 hinv l8 u8 l9 u9 l10 u10 l11 u11 e0
  refine ⟨bx_narP_ok (l := []) g.1, bx_nfP_ok h0_ (fvs := []) (by decide +kernel) g.2.1, ?_, ?_⟩
  · show rxIRDXO_6 S0 ws S_p (bx_val [(0, 0), (0, 0), (0, 0), (0, 0), (0, 0), (0, 0), (0, 0), (0, 0), (8, 0), (9, 0), (10, 0)] r_p 8) (bx_val [(0, 0), (0, 0), (0, 0), (0, 0), (0, 0), (0, 0), (0, 0), (0, 0), (8, 0), (9, 0), (10, 0)] r_p 9) (bx_val [(0, 0), (0, 0), (0, 0), (0, 0), (0, 0), (0, 0), (0, 0), (0, 0), (8, 0), (9, 0), (10, 0)] r_p 10)
    rw [bx_val_x (n := 8) (e := (8, 0)) h0_ rfl, bx_val_x (n := 9) (e := (9, 0)) h0_ rfl, bx_val_x (n := 10) (e := (10, 0)) h0_ rfl]
    exact g.2.2.1
  · show rxmRDXO_6 S0 ws S_p (bx_val [(0, 0), (0, 0), (0, 0), (0, 0), (0, 0), (0, 0), (0, 0), (0, 0), (8, 0), (9, 0), (10, 0)] r_p 8) (bx_val [(0, 0), (0, 0), (0, 0), (0, 0), (0, 0), (0, 0), (0, 0), (0, 0), (8, 0), (9, 0), (10, 0)] r_p 9) (bx_val [(0, 0), (0, 0), (0, 0), (0, 0), (0, 0), (0, 0), (0, 0), (0, 0), (8, 0), (9, 0), (10, 0)] r_p 10) < rxmRDXO_3 S0 ws S_p (r 8) (r 9) (r 10)
    rw [bx_val_x (n := 8) (e := (8, 0)) h0_ rfl, bx_val_x (n := 9) (e := (9, 0)) h0_ rfl, bx_val_x (n := 10) (e := (10, 0)) h0_ rfl, ← hr_ 8 (by decide), ← hr_ 9 (by decide), ← hr_ 10 (by decide)]
    exact g.2.2.2
theorem rxdRDXO_3_0 {S0 : Nat → Int → Int} {ws : List Int} {S : Nat → Int → Int} {nb ap cl x11 : Int} (hP : rxPRDXO S0 ws) (hin : bx_same rxL (bx_mdl rxCRDXO.2.2.1) S0 S) (hin2 : bx_same rxL (bx_mdl rxCRDXO.2.2.1) S (bx_up S 412 4 x11)) (I0 : bx_Inv rxL S) (I1 : bx_Inv rxL (bx_up S 412 4 x11)) (hinv : rxIRDXO_3 S0 ws S nb ap cl) (l8 : 0 ≤ nb) (u8 : nb ≤ 400) (l9 : 0 ≤ ap) (u9 : ap ≤ 1) (l10 : 12 ≤ cl) (u10 : cl ≤ 12) (l11 : 0 ≤ x11) (u11 : x11 ≤ 400) (e1 : S 412 2 = x11) : (True) ∧ rxPSRDXO S0 ws (bx_up S 412 4 x11) (some 0) := by
  obtain ⟨hI, hx⟩ := hinv
  obtain ⟨a_, c_⟩ := rxdRDXK_3_0 hP hin hin2 I0 I1 hI l8 u8 l9 u9 l10 u10 l11 u11 e1
  exact ⟨a_, c_, (by
    intro hp
    exact (rkPO_up (q := 412) (by decide +kernel) (fun g => absurd g.1 (by decide)) (hx hp)))⟩
theorem rxfRDXO_3_0 {X : (Nat → Int → Int) → Prop} {S0 : Nat → Int → Int} {ws : List Int} (hP : rxPRDXO S0 ws) : bx_obE rxL X S0 rxCRDXO.2.2.1 (rxIRDXO S0 ws) (rxPSRDXO S0 ws) 3 rxzRDXO_3 rxeRDXO_3_0 := by
  intro S S_p r r_p hinv hX hin hsm_ hseg
  obtain ⟨I0, I1, h0_, hr_, b_, f_, d_⟩ := bx_cl (evs := [(1, (0, 412), (0, 4), .inr (0, (11, 0))), (0, (0, 412), (0, 2), .inr (0, (11, 0)))]) (fvs := []) hseg (by decide +kernel) (by decide +kernel)
  have hinv : rxIRDXO_3 S0 ws S (r 8) (r 9) (r 10) := hinv
  rw [← hr_ 8 (by decide), ← hr_ 9 (by decide), ← hr_ 10 (by decide)] at hinv
  obtain ⟨⟨l8, u8⟩, ⟨l9, u9⟩, ⟨l10, u10⟩, ⟨l11, u11⟩, -⟩ := b_
  obtain ⟨T0, ⟨e1, w_⟩, w0⟩ := d_
  subst w0
  subst w_
  have g := rxdRDXO_3_0 hP hin hsm_ I0 I1 hinv l8 u8 l9 u9 l10 u10 l11 u11 e1
  refine ⟨bx_narP_ok (l := []) g.1, ?_⟩
  show rxPSRDXO S0 ws (bx_up T0 412 (4) (r_p 11)) (some (bx_num r_p (.inr (0, (0, 0)))))
  rw [bx_xv_ok h0_]
  exact g.2
theorem rxcRDXO_5_0 {S0 : Nat → Int → Int} {ws : List Int} {S : Nat → Int → Int} {nb ap cl res : Int} (hP : rxPRDXO S0 ws) (hin : bx_same rxL (bx_mdl rxCRDXO.2.2.1) S0 S) (I0 : bx_Inv rxL S) (hinv : rxIRDXO_5 S0 ws S nb ap cl res) (l8 : 0 ≤ nb) (u8 : nb ≤ 400) (l9 : 0 ≤ ap) (u9 : ap ≤ 1) (l10 : 0 ≤ cl) (u10 : cl ≤ 11) (l11 : 1 ≤ res) (u11 : res ≤ 1) (f0 : res ≠ 0) : (True) ∧ (True) ∧ rxIRDXO_8 S0 ws S nb ap cl ∧ rxmRDXO_8 S0 ws S nb ap cl < rxmRDXO_5 S0 ws S nb ap cl res := by
  obtain ⟨hI, hx⟩ := hinv
  obtain ⟨a_, b_, c_, d_⟩ := rxcRDXK_5_0 hP hin I0 hI l8 u8 l9 u9 l10 u10 l11 u11 f0
  exact ⟨a_, b_, ⟨c_, hx⟩, d_⟩
theorem rxgRDXO_5_0 {X : (Nat → Int → Int) → Prop} {S0 : Nat → Int → Int} {ws : List Int} (hP : rxPRDXO S0 ws) : bx_obC rxL X S0 rxCRDXO.2.2.1 (rxIRDXO S0 ws) (rxmRDXO S0 ws) 5 rxzRDXO_5 rxoRDXO_5_0 := by
  intro S S_p r r_p hinv hX hin hsm_ hseg
  obtain ⟨I0, I1, h0_, hr_, b_, f_, d_⟩ := bx_cl (evs := []) (fvs := [(3, (11, 0), (0, 0), (0, 0))]) hseg (by decide +kernel) (by decide +kernel)
  have hinv : rxIRDXO_5 S0 ws S (r 8) (r 9) (r 10) (r 11) := hinv
  rw [← hr_ 8 (by decide), ← hr_ 9 (by decide), ← hr_ 10 (by decide), ← hr_ 11 (by decide)] at hinv
  obtain ⟨⟨l8, u8⟩, ⟨l9, u9⟩, ⟨l10, u10⟩, ⟨l11, u11⟩, -⟩ := b_
  obtain ⟨f0, -⟩ := f_
  have w_ := d_
  subst w_
  have g := rxcRDXO_5_0 hP hin I0 hinv l8 u8 l9 u9 l10 u10 l11 u11 f0
  refine ⟨bx_narP_ok (l := []) g.1, bx_nfP_ok h0_ (fvs := []) (by decide +kernel) g.2.1, ?_, ?_⟩
  · show rxIRDXO_8 S0 ws S_p (bx_val [(0, 0), (0, 0), (0, 0), (0, 0), (0, 0), (0, 0), (0, 0), (0, 0), (8, 0), (9, 0), (10, 0)] r_p 8) (bx_val [(0, 0), (0, 0), (0, 0), (0, 0), (0, 0), (0, 0), (0, 0), (0, 0), (8, 0), (9, 0), (10, 0)] r_p 9) (bx_val [(0, 0), (0, 0), (0, 0), (0, 0), (0, 0), (0, 0), (0, 0), (0, 0), (8, 0), (9, 0), (10, 0)] r_p 10)
    rw [bx_val_x (n := 8) (e := (8, 0)) h0_ rfl, bx_val_x (n := 9) (e := (9, 0)) h0_ rfl, bx_val_x (n := 10) (e := (10, 0)) h0_ rfl]
    exact g.2.2.1
  · show rxmRDXO_8 S0 ws S_p (bx_val [(0, 0), (0, 0), (0, 0), (0, 0), (0, 0), (0, 0), (0, 0), (0, 0), (8, 0), (9, 0), (10, 0)] r_p 8) (bx_val [(0, 0), (0, 0), (0, 0), (0, 0), (0, 0), (0, 0), (0, 0), (0, 0), (8, 0), (9, 0), (10, 0)] r_p 9) (bx_val [(0, 0), (0, 0), (0, 0), (0, 0), (0, 0), (0, 0), (0, 0), (0, 0), (8, 0), (9, 0), (10, 0)] r_p 10) < rxmRDXO_5 S0 ws S_p (r 8) (r 9) (r 10) (r 11)
    rw [bx_val_x (n := 8) (e := (8, 0)) h0_ rfl, bx_val_x (n := 9) (e := (9, 0)) h0_ rfl, bx_val_x (n := 10) (e := (10, 0)) h0_ rfl, ← hr_ 8 (by decide), ← hr_ 9 (by decide), ← hr_ 10 (by decide), ← hr_ 11 (by decide)]
    exact g.2.2.2
theorem rxdRDXO_5_0 {S0 : Nat → Int → Int} {ws : List Int} {S : Nat → Int → Int} {nb ap cl res : Int} (hP : rxPRDXO S0 ws) (hin : bx_same rxL (bx_mdl rxCRDXO.2.2.1) S0 S) (hin2 : bx_same rxL (bx_mdl rxCRDXO.2.2.1) S S) (I0 : bx_Inv rxL S) (I1 : bx_Inv rxL S) (hinv : rxIRDXO_5 S0 ws S nb ap cl res) (l8 : 0 ≤ nb) (u8 : nb ≤ 400) (l9 : 0 ≤ ap) (u9 : ap ≤ 1) (l10 : 0 ≤ cl) (u10 : cl ≤ 11) (l11 : 0 ≤ res) (u11 : res ≤ 0) : (True) ∧ rxPSRDXO S0 ws S (some 0) := by
  obtain ⟨hI, hx⟩ := hinv
  obtain ⟨a_, c_⟩ := rxdRDXK_5_0 hP hin hin2 I0 I1 hI l8 u8 l9 u9 l10 u10 l11 u11
  exact ⟨a_, c_, hx⟩
theorem rxfRDXO_5_0 {X : (Nat → Int → Int) → Prop} {S0 : Nat → Int → Int} {ws : List Int} (hP : rxPRDXO S0 ws) : bx_obE rxL X S0 rxCRDXO.2.2.1 (rxIRDXO S0 ws) (rxPSRDXO S0 ws) 5 rxzRDXO_5 rxeRDXO_5_0 := by
  intro S S_p r r_p hinv hX hin hsm_ hseg
  obtain ⟨I0, I1, h0_, hr_, b_, f_, d_⟩ := bx_cl (evs := []) (fvs := []) hseg (by decide +kernel) (by decide +kernel)
  have hinv : rxIRDXO_5 S0 ws S (r 8) (r 9) (r 10) (r 11) := hinv
  rw [← hr_ 8 (by decide), ← hr_ 9 (by decide), ← hr_ 10 (by decide), ← hr_ 11 (by decide)] at hinv
  obtain ⟨⟨l8, u8⟩, ⟨l9, u9⟩, ⟨l10, u10⟩, ⟨l11, u11⟩, -⟩ := b_
  have w_ := d_
  subst w_
  have g := rxdRDXO_5_0 hP hin hsm_ I0 I1 hinv l8 u8 l9 u9 l10 u10 l11 u11
  refine ⟨bx_narP_ok (l := []) g.1, ?_⟩
  show rxPSRDXO S0 ws S_p (some (bx_num r_p (.inr (0, (0, 0)))))
  rw [bx_xv_ok h0_]
  exact g.2
theorem rxcRDXO_7_0 {S0 : Nat → Int → Int} {ws : List Int} {S : Nat → Int → Int} {nb ap cl res : Int} (hP : rxPRDXO S0 ws) (hin : bx_same rxL (bx_mdl rxCRDXO.2.2.1) S0 S) (I0 : bx_Inv rxL S) (hinv : rxIRDXO_7 S0 ws S nb ap cl res) (l8 : 0 ≤ nb) (u8 : nb ≤ 400) (l9 : 0 ≤ ap) (u9 : ap ≤ 1) (l10 : 0 ≤ cl) (u10 : cl ≤ 11) (l11 : 1 ≤ res) (u11 : res ≤ 1) (f0 : res ≠ 0) : (True) ∧ (True) ∧ rxIRDXO_8 S0 ws S nb ap cl ∧ rxmRDXO_8 S0 ws S nb ap cl < rxmRDXO_7 S0 ws S nb ap cl res := by
  obtain ⟨hI, hx⟩ := hinv
  obtain ⟨a_, b_, c_, d_⟩ := rxcRDXK_7_0 hP hin I0 hI l8 u8 l9 u9 l10 u10 l11 u11 f0
  exact ⟨a_, b_, ⟨c_, hx⟩, d_⟩
theorem rxgRDXO_7_0 {X : (Nat → Int → Int) → Prop} {S0 : Nat → Int → Int} {ws : List Int} (hP : rxPRDXO S0 ws) : bx_obC rxL X S0 rxCRDXO.2.2.1 (rxIRDXO S0 ws) (rxmRDXO S0 ws) 7 rxzRDXO_7 rxoRDXO_7_0 := by
  intro S S_p r r_p hinv hX hin hsm_ hseg
  obtain ⟨I0, I1, h0_, hr_, b_, f_, d_⟩ := bx_cl (evs := []) (fvs := [(3, (11, 0), (0, 0), (0, 0))]) hseg (by decide +kernel) (by decide +kernel)
  have hinv : rxIRDXO_7 S0 ws S (r 8) (r 9) (r 10) (r 11) := hinv
  rw [← hr_ 8 (by decide), ← hr_ 9 (by decide), ← hr_ 10 (by decide), ← hr_ 11 (by decide)] at hinv
  obtain ⟨⟨l8, u8⟩, ⟨l9, u9⟩, ⟨l10, u10⟩, ⟨l11, u11⟩, -⟩ := b_
  obtain ⟨f0, -⟩ := f_
  have w_ := d_
  subst w_
  have g := rxcRDXO_7_0 hP hin I0 hinv l8 u8 l9 u9 l10 u10 l11 u11 f0
  refine ⟨bx_narP_ok (l := []) g.1, bx_nfP_ok h0_ (fvs := []) (by decide +kernel) g.2.1, ?_, ?_⟩
  · show rxIRDXO_8 S0 ws S_p (bx_val [(0, 0), (0, 0), (0, 0), (0, 0), (0, 0), (0, 0), (0, 0), (0, 0), (8, 0), (9, 0), (10, 0)] r_p 8) (bx_val [(0, 0), (0, 0), (0, 0), (0, 0), (0, 0), (0, 0), (0, 0), (0, 0), (8, 0), (9, 0), (10, 0)] r_p 9) (bx_val [(0, 0), (0, 0), (0, 0), (0, 0), (0, 0), (0, 0), (0, 0), (0, 0), (8, 0), (9, 0), (10, 0)] r_p 10)
    rw [bx_val_x (n := 8) (e := (8, 0)) h0_ rfl, bx_val_x (n := 9) (e := (9, 0)) h0_ rfl, bx_val_x (n := 10) (e := (10, 0)) h0_ rfl]
    exact g.2.2.1
  · show rxmRDXO_8 S0 ws S_p (bx_val [(0, 0), (0, 0), (0, 0), (0, 0), (0, 0), (0, 0), (0, 0), (0, 0), (8, 0), (9, 0), (10, 0)] r_p 8) (bx_val [(0, 0), (0, 0), (0, 0), (0, 0), (0, 0), (0, 0), (0, 0), (0, 0), (8, 0), (9, 0), (10, 0)] r_p 9) (bx_val [(0, 0), (0, 0), (0, 0), (0, 0), (0, 0), (0, 0), (0, 0), (0, 0), (8, 0), (9, 0), (10, 0)] r_p 10) < rxmRDXO_7 S0 ws S_p (r 8) (r 9) (r 10) (r 11)
    rw [bx_val_x (n := 8) (e := (8, 0)) h0_ rfl, bx_val_x (n := 9) (e := (9, 0)) h0_ rfl, bx_val_x (n := 10) (e := (10, 0)) h0_ rfl, ← hr_ 8 (by decide), ← hr_ 9 (by decide), ← hr_ 10 (by decide), ← hr_ 11 (by decide)]
    exact g.2.2.2
theorem rxdRDXO_7_0 {S0 : Nat → Int → Int} {ws : List Int} {S : Nat → Int → Int} {nb ap cl res : Int} (hP : rxPRDXO S0 ws) (hin : bx_same rxL (bx_mdl rxCRDXO.2.2.1) S0 S) (hin2 : bx_same rxL (bx_mdl rxCRDXO.2.2.1) S S) (I0 : bx_Inv rxL S) (I1 : bx_Inv rxL S) (hinv : rxIRDXO_7 S0 ws S nb ap cl res) (l8 : 0 ≤ nb) (u8 : nb ≤ 400) (l9 : 0 ≤ ap) (u9 : ap ≤ 1) (l10 : 0 ≤ cl) (u10 : cl ≤ 11) (l11 : 0 ≤ res) (u11 : res ≤ 0) : (True) ∧ rxPSRDXO S0 ws S (some 0) := by
  obtain ⟨hI, hx⟩ := hinv
  obtain ⟨a_, c_⟩ := rxdRDXK_7_0 hP hin hin2 I0 I1 hI l8 u8 l9 u9 l10 u10 l11 u11
  exact ⟨a_, c_, hx⟩
theorem rxfRDXO_7_0 {X : (Nat → Int → Int) → Prop} {S0 : Nat → Int → Int} {ws : List Int} (hP : rxPRDXO S0 ws) : bx_obE rxL X S0 rxCRDXO.2.2.1 (rxIRDXO S0 ws) (rxPSRDXO S0 ws) 7 rxzRDXO_7 rxeRDXO_7_0 := by
  intro S S_p r r_p hinv hX hin hsm_ hseg
  obtain ⟨I0, I1, h0_, hr_, b_, f_, d_⟩ := bx_cl (evs := []) (fvs := []) hseg (by decide +kernel) (by decide +kernel)
  have hinv : rxIRDXO_7 S0 ws S (r 8) (r 9) (r 10) (r 11) := hinv
  rw [← hr_ 8 (by decide), ← hr_ 9 (by decide), ← hr_ 10 (by decide), ← hr_ 11 (by decide)] at hinv
  obtain ⟨⟨l8, u8⟩, ⟨l9, u9⟩, ⟨l10, u10⟩, ⟨l11, u11⟩, -⟩ := b_
  have w_ := d_
  subst w_
  have g := rxdRDXO_7_0 hP hin hsm_ I0 I1 hinv l8 u8 l9 u9 l10 u10 l11 u11
  refine ⟨bx_narP_ok (l := []) g.1, ?_⟩
  show rxPSRDXO S0 ws S_p (some (bx_num r_p (.inr (0, (0, 0)))))
  rw [bx_xv_ok h0_]
  exact g.2
theorem rxcRDXO_9_0 {S0 : Nat → Int → Int} {ws : List Int} {S : Nat → Int → Int} {nb ap cl res x12 x13 x14 : Int} (hP : rxPRDXO S0 ws) (hin : bx_same rxL (bx_mdl rxCRDXO.2.2.1) S0 S) (I0 : bx_Inv rxL S) (hinv : rxIRDXO_9 S0 ws S nb ap cl res) (l8 : 0 ≤ nb) (u8 : nb ≤ 400) (l9 : 0 ≤ ap) (u9 : ap ≤ 1) (l10 : 0 ≤ cl) (u10 : cl ≤ 11) (l11 : 1 ≤ res) (u11 : res ≤ 1) (l12 : 0 ≤ x12) (u12 : x12 ≤ 399) (l13 : 1 ≤ x13) (u13 : x13 ≤ 400) (l14 : 59 ≤ x14) (u14 : x14 ≤ 59) (f0 : x12 < x13) (f1 : x12 < x13) (f2 : res ≠ 0) (e2 : S 412 2 = x12) (e1 : S 412 1 = x13) (e0 : S 411 x12 = x14) : (True) ∧ (True) ∧ rxIRDXO_10 S0 ws S nb ap cl ∧ rxmRDXO_10 S0 ws S nb ap cl < rxmRDXO_9 S0 ws S nb ap cl res := by
  obtain ⟨hI, hx⟩ := hinv
  obtain ⟨a_, b_, c_, d_⟩ := rxcRDXK_9_0 hP hin I0 hI l8 u8 l9 u9 l10 u10 l11 u11 l12 u12 l13 u13 l14 u14 f0 f1 f2 e2 e1 e0
  exact ⟨a_, b_, ⟨c_, hx⟩, d_⟩
theorem rxgRDXO_9_0 {X : (Nat → Int → Int) → Prop} {S0 : Nat → Int → Int} {ws : List Int} (hP : rxPRDXO S0 ws) : bx_obC rxL X S0 rxCRDXO.2.2.1 (rxIRDXO S0 ws) (rxmRDXO S0 ws) 9 rxzRDXO_9 rxoRDXO_9_0 := by
  intro S S_p r r_p hinv hX hin hsm_ hseg
  obtain ⟨I0, I1, h0_, hr_, b_, f_, d_⟩ := bx_cl (evs := [(0, (0, 411), (12, 0), .inr (0, (14, 0))), (0, (0, 412), (0, 1), .inr (0, (13, 0))), (0, (0, 412), (0, 2), .inr (0, (12, 0)))]) (fvs := [(0, (12, 0), (13, 0), (0, 0)), (0, (12, 0), (13, 0), (0, 0)), (3, (11, 0), (0, 0), (0, 0))]) hseg (by decide +kernel) (by decide +kernel)
  have hinv : rxIRDXO_9 S0 ws S (r 8) (r 9) (r 10) (r 11) := hinv
  rw [← hr_ 8 (by decide), ← hr_ 9 (by decide), ← hr_ 10 (by decide), ← hr_ 11 (by decide)] at hinv
  obtain ⟨⟨l8, u8⟩, ⟨l9, u9⟩, ⟨l10, u10⟩, ⟨l11, u11⟩, ⟨l12, u12⟩, ⟨l13, u13⟩, ⟨l14, u14⟩, -⟩ := b_
  obtain ⟨f0, f1, f2, -⟩ := f_
  obtain ⟨e0, ⟨e1, ⟨e2, w_⟩⟩⟩ := d_
  subst w_
  have g := rxcRDXO_9_0 hP hin I0 hinv l8 u8 l9 u9 l10 u10 l11 u11 l12 u12 l13 u13 l14 u14 f0 f1 f2 e2 e1 e0
  refine ⟨bx_narP_ok (l := []) g.1, bx_nfP_ok h0_ (fvs := []) (by decide +kernel) g.2.1, ?_, ?_⟩
  · show rxIRDXO_10 S0 ws S_p (bx_val [(0, 0), (0, 0), (0, 0), (0, 0), (0, 0), (0, 0), (0, 0), (0, 0), (8, 0), (9, 0), (10, 0)] r_p 8) (bx_val [(0, 0), (0, 0), (0, 0), (0, 0), (0, 0), (0, 0), (0, 0), (0, 0), (8, 0), (9, 0), (10, 0)] r_p 9) (bx_val [(0, 0), (0, 0), (0, 0), (0, 0), (0, 0), (0, 0), (0, 0), (0, 0), (8, 0), (9, 0), (10, 0)] r_p 10)
    rw [bx_val_x (n := 8) (e := (8, 0)) h0_ rfl, bx_val_x (n := 9) (e := (9, 0)) h0_ rfl, bx_val_x (n := 10) (e := (10, 0)) h0_ rfl]
    exact g.2.2.1
  · show rxmRDXO_10 S0 ws S_p (bx_val [(0, 0), (0, 0), (0, 0), (0, 0), (0, 0), (0, 0), (0, 0), (0, 0), (8, 0), (9, 0), (10, 0)] r_p 8) (bx_val [(0, 0), (0, 0), (0, 0), (0, 0), (0, 0), (0, 0), (0, 0), (0, 0), (8, 0), (9, 0), (10, 0)] r_p 9) (bx_val [(0, 0), (0, 0), (0, 0), (0, 0), (0, 0), (0, 0), (0, 0), (0, 0), (8, 0), (9, 0), (10, 0)] r_p 10) < rxmRDXO_9 S0 ws S_p (r 8) (r 9) (r 10) (r 11)
    rw [bx_val_x (n := 8) (e := (8, 0)) h0_ rfl, bx_val_x (n := 9) (e := (9, 0)) h0_ rfl, bx_val_x (n := 10) (e := (10, 0)) h0_ rfl, ← hr_ 8 (by decide), ← hr_ 9 (by decide), ← hr_ 10 (by decide), ← hr_ 11 (by decide)]
    exact g.2.2.2
theorem rxdRDXO_9_0 {S0 : Nat → Int → Int} {ws : List Int} {S : Nat → Int → Int} {nb ap cl res : Int} (hP : rxPRDXO S0 ws) (hin : bx_same rxL (bx_mdl rxCRDXO.2.2.1) S0 S) (hin2 : bx_same rxL (bx_mdl rxCRDXO.2.2.1) S S) (I0 : bx_Inv rxL S) (I1 : bx_Inv rxL S) (hinv : rxIRDXO_9 S0 ws S nb ap cl res) (l8 : 0 ≤ nb) (u8 : nb ≤ 400) (l9 : 0 ≤ ap) (u9 : ap ≤ 1) (l10 : 0 ≤ cl) (u10 : cl ≤ 11) (l11 : 0 ≤ res) (u11 : res ≤ 0) : (True) ∧ rxPSRDXO S0 ws S (some 0) := by
  obtain ⟨hI, hx⟩ := hinv
  obtain ⟨a_, c_⟩ := rxdRDXK_9_0 hP hin hin2 I0 I1 hI l8 u8 l9 u9 l10 u10 l11 u11
  exact ⟨a_, c_, hx⟩
theorem rxfRDXO_9_0 {X : (Nat → Int → Int) → Prop} {S0 : Nat → Int → Int} {ws : List Int} (hP : rxPRDXO S0 ws) : bx_obE rxL X S0 rxCRDXO.2.2.1 (rxIRDXO S0 ws) (rxPSRDXO S0 ws) 9 rxzRDXO_9 rxeRDXO_9_0 := by
  intro S S_p r r_p hinv hX hin hsm_ hseg
  obtain ⟨I0, I1, h0_, hr_, b_, f_, d_⟩ := bx_cl (evs := []) (fvs := []) hseg (by decide +kernel) (by decide +kernel)
  have hinv : rxIRDXO_9 S0 ws S (r 8) (r 9) (r 10) (r 11) := hinv
  rw [← hr_ 8 (by decide), ← hr_ 9 (by decide), ← hr_ 10 (by decide), ← hr_ 11 (by decide)] at hinv
  obtain ⟨⟨l8, u8⟩, ⟨l9, u9⟩, ⟨l10, u10⟩, ⟨l11, u11⟩, -⟩ := b_
  have w_ := d_
  subst w_
  have g := rxdRDXO_9_0 hP hin hsm_ I0 I1 hinv l8 u8 l9 u9 l10 u10 l11 u11
  refine ⟨bx_narP_ok (l := []) g.1, ?_⟩
  show rxPSRDXO S0 ws S_p (some (bx_num r_p (.inr (0, (0, 0)))))
  rw [bx_xv_ok h0_]
  exact g.2
theorem rxdRDXO_9_1 {S0 : Nat → Int → Int} {ws : List Int} {S : Nat → Int → Int} {nb ap cl res x12 x13 : Int} (hP : rxPRDXO S0 ws) (hin : bx_same rxL (bx_mdl rxCRDXO.2.2.1) S0 S) (hin2 : bx_same rxL (bx_mdl rxCRDXO.2.2.1) S S) (I0 : bx_Inv rxL S) (I1 : bx_Inv rxL S) (hinv : rxIRDXO_9 S0 ws S nb ap cl res) (l8 : 0 ≤ nb) (u8 : nb ≤ 400) (l9 : 0 ≤ ap) (u9 : ap ≤ 1) (l10 : 0 ≤ cl) (u10 : cl ≤ 11) (l11 : 1 ≤ res) (u11 : res ≤ 1) (l12 : 0 ≤ x12) (u12 : x12 ≤ 400) (l13 : 0 ≤ x13) (u13 : x13 ≤ 400) (f0 : x13 ≤ x12) (f1 : res ≠ 0) (e1 : S 412 2 = x12) (e0 : S 412 1 = x13) : (True) ∧ rxPSRDXO S0 ws S (some 1) := by
  obtain ⟨hI, hx⟩ := hinv
  obtain ⟨a_, c_⟩ := rxdRDXK_9_1 hP hin hin2 I0 I1 hI l8 u8 l9 u9 l10 u10 l11 u11 l12 u12 l13 u13 f0 f1 e1 e0
  exact ⟨a_, c_, hx⟩
theorem rxfRDXO_9_1 {X : (Nat → Int → Int) → Prop} {S0 : Nat → Int → Int} {ws : List Int} (hP : rxPRDXO S0 ws) : bx_obE rxL X S0 rxCRDXO.2.2.1 (rxIRDXO S0 ws) (rxPSRDXO S0 ws) 9 rxzRDXO_9 rxeRDXO_9_1 := by
  intro S S_p r r_p hinv hX hin hsm_ hseg
  obtain ⟨I0, I1, h0_, hr_, b_, f_, d_⟩ := bx_cl (evs := [(0, (0, 412), (0, 1), .inr (0, (13, 0))), (0, (0, 412), (0, 2), .inr (0, (12, 0)))]) (fvs := [(1, (13, 0), (12, 0), (0, 0)), (3, (11, 0), (0, 0), (0, 0))]) hseg (by decide +kernel) (by decide +kernel)
  have hinv : rxIRDXO_9 S0 ws S (r 8) (r 9) (r 10) (r 11) := hinv
  rw [← hr_ 8 (by decide), ← hr_ 9 (by decide), ← hr_ 10 (by decide), ← hr_ 11 (by decide)] at hinv
  obtain ⟨⟨l8, u8⟩, ⟨l9, u9⟩, ⟨l10, u10⟩, ⟨l11, u11⟩, ⟨l12, u12⟩, ⟨l13, u13⟩, -⟩ := b_
  obtain ⟨f0, f1, -⟩ := f_
  obtain ⟨e0, ⟨e1, w_⟩⟩ := d_
  subst w_
  have g := rxdRDXO_9_1 hP hin hsm_ I0 I1 hinv l8 u8 l9 u9 l10 u10 l11 u11 l12 u12 l13 u13 f0 f1 e1 e0
  refine ⟨bx_narP_ok (l := []) g.1, ?_⟩
  show rxPSRDXO S0 ws S_p (some (bx_num r_p (.inr (0, (0, 1)))))
  rw [bx_xv_ok h0_]
  exact g.2
theorem rxdRDXO_9_2 {S0 : Nat → Int → Int} {ws : List Int} {S : Nat → Int → Int} {nb ap cl res x12 x13 x14 : Int} (hP : rxPRDXO S0 ws) (hin : bx_same rxL (bx_mdl rxCRDXO.2.2.1) S0 S) (hin2 : bx_same rxL (bx_mdl rxCRDXO.2.2.1) S (bx_up S 412 4 x12)) (I0 : bx_Inv rxL S) (I1 : bx_Inv rxL (bx_up S 412 4 x12)) (hinv : rxIRDXO_9 S0 ws S nb ap cl res) (l8 : 0 ≤ nb) (u8 : nb ≤ 400) (l9 : 0 ≤ ap) (u9 : ap ≤ 1) (l10 : 0 ≤ cl) (u10 : cl ≤ 11) (l11 : 1 ≤ res) (u11 : res ≤ 1) (l12 : 0 ≤ x12) (u12 : x12 ≤ 399) (l13 : 1 ≤ x13) (u13 : x13 ≤ 400) (l14 : 0 ≤ x14) (u14 : x14 ≤ 255) (f0 : x14 ≠ 59) (f1 : x12 < x13) (f2 : x12 < x13) (f3 : res ≠ 0) (e3 : S 412 2 = x12) (e2 : S 412 1 = x13) (e1 : S 411 x12 = x14) : (True) ∧ rxPSRDXO S0 ws (bx_up S 412 4 x12) (some 0) := by
  obtain ⟨hI, hx⟩ := hinv
  obtain ⟨a_, c_⟩ := rxdRDXK_9_2 hP hin hin2 I0 I1 hI l8 u8 l9 u9 l10 u10 l11 u11 l12 u12 l13 u13 l14 u14 f0 f1 f2 f3 e3 e2 e1
  exact ⟨a_, c_, (by
    intro hp
    exact (rkPO_up (q := 412) (by decide +kernel) (fun g => absurd g.1 (by decide)) (hx hp)))⟩
theorem rxfRDXO_9_2 {X : (Nat → Int → Int) → Prop} {S0 : Nat → Int → Int} {ws : List Int} (hP : rxPRDXO S0 ws) : bx_obE rxL X S0 rxCRDXO.2.2.1 (rxIRDXO S0 ws) (rxPSRDXO S0 ws) 9 rxzRDXO_9 rxeRDXO_9_2 := by
  intro S S_p r r_p hinv hX hin hsm_ hseg
  obtain ⟨I0, I1, h0_, hr_, b_, f_, d_⟩ := bx_cl (evs := [(1, (0, 412), (0, 4), .inr (0, (12, 0))), (0, (0, 411), (12, 0), .inr (0, (14, 0))), (0, (0, 412), (0, 1), .inr (0, (13, 0))), (0, (0, 412), (0, 2), .inr (0, (12, 0)))]) (fvs := [(3, (14, 0), (0, 59), (0, 0)), (0, (12, 0), (13, 0), (0, 0)), (0, (12, 0), (13, 0), (0, 0)), (3, (11, 0), (0, 0), (0, 0))]) hseg (by decide +kernel) (by decide +kernel)
  have hinv : rxIRDXO_9 S0 ws S (r 8) (r 9) (r 10) (r 11) := hinv
  rw [← hr_ 8 (by decide), ← hr_ 9 (by decide), ← hr_ 10 (by decide), ← hr_ 11 (by decide)] at hinv
  obtain ⟨⟨l8, u8⟩, ⟨l9, u9⟩, ⟨l10, u10⟩, ⟨l11, u11⟩, ⟨l12, u12⟩, ⟨l13, u13⟩, ⟨l14, u14⟩, -⟩ := b_
  obtain ⟨f0, f1, f2, f3, -⟩ := f_
  obtain ⟨T0, ⟨e1, ⟨e2, ⟨e3, w_⟩⟩⟩, w0⟩ := d_
  subst w0
  subst w_
  have g := rxdRDXO_9_2 hP hin hsm_ I0 I1 hinv l8 u8 l9 u9 l10 u10 l11 u11 l12 u12 l13 u13 l14 u14 f0 f1 f2 f3 e3 e2 e1
  refine ⟨bx_narP_ok (l := []) g.1, ?_⟩
  show rxPSRDXO S0 ws (bx_up T0 412 (4) (r_p 12)) (some (bx_num r_p (.inr (0, (0, 0)))))
  rw [bx_xv_ok h0_]
  exact g.2
theorem rxcRDXO_11_0 {S0 : Nat → Int → Int} {ws : List Int} {S : Nat → Int → Int} {nb ap cl : Int} (hP : rxPRDXO S0 ws) (hin : bx_same rxL (bx_mdl rxCRDXO.2.2.1) S0 S) (I0 : bx_Inv rxL S) (hinv : rxIRDXO_11 S0 ws S nb ap cl) (l8 : 0 ≤ nb) (u8 : nb ≤ 400) (l9 : 0 ≤ ap) (u9 : ap ≤ 1) (l10 : 0 ≤ cl) (u10 : cl ≤ 11) : (True) ∧ (True) ∧ rxIRDXO_3 S0 ws S nb ap (cl + 1) ∧ rxmRDXO_3 S0 ws S nb ap (cl + 1) < rxmRDXO_11 S0 ws S nb ap cl := by
  obtain ⟨hI, hx⟩ := hinv
  obtain ⟨a_, b_, c_, d_⟩ := rxcRDXK_11_0 hP hin I0 hI l8 u8 l9 u9 l10 u10
  exact ⟨a_, b_, ⟨c_, hx⟩, d_⟩
theorem rxgRDXO_11_0 {X : (Nat → Int → Int) → Prop} {S0 : Nat → Int → Int} {ws : List Int} (hP : rxPRDXO S0 ws) : bx_obC rxL X S0 rxCRDXO.2.2.1 (rxIRDXO S0 ws) (rxmRDXO S0 ws) 11 rxzRDXO_11 rxoRDXO_11_0 := by
  intro S S_p r r_p hinv hX hin hsm_ hseg
  obtain ⟨I0, I1, h0_, hr_, b_, f_, d_⟩ := bx_cl (evs := []) (fvs := []) hseg (by decide +kernel) (by decide +kernel)
  have hinv : rxIRDXO_11 S0 ws S (r 8) (r 9) (r 10) := hinv
  rw [← hr_ 8 (by decide), ← hr_ 9 (by decide), ← hr_ 10 (by decide)] at hinv
  obtain ⟨⟨l8, u8⟩, ⟨l9, u9⟩, ⟨l10, u10⟩, -⟩ := b_
  have w_ := d_
  subst w_
  have g := rxcRDXO_11_0 hP hin I0 hinv l8 u8 l9 u9 l10 u10
  refine ⟨bx_narP_ok (l := []) g.1, bx_nfP_ok h0_ (fvs := []) (by decide +kernel) g.2.1, ?_, ?_⟩
  · show rxIRDXO_3 S0 ws S_p (bx_val [(0, 0), (0, 0), (0, 0), (0, 0), (0, 0), (0, 0), (0, 0), (0, 0), (8, 0), (9, 0), (10, 1)] r_p 8) (bx_val [(0, 0), (0, 0), (0, 0), (0, 0), (0, 0), (0, 0), (0, 0), (0, 0), (8, 0), (9, 0), (10, 1)] r_p 9) (bx_val [(0, 0), (0, 0), (0, 0), (0, 0), (0, 0), (0, 0), (0, 0), (0, 0), (8, 0), (9, 0), (10, 1)] r_p 10)
    rw [bx_val_x (n := 8) (e := (8, 0)) h0_ rfl, bx_val_x (n := 9) (e := (9, 0)) h0_ rfl, bx_val_x (n := 10) (e := (10, 1)) h0_ rfl]
    exact g.2.2.1
  · show rxmRDXO_3 S0 ws S_p (bx_val [(0, 0), (0, 0), (0, 0), (0, 0), (0, 0), (0, 0), (0, 0), (0, 0), (8, 0), (9, 0), (10, 1)] r_p 8) (bx_val [(0, 0), (0, 0), (0, 0), (0, 0), (0, 0), (0, 0), (0, 0), (0, 0), (8, 0), (9, 0), (10, 1)] r_p 9) (bx_val [(0, 0), (0, 0), (0, 0), (0, 0), (0, 0), (0, 0), (0, 0), (0, 0), (8, 0), (9, 0), (10, 1)] r_p 10) < rxmRDXO_11 S0 ws S_p (r 8) (r 9) (r 10)
    rw [bx_val_x (n := 8) (e := (8, 0)) h0_ rfl, bx_val_x (n := 9) (e := (9, 0)) h0_ rfl, bx_val_x (n := 10) (e := (10, 1)) h0_ rfl, ← hr_ 8 (by decide), ← hr_ 9 (by decide), ← hr_ 10 (by decide)]
    exact g.2.2.2
theorem rxgCRDXO {X : (Nat → Int → Int) → Prop} {S0 : Nat → Int → Int} {ws : List Int} (hP : rxPRDXO S0 ws) : bx_allI (fun i q => rxURDXO q = true ∨ bx_allP (fun o => bx_obC rxL X S0 rxCRDXO.2.2.1 (rxIRDXO S0 ws) (rxmRDXO S0 ws) i q.1 o) q.2.1) 0 rxYRDXO := ⟨Or.inr ⟨rxgRDXO_0_0 hP, trivial⟩, Or.inl rfl, Or.inr ⟨rxgRDXO_2_0 hP, trivial⟩, Or.inr ⟨rxgRDXO_3_0 hP, rxgRDXO_3_1 hP, trivial⟩, Or.inl rfl, Or.inr ⟨rxgRDXO_5_0 hP, trivial⟩, Or.inl rfl, Or.inr ⟨rxgRDXO_7_0 hP, trivial⟩, Or.inl rfl, Or.inr ⟨rxgRDXO_9_0 hP, trivial⟩, Or.inl rfl, Or.inr ⟨rxgRDXO_11_0 hP, trivial⟩, trivial⟩
theorem rxgERDXO {X : (Nat → Int → Int) → Prop} {S0 : Nat → Int → Int} {ws : List Int} (hP : rxPRDXO S0 ws) : bx_allI (fun i q => rxURDXO q = true ∨ bx_allP (fun E => bx_obE rxL X S0 rxCRDXO.2.2.1 (rxIRDXO S0 ws) (rxPSRDXO S0 ws) i q.1 E) q.2.2) 0 rxYRDXO := ⟨Or.inr trivial, Or.inl rfl, Or.inr trivial, Or.inr ⟨rxfRDXO_3_0 hP, trivial⟩, Or.inl rfl, Or.inr ⟨rxfRDXO_5_0 hP, trivial⟩, Or.inl rfl, Or.inr ⟨rxfRDXO_7_0 hP, trivial⟩, Or.inl rfl, Or.inr ⟨rxfRDXO_9_0 hP, rxfRDXO_9_1 hP, rxfRDXO_9_2 hP, trivial⟩, Or.inl rfl, Or.inr trivial, trivial⟩
theorem rxuRDXO {PX : State → Prop} {Dg : va_G} {A : Nat → Prop} {ad xa : Nat → Nat} {l : Launch} {X : (Nat → Int → Int) → Prop} (hPX : rx_PXOK rxNW A PX) (hX : ∀ S S1 : Nat → Int → Int, X S → bx_same rxL (bx_mdl rxCRDXO.2.2.1) S S1 → X S1) (hQAD : bx_ConP rxG rxNW rxAO PX Dg rxL X vwCl A ad l rxM84 rxC84 rxPAD rxPSAD) (hQRPCO : bx_ConP rxG rxNW rxAO PX Dg rxL X vwCl A ad l rxM85 rxCRPCO rxPRPCO rxPSRPCO) (hQRLCO : bx_ConP rxG rxNW rxAO PX Dg rxL X vwCl A ad l rxM86 rxCRLCO rxPRLCO rxPSRLCO) (hQRIFO : bx_ConP rxG rxNW rxAO PX Dg rxL X vwCl A ad l rxM87 rxCRIFO rxPRIFO rxPSRIFO) {S0 : Nat → Int → Int} {ws : List Int} (hP : rxPRDXO S0 ws) : ∀ (i : Nat) (q : bx_HE), rxYRDXO[i]? = some q → rxURDXO q = true → ∀ {p : Program} {e : Env} {R : Room} {s : State} {m : MethodId} {args : Array Value} {below : List Frame} {meth : Method} {c : Code} {Q : State → Prop} {H0 : Heap}, rx_Fr rxG rxNW rxAO PX p s m args meth c rxM119 → (∀ q, H0.size ≤ q → A q) → H0 = s.heap → rxM119.2.2.2.2.2.2.1 ≤ R.cells → rxM119.2.2.2.2.2.2.2 ≤ R.slots → rxCRDXO.2.2.2.1 ≤ R.frames → rxCRDXO.2.2.2.1 * 40 ≤ R.locals → bx_Step p l e R s m args below meth c Q Dg rxL X vwCl A xa H0 ad rxM119 rxYRDXO (rxIRDXO S0 ws) (rxmRDXO S0 ws) S0 rxCRDXO.2.2.1 i q := by
  intro i q hq hus p e R s m args below meth c Q H0 hF hA hH0 hmc hms hd hdl
  match i, hq with
  | 0, hq =>
    cases hq
    exact absurd (show false = true from hus) Bool.false_ne_true
  | 1, hq =>
    cases hq
    exact rx_stepC (ins := .invokevirtual 66) (len := 3) (i_p := 2) (M_p := rxM84) (d := rxCRDXO.2.2.2.1) (as := [.inr (3, (0, 412))]) (t := []) (ct := rxC84) hPX hF rfl hA hH0 hmc hms hd hdl (by decide +kernel) rfl rfl (by decide +kernel) (by decide +kernel) hQAD (by decide +kernel) rfl (Or.inl ⟨rfl, rfl, rfl⟩) (rxsRDXO_1 hP)
  | 2, hq =>
    cases hq
    exact absurd (show false = true from hus) Bool.false_ne_true
  | 3, hq =>
    cases hq
    exact absurd (show false = true from hus) Bool.false_ne_true
  | 4, hq =>
    cases hq
    exact rx_stepC (ins := .invokevirtual 69) (len := 3) (i_p := 5) (M_p := rxM85) (d := rxCRDXO.2.2.2.1) (as := [.inr (3, (0, 412))]) (t := []) (ct := rxCRPCO) hPX hF rfl hA hH0 hmc hms hd hdl (by decide +kernel) rfl rfl (by decide +kernel) (by decide +kernel) hQRPCO (by decide +kernel) rfl (Or.inr ⟨_, _, _, 1, rfl, rfl, by omega, rfl, rfl, rfl⟩) (rxsRDXO_4 hP)
  | 5, hq =>
    cases hq
    exact absurd (show false = true from hus) Bool.false_ne_true
  | 6, hq =>
    cases hq
    exact rx_stepC (ins := .invokevirtual 73) (len := 3) (i_p := 7) (M_p := rxM86) (d := rxCRDXO.2.2.2.1) (as := [.inr (3, (0, 412))]) (t := []) (ct := rxCRLCO) hPX hF rfl hA hH0 hmc hms hd hdl (by decide +kernel) rfl rfl (by decide +kernel) (by decide +kernel) hQRLCO (by decide +kernel) rfl (Or.inr ⟨_, _, _, 1, rfl, rfl, by omega, rfl, rfl, rfl⟩) (rxsRDXO_6 hP)
  | 7, hq =>
    cases hq
    exact absurd (show false = true from hus) Bool.false_ne_true
  | 8, hq =>
    cases hq
    exact rx_stepC (ins := .invokevirtual 76) (len := 3) (i_p := 9) (M_p := rxM87) (d := rxCRDXO.2.2.2.1) (as := [.inr (3, (0, 412))]) (t := []) (ct := rxCRIFO) hPX hF rfl hA hH0 hmc hms hd hdl (by decide +kernel) rfl rfl (by decide +kernel) (by decide +kernel) hQRIFO (by decide +kernel) rfl (Or.inr ⟨_, _, _, 1, rfl, rfl, by omega, rfl, rfl, rfl⟩) (rxsRDXO_8 hP)
  | 9, hq =>
    cases hq
    exact absurd (show false = true from hus) Bool.false_ne_true
  | 10, hq =>
    cases hq
    exact rx_stepC (ins := .invokevirtual 66) (len := 3) (i_p := 11) (M_p := rxM84) (d := rxCRDXO.2.2.2.1) (as := [.inr (3, (0, 412))]) (t := []) (ct := rxC84) hPX hF rfl hA hH0 hmc hms hd hdl (by decide +kernel) rfl rfl (by decide +kernel) (by decide +kernel) hQAD (by decide +kernel) rfl (Or.inl ⟨rfl, rfl, rfl⟩) (rxsRDXO_10 hP)
  | 11, hq =>
    cases hq
    exact absurd (show false = true from hus) Bool.false_ne_true
  | n + 12, hq => cases hq
theorem rxQRDXO {PX : State → Prop} {Dg : va_G} {A : Nat → Prop} {ad xa : Nat → Nat} {l : Launch} {X : (Nat → Int → Int) → Prop} (hPX : rx_PXOK rxNW A PX) (hsl : ∀ s : State, PX s → ∀ o idx n : Nat, rxSl o idx = some n → ∃ tx : String, vk_R (rxNm o) idx tx (ad n) s)
    (hX : ∀ S S_p : Nat → Int → Int, X S → bx_same rxL (bx_mdl rxCRDXO.2.2.1) S S_p → X S_p)
    (ih : ∀ (j2 : Nat) (ct2 : bx_Ct) (M2 : rx_Mt), ct2 ∈ rxCnE j2 → ct2.2.2.2.1 + 1 ≤ rxCRDXO.2.2.2.1 → rxT.2.2.2.2.2 j2 = some M2 → bx_Con rxG rxNW rxAO PX Dg rxL X vwCl A ad l M2 ct2) (hQAD : bx_ConP rxG rxNW rxAO PX Dg rxL X vwCl A ad l rxM84 rxC84 rxPAD rxPSAD) (hQRPCO : bx_ConP rxG rxNW rxAO PX Dg rxL X vwCl A ad l rxM85 rxCRPCO rxPRPCO rxPSRPCO) (hQRLCO : bx_ConP rxG rxNW rxAO PX Dg rxL X vwCl A ad l rxM86 rxCRLCO rxPRLCO rxPSRLCO) (hQRIFO : bx_ConP rxG rxNW rxAO PX Dg rxL X vwCl A ad l rxM87 rxCRIFO rxPRIFO rxPSRIFO) : bx_ConP rxG rxNW rxAO PX Dg rxL X vwCl A ad l rxM119 rxCRDXO rxPRDXO rxPSRDXO :=
  rxQof (xa := xa) (Cn := rxCnE) (f := 30000) (j := 119) (tab := rxYRDXO) (us := rxURDXO) hPX hsl hX ih rfl rxYcRDXO rxIRDXO rxmRDXO
    (fun S0 ws r I0 I ht0 ht as he he1 hX0 hI0 hP hs ha => by
      have e := he.symm.trans (show bx_ent0 rxNP rxCRDXO.1 bx_I0 [] = some ([(0, 0), (0, 0), (0, 0), (0, 0), (0, 0), (0, 0), (0, 0), (0, 0), (0, 400), (0, 1)], [], [.inr (3, (0, 412)), .inr (3, (0, 411)), .inr (0, (8, 0)), .inr (0, (9, 0)), .inr (3, (0, 427))]) from rfl)
      cases e
      subst ha
      have h0 : r 0 = 0 := hs.1
      show rxIRDXO_0 S0 _ S0 (r 8) (r 9)
      refine ⟨⟨⟨rfl, ?_⟩, trivial⟩, trivial⟩
      simp only [List.map_cons, List.map_nil, bx_xv_ok h0]
      rfl)
    (fun S0 ws hP => rxuRDXO (xa := xa) hPX hX hQAD hQRPCO hQRLCO hQRIFO hP) (fun S0 ws hP => rxgCRDXO hP) (fun S0 ws hP => rxgERDXO hP)
