noncomputable def rxCRLCO : bx_Ct := ([(3, (1, 412, 0))], some (0, (0, 0, 1)), [(6, 0), (6, 4), (7, 2), (7, 3), (7, 4), (7, 7), (7, 8), (7, 10), (1021, 0), (1022, 0), (1024, 0), (1025, 0), (1026, 0), (1027, 0), (1034, 0), (1035, 0), (1036, 0)], 8, [(412, 0, 3, (1, 411, 0)), (412, 6, 3, (1, 427, 0))])
noncomputable def rxIRLCO_0 (S0 : Nat → Int → Int) (ws : List Int) (S : Nat → Int → Int) : Prop := rxIRLCK_0 S0 ws S ∧ True
noncomputable def rxmRLCO_0 (S0 : Nat → Int → Int) (ws : List Int) (S : Nat → Int → Int) : Nat := rxmRLCK_0 S0 ws S
noncomputable def rxzRLCO_0 : rx_Z := ([(0, 0), (0, 0), (0, 0), (0, 0), (0, 0), (0, 0), (0, 0), (0, 0)], [], [(((0, 412), 6), .inr (3, (0, 427))), (((0, 412), 0), .inr (3, (0, 411)))], 0, 0, 0, [(0, .inr (3, (0, 412)))], [])
noncomputable def rxIRLCO_1 (S0 : Nat → Int → Int) (ws : List Int) (S : Nat → Int → Int) : Prop := rxIRLCK_1 S0 ws S ∧ (rkPr S0 → rkPO S0 S)
noncomputable def rxmRLCO_1 (S0 : Nat → Int → Int) (ws : List Int) (S : Nat → Int → Int) : Nat := rxmRLCK_1 S0 ws S
noncomputable def rxzRLCO_1 : rx_Z := ([(0, 0), (0, 0), (0, 0), (0, 0), (0, 0), (0, 0), (0, 0), (0, 0)], [], [(((0, 412), 0), .inr (3, (0, 411))), (((0, 412), 6), .inr (3, (0, 427)))], 0, 0, 3, [(0, .inr (3, (0, 412)))], [.inr (3, (0, 525)), .inr (3, (0, 412))])
noncomputable def rxIRLCO_2 (S0 : Nat → Int → Int) (ws : List Int) (S : Nat → Int → Int) (r : Int) : Prop := rxIRLCK_2 S0 ws S r ∧ (rkPr S0 → rkPO S0 S)
noncomputable def rxmRLCO_2 (S0 : Nat → Int → Int) (ws : List Int) (S : Nat → Int → Int) (r : Int) : Nat := rxmRLCK_2 S0 ws S r
noncomputable def rxzRLCO_2 : rx_Z := ([(0, 0), (0, 0), (0, 0), (0, 0), (0, 0), (0, 0), (0, 0), (0, 0), (0, 1)], [], [(((0, 412), 0), .inr (3, (0, 411))), (((0, 412), 6), .inr (3, (0, 427)))], 0, 0, 6, [(0, .inr (3, (0, 412)))], [.inr (0, (8, 0))])
noncomputable def rxIRLCO_3 (S0 : Nat → Int → Int) (ws : List Int) (S : Nat → Int → Int) (ba : Int) : Prop := rxIRLCK_3 S0 ws S ba ∧ (rkPr S0 → rkPO S0 S)
noncomputable def rxmRLCO_3 (S0 : Nat → Int → Int) (ws : List Int) (S : Nat → Int → Int) (ba : Int) : Nat := rxmRLCK_3 S0 ws S ba
noncomputable def rxzRLCO_3 : rx_Z := ([(0, 0), (0, 0), (0, 0), (0, 0), (0, 0), (0, 0), (0, 0), (0, 0), (0, 1)], [], [(((0, 412), 0), .inr (3, (0, 411))), (((0, 412), 6), .inr (3, (0, 427)))], 0, 0, 10, [(0, .inr (3, (0, 412))), (1, .inr (0, (8, 0)))], [.inr (3, (0, 542)), .inr (3, (0, 412))])
noncomputable def rxIRLCO_4 (S0 : Nat → Int → Int) (ws : List Int) (S : Nat → Int → Int) (ba r : Int) : Prop := rxIRLCK_4 S0 ws S ba r ∧ (rkPr S0 → rkPO S0 S)
noncomputable def rxmRLCO_4 (S0 : Nat → Int → Int) (ws : List Int) (S : Nat → Int → Int) (ba r : Int) : Nat := rxmRLCK_4 S0 ws S ba r
noncomputable def rxzRLCO_4 : rx_Z := ([(0, 0), (0, 0), (0, 0), (0, 0), (0, 0), (0, 0), (0, 0), (0, 0), (0, 1), (0, 1)], [], [(((0, 412), 0), .inr (3, (0, 411))), (((0, 412), 6), .inr (3, (0, 427)))], 0, 0, 13, [(0, .inr (3, (0, 412))), (1, .inr (0, (8, 0)))], [.inr (0, (9, 0))])
noncomputable def rxIRLCO_5 (S0 : Nat → Int → Int) (ws : List Int) (S : Nat → Int → Int) (ba sl : Int) : Prop := rxIRLCK_5 S0 ws S ba sl ∧ (rkPr S0 → rkPO S0 S)
noncomputable def rxmRLCO_5 (S0 : Nat → Int → Int) (ws : List Int) (S : Nat → Int → Int) (ba sl : Int) : Nat := rxmRLCK_5 S0 ws S ba sl
noncomputable def rxzRLCO_5 : rx_Z := ([(0, 0), (0, 0), (0, 0), (0, 0), (0, 0), (0, 0), (0, 0), (0, 0), (0, 1), (0, 1)], [], [(((0, 412), 0), .inr (3, (0, 411))), (((0, 412), 6), .inr (3, (0, 427)))], 0, 0, 25, [(0, .inr (3, (0, 412))), (1, .inr (0, (8, 0))), (2, .inr (0, (9, 0)))], [.inr (3, (0, 530)), .inr (3, (0, 412))])
noncomputable def rxIRLCO_6 (S0 : Nat → Int → Int) (ws : List Int) (S : Nat → Int → Int) (ba sl r : Int) : Prop := rxIRLCK_6 S0 ws S ba sl r ∧ (rkPr S0 → rkPO S0 S)
noncomputable def rxmRLCO_6 (S0 : Nat → Int → Int) (ws : List Int) (S : Nat → Int → Int) (ba sl r : Int) : Nat := rxmRLCK_6 S0 ws S ba sl r
noncomputable def rxzRLCO_6 : rx_Z := ([(0, 0), (0, 0), (0, 0), (0, 0), (0, 0), (0, 0), (0, 0), (0, 0), (0, 1), (0, 1), (0, 1)], [], [(((0, 412), 0), .inr (3, (0, 411))), (((0, 412), 6), .inr (3, (0, 427)))], 0, 0, 28, [(0, .inr (3, (0, 412))), (1, .inr (0, (8, 0))), (2, .inr (0, (9, 0)))], [.inr (0, (10, 0))])
noncomputable def rxIRLCO_7 (S0 : Nat → Int → Int) (ws : List Int) (S : Nat → Int → Int) (ba sl : Int) : Prop := rxIRLCK_7 S0 ws S ba sl ∧ (rkPr S0 → rkPO S0 S)
noncomputable def rxmRLCO_7 (S0 : Nat → Int → Int) (ws : List Int) (S : Nat → Int → Int) (ba sl : Int) : Nat := rxmRLCK_7 S0 ws S ba sl
noncomputable def rxzRLCO_7 : rx_Z := ([(0, 0), (0, 0), (0, 0), (0, 0), (0, 0), (0, 0), (0, 0), (0, 0), (0, 1), (0, 1)], [], [(((0, 412), 0), .inr (3, (0, 411))), (((0, 412), 6), .inr (3, (0, 427)))], 0, 0, 37, [(0, .inr (3, (0, 412))), (1, .inr (0, (8, 0))), (2, .inr (0, (9, 0)))], [.inr (3, (0, 412))])
noncomputable def rxIRLCO_8 (S0 : Nat → Int → Int) (ws : List Int) (S : Nat → Int → Int) (ba sl : Int) : Prop := rxIRLCK_8 S0 ws S ba sl ∧ (rkPr S0 → rkPO S0 S)
noncomputable def rxmRLCO_8 (S0 : Nat → Int → Int) (ws : List Int) (S : Nat → Int → Int) (ba sl : Int) : Nat := rxmRLCK_8 S0 ws S ba sl
noncomputable def rxzRLCO_8 : rx_Z := ([(0, 0), (0, 0), (0, 0), (0, 0), (0, 0), (0, 0), (0, 0), (0, 0), (0, 1), (0, 1)], [], [(((0, 412), 0), .inr (3, (0, 411))), (((0, 412), 6), .inr (3, (0, 427)))], 0, 0, 40, [(0, .inr (3, (0, 412))), (1, .inr (0, (8, 0))), (2, .inr (0, (9, 0)))], [])
noncomputable def rxIRLCO_9 (S0 : Nat → Int → Int) (ws : List Int) (S : Nat → Int → Int) (ba sl ki : Int) : Prop := rxIRLCK_9 S0 ws S ba sl ki ∧ (rkPr S0 → rkPO S0 S)
noncomputable def rxmRLCO_9 (S0 : Nat → Int → Int) (ws : List Int) (S : Nat → Int → Int) (ba sl ki : Int) : Nat := rxmRLCK_9 S0 ws S ba sl ki
noncomputable def rxzRLCO_9 : rx_Z := ([(0, 0), (0, 0), (0, 0), (0, 0), (0, 0), (0, 0), (0, 0), (0, 0), (0, 1), (0, 1), (0, 4)], [], [(((0, 412), 0), .inr (3, (0, 411))), (((0, 412), 6), .inr (3, (0, 427)))], 0, 0, 63, [(0, .inr (3, (0, 412))), (1, .inr (0, (8, 0))), (2, .inr (0, (9, 0)))], [.inr (0, (0, (-1))), .inr (0, (0, (-1))), .inr (0, (10, 0)), .inr (3, (0, 427))])
noncomputable def rxIRLCO_10 (S0 : Nat → Int → Int) (ws : List Int) (S : Nat → Int → Int) (ba sl ki : Int) : Prop := rxIRLCK_10 S0 ws S ba sl ki ∧ (rkPr S0 → rkPO S0 S)
noncomputable def rxmRLCO_10 (S0 : Nat → Int → Int) (ws : List Int) (S : Nat → Int → Int) (ba sl ki : Int) : Nat := rxmRLCK_10 S0 ws S ba sl ki
noncomputable def rxzRLCO_10 : rx_Z := ([(0, 0), (0, 0), (0, 0), (0, 0), (0, 0), (0, 0), (0, 0), (0, 0), (0, 1), (0, 1), (0, 4)], [], [(((0, 412), 0), .inr (3, (0, 411))), (((0, 412), 6), .inr (3, (0, 427)))], 0, 0, 66, [(0, .inr (3, (0, 412))), (1, .inr (0, (8, 0))), (2, .inr (0, (9, 0)))], [])
noncomputable def rxIRLCO_11 (S0 : Nat → Int → Int) (ws : List Int) (S : Nat → Int → Int) (ba sl sa : Int) : Prop := rxIRLCK_11 S0 ws S ba sl sa ∧ (rkPr S0 → rkPO S0 S)
noncomputable def rxmRLCO_11 (S0 : Nat → Int → Int) (ws : List Int) (S : Nat → Int → Int) (ba sl sa : Int) : Nat := rxmRLCK_11 S0 ws S ba sl sa
noncomputable def rxzRLCO_11 : rx_Z := ([(0, 0), (0, 0), (0, 0), (0, 0), (0, 0), (0, 0), (0, 0), (0, 0), (0, 1), (0, 1), (0, 1522)], [], [(((10, 0), 1000014), .inl none), (((0, 412), 0), .inr (3, (0, 411))), (((0, 412), 6), .inr (3, (0, 427)))], 0, 0, 79, [(0, .inr (3, (0, 412))), (1, .inr (0, (8, 0))), (2, .inr (0, (9, 0)))], [.inr (0, (0, 0)), .inr (3, (10, 0)), .inr (3, (0, 412))])
noncomputable def rxIRLCO_12 (S0 : Nat → Int → Int) (ws : List Int) (S : Nat → Int → Int) (ba sl sa res : Int) : Prop := rxIRLCK_12 S0 ws S ba sl sa res ∧ (rkPr S0 → rkPO S0 S)
noncomputable def rxmRLCO_12 (S0 : Nat → Int → Int) (ws : List Int) (S : Nat → Int → Int) (ba sl sa res : Int) : Nat := rxmRLCK_12 S0 ws S ba sl sa res
noncomputable def rxzRLCO_12 : rx_Z := ([(0, 0), (0, 0), (0, 0), (0, 0), (0, 0), (0, 0), (0, 0), (0, 0), (0, 1), (0, 1), (0, 1522), (0, 1)], [], [(((10, 0), 1000014), .inl none), (((0, 412), 0), .inr (3, (0, 411))), (((0, 412), 6), .inr (3, (0, 427)))], 0, 0, 82, [(0, .inr (3, (0, 412))), (1, .inr (0, (8, 0))), (2, .inr (0, (9, 0)))], [.inr (0, (11, 0))])
noncomputable def rxoRLCO_0_0 : bx_HO := (([(0, 0), (0, 0), (0, 0), (0, 0), (0, 0), (0, 0), (0, 0), (0, 0)], [], [(((0, 412), 6), .inr (3, (0, 427))), (((0, 412), 0), .inr (3, (0, 411)))], 0, 0, 3, [(0, .inr (3, (0, 412)))], [.inr (3, (0, 525)), .inr (3, (0, 412))]), [], [], [(0, 0), (0, 0), (0, 0), (0, 0), (0, 0), (0, 0), (0, 0), (0, 0)], 1)
noncomputable def rxoRLCO_2_0 : bx_HO := (([(0, 0), (0, 0), (0, 0), (0, 0), (0, 0), (0, 0), (0, 0), (0, 0), (0, 1)], [], [(((0, 412), 0), .inr (3, (0, 411))), (((0, 412), 6), .inr (3, (0, 427)))], 0, 0, 10, [(1, .inr (0, (8, 0))), (0, .inr (3, (0, 412)))], [.inr (3, (0, 542)), .inr (3, (0, 412))]), [], [], [(0, 0), (0, 0), (0, 0), (0, 0), (0, 0), (0, 0), (0, 0), (0, 0), (8, 0)], 3)
noncomputable def rxoRLCO_4_0 : bx_HO := (([(0, 0), (0, 0), (0, 0), (0, 0), (0, 0), (0, 0), (0, 0), (0, 0), (0, 0), (0, 0)], [], [(((0, 412), 0), .inr (3, (0, 411))), (((0, 412), 6), .inr (3, (0, 427)))], 0, 0, 25, [(2, .inr (0, (9, 0))), (0, .inr (3, (0, 412))), (1, .inr (0, (8, 0)))], [.inr (3, (0, 530)), .inr (3, (0, 412))]), [], [], [(0, 0), (0, 0), (0, 0), (0, 0), (0, 0), (0, 0), (0, 0), (0, 0), (8, 0), (9, 0)], 5)
noncomputable def rxoRLCO_4_1 : bx_HO := (([(0, 0), (0, 0), (0, 0), (0, 0), (0, 0), (0, 0), (0, 0), (0, 0), (0, 0), (1, 1)], [(3, (9, 0), (0, 0))], [(((0, 412), 0), .inr (3, (0, 411))), (((0, 412), 6), .inr (3, (0, 427)))], 0, 0, 37, [(2, .inr (0, (9, 0))), (0, .inr (3, (0, 412))), (1, .inr (0, (8, 0)))], [.inr (3, (0, 412))]), [], [], [(0, 0), (0, 0), (0, 0), (0, 0), (0, 0), (0, 0), (0, 0), (0, 0), (8, 0), (9, 0)], 7)
noncomputable def rxoRLCO_4_2 : bx_HO := (([(0, 0), (0, 0), (0, 0), (0, 0), (0, 0), (0, 0), (0, 0), (0, 0), (1, 1), (0, 1)], [(3, (8, 0), (0, 0))], [(((0, 412), 0), .inr (3, (0, 411))), (((0, 412), 6), .inr (3, (0, 427)))], 0, 0, 37, [(2, .inr (0, (9, 0))), (0, .inr (3, (0, 412))), (1, .inr (0, (8, 0)))], [.inr (3, (0, 412))]), [], [], [(0, 0), (0, 0), (0, 0), (0, 0), (0, 0), (0, 0), (0, 0), (0, 0), (8, 0), (9, 0)], 7)
noncomputable def rxoRLCO_6_0 : bx_HO := (([(0, 0), (0, 0), (0, 0), (0, 0), (0, 0), (0, 0), (0, 0), (0, 0), (0, 1), (0, 1), (1, 1)], [(3, (10, 0), (0, 0))], [(((0, 412), 0), .inr (3, (0, 411))), (((0, 412), 6), .inr (3, (0, 427)))], 0, 0, 37, [(0, .inr (3, (0, 412))), (1, .inr (0, (8, 0))), (2, .inr (0, (9, 0)))], [.inr (3, (0, 412))]), [], [], [(0, 0), (0, 0), (0, 0), (0, 0), (0, 0), (0, 0), (0, 0), (0, 0), (8, 0), (9, 0)], 7)
noncomputable def rxeRLCO_6_0 : rx_End × List (Nat × Int × Int) := (([(0, 0), (0, 0), (0, 0), (0, 0), (0, 0), (0, 0), (0, 0), (0, 0), (0, 1), (0, 1), (0, 0), (0, 400)], [], [(((0, 0), 1851192626986356798227167157524121751206303872841384192011665411000000), .inr (0, (11, 0))), (((0, 412), 4), .inr (0, (11, 0))), (((0, 0), 1851192626986356797825753743950570534658660943933713684904017920000000), .inr (0, (11, 0))), (((0, 412), 2), .inr (0, (11, 0))), (((0, 412), 0), .inr (3, (0, 411))), (((0, 412), 6), .inr (3, (0, 427)))], some (.inr (0, (0, 0)))), [])
noncomputable def rxoRLCO_8_0 : bx_HO := (([(0, 0), (0, 0), (0, 0), (0, 0), (0, 0), (0, 0), (0, 0), (0, 0), (1, 1), (0, 1)], [(3, (8, 0), (0, 0))], [(((0, 412), 0), .inr (3, (0, 411))), (((0, 412), 6), .inr (3, (0, 427)))], 0, 0, 63, [(0, .inr (3, (0, 412))), (1, .inr (0, (8, 0))), (2, .inr (0, (9, 0)))], [.inr (0, (0, (-1))), .inr (0, (0, (-1))), .inr (0, (0, 2)), .inr (3, (0, 427))]), [], [], [(0, 0), (0, 0), (0, 0), (0, 0), (0, 0), (0, 0), (0, 0), (0, 0), (8, 0), (9, 0), (0, 2)], 9)
noncomputable def rxoRLCO_8_1 : bx_HO := (([(0, 0), (0, 0), (0, 0), (0, 0), (0, 0), (0, 0), (0, 0), (0, 0), (0, 0), (1, 1)], [(3, (9, 0), (0, 0))], [(((0, 412), 0), .inr (3, (0, 411))), (((0, 412), 6), .inr (3, (0, 427)))], 0, 0, 63, [(0, .inr (3, (0, 412))), (1, .inr (0, (8, 0))), (2, .inr (0, (9, 0)))], [.inr (0, (0, (-1))), .inr (0, (0, (-1))), .inr (0, (0, 0)), .inr (3, (0, 427))]), [], [], [(0, 0), (0, 0), (0, 0), (0, 0), (0, 0), (0, 0), (0, 0), (0, 0), (8, 0), (9, 0), (0, 0)], 9)
noncomputable def rxoRLCO_8_2 : bx_HO := (([(0, 0), (0, 0), (0, 0), (0, 0), (0, 0), (0, 0), (0, 0), (0, 0), (0, 0), (0, 0)], [], [(((0, 412), 0), .inr (3, (0, 411))), (((0, 412), 6), .inr (3, (0, 427)))], 0, 0, 63, [(0, .inr (3, (0, 412))), (1, .inr (0, (8, 0))), (2, .inr (0, (9, 0)))], [.inr (0, (0, (-1))), .inr (0, (0, (-1))), .inr (0, (0, 1)), .inr (3, (0, 427))]), [], [], [(0, 0), (0, 0), (0, 0), (0, 0), (0, 0), (0, 0), (0, 0), (0, 0), (8, 0), (9, 0), (0, 1)], 9)
noncomputable def rxoRLCO_10_0 : bx_HO := (([(0, 0), (0, 0), (0, 0), (0, 0), (0, 0), (0, 0), (0, 0), (0, 0), (0, 0), (0, 1), (0, 4), (0, 1522)], [], [(((0, 0), 1851192626986356799029993984671224184301589730656725206235807744000000), .inr (3, (11, 0))), (((0, 427), 8), .inr (3, (11, 0))), (((11, 0), 1000014), .inl none), (((0, 412), 0), .inr (3, (0, 411))), (((0, 412), 6), .inr (3, (0, 427)))], 0, 0, 79, [(0, .inr (3, (0, 412))), (1, .inr (0, (8, 0))), (2, .inr (0, (9, 0)))], [.inr (0, (0, 0)), .inr (3, (11, 0)), .inr (3, (0, 412))]), [], [], [(0, 0), (0, 0), (0, 0), (0, 0), (0, 0), (0, 0), (0, 0), (0, 0), (8, 0), (9, 0), (11, 0)], 11)
noncomputable def rxeRLCO_10_0 : rx_End × List (Nat × Int × Int) := (([(0, 0), (0, 0), (0, 0), (0, 0), (0, 0), (0, 0), (0, 0), (0, 0), (1, 1), (0, 1), (0, 4)], [(3, (8, 0), (0, 0))], [(((0, 412), 0), .inr (3, (0, 411))), (((0, 412), 6), .inr (3, (0, 427)))], some (.inr (0, (0, 1)))), [])
noncomputable def rxeRLCO_12_0 : rx_End × List (Nat × Int × Int) := (([(0, 0), (0, 0), (0, 0), (0, 0), (0, 0), (0, 0), (0, 0), (0, 0), (0, 1), (0, 1), (0, 1522), (1, 1)], [(3, (11, 0), (0, 0))], [(((10, 0), 1000014), .inl none), (((0, 412), 0), .inr (3, (0, 411))), (((0, 412), 6), .inr (3, (0, 427)))], some (.inr (0, (0, 1)))), [])
noncomputable def rxeRLCO_12_1 : rx_End × List (Nat × Int × Int) := (([(0, 0), (0, 0), (0, 0), (0, 0), (0, 0), (0, 0), (0, 0), (0, 0), (0, 1), (0, 1), (0, 1522), (0, 0)], [], [(((10, 0), 1000014), .inl none), (((0, 412), 0), .inr (3, (0, 411))), (((0, 412), 6), .inr (3, (0, 427)))], some (.inr (0, (0, 0)))), [])
noncomputable def rxYRLCO : List bx_HE := [(rxzRLCO_0, [rxoRLCO_0_0], []), (rxzRLCO_1, [], []), (rxzRLCO_2, [rxoRLCO_2_0], []), (rxzRLCO_3, [], []), (rxzRLCO_4, [rxoRLCO_4_0, rxoRLCO_4_1, rxoRLCO_4_2], []), (rxzRLCO_5, [], []), (rxzRLCO_6, [rxoRLCO_6_0], [rxeRLCO_6_0]), (rxzRLCO_7, [], []), (rxzRLCO_8, [rxoRLCO_8_0, rxoRLCO_8_1, rxoRLCO_8_2], []), (rxzRLCO_9, [], []), (rxzRLCO_10, [rxoRLCO_10_0], [rxeRLCO_10_0]), (rxzRLCO_11, [], []), (rxzRLCO_12, [], [rxeRLCO_12_0, rxeRLCO_12_1])]
noncomputable def rxURLCO (q : bx_HE) : Bool := Nat.beq (rx_zpc q.1) 3 || Nat.beq (rx_zpc q.1) 10 || Nat.beq (rx_zpc q.1) 25 || Nat.beq (rx_zpc q.1) 37 || Nat.beq (rx_zpc q.1) 63 || Nat.beq (rx_zpc q.1) 79
noncomputable def rxYBRLCO : bx_B := (rxV, rxNP, rxDmf, bx_mdH rxCRLCO.2.2.1)
set_option maxRecDepth 100000 in
theorem rxYcRLCO : bx_chkH rxYBRLCO rxM86 rxCRLCO rxYRLCO (rxURLCO, fun cut z => rx_ex2 (rxCT rxYBRLCO rxCnE) cut 30000 rxCRLCO.2.2.2.1 86 z) = true := by decide +kernel
noncomputable def rxIRLCO (S0 : Nat → Int → Int) (ws : List Int) (i : Nat) : bx_SP := fun S r => match i with | 0 => rxIRLCO_0 S0 ws S | 1 => rxIRLCO_1 S0 ws S | 2 => rxIRLCO_2 S0 ws S (r 8) | 3 => rxIRLCO_3 S0 ws S (r 8) | 4 => rxIRLCO_4 S0 ws S (r 8) (r 9) | 5 => rxIRLCO_5 S0 ws S (r 8) (r 9) | 6 => rxIRLCO_6 S0 ws S (r 8) (r 9) (r 10) | 7 => rxIRLCO_7 S0 ws S (r 8) (r 9) | 8 => rxIRLCO_8 S0 ws S (r 8) (r 9) | 9 => rxIRLCO_9 S0 ws S (r 8) (r 9) (r 10) | 10 => rxIRLCO_10 S0 ws S (r 8) (r 9) (r 10) | 11 => rxIRLCO_11 S0 ws S (r 8) (r 9) (r 10) | 12 => rxIRLCO_12 S0 ws S (r 8) (r 9) (r 10) (r 11) | _ => False
noncomputable def rxmRLCO (S0 : Nat → Int → Int) (ws : List Int) (i : Nat) (S : Nat → Int → Int) (r : Nat → Int) : Nat := match i with | 0 => rxmRLCO_0 S0 ws S | 1 => rxmRLCO_1 S0 ws S | 2 => rxmRLCO_2 S0 ws S (r 8) | 3 => rxmRLCO_3 S0 ws S (r 8) | 4 => rxmRLCO_4 S0 ws S (r 8) (r 9) | 5 => rxmRLCO_5 S0 ws S (r 8) (r 9) | 6 => rxmRLCO_6 S0 ws S (r 8) (r 9) (r 10) | 7 => rxmRLCO_7 S0 ws S (r 8) (r 9) | 8 => rxmRLCO_8 S0 ws S (r 8) (r 9) | 9 => rxmRLCO_9 S0 ws S (r 8) (r 9) (r 10) | 10 => rxmRLCO_10 S0 ws S (r 8) (r 9) (r 10) | 11 => rxmRLCO_11 S0 ws S (r 8) (r 9) (r 10) | 12 => rxmRLCO_12 S0 ws S (r 8) (r 9) (r 10) (r 11) | _ => 0
noncomputable def rxPRLCO (S0 : Nat → Int → Int) (ws : List Int) : Prop := rxPRLCK S0 ws
noncomputable def rxPSRLCO (S0 : Nat → Int → Int) (ws : List Int) (S : Nat → Int → Int) (w : Option Int) : Prop := rxPSRLCK S0 ws S w ∧ (rkPr S0 → rkPO S0 S)
theorem rxkRLCO_1 {S0 : Nat → Int → Int} {ws : List Int} {S : Nat → Int → Int} (hP : rxPRLCO S0 ws) (hin : bx_same rxL (bx_mdl rxCRLCO.2.2.1) S0 S) (I0 : bx_Inv rxL S) (hinv : rxIRLCO_1 S0 ws S)  : rxPIWX S [412, 525] ∧ ∀ (S_p : Nat → Int → Int) (r : Int), 0 ≤ r → r ≤ 1 → rxPSIWX S [412, 525] S_p (some r) → bx_Inv rxL S_p → bx_same rxL (bx_mdl rxC59.2.2.1) S S_p → rxIRLCO_2 S0 ws S_p r ∧ rxmRLCO_2 S0 ws S_p r < rxmRLCO_1 S0 ws S := by
  obtain ⟨hI, hx⟩ := hinv
  have g_ := rxkRLCK_1 hP hin I0 hI
  exact ⟨g_.1, fun S_p r l_ u_ hq I1 hsm => ⟨⟨(g_.2 S_p r l_ u_ hq I1 hsm).1, (by
    intro hp
    exact rkPO_sm hsm (by decide +kernel) (hx hp))⟩, (g_.2 S_p r l_ u_ hq I1 hsm).2⟩⟩
theorem rxsRLCO_1 {X : (Nat → Int → Int) → Prop} {S0 : Nat → Int → Int} {ws : List Int} (hP : rxPRLCO S0 ws) : rx_obK X S0 rxCRLCO.2.2.1 rxC59.2.2.1 (rxIRLCO S0 ws) (rxmRLCO S0 ws) 1 2 rxzRLCO_1 rxzRLCO_2 [.inr (3, (0, 412)), .inr (3, (0, 525))] (some 8) rxPIWX rxPSIWX := by
  intro S r hinv hXS I0 hin hs_ hf_
  have b_ := bx_bds_sat hs_
  have f_ := bx_fcl_ok hs_.1 hf_
  have g := rxkRLCO_1 hP hin I0 hinv 
  have ea : List.map (bx_num r) [.inr (3, (0, 412)), .inr (3, (0, 525))] = [412, 525] := by
    simp only [List.map_cons, List.map_nil, bx_xv_ok hs_.1]
    rfl
  rw [ea]
  refine ⟨g.1, fun S_p w r_p hPS hX_p I1 hsm hr hw hs_p => ?_⟩
  have hw := hw _ rfl
  subst hw
  have b_p := hs_p.2.2 8 _ _ rfl
  have g2 := g.2 S_p (r_p 8) b_p.1 b_p.2 hPS I1 hsm
  show rxIRLCO_2 S0 ws S_p (r_p 8) ∧ rxmRLCO_2 S0 ws S_p (r_p 8) < _
  exact g2
theorem rxkRLCO_3 {S0 : Nat → Int → Int} {ws : List Int} {S : Nat → Int → Int} {ba : Int} (hP : rxPRLCO S0 ws) (hin : bx_same rxL (bx_mdl rxCRLCO.2.2.1) S0 S) (I0 : bx_Inv rxL S) (hinv : rxIRLCO_3 S0 ws S ba) (l8 : 0 ≤ ba) (u8 : ba ≤ 1) : rxPIWX S [412, 542] ∧ ∀ (S_p : Nat → Int → Int) (r : Int), 0 ≤ r → r ≤ 1 → rxPSIWX S [412, 542] S_p (some r) → bx_Inv rxL S_p → bx_same rxL (bx_mdl rxC59.2.2.1) S S_p → rxIRLCO_4 S0 ws S_p ba r ∧ rxmRLCO_4 S0 ws S_p ba r < rxmRLCO_3 S0 ws S ba := by
  obtain ⟨hI, hx⟩ := hinv
  have g_ := rxkRLCK_3 hP hin I0 hI l8 u8
  exact ⟨g_.1, fun S_p r l_ u_ hq I1 hsm => ⟨⟨(g_.2 S_p r l_ u_ hq I1 hsm).1, (by
    intro hp
    exact rkPO_sm hsm (by decide +kernel) (hx hp))⟩, (g_.2 S_p r l_ u_ hq I1 hsm).2⟩⟩
theorem rxsRLCO_3 {X : (Nat → Int → Int) → Prop} {S0 : Nat → Int → Int} {ws : List Int} (hP : rxPRLCO S0 ws) : rx_obK X S0 rxCRLCO.2.2.1 rxC59.2.2.1 (rxIRLCO S0 ws) (rxmRLCO S0 ws) 3 4 rxzRLCO_3 rxzRLCO_4 [.inr (3, (0, 412)), .inr (3, (0, 542))] (some 9) rxPIWX rxPSIWX := by
  intro S r hinv hXS I0 hin hs_ hf_
  have b_ := bx_bds_sat hs_
  have f_ := bx_fcl_ok hs_.1 hf_
  obtain ⟨⟨l8, u8⟩, -⟩ := b_
  have g := rxkRLCO_3 hP hin I0 hinv l8 u8
  have ea : List.map (bx_num r) [.inr (3, (0, 412)), .inr (3, (0, 542))] = [412, 542] := by
    simp only [List.map_cons, List.map_nil, bx_xv_ok hs_.1]
    rfl
  rw [ea]
  refine ⟨g.1, fun S_p w r_p hPS hX_p I1 hsm hr hw hs_p => ?_⟩
  have hw := hw _ rfl
  subst hw
  have b_p := hs_p.2.2 9 _ _ rfl
  have g2 := g.2 S_p (r_p 9) b_p.1 b_p.2 hPS I1 hsm
  show rxIRLCO_4 S0 ws S_p (r_p 8) (r_p 9) ∧ rxmRLCO_4 S0 ws S_p (r_p 8) (r_p 9) < _
  rw [hr 8 (by decide)]
  exact g2
theorem rxkRLCO_5 {S0 : Nat → Int → Int} {ws : List Int} {S : Nat → Int → Int} {ba sl : Int} (hP : rxPRLCO S0 ws) (hin : bx_same rxL (bx_mdl rxCRLCO.2.2.1) S0 S) (I0 : bx_Inv rxL S) (hinv : rxIRLCO_5 S0 ws S ba sl) (l8 : 0 ≤ ba) (u8 : ba ≤ 1) (l9 : 0 ≤ sl) (u9 : sl ≤ 1) : rxPIWX S [412, 530] ∧ ∀ (S_p : Nat → Int → Int) (r : Int), 0 ≤ r → r ≤ 1 → rxPSIWX S [412, 530] S_p (some r) → bx_Inv rxL S_p → bx_same rxL (bx_mdl rxC59.2.2.1) S S_p → rxIRLCO_6 S0 ws S_p ba sl r ∧ rxmRLCO_6 S0 ws S_p ba sl r < rxmRLCO_5 S0 ws S ba sl := by
  obtain ⟨hI, hx⟩ := hinv
  have g_ := rxkRLCK_5 hP hin I0 hI l8 u8 l9 u9
  exact ⟨g_.1, fun S_p r l_ u_ hq I1 hsm => ⟨⟨(g_.2 S_p r l_ u_ hq I1 hsm).1, (by
    intro hp
    exact rkPO_sm hsm (by decide +kernel) (hx hp))⟩, (g_.2 S_p r l_ u_ hq I1 hsm).2⟩⟩
theorem rxsRLCO_5 {X : (Nat → Int → Int) → Prop} {S0 : Nat → Int → Int} {ws : List Int} (hP : rxPRLCO S0 ws) : rx_obK X S0 rxCRLCO.2.2.1 rxC59.2.2.1 (rxIRLCO S0 ws) (rxmRLCO S0 ws) 5 6 rxzRLCO_5 rxzRLCO_6 [.inr (3, (0, 412)), .inr (3, (0, 530))] (some 10) rxPIWX rxPSIWX := by
  intro S r hinv hXS I0 hin hs_ hf_
  have b_ := bx_bds_sat hs_
  have f_ := bx_fcl_ok hs_.1 hf_
  obtain ⟨⟨l8, u8⟩, ⟨l9, u9⟩, -⟩ := b_
  have g := rxkRLCO_5 hP hin I0 hinv l8 u8 l9 u9
  have ea : List.map (bx_num r) [.inr (3, (0, 412)), .inr (3, (0, 530))] = [412, 530] := by
    simp only [List.map_cons, List.map_nil, bx_xv_ok hs_.1]
    rfl
  rw [ea]
  refine ⟨g.1, fun S_p w r_p hPS hX_p I1 hsm hr hw hs_p => ?_⟩
  have hw := hw _ rfl
  subst hw
  have b_p := hs_p.2.2 10 _ _ rfl
  have g2 := g.2 S_p (r_p 10) b_p.1 b_p.2 hPS I1 hsm
  show rxIRLCO_6 S0 ws S_p (r_p 8) (r_p 9) (r_p 10) ∧ rxmRLCO_6 S0 ws S_p (r_p 8) (r_p 9) (r_p 10) < _
  rw [hr 8 (by decide), hr 9 (by decide)]
  exact g2
theorem rxkRLCO_7 {S0 : Nat → Int → Int} {ws : List Int} {S : Nat → Int → Int} {ba sl : Int} (hP : rxPRLCO S0 ws) (hin : bx_same rxL (bx_mdl rxCRLCO.2.2.1) S0 S) (I0 : bx_Inv rxL S) (hinv : rxIRLCO_7 S0 ws S ba sl) (l8 : 0 ≤ ba) (u8 : ba ≤ 1) (l9 : 0 ≤ sl) (u9 : sl ≤ 1) : rxPAD S [412] ∧ ∀ (S_p : Nat → Int → Int), rxPSAD S [412] S_p none → bx_Inv rxL S_p → bx_same rxL (bx_mdl rxC84.2.2.1) S S_p → rxIRLCO_8 S0 ws S_p ba sl ∧ rxmRLCO_8 S0 ws S_p ba sl < rxmRLCO_7 S0 ws S ba sl := by
  obtain ⟨hI, hx⟩ := hinv
  have g_ := rxkRLCK_7 hP hin I0 hI l8 u8 l9 u9
  exact ⟨g_.1, fun S_p hq I1 hsm => ⟨⟨(g_.2 S_p hq I1 hsm).1, (by
    intro hp
    exact rkPO_sm hsm (by decide +kernel) (hx hp))⟩, (g_.2 S_p hq I1 hsm).2⟩⟩
theorem rxsRLCO_7 {X : (Nat → Int → Int) → Prop} {S0 : Nat → Int → Int} {ws : List Int} (hP : rxPRLCO S0 ws) : rx_obK X S0 rxCRLCO.2.2.1 rxC84.2.2.1 (rxIRLCO S0 ws) (rxmRLCO S0 ws) 7 8 rxzRLCO_7 rxzRLCO_8 [.inr (3, (0, 412))] none rxPAD rxPSAD := by
  intro S r hinv hXS I0 hin hs_ hf_
  have b_ := bx_bds_sat hs_
  have f_ := bx_fcl_ok hs_.1 hf_
  obtain ⟨⟨l8, u8⟩, ⟨l9, u9⟩, -⟩ := b_
  have g := rxkRLCO_7 hP hin I0 hinv l8 u8 l9 u9
  have ea : List.map (bx_num r) [.inr (3, (0, 412))] = [412] := by
    simp only [List.map_cons, List.map_nil, bx_xv_ok hs_.1]
    rfl
  rw [ea]
  refine ⟨g.1, fun S_p w r_p hPS hX_p I1 hsm hr hw hs_p => ?_⟩
  have hw : w = none := hPS.1
  subst hw
  have g2 := g.2 S_p hPS I1 hsm
  show rxIRLCO_8 S0 ws S_p (r_p 8) (r_p 9) ∧ rxmRLCO_8 S0 ws S_p (r_p 8) (r_p 9) < _
  rw [hr 8 (by decide), hr 9 (by decide)]
  exact g2
theorem rxkRLCO_9 {S0 : Nat → Int → Int} {ws : List Int} {S : Nat → Int → Int} {ba sl ki : Int} (hP : rxPRLCO S0 ws) (hin : bx_same rxL (bx_mdl rxCRLCO.2.2.1) S0 S) (I0 : bx_Inv rxL S) (hinv : rxIRLCO_9 S0 ws S ba sl ki) (l8 : 0 ≤ ba) (u8 : ba ≤ 1) (l9 : 0 ≤ sl) (u9 : sl ≤ 1) (l10 : 0 ≤ ki) (u10 : ki ≤ 4) : rxPOCO S [427, ki, (-1), (-1)] ∧ ∀ (S_p : Nat → Int → Int), rxPSOCO S [427, ki, (-1), (-1)] S_p none → bx_Inv rxL S_p → bx_same rxL (bx_mdl rxCOCO.2.2.1) S S_p → rxIRLCO_10 S0 ws S_p ba sl ki ∧ rxmRLCO_10 S0 ws S_p ba sl ki < rxmRLCO_9 S0 ws S ba sl ki := by
  obtain ⟨hI, hx⟩ := hinv
  have g_ := rxkRLCK_9 hP hin I0 hI l8 u8 l9 u9 l10 u10
  exact ⟨g_.1, fun S_p hq I1 hsm => ⟨⟨(g_.2 S_p hq.2.1 I1 hsm).1, (by
    intro hp
    have g := hx hp
    obtain ⟨pg, ki2, st2, cu2, hw2, q⟩ := hq.2.2
    have e1 : (427 : Int) = pg := Option.some.inj (congrArg (fun l : List Int => l[0]?) hw2)
    subst e1
    exact g.tr (q rfl g.1))⟩, (g_.2 S_p hq.2.1 I1 hsm).2⟩⟩
theorem rxsRLCO_9 {X : (Nat → Int → Int) → Prop} {S0 : Nat → Int → Int} {ws : List Int} (hP : rxPRLCO S0 ws) : rx_obK X S0 rxCRLCO.2.2.1 rxCOCO.2.2.1 (rxIRLCO S0 ws) (rxmRLCO S0 ws) 9 10 rxzRLCO_9 rxzRLCO_10 [.inr (3, (0, 427)), .inr (0, (10, 0)), .inr (0, (0, (-1))), .inr (0, (0, (-1)))] none rxPOCO rxPSOCO := by
  intro S r hinv hXS I0 hin hs_ hf_
  have b_ := bx_bds_sat hs_
  have f_ := bx_fcl_ok hs_.1 hf_
  obtain ⟨⟨l8, u8⟩, ⟨l9, u9⟩, ⟨l10, u10⟩, -⟩ := b_
  have g := rxkRLCO_9 hP hin I0 hinv l8 u8 l9 u9 l10 u10
  have ea : List.map (bx_num r) [.inr (3, (0, 427)), .inr (0, (10, 0)), .inr (0, (0, (-1))), .inr (0, (0, (-1)))] = [427, (r 10), -1, -1] := by
    simp only [List.map_cons, List.map_nil, bx_xv_ok hs_.1]
    rfl
  rw [ea]
  refine ⟨g.1, fun S_p w r_p hPS hX_p I1 hsm hr hw hs_p => ?_⟩
  have hw : w = none := hPS.1
  subst hw
  have g2 := g.2 S_p hPS I1 hsm
  show rxIRLCO_10 S0 ws S_p (r_p 8) (r_p 9) (r_p 10) ∧ rxmRLCO_10 S0 ws S_p (r_p 8) (r_p 9) (r_p 10) < _
  rw [hr 8 (by decide), hr 9 (by decide), hr 10 (by decide)]
  exact g2
theorem rxkRLCO_11 {S0 : Nat → Int → Int} {ws : List Int} {S : Nat → Int → Int} {ba sl sa : Int} (hP : rxPRLCO S0 ws) (hin : bx_same rxL (bx_mdl rxCRLCO.2.2.1) S0 S) (I0 : bx_Inv rxL S) (hinv : rxIRLCO_11 S0 ws S ba sl sa) (l8 : 0 ≤ ba) (u8 : ba ≤ 1) (l9 : 0 ≤ sl) (u9 : sl ≤ 1) (l10 : 0 ≤ sa) (u10 : sa ≤ 1522) : rxPREDO S [412, sa, 0] ∧ ∀ (S_p : Nat → Int → Int) (res : Int), 0 ≤ res → res ≤ 1 → rxPSREDO S [412, sa, 0] S_p (some res) → bx_Inv rxL S_p → bx_same rxL (bx_mdl rxCREDO.2.2.1) S S_p → rxIRLCO_12 S0 ws S_p ba sl sa res ∧ rxmRLCO_12 S0 ws S_p ba sl sa res < rxmRLCO_11 S0 ws S ba sl sa := by
  obtain ⟨hI, hx⟩ := hinv
  have g_ := rxkRLCK_11 hP hin I0 hI l8 u8 l9 u9 l10 u10
  exact ⟨g_.1, fun S_p res l_ u_ hq I1 hsm => ⟨⟨(g_.2 S_p res l_ u_ hq.1 I1 hsm).1, (by
    intro hp
    have g := hx hp
    exact g.tr (hq.2 sa 0 rfl (Or.inl (hI.2.1 hp).2) g.1))⟩, (g_.2 S_p res l_ u_ hq.1 I1 hsm).2⟩⟩
theorem rxsRLCO_11 {X : (Nat → Int → Int) → Prop} {S0 : Nat → Int → Int} {ws : List Int} (hP : rxPRLCO S0 ws) : rx_obK X S0 rxCRLCO.2.2.1 rxCREDO.2.2.1 (rxIRLCO S0 ws) (rxmRLCO S0 ws) 11 12 rxzRLCO_11 rxzRLCO_12 [.inr (3, (0, 412)), .inr (3, (10, 0)), .inr (0, (0, 0))] (some 11) rxPREDO rxPSREDO := by
  intro S r hinv hXS I0 hin hs_ hf_
  have b_ := bx_bds_sat hs_
  have f_ := bx_fcl_ok hs_.1 hf_
  obtain ⟨⟨l8, u8⟩, ⟨l9, u9⟩, ⟨l10, u10⟩, -⟩ := b_
  have g := rxkRLCO_11 hP hin I0 hinv l8 u8 l9 u9 l10 u10
  have ea : List.map (bx_num r) [.inr (3, (0, 412)), .inr (3, (10, 0)), .inr (0, (0, 0))] = [412, (r 10), 0] := by
    simp only [List.map_cons, List.map_nil, bx_xv_ok hs_.1]
    rfl
  rw [ea]
  refine ⟨g.1, fun S_p w r_p hPS hX_p I1 hsm hr hw hs_p => ?_⟩
  have hw := hw _ rfl
  subst hw
  have b_p := hs_p.2.2 11 _ _ rfl
  have g2 := g.2 S_p (r_p 11) b_p.1 b_p.2 hPS I1 hsm
  show rxIRLCO_12 S0 ws S_p (r_p 8) (r_p 9) (r_p 10) (r_p 11) ∧ rxmRLCO_12 S0 ws S_p (r_p 8) (r_p 9) (r_p 10) (r_p 11) < _
  rw [hr 8 (by decide), hr 9 (by decide), hr 10 (by decide)]
  exact g2
theorem rxcRLCO_0_0 {S0 : Nat → Int → Int} {ws : List Int} {S : Nat → Int → Int} (hP : rxPRLCO S0 ws) (hin : bx_same rxL (bx_mdl rxCRLCO.2.2.1) S0 S) (I0 : bx_Inv rxL S) (hinv : rxIRLCO_0 S0 ws S)  : (True) ∧ (True) ∧ rxIRLCO_1 S0 ws S ∧ rxmRLCO_1 S0 ws S < rxmRLCO_0 S0 ws S := by
  obtain ⟨hI, hx⟩ := hinv
  obtain ⟨a_, b_, c_, d_⟩ := rxcRLCK_0_0 hP hin I0 hI
  exact ⟨a_, b_, ⟨c_, (by
    have e := hI.1.1
    subst e
    intro hp
    exact (rkPO_rf hp.1))⟩, d_⟩
theorem rxgRLCO_0_0 {X : (Nat → Int → Int) → Prop} {S0 : Nat → Int → Int} {ws : List Int} (hP : rxPRLCO S0 ws) : bx_obC rxL X S0 rxCRLCO.2.2.1 (rxIRLCO S0 ws) (rxmRLCO S0 ws) 0 rxzRLCO_0 rxoRLCO_0_0 := by
  intro S S_p r r_p hinv hX hin hsm_ hseg
  obtain ⟨I0, I1, h0_, hr_, b_, f_, d_⟩ := bx_cl (evs := []) (fvs := []) hseg (by decide +kernel) (by decide +kernel)
  have hinv : rxIRLCO_0 S0 ws S := hinv
  have w_ := d_
  subst w_
  have g := rxcRLCO_0_0 hP hin I0 hinv 
  refine ⟨bx_narP_ok (l := []) g.1, bx_nfP_ok h0_ (fvs := []) (by decide +kernel) g.2.1, ?_, ?_⟩
  · show rxIRLCO_1 S0 ws S_p
    exact g.2.2.1
  · show rxmRLCO_1 S0 ws S_p < rxmRLCO_0 S0 ws S_p
    exact g.2.2.2
theorem rxcRLCO_2_0 {S0 : Nat → Int → Int} {ws : List Int} {S : Nat → Int → Int} {r : Int} (hP : rxPRLCO S0 ws) (hin : bx_same rxL (bx_mdl rxCRLCO.2.2.1) S0 S) (I0 : bx_Inv rxL S) (hinv : rxIRLCO_2 S0 ws S r) (l8 : 0 ≤ r) (u8 : r ≤ 1) : (True) ∧ (True) ∧ rxIRLCO_3 S0 ws S r ∧ rxmRLCO_3 S0 ws S r < rxmRLCO_2 S0 ws S r := by
  obtain ⟨hI, hx⟩ := hinv
  obtain ⟨a_, b_, c_, d_⟩ := rxcRLCK_2_0 hP hin I0 hI l8 u8
  exact ⟨a_, b_, ⟨c_, hx⟩, d_⟩
theorem rxgRLCO_2_0 {X : (Nat → Int → Int) → Prop} {S0 : Nat → Int → Int} {ws : List Int} (hP : rxPRLCO S0 ws) : bx_obC rxL X S0 rxCRLCO.2.2.1 (rxIRLCO S0 ws) (rxmRLCO S0 ws) 2 rxzRLCO_2 rxoRLCO_2_0 := by
  intro S S_p r r_p hinv hX hin hsm_ hseg
  obtain ⟨I0, I1, h0_, hr_, b_, f_, d_⟩ := bx_cl (evs := []) (fvs := []) hseg (by decide +kernel) (by decide +kernel)
  have hinv : rxIRLCO_2 S0 ws S (r 8) := hinv
  rw [← hr_ 8 (by decide)] at hinv
  obtain ⟨⟨l8, u8⟩, -⟩ := b_
  have w_ := d_
  subst w_
  have g := rxcRLCO_2_0 hP hin I0 hinv l8 u8
  refine ⟨bx_narP_ok (l := []) g.1, bx_nfP_ok h0_ (fvs := []) (by decide +kernel) g.2.1, ?_, ?_⟩
  · show rxIRLCO_3 S0 ws S_p (bx_val [(0, 0), (0, 0), (0, 0), (0, 0), (0, 0), (0, 0), (0, 0), (0, 0), (8, 0)] r_p 8)
    rw [bx_val_x (n := 8) (e := (8, 0)) h0_ rfl]
    exact g.2.2.1
  · show rxmRLCO_3 S0 ws S_p (bx_val [(0, 0), (0, 0), (0, 0), (0, 0), (0, 0), (0, 0), (0, 0), (0, 0), (8, 0)] r_p 8) < rxmRLCO_2 S0 ws S_p (r 8)
    rw [bx_val_x (n := 8) (e := (8, 0)) h0_ rfl, ← hr_ 8 (by decide)]
    exact g.2.2.2
theorem rxcRLCO_4_0 {S0 : Nat → Int → Int} {ws : List Int} {S : Nat → Int → Int} {ba r : Int} (hP : rxPRLCO S0 ws) (hin : bx_same rxL (bx_mdl rxCRLCO.2.2.1) S0 S) (I0 : bx_Inv rxL S) (hinv : rxIRLCO_4 S0 ws S ba r) (l8 : 0 ≤ ba) (u8 : ba ≤ 0) (l9 : 0 ≤ r) (u9 : r ≤ 0) : (True) ∧ (True) ∧ rxIRLCO_5 S0 ws S ba r ∧ rxmRLCO_5 S0 ws S ba r < rxmRLCO_4 S0 ws S ba r := by
  obtain ⟨hI, hx⟩ := hinv
  obtain ⟨a_, b_, c_, d_⟩ := rxcRLCK_4_0 hP hin I0 hI l8 u8 l9 u9
  exact ⟨a_, b_, ⟨c_, hx⟩, d_⟩
theorem rxgRLCO_4_0 {X : (Nat → Int → Int) → Prop} {S0 : Nat → Int → Int} {ws : List Int} (hP : rxPRLCO S0 ws) : bx_obC rxL X S0 rxCRLCO.2.2.1 (rxIRLCO S0 ws) (rxmRLCO S0 ws) 4 rxzRLCO_4 rxoRLCO_4_0 := by
  intro S S_p r r_p hinv hX hin hsm_ hseg
  obtain ⟨I0, I1, h0_, hr_, b_, f_, d_⟩ := bx_cl (evs := []) (fvs := []) hseg (by decide +kernel) (by decide +kernel)
  have hinv : rxIRLCO_4 S0 ws S (r 8) (r 9) := hinv
  rw [← hr_ 8 (by decide), ← hr_ 9 (by decide)] at hinv
  obtain ⟨⟨l8, u8⟩, ⟨l9, u9⟩, -⟩ := b_
  have w_ := d_
  subst w_
  have g := rxcRLCO_4_0 hP hin I0 hinv l8 u8 l9 u9
  refine ⟨bx_narP_ok (l := []) g.1, bx_nfP_ok h0_ (fvs := []) (by decide +kernel) g.2.1, ?_, ?_⟩
  · show rxIRLCO_5 S0 ws S_p (bx_val [(0, 0), (0, 0), (0, 0), (0, 0), (0, 0), (0, 0), (0, 0), (0, 0), (8, 0), (9, 0)] r_p 8) (bx_val [(0, 0), (0, 0), (0, 0), (0, 0), (0, 0), (0, 0), (0, 0), (0, 0), (8, 0), (9, 0)] r_p 9)
    rw [bx_val_x (n := 8) (e := (8, 0)) h0_ rfl, bx_val_x (n := 9) (e := (9, 0)) h0_ rfl]
    exact g.2.2.1
  · show rxmRLCO_5 S0 ws S_p (bx_val [(0, 0), (0, 0), (0, 0), (0, 0), (0, 0), (0, 0), (0, 0), (0, 0), (8, 0), (9, 0)] r_p 8) (bx_val [(0, 0), (0, 0), (0, 0), (0, 0), (0, 0), (0, 0), (0, 0), (0, 0), (8, 0), (9, 0)] r_p 9) < rxmRLCO_4 S0 ws S_p (r 8) (r 9)
    rw [bx_val_x (n := 8) (e := (8, 0)) h0_ rfl, bx_val_x (n := 9) (e := (9, 0)) h0_ rfl, ← hr_ 8 (by decide), ← hr_ 9 (by decide)]
    exact g.2.2.2
theorem rxcRLCO_4_1 {S0 : Nat → Int → Int} {ws : List Int} {S : Nat → Int → Int} {ba r : Int} (hP : rxPRLCO S0 ws) (hin : bx_same rxL (bx_mdl rxCRLCO.2.2.1) S0 S) (I0 : bx_Inv rxL S) (hinv : rxIRLCO_4 S0 ws S ba r) (l8 : 0 ≤ ba) (u8 : ba ≤ 0) (l9 : 1 ≤ r) (u9 : r ≤ 1) (f0 : r ≠ 0) : (True) ∧ (True) ∧ rxIRLCO_7 S0 ws S ba r ∧ rxmRLCO_7 S0 ws S ba r < rxmRLCO_4 S0 ws S ba r := by
  obtain ⟨hI, hx⟩ := hinv
  obtain ⟨a_, b_, c_, d_⟩ := rxcRLCK_4_1 hP hin I0 hI l8 u8 l9 u9 f0
  exact ⟨a_, b_, ⟨c_, hx⟩, d_⟩
theorem rxgRLCO_4_1 {X : (Nat → Int → Int) → Prop} {S0 : Nat → Int → Int} {ws : List Int} (hP : rxPRLCO S0 ws) : bx_obC rxL X S0 rxCRLCO.2.2.1 (rxIRLCO S0 ws) (rxmRLCO S0 ws) 4 rxzRLCO_4 rxoRLCO_4_1 := by
  intro S S_p r r_p hinv hX hin hsm_ hseg
  obtain ⟨I0, I1, h0_, hr_, b_, f_, d_⟩ := bx_cl (evs := []) (fvs := [(3, (9, 0), (0, 0), (0, 0))]) hseg (by decide +kernel) (by decide +kernel)
  have hinv : rxIRLCO_4 S0 ws S (r 8) (r 9) := hinv
  rw [← hr_ 8 (by decide), ← hr_ 9 (by decide)] at hinv
  obtain ⟨⟨l8, u8⟩, ⟨l9, u9⟩, -⟩ := b_
  obtain ⟨f0, -⟩ := f_
  have w_ := d_
  subst w_
  have g := rxcRLCO_4_1 hP hin I0 hinv l8 u8 l9 u9 f0
  refine ⟨bx_narP_ok (l := []) g.1, bx_nfP_ok h0_ (fvs := []) (by decide +kernel) g.2.1, ?_, ?_⟩
  · show rxIRLCO_7 S0 ws S_p (bx_val [(0, 0), (0, 0), (0, 0), (0, 0), (0, 0), (0, 0), (0, 0), (0, 0), (8, 0), (9, 0)] r_p 8) (bx_val [(0, 0), (0, 0), (0, 0), (0, 0), (0, 0), (0, 0), (0, 0), (0, 0), (8, 0), (9, 0)] r_p 9)
    rw [bx_val_x (n := 8) (e := (8, 0)) h0_ rfl, bx_val_x (n := 9) (e := (9, 0)) h0_ rfl]
    exact g.2.2.1
  · show rxmRLCO_7 S0 ws S_p (bx_val [(0, 0), (0, 0), (0, 0), (0, 0), (0, 0), (0, 0), (0, 0), (0, 0), (8, 0), (9, 0)] r_p 8) (bx_val [(0, 0), (0, 0), (0, 0), (0, 0), (0, 0), (0, 0), (0, 0), (0, 0), (8, 0), (9, 0)] r_p 9) < rxmRLCO_4 S0 ws S_p (r 8) (r 9)
    rw [bx_val_x (n := 8) (e := (8, 0)) h0_ rfl, bx_val_x (n := 9) (e := (9, 0)) h0_ rfl, ← hr_ 8 (by decide), ← hr_ 9 (by decide)]
    exact g.2.2.2
theorem rxcRLCO_4_2 {S0 : Nat → Int → Int} {ws : List Int} {S : Nat → Int → Int} {ba r : Int} (hP : rxPRLCO S0 ws) (hin : bx_same rxL (bx_mdl rxCRLCO.2.2.1) S0 S) (I0 : bx_Inv rxL S) (hinv : rxIRLCO_4 S0 ws S ba r) (l8 : 1 ≤ ba) (u8 : ba ≤ 1) (l9 : 0 ≤ r) (u9 : r ≤ 1) (f0 : ba ≠ 0) : (True) ∧ (True) ∧ rxIRLCO_7 S0 ws S ba r ∧ rxmRLCO_7 S0 ws S ba r < rxmRLCO_4 S0 ws S ba r := by
  obtain ⟨hI, hx⟩ := hinv
  obtain ⟨a_, b_, c_, d_⟩ := rxcRLCK_4_2 hP hin I0 hI l8 u8 l9 u9 f0
  exact ⟨a_, b_, ⟨c_, hx⟩, d_⟩
theorem rxgRLCO_4_2 {X : (Nat → Int → Int) → Prop} {S0 : Nat → Int → Int} {ws : List Int} (hP : rxPRLCO S0 ws) : bx_obC rxL X S0 rxCRLCO.2.2.1 (rxIRLCO S0 ws) (rxmRLCO S0 ws) 4 rxzRLCO_4 rxoRLCO_4_2 := by
  intro S S_p r r_p hinv hX hin hsm_ hseg
  obtain ⟨I0, I1, h0_, hr_, b_, f_, d_⟩ := bx_cl (evs := []) (fvs := [(3, (8, 0), (0, 0), (0, 0))]) hseg (by decide +kernel) (by decide +kernel)
  have hinv : rxIRLCO_4 S0 ws S (r 8) (r 9) := hinv
  rw [← hr_ 8 (by decide), ← hr_ 9 (by decide)] at hinv
  obtain ⟨⟨l8, u8⟩, ⟨l9, u9⟩, -⟩ := b_
  obtain ⟨f0, -⟩ := f_
  have w_ := d_
  subst w_
  have g := rxcRLCO_4_2 hP hin I0 hinv l8 u8 l9 u9 f0
  refine ⟨bx_narP_ok (l := []) g.1, bx_nfP_ok h0_ (fvs := []) (by decide +kernel) g.2.1, ?_, ?_⟩
  · show rxIRLCO_7 S0 ws S_p (bx_val [(0, 0), (0, 0), (0, 0), (0, 0), (0, 0), (0, 0), (0, 0), (0, 0), (8, 0), (9, 0)] r_p 8) (bx_val [(0, 0), (0, 0), (0, 0), (0, 0), (0, 0), (0, 0), (0, 0), (0, 0), (8, 0), (9, 0)] r_p 9)
    rw [bx_val_x (n := 8) (e := (8, 0)) h0_ rfl, bx_val_x (n := 9) (e := (9, 0)) h0_ rfl]
    exact g.2.2.1
  · show rxmRLCO_7 S0 ws S_p (bx_val [(0, 0), (0, 0), (0, 0), (0, 0), (0, 0), (0, 0), (0, 0), (0, 0), (8, 0), (9, 0)] r_p 8) (bx_val [(0, 0), (0, 0), (0, 0), (0, 0), (0, 0), (0, 0), (0, 0), (0, 0), (8, 0), (9, 0)] r_p 9) < rxmRLCO_4 S0 ws S_p (r 8) (r 9)
    rw [bx_val_x (n := 8) (e := (8, 0)) h0_ rfl, bx_val_x (n := 9) (e := (9, 0)) h0_ rfl, ← hr_ 8 (by decide), ← hr_ 9 (by decide)]
    exact g.2.2.2
theorem rxcRLCO_6_0 {S0 : Nat → Int → Int} {ws : List Int} {S : Nat → Int → Int} {ba sl r : Int} (hP : rxPRLCO S0 ws) (hin : bx_same rxL (bx_mdl rxCRLCO.2.2.1) S0 S) (I0 : bx_Inv rxL S) (hinv : rxIRLCO_6 S0 ws S ba sl r) (l8 : 0 ≤ ba) (u8 : ba ≤ 1) (l9 : 0 ≤ sl) (u9 : sl ≤ 1) (l10 : 1 ≤ r) (u10 : r ≤ 1) (f0 : r ≠ 0) : (True) ∧ (True) ∧ rxIRLCO_7 S0 ws S ba sl ∧ rxmRLCO_7 S0 ws S ba sl < rxmRLCO_6 S0 ws S ba sl r := by
  obtain ⟨hI, hx⟩ := hinv
  obtain ⟨a_, b_, c_, d_⟩ := rxcRLCK_6_0 hP hin I0 hI l8 u8 l9 u9 l10 u10 f0
  exact ⟨a_, b_, ⟨c_, hx⟩, d_⟩
theorem rxgRLCO_6_0 {X : (Nat → Int → Int) → Prop} {S0 : Nat → Int → Int} {ws : List Int} (hP : rxPRLCO S0 ws) : bx_obC rxL X S0 rxCRLCO.2.2.1 (rxIRLCO S0 ws) (rxmRLCO S0 ws) 6 rxzRLCO_6 rxoRLCO_6_0 := by
  intro S S_p r r_p hinv hX hin hsm_ hseg
  obtain ⟨I0, I1, h0_, hr_, b_, f_, d_⟩ := bx_cl (evs := []) (fvs := [(3, (10, 0), (0, 0), (0, 0))]) hseg (by decide +kernel) (by decide +kernel)
  have hinv : rxIRLCO_6 S0 ws S (r 8) (r 9) (r 10) := hinv
  rw [← hr_ 8 (by decide), ← hr_ 9 (by decide), ← hr_ 10 (by decide)] at hinv
  obtain ⟨⟨l8, u8⟩, ⟨l9, u9⟩, ⟨l10, u10⟩, -⟩ := b_
  obtain ⟨f0, -⟩ := f_
  have w_ := d_
  subst w_
  have g := rxcRLCO_6_0 hP hin I0 hinv l8 u8 l9 u9 l10 u10 f0
  refine ⟨bx_narP_ok (l := []) g.1, bx_nfP_ok h0_ (fvs := []) (by decide +kernel) g.2.1, ?_, ?_⟩
  · show rxIRLCO_7 S0 ws S_p (bx_val [(0, 0), (0, 0), (0, 0), (0, 0), (0, 0), (0, 0), (0, 0), (0, 0), (8, 0), (9, 0)] r_p 8) (bx_val [(0, 0), (0, 0), (0, 0), (0, 0), (0, 0), (0, 0), (0, 0), (0, 0), (8, 0), (9, 0)] r_p 9)
    rw [bx_val_x (n := 8) (e := (8, 0)) h0_ rfl, bx_val_x (n := 9) (e := (9, 0)) h0_ rfl]
    exact g.2.2.1
  · show rxmRLCO_7 S0 ws S_p (bx_val [(0, 0), (0, 0), (0, 0), (0, 0), (0, 0), (0, 0), (0, 0), (0, 0), (8, 0), (9, 0)] r_p 8) (bx_val [(0, 0), (0, 0), (0, 0), (0, 0), (0, 0), (0, 0), (0, 0), (0, 0), (8, 0), (9, 0)] r_p 9) < rxmRLCO_6 S0 ws S_p (r 8) (r 9) (r 10)
    rw [bx_val_x (n := 8) (e := (8, 0)) h0_ rfl, bx_val_x (n := 9) (e := (9, 0)) h0_ rfl, ← hr_ 8 (by decide), ← hr_ 9 (by decide), ← hr_ 10 (by decide)]
    exact g.2.2.2
theorem rxdRLCO_6_0 {S0 : Nat → Int → Int} {ws : List Int} {S : Nat → Int → Int} {ba sl r x11 : Int} (hP : rxPRLCO S0 ws) (hin : bx_same rxL (bx_mdl rxCRLCO.2.2.1) S0 S) (hin2 : bx_same rxL (bx_mdl rxCRLCO.2.2.1) S (bx_up S 412 4 x11)) (I0 : bx_Inv rxL S) (I1 : bx_Inv rxL (bx_up S 412 4 x11)) (hinv : rxIRLCO_6 S0 ws S ba sl r) (l8 : 0 ≤ ba) (u8 : ba ≤ 1) (l9 : 0 ≤ sl) (u9 : sl ≤ 1) (l10 : 0 ≤ r) (u10 : r ≤ 0) (l11 : 0 ≤ x11) (u11 : x11 ≤ 400) (e1 : S 412 2 = x11) : (True) ∧ rxPSRLCO S0 ws (bx_up S 412 4 x11) (some 0) := by
  obtain ⟨hI, hx⟩ := hinv
  obtain ⟨a_, c_⟩ := rxdRLCK_6_0 hP hin hin2 I0 I1 hI l8 u8 l9 u9 l10 u10 l11 u11 e1
  exact ⟨a_, c_, (by
    intro hp
    exact (rkPO_up (q := 412) (by decide +kernel) (fun g => absurd g.1 (by decide)) (hx hp)))⟩
theorem rxfRLCO_6_0 {X : (Nat → Int → Int) → Prop} {S0 : Nat → Int → Int} {ws : List Int} (hP : rxPRLCO S0 ws) : bx_obE rxL X S0 rxCRLCO.2.2.1 (rxIRLCO S0 ws) (rxPSRLCO S0 ws) 6 rxzRLCO_6 rxeRLCO_6_0 := by
  intro S S_p r r_p hinv hX hin hsm_ hseg
  obtain ⟨I0, I1, h0_, hr_, b_, f_, d_⟩ := bx_cl (evs := [(1, (0, 412), (0, 4), .inr (0, (11, 0))), (0, (0, 412), (0, 2), .inr (0, (11, 0)))]) (fvs := []) hseg (by decide +kernel) (by decide +kernel)
  have hinv : rxIRLCO_6 S0 ws S (r 8) (r 9) (r 10) := hinv
  rw [← hr_ 8 (by decide), ← hr_ 9 (by decide), ← hr_ 10 (by decide)] at hinv
  obtain ⟨⟨l8, u8⟩, ⟨l9, u9⟩, ⟨l10, u10⟩, ⟨l11, u11⟩, -⟩ := b_
  obtain ⟨T0, ⟨e1, w_⟩, w0⟩ := d_
  subst w0
  subst w_
  have g := rxdRLCO_6_0 hP hin hsm_ I0 I1 hinv l8 u8 l9 u9 l10 u10 l11 u11 e1
  refine ⟨bx_narP_ok (l := []) g.1, ?_⟩
  show rxPSRLCO S0 ws (bx_up T0 412 (4) (r_p 11)) (some (bx_num r_p (.inr (0, (0, 0)))))
  rw [bx_xv_ok h0_]
  exact g.2
theorem rxcRLCO_8_0 {S0 : Nat → Int → Int} {ws : List Int} {S : Nat → Int → Int} {ba sl : Int} (hP : rxPRLCO S0 ws) (hin : bx_same rxL (bx_mdl rxCRLCO.2.2.1) S0 S) (I0 : bx_Inv rxL S) (hinv : rxIRLCO_8 S0 ws S ba sl) (l8 : 1 ≤ ba) (u8 : ba ≤ 1) (l9 : 0 ≤ sl) (u9 : sl ≤ 1) (f0 : ba ≠ 0) : (True) ∧ (True) ∧ rxIRLCO_9 S0 ws S ba sl 2 ∧ rxmRLCO_9 S0 ws S ba sl 2 < rxmRLCO_8 S0 ws S ba sl := by
  obtain ⟨hI, hx⟩ := hinv
  obtain ⟨a_, b_, c_, d_⟩ := rxcRLCK_8_0 hP hin I0 hI l8 u8 l9 u9 f0
  exact ⟨a_, b_, ⟨c_, hx⟩, d_⟩
theorem rxgRLCO_8_0 {X : (Nat → Int → Int) → Prop} {S0 : Nat → Int → Int} {ws : List Int} (hP : rxPRLCO S0 ws) : bx_obC rxL X S0 rxCRLCO.2.2.1 (rxIRLCO S0 ws) (rxmRLCO S0 ws) 8 rxzRLCO_8 rxoRLCO_8_0 := by
  intro S S_p r r_p hinv hX hin hsm_ hseg
  obtain ⟨I0, I1, h0_, hr_, b_, f_, d_⟩ := bx_cl (evs := []) (fvs := [(3, (8, 0), (0, 0), (0, 0))]) hseg (by decide +kernel) (by decide +kernel)
  have hinv : rxIRLCO_8 S0 ws S (r 8) (r 9) := hinv
  rw [← hr_ 8 (by decide), ← hr_ 9 (by decide)] at hinv
  obtain ⟨⟨l8, u8⟩, ⟨l9, u9⟩, -⟩ := b_
  obtain ⟨f0, -⟩ := f_
  have w_ := d_
  subst w_
  have g := rxcRLCO_8_0 hP hin I0 hinv l8 u8 l9 u9 f0
  refine ⟨bx_narP_ok (l := []) g.1, bx_nfP_ok h0_ (fvs := []) (by decide +kernel) g.2.1, ?_, ?_⟩
  · show rxIRLCO_9 S0 ws S_p (bx_val [(0, 0), (0, 0), (0, 0), (0, 0), (0, 0), (0, 0), (0, 0), (0, 0), (8, 0), (9, 0), (0, 2)] r_p 8) (bx_val [(0, 0), (0, 0), (0, 0), (0, 0), (0, 0), (0, 0), (0, 0), (0, 0), (8, 0), (9, 0), (0, 2)] r_p 9) (bx_val [(0, 0), (0, 0), (0, 0), (0, 0), (0, 0), (0, 0), (0, 0), (0, 0), (8, 0), (9, 0), (0, 2)] r_p 10)
    rw [bx_val_x (n := 8) (e := (8, 0)) h0_ rfl, bx_val_x (n := 9) (e := (9, 0)) h0_ rfl, bx_val_x (n := 10) (e := (0, 2)) h0_ rfl]
    exact g.2.2.1
  · show rxmRLCO_9 S0 ws S_p (bx_val [(0, 0), (0, 0), (0, 0), (0, 0), (0, 0), (0, 0), (0, 0), (0, 0), (8, 0), (9, 0), (0, 2)] r_p 8) (bx_val [(0, 0), (0, 0), (0, 0), (0, 0), (0, 0), (0, 0), (0, 0), (0, 0), (8, 0), (9, 0), (0, 2)] r_p 9) (bx_val [(0, 0), (0, 0), (0, 0), (0, 0), (0, 0), (0, 0), (0, 0), (0, 0), (8, 0), (9, 0), (0, 2)] r_p 10) < rxmRLCO_8 S0 ws S_p (r 8) (r 9)
    rw [bx_val_x (n := 8) (e := (8, 0)) h0_ rfl, bx_val_x (n := 9) (e := (9, 0)) h0_ rfl, bx_val_x (n := 10) (e := (0, 2)) h0_ rfl, ← hr_ 8 (by decide), ← hr_ 9 (by decide)]
    exact g.2.2.2
theorem rxcRLCO_8_1 {S0 : Nat → Int → Int} {ws : List Int} {S : Nat → Int → Int} {ba sl : Int} (hP : rxPRLCO S0 ws) (hin : bx_same rxL (bx_mdl rxCRLCO.2.2.1) S0 S) (I0 : bx_Inv rxL S) (hinv : rxIRLCO_8 S0 ws S ba sl) (l8 : 0 ≤ ba) (u8 : ba ≤ 0) (l9 : 1 ≤ sl) (u9 : sl ≤ 1) (f0 : sl ≠ 0) : (True) ∧ (True) ∧ rxIRLCO_9 S0 ws S ba sl 0 ∧ rxmRLCO_9 S0 ws S ba sl 0 < rxmRLCO_8 S0 ws S ba sl := by
  obtain ⟨hI, hx⟩ := hinv
  obtain ⟨a_, b_, c_, d_⟩ := rxcRLCK_8_1 hP hin I0 hI l8 u8 l9 u9 f0
  exact ⟨a_, b_, ⟨c_, hx⟩, d_⟩
theorem rxgRLCO_8_1 {X : (Nat → Int → Int) → Prop} {S0 : Nat → Int → Int} {ws : List Int} (hP : rxPRLCO S0 ws) : bx_obC rxL X S0 rxCRLCO.2.2.1 (rxIRLCO S0 ws) (rxmRLCO S0 ws) 8 rxzRLCO_8 rxoRLCO_8_1 := by
  intro S S_p r r_p hinv hX hin hsm_ hseg
  obtain ⟨I0, I1, h0_, hr_, b_, f_, d_⟩ := bx_cl (evs := []) (fvs := [(3, (9, 0), (0, 0), (0, 0))]) hseg (by decide +kernel) (by decide +kernel)
  have hinv : rxIRLCO_8 S0 ws S (r 8) (r 9) := hinv
  rw [← hr_ 8 (by decide), ← hr_ 9 (by decide)] at hinv
  obtain ⟨⟨l8, u8⟩, ⟨l9, u9⟩, -⟩ := b_
  obtain ⟨f0, -⟩ := f_
  have w_ := d_
  subst w_
  have g := rxcRLCO_8_1 hP hin I0 hinv l8 u8 l9 u9 f0
  refine ⟨bx_narP_ok (l := []) g.1, bx_nfP_ok h0_ (fvs := []) (by decide +kernel) g.2.1, ?_, ?_⟩
  · show rxIRLCO_9 S0 ws S_p (bx_val [(0, 0), (0, 0), (0, 0), (0, 0), (0, 0), (0, 0), (0, 0), (0, 0), (8, 0), (9, 0), (0, 0)] r_p 8) (bx_val [(0, 0), (0, 0), (0, 0), (0, 0), (0, 0), (0, 0), (0, 0), (0, 0), (8, 0), (9, 0), (0, 0)] r_p 9) (bx_val [(0, 0), (0, 0), (0, 0), (0, 0), (0, 0), (0, 0), (0, 0), (0, 0), (8, 0), (9, 0), (0, 0)] r_p 10)
    rw [bx_val_x (n := 8) (e := (8, 0)) h0_ rfl, bx_val_x (n := 9) (e := (9, 0)) h0_ rfl, bx_val_x (n := 10) (e := (0, 0)) h0_ rfl]
    exact g.2.2.1
  · show rxmRLCO_9 S0 ws S_p (bx_val [(0, 0), (0, 0), (0, 0), (0, 0), (0, 0), (0, 0), (0, 0), (0, 0), (8, 0), (9, 0), (0, 0)] r_p 8) (bx_val [(0, 0), (0, 0), (0, 0), (0, 0), (0, 0), (0, 0), (0, 0), (0, 0), (8, 0), (9, 0), (0, 0)] r_p 9) (bx_val [(0, 0), (0, 0), (0, 0), (0, 0), (0, 0), (0, 0), (0, 0), (0, 0), (8, 0), (9, 0), (0, 0)] r_p 10) < rxmRLCO_8 S0 ws S_p (r 8) (r 9)
    rw [bx_val_x (n := 8) (e := (8, 0)) h0_ rfl, bx_val_x (n := 9) (e := (9, 0)) h0_ rfl, bx_val_x (n := 10) (e := (0, 0)) h0_ rfl, ← hr_ 8 (by decide), ← hr_ 9 (by decide)]
    exact g.2.2.2
theorem rxcRLCO_8_2 {S0 : Nat → Int → Int} {ws : List Int} {S : Nat → Int → Int} {ba sl : Int} (hP : rxPRLCO S0 ws) (hin : bx_same rxL (bx_mdl rxCRLCO.2.2.1) S0 S) (I0 : bx_Inv rxL S) (hinv : rxIRLCO_8 S0 ws S ba sl) (l8 : 0 ≤ ba) (u8 : ba ≤ 0) (l9 : 0 ≤ sl) (u9 : sl ≤ 0) : (True) ∧ (True) ∧ rxIRLCO_9 S0 ws S ba sl 1 ∧ rxmRLCO_9 S0 ws S ba sl 1 < rxmRLCO_8 S0 ws S ba sl := by
  obtain ⟨hI, hx⟩ := hinv
  obtain ⟨a_, b_, c_, d_⟩ := rxcRLCK_8_2 hP hin I0 hI l8 u8 l9 u9
  exact ⟨a_, b_, ⟨c_, hx⟩, d_⟩
theorem rxgRLCO_8_2 {X : (Nat → Int → Int) → Prop} {S0 : Nat → Int → Int} {ws : List Int} (hP : rxPRLCO S0 ws) : bx_obC rxL X S0 rxCRLCO.2.2.1 (rxIRLCO S0 ws) (rxmRLCO S0 ws) 8 rxzRLCO_8 rxoRLCO_8_2 := by
  intro S S_p r r_p hinv hX hin hsm_ hseg
  obtain ⟨I0, I1, h0_, hr_, b_, f_, d_⟩ := bx_cl (evs := []) (fvs := []) hseg (by decide +kernel) (by decide +kernel)
  have hinv : rxIRLCO_8 S0 ws S (r 8) (r 9) := hinv
  rw [← hr_ 8 (by decide), ← hr_ 9 (by decide)] at hinv
  obtain ⟨⟨l8, u8⟩, ⟨l9, u9⟩, -⟩ := b_
  have w_ := d_
  subst w_
  have g := rxcRLCO_8_2 hP hin I0 hinv l8 u8 l9 u9
  refine ⟨bx_narP_ok (l := []) g.1, bx_nfP_ok h0_ (fvs := []) (by decide +kernel) g.2.1, ?_, ?_⟩
  · show rxIRLCO_9 S0 ws S_p (bx_val [(0, 0), (0, 0), (0, 0), (0, 0), (0, 0), (0, 0), (0, 0), (0, 0), (8, 0), (9, 0), (0, 1)] r_p 8) (bx_val [(0, 0), (0, 0), (0, 0), (0, 0), (0, 0), (0, 0), (0, 0), (0, 0), (8, 0), (9, 0), (0, 1)] r_p 9) (bx_val [(0, 0), (0, 0), (0, 0), (0, 0), (0, 0), (0, 0), (0, 0), (0, 0), (8, 0), (9, 0), (0, 1)] r_p 10)
    rw [bx_val_x (n := 8) (e := (8, 0)) h0_ rfl, bx_val_x (n := 9) (e := (9, 0)) h0_ rfl, bx_val_x (n := 10) (e := (0, 1)) h0_ rfl]
    exact g.2.2.1
  · show rxmRLCO_9 S0 ws S_p (bx_val [(0, 0), (0, 0), (0, 0), (0, 0), (0, 0), (0, 0), (0, 0), (0, 0), (8, 0), (9, 0), (0, 1)] r_p 8) (bx_val [(0, 0), (0, 0), (0, 0), (0, 0), (0, 0), (0, 0), (0, 0), (0, 0), (8, 0), (9, 0), (0, 1)] r_p 9) (bx_val [(0, 0), (0, 0), (0, 0), (0, 0), (0, 0), (0, 0), (0, 0), (0, 0), (8, 0), (9, 0), (0, 1)] r_p 10) < rxmRLCO_8 S0 ws S_p (r 8) (r 9)
    rw [bx_val_x (n := 8) (e := (8, 0)) h0_ rfl, bx_val_x (n := 9) (e := (9, 0)) h0_ rfl, bx_val_x (n := 10) (e := (0, 1)) h0_ rfl, ← hr_ 8 (by decide), ← hr_ 9 (by decide)]
    exact g.2.2.2
theorem rxcRLCO_10_0 {S0 : Nat → Int → Int} {ws : List Int} {S : Nat → Int → Int} {ba sl ki x11 : Int} (hP : rxPRLCO S0 ws) (hin : bx_same rxL (bx_mdl rxCRLCO.2.2.1) S0 S) (I0 : bx_Inv rxL S) (hinv : rxIRLCO_10 S0 ws S ba sl ki) (l8 : 0 ≤ ba) (u8 : ba ≤ 0) (l9 : 0 ≤ sl) (u9 : sl ≤ 1) (l10 : 0 ≤ ki) (u10 : ki ≤ 4) (l11 : 0 ≤ x11) (u11 : x11 ≤ 1522) (e0 : S 427 8 = x11) : (True) ∧ (True) ∧ rxIRLCO_11 S0 ws S ba sl x11 ∧ rxmRLCO_11 S0 ws S ba sl x11 < rxmRLCO_10 S0 ws S ba sl ki := by
  obtain ⟨hI, hx⟩ := hinv
  obtain ⟨a_, b_, c_, d_⟩ := rxcRLCK_10_0 hP hin I0 hI l8 u8 l9 u9 l10 u10 l11 u11 e0
  exact ⟨a_, b_, ⟨c_, hx⟩, d_⟩
theorem rxgRLCO_10_0 {X : (Nat → Int → Int) → Prop} {S0 : Nat → Int → Int} {ws : List Int} (hP : rxPRLCO S0 ws) : bx_obC rxL X S0 rxCRLCO.2.2.1 (rxIRLCO S0 ws) (rxmRLCO S0 ws) 10 rxzRLCO_10 rxoRLCO_10_0 := by
  intro S S_p r r_p hinv hX hin hsm_ hseg
  obtain ⟨I0, I1, h0_, hr_, b_, f_, d_⟩ := bx_cl (evs := [(0, (0, 427), (0, 8), .inr (3, (11, 0)))]) (fvs := []) hseg (by decide +kernel) (by decide +kernel)
  have hinv : rxIRLCO_10 S0 ws S (r 8) (r 9) (r 10) := hinv
  rw [← hr_ 8 (by decide), ← hr_ 9 (by decide), ← hr_ 10 (by decide)] at hinv
  obtain ⟨⟨l8, u8⟩, ⟨l9, u9⟩, ⟨l10, u10⟩, ⟨l11, u11⟩, -⟩ := b_
  obtain ⟨e0, w_⟩ := d_
  subst w_
  have g := rxcRLCO_10_0 hP hin I0 hinv l8 u8 l9 u9 l10 u10 l11 u11 e0
  refine ⟨bx_narP_ok (l := []) g.1, bx_nfP_ok h0_ (fvs := []) (by decide +kernel) g.2.1, ?_, ?_⟩
  · show rxIRLCO_11 S0 ws S_p (bx_val [(0, 0), (0, 0), (0, 0), (0, 0), (0, 0), (0, 0), (0, 0), (0, 0), (8, 0), (9, 0), (11, 0)] r_p 8) (bx_val [(0, 0), (0, 0), (0, 0), (0, 0), (0, 0), (0, 0), (0, 0), (0, 0), (8, 0), (9, 0), (11, 0)] r_p 9) (bx_val [(0, 0), (0, 0), (0, 0), (0, 0), (0, 0), (0, 0), (0, 0), (0, 0), (8, 0), (9, 0), (11, 0)] r_p 10)
    rw [bx_val_x (n := 8) (e := (8, 0)) h0_ rfl, bx_val_x (n := 9) (e := (9, 0)) h0_ rfl, bx_val_x (n := 10) (e := (11, 0)) h0_ rfl]
    exact g.2.2.1
  · show rxmRLCO_11 S0 ws S_p (bx_val [(0, 0), (0, 0), (0, 0), (0, 0), (0, 0), (0, 0), (0, 0), (0, 0), (8, 0), (9, 0), (11, 0)] r_p 8) (bx_val [(0, 0), (0, 0), (0, 0), (0, 0), (0, 0), (0, 0), (0, 0), (0, 0), (8, 0), (9, 0), (11, 0)] r_p 9) (bx_val [(0, 0), (0, 0), (0, 0), (0, 0), (0, 0), (0, 0), (0, 0), (0, 0), (8, 0), (9, 0), (11, 0)] r_p 10) < rxmRLCO_10 S0 ws S_p (r 8) (r 9) (r 10)
    rw [bx_val_x (n := 8) (e := (8, 0)) h0_ rfl, bx_val_x (n := 9) (e := (9, 0)) h0_ rfl, bx_val_x (n := 10) (e := (11, 0)) h0_ rfl, ← hr_ 8 (by decide), ← hr_ 9 (by decide), ← hr_ 10 (by decide)]
    exact g.2.2.2
theorem rxdRLCO_10_0 {S0 : Nat → Int → Int} {ws : List Int} {S : Nat → Int → Int} {ba sl ki : Int} (hP : rxPRLCO S0 ws) (hin : bx_same rxL (bx_mdl rxCRLCO.2.2.1) S0 S) (hin2 : bx_same rxL (bx_mdl rxCRLCO.2.2.1) S S) (I0 : bx_Inv rxL S) (I1 : bx_Inv rxL S) (hinv : rxIRLCO_10 S0 ws S ba sl ki) (l8 : 1 ≤ ba) (u8 : ba ≤ 1) (l9 : 0 ≤ sl) (u9 : sl ≤ 1) (l10 : 0 ≤ ki) (u10 : ki ≤ 4) (f0 : ba ≠ 0) : (True) ∧ rxPSRLCO S0 ws S (some 1) := by
  obtain ⟨hI, hx⟩ := hinv
  obtain ⟨a_, c_⟩ := rxdRLCK_10_0 hP hin hin2 I0 I1 hI l8 u8 l9 u9 l10 u10 f0
  exact ⟨a_, c_, hx⟩
theorem rxfRLCO_10_0 {X : (Nat → Int → Int) → Prop} {S0 : Nat → Int → Int} {ws : List Int} (hP : rxPRLCO S0 ws) : bx_obE rxL X S0 rxCRLCO.2.2.1 (rxIRLCO S0 ws) (rxPSRLCO S0 ws) 10 rxzRLCO_10 rxeRLCO_10_0 := by
  intro S S_p r r_p hinv hX hin hsm_ hseg
  obtain ⟨I0, I1, h0_, hr_, b_, f_, d_⟩ := bx_cl (evs := []) (fvs := [(3, (8, 0), (0, 0), (0, 0))]) hseg (by decide +kernel) (by decide +kernel)
  have hinv : rxIRLCO_10 S0 ws S (r 8) (r 9) (r 10) := hinv
  rw [← hr_ 8 (by decide), ← hr_ 9 (by decide), ← hr_ 10 (by decide)] at hinv
  obtain ⟨⟨l8, u8⟩, ⟨l9, u9⟩, ⟨l10, u10⟩, -⟩ := b_
  obtain ⟨f0, -⟩ := f_
  have w_ := d_
  subst w_
  have g := rxdRLCO_10_0 hP hin hsm_ I0 I1 hinv l8 u8 l9 u9 l10 u10 f0
  refine ⟨bx_narP_ok (l := []) g.1, ?_⟩
  show rxPSRLCO S0 ws S_p (some (bx_num r_p (.inr (0, (0, 1)))))
  rw [bx_xv_ok h0_]
  exact g.2
theorem rxdRLCO_12_0 {S0 : Nat → Int → Int} {ws : List Int} {S : Nat → Int → Int} {ba sl sa res : Int} (hP : rxPRLCO S0 ws) (hin : bx_same rxL (bx_mdl rxCRLCO.2.2.1) S0 S) (hin2 : bx_same rxL (bx_mdl rxCRLCO.2.2.1) S S) (I0 : bx_Inv rxL S) (I1 : bx_Inv rxL S) (hinv : rxIRLCO_12 S0 ws S ba sl sa res) (l8 : 0 ≤ ba) (u8 : ba ≤ 1) (l9 : 0 ≤ sl) (u9 : sl ≤ 1) (l10 : 0 ≤ sa) (u10 : sa ≤ 1522) (l11 : 1 ≤ res) (u11 : res ≤ 1) (f0 : res ≠ 0) : (True) ∧ rxPSRLCO S0 ws S (some 1) := by
  obtain ⟨hI, hx⟩ := hinv
  obtain ⟨a_, c_⟩ := rxdRLCK_12_0 hP hin hin2 I0 I1 hI l8 u8 l9 u9 l10 u10 l11 u11 f0
  exact ⟨a_, c_, hx⟩
theorem rxfRLCO_12_0 {X : (Nat → Int → Int) → Prop} {S0 : Nat → Int → Int} {ws : List Int} (hP : rxPRLCO S0 ws) : bx_obE rxL X S0 rxCRLCO.2.2.1 (rxIRLCO S0 ws) (rxPSRLCO S0 ws) 12 rxzRLCO_12 rxeRLCO_12_0 := by
  intro S S_p r r_p hinv hX hin hsm_ hseg
  obtain ⟨I0, I1, h0_, hr_, b_, f_, d_⟩ := bx_cl (evs := []) (fvs := [(3, (11, 0), (0, 0), (0, 0))]) hseg (by decide +kernel) (by decide +kernel)
  have hinv : rxIRLCO_12 S0 ws S (r 8) (r 9) (r 10) (r 11) := hinv
  rw [← hr_ 8 (by decide), ← hr_ 9 (by decide), ← hr_ 10 (by decide), ← hr_ 11 (by decide)] at hinv
  obtain ⟨⟨l8, u8⟩, ⟨l9, u9⟩, ⟨l10, u10⟩, ⟨l11, u11⟩, -⟩ := b_
  obtain ⟨f0, -⟩ := f_
  have w_ := d_
  subst w_
  have g := rxdRLCO_12_0 hP hin hsm_ I0 I1 hinv l8 u8 l9 u9 l10 u10 l11 u11 f0
  refine ⟨bx_narP_ok (l := []) g.1, ?_⟩
  show rxPSRLCO S0 ws S_p (some (bx_num r_p (.inr (0, (0, 1)))))
  rw [bx_xv_ok h0_]
  exact g.2
theorem rxdRLCO_12_1 {S0 : Nat → Int → Int} {ws : List Int} {S : Nat → Int → Int} {ba sl sa res : Int} (hP : rxPRLCO S0 ws) (hin : bx_same rxL (bx_mdl rxCRLCO.2.2.1) S0 S) (hin2 : bx_same rxL (bx_mdl rxCRLCO.2.2.1) S S) (I0 : bx_Inv rxL S) (I1 : bx_Inv rxL S) (hinv : rxIRLCO_12 S0 ws S ba sl sa res) (l8 : 0 ≤ ba) (u8 : ba ≤ 1) (l9 : 0 ≤ sl) (u9 : sl ≤ 1) (l10 : 0 ≤ sa) (u10 : sa ≤ 1522) (l11 : 0 ≤ res) (u11 : res ≤ 0) : (True) ∧ rxPSRLCO S0 ws S (some 0) := by
  obtain ⟨hI, hx⟩ := hinv
  obtain ⟨a_, c_⟩ := rxdRLCK_12_1 hP hin hin2 I0 I1 hI l8 u8 l9 u9 l10 u10 l11 u11
  exact ⟨a_, c_, hx⟩
theorem rxfRLCO_12_1 {X : (Nat → Int → Int) → Prop} {S0 : Nat → Int → Int} {ws : List Int} (hP : rxPRLCO S0 ws) : bx_obE rxL X S0 rxCRLCO.2.2.1 (rxIRLCO S0 ws) (rxPSRLCO S0 ws) 12 rxzRLCO_12 rxeRLCO_12_1 := by
  intro S S_p r r_p hinv hX hin hsm_ hseg
  obtain ⟨I0, I1, h0_, hr_, b_, f_, d_⟩ := bx_cl (evs := []) (fvs := []) hseg (by decide +kernel) (by decide +kernel)
  have hinv : rxIRLCO_12 S0 ws S (r 8) (r 9) (r 10) (r 11) := hinv
  rw [← hr_ 8 (by decide), ← hr_ 9 (by decide), ← hr_ 10 (by decide), ← hr_ 11 (by decide)] at hinv
  obtain ⟨⟨l8, u8⟩, ⟨l9, u9⟩, ⟨l10, u10⟩, ⟨l11, u11⟩, -⟩ := b_
  have w_ := d_
  subst w_
  have g := rxdRLCO_12_1 hP hin hsm_ I0 I1 hinv l8 u8 l9 u9 l10 u10 l11 u11
  refine ⟨bx_narP_ok (l := []) g.1, ?_⟩
  show rxPSRLCO S0 ws S_p (some (bx_num r_p (.inr (0, (0, 0)))))
  rw [bx_xv_ok h0_]
  exact g.2
theorem rxgCRLCO {X : (Nat → Int → Int) → Prop} {S0 : Nat → Int → Int} {ws : List Int} (hP : rxPRLCO S0 ws) : bx_allI (fun i q => rxURLCO q = true ∨ bx_allP (fun o => bx_obC rxL X S0 rxCRLCO.2.2.1 (rxIRLCO S0 ws) (rxmRLCO S0 ws) i q.1 o) q.2.1) 0 rxYRLCO := ⟨Or.inr ⟨rxgRLCO_0_0 hP, trivial⟩, Or.inl rfl, Or.inr ⟨rxgRLCO_2_0 hP, trivial⟩, Or.inl rfl, Or.inr ⟨rxgRLCO_4_0 hP, rxgRLCO_4_1 hP, rxgRLCO_4_2 hP, trivial⟩, Or.inl rfl, Or.inr ⟨rxgRLCO_6_0 hP, trivial⟩, Or.inl rfl, Or.inr ⟨rxgRLCO_8_0 hP, rxgRLCO_8_1 hP, rxgRLCO_8_2 hP, trivial⟩, Or.inl rfl, Or.inr ⟨rxgRLCO_10_0 hP, trivial⟩, Or.inl rfl, Or.inr trivial, trivial⟩
theorem rxgERLCO {X : (Nat → Int → Int) → Prop} {S0 : Nat → Int → Int} {ws : List Int} (hP : rxPRLCO S0 ws) : bx_allI (fun i q => rxURLCO q = true ∨ bx_allP (fun E => bx_obE rxL X S0 rxCRLCO.2.2.1 (rxIRLCO S0 ws) (rxPSRLCO S0 ws) i q.1 E) q.2.2) 0 rxYRLCO := ⟨Or.inr trivial, Or.inl rfl, Or.inr trivial, Or.inl rfl, Or.inr trivial, Or.inl rfl, Or.inr ⟨rxfRLCO_6_0 hP, trivial⟩, Or.inl rfl, Or.inr trivial, Or.inl rfl, Or.inr ⟨rxfRLCO_10_0 hP, trivial⟩, Or.inl rfl, Or.inr ⟨rxfRLCO_12_0 hP, rxfRLCO_12_1 hP, trivial⟩, trivial⟩
theorem rxuRLCO {PX : State → Prop} {Dg : va_G} {A : Nat → Prop} {ad xa : Nat → Nat} {l : Launch} {X : (Nat → Int → Int) → Prop} (hPX : rx_PXOK rxNW A PX) (hX : ∀ S S1 : Nat → Int → Int, X S → bx_same rxL (bx_mdl rxCRLCO.2.2.1) S S1 → X S1) (hQIWX : bx_ConP rxG rxNW rxAO PX Dg rxL X vwCl A ad l rxM59 rxC59 rxPIWX rxPSIWX) (hQAD : bx_ConP rxG rxNW rxAO PX Dg rxL X vwCl A ad l rxM84 rxC84 rxPAD rxPSAD) (hQOCO : bx_ConP rxG rxNW rxAO PX Dg rxL X vwCl A ad l rxM60 rxCOCO rxPOCO rxPSOCO) (hQREDO : bx_ConP rxG rxNW rxAO PX Dg rxL X vwCl A ad l rxM61 rxCREDO rxPREDO rxPSREDO) {S0 : Nat → Int → Int} {ws : List Int} (hP : rxPRLCO S0 ws) : ∀ (i : Nat) (q : bx_HE), rxYRLCO[i]? = some q → rxURLCO q = true → ∀ {p : Program} {e : Env} {R : Room} {s : State} {m : MethodId} {args : Array Value} {below : List Frame} {meth : Method} {c : Code} {Q : State → Prop} {H0 : Heap}, rx_Fr rxG rxNW rxAO PX p s m args meth c rxM86 → (∀ q, H0.size ≤ q → A q) → H0 = s.heap → rxM86.2.2.2.2.2.2.1 ≤ R.cells → rxM86.2.2.2.2.2.2.2 ≤ R.slots → rxCRLCO.2.2.2.1 ≤ R.frames → rxCRLCO.2.2.2.1 * 40 ≤ R.locals → bx_Step p l e R s m args below meth c Q Dg rxL X vwCl A xa H0 ad rxM86 rxYRLCO (rxIRLCO S0 ws) (rxmRLCO S0 ws) S0 rxCRLCO.2.2.1 i q := by
  intro i q hq hus p e R s m args below meth c Q H0 hF hA hH0 hmc hms hd hdl
  match i, hq with
  | 0, hq =>
    cases hq
    exact absurd (show false = true from hus) Bool.false_ne_true
  | 1, hq =>
    cases hq
    exact rx_stepC (ins := .invokevirtual 100) (len := 3) (i_p := 2) (M_p := rxM59) (d := rxCRLCO.2.2.2.1) (as := [.inr (3, (0, 412)), .inr (3, (0, 525))]) (t := []) (ct := rxC59) hPX hF rfl hA hH0 hmc hms hd hdl (by decide +kernel) rfl rfl (by decide +kernel) (by decide +kernel) hQIWX (by decide +kernel) rfl (Or.inr ⟨_, _, _, 1, rfl, rfl, by omega, rfl, rfl, rfl⟩) (rxsRLCO_1 hP)
  | 2, hq =>
    cases hq
    exact absurd (show false = true from hus) Bool.false_ne_true
  | 3, hq =>
    cases hq
    exact rx_stepC (ins := .invokevirtual 100) (len := 3) (i_p := 4) (M_p := rxM59) (d := rxCRLCO.2.2.2.1) (as := [.inr (3, (0, 412)), .inr (3, (0, 542))]) (t := []) (ct := rxC59) hPX hF rfl hA hH0 hmc hms hd hdl (by decide +kernel) rfl rfl (by decide +kernel) (by decide +kernel) hQIWX (by decide +kernel) rfl (Or.inr ⟨_, _, _, 1, rfl, rfl, by omega, rfl, rfl, rfl⟩) (rxsRLCO_3 hP)
  | 4, hq =>
    cases hq
    exact absurd (show false = true from hus) Bool.false_ne_true
  | 5, hq =>
    cases hq
    exact rx_stepC (ins := .invokevirtual 100) (len := 3) (i_p := 6) (M_p := rxM59) (d := rxCRLCO.2.2.2.1) (as := [.inr (3, (0, 412)), .inr (3, (0, 530))]) (t := []) (ct := rxC59) hPX hF rfl hA hH0 hmc hms hd hdl (by decide +kernel) rfl rfl (by decide +kernel) (by decide +kernel) hQIWX (by decide +kernel) rfl (Or.inr ⟨_, _, _, 1, rfl, rfl, by omega, rfl, rfl, rfl⟩) (rxsRLCO_5 hP)
  | 6, hq =>
    cases hq
    exact absurd (show false = true from hus) Bool.false_ne_true
  | 7, hq =>
    cases hq
    exact rx_stepC (ins := .invokevirtual 66) (len := 3) (i_p := 8) (M_p := rxM84) (d := rxCRLCO.2.2.2.1) (as := [.inr (3, (0, 412))]) (t := []) (ct := rxC84) hPX hF rfl hA hH0 hmc hms hd hdl (by decide +kernel) rfl rfl (by decide +kernel) (by decide +kernel) hQAD (by decide +kernel) rfl (Or.inl ⟨rfl, rfl, rfl⟩) (rxsRLCO_7 hP)
  | 8, hq =>
    cases hq
    exact absurd (show false = true from hus) Bool.false_ne_true
  | 9, hq =>
    cases hq
    exact rx_stepC (ins := .invokevirtual 105) (len := 3) (i_p := 10) (M_p := rxM60) (d := rxCRLCO.2.2.2.1) (as := [.inr (3, (0, 427)), .inr (0, (10, 0)), .inr (0, (0, (-1))), .inr (0, (0, (-1)))]) (t := []) (ct := rxCOCO) hPX hF rfl hA hH0 hmc hms hd hdl (by decide +kernel) rfl rfl (by decide +kernel) (by decide +kernel) hQOCO (by decide +kernel) rfl (Or.inl ⟨rfl, rfl, rfl⟩) (rxsRLCO_9 hP)
  | 10, hq =>
    cases hq
    exact absurd (show false = true from hus) Bool.false_ne_true
  | 11, hq =>
    cases hq
    exact rx_stepC (ins := .invokevirtual 112) (len := 3) (i_p := 12) (M_p := rxM61) (d := rxCRLCO.2.2.2.1) (as := [.inr (3, (0, 412)), .inr (3, (10, 0)), .inr (0, (0, 0))]) (t := []) (ct := rxCREDO) hPX hF rfl hA hH0 hmc hms hd hdl (by decide +kernel) rfl rfl (by decide +kernel) (by decide +kernel) hQREDO (by decide +kernel) rfl (Or.inr ⟨_, _, _, 1, rfl, rfl, by omega, rfl, rfl, rfl⟩) (rxsRLCO_11 hP)
  | 12, hq =>
    cases hq
    exact absurd (show false = true from hus) Bool.false_ne_true
  | n + 13, hq => cases hq
theorem rxQRLCO {PX : State → Prop} {Dg : va_G} {A : Nat → Prop} {ad xa : Nat → Nat} {l : Launch} {X : (Nat → Int → Int) → Prop} (hPX : rx_PXOK rxNW A PX) (hsl : ∀ s : State, PX s → ∀ o idx n : Nat, rxSl o idx = some n → ∃ tx : String, vk_R (rxNm o) idx tx (ad n) s)
    (hX : ∀ S S_p : Nat → Int → Int, X S → bx_same rxL (bx_mdl rxCRLCO.2.2.1) S S_p → X S_p)
    (ih : ∀ (j2 : Nat) (ct2 : bx_Ct) (M2 : rx_Mt), ct2 ∈ rxCnE j2 → ct2.2.2.2.1 + 1 ≤ rxCRLCO.2.2.2.1 → rxT.2.2.2.2.2 j2 = some M2 → bx_Con rxG rxNW rxAO PX Dg rxL X vwCl A ad l M2 ct2) (hQIWX : bx_ConP rxG rxNW rxAO PX Dg rxL X vwCl A ad l rxM59 rxC59 rxPIWX rxPSIWX) (hQAD : bx_ConP rxG rxNW rxAO PX Dg rxL X vwCl A ad l rxM84 rxC84 rxPAD rxPSAD) (hQOCO : bx_ConP rxG rxNW rxAO PX Dg rxL X vwCl A ad l rxM60 rxCOCO rxPOCO rxPSOCO) (hQREDO : bx_ConP rxG rxNW rxAO PX Dg rxL X vwCl A ad l rxM61 rxCREDO rxPREDO rxPSREDO) : bx_ConP rxG rxNW rxAO PX Dg rxL X vwCl A ad l rxM86 rxCRLCO rxPRLCO rxPSRLCO :=
  rxQof (xa := xa) (Cn := rxCnE) (f := 30000) (j := 86) (tab := rxYRLCO) (us := rxURLCO) hPX hsl hX ih rfl rxYcRLCO rxIRLCO rxmRLCO
    (fun S0 ws r I0 I ht0 ht as he he1 hX0 hI0 hP hs ha => by
      have e := he.symm.trans (show bx_ent0 rxNP rxCRLCO.1 bx_I0 [] = some ([(0, 0), (0, 0), (0, 0), (0, 0), (0, 0), (0, 0), (0, 0), (0, 0)], [], [.inr (3, (0, 412))]) from rfl)
      cases e
      subst ha
      have h0 : r 0 = 0 := hs.1
      show rxIRLCO_0 S0 _ S0
      refine ⟨⟨⟨rfl, ?_⟩, trivial⟩, trivial⟩
      simp only [List.map_cons, List.map_nil, bx_xv_ok h0]
      rfl)
    (fun S0 ws hP => rxuRLCO (xa := xa) hPX hX hQIWX hQAD hQOCO hQREDO hP) (fun S0 ws hP => rxgCRLCO hP) (fun S0 ws hP => rxgERLCO hP)
noncomputable def rxCRPCO : bx_Ct := ([(3, (1, 412, 0))], some (0, (0, 0, 1)), [(6, 0), (6, 4), (7, 2), (7, 3), (7, 4), (7, 7), (7, 8), (7, 10), (1021, 0), (1022, 0), (1024, 0), (1025, 0), (1026, 0), (1027, 0), (1034, 0), (1035, 0), (1036, 0)], 8, [(412, 0, 3, (1, 411, 0)), (412, 6, 3, (1, 427, 0))])
noncomputable def rxIRPCO_0 (S0 : Nat → Int → Int) (ws : List Int) (S : Nat → Int → Int) : Prop := rxIRPCK_0 S0 ws S ∧ True
noncomputable def rxmRPCO_0 (S0 : Nat → Int → Int) (ws : List Int) (S : Nat → Int → Int) : Nat := rxmRPCK_0 S0 ws S
noncomputable def rxzRPCO_0 : rx_Z := ([(0, 0), (0, 0), (0, 0), (0, 0), (0, 0), (0, 0), (0, 0), (0, 0)], [], [(((0, 412), 6), .inr (3, (0, 427))), (((0, 412), 0), .inr (3, (0, 411)))], 0, 0, 0, [(0, .inr (3, (0, 412)))], [])
noncomputable def rxIRPCO_1 (S0 : Nat → Int → Int) (ws : List Int) (S : Nat → Int → Int) : Prop := rxIRPCK_1 S0 ws S ∧ (rkPr S0 → rkPO S0 S)
noncomputable def rxmRPCO_1 (S0 : Nat → Int → Int) (ws : List Int) (S : Nat → Int → Int) : Nat := rxmRPCK_1 S0 ws S
noncomputable def rxzRPCO_1 : rx_Z := ([(0, 0), (0, 0), (0, 0), (0, 0), (0, 0), (0, 0), (0, 0), (0, 0)], [], [(((0, 412), 0), .inr (3, (0, 411))), (((0, 412), 6), .inr (3, (0, 427)))], 0, 0, 3, [(0, .inr (3, (0, 412)))], [.inr (3, (0, 533)), .inr (3, (0, 412))])
noncomputable def rxIRPCO_2 (S0 : Nat → Int → Int) (ws : List Int) (S : Nat → Int → Int) (r : Int) : Prop := rxIRPCK_2 S0 ws S r ∧ (rkPr S0 → rkPO S0 S)
noncomputable def rxmRPCO_2 (S0 : Nat → Int → Int) (ws : List Int) (S : Nat → Int → Int) (r : Int) : Nat := rxmRPCK_2 S0 ws S r
noncomputable def rxzRPCO_2 : rx_Z := ([(0, 0), (0, 0), (0, 0), (0, 0), (0, 0), (0, 0), (0, 0), (0, 0), (0, 1)], [], [(((0, 412), 0), .inr (3, (0, 411))), (((0, 412), 6), .inr (3, (0, 427)))], 0, 0, 6, [(0, .inr (3, (0, 412)))], [.inr (0, (8, 0))])
noncomputable def rxIRPCO_3 (S0 : Nat → Int → Int) (ws : List Int) (S : Nat → Int → Int) : Prop := rxIRPCK_3 S0 ws S ∧ (rkPr S0 → rkPO S0 S)
noncomputable def rxmRPCO_3 (S0 : Nat → Int → Int) (ws : List Int) (S : Nat → Int → Int) : Nat := rxmRPCK_3 S0 ws S
noncomputable def rxzRPCO_3 : rx_Z := ([(0, 0), (0, 0), (0, 0), (0, 0), (0, 0), (0, 0), (0, 0), (0, 0)], [], [(((0, 412), 0), .inr (3, (0, 411))), (((0, 412), 6), .inr (3, (0, 427)))], 0, 0, 12, [(0, .inr (3, (0, 412)))], [.inr (3, (0, 412))])
noncomputable def rxIRPCO_4 (S0 : Nat → Int → Int) (ws : List Int) (S : Nat → Int → Int) (pl : Int) : Prop := rxIRPCK_4 S0 ws S pl ∧ (rkPr S0 → rkPO S0 S)
noncomputable def rxmRPCO_4 (S0 : Nat → Int → Int) (ws : List Int) (S : Nat → Int → Int) (pl : Int) : Nat := rxmRPCK_4 S0 ws S pl
noncomputable def rxzRPCO_4 : rx_Z := ([(0, 0), (0, 0), (0, 0), (0, 0), (0, 0), (0, 0), (0, 0), (0, 0), ((-2147483648), 6)], [], [(((0, 412), 0), .inr (3, (0, 411))), (((0, 412), 6), .inr (3, (0, 427)))], 0, 0, 15, [(0, .inr (3, (0, 412)))], [.inr (0, (8, 0))])
noncomputable def rxIRPCO_5 (S0 : Nat → Int → Int) (ws : List Int) (S : Nat → Int → Int) (st : Int) : Prop := rxIRPCK_5 S0 ws S st ∧ (rkPr S0 → rkPO S0 S)
noncomputable def rxmRPCO_5 (S0 : Nat → Int → Int) (ws : List Int) (S : Nat → Int → Int) (st : Int) : Nat := rxmRPCK_5 S0 ws S st
noncomputable def rxzRPCO_5 : rx_Z := ([(0, 0), (0, 0), (0, 0), (0, 0), (0, 0), (0, 0), (0, 0), (0, 0), (0, 6)], [], [(((0, 412), 0), .inr (3, (0, 411))), (((0, 412), 6), .inr (3, (0, 427)))], 0, 0, 26, [(0, .inr (3, (0, 412))), (1, .inr (0, (8, 0)))], [.inr (3, (0, 412))])
noncomputable def rxIRPCO_6 (S0 : Nat → Int → Int) (ws : List Int) (S : Nat → Int → Int) (st : Int) : Prop := rxIRPCK_6 S0 ws S st ∧ (rkPr S0 → rkPO S0 S)
noncomputable def rxmRPCO_6 (S0 : Nat → Int → Int) (ws : List Int) (S : Nat → Int → Int) (st : Int) : Nat := rxmRPCK_6 S0 ws S st
noncomputable def rxzRPCO_6 : rx_Z := ([(0, 0), (0, 0), (0, 0), (0, 0), (0, 0), (0, 0), (0, 0), (0, 0), (0, 6)], [], [(((0, 412), 0), .inr (3, (0, 411))), (((0, 412), 6), .inr (3, (0, 427)))], 0, 0, 29, [(0, .inr (3, (0, 412))), (1, .inr (0, (8, 0)))], [])
noncomputable def rxIRPCO_7 (S0 : Nat → Int → Int) (ws : List Int) (S : Nat → Int → Int) (st : Int) : Prop := rxIRPCK_7 S0 ws S st ∧ (rkPr S0 → rkPO S0 S)
noncomputable def rxmRPCO_7 (S0 : Nat → Int → Int) (ws : List Int) (S : Nat → Int → Int) (st : Int) : Nat := rxmRPCK_7 S0 ws S st
noncomputable def rxzRPCO_7 : rx_Z := ([(0, 0), (0, 0), (0, 0), (0, 0), (0, 0), (0, 0), (0, 0), (0, 0), (0, 6)], [], [(((0, 412), 0), .inr (3, (0, 411))), (((0, 412), 6), .inr (3, (0, 427)))], 0, 0, 32, [(0, .inr (3, (0, 412))), (1, .inr (0, (8, 0)))], [.inr (3, (0, 524)), .inr (3, (0, 412))])
noncomputable def rxIRPCO_8 (S0 : Nat → Int → Int) (ws : List Int) (S : Nat → Int → Int) (st r : Int) : Prop := rxIRPCK_8 S0 ws S st r ∧ (rkPr S0 → rkPO S0 S)
noncomputable def rxmRPCO_8 (S0 : Nat → Int → Int) (ws : List Int) (S : Nat → Int → Int) (st r : Int) : Nat := rxmRPCK_8 S0 ws S st r
noncomputable def rxzRPCO_8 : rx_Z := ([(0, 0), (0, 0), (0, 0), (0, 0), (0, 0), (0, 0), (0, 0), (0, 0), (0, 6), (0, 1)], [], [(((0, 412), 0), .inr (3, (0, 411))), (((0, 412), 6), .inr (3, (0, 427)))], 0, 0, 35, [(0, .inr (3, (0, 412))), (1, .inr (0, (8, 0)))], [.inr (0, (9, 0))])
noncomputable def rxIRPCO_9 (S0 : Nat → Int → Int) (ws : List Int) (S : Nat → Int → Int) (st : Int) : Prop := rxIRPCK_9 S0 ws S st ∧ (rkPr S0 → rkPO S0 S)
noncomputable def rxmRPCO_9 (S0 : Nat → Int → Int) (ws : List Int) (S : Nat → Int → Int) (st : Int) : Nat := rxmRPCK_9 S0 ws S st
noncomputable def rxzRPCO_9 : rx_Z := ([(0, 0), (0, 0), (0, 0), (0, 0), (0, 0), (0, 0), (0, 0), (0, 0), (0, 6)], [], [(((0, 412), 0), .inr (3, (0, 411))), (((0, 412), 6), .inr (3, (0, 427)))], 0, 0, 41, [(0, .inr (3, (0, 412))), (1, .inr (0, (8, 0)))], [.inr (3, (0, 412))])
noncomputable def rxIRPCO_10 (S0 : Nat → Int → Int) (ws : List Int) (S : Nat → Int → Int) (st pl : Int) : Prop := rxIRPCK_10 S0 ws S st pl ∧ (rkPr S0 → rkPO S0 S)
noncomputable def rxmRPCO_10 (S0 : Nat → Int → Int) (ws : List Int) (S : Nat → Int → Int) (st pl : Int) : Nat := rxmRPCK_10 S0 ws S st pl
noncomputable def rxzRPCO_10 : rx_Z := ([(0, 0), (0, 0), (0, 0), (0, 0), (0, 0), (0, 0), (0, 0), (0, 0), (0, 6), ((-2147483648), 6)], [], [(((0, 412), 0), .inr (3, (0, 411))), (((0, 412), 6), .inr (3, (0, 427)))], 0, 0, 44, [(0, .inr (3, (0, 412))), (1, .inr (0, (8, 0)))], [.inr (0, (9, 0))])
noncomputable def rxIRPCO_11 (S0 : Nat → Int → Int) (ws : List Int) (S : Nat → Int → Int) (st cu : Int) : Prop := rxIRPCK_11 S0 ws S st cu ∧ (rkPr S0 → rkPO S0 S)
noncomputable def rxmRPCO_11 (S0 : Nat → Int → Int) (ws : List Int) (S : Nat → Int → Int) (st cu : Int) : Nat := rxmRPCK_11 S0 ws S st cu
noncomputable def rxzRPCO_11 : rx_Z := ([(0, 0), (0, 0), (0, 0), (0, 0), (0, 0), (0, 0), (0, 0), (0, 0), (0, 6), (0, 6)], [], [(((0, 412), 0), .inr (3, (0, 411))), (((0, 412), 6), .inr (3, (0, 427)))], 0, 0, 55, [(0, .inr (3, (0, 412))), (1, .inr (0, (8, 0))), (2, .inr (0, (9, 0)))], [.inr (3, (0, 412))])
noncomputable def rxIRPCO_12 (S0 : Nat → Int → Int) (ws : List Int) (S : Nat → Int → Int) (st cu : Int) : Prop := rxIRPCK_12 S0 ws S st cu ∧ (rkPr S0 → rkPO S0 S)
noncomputable def rxmRPCO_12 (S0 : Nat → Int → Int) (ws : List Int) (S : Nat → Int → Int) (st cu : Int) : Nat := rxmRPCK_12 S0 ws S st cu
noncomputable def rxzRPCO_12 : rx_Z := ([(0, 0), (0, 0), (0, 0), (0, 0), (0, 0), (0, 0), (0, 0), (0, 0), (0, 6), (0, 6)], [], [(((0, 412), 0), .inr (3, (0, 411))), (((0, 412), 6), .inr (3, (0, 427)))], 0, 0, 58, [(0, .inr (3, (0, 412))), (1, .inr (0, (8, 0))), (2, .inr (0, (9, 0)))], [])
noncomputable def rxIRPCO_13 (S0 : Nat → Int → Int) (ws : List Int) (S : Nat → Int → Int) (st cu : Int) : Prop := rxIRPCK_13 S0 ws S st cu ∧ (rkPr S0 → rkPO S0 S)
noncomputable def rxmRPCO_13 (S0 : Nat → Int → Int) (ws : List Int) (S : Nat → Int → Int) (st cu : Int) : Nat := rxmRPCK_13 S0 ws S st cu
noncomputable def rxzRPCO_13 : rx_Z := ([(0, 0), (0, 0), (0, 0), (0, 0), (0, 0), (0, 0), (0, 0), (0, 0), (0, 6), (0, 6)], [], [(((0, 412), 0), .inr (3, (0, 411))), (((0, 412), 6), .inr (3, (0, 427)))], 0, 0, 61, [(0, .inr (3, (0, 412))), (1, .inr (0, (8, 0))), (2, .inr (0, (9, 0)))], [.inr (3, (0, 531)), .inr (3, (0, 412))])
noncomputable def rxIRPCO_14 (S0 : Nat → Int → Int) (ws : List Int) (S : Nat → Int → Int) (st cu r : Int) : Prop := rxIRPCK_14 S0 ws S st cu r ∧ (rkPr S0 → rkPO S0 S)
noncomputable def rxmRPCO_14 (S0 : Nat → Int → Int) (ws : List Int) (S : Nat → Int → Int) (st cu r : Int) : Nat := rxmRPCK_14 S0 ws S st cu r
noncomputable def rxzRPCO_14 : rx_Z := ([(0, 0), (0, 0), (0, 0), (0, 0), (0, 0), (0, 0), (0, 0), (0, 0), (0, 6), (0, 6), (0, 1)], [], [(((0, 412), 0), .inr (3, (0, 411))), (((0, 412), 6), .inr (3, (0, 427)))], 0, 0, 64, [(0, .inr (3, (0, 412))), (1, .inr (0, (8, 0))), (2, .inr (0, (9, 0)))], [.inr (0, (10, 0))])
noncomputable def rxIRPCO_15 (S0 : Nat → Int → Int) (ws : List Int) (S : Nat → Int → Int) (st cu hu : Int) : Prop := rxIRPCK_15 S0 ws S st cu hu ∧ (rkPr S0 → rkPO S0 S)
noncomputable def rxmRPCO_15 (S0 : Nat → Int → Int) (ws : List Int) (S : Nat → Int → Int) (st cu hu : Int) : Nat := rxmRPCK_15 S0 ws S st cu hu
noncomputable def rxzRPCO_15 : rx_Z := ([(0, 0), (0, 0), (0, 0), (0, 0), (0, 0), (0, 0), (0, 0), (0, 0), (0, 6), (0, 6), (0, 1)], [], [(((0, 412), 0), .inr (3, (0, 411))), (((0, 412), 6), .inr (3, (0, 427)))], 0, 0, 72, [(0, .inr (3, (0, 412))), (1, .inr (0, (8, 0))), (2, .inr (0, (9, 0))), (3, .inr (0, (10, 0)))], [.inr (3, (0, 541)), .inr (3, (0, 412))])
noncomputable def rxIRPCO_16 (S0 : Nat → Int → Int) (ws : List Int) (S : Nat → Int → Int) (st cu hu r : Int) : Prop := rxIRPCK_16 S0 ws S st cu hu r ∧ (rkPr S0 → rkPO S0 S)
noncomputable def rxmRPCO_16 (S0 : Nat → Int → Int) (ws : List Int) (S : Nat → Int → Int) (st cu hu r : Int) : Nat := rxmRPCK_16 S0 ws S st cu hu r
noncomputable def rxzRPCO_16 : rx_Z := ([(0, 0), (0, 0), (0, 0), (0, 0), (0, 0), (0, 0), (0, 0), (0, 0), (0, 6), (0, 6), (0, 1), (0, 1)], [], [(((0, 412), 0), .inr (3, (0, 411))), (((0, 412), 6), .inr (3, (0, 427)))], 0, 0, 75, [(0, .inr (3, (0, 412))), (1, .inr (0, (8, 0))), (2, .inr (0, (9, 0))), (3, .inr (0, (10, 0)))], [.inr (0, (11, 0))])
noncomputable def rxIRPCO_17 (S0 : Nat → Int → Int) (ws : List Int) (S : Nat → Int → Int) (st cu hu : Int) : Prop := rxIRPCK_17 S0 ws S st cu hu ∧ (rkPr S0 → rkPO S0 S)
noncomputable def rxmRPCO_17 (S0 : Nat → Int → Int) (ws : List Int) (S : Nat → Int → Int) (st cu hu : Int) : Nat := rxmRPCK_17 S0 ws S st cu hu
noncomputable def rxzRPCO_17 : rx_Z := ([(0, 0), (0, 0), (0, 0), (0, 0), (0, 0), (0, 0), (0, 0), (0, 0), (0, 6), (0, 6), (0, 1)], [], [(((0, 412), 0), .inr (3, (0, 411))), (((0, 412), 6), .inr (3, (0, 427)))], 0, 0, 84, [(0, .inr (3, (0, 412))), (1, .inr (0, (8, 0))), (2, .inr (0, (9, 0))), (3, .inr (0, (10, 0)))], [.inr (3, (0, 412))])
noncomputable def rxIRPCO_18 (S0 : Nat → Int → Int) (ws : List Int) (S : Nat → Int → Int) (st cu hu : Int) : Prop := rxIRPCK_18 S0 ws S st cu hu ∧ (rkPr S0 → rkPO S0 S)
noncomputable def rxmRPCO_18 (S0 : Nat → Int → Int) (ws : List Int) (S : Nat → Int → Int) (st cu hu : Int) : Nat := rxmRPCK_18 S0 ws S st cu hu
noncomputable def rxzRPCO_18 : rx_Z := ([(0, 0), (0, 0), (0, 0), (0, 0), (0, 0), (0, 0), (0, 0), (0, 0), (0, 6), (0, 6), (0, 1)], [], [(((0, 412), 0), .inr (3, (0, 411))), (((0, 412), 6), .inr (3, (0, 427)))], 0, 0, 87, [(0, .inr (3, (0, 412))), (1, .inr (0, (8, 0))), (2, .inr (0, (9, 0))), (3, .inr (0, (10, 0)))], [])
noncomputable def rxIRPCO_19 (S0 : Nat → Int → Int) (ws : List Int) (S : Nat → Int → Int) (st cu hu ki : Int) : Prop := rxIRPCK_19 S0 ws S st cu hu ki ∧ (rkPr S0 → rkPO S0 S)
noncomputable def rxmRPCO_19 (S0 : Nat → Int → Int) (ws : List Int) (S : Nat → Int → Int) (st cu hu ki : Int) : Nat := rxmRPCK_19 S0 ws S st cu hu ki
noncomputable def rxzRPCO_19 : rx_Z := ([(0, 0), (0, 0), (0, 0), (0, 0), (0, 0), (0, 0), (0, 0), (0, 0), (0, 6), (0, 6), (0, 1), (0, 4)], [], [(((0, 412), 0), .inr (3, (0, 411))), (((0, 412), 6), .inr (3, (0, 427)))], 0, 0, 102, [(0, .inr (3, (0, 412))), (1, .inr (0, (8, 0))), (2, .inr (0, (9, 0))), (3, .inr (0, (10, 0)))], [.inr (0, (9, 0)), .inr (0, (8, 0)), .inr (0, (11, 0)), .inr (3, (0, 427))])
noncomputable def rxIRPCO_20 (S0 : Nat → Int → Int) (ws : List Int) (S : Nat → Int → Int) (st cu hu ki : Int) : Prop := rxIRPCK_20 S0 ws S st cu hu ki ∧ (rkPr S0 → rkPO S0 S)
noncomputable def rxmRPCO_20 (S0 : Nat → Int → Int) (ws : List Int) (S : Nat → Int → Int) (st cu hu ki : Int) : Nat := rxmRPCK_20 S0 ws S st cu hu ki
noncomputable def rxzRPCO_20 : rx_Z := ([(0, 0), (0, 0), (0, 0), (0, 0), (0, 0), (0, 0), (0, 0), (0, 0), (0, 6), (0, 6), (0, 1), (0, 4)], [], [(((0, 412), 0), .inr (3, (0, 411))), (((0, 412), 6), .inr (3, (0, 427)))], 0, 0, 105, [(0, .inr (3, (0, 412))), (1, .inr (0, (8, 0))), (2, .inr (0, (9, 0))), (3, .inr (0, (10, 0)))], [])
noncomputable def rxIRPCO_21 (S0 : Nat → Int → Int) (ws : List Int) (S : Nat → Int → Int) (st cu hu sa : Int) : Prop := rxIRPCK_21 S0 ws S st cu hu sa ∧ (rkPr S0 → rkPO S0 S)
noncomputable def rxmRPCO_21 (S0 : Nat → Int → Int) (ws : List Int) (S : Nat → Int → Int) (st cu hu sa : Int) : Nat := rxmRPCK_21 S0 ws S st cu hu sa
noncomputable def rxzRPCO_21 : rx_Z := ([(0, 0), (0, 0), (0, 0), (0, 0), (0, 0), (0, 0), (0, 0), (0, 0), (0, 6), (0, 6), (0, 1), (0, 1522)], [], [(((11, 0), 1000014), .inl none), (((0, 412), 0), .inr (3, (0, 411))), (((0, 412), 6), .inr (3, (0, 427)))], 0, 0, 120, [(0, .inr (3, (0, 412))), (1, .inr (0, (8, 0))), (2, .inr (0, (9, 0))), (3, .inr (0, (10, 0)))], [.inr (0, (0, 0)), .inr (3, (11, 0)), .inr (3, (0, 412))])
noncomputable def rxIRPCO_22 (S0 : Nat → Int → Int) (ws : List Int) (S : Nat → Int → Int) (st cu hu sa res : Int) : Prop := rxIRPCK_22 S0 ws S st cu hu sa res ∧ (rkPr S0 → rkPO S0 S)
noncomputable def rxmRPCO_22 (S0 : Nat → Int → Int) (ws : List Int) (S : Nat → Int → Int) (st cu hu sa res : Int) : Nat := rxmRPCK_22 S0 ws S st cu hu sa res
noncomputable def rxzRPCO_22 : rx_Z := ([(0, 0), (0, 0), (0, 0), (0, 0), (0, 0), (0, 0), (0, 0), (0, 0), (0, 6), (0, 6), (0, 1), (0, 1522), (0, 1)], [], [(((11, 0), 1000014), .inl none), (((0, 412), 0), .inr (3, (0, 411))), (((0, 412), 6), .inr (3, (0, 427)))], 0, 0, 123, [(0, .inr (3, (0, 412))), (1, .inr (0, (8, 0))), (2, .inr (0, (9, 0))), (3, .inr (0, (10, 0)))], [.inr (0, (12, 0))])
noncomputable def rxIRPCO_23 (S0 : Nat → Int → Int) (ws : List Int) (S : Nat → Int → Int) (st cu hu : Int) : Prop := rxIRPCK_23 S0 ws S st cu hu ∧ (rkPr S0 → rkPO S0 S)
noncomputable def rxmRPCO_23 (S0 : Nat → Int → Int) (ws : List Int) (S : Nat → Int → Int) (st cu hu : Int) : Nat := rxmRPCK_23 S0 ws S st cu hu
noncomputable def rxzRPCO_23 : rx_Z := ([(0, 0), (0, 0), (0, 0), (0, 0), (0, 0), (0, 0), (0, 0), (0, 0), (0, 6), (0, 6), (0, 1)], [], [(((0, 412), 0), .inr (3, (0, 411))), (((0, 412), 6), .inr (3, (0, 427)))], 0, 0, 131, [(0, .inr (3, (0, 412))), (1, .inr (0, (8, 0))), (2, .inr (0, (9, 0))), (3, .inr (0, (10, 0)))], [.inr (3, (0, 529)), .inr (3, (0, 412))])
noncomputable def rxIRPCO_24 (S0 : Nat → Int → Int) (ws : List Int) (S : Nat → Int → Int) (st cu hu r : Int) : Prop := rxIRPCK_24 S0 ws S st cu hu r ∧ (rkPr S0 → rkPO S0 S)
noncomputable def rxmRPCO_24 (S0 : Nat → Int → Int) (ws : List Int) (S : Nat → Int → Int) (st cu hu r : Int) : Nat := rxmRPCK_24 S0 ws S st cu hu r
noncomputable def rxzRPCO_24 : rx_Z := ([(0, 0), (0, 0), (0, 0), (0, 0), (0, 0), (0, 0), (0, 0), (0, 0), (0, 6), (0, 6), (0, 1), (0, 1)], [], [(((0, 412), 0), .inr (3, (0, 411))), (((0, 412), 6), .inr (3, (0, 427)))], 0, 0, 134, [(0, .inr (3, (0, 412))), (1, .inr (0, (8, 0))), (2, .inr (0, (9, 0))), (3, .inr (0, (10, 0)))], [.inr (0, (11, 0))])
noncomputable def rxIRPCO_25 (S0 : Nat → Int → Int) (ws : List Int) (S : Nat → Int → Int) (st cu hu : Int) : Prop := rxIRPCK_25 S0 ws S st cu hu ∧ (rkPr S0 → rkPO S0 S)
noncomputable def rxmRPCO_25 (S0 : Nat → Int → Int) (ws : List Int) (S : Nat → Int → Int) (st cu hu : Int) : Nat := rxmRPCK_25 S0 ws S st cu hu
noncomputable def rxzRPCO_25 : rx_Z := ([(0, 0), (0, 0), (0, 0), (0, 0), (0, 0), (0, 0), (0, 0), (0, 0), (0, 6), (0, 6), (0, 1)], [], [(((0, 412), 0), .inr (3, (0, 411))), (((0, 412), 6), .inr (3, (0, 427)))], 0, 0, 140, [(0, .inr (3, (0, 412))), (1, .inr (0, (8, 0))), (2, .inr (0, (9, 0))), (3, .inr (0, (10, 0)))], [.inr (3, (0, 412))])
noncomputable def rxIRPCO_26 (S0 : Nat → Int → Int) (ws : List Int) (S : Nat → Int → Int) (st cu hu : Int) : Prop := rxIRPCK_26 S0 ws S st cu hu ∧ (rkPr S0 → rkPO S0 S)
noncomputable def rxmRPCO_26 (S0 : Nat → Int → Int) (ws : List Int) (S : Nat → Int → Int) (st cu hu : Int) : Nat := rxmRPCK_26 S0 ws S st cu hu
noncomputable def rxzRPCO_26 : rx_Z := ([(0, 0), (0, 0), (0, 0), (0, 0), (0, 0), (0, 0), (0, 0), (0, 0), (0, 6), (0, 6), (0, 1)], [], [(((0, 412), 0), .inr (3, (0, 411))), (((0, 412), 6), .inr (3, (0, 427)))], 0, 0, 143, [(0, .inr (3, (0, 412))), (1, .inr (0, (8, 0))), (2, .inr (0, (9, 0))), (3, .inr (0, (10, 0)))], [])
noncomputable def rxIRPCO_27 (S0 : Nat → Int → Int) (ws : List Int) (S : Nat → Int → Int) (st cu hu sa : Int) : Prop := rxIRPCK_27 S0 ws S st cu hu sa ∧ (rkPr S0 → rkPO S0 S)
noncomputable def rxmRPCO_27 (S0 : Nat → Int → Int) (ws : List Int) (S : Nat → Int → Int) (st cu hu sa : Int) : Nat := rxmRPCK_27 S0 ws S st cu hu sa
noncomputable def rxzRPCO_27 : rx_Z := ([(0, 0), (0, 0), (0, 0), (0, 0), (0, 0), (0, 0), (0, 0), (0, 0), (0, 6), (0, 6), (0, 1), (0, 1522)], [], [(((11, 0), 1000014), .inl none), (((0, 412), 0), .inr (3, (0, 411))), (((0, 412), 6), .inr (3, (0, 427)))], 0, 0, 152, [(0, .inr (3, (0, 412))), (1, .inr (0, (8, 0))), (2, .inr (0, (9, 0))), (3, .inr (0, (10, 0)))], [.inr (0, (0, 0)), .inr (3, (11, 0)), .inr (3, (0, 412))])
noncomputable def rxIRPCO_28 (S0 : Nat → Int → Int) (ws : List Int) (S : Nat → Int → Int) (st cu hu sa res : Int) : Prop := rxIRPCK_28 S0 ws S st cu hu sa res ∧ (rkPr S0 → rkPO S0 S)
noncomputable def rxmRPCO_28 (S0 : Nat → Int → Int) (ws : List Int) (S : Nat → Int → Int) (st cu hu sa res : Int) : Nat := rxmRPCK_28 S0 ws S st cu hu sa res
noncomputable def rxzRPCO_28 : rx_Z := ([(0, 0), (0, 0), (0, 0), (0, 0), (0, 0), (0, 0), (0, 0), (0, 0), (0, 6), (0, 6), (0, 1), (0, 1522), (0, 1)], [], [(((11, 0), 1000014), .inl none), (((0, 412), 0), .inr (3, (0, 411))), (((0, 412), 6), .inr (3, (0, 427)))], 0, 0, 155, [(0, .inr (3, (0, 412))), (1, .inr (0, (8, 0))), (2, .inr (0, (9, 0))), (3, .inr (0, (10, 0)))], [.inr (0, (12, 0))])
noncomputable def rxoRPCO_0_0 : bx_HO := (([(0, 0), (0, 0), (0, 0), (0, 0), (0, 0), (0, 0), (0, 0), (0, 0)], [], [(((0, 412), 6), .inr (3, (0, 427))), (((0, 412), 0), .inr (3, (0, 411)))], 0, 0, 3, [(0, .inr (3, (0, 412)))], [.inr (3, (0, 533)), .inr (3, (0, 412))]), [], [], [(0, 0), (0, 0), (0, 0), (0, 0), (0, 0), (0, 0), (0, 0), (0, 0)], 1)
noncomputable def rxoRPCO_2_0 : bx_HO := (([(0, 0), (0, 0), (0, 0), (0, 0), (0, 0), (0, 0), (0, 0), (0, 0), (1, 1)], [(3, (8, 0), (0, 0))], [(((0, 412), 0), .inr (3, (0, 411))), (((0, 412), 6), .inr (3, (0, 427)))], 0, 0, 12, [(0, .inr (3, (0, 412)))], [.inr (3, (0, 412))]), [], [], [(0, 0), (0, 0), (0, 0), (0, 0), (0, 0), (0, 0), (0, 0), (0, 0)], 3)
noncomputable def rxeRPCO_2_0 : rx_End × List (Nat × Int × Int) := (([(0, 0), (0, 0), (0, 0), (0, 0), (0, 0), (0, 0), (0, 0), (0, 0), (0, 0)], [], [(((0, 412), 0), .inr (3, (0, 411))), (((0, 412), 6), .inr (3, (0, 427)))], some (.inr (0, (0, 0)))), [])
noncomputable def rxoRPCO_4_0 : bx_HO := (([(0, 0), (0, 0), (0, 0), (0, 0), (0, 0), (0, 0), (0, 0), (0, 0), (0, 6)], [], [(((0, 412), 0), .inr (3, (0, 411))), (((0, 412), 6), .inr (3, (0, 427)))], 0, 0, 26, [(1, .inr (0, (8, 0))), (0, .inr (3, (0, 412)))], [.inr (3, (0, 412))]), [], [], [(0, 0), (0, 0), (0, 0), (0, 0), (0, 0), (0, 0), (0, 0), (0, 0), (8, 0)], 5)
noncomputable def rxeRPCO_4_0 : rx_End × List (Nat × Int × Int) := (([(0, 0), (0, 0), (0, 0), (0, 0), (0, 0), (0, 0), (0, 0), (0, 0), ((-2147483648), (-1)), (0, 400)], [], [(((0, 0), 1851192626986356798227167157524121751206303872841384192011665411000000), .inr (0, (9, 0))), (((0, 412), 4), .inr (0, (9, 0))), (((0, 0), 1851192626986356797825753743950570534658660943933713684904017920000000), .inr (0, (9, 0))), (((0, 412), 2), .inr (0, (9, 0))), (((0, 412), 0), .inr (3, (0, 411))), (((0, 412), 6), .inr (3, (0, 427)))], some (.inr (0, (0, 0)))), [])
noncomputable def rxoRPCO_6_0 : bx_HO := (([(0, 0), (0, 0), (0, 0), (0, 0), (0, 0), (0, 0), (0, 0), (0, 0), (0, 6)], [], [(((0, 412), 0), .inr (3, (0, 411))), (((0, 412), 6), .inr (3, (0, 427)))], 0, 0, 32, [(0, .inr (3, (0, 412))), (1, .inr (0, (8, 0)))], [.inr (3, (0, 524)), .inr (3, (0, 412))]), [], [], [(0, 0), (0, 0), (0, 0), (0, 0), (0, 0), (0, 0), (0, 0), (0, 0), (8, 0)], 7)
noncomputable def rxoRPCO_8_0 : bx_HO := (([(0, 0), (0, 0), (0, 0), (0, 0), (0, 0), (0, 0), (0, 0), (0, 0), (0, 6), (1, 1)], [(3, (9, 0), (0, 0))], [(((0, 412), 0), .inr (3, (0, 411))), (((0, 412), 6), .inr (3, (0, 427)))], 0, 0, 41, [(0, .inr (3, (0, 412))), (1, .inr (0, (8, 0)))], [.inr (3, (0, 412))]), [], [], [(0, 0), (0, 0), (0, 0), (0, 0), (0, 0), (0, 0), (0, 0), (0, 0), (8, 0)], 9)
noncomputable def rxeRPCO_8_0 : rx_End × List (Nat × Int × Int) := (([(0, 0), (0, 0), (0, 0), (0, 0), (0, 0), (0, 0), (0, 0), (0, 0), (0, 6), (0, 0)], [], [(((0, 412), 0), .inr (3, (0, 411))), (((0, 412), 6), .inr (3, (0, 427)))], some (.inr (0, (0, 0)))), [])
noncomputable def rxoRPCO_10_0 : bx_HO := (([(0, 0), (0, 0), (0, 0), (0, 0), (0, 0), (0, 0), (0, 0), (0, 0), (0, 6), (0, 6)], [], [(((0, 412), 0), .inr (3, (0, 411))), (((0, 412), 6), .inr (3, (0, 427)))], 0, 0, 55, [(2, .inr (0, (9, 0))), (0, .inr (3, (0, 412))), (1, .inr (0, (8, 0)))], [.inr (3, (0, 412))]), [], [], [(0, 0), (0, 0), (0, 0), (0, 0), (0, 0), (0, 0), (0, 0), (0, 0), (8, 0), (9, 0)], 11)
noncomputable def rxeRPCO_10_0 : rx_End × List (Nat × Int × Int) := (([(0, 0), (0, 0), (0, 0), (0, 0), (0, 0), (0, 0), (0, 0), (0, 0), (0, 6), ((-2147483648), (-1)), (0, 400)], [], [(((0, 0), 1851192626986356798227167157524121751206303872841384192011665411000000), .inr (0, (10, 0))), (((0, 412), 4), .inr (0, (10, 0))), (((0, 0), 1851192626986356797825753743950570534658660943933713684904017920000000), .inr (0, (10, 0))), (((0, 412), 2), .inr (0, (10, 0))), (((0, 412), 0), .inr (3, (0, 411))), (((0, 412), 6), .inr (3, (0, 427)))], some (.inr (0, (0, 0)))), [])
noncomputable def rxoRPCO_12_0 : bx_HO := (([(0, 0), (0, 0), (0, 0), (0, 0), (0, 0), (0, 0), (0, 0), (0, 0), (0, 6), (0, 6)], [], [(((0, 412), 0), .inr (3, (0, 411))), (((0, 412), 6), .inr (3, (0, 427)))], 0, 0, 61, [(0, .inr (3, (0, 412))), (1, .inr (0, (8, 0))), (2, .inr (0, (9, 0)))], [.inr (3, (0, 531)), .inr (3, (0, 412))]), [], [], [(0, 0), (0, 0), (0, 0), (0, 0), (0, 0), (0, 0), (0, 0), (0, 0), (8, 0), (9, 0)], 13)
noncomputable def rxoRPCO_14_0 : bx_HO := (([(0, 0), (0, 0), (0, 0), (0, 0), (0, 0), (0, 0), (0, 0), (0, 0), (0, 6), (0, 6), (0, 0)], [], [(((0, 412), 0), .inr (3, (0, 411))), (((0, 412), 6), .inr (3, (0, 427)))], 0, 0, 72, [(3, .inr (0, (10, 0))), (0, .inr (3, (0, 412))), (1, .inr (0, (8, 0))), (2, .inr (0, (9, 0)))], [.inr (3, (0, 541)), .inr (3, (0, 412))]), [], [], [(0, 0), (0, 0), (0, 0), (0, 0), (0, 0), (0, 0), (0, 0), (0, 0), (8, 0), (9, 0), (10, 0)], 15)
noncomputable def rxoRPCO_14_1 : bx_HO := (([(0, 0), (0, 0), (0, 0), (0, 0), (0, 0), (0, 0), (0, 0), (0, 0), (0, 6), (0, 6), (1, 1)], [(3, (10, 0), (0, 0))], [(((0, 412), 0), .inr (3, (0, 411))), (((0, 412), 6), .inr (3, (0, 427)))], 0, 0, 84, [(3, .inr (0, (10, 0))), (0, .inr (3, (0, 412))), (1, .inr (0, (8, 0))), (2, .inr (0, (9, 0)))], [.inr (3, (0, 412))]), [], [], [(0, 0), (0, 0), (0, 0), (0, 0), (0, 0), (0, 0), (0, 0), (0, 0), (8, 0), (9, 0), (10, 0)], 17)
noncomputable def rxoRPCO_16_0 : bx_HO := (([(0, 0), (0, 0), (0, 0), (0, 0), (0, 0), (0, 0), (0, 0), (0, 0), (0, 6), (0, 6), (0, 1), (1, 1)], [(3, (11, 0), (0, 0))], [(((0, 412), 0), .inr (3, (0, 411))), (((0, 412), 6), .inr (3, (0, 427)))], 0, 0, 84, [(0, .inr (3, (0, 412))), (1, .inr (0, (8, 0))), (2, .inr (0, (9, 0))), (3, .inr (0, (10, 0)))], [.inr (3, (0, 412))]), [], [], [(0, 0), (0, 0), (0, 0), (0, 0), (0, 0), (0, 0), (0, 0), (0, 0), (8, 0), (9, 0), (10, 0)], 17)
noncomputable def rxeRPCO_16_0 : rx_End × List (Nat × Int × Int) := (([(0, 0), (0, 0), (0, 0), (0, 0), (0, 0), (0, 0), (0, 0), (0, 0), (0, 6), (0, 6), (0, 1), (0, 0), (0, 400)], [], [(((0, 0), 1851192626986356798227167157524121751206303872841384192011665411000000), .inr (0, (12, 0))), (((0, 412), 4), .inr (0, (12, 0))), (((0, 0), 1851192626986356797825753743950570534658660943933713684904017920000000), .inr (0, (12, 0))), (((0, 412), 2), .inr (0, (12, 0))), (((0, 412), 0), .inr (3, (0, 411))), (((0, 412), 6), .inr (3, (0, 427)))], some (.inr (0, (0, 0)))), [])
noncomputable def rxoRPCO_18_0 : bx_HO := (([(0, 0), (0, 0), (0, 0), (0, 0), (0, 0), (0, 0), (0, 0), (0, 0), (0, 6), (0, 6), (1, 1)], [(3, (10, 0), (0, 0))], [(((0, 412), 0), .inr (3, (0, 411))), (((0, 412), 6), .inr (3, (0, 427)))], 0, 0, 102, [(0, .inr (3, (0, 412))), (1, .inr (0, (8, 0))), (2, .inr (0, (9, 0))), (3, .inr (0, (10, 0)))], [.inr (0, (9, 0)), .inr (0, (8, 0)), .inr (0, (0, 4)), .inr (3, (0, 427))]), [], [], [(0, 0), (0, 0), (0, 0), (0, 0), (0, 0), (0, 0), (0, 0), (0, 0), (8, 0), (9, 0), (10, 0), (0, 4)], 19)
noncomputable def rxoRPCO_18_1 : bx_HO := (([(0, 0), (0, 0), (0, 0), (0, 0), (0, 0), (0, 0), (0, 0), (0, 0), (0, 6), (0, 6), (0, 0)], [], [(((0, 412), 0), .inr (3, (0, 411))), (((0, 412), 6), .inr (3, (0, 427)))], 0, 0, 102, [(0, .inr (3, (0, 412))), (1, .inr (0, (8, 0))), (2, .inr (0, (9, 0))), (3, .inr (0, (10, 0)))], [.inr (0, (9, 0)), .inr (0, (8, 0)), .inr (0, (0, 3)), .inr (3, (0, 427))]), [], [], [(0, 0), (0, 0), (0, 0), (0, 0), (0, 0), (0, 0), (0, 0), (0, 0), (8, 0), (9, 0), (10, 0), (0, 3)], 19)
noncomputable def rxoRPCO_20_0 : bx_HO := (([(0, 0), (0, 0), (0, 0), (0, 0), (0, 0), (0, 0), (0, 0), (0, 0), (0, 6), (0, 6), (0, 0), (0, 4), (0, 1522)], [], [(((0, 0), 1851192626986356799029993984671224184301589730656725206235807744000000), .inr (3, (12, 0))), (((0, 427), 8), .inr (3, (12, 0))), (((12, 0), 1000014), .inl none), (((0, 412), 0), .inr (3, (0, 411))), (((0, 412), 6), .inr (3, (0, 427)))], 0, 0, 120, [(0, .inr (3, (0, 412))), (1, .inr (0, (8, 0))), (2, .inr (0, (9, 0))), (3, .inr (0, (10, 0)))], [.inr (0, (0, 0)), .inr (3, (12, 0)), .inr (3, (0, 412))]), [], [], [(0, 0), (0, 0), (0, 0), (0, 0), (0, 0), (0, 0), (0, 0), (0, 0), (8, 0), (9, 0), (10, 0), (12, 0)], 21)
noncomputable def rxeRPCO_20_0 : rx_End × List (Nat × Int × Int) := (([(0, 0), (0, 0), (0, 0), (0, 0), (0, 0), (0, 0), (0, 0), (0, 0), (0, 6), (0, 6), (1, 1), (0, 4)], [(3, (10, 0), (0, 0))], [(((0, 412), 0), .inr (3, (0, 411))), (((0, 412), 6), .inr (3, (0, 427)))], some (.inr (0, (0, 1)))), [])
noncomputable def rxoRPCO_22_0 : bx_HO := (([(0, 0), (0, 0), (0, 0), (0, 0), (0, 0), (0, 0), (0, 0), (0, 0), (0, 6), (0, 6), (0, 1), (0, 1522), (1, 1)], [(3, (12, 0), (0, 0))], [(((11, 0), 1000014), .inl none), (((0, 412), 0), .inr (3, (0, 411))), (((0, 412), 6), .inr (3, (0, 427)))], 0, 0, 131, [(0, .inr (3, (0, 412))), (1, .inr (0, (8, 0))), (2, .inr (0, (9, 0))), (3, .inr (0, (10, 0)))], [.inr (3, (0, 529)), .inr (3, (0, 412))]), [], [], [(0, 0), (0, 0), (0, 0), (0, 0), (0, 0), (0, 0), (0, 0), (0, 0), (8, 0), (9, 0), (10, 0)], 23)
noncomputable def rxeRPCO_22_0 : rx_End × List (Nat × Int × Int) := (([(0, 0), (0, 0), (0, 0), (0, 0), (0, 0), (0, 0), (0, 0), (0, 0), (0, 6), (0, 6), (0, 1), (0, 1522), (0, 0)], [], [(((11, 0), 1000014), .inl none), (((0, 412), 0), .inr (3, (0, 411))), (((0, 412), 6), .inr (3, (0, 427)))], some (.inr (0, (0, 0)))), [])
noncomputable def rxoRPCO_24_0 : bx_HO := (([(0, 0), (0, 0), (0, 0), (0, 0), (0, 0), (0, 0), (0, 0), (0, 0), (0, 6), (0, 6), (0, 1), (1, 1)], [(3, (11, 0), (0, 0))], [(((0, 412), 0), .inr (3, (0, 411))), (((0, 412), 6), .inr (3, (0, 427)))], 0, 0, 140, [(0, .inr (3, (0, 412))), (1, .inr (0, (8, 0))), (2, .inr (0, (9, 0))), (3, .inr (0, (10, 0)))], [.inr (3, (0, 412))]), [], [], [(0, 0), (0, 0), (0, 0), (0, 0), (0, 0), (0, 0), (0, 0), (0, 0), (8, 0), (9, 0), (10, 0)], 25)
noncomputable def rxeRPCO_24_0 : rx_End × List (Nat × Int × Int) := (([(0, 0), (0, 0), (0, 0), (0, 0), (0, 0), (0, 0), (0, 0), (0, 0), (0, 6), (0, 6), (0, 1), (0, 0)], [], [(((0, 412), 0), .inr (3, (0, 411))), (((0, 412), 6), .inr (3, (0, 427)))], some (.inr (0, (0, 1)))), [])
noncomputable def rxoRPCO_26_0 : bx_HO := (([(0, 0), (0, 0), (0, 0), (0, 0), (0, 0), (0, 0), (0, 0), (0, 0), (0, 6), (0, 6), (0, 1), (0, 1522)], [], [(((0, 0), 1851192626986356799230700691457999792575411195110560459789631488000000), .inr (3, (11, 0))), (((0, 427), 9), .inr (3, (11, 0))), (((11, 0), 1000014), .inl none), (((0, 412), 0), .inr (3, (0, 411))), (((0, 412), 6), .inr (3, (0, 427)))], 0, 0, 152, [(0, .inr (3, (0, 412))), (1, .inr (0, (8, 0))), (2, .inr (0, (9, 0))), (3, .inr (0, (10, 0)))], [.inr (0, (0, 0)), .inr (3, (11, 0)), .inr (3, (0, 412))]), [], [], [(0, 0), (0, 0), (0, 0), (0, 0), (0, 0), (0, 0), (0, 0), (0, 0), (8, 0), (9, 0), (10, 0), (11, 0)], 27)
noncomputable def rxeRPCO_28_0 : rx_End × List (Nat × Int × Int) := (([(0, 0), (0, 0), (0, 0), (0, 0), (0, 0), (0, 0), (0, 0), (0, 0), (0, 6), (0, 6), (0, 1), (0, 1522), (0, 1)], [], [(((11, 0), 1000014), .inl none), (((0, 412), 0), .inr (3, (0, 411))), (((0, 412), 6), .inr (3, (0, 427)))], some (.inr (0, (12, 0)))), [])
noncomputable def rxYRPCO : List bx_HE := [(rxzRPCO_0, [rxoRPCO_0_0], []), (rxzRPCO_1, [], []), (rxzRPCO_2, [rxoRPCO_2_0], [rxeRPCO_2_0]), (rxzRPCO_3, [], []), (rxzRPCO_4, [rxoRPCO_4_0], [rxeRPCO_4_0]), (rxzRPCO_5, [], []), (rxzRPCO_6, [rxoRPCO_6_0], []), (rxzRPCO_7, [], []), (rxzRPCO_8, [rxoRPCO_8_0], [rxeRPCO_8_0]), (rxzRPCO_9, [], []), (rxzRPCO_10, [rxoRPCO_10_0], [rxeRPCO_10_0]), (rxzRPCO_11, [], []), (rxzRPCO_12, [rxoRPCO_12_0], []), (rxzRPCO_13, [], []), (rxzRPCO_14, [rxoRPCO_14_0, rxoRPCO_14_1], []), (rxzRPCO_15, [], []), (rxzRPCO_16, [rxoRPCO_16_0], [rxeRPCO_16_0]), (rxzRPCO_17, [], []), (rxzRPCO_18, [rxoRPCO_18_0, rxoRPCO_18_1], []), (rxzRPCO_19, [], []), (rxzRPCO_20, [rxoRPCO_20_0], [rxeRPCO_20_0]), (rxzRPCO_21, [], []), (rxzRPCO_22, [rxoRPCO_22_0], [rxeRPCO_22_0]), (rxzRPCO_23, [], []), (rxzRPCO_24, [rxoRPCO_24_0], [rxeRPCO_24_0]), (rxzRPCO_25, [], []), (rxzRPCO_26, [rxoRPCO_26_0], []), (rxzRPCO_27, [], []), (rxzRPCO_28, [], [rxeRPCO_28_0])]
noncomputable def rxURPCO (q : bx_HE) : Bool := Nat.beq (rx_zpc q.1) 3 || Nat.beq (rx_zpc q.1) 12 || Nat.beq (rx_zpc q.1) 26 || Nat.beq (rx_zpc q.1) 32 || Nat.beq (rx_zpc q.1) 41 || Nat.beq (rx_zpc q.1) 55 || Nat.beq (rx_zpc q.1) 61 || Nat.beq (rx_zpc q.1) 72 || Nat.beq (rx_zpc q.1) 84 || Nat.beq (rx_zpc q.1) 102 || Nat.beq (rx_zpc q.1) 120 || Nat.beq (rx_zpc q.1) 131 || Nat.beq (rx_zpc q.1) 140 || Nat.beq (rx_zpc q.1) 152
noncomputable def rxYBRPCO : bx_B := (rxV, rxNP, rxDmf, bx_mdH rxCRPCO.2.2.1)
set_option maxRecDepth 100000 in
theorem rxYcRPCO : bx_chkH rxYBRPCO rxM85 rxCRPCO rxYRPCO (rxURPCO, fun cut z => rx_ex2 (rxCT rxYBRPCO rxCnE) cut 30000 rxCRPCO.2.2.2.1 85 z) = true := by decide +kernel
noncomputable def rxIRPCO (S0 : Nat → Int → Int) (ws : List Int) (i : Nat) : bx_SP := fun S r => match i with | 0 => rxIRPCO_0 S0 ws S | 1 => rxIRPCO_1 S0 ws S | 2 => rxIRPCO_2 S0 ws S (r 8) | 3 => rxIRPCO_3 S0 ws S | 4 => rxIRPCO_4 S0 ws S (r 8) | 5 => rxIRPCO_5 S0 ws S (r 8) | 6 => rxIRPCO_6 S0 ws S (r 8) | 7 => rxIRPCO_7 S0 ws S (r 8) | 8 => rxIRPCO_8 S0 ws S (r 8) (r 9) | 9 => rxIRPCO_9 S0 ws S (r 8) | 10 => rxIRPCO_10 S0 ws S (r 8) (r 9) | 11 => rxIRPCO_11 S0 ws S (r 8) (r 9) | 12 => rxIRPCO_12 S0 ws S (r 8) (r 9) | 13 => rxIRPCO_13 S0 ws S (r 8) (r 9) | 14 => rxIRPCO_14 S0 ws S (r 8) (r 9) (r 10) | 15 => rxIRPCO_15 S0 ws S (r 8) (r 9) (r 10) | 16 => rxIRPCO_16 S0 ws S (r 8) (r 9) (r 10) (r 11) | 17 => rxIRPCO_17 S0 ws S (r 8) (r 9) (r 10) | 18 => rxIRPCO_18 S0 ws S (r 8) (r 9) (r 10) | 19 => rxIRPCO_19 S0 ws S (r 8) (r 9) (r 10) (r 11) | 20 => rxIRPCO_20 S0 ws S (r 8) (r 9) (r 10) (r 11) | 21 => rxIRPCO_21 S0 ws S (r 8) (r 9) (r 10) (r 11) | 22 => rxIRPCO_22 S0 ws S (r 8) (r 9) (r 10) (r 11) (r 12) | 23 => rxIRPCO_23 S0 ws S (r 8) (r 9) (r 10) | 24 => rxIRPCO_24 S0 ws S (r 8) (r 9) (r 10) (r 11) | 25 => rxIRPCO_25 S0 ws S (r 8) (r 9) (r 10) | 26 => rxIRPCO_26 S0 ws S (r 8) (r 9) (r 10) | 27 => rxIRPCO_27 S0 ws S (r 8) (r 9) (r 10) (r 11) | 28 => rxIRPCO_28 S0 ws S (r 8) (r 9) (r 10) (r 11) (r 12) | _ => False
noncomputable def rxmRPCO (S0 : Nat → Int → Int) (ws : List Int) (i : Nat) (S : Nat → Int → Int) (r : Nat → Int) : Nat := match i with | 0 => rxmRPCO_0 S0 ws S | 1 => rxmRPCO_1 S0 ws S | 2 => rxmRPCO_2 S0 ws S (r 8) | 3 => rxmRPCO_3 S0 ws S | 4 => rxmRPCO_4 S0 ws S (r 8) | 5 => rxmRPCO_5 S0 ws S (r 8) | 6 => rxmRPCO_6 S0 ws S (r 8) | 7 => rxmRPCO_7 S0 ws S (r 8) | 8 => rxmRPCO_8 S0 ws S (r 8) (r 9) | 9 => rxmRPCO_9 S0 ws S (r 8) | 10 => rxmRPCO_10 S0 ws S (r 8) (r 9) | 11 => rxmRPCO_11 S0 ws S (r 8) (r 9) | 12 => rxmRPCO_12 S0 ws S (r 8) (r 9) | 13 => rxmRPCO_13 S0 ws S (r 8) (r 9) | 14 => rxmRPCO_14 S0 ws S (r 8) (r 9) (r 10) | 15 => rxmRPCO_15 S0 ws S (r 8) (r 9) (r 10) | 16 => rxmRPCO_16 S0 ws S (r 8) (r 9) (r 10) (r 11) | 17 => rxmRPCO_17 S0 ws S (r 8) (r 9) (r 10) | 18 => rxmRPCO_18 S0 ws S (r 8) (r 9) (r 10) | 19 => rxmRPCO_19 S0 ws S (r 8) (r 9) (r 10) (r 11) | 20 => rxmRPCO_20 S0 ws S (r 8) (r 9) (r 10) (r 11) | 21 => rxmRPCO_21 S0 ws S (r 8) (r 9) (r 10) (r 11) | 22 => rxmRPCO_22 S0 ws S (r 8) (r 9) (r 10) (r 11) (r 12) | 23 => rxmRPCO_23 S0 ws S (r 8) (r 9) (r 10) | 24 => rxmRPCO_24 S0 ws S (r 8) (r 9) (r 10) (r 11) | 25 => rxmRPCO_25 S0 ws S (r 8) (r 9) (r 10) | 26 => rxmRPCO_26 S0 ws S (r 8) (r 9) (r 10) | 27 => rxmRPCO_27 S0 ws S (r 8) (r 9) (r 10) (r 11) | 28 => rxmRPCO_28 S0 ws S (r 8) (r 9) (r 10) (r 11) (r 12) | _ => 0
noncomputable def rxPRPCO (S0 : Nat → Int → Int) (ws : List Int) : Prop := rxPRPCK S0 ws
noncomputable def rxPSRPCO (S0 : Nat → Int → Int) (ws : List Int) (S : Nat → Int → Int) (w : Option Int) : Prop := rxPSRPCK S0 ws S w ∧ (rkPr S0 → rkPO S0 S)
theorem rxkRPCO_1 {S0 : Nat → Int → Int} {ws : List Int} {S : Nat → Int → Int} (hP : rxPRPCO S0 ws) (hin : bx_same rxL (bx_mdl rxCRPCO.2.2.1) S0 S) (I0 : bx_Inv rxL S) (hinv : rxIRPCO_1 S0 ws S)  : rxPTKW S [412, 533] ∧ ∀ (S_p : Nat → Int → Int) (r : Int), 0 ≤ r → r ≤ 1 → rxPSTKW S [412, 533] S_p (some r) → bx_Inv rxL S_p → bx_same rxL (bx_mdl rxC90.2.2.1) S S_p → rxIRPCO_2 S0 ws S_p r ∧ rxmRPCO_2 S0 ws S_p r < rxmRPCO_1 S0 ws S := by
  obtain ⟨hI, hx⟩ := hinv
  have g_ := rxkRPCK_1 hP hin I0 hI
  exact ⟨g_.1, fun S_p r l_ u_ hq I1 hsm => ⟨⟨(g_.2 S_p r l_ u_ hq I1 hsm).1, (by
    intro hp
    exact rkPO_sm hsm (by decide +kernel) (hx hp))⟩, (g_.2 S_p r l_ u_ hq I1 hsm).2⟩⟩
theorem rxsRPCO_1 {X : (Nat → Int → Int) → Prop} {S0 : Nat → Int → Int} {ws : List Int} (hP : rxPRPCO S0 ws) : rx_obK X S0 rxCRPCO.2.2.1 rxC90.2.2.1 (rxIRPCO S0 ws) (rxmRPCO S0 ws) 1 2 rxzRPCO_1 rxzRPCO_2 [.inr (3, (0, 412)), .inr (3, (0, 533))] (some 8) rxPTKW rxPSTKW := by
  intro S r hinv hXS I0 hin hs_ hf_
  have b_ := bx_bds_sat hs_
  have f_ := bx_fcl_ok hs_.1 hf_
  have g := rxkRPCO_1 hP hin I0 hinv 
  have ea : List.map (bx_num r) [.inr (3, (0, 412)), .inr (3, (0, 533))] = [412, 533] := by
    simp only [List.map_cons, List.map_nil, bx_xv_ok hs_.1]
    rfl
  rw [ea]
  refine ⟨g.1, fun S_p w r_p hPS hX_p I1 hsm hr hw hs_p => ?_⟩
  have hw := hw _ rfl
  subst hw
  have b_p := hs_p.2.2 8 _ _ rfl
  have g2 := g.2 S_p (r_p 8) b_p.1 b_p.2 hPS I1 hsm
  show rxIRPCO_2 S0 ws S_p (r_p 8) ∧ rxmRPCO_2 S0 ws S_p (r_p 8) < _
  exact g2
theorem rxkRPCO_3 {S0 : Nat → Int → Int} {ws : List Int} {S : Nat → Int → Int} (hP : rxPRPCO S0 ws) (hin : bx_same rxL (bx_mdl rxCRPCO.2.2.1) S0 S) (I0 : bx_Inv rxL S) (hinv : rxIRPCO_3 S0 ws S)  : rxPPLH S [412] ∧ ∀ (S_p : Nat → Int → Int) (pl : Int), (-2147483648) ≤ pl → pl ≤ 6 → rxPSPLH S [412] S_p (some pl) → bx_Inv rxL S_p → bx_same rxL (bx_mdl rxC91.2.2.1) S S_p → rxIRPCO_4 S0 ws S_p pl ∧ rxmRPCO_4 S0 ws S_p pl < rxmRPCO_3 S0 ws S := by
  obtain ⟨hI, hx⟩ := hinv
  have g_ := rxkRPCK_3 hP hin I0 hI
  exact ⟨g_.1, fun S_p pl l_ u_ hq I1 hsm => ⟨⟨(g_.2 S_p pl l_ u_ hq I1 hsm).1, (by
    intro hp
    exact rkPO_sm hsm (by decide +kernel) (hx hp))⟩, (g_.2 S_p pl l_ u_ hq I1 hsm).2⟩⟩
theorem rxsRPCO_3 {X : (Nat → Int → Int) → Prop} {S0 : Nat → Int → Int} {ws : List Int} (hP : rxPRPCO S0 ws) : rx_obK X S0 rxCRPCO.2.2.1 rxC91.2.2.1 (rxIRPCO S0 ws) (rxmRPCO S0 ws) 3 4 rxzRPCO_3 rxzRPCO_4 [.inr (3, (0, 412))] (some 8) rxPPLH rxPSPLH := by
  intro S r hinv hXS I0 hin hs_ hf_
  have b_ := bx_bds_sat hs_
  have f_ := bx_fcl_ok hs_.1 hf_
  have g := rxkRPCO_3 hP hin I0 hinv 
  have ea : List.map (bx_num r) [.inr (3, (0, 412))] = [412] := by
    simp only [List.map_cons, List.map_nil, bx_xv_ok hs_.1]
    rfl
  rw [ea]
  refine ⟨g.1, fun S_p w r_p hPS hX_p I1 hsm hr hw hs_p => ?_⟩
  have hw := hw _ rfl
  subst hw
  have b_p := hs_p.2.2 8 _ _ rfl
  have g2 := g.2 S_p (r_p 8) b_p.1 b_p.2 hPS I1 hsm
  show rxIRPCO_4 S0 ws S_p (r_p 8) ∧ rxmRPCO_4 S0 ws S_p (r_p 8) < _
  exact g2
theorem rxkRPCO_5 {S0 : Nat → Int → Int} {ws : List Int} {S : Nat → Int → Int} {st : Int} (hP : rxPRPCO S0 ws) (hin : bx_same rxL (bx_mdl rxCRPCO.2.2.1) S0 S) (I0 : bx_Inv rxL S) (hinv : rxIRPCO_5 S0 ws S st) (l8 : 0 ≤ st) (u8 : st ≤ 6) : rxPAD S [412] ∧ ∀ (S_p : Nat → Int → Int), rxPSAD S [412] S_p none → bx_Inv rxL S_p → bx_same rxL (bx_mdl rxC84.2.2.1) S S_p → rxIRPCO_6 S0 ws S_p st ∧ rxmRPCO_6 S0 ws S_p st < rxmRPCO_5 S0 ws S st := by
  obtain ⟨hI, hx⟩ := hinv
  have g_ := rxkRPCK_5 hP hin I0 hI l8 u8
  exact ⟨g_.1, fun S_p hq I1 hsm => ⟨⟨(g_.2 S_p hq I1 hsm).1, (by
    intro hp
    exact rkPO_sm hsm (by decide +kernel) (hx hp))⟩, (g_.2 S_p hq I1 hsm).2⟩⟩
theorem rxsRPCO_5 {X : (Nat → Int → Int) → Prop} {S0 : Nat → Int → Int} {ws : List Int} (hP : rxPRPCO S0 ws) : rx_obK X S0 rxCRPCO.2.2.1 rxC84.2.2.1 (rxIRPCO S0 ws) (rxmRPCO S0 ws) 5 6 rxzRPCO_5 rxzRPCO_6 [.inr (3, (0, 412))] none rxPAD rxPSAD := by
  intro S r hinv hXS I0 hin hs_ hf_
  have b_ := bx_bds_sat hs_
  have f_ := bx_fcl_ok hs_.1 hf_
  obtain ⟨⟨l8, u8⟩, -⟩ := b_
  have g := rxkRPCO_5 hP hin I0 hinv l8 u8
  have ea : List.map (bx_num r) [.inr (3, (0, 412))] = [412] := by
    simp only [List.map_cons, List.map_nil, bx_xv_ok hs_.1]
    rfl
  rw [ea]
  refine ⟨g.1, fun S_p w r_p hPS hX_p I1 hsm hr hw hs_p => ?_⟩
  have hw : w = none := hPS.1
  subst hw
  have g2 := g.2 S_p hPS I1 hsm
  show rxIRPCO_6 S0 ws S_p (r_p 8) ∧ rxmRPCO_6 S0 ws S_p (r_p 8) < _
  rw [hr 8 (by decide)]
  exact g2
theorem rxkRPCO_7 {S0 : Nat → Int → Int} {ws : List Int} {S : Nat → Int → Int} {st : Int} (hP : rxPRPCO S0 ws) (hin : bx_same rxL (bx_mdl rxCRPCO.2.2.1) S0 S) (I0 : bx_Inv rxL S) (hinv : rxIRPCO_7 S0 ws S st) (l8 : 0 ≤ st) (u8 : st ≤ 6) : rxPTKW S [412, 524] ∧ ∀ (S_p : Nat → Int → Int) (r : Int), 0 ≤ r → r ≤ 1 → rxPSTKW S [412, 524] S_p (some r) → bx_Inv rxL S_p → bx_same rxL (bx_mdl rxC90.2.2.1) S S_p → rxIRPCO_8 S0 ws S_p st r ∧ rxmRPCO_8 S0 ws S_p st r < rxmRPCO_7 S0 ws S st := by
  obtain ⟨hI, hx⟩ := hinv
  have g_ := rxkRPCK_7 hP hin I0 hI l8 u8
  exact ⟨g_.1, fun S_p r l_ u_ hq I1 hsm => ⟨⟨(g_.2 S_p r l_ u_ hq I1 hsm).1, (by
    intro hp
    exact rkPO_sm hsm (by decide +kernel) (hx hp))⟩, (g_.2 S_p r l_ u_ hq I1 hsm).2⟩⟩
theorem rxsRPCO_7 {X : (Nat → Int → Int) → Prop} {S0 : Nat → Int → Int} {ws : List Int} (hP : rxPRPCO S0 ws) : rx_obK X S0 rxCRPCO.2.2.1 rxC90.2.2.1 (rxIRPCO S0 ws) (rxmRPCO S0 ws) 7 8 rxzRPCO_7 rxzRPCO_8 [.inr (3, (0, 412)), .inr (3, (0, 524))] (some 9) rxPTKW rxPSTKW := by
  intro S r hinv hXS I0 hin hs_ hf_
  have b_ := bx_bds_sat hs_
  have f_ := bx_fcl_ok hs_.1 hf_
  obtain ⟨⟨l8, u8⟩, -⟩ := b_
  have g := rxkRPCO_7 hP hin I0 hinv l8 u8
  have ea : List.map (bx_num r) [.inr (3, (0, 412)), .inr (3, (0, 524))] = [412, 524] := by
    simp only [List.map_cons, List.map_nil, bx_xv_ok hs_.1]
    rfl
  rw [ea]
  refine ⟨g.1, fun S_p w r_p hPS hX_p I1 hsm hr hw hs_p => ?_⟩
  have hw := hw _ rfl
  subst hw
  have b_p := hs_p.2.2 9 _ _ rfl
  have g2 := g.2 S_p (r_p 9) b_p.1 b_p.2 hPS I1 hsm
  show rxIRPCO_8 S0 ws S_p (r_p 8) (r_p 9) ∧ rxmRPCO_8 S0 ws S_p (r_p 8) (r_p 9) < _
  rw [hr 8 (by decide)]
  exact g2
theorem rxkRPCO_9 {S0 : Nat → Int → Int} {ws : List Int} {S : Nat → Int → Int} {st : Int} (hP : rxPRPCO S0 ws) (hin : bx_same rxL (bx_mdl rxCRPCO.2.2.1) S0 S) (I0 : bx_Inv rxL S) (hinv : rxIRPCO_9 S0 ws S st) (l8 : 0 ≤ st) (u8 : st ≤ 6) : rxPPLH S [412] ∧ ∀ (S_p : Nat → Int → Int) (pl : Int), (-2147483648) ≤ pl → pl ≤ 6 → rxPSPLH S [412] S_p (some pl) → bx_Inv rxL S_p → bx_same rxL (bx_mdl rxC91.2.2.1) S S_p → rxIRPCO_10 S0 ws S_p st pl ∧ rxmRPCO_10 S0 ws S_p st pl < rxmRPCO_9 S0 ws S st := by
  obtain ⟨hI, hx⟩ := hinv
  have g_ := rxkRPCK_9 hP hin I0 hI l8 u8
  exact ⟨g_.1, fun S_p pl l_ u_ hq I1 hsm => ⟨⟨(g_.2 S_p pl l_ u_ hq I1 hsm).1, (by
    intro hp
    exact rkPO_sm hsm (by decide +kernel) (hx hp))⟩, (g_.2 S_p pl l_ u_ hq I1 hsm).2⟩⟩
theorem rxsRPCO_9 {X : (Nat → Int → Int) → Prop} {S0 : Nat → Int → Int} {ws : List Int} (hP : rxPRPCO S0 ws) : rx_obK X S0 rxCRPCO.2.2.1 rxC91.2.2.1 (rxIRPCO S0 ws) (rxmRPCO S0 ws) 9 10 rxzRPCO_9 rxzRPCO_10 [.inr (3, (0, 412))] (some 9) rxPPLH rxPSPLH := by
  intro S r hinv hXS I0 hin hs_ hf_
  have b_ := bx_bds_sat hs_
  have f_ := bx_fcl_ok hs_.1 hf_
  obtain ⟨⟨l8, u8⟩, -⟩ := b_
  have g := rxkRPCO_9 hP hin I0 hinv l8 u8
  have ea : List.map (bx_num r) [.inr (3, (0, 412))] = [412] := by
    simp only [List.map_cons, List.map_nil, bx_xv_ok hs_.1]
    rfl
  rw [ea]
  refine ⟨g.1, fun S_p w r_p hPS hX_p I1 hsm hr hw hs_p => ?_⟩
  have hw := hw _ rfl
  subst hw
  have b_p := hs_p.2.2 9 _ _ rfl
  have g2 := g.2 S_p (r_p 9) b_p.1 b_p.2 hPS I1 hsm
  show rxIRPCO_10 S0 ws S_p (r_p 8) (r_p 9) ∧ rxmRPCO_10 S0 ws S_p (r_p 8) (r_p 9) < _
  rw [hr 8 (by decide)]
  exact g2
theorem rxkRPCO_11 {S0 : Nat → Int → Int} {ws : List Int} {S : Nat → Int → Int} {st cu : Int} (hP : rxPRPCO S0 ws) (hin : bx_same rxL (bx_mdl rxCRPCO.2.2.1) S0 S) (I0 : bx_Inv rxL S) (hinv : rxIRPCO_11 S0 ws S st cu) (l8 : 0 ≤ st) (u8 : st ≤ 6) (l9 : 0 ≤ cu) (u9 : cu ≤ 6) : rxPAD S [412] ∧ ∀ (S_p : Nat → Int → Int), rxPSAD S [412] S_p none → bx_Inv rxL S_p → bx_same rxL (bx_mdl rxC84.2.2.1) S S_p → rxIRPCO_12 S0 ws S_p st cu ∧ rxmRPCO_12 S0 ws S_p st cu < rxmRPCO_11 S0 ws S st cu := by
  obtain ⟨hI, hx⟩ := hinv
  have g_ := rxkRPCK_11 hP hin I0 hI l8 u8 l9 u9
  exact ⟨g_.1, fun S_p hq I1 hsm => ⟨⟨(g_.2 S_p hq I1 hsm).1, (by
    intro hp
    exact rkPO_sm hsm (by decide +kernel) (hx hp))⟩, (g_.2 S_p hq I1 hsm).2⟩⟩
theorem rxsRPCO_11 {X : (Nat → Int → Int) → Prop} {S0 : Nat → Int → Int} {ws : List Int} (hP : rxPRPCO S0 ws) : rx_obK X S0 rxCRPCO.2.2.1 rxC84.2.2.1 (rxIRPCO S0 ws) (rxmRPCO S0 ws) 11 12 rxzRPCO_11 rxzRPCO_12 [.inr (3, (0, 412))] none rxPAD rxPSAD := by
  intro S r hinv hXS I0 hin hs_ hf_
  have b_ := bx_bds_sat hs_
  have f_ := bx_fcl_ok hs_.1 hf_
  obtain ⟨⟨l8, u8⟩, ⟨l9, u9⟩, -⟩ := b_
  have g := rxkRPCO_11 hP hin I0 hinv l8 u8 l9 u9
  have ea : List.map (bx_num r) [.inr (3, (0, 412))] = [412] := by
    simp only [List.map_cons, List.map_nil, bx_xv_ok hs_.1]
    rfl
  rw [ea]
  refine ⟨g.1, fun S_p w r_p hPS hX_p I1 hsm hr hw hs_p => ?_⟩
  have hw : w = none := hPS.1
  subst hw
  have g2 := g.2 S_p hPS I1 hsm
  show rxIRPCO_12 S0 ws S_p (r_p 8) (r_p 9) ∧ rxmRPCO_12 S0 ws S_p (r_p 8) (r_p 9) < _
  rw [hr 8 (by decide), hr 9 (by decide)]
  exact g2
theorem rxkRPCO_13 {S0 : Nat → Int → Int} {ws : List Int} {S : Nat → Int → Int} {st cu : Int} (hP : rxPRPCO S0 ws) (hin : bx_same rxL (bx_mdl rxCRPCO.2.2.1) S0 S) (I0 : bx_Inv rxL S) (hinv : rxIRPCO_13 S0 ws S st cu) (l8 : 0 ≤ st) (u8 : st ≤ 6) (l9 : 0 ≤ cu) (u9 : cu ≤ 6) : rxPIWX S [412, 531] ∧ ∀ (S_p : Nat → Int → Int) (r : Int), 0 ≤ r → r ≤ 1 → rxPSIWX S [412, 531] S_p (some r) → bx_Inv rxL S_p → bx_same rxL (bx_mdl rxC59.2.2.1) S S_p → rxIRPCO_14 S0 ws S_p st cu r ∧ rxmRPCO_14 S0 ws S_p st cu r < rxmRPCO_13 S0 ws S st cu := by
  obtain ⟨hI, hx⟩ := hinv
  have g_ := rxkRPCK_13 hP hin I0 hI l8 u8 l9 u9
  exact ⟨g_.1, fun S_p r l_ u_ hq I1 hsm => ⟨⟨(g_.2 S_p r l_ u_ hq I1 hsm).1, (by
    intro hp
    exact rkPO_sm hsm (by decide +kernel) (hx hp))⟩, (g_.2 S_p r l_ u_ hq I1 hsm).2⟩⟩
theorem rxsRPCO_13 {X : (Nat → Int → Int) → Prop} {S0 : Nat → Int → Int} {ws : List Int} (hP : rxPRPCO S0 ws) : rx_obK X S0 rxCRPCO.2.2.1 rxC59.2.2.1 (rxIRPCO S0 ws) (rxmRPCO S0 ws) 13 14 rxzRPCO_13 rxzRPCO_14 [.inr (3, (0, 412)), .inr (3, (0, 531))] (some 10) rxPIWX rxPSIWX := by
  intro S r hinv hXS I0 hin hs_ hf_
  have b_ := bx_bds_sat hs_
  have f_ := bx_fcl_ok hs_.1 hf_
  obtain ⟨⟨l8, u8⟩, ⟨l9, u9⟩, -⟩ := b_
  have g := rxkRPCO_13 hP hin I0 hinv l8 u8 l9 u9
  have ea : List.map (bx_num r) [.inr (3, (0, 412)), .inr (3, (0, 531))] = [412, 531] := by
    simp only [List.map_cons, List.map_nil, bx_xv_ok hs_.1]
    rfl
  rw [ea]
  refine ⟨g.1, fun S_p w r_p hPS hX_p I1 hsm hr hw hs_p => ?_⟩
  have hw := hw _ rfl
  subst hw
  have b_p := hs_p.2.2 10 _ _ rfl
  have g2 := g.2 S_p (r_p 10) b_p.1 b_p.2 hPS I1 hsm
  show rxIRPCO_14 S0 ws S_p (r_p 8) (r_p 9) (r_p 10) ∧ rxmRPCO_14 S0 ws S_p (r_p 8) (r_p 9) (r_p 10) < _
  rw [hr 8 (by decide), hr 9 (by decide)]
  exact g2
theorem rxkRPCO_15 {S0 : Nat → Int → Int} {ws : List Int} {S : Nat → Int → Int} {st cu hu : Int} (hP : rxPRPCO S0 ws) (hin : bx_same rxL (bx_mdl rxCRPCO.2.2.1) S0 S) (I0 : bx_Inv rxL S) (hinv : rxIRPCO_15 S0 ws S st cu hu) (l8 : 0 ≤ st) (u8 : st ≤ 6) (l9 : 0 ≤ cu) (u9 : cu ≤ 6) (l10 : 0 ≤ hu) (u10 : hu ≤ 1) : rxPIWX S [412, 541] ∧ ∀ (S_p : Nat → Int → Int) (r : Int), 0 ≤ r → r ≤ 1 → rxPSIWX S [412, 541] S_p (some r) → bx_Inv rxL S_p → bx_same rxL (bx_mdl rxC59.2.2.1) S S_p → rxIRPCO_16 S0 ws S_p st cu hu r ∧ rxmRPCO_16 S0 ws S_p st cu hu r < rxmRPCO_15 S0 ws S st cu hu := by
  obtain ⟨hI, hx⟩ := hinv
  have g_ := rxkRPCK_15 hP hin I0 hI l8 u8 l9 u9 l10 u10
  exact ⟨g_.1, fun S_p r l_ u_ hq I1 hsm => ⟨⟨(g_.2 S_p r l_ u_ hq I1 hsm).1, (by
    intro hp
    exact rkPO_sm hsm (by decide +kernel) (hx hp))⟩, (g_.2 S_p r l_ u_ hq I1 hsm).2⟩⟩
theorem rxsRPCO_15 {X : (Nat → Int → Int) → Prop} {S0 : Nat → Int → Int} {ws : List Int} (hP : rxPRPCO S0 ws) : rx_obK X S0 rxCRPCO.2.2.1 rxC59.2.2.1 (rxIRPCO S0 ws) (rxmRPCO S0 ws) 15 16 rxzRPCO_15 rxzRPCO_16 [.inr (3, (0, 412)), .inr (3, (0, 541))] (some 11) rxPIWX rxPSIWX := by
  intro S r hinv hXS I0 hin hs_ hf_
  have b_ := bx_bds_sat hs_
  have f_ := bx_fcl_ok hs_.1 hf_
  obtain ⟨⟨l8, u8⟩, ⟨l9, u9⟩, ⟨l10, u10⟩, -⟩ := b_
  have g := rxkRPCO_15 hP hin I0 hinv l8 u8 l9 u9 l10 u10
  have ea : List.map (bx_num r) [.inr (3, (0, 412)), .inr (3, (0, 541))] = [412, 541] := by
    simp only [List.map_cons, List.map_nil, bx_xv_ok hs_.1]
    rfl
  rw [ea]
  refine ⟨g.1, fun S_p w r_p hPS hX_p I1 hsm hr hw hs_p => ?_⟩
  have hw := hw _ rfl
  subst hw
  have b_p := hs_p.2.2 11 _ _ rfl
  have g2 := g.2 S_p (r_p 11) b_p.1 b_p.2 hPS I1 hsm
  show rxIRPCO_16 S0 ws S_p (r_p 8) (r_p 9) (r_p 10) (r_p 11) ∧ rxmRPCO_16 S0 ws S_p (r_p 8) (r_p 9) (r_p 10) (r_p 11) < _
  rw [hr 8 (by decide), hr 9 (by decide), hr 10 (by decide)]
  exact g2
theorem rxkRPCO_17 {S0 : Nat → Int → Int} {ws : List Int} {S : Nat → Int → Int} {st cu hu : Int} (hP : rxPRPCO S0 ws) (hin : bx_same rxL (bx_mdl rxCRPCO.2.2.1) S0 S) (I0 : bx_Inv rxL S) (hinv : rxIRPCO_17 S0 ws S st cu hu) (l8 : 0 ≤ st) (u8 : st ≤ 6) (l9 : 0 ≤ cu) (u9 : cu ≤ 6) (l10 : 0 ≤ hu) (u10 : hu ≤ 1) : rxPAD S [412] ∧ ∀ (S_p : Nat → Int → Int), rxPSAD S [412] S_p none → bx_Inv rxL S_p → bx_same rxL (bx_mdl rxC84.2.2.1) S S_p → rxIRPCO_18 S0 ws S_p st cu hu ∧ rxmRPCO_18 S0 ws S_p st cu hu < rxmRPCO_17 S0 ws S st cu hu := by
  obtain ⟨hI, hx⟩ := hinv
  have g_ := rxkRPCK_17 hP hin I0 hI l8 u8 l9 u9 l10 u10
  exact ⟨g_.1, fun S_p hq I1 hsm => ⟨⟨(g_.2 S_p hq I1 hsm).1, (by
    intro hp
    exact rkPO_sm hsm (by decide +kernel) (hx hp))⟩, (g_.2 S_p hq I1 hsm).2⟩⟩
theorem rxsRPCO_17 {X : (Nat → Int → Int) → Prop} {S0 : Nat → Int → Int} {ws : List Int} (hP : rxPRPCO S0 ws) : rx_obK X S0 rxCRPCO.2.2.1 rxC84.2.2.1 (rxIRPCO S0 ws) (rxmRPCO S0 ws) 17 18 rxzRPCO_17 rxzRPCO_18 [.inr (3, (0, 412))] none rxPAD rxPSAD := by
  intro S r hinv hXS I0 hin hs_ hf_
  have b_ := bx_bds_sat hs_
  have f_ := bx_fcl_ok hs_.1 hf_
  obtain ⟨⟨l8, u8⟩, ⟨l9, u9⟩, ⟨l10, u10⟩, -⟩ := b_
  have g := rxkRPCO_17 hP hin I0 hinv l8 u8 l9 u9 l10 u10
  have ea : List.map (bx_num r) [.inr (3, (0, 412))] = [412] := by
    simp only [List.map_cons, List.map_nil, bx_xv_ok hs_.1]
    rfl
  rw [ea]
  refine ⟨g.1, fun S_p w r_p hPS hX_p I1 hsm hr hw hs_p => ?_⟩
  have hw : w = none := hPS.1
  subst hw
  have g2 := g.2 S_p hPS I1 hsm
  show rxIRPCO_18 S0 ws S_p (r_p 8) (r_p 9) (r_p 10) ∧ rxmRPCO_18 S0 ws S_p (r_p 8) (r_p 9) (r_p 10) < _
  rw [hr 8 (by decide), hr 9 (by decide), hr 10 (by decide)]
  exact g2
theorem rxkRPCO_19 {S0 : Nat → Int → Int} {ws : List Int} {S : Nat → Int → Int} {st cu hu ki : Int} (hP : rxPRPCO S0 ws) (hin : bx_same rxL (bx_mdl rxCRPCO.2.2.1) S0 S) (I0 : bx_Inv rxL S) (hinv : rxIRPCO_19 S0 ws S st cu hu ki) (l8 : 0 ≤ st) (u8 : st ≤ 6) (l9 : 0 ≤ cu) (u9 : cu ≤ 6) (l10 : 0 ≤ hu) (u10 : hu ≤ 1) (l11 : 0 ≤ ki) (u11 : ki ≤ 4) : rxPOCO S [427, ki, st, cu] ∧ ∀ (S_p : Nat → Int → Int), rxPSOCO S [427, ki, st, cu] S_p none → bx_Inv rxL S_p → bx_same rxL (bx_mdl rxCOCO.2.2.1) S S_p → rxIRPCO_20 S0 ws S_p st cu hu ki ∧ rxmRPCO_20 S0 ws S_p st cu hu ki < rxmRPCO_19 S0 ws S st cu hu ki := by
  obtain ⟨hI, hx⟩ := hinv
  have g_ := rxkRPCK_19 hP hin I0 hI l8 u8 l9 u9 l10 u10 l11 u11
  exact ⟨g_.1, fun S_p hq I1 hsm => ⟨⟨(g_.2 S_p hq.2.1 I1 hsm).1, (by
    intro hp
    have g := hx hp
    obtain ⟨pg, ki2, st2, cu2, hw2, q⟩ := hq.2.2
    have e1 : (427 : Int) = pg := Option.some.inj (congrArg (fun l : List Int => l[0]?) hw2)
    subst e1
    exact g.tr (q rfl g.1))⟩, (g_.2 S_p hq.2.1 I1 hsm).2⟩⟩
theorem rxsRPCO_19 {X : (Nat → Int → Int) → Prop} {S0 : Nat → Int → Int} {ws : List Int} (hP : rxPRPCO S0 ws) : rx_obK X S0 rxCRPCO.2.2.1 rxCOCO.2.2.1 (rxIRPCO S0 ws) (rxmRPCO S0 ws) 19 20 rxzRPCO_19 rxzRPCO_20 [.inr (3, (0, 427)), .inr (0, (11, 0)), .inr (0, (8, 0)), .inr (0, (9, 0))] none rxPOCO rxPSOCO := by
  intro S r hinv hXS I0 hin hs_ hf_
  have b_ := bx_bds_sat hs_
  have f_ := bx_fcl_ok hs_.1 hf_
  obtain ⟨⟨l8, u8⟩, ⟨l9, u9⟩, ⟨l10, u10⟩, ⟨l11, u11⟩, -⟩ := b_
  have g := rxkRPCO_19 hP hin I0 hinv l8 u8 l9 u9 l10 u10 l11 u11
  have ea : List.map (bx_num r) [.inr (3, (0, 427)), .inr (0, (11, 0)), .inr (0, (8, 0)), .inr (0, (9, 0))] = [427, (r 11), (r 8), (r 9)] := by
    simp only [List.map_cons, List.map_nil, bx_xv_ok hs_.1]
    rfl
  rw [ea]
  refine ⟨g.1, fun S_p w r_p hPS hX_p I1 hsm hr hw hs_p => ?_⟩
  have hw : w = none := hPS.1
  subst hw
  have g2 := g.2 S_p hPS I1 hsm
  show rxIRPCO_20 S0 ws S_p (r_p 8) (r_p 9) (r_p 10) (r_p 11) ∧ rxmRPCO_20 S0 ws S_p (r_p 8) (r_p 9) (r_p 10) (r_p 11) < _
  rw [hr 8 (by decide), hr 9 (by decide), hr 10 (by decide), hr 11 (by decide)]
  exact g2
theorem rxkRPCO_21 {S0 : Nat → Int → Int} {ws : List Int} {S : Nat → Int → Int} {st cu hu sa : Int} (hP : rxPRPCO S0 ws) (hin : bx_same rxL (bx_mdl rxCRPCO.2.2.1) S0 S) (I0 : bx_Inv rxL S) (hinv : rxIRPCO_21 S0 ws S st cu hu sa) (l8 : 0 ≤ st) (u8 : st ≤ 6) (l9 : 0 ≤ cu) (u9 : cu ≤ 6) (l10 : 0 ≤ hu) (u10 : hu ≤ 1) (l11 : 0 ≤ sa) (u11 : sa ≤ 1522) : rxPREDO S [412, sa, 0] ∧ ∀ (S_p : Nat → Int → Int) (res : Int), 0 ≤ res → res ≤ 1 → rxPSREDO S [412, sa, 0] S_p (some res) → bx_Inv rxL S_p → bx_same rxL (bx_mdl rxCREDO.2.2.1) S S_p → rxIRPCO_22 S0 ws S_p st cu hu sa res ∧ rxmRPCO_22 S0 ws S_p st cu hu sa res < rxmRPCO_21 S0 ws S st cu hu sa := by
  obtain ⟨hI, hx⟩ := hinv
  have g_ := rxkRPCK_21 hP hin I0 hI l8 u8 l9 u9 l10 u10 l11 u11
  exact ⟨g_.1, fun S_p res l_ u_ hq I1 hsm => ⟨⟨(g_.2 S_p res l_ u_ hq.1 I1 hsm).1, (by
    intro hp
    have g := hx hp
    exact g.tr (hq.2 sa 0 rfl (Or.inl (hI.2.1 hp).2) g.1))⟩, (g_.2 S_p res l_ u_ hq.1 I1 hsm).2⟩⟩
theorem rxsRPCO_21 {X : (Nat → Int → Int) → Prop} {S0 : Nat → Int → Int} {ws : List Int} (hP : rxPRPCO S0 ws) : rx_obK X S0 rxCRPCO.2.2.1 rxCREDO.2.2.1 (rxIRPCO S0 ws) (rxmRPCO S0 ws) 21 22 rxzRPCO_21 rxzRPCO_22 [.inr (3, (0, 412)), .inr (3, (11, 0)), .inr (0, (0, 0))] (some 12) rxPREDO rxPSREDO := by
  intro S r hinv hXS I0 hin hs_ hf_
  have b_ := bx_bds_sat hs_
  have f_ := bx_fcl_ok hs_.1 hf_
  obtain ⟨⟨l8, u8⟩, ⟨l9, u9⟩, ⟨l10, u10⟩, ⟨l11, u11⟩, -⟩ := b_
  have g := rxkRPCO_21 hP hin I0 hinv l8 u8 l9 u9 l10 u10 l11 u11
  have ea : List.map (bx_num r) [.inr (3, (0, 412)), .inr (3, (11, 0)), .inr (0, (0, 0))] = [412, (r 11), 0] := by
    simp only [List.map_cons, List.map_nil, bx_xv_ok hs_.1]
    rfl
  rw [ea]
  refine ⟨g.1, fun S_p w r_p hPS hX_p I1 hsm hr hw hs_p => ?_⟩
  have hw := hw _ rfl
  subst hw
  have b_p := hs_p.2.2 12 _ _ rfl
  have g2 := g.2 S_p (r_p 12) b_p.1 b_p.2 hPS I1 hsm
  show rxIRPCO_22 S0 ws S_p (r_p 8) (r_p 9) (r_p 10) (r_p 11) (r_p 12) ∧ rxmRPCO_22 S0 ws S_p (r_p 8) (r_p 9) (r_p 10) (r_p 11) (r_p 12) < _
  rw [hr 8 (by decide), hr 9 (by decide), hr 10 (by decide), hr 11 (by decide)]
  exact g2
theorem rxkRPCO_23 {S0 : Nat → Int → Int} {ws : List Int} {S : Nat → Int → Int} {st cu hu : Int} (hP : rxPRPCO S0 ws) (hin : bx_same rxL (bx_mdl rxCRPCO.2.2.1) S0 S) (I0 : bx_Inv rxL S) (hinv : rxIRPCO_23 S0 ws S st cu hu) (l8 : 0 ≤ st) (u8 : st ≤ 6) (l9 : 0 ≤ cu) (u9 : cu ≤ 6) (l10 : 0 ≤ hu) (u10 : hu ≤ 1) : rxPIWX S [412, 529] ∧ ∀ (S_p : Nat → Int → Int) (r : Int), 0 ≤ r → r ≤ 1 → rxPSIWX S [412, 529] S_p (some r) → bx_Inv rxL S_p → bx_same rxL (bx_mdl rxC59.2.2.1) S S_p → rxIRPCO_24 S0 ws S_p st cu hu r ∧ rxmRPCO_24 S0 ws S_p st cu hu r < rxmRPCO_23 S0 ws S st cu hu := by
  obtain ⟨hI, hx⟩ := hinv
  have g_ := rxkRPCK_23 hP hin I0 hI l8 u8 l9 u9 l10 u10
  exact ⟨g_.1, fun S_p r l_ u_ hq I1 hsm => ⟨⟨(g_.2 S_p r l_ u_ hq I1 hsm).1, (by
    intro hp
    exact rkPO_sm hsm (by decide +kernel) (hx hp))⟩, (g_.2 S_p r l_ u_ hq I1 hsm).2⟩⟩
theorem rxsRPCO_23 {X : (Nat → Int → Int) → Prop} {S0 : Nat → Int → Int} {ws : List Int} (hP : rxPRPCO S0 ws) : rx_obK X S0 rxCRPCO.2.2.1 rxC59.2.2.1 (rxIRPCO S0 ws) (rxmRPCO S0 ws) 23 24 rxzRPCO_23 rxzRPCO_24 [.inr (3, (0, 412)), .inr (3, (0, 529))] (some 11) rxPIWX rxPSIWX := by
  intro S r hinv hXS I0 hin hs_ hf_
  have b_ := bx_bds_sat hs_
  have f_ := bx_fcl_ok hs_.1 hf_
  obtain ⟨⟨l8, u8⟩, ⟨l9, u9⟩, ⟨l10, u10⟩, -⟩ := b_
  have g := rxkRPCO_23 hP hin I0 hinv l8 u8 l9 u9 l10 u10
  have ea : List.map (bx_num r) [.inr (3, (0, 412)), .inr (3, (0, 529))] = [412, 529] := by
    simp only [List.map_cons, List.map_nil, bx_xv_ok hs_.1]
    rfl
  rw [ea]
  refine ⟨g.1, fun S_p w r_p hPS hX_p I1 hsm hr hw hs_p => ?_⟩
  have hw := hw _ rfl
  subst hw
  have b_p := hs_p.2.2 11 _ _ rfl
  have g2 := g.2 S_p (r_p 11) b_p.1 b_p.2 hPS I1 hsm
  show rxIRPCO_24 S0 ws S_p (r_p 8) (r_p 9) (r_p 10) (r_p 11) ∧ rxmRPCO_24 S0 ws S_p (r_p 8) (r_p 9) (r_p 10) (r_p 11) < _
  rw [hr 8 (by decide), hr 9 (by decide), hr 10 (by decide)]
  exact g2
theorem rxkRPCO_25 {S0 : Nat → Int → Int} {ws : List Int} {S : Nat → Int → Int} {st cu hu : Int} (hP : rxPRPCO S0 ws) (hin : bx_same rxL (bx_mdl rxCRPCO.2.2.1) S0 S) (I0 : bx_Inv rxL S) (hinv : rxIRPCO_25 S0 ws S st cu hu) (l8 : 0 ≤ st) (u8 : st ≤ 6) (l9 : 0 ≤ cu) (u9 : cu ≤ 6) (l10 : 0 ≤ hu) (u10 : hu ≤ 1) : rxPAD S [412] ∧ ∀ (S_p : Nat → Int → Int), rxPSAD S [412] S_p none → bx_Inv rxL S_p → bx_same rxL (bx_mdl rxC84.2.2.1) S S_p → rxIRPCO_26 S0 ws S_p st cu hu ∧ rxmRPCO_26 S0 ws S_p st cu hu < rxmRPCO_25 S0 ws S st cu hu := by
  obtain ⟨hI, hx⟩ := hinv
  have g_ := rxkRPCK_25 hP hin I0 hI l8 u8 l9 u9 l10 u10
  exact ⟨g_.1, fun S_p hq I1 hsm => ⟨⟨(g_.2 S_p hq I1 hsm).1, (by
    intro hp
    exact rkPO_sm hsm (by decide +kernel) (hx hp))⟩, (g_.2 S_p hq I1 hsm).2⟩⟩
theorem rxsRPCO_25 {X : (Nat → Int → Int) → Prop} {S0 : Nat → Int → Int} {ws : List Int} (hP : rxPRPCO S0 ws) : rx_obK X S0 rxCRPCO.2.2.1 rxC84.2.2.1 (rxIRPCO S0 ws) (rxmRPCO S0 ws) 25 26 rxzRPCO_25 rxzRPCO_26 [.inr (3, (0, 412))] none rxPAD rxPSAD := by
  intro S r hinv hXS I0 hin hs_ hf_
  have b_ := bx_bds_sat hs_
  have f_ := bx_fcl_ok hs_.1 hf_
  obtain ⟨⟨l8, u8⟩, ⟨l9, u9⟩, ⟨l10, u10⟩, -⟩ := b_
  have g := rxkRPCO_25 hP hin I0 hinv l8 u8 l9 u9 l10 u10
  have ea : List.map (bx_num r) [.inr (3, (0, 412))] = [412] := by
    simp only [List.map_cons, List.map_nil, bx_xv_ok hs_.1]
    rfl
  rw [ea]
  refine ⟨g.1, fun S_p w r_p hPS hX_p I1 hsm hr hw hs_p => ?_⟩
  have hw : w = none := hPS.1
  subst hw
  have g2 := g.2 S_p hPS I1 hsm
  show rxIRPCO_26 S0 ws S_p (r_p 8) (r_p 9) (r_p 10) ∧ rxmRPCO_26 S0 ws S_p (r_p 8) (r_p 9) (r_p 10) < _
  rw [hr 8 (by decide), hr 9 (by decide), hr 10 (by decide)]
  exact g2
theorem rxkRPCO_27 {S0 : Nat → Int → Int} {ws : List Int} {S : Nat → Int → Int} {st cu hu sa : Int} (hP : rxPRPCO S0 ws) (hin : bx_same rxL (bx_mdl rxCRPCO.2.2.1) S0 S) (I0 : bx_Inv rxL S) (hinv : rxIRPCO_27 S0 ws S st cu hu sa) (l8 : 0 ≤ st) (u8 : st ≤ 6) (l9 : 0 ≤ cu) (u9 : cu ≤ 6) (l10 : 0 ≤ hu) (u10 : hu ≤ 1) (l11 : 0 ≤ sa) (u11 : sa ≤ 1522) : rxPREDO S [412, sa, 0] ∧ ∀ (S_p : Nat → Int → Int) (res : Int), 0 ≤ res → res ≤ 1 → rxPSREDO S [412, sa, 0] S_p (some res) → bx_Inv rxL S_p → bx_same rxL (bx_mdl rxCREDO.2.2.1) S S_p → rxIRPCO_28 S0 ws S_p st cu hu sa res ∧ rxmRPCO_28 S0 ws S_p st cu hu sa res < rxmRPCO_27 S0 ws S st cu hu sa := by
  obtain ⟨hI, hx⟩ := hinv
  have g_ := rxkRPCK_27 hP hin I0 hI l8 u8 l9 u9 l10 u10 l11 u11
  exact ⟨g_.1, fun S_p res l_ u_ hq I1 hsm => ⟨⟨(g_.2 S_p res l_ u_ hq.1 I1 hsm).1, (by
    intro hp
    have g := hx hp
    obtain ⟨d, r, d1, r1, r2, r3, r4, b1, hz, hsa⟩ := hI.2.1 hp
    exact g.tr (hq.2 sa 0 rfl (Or.inr (Or.inl hsa)) g.1))⟩, (g_.2 S_p res l_ u_ hq.1 I1 hsm).2⟩⟩
theorem rxsRPCO_27 {X : (Nat → Int → Int) → Prop} {S0 : Nat → Int → Int} {ws : List Int} (hP : rxPRPCO S0 ws) : rx_obK X S0 rxCRPCO.2.2.1 rxCREDO.2.2.1 (rxIRPCO S0 ws) (rxmRPCO S0 ws) 27 28 rxzRPCO_27 rxzRPCO_28 [.inr (3, (0, 412)), .inr (3, (11, 0)), .inr (0, (0, 0))] (some 12) rxPREDO rxPSREDO := by
  intro S r hinv hXS I0 hin hs_ hf_
  have b_ := bx_bds_sat hs_
  have f_ := bx_fcl_ok hs_.1 hf_
  obtain ⟨⟨l8, u8⟩, ⟨l9, u9⟩, ⟨l10, u10⟩, ⟨l11, u11⟩, -⟩ := b_
  have g := rxkRPCO_27 hP hin I0 hinv l8 u8 l9 u9 l10 u10 l11 u11
  have ea : List.map (bx_num r) [.inr (3, (0, 412)), .inr (3, (11, 0)), .inr (0, (0, 0))] = [412, (r 11), 0] := by
    simp only [List.map_cons, List.map_nil, bx_xv_ok hs_.1]
    rfl
  rw [ea]
  refine ⟨g.1, fun S_p w r_p hPS hX_p I1 hsm hr hw hs_p => ?_⟩
  have hw := hw _ rfl
  subst hw
  have b_p := hs_p.2.2 12 _ _ rfl
  have g2 := g.2 S_p (r_p 12) b_p.1 b_p.2 hPS I1 hsm
  show rxIRPCO_28 S0 ws S_p (r_p 8) (r_p 9) (r_p 10) (r_p 11) (r_p 12) ∧ rxmRPCO_28 S0 ws S_p (r_p 8) (r_p 9) (r_p 10) (r_p 11) (r_p 12) < _
  rw [hr 8 (by decide), hr 9 (by decide), hr 10 (by decide), hr 11 (by decide)]
  exact g2
theorem rxcRPCO_0_0 {S0 : Nat → Int → Int} {ws : List Int} {S : Nat → Int → Int} (hP : rxPRPCO S0 ws) (hin : bx_same rxL (bx_mdl rxCRPCO.2.2.1) S0 S) (I0 : bx_Inv rxL S) (hinv : rxIRPCO_0 S0 ws S)  : (True) ∧ (True) ∧ rxIRPCO_1 S0 ws S ∧ rxmRPCO_1 S0 ws S < rxmRPCO_0 S0 ws S := by
  obtain ⟨hI, hx⟩ := hinv
  obtain ⟨a_, b_, c_, d_⟩ := rxcRPCK_0_0 hP hin I0 hI
  exact ⟨a_, b_, ⟨c_, (by
    have e := hI.1.1
    subst e
    intro hp
    exact (rkPO_rf hp.1))⟩, d_⟩
theorem rxgRPCO_0_0 {X : (Nat → Int → Int) → Prop} {S0 : Nat → Int → Int} {ws : List Int} (hP : rxPRPCO S0 ws) : bx_obC rxL X S0 rxCRPCO.2.2.1 (rxIRPCO S0 ws) (rxmRPCO S0 ws) 0 rxzRPCO_0 rxoRPCO_0_0 := by
  intro S S_p r r_p hinv hX hin hsm_ hseg
  obtain ⟨I0, I1, h0_, hr_, b_, f_, d_⟩ := bx_cl (evs := []) (fvs := []) hseg (by decide +kernel) (by decide +kernel)
  have hinv : rxIRPCO_0 S0 ws S := hinv
  have w_ := d_
  subst w_
  have g := rxcRPCO_0_0 hP hin I0 hinv 
  refine ⟨bx_narP_ok (l := []) g.1, bx_nfP_ok h0_ (fvs := []) (by decide +kernel) g.2.1, ?_, ?_⟩
  · show rxIRPCO_1 S0 ws S_p
    exact g.2.2.1
  · show rxmRPCO_1 S0 ws S_p < rxmRPCO_0 S0 ws S_p
    exact g.2.2.2
theorem rxcRPCO_2_0 {S0 : Nat → Int → Int} {ws : List Int} {S : Nat → Int → Int} {r : Int} (hP : rxPRPCO S0 ws) (hin : bx_same rxL (bx_mdl rxCRPCO.2.2.1) S0 S) (I0 : bx_Inv rxL S) (hinv : rxIRPCO_2 S0 ws S r) (l8 : 1 ≤ r) (u8 : r ≤ 1) (f0 : r ≠ 0) : (True) ∧ (True) ∧ rxIRPCO_3 S0 ws S ∧ rxmRPCO_3 S0 ws S < rxmRPCO_2 S0 ws S r := by
  obtain ⟨hI, hx⟩ := hinv
  obtain ⟨a_, b_, c_, d_⟩ := rxcRPCK_2_0 hP hin I0 hI l8 u8 f0
  exact ⟨a_, b_, ⟨c_, hx⟩, d_⟩
theorem rxgRPCO_2_0 {X : (Nat → Int → Int) → Prop} {S0 : Nat → Int → Int} {ws : List Int} (hP : rxPRPCO S0 ws) : bx_obC rxL X S0 rxCRPCO.2.2.1 (rxIRPCO S0 ws) (rxmRPCO S0 ws) 2 rxzRPCO_2 rxoRPCO_2_0 := by
  intro S S_p r r_p hinv hX hin hsm_ hseg
  obtain ⟨I0, I1, h0_, hr_, b_, f_, d_⟩ := bx_cl (evs := []) (fvs := [(3, (8, 0), (0, 0), (0, 0))]) hseg (by decide +kernel) (by decide +kernel)
  have hinv : rxIRPCO_2 S0 ws S (r 8) := hinv
  rw [← hr_ 8 (by decide)] at hinv
  obtain ⟨⟨l8, u8⟩, -⟩ := b_
  obtain ⟨f0, -⟩ := f_
  have w_ := d_
  subst w_
  have g := rxcRPCO_2_0 hP hin I0 hinv l8 u8 f0
  refine ⟨bx_narP_ok (l := []) g.1, bx_nfP_ok h0_ (fvs := []) (by decide +kernel) g.2.1, ?_, ?_⟩
  · show rxIRPCO_3 S0 ws S_p
    exact g.2.2.1
  · show rxmRPCO_3 S0 ws S_p < rxmRPCO_2 S0 ws S_p (r 8)
    rw [← hr_ 8 (by decide)]
    exact g.2.2.2
theorem rxdRPCO_2_0 {S0 : Nat → Int → Int} {ws : List Int} {S : Nat → Int → Int} {r : Int} (hP : rxPRPCO S0 ws) (hin : bx_same rxL (bx_mdl rxCRPCO.2.2.1) S0 S) (hin2 : bx_same rxL (bx_mdl rxCRPCO.2.2.1) S S) (I0 : bx_Inv rxL S) (I1 : bx_Inv rxL S) (hinv : rxIRPCO_2 S0 ws S r) (l8 : 0 ≤ r) (u8 : r ≤ 0) : (True) ∧ rxPSRPCO S0 ws S (some 0) := by
  obtain ⟨hI, hx⟩ := hinv
  obtain ⟨a_, c_⟩ := rxdRPCK_2_0 hP hin hin2 I0 I1 hI l8 u8
  exact ⟨a_, c_, hx⟩
theorem rxfRPCO_2_0 {X : (Nat → Int → Int) → Prop} {S0 : Nat → Int → Int} {ws : List Int} (hP : rxPRPCO S0 ws) : bx_obE rxL X S0 rxCRPCO.2.2.1 (rxIRPCO S0 ws) (rxPSRPCO S0 ws) 2 rxzRPCO_2 rxeRPCO_2_0 := by
  intro S S_p r r_p hinv hX hin hsm_ hseg
  obtain ⟨I0, I1, h0_, hr_, b_, f_, d_⟩ := bx_cl (evs := []) (fvs := []) hseg (by decide +kernel) (by decide +kernel)
  have hinv : rxIRPCO_2 S0 ws S (r 8) := hinv
  rw [← hr_ 8 (by decide)] at hinv
  obtain ⟨⟨l8, u8⟩, -⟩ := b_
  have w_ := d_
  subst w_
  have g := rxdRPCO_2_0 hP hin hsm_ I0 I1 hinv l8 u8
  refine ⟨bx_narP_ok (l := []) g.1, ?_⟩
  show rxPSRPCO S0 ws S_p (some (bx_num r_p (.inr (0, (0, 0)))))
  rw [bx_xv_ok h0_]
  exact g.2
theorem rxcRPCO_4_0 {S0 : Nat → Int → Int} {ws : List Int} {S : Nat → Int → Int} {pl : Int} (hP : rxPRPCO S0 ws) (hin : bx_same rxL (bx_mdl rxCRPCO.2.2.1) S0 S) (I0 : bx_Inv rxL S) (hinv : rxIRPCO_4 S0 ws S pl) (l8 : 0 ≤ pl) (u8 : pl ≤ 6) : (True) ∧ (True) ∧ rxIRPCO_5 S0 ws S pl ∧ rxmRPCO_5 S0 ws S pl < rxmRPCO_4 S0 ws S pl := by
  obtain ⟨hI, hx⟩ := hinv
  obtain ⟨a_, b_, c_, d_⟩ := rxcRPCK_4_0 hP hin I0 hI l8 u8
  exact ⟨a_, b_, ⟨c_, hx⟩, d_⟩
theorem rxgRPCO_4_0 {X : (Nat → Int → Int) → Prop} {S0 : Nat → Int → Int} {ws : List Int} (hP : rxPRPCO S0 ws) : bx_obC rxL X S0 rxCRPCO.2.2.1 (rxIRPCO S0 ws) (rxmRPCO S0 ws) 4 rxzRPCO_4 rxoRPCO_4_0 := by
  intro S S_p r r_p hinv hX hin hsm_ hseg
  obtain ⟨I0, I1, h0_, hr_, b_, f_, d_⟩ := bx_cl (evs := []) (fvs := []) hseg (by decide +kernel) (by decide +kernel)
  have hinv : rxIRPCO_4 S0 ws S (r 8) := hinv
  rw [← hr_ 8 (by decide)] at hinv
  obtain ⟨⟨l8, u8⟩, -⟩ := b_
  have w_ := d_
  subst w_
  have g := rxcRPCO_4_0 hP hin I0 hinv l8 u8
  refine ⟨bx_narP_ok (l := []) g.1, bx_nfP_ok h0_ (fvs := []) (by decide +kernel) g.2.1, ?_, ?_⟩
  · show rxIRPCO_5 S0 ws S_p (bx_val [(0, 0), (0, 0), (0, 0), (0, 0), (0, 0), (0, 0), (0, 0), (0, 0), (8, 0)] r_p 8)
    rw [bx_val_x (n := 8) (e := (8, 0)) h0_ rfl]
    exact g.2.2.1
  · show rxmRPCO_5 S0 ws S_p (bx_val [(0, 0), (0, 0), (0, 0), (0, 0), (0, 0), (0, 0), (0, 0), (0, 0), (8, 0)] r_p 8) < rxmRPCO_4 S0 ws S_p (r 8)
    rw [bx_val_x (n := 8) (e := (8, 0)) h0_ rfl, ← hr_ 8 (by decide)]
    exact g.2.2.2
theorem rxdRPCO_4_0 {S0 : Nat → Int → Int} {ws : List Int} {S : Nat → Int → Int} {pl x9 : Int} (hP : rxPRPCO S0 ws) (hin : bx_same rxL (bx_mdl rxCRPCO.2.2.1) S0 S) (hin2 : bx_same rxL (bx_mdl rxCRPCO.2.2.1) S (bx_up S 412 4 x9)) (I0 : bx_Inv rxL S) (I1 : bx_Inv rxL (bx_up S 412 4 x9)) (hinv : rxIRPCO_4 S0 ws S pl) (l8 : (-2147483648) ≤ pl) (u8 : pl ≤ (-1)) (l9 : 0 ≤ x9) (u9 : x9 ≤ 400) (e1 : S 412 2 = x9) : (True) ∧ rxPSRPCO S0 ws (bx_up S 412 4 x9) (some 0) := by
  obtain ⟨hI, hx⟩ := hinv
  obtain ⟨a_, c_⟩ := rxdRPCK_4_0 hP hin hin2 I0 I1 hI l8 u8 l9 u9 e1
  exact ⟨a_, c_, (by
    intro hp
    exact (rkPO_up (q := 412) (by decide +kernel) (fun g => absurd g.1 (by decide)) (hx hp)))⟩
theorem rxfRPCO_4_0 {X : (Nat → Int → Int) → Prop} {S0 : Nat → Int → Int} {ws : List Int} (hP : rxPRPCO S0 ws) : bx_obE rxL X S0 rxCRPCO.2.2.1 (rxIRPCO S0 ws) (rxPSRPCO S0 ws) 4 rxzRPCO_4 rxeRPCO_4_0 := by
  intro S S_p r r_p hinv hX hin hsm_ hseg
  obtain ⟨I0, I1, h0_, hr_, b_, f_, d_⟩ := bx_cl (evs := [(1, (0, 412), (0, 4), .inr (0, (9, 0))), (0, (0, 412), (0, 2), .inr (0, (9, 0)))]) (fvs := []) hseg (by decide +kernel) (by decide +kernel)
  have hinv : rxIRPCO_4 S0 ws S (r 8) := hinv
  rw [← hr_ 8 (by decide)] at hinv
  obtain ⟨⟨l8, u8⟩, ⟨l9, u9⟩, -⟩ := b_
  obtain ⟨T0, ⟨e1, w_⟩, w0⟩ := d_
  subst w0
  subst w_
  have g := rxdRPCO_4_0 hP hin hsm_ I0 I1 hinv l8 u8 l9 u9 e1
  refine ⟨bx_narP_ok (l := []) g.1, ?_⟩
  show rxPSRPCO S0 ws (bx_up T0 412 (4) (r_p 9)) (some (bx_num r_p (.inr (0, (0, 0)))))
  rw [bx_xv_ok h0_]
  exact g.2
theorem rxcRPCO_6_0 {S0 : Nat → Int → Int} {ws : List Int} {S : Nat → Int → Int} {st : Int} (hP : rxPRPCO S0 ws) (hin : bx_same rxL (bx_mdl rxCRPCO.2.2.1) S0 S) (I0 : bx_Inv rxL S) (hinv : rxIRPCO_6 S0 ws S st) (l8 : 0 ≤ st) (u8 : st ≤ 6) : (True) ∧ (True) ∧ rxIRPCO_7 S0 ws S st ∧ rxmRPCO_7 S0 ws S st < rxmRPCO_6 S0 ws S st := by
  obtain ⟨hI, hx⟩ := hinv
  obtain ⟨a_, b_, c_, d_⟩ := rxcRPCK_6_0 hP hin I0 hI l8 u8
  exact ⟨a_, b_, ⟨c_, hx⟩, d_⟩
theorem rxgRPCO_6_0 {X : (Nat → Int → Int) → Prop} {S0 : Nat → Int → Int} {ws : List Int} (hP : rxPRPCO S0 ws) : bx_obC rxL X S0 rxCRPCO.2.2.1 (rxIRPCO S0 ws) (rxmRPCO S0 ws) 6 rxzRPCO_6 rxoRPCO_6_0 := by
  intro S S_p r r_p hinv hX hin hsm_ hseg
  obtain ⟨I0, I1, h0_, hr_, b_, f_, d_⟩ := bx_cl (evs := []) (fvs := []) hseg (by decide +kernel) (by decide +kernel)
  have hinv : rxIRPCO_6 S0 ws S (r 8) := hinv
  rw [← hr_ 8 (by decide)] at hinv
  obtain ⟨⟨l8, u8⟩, -⟩ := b_
  have w_ := d_
  subst w_
  have g := rxcRPCO_6_0 hP hin I0 hinv l8 u8
  refine ⟨bx_narP_ok (l := []) g.1, bx_nfP_ok h0_ (fvs := []) (by decide +kernel) g.2.1, ?_, ?_⟩
  · show rxIRPCO_7 S0 ws S_p (bx_val [(0, 0), (0, 0), (0, 0), (0, 0), (0, 0), (0, 0), (0, 0), (0, 0), (8, 0)] r_p 8)
    rw [bx_val_x (n := 8) (e := (8, 0)) h0_ rfl]
    exact g.2.2.1
  · show rxmRPCO_7 S0 ws S_p (bx_val [(0, 0), (0, 0), (0, 0), (0, 0), (0, 0), (0, 0), (0, 0), (0, 0), (8, 0)] r_p 8) < rxmRPCO_6 S0 ws S_p (r 8)
    rw [bx_val_x (n := 8) (e := (8, 0)) h0_ rfl, ← hr_ 8 (by decide)]
    exact g.2.2.2
theorem rxcRPCO_8_0 {S0 : Nat → Int → Int} {ws : List Int} {S : Nat → Int → Int} {st r : Int} (hP : rxPRPCO S0 ws) (hin : bx_same rxL (bx_mdl rxCRPCO.2.2.1) S0 S) (I0 : bx_Inv rxL S) (hinv : rxIRPCO_8 S0 ws S st r) (l8 : 0 ≤ st) (u8 : st ≤ 6) (l9 : 1 ≤ r) (u9 : r ≤ 1) (f0 : r ≠ 0) : (True) ∧ (True) ∧ rxIRPCO_9 S0 ws S st ∧ rxmRPCO_9 S0 ws S st < rxmRPCO_8 S0 ws S st r := by
  obtain ⟨hI, hx⟩ := hinv
  obtain ⟨a_, b_, c_, d_⟩ := rxcRPCK_8_0 hP hin I0 hI l8 u8 l9 u9 f0
  exact ⟨a_, b_, ⟨c_, hx⟩, d_⟩
theorem rxgRPCO_8_0 {X : (Nat → Int → Int) → Prop} {S0 : Nat → Int → Int} {ws : List Int} (hP : rxPRPCO S0 ws) : bx_obC rxL X S0 rxCRPCO.2.2.1 (rxIRPCO S0 ws) (rxmRPCO S0 ws) 8 rxzRPCO_8 rxoRPCO_8_0 := by
  intro S S_p r r_p hinv hX hin hsm_ hseg
  obtain ⟨I0, I1, h0_, hr_, b_, f_, d_⟩ := bx_cl (evs := []) (fvs := [(3, (9, 0), (0, 0), (0, 0))]) hseg (by decide +kernel) (by decide +kernel)
  have hinv : rxIRPCO_8 S0 ws S (r 8) (r 9) := hinv
  rw [← hr_ 8 (by decide), ← hr_ 9 (by decide)] at hinv
  obtain ⟨⟨l8, u8⟩, ⟨l9, u9⟩, -⟩ := b_
  obtain ⟨f0, -⟩ := f_
  have w_ := d_
  subst w_
  have g := rxcRPCO_8_0 hP hin I0 hinv l8 u8 l9 u9 f0
  refine ⟨bx_narP_ok (l := []) g.1, bx_nfP_ok h0_ (fvs := []) (by decide +kernel) g.2.1, ?_, ?_⟩
  · show rxIRPCO_9 S0 ws S_p (bx_val [(0, 0), (0, 0), (0, 0), (0, 0), (0, 0), (0, 0), (0, 0), (0, 0), (8, 0)] r_p 8)
    rw [bx_val_x (n := 8) (e := (8, 0)) h0_ rfl]
    exact g.2.2.1
  · show rxmRPCO_9 S0 ws S_p (bx_val [(0, 0), (0, 0), (0, 0), (0, 0), (0, 0), (0, 0), (0, 0), (0, 0), (8, 0)] r_p 8) < rxmRPCO_8 S0 ws S_p (r 8) (r 9)
    rw [bx_val_x (n := 8) (e := (8, 0)) h0_ rfl, ← hr_ 8 (by decide), ← hr_ 9 (by decide)]
    exact g.2.2.2
theorem rxdRPCO_8_0 {S0 : Nat → Int → Int} {ws : List Int} {S : Nat → Int → Int} {st r : Int} (hP : rxPRPCO S0 ws) (hin : bx_same rxL (bx_mdl rxCRPCO.2.2.1) S0 S) (hin2 : bx_same rxL (bx_mdl rxCRPCO.2.2.1) S S) (I0 : bx_Inv rxL S) (I1 : bx_Inv rxL S) (hinv : rxIRPCO_8 S0 ws S st r) (l8 : 0 ≤ st) (u8 : st ≤ 6) (l9 : 0 ≤ r) (u9 : r ≤ 0) : (True) ∧ rxPSRPCO S0 ws S (some 0) := by
  obtain ⟨hI, hx⟩ := hinv
  obtain ⟨a_, c_⟩ := rxdRPCK_8_0 hP hin hin2 I0 I1 hI l8 u8 l9 u9
  exact ⟨a_, c_, hx⟩
theorem rxfRPCO_8_0 {X : (Nat → Int → Int) → Prop} {S0 : Nat → Int → Int} {ws : List Int} (hP : rxPRPCO S0 ws) : bx_obE rxL X S0 rxCRPCO.2.2.1 (rxIRPCO S0 ws) (rxPSRPCO S0 ws) 8 rxzRPCO_8 rxeRPCO_8_0 := by
  intro S S_p r r_p hinv hX hin hsm_ hseg
  obtain ⟨I0, I1, h0_, hr_, b_, f_, d_⟩ := bx_cl (evs := []) (fvs := []) hseg (by decide +kernel) (by decide +kernel)
  have hinv : rxIRPCO_8 S0 ws S (r 8) (r 9) := hinv
  rw [← hr_ 8 (by decide), ← hr_ 9 (by decide)] at hinv
  obtain ⟨⟨l8, u8⟩, ⟨l9, u9⟩, -⟩ := b_
  have w_ := d_
  subst w_
  have g := rxdRPCO_8_0 hP hin hsm_ I0 I1 hinv l8 u8 l9 u9
  refine ⟨bx_narP_ok (l := []) g.1, ?_⟩
  show rxPSRPCO S0 ws S_p (some (bx_num r_p (.inr (0, (0, 0)))))
  rw [bx_xv_ok h0_]
  exact g.2
theorem rxcRPCO_10_0 {S0 : Nat → Int → Int} {ws : List Int} {S : Nat → Int → Int} {st pl : Int} (hP : rxPRPCO S0 ws) (hin : bx_same rxL (bx_mdl rxCRPCO.2.2.1) S0 S) (I0 : bx_Inv rxL S) (hinv : rxIRPCO_10 S0 ws S st pl) (l8 : 0 ≤ st) (u8 : st ≤ 6) (l9 : 0 ≤ pl) (u9 : pl ≤ 6) : (True) ∧ (True) ∧ rxIRPCO_11 S0 ws S st pl ∧ rxmRPCO_11 S0 ws S st pl < rxmRPCO_10 S0 ws S st pl := by
  obtain ⟨hI, hx⟩ := hinv
  obtain ⟨a_, b_, c_, d_⟩ := rxcRPCK_10_0 hP hin I0 hI l8 u8 l9 u9
  exact ⟨a_, b_, ⟨c_, hx⟩, d_⟩
theorem rxgRPCO_10_0 {X : (Nat → Int → Int) → Prop} {S0 : Nat → Int → Int} {ws : List Int} (hP : rxPRPCO S0 ws) : bx_obC rxL X S0 rxCRPCO.2.2.1 (rxIRPCO S0 ws) (rxmRPCO S0 ws) 10 rxzRPCO_10 rxoRPCO_10_0 := by
  intro S S_p r r_p hinv hX hin hsm_ hseg
  obtain ⟨I0, I1, h0_, hr_, b_, f_, d_⟩ := bx_cl (evs := []) (fvs := []) hseg (by decide +kernel) (by decide +kernel)
  have hinv : rxIRPCO_10 S0 ws S (r 8) (r 9) := hinv
  rw [← hr_ 8 (by decide), ← hr_ 9 (by decide)] at hinv
  obtain ⟨⟨l8, u8⟩, ⟨l9, u9⟩, -⟩ := b_
  have w_ := d_
  subst w_
  have g := rxcRPCO_10_0 hP hin I0 hinv l8 u8 l9 u9
  refine ⟨bx_narP_ok (l := []) g.1, bx_nfP_ok h0_ (fvs := []) (by decide +kernel) g.2.1, ?_, ?_⟩
  · show rxIRPCO_11 S0 ws S_p (bx_val [(0, 0), (0, 0), (0, 0), (0, 0), (0, 0), (0, 0), (0, 0), (0, 0), (8, 0), (9, 0)] r_p 8) (bx_val [(0, 0), (0, 0), (0, 0), (0, 0), (0, 0), (0, 0), (0, 0), (0, 0), (8, 0), (9, 0)] r_p 9)
    rw [bx_val_x (n := 8) (e := (8, 0)) h0_ rfl, bx_val_x (n := 9) (e := (9, 0)) h0_ rfl]
    exact g.2.2.1
  · show rxmRPCO_11 S0 ws S_p (bx_val [(0, 0), (0, 0), (0, 0), (0, 0), (0, 0), (0, 0), (0, 0), (0, 0), (8, 0), (9, 0)] r_p 8) (bx_val [(0, 0), (0, 0), (0, 0), (0, 0), (0, 0), (0, 0), (0, 0), (0, 0), (8, 0), (9, 0)] r_p 9) < rxmRPCO_10 S0 ws S_p (r 8) (r 9)
    rw [bx_val_x (n := 8) (e := (8, 0)) h0_ rfl, bx_val_x (n := 9) (e := (9, 0)) h0_ rfl, ← hr_ 8 (by decide), ← hr_ 9 (by decide)]
    exact g.2.2.2
theorem rxdRPCO_10_0 {S0 : Nat → Int → Int} {ws : List Int} {S : Nat → Int → Int} {st pl x10 : Int} (hP : rxPRPCO S0 ws) (hin : bx_same rxL (bx_mdl rxCRPCO.2.2.1) S0 S) (hin2 : bx_same rxL (bx_mdl rxCRPCO.2.2.1) S (bx_up S 412 4 x10)) (I0 : bx_Inv rxL S) (I1 : bx_Inv rxL (bx_up S 412 4 x10)) (hinv : rxIRPCO_10 S0 ws S st pl) (l8 : 0 ≤ st) (u8 : st ≤ 6) (l9 : (-2147483648) ≤ pl) (u9 : pl ≤ (-1)) (l10 : 0 ≤ x10) (u10 : x10 ≤ 400) (e1 : S 412 2 = x10) : (True) ∧ rxPSRPCO S0 ws (bx_up S 412 4 x10) (some 0) := by
  obtain ⟨hI, hx⟩ := hinv
  obtain ⟨a_, c_⟩ := rxdRPCK_10_0 hP hin hin2 I0 I1 hI l8 u8 l9 u9 l10 u10 e1
  exact ⟨a_, c_, (by
    intro hp
    exact (rkPO_up (q := 412) (by decide +kernel) (fun g => absurd g.1 (by decide)) (hx hp)))⟩
theorem rxfRPCO_10_0 {X : (Nat → Int → Int) → Prop} {S0 : Nat → Int → Int} {ws : List Int} (hP : rxPRPCO S0 ws) : bx_obE rxL X S0 rxCRPCO.2.2.1 (rxIRPCO S0 ws) (rxPSRPCO S0 ws) 10 rxzRPCO_10 rxeRPCO_10_0 := by
  intro S S_p r r_p hinv hX hin hsm_ hseg
  obtain ⟨I0, I1, h0_, hr_, b_, f_, d_⟩ := bx_cl (evs := [(1, (0, 412), (0, 4), .inr (0, (10, 0))), (0, (0, 412), (0, 2), .inr (0, (10, 0)))]) (fvs := []) hseg (by decide +kernel) (by decide +kernel)
  have hinv : rxIRPCO_10 S0 ws S (r 8) (r 9) := hinv
  rw [← hr_ 8 (by decide), ← hr_ 9 (by decide)] at hinv
  obtain ⟨⟨l8, u8⟩, ⟨l9, u9⟩, ⟨l10, u10⟩, -⟩ := b_
  obtain ⟨T0, ⟨e1, w_⟩, w0⟩ := d_
  subst w0
  subst w_
  have g := rxdRPCO_10_0 hP hin hsm_ I0 I1 hinv l8 u8 l9 u9 l10 u10 e1
  refine ⟨bx_narP_ok (l := []) g.1, ?_⟩
  show rxPSRPCO S0 ws (bx_up T0 412 (4) (r_p 10)) (some (bx_num r_p (.inr (0, (0, 0)))))
  rw [bx_xv_ok h0_]
  exact g.2
theorem rxcRPCO_12_0 {S0 : Nat → Int → Int} {ws : List Int} {S : Nat → Int → Int} {st cu : Int} (hP : rxPRPCO S0 ws) (hin : bx_same rxL (bx_mdl rxCRPCO.2.2.1) S0 S) (I0 : bx_Inv rxL S) (hinv : rxIRPCO_12 S0 ws S st cu) (l8 : 0 ≤ st) (u8 : st ≤ 6) (l9 : 0 ≤ cu) (u9 : cu ≤ 6) : (True) ∧ (True) ∧ rxIRPCO_13 S0 ws S st cu ∧ rxmRPCO_13 S0 ws S st cu < rxmRPCO_12 S0 ws S st cu := by
  obtain ⟨hI, hx⟩ := hinv
  obtain ⟨a_, b_, c_, d_⟩ := rxcRPCK_12_0 hP hin I0 hI l8 u8 l9 u9
  exact ⟨a_, b_, ⟨c_, hx⟩, d_⟩
theorem rxgRPCO_12_0 {X : (Nat → Int → Int) → Prop} {S0 : Nat → Int → Int} {ws : List Int} (hP : rxPRPCO S0 ws) : bx_obC rxL X S0 rxCRPCO.2.2.1 (rxIRPCO S0 ws) (rxmRPCO S0 ws) 12 rxzRPCO_12 rxoRPCO_12_0 := by
  intro S S_p r r_p hinv hX hin hsm_ hseg
  obtain ⟨I0, I1, h0_, hr_, b_, f_, d_⟩ := bx_cl (evs := []) (fvs := []) hseg (by decide +kernel) (by decide +kernel)
  have hinv : rxIRPCO_12 S0 ws S (r 8) (r 9) := hinv
  rw [← hr_ 8 (by decide), ← hr_ 9 (by decide)] at hinv
  obtain ⟨⟨l8, u8⟩, ⟨l9, u9⟩, -⟩ := b_
  have w_ := d_
  subst w_
  have g := rxcRPCO_12_0 hP hin I0 hinv l8 u8 l9 u9
  refine ⟨bx_narP_ok (l := []) g.1, bx_nfP_ok h0_ (fvs := []) (by decide +kernel) g.2.1, ?_, ?_⟩
  · show rxIRPCO_13 S0 ws S_p (bx_val [(0, 0), (0, 0), (0, 0), (0, 0), (0, 0), (0, 0), (0, 0), (0, 0), (8, 0), (9, 0)] r_p 8) (bx_val [(0, 0), (0, 0), (0, 0), (0, 0), (0, 0), (0, 0), (0, 0), (0, 0), (8, 0), (9, 0)] r_p 9)
    rw [bx_val_x (n := 8) (e := (8, 0)) h0_ rfl, bx_val_x (n := 9) (e := (9, 0)) h0_ rfl]
    exact g.2.2.1
  · show rxmRPCO_13 S0 ws S_p (bx_val [(0, 0), (0, 0), (0, 0), (0, 0), (0, 0), (0, 0), (0, 0), (0, 0), (8, 0), (9, 0)] r_p 8) (bx_val [(0, 0), (0, 0), (0, 0), (0, 0), (0, 0), (0, 0), (0, 0), (0, 0), (8, 0), (9, 0)] r_p 9) < rxmRPCO_12 S0 ws S_p (r 8) (r 9)
    rw [bx_val_x (n := 8) (e := (8, 0)) h0_ rfl, bx_val_x (n := 9) (e := (9, 0)) h0_ rfl, ← hr_ 8 (by decide), ← hr_ 9 (by decide)]
    exact g.2.2.2
theorem rxcRPCO_14_0 {S0 : Nat → Int → Int} {ws : List Int} {S : Nat → Int → Int} {st cu r : Int} (hP : rxPRPCO S0 ws) (hin : bx_same rxL (bx_mdl rxCRPCO.2.2.1) S0 S) (I0 : bx_Inv rxL S) (hinv : rxIRPCO_14 S0 ws S st cu r) (l8 : 0 ≤ st) (u8 : st ≤ 6) (l9 : 0 ≤ cu) (u9 : cu ≤ 6) (l10 : 0 ≤ r) (u10 : r ≤ 0) : (True) ∧ (True) ∧ rxIRPCO_15 S0 ws S st cu r ∧ rxmRPCO_15 S0 ws S st cu r < rxmRPCO_14 S0 ws S st cu r := by
  obtain ⟨hI, hx⟩ := hinv
  obtain ⟨a_, b_, c_, d_⟩ := rxcRPCK_14_0 hP hin I0 hI l8 u8 l9 u9 l10 u10
  exact ⟨a_, b_, ⟨c_, hx⟩, d_⟩
theorem rxgRPCO_14_0 {X : (Nat → Int → Int) → Prop} {S0 : Nat → Int → Int} {ws : List Int} (hP : rxPRPCO S0 ws) : bx_obC rxL X S0 rxCRPCO.2.2.1 (rxIRPCO S0 ws) (rxmRPCO S0 ws) 14 rxzRPCO_14 rxoRPCO_14_0 := by
  intro S S_p r r_p hinv hX hin hsm_ hseg
  obtain ⟨I0, I1, h0_, hr_, b_, f_, d_⟩ := bx_cl (evs := []) (fvs := []) hseg (by decide +kernel) (by decide +kernel)
  have hinv : rxIRPCO_14 S0 ws S (r 8) (r 9) (r 10) := hinv
  rw [← hr_ 8 (by decide), ← hr_ 9 (by decide), ← hr_ 10 (by decide)] at hinv
  obtain ⟨⟨l8, u8⟩, ⟨l9, u9⟩, ⟨l10, u10⟩, -⟩ := b_
  have w_ := d_
  subst w_
  have g := rxcRPCO_14_0 hP hin I0 hinv l8 u8 l9 u9 l10 u10
  refine ⟨bx_narP_ok (l := []) g.1, bx_nfP_ok h0_ (fvs := []) (by decide +kernel) g.2.1, ?_, ?_⟩
  · show rxIRPCO_15 S0 ws S_p (bx_val [(0, 0), (0, 0), (0, 0), (0, 0), (0, 0), (0, 0), (0, 0), (0, 0), (8, 0), (9, 0), (10, 0)] r_p 8) (bx_val [(0, 0), (0, 0), (0, 0), (0, 0), (0, 0), (0, 0), (0, 0), (0, 0), (8, 0), (9, 0), (10, 0)] r_p 9) (bx_val [(0, 0), (0, 0), (0, 0), (0, 0), (0, 0), (0, 0), (0, 0), (0, 0), (8, 0), (9, 0), (10, 0)] r_p 10)
    rw [bx_val_x (n := 8) (e := (8, 0)) h0_ rfl, bx_val_x (n := 9) (e := (9, 0)) h0_ rfl, bx_val_x (n := 10) (e := (10, 0)) h0_ rfl]
    exact g.2.2.1
  · show rxmRPCO_15 S0 ws S_p (bx_val [(0, 0), (0, 0), (0, 0), (0, 0), (0, 0), (0, 0), (0, 0), (0, 0), (8, 0), (9, 0), (10, 0)] r_p 8) (bx_val [(0, 0), (0, 0), (0, 0), (0, 0), (0, 0), (0, 0), (0, 0), (0, 0), (8, 0), (9, 0), (10, 0)] r_p 9) (bx_val [(0, 0), (0, 0), (0, 0), (0, 0), (0, 0), (0, 0), (0, 0), (0, 0), (8, 0), (9, 0), (10, 0)] r_p 10) < rxmRPCO_14 S0 ws S_p (r 8) (r 9) (r 10)
    rw [bx_val_x (n := 8) (e := (8, 0)) h0_ rfl, bx_val_x (n := 9) (e := (9, 0)) h0_ rfl, bx_val_x (n := 10) (e := (10, 0)) h0_ rfl, ← hr_ 8 (by decide), ← hr_ 9 (by decide), ← hr_ 10 (by decide)]
    exact g.2.2.2
theorem rxcRPCO_14_1 {S0 : Nat → Int → Int} {ws : List Int} {S : Nat → Int → Int} {st cu r : Int} (hP : rxPRPCO S0 ws) (hin : bx_same rxL (bx_mdl rxCRPCO.2.2.1) S0 S) (I0 : bx_Inv rxL S) (hinv : rxIRPCO_14 S0 ws S st cu r) (l8 : 0 ≤ st) (u8 : st ≤ 6) (l9 : 0 ≤ cu) (u9 : cu ≤ 6) (l10 : 1 ≤ r) (u10 : r ≤ 1) (f0 : r ≠ 0) : (True) ∧ (True) ∧ rxIRPCO_17 S0 ws S st cu r ∧ rxmRPCO_17 S0 ws S st cu r < rxmRPCO_14 S0 ws S st cu r := by
  obtain ⟨hI, hx⟩ := hinv
  obtain ⟨a_, b_, c_, d_⟩ := rxcRPCK_14_1 hP hin I0 hI l8 u8 l9 u9 l10 u10 f0
  exact ⟨a_, b_, ⟨c_, hx⟩, d_⟩
theorem rxgRPCO_14_1 {X : (Nat → Int → Int) → Prop} {S0 : Nat → Int → Int} {ws : List Int} (hP : rxPRPCO S0 ws) : bx_obC rxL X S0 rxCRPCO.2.2.1 (rxIRPCO S0 ws) (rxmRPCO S0 ws) 14 rxzRPCO_14 rxoRPCO_14_1 := by
  intro S S_p r r_p hinv hX hin hsm_ hseg
  obtain ⟨I0, I1, h0_, hr_, b_, f_, d_⟩ := bx_cl (evs := []) (fvs := [(3, (10, 0), (0, 0), (0, 0))]) hseg (by decide +kernel) (by decide +kernel)
  have hinv : rxIRPCO_14 S0 ws S (r 8) (r 9) (r 10) := hinv
  rw [← hr_ 8 (by decide), ← hr_ 9 (by decide), ← hr_ 10 (by decide)] at hinv
  obtain ⟨⟨l8, u8⟩, ⟨l9, u9⟩, ⟨l10, u10⟩, -⟩ := b_
  obtain ⟨f0, -⟩ := f_
  have w_ := d_
  subst w_
  have g := rxcRPCO_14_1 hP hin I0 hinv l8 u8 l9 u9 l10 u10 f0
  refine ⟨bx_narP_ok (l := []) g.1, bx_nfP_ok h0_ (fvs := []) (by decide +kernel) g.2.1, ?_, ?_⟩
  · show rxIRPCO_17 S0 ws S_p (bx_val [(0, 0), (0, 0), (0, 0), (0, 0), (0, 0), (0, 0), (0, 0), (0, 0), (8, 0), (9, 0), (10, 0)] r_p 8) (bx_val [(0, 0), (0, 0), (0, 0), (0, 0), (0, 0), (0, 0), (0, 0), (0, 0), (8, 0), (9, 0), (10, 0)] r_p 9) (bx_val [(0, 0), (0, 0), (0, 0), (0, 0), (0, 0), (0, 0), (0, 0), (0, 0), (8, 0), (9, 0), (10, 0)] r_p 10)
    rw [bx_val_x (n := 8) (e := (8, 0)) h0_ rfl, bx_val_x (n := 9) (e := (9, 0)) h0_ rfl, bx_val_x (n := 10) (e := (10, 0)) h0_ rfl]
    exact g.2.2.1
  · show rxmRPCO_17 S0 ws S_p (bx_val [(0, 0), (0, 0), (0, 0), (0, 0), (0, 0), (0, 0), (0, 0), (0, 0), (8, 0), (9, 0), (10, 0)] r_p 8) (bx_val [(0, 0), (0, 0), (0, 0), (0, 0), (0, 0), (0, 0), (0, 0), (0, 0), (8, 0), (9, 0), (10, 0)] r_p 9) (bx_val [(0, 0), (0, 0), (0, 0), (0, 0), (0, 0), (0, 0), (0, 0), (0, 0), (8, 0), (9, 0), (10, 0)] r_p 10) < rxmRPCO_14 S0 ws S_p (r 8) (r 9) (r 10)
    rw [bx_val_x (n := 8) (e := (8, 0)) h0_ rfl, bx_val_x (n := 9) (e := (9, 0)) h0_ rfl, bx_val_x (n := 10) (e := (10, 0)) h0_ rfl, ← hr_ 8 (by decide), ← hr_ 9 (by decide), ← hr_ 10 (by decide)]
    exact g.2.2.2
theorem rxcRPCO_16_0 {S0 : Nat → Int → Int} {ws : List Int} {S : Nat → Int → Int} {st cu hu r : Int} (hP : rxPRPCO S0 ws) (hin : bx_same rxL (bx_mdl rxCRPCO.2.2.1) S0 S) (I0 : bx_Inv rxL S) (hinv : rxIRPCO_16 S0 ws S st cu hu r) (l8 : 0 ≤ st) (u8 : st ≤ 6) (l9 : 0 ≤ cu) (u9 : cu ≤ 6) (l10 : 0 ≤ hu) (u10 : hu ≤ 1) (l11 : 1 ≤ r) (u11 : r ≤ 1) (f0 : r ≠ 0) : (True) ∧ (True) ∧ rxIRPCO_17 S0 ws S st cu hu ∧ rxmRPCO_17 S0 ws S st cu hu < rxmRPCO_16 S0 ws S st cu hu r := by
  obtain ⟨hI, hx⟩ := hinv
  obtain ⟨a_, b_, c_, d_⟩ := rxcRPCK_16_0 hP hin I0 hI l8 u8 l9 u9 l10 u10 l11 u11 f0
  exact ⟨a_, b_, ⟨c_, hx⟩, d_⟩
theorem rxgRPCO_16_0 {X : (Nat → Int → Int) → Prop} {S0 : Nat → Int → Int} {ws : List Int} (hP : rxPRPCO S0 ws) : bx_obC rxL X S0 rxCRPCO.2.2.1 (rxIRPCO S0 ws) (rxmRPCO S0 ws) 16 rxzRPCO_16 rxoRPCO_16_0 := by
  intro S S_p r r_p hinv hX hin hsm_ hseg
  obtain ⟨I0, I1, h0_, hr_, b_, f_, d_⟩ := bx_cl (evs := []) (fvs := [(3, (11, 0), (0, 0), (0, 0))]) hseg (by decide +kernel) (by decide +kernel)
  have hinv : rxIRPCO_16 S0 ws S (r 8) (r 9) (r 10) (r 11) := hinv
  rw [← hr_ 8 (by decide), ← hr_ 9 (by decide), ← hr_ 10 (by decide), ← hr_ 11 (by decide)] at hinv
  obtain ⟨⟨l8, u8⟩, ⟨l9, u9⟩, ⟨l10, u10⟩, ⟨l11, u11⟩, -⟩ := b_
  obtain ⟨f0, -⟩ := f_
  have w_ := d_
  subst w_
  have g := rxcRPCO_16_0 hP hin I0 hinv l8 u8 l9 u9 l10 u10 l11 u11 f0
  refine ⟨bx_narP_ok (l := []) g.1, bx_nfP_ok h0_ (fvs := []) (by decide +kernel) g.2.1, ?_, ?_⟩
  · show rxIRPCO_17 S0 ws S_p (bx_val [(0, 0), (0, 0), (0, 0), (0, 0), (0, 0), (0, 0), (0, 0), (0, 0), (8, 0), (9, 0), (10, 0)] r_p 8) (bx_val [(0, 0), (0, 0), (0, 0), (0, 0), (0, 0), (0, 0), (0, 0), (0, 0), (8, 0), (9, 0), (10, 0)] r_p 9) (bx_val [(0, 0), (0, 0), (0, 0), (0, 0), (0, 0), (0, 0), (0, 0), (0, 0), (8, 0), (9, 0), (10, 0)] r_p 10)
    rw [bx_val_x (n := 8) (e := (8, 0)) h0_ rfl, bx_val_x (n := 9) (e := (9, 0)) h0_ rfl, bx_val_x (n := 10) (e := (10, 0)) h0_ rfl]
    exact g.2.2.1
  · show rxmRPCO_17 S0 ws S_p (bx_val [(0, 0), (0, 0), (0, 0), (0, 0), (0, 0), (0, 0), (0, 0), (0, 0), (8, 0), (9, 0), (10, 0)] r_p 8) (bx_val [(0, 0), (0, 0), (0, 0), (0, 0), (0, 0), (0, 0), (0, 0), (0, 0), (8, 0), (9, 0), (10, 0)] r_p 9) (bx_val [(0, 0), (0, 0), (0, 0), (0, 0), (0, 0), (0, 0), (0, 0), (0, 0), (8, 0), (9, 0), (10, 0)] r_p 10) < rxmRPCO_16 S0 ws S_p (r 8) (r 9) (r 10) (r 11)
    rw [bx_val_x (n := 8) (e := (8, 0)) h0_ rfl, bx_val_x (n := 9) (e := (9, 0)) h0_ rfl, bx_val_x (n := 10) (e := (10, 0)) h0_ rfl, ← hr_ 8 (by decide), ← hr_ 9 (by decide), ← hr_ 10 (by decide), ← hr_ 11 (by decide)]
    exact g.2.2.2
theorem rxdRPCO_16_0 {S0 : Nat → Int → Int} {ws : List Int} {S : Nat → Int → Int} {st cu hu r x12 : Int} (hP : rxPRPCO S0 ws) (hin : bx_same rxL (bx_mdl rxCRPCO.2.2.1) S0 S) (hin2 : bx_same rxL (bx_mdl rxCRPCO.2.2.1) S (bx_up S 412 4 x12)) (I0 : bx_Inv rxL S) (I1 : bx_Inv rxL (bx_up S 412 4 x12)) (hinv : rxIRPCO_16 S0 ws S st cu hu r) (l8 : 0 ≤ st) (u8 : st ≤ 6) (l9 : 0 ≤ cu) (u9 : cu ≤ 6) (l10 : 0 ≤ hu) (u10 : hu ≤ 1) (l11 : 0 ≤ r) (u11 : r ≤ 0) (l12 : 0 ≤ x12) (u12 : x12 ≤ 400) (e1 : S 412 2 = x12) : (True) ∧ rxPSRPCO S0 ws (bx_up S 412 4 x12) (some 0) := by
  obtain ⟨hI, hx⟩ := hinv
  obtain ⟨a_, c_⟩ := rxdRPCK_16_0 hP hin hin2 I0 I1 hI l8 u8 l9 u9 l10 u10 l11 u11 l12 u12 e1
  exact ⟨a_, c_, (by
    intro hp
    exact (rkPO_up (q := 412) (by decide +kernel) (fun g => absurd g.1 (by decide)) (hx hp)))⟩
theorem rxfRPCO_16_0 {X : (Nat → Int → Int) → Prop} {S0 : Nat → Int → Int} {ws : List Int} (hP : rxPRPCO S0 ws) : bx_obE rxL X S0 rxCRPCO.2.2.1 (rxIRPCO S0 ws) (rxPSRPCO S0 ws) 16 rxzRPCO_16 rxeRPCO_16_0 := by
  intro S S_p r r_p hinv hX hin hsm_ hseg
  obtain ⟨I0, I1, h0_, hr_, b_, f_, d_⟩ := bx_cl (evs := [(1, (0, 412), (0, 4), .inr (0, (12, 0))), (0, (0, 412), (0, 2), .inr (0, (12, 0)))]) (fvs := []) hseg (by decide +kernel) (by decide +kernel)
  have hinv : rxIRPCO_16 S0 ws S (r 8) (r 9) (r 10) (r 11) := hinv
  rw [← hr_ 8 (by decide), ← hr_ 9 (by decide), ← hr_ 10 (by decide), ← hr_ 11 (by decide)] at hinv
  obtain ⟨⟨l8, u8⟩, ⟨l9, u9⟩, ⟨l10, u10⟩, ⟨l11, u11⟩, ⟨l12, u12⟩, -⟩ := b_
  obtain ⟨T0, ⟨e1, w_⟩, w0⟩ := d_
  subst w0
  subst w_
  have g := rxdRPCO_16_0 hP hin hsm_ I0 I1 hinv l8 u8 l9 u9 l10 u10 l11 u11 l12 u12 e1
  refine ⟨bx_narP_ok (l := []) g.1, ?_⟩
  show rxPSRPCO S0 ws (bx_up T0 412 (4) (r_p 12)) (some (bx_num r_p (.inr (0, (0, 0)))))
  rw [bx_xv_ok h0_]
  exact g.2
theorem rxcRPCO_18_0 {S0 : Nat → Int → Int} {ws : List Int} {S : Nat → Int → Int} {st cu hu : Int} (hP : rxPRPCO S0 ws) (hin : bx_same rxL (bx_mdl rxCRPCO.2.2.1) S0 S) (I0 : bx_Inv rxL S) (hinv : rxIRPCO_18 S0 ws S st cu hu) (l8 : 0 ≤ st) (u8 : st ≤ 6) (l9 : 0 ≤ cu) (u9 : cu ≤ 6) (l10 : 1 ≤ hu) (u10 : hu ≤ 1) (f0 : hu ≠ 0) : (True) ∧ (True) ∧ rxIRPCO_19 S0 ws S st cu hu 4 ∧ rxmRPCO_19 S0 ws S st cu hu 4 < rxmRPCO_18 S0 ws S st cu hu := by
  obtain ⟨hI, hx⟩ := hinv
  obtain ⟨a_, b_, c_, d_⟩ := rxcRPCK_18_0 hP hin I0 hI l8 u8 l9 u9 l10 u10 f0
  exact ⟨a_, b_, ⟨c_, hx⟩, d_⟩
theorem rxgRPCO_18_0 {X : (Nat → Int → Int) → Prop} {S0 : Nat → Int → Int} {ws : List Int} (hP : rxPRPCO S0 ws) : bx_obC rxL X S0 rxCRPCO.2.2.1 (rxIRPCO S0 ws) (rxmRPCO S0 ws) 18 rxzRPCO_18 rxoRPCO_18_0 := by
  intro S S_p r r_p hinv hX hin hsm_ hseg
  obtain ⟨I0, I1, h0_, hr_, b_, f_, d_⟩ := bx_cl (evs := []) (fvs := [(3, (10, 0), (0, 0), (0, 0))]) hseg (by decide +kernel) (by decide +kernel)
  have hinv : rxIRPCO_18 S0 ws S (r 8) (r 9) (r 10) := hinv
  rw [← hr_ 8 (by decide), ← hr_ 9 (by decide), ← hr_ 10 (by decide)] at hinv
  obtain ⟨⟨l8, u8⟩, ⟨l9, u9⟩, ⟨l10, u10⟩, -⟩ := b_
  obtain ⟨f0, -⟩ := f_
  have w_ := d_
  subst w_
  have g := rxcRPCO_18_0 hP hin I0 hinv l8 u8 l9 u9 l10 u10 f0
  refine ⟨bx_narP_ok (l := []) g.1, bx_nfP_ok h0_ (fvs := []) (by decide +kernel) g.2.1, ?_, ?_⟩
  · show rxIRPCO_19 S0 ws S_p (bx_val [(0, 0), (0, 0), (0, 0), (0, 0), (0, 0), (0, 0), (0, 0), (0, 0), (8, 0), (9, 0), (10, 0), (0, 4)] r_p 8) (bx_val [(0, 0), (0, 0), (0, 0), (0, 0), (0, 0), (0, 0), (0, 0), (0, 0), (8, 0), (9, 0), (10, 0), (0, 4)] r_p 9) (bx_val [(0, 0), (0, 0), (0, 0), (0, 0), (0, 0), (0, 0), (0, 0), (0, 0), (8, 0), (9, 0), (10, 0), (0, 4)] r_p 10) (bx_val [(0, 0), (0, 0), (0, 0), (0, 0), (0, 0), (0, 0), (0, 0), (0, 0), (8, 0), (9, 0), (10, 0), (0, 4)] r_p 11)
    rw [bx_val_x (n := 8) (e := (8, 0)) h0_ rfl, bx_val_x (n := 9) (e := (9, 0)) h0_ rfl, bx_val_x (n := 10) (e := (10, 0)) h0_ rfl, bx_val_x (n := 11) (e := (0, 4)) h0_ rfl]
    exact g.2.2.1
  · show rxmRPCO_19 S0 ws S_p (bx_val [(0, 0), (0, 0), (0, 0), (0, 0), (0, 0), (0, 0), (0, 0), (0, 0), (8, 0), (9, 0), (10, 0), (0, 4)] r_p 8) (bx_val [(0, 0), (0, 0), (0, 0), (0, 0), (0, 0), (0, 0), (0, 0), (0, 0), (8, 0), (9, 0), (10, 0), (0, 4)] r_p 9) (bx_val [(0, 0), (0, 0), (0, 0), (0, 0), (0, 0), (0, 0), (0, 0), (0, 0), (8, 0), (9, 0), (10, 0), (0, 4)] r_p 10) (bx_val [(0, 0), (0, 0), (0, 0), (0, 0), (0, 0), (0, 0), (0, 0), (0, 0), (8, 0), (9, 0), (10, 0), (0, 4)] r_p 11) < rxmRPCO_18 S0 ws S_p (r 8) (r 9) (r 10)
    rw [bx_val_x (n := 8) (e := (8, 0)) h0_ rfl, bx_val_x (n := 9) (e := (9, 0)) h0_ rfl, bx_val_x (n := 10) (e := (10, 0)) h0_ rfl, bx_val_x (n := 11) (e := (0, 4)) h0_ rfl, ← hr_ 8 (by decide), ← hr_ 9 (by decide), ← hr_ 10 (by decide)]
    exact g.2.2.2
theorem rxcRPCO_18_1 {S0 : Nat → Int → Int} {ws : List Int} {S : Nat → Int → Int} {st cu hu : Int} (hP : rxPRPCO S0 ws) (hin : bx_same rxL (bx_mdl rxCRPCO.2.2.1) S0 S) (I0 : bx_Inv rxL S) (hinv : rxIRPCO_18 S0 ws S st cu hu) (l8 : 0 ≤ st) (u8 : st ≤ 6) (l9 : 0 ≤ cu) (u9 : cu ≤ 6) (l10 : 0 ≤ hu) (u10 : hu ≤ 0) : (True) ∧ (True) ∧ rxIRPCO_19 S0 ws S st cu hu 3 ∧ rxmRPCO_19 S0 ws S st cu hu 3 < rxmRPCO_18 S0 ws S st cu hu := by
  obtain ⟨hI, hx⟩ := hinv
  obtain ⟨a_, b_, c_, d_⟩ := rxcRPCK_18_1 hP hin I0 hI l8 u8 l9 u9 l10 u10
  exact ⟨a_, b_, ⟨c_, hx⟩, d_⟩
theorem rxgRPCO_18_1 {X : (Nat → Int → Int) → Prop} {S0 : Nat → Int → Int} {ws : List Int} (hP : rxPRPCO S0 ws) : bx_obC rxL X S0 rxCRPCO.2.2.1 (rxIRPCO S0 ws) (rxmRPCO S0 ws) 18 rxzRPCO_18 rxoRPCO_18_1 := by
  intro S S_p r r_p hinv hX hin hsm_ hseg
  obtain ⟨I0, I1, h0_, hr_, b_, f_, d_⟩ := bx_cl (evs := []) (fvs := []) hseg (by decide +kernel) (by decide +kernel)
  have hinv : rxIRPCO_18 S0 ws S (r 8) (r 9) (r 10) := hinv
  rw [← hr_ 8 (by decide), ← hr_ 9 (by decide), ← hr_ 10 (by decide)] at hinv
  obtain ⟨⟨l8, u8⟩, ⟨l9, u9⟩, ⟨l10, u10⟩, -⟩ := b_
  have w_ := d_
  subst w_
  have g := rxcRPCO_18_1 hP hin I0 hinv l8 u8 l9 u9 l10 u10
  refine ⟨bx_narP_ok (l := []) g.1, bx_nfP_ok h0_ (fvs := []) (by decide +kernel) g.2.1, ?_, ?_⟩
  · show rxIRPCO_19 S0 ws S_p (bx_val [(0, 0), (0, 0), (0, 0), (0, 0), (0, 0), (0, 0), (0, 0), (0, 0), (8, 0), (9, 0), (10, 0), (0, 3)] r_p 8) (bx_val [(0, 0), (0, 0), (0, 0), (0, 0), (0, 0), (0, 0), (0, 0), (0, 0), (8, 0), (9, 0), (10, 0), (0, 3)] r_p 9) (bx_val [(0, 0), (0, 0), (0, 0), (0, 0), (0, 0), (0, 0), (0, 0), (0, 0), (8, 0), (9, 0), (10, 0), (0, 3)] r_p 10) (bx_val [(0, 0), (0, 0), (0, 0), (0, 0), (0, 0), (0, 0), (0, 0), (0, 0), (8, 0), (9, 0), (10, 0), (0, 3)] r_p 11)
    rw [bx_val_x (n := 8) (e := (8, 0)) h0_ rfl, bx_val_x (n := 9) (e := (9, 0)) h0_ rfl, bx_val_x (n := 10) (e := (10, 0)) h0_ rfl, bx_val_x (n := 11) (e := (0, 3)) h0_ rfl]
    exact g.2.2.1
  · show rxmRPCO_19 S0 ws S_p (bx_val [(0, 0), (0, 0), (0, 0), (0, 0), (0, 0), (0, 0), (0, 0), (0, 0), (8, 0), (9, 0), (10, 0), (0, 3)] r_p 8) (bx_val [(0, 0), (0, 0), (0, 0), (0, 0), (0, 0), (0, 0), (0, 0), (0, 0), (8, 0), (9, 0), (10, 0), (0, 3)] r_p 9) (bx_val [(0, 0), (0, 0), (0, 0), (0, 0), (0, 0), (0, 0), (0, 0), (0, 0), (8, 0), (9, 0), (10, 0), (0, 3)] r_p 10) (bx_val [(0, 0), (0, 0), (0, 0), (0, 0), (0, 0), (0, 0), (0, 0), (0, 0), (8, 0), (9, 0), (10, 0), (0, 3)] r_p 11) < rxmRPCO_18 S0 ws S_p (r 8) (r 9) (r 10)
    rw [bx_val_x (n := 8) (e := (8, 0)) h0_ rfl, bx_val_x (n := 9) (e := (9, 0)) h0_ rfl, bx_val_x (n := 10) (e := (10, 0)) h0_ rfl, bx_val_x (n := 11) (e := (0, 3)) h0_ rfl, ← hr_ 8 (by decide), ← hr_ 9 (by decide), ← hr_ 10 (by decide)]
    exact g.2.2.2
theorem rxcRPCO_20_0 {S0 : Nat → Int → Int} {ws : List Int} {S : Nat → Int → Int} {st cu hu ki x12 : Int} (hP : rxPRPCO S0 ws) (hin : bx_same rxL (bx_mdl rxCRPCO.2.2.1) S0 S) (I0 : bx_Inv rxL S) (hinv : rxIRPCO_20 S0 ws S st cu hu ki) (l8 : 0 ≤ st) (u8 : st ≤ 6) (l9 : 0 ≤ cu) (u9 : cu ≤ 6) (l10 : 0 ≤ hu) (u10 : hu ≤ 0) (l11 : 0 ≤ ki) (u11 : ki ≤ 4) (l12 : 0 ≤ x12) (u12 : x12 ≤ 1522) (e0 : S 427 8 = x12) : (True) ∧ (True) ∧ rxIRPCO_21 S0 ws S st cu hu x12 ∧ rxmRPCO_21 S0 ws S st cu hu x12 < rxmRPCO_20 S0 ws S st cu hu ki := by
  obtain ⟨hI, hx⟩ := hinv
  obtain ⟨a_, b_, c_, d_⟩ := rxcRPCK_20_0 hP hin I0 hI l8 u8 l9 u9 l10 u10 l11 u11 l12 u12 e0
  exact ⟨a_, b_, ⟨c_, hx⟩, d_⟩
theorem rxgRPCO_20_0 {X : (Nat → Int → Int) → Prop} {S0 : Nat → Int → Int} {ws : List Int} (hP : rxPRPCO S0 ws) : bx_obC rxL X S0 rxCRPCO.2.2.1 (rxIRPCO S0 ws) (rxmRPCO S0 ws) 20 rxzRPCO_20 rxoRPCO_20_0 := by
  intro S S_p r r_p hinv hX hin hsm_ hseg
  obtain ⟨I0, I1, h0_, hr_, b_, f_, d_⟩ := bx_cl (evs := [(0, (0, 427), (0, 8), .inr (3, (12, 0)))]) (fvs := []) hseg (by decide +kernel) (by decide +kernel)
  have hinv : rxIRPCO_20 S0 ws S (r 8) (r 9) (r 10) (r 11) := hinv
  rw [← hr_ 8 (by decide), ← hr_ 9 (by decide), ← hr_ 10 (by decide), ← hr_ 11 (by decide)] at hinv
  obtain ⟨⟨l8, u8⟩, ⟨l9, u9⟩, ⟨l10, u10⟩, ⟨l11, u11⟩, ⟨l12, u12⟩, -⟩ := b_
  obtain ⟨e0, w_⟩ := d_
  subst w_
  have g := rxcRPCO_20_0 hP hin I0 hinv l8 u8 l9 u9 l10 u10 l11 u11 l12 u12 e0
  refine ⟨bx_narP_ok (l := []) g.1, bx_nfP_ok h0_ (fvs := []) (by decide +kernel) g.2.1, ?_, ?_⟩
  · show rxIRPCO_21 S0 ws S_p (bx_val [(0, 0), (0, 0), (0, 0), (0, 0), (0, 0), (0, 0), (0, 0), (0, 0), (8, 0), (9, 0), (10, 0), (12, 0)] r_p 8) (bx_val [(0, 0), (0, 0), (0, 0), (0, 0), (0, 0), (0, 0), (0, 0), (0, 0), (8, 0), (9, 0), (10, 0), (12, 0)] r_p 9) (bx_val [(0, 0), (0, 0), (0, 0), (0, 0), (0, 0), (0, 0), (0, 0), (0, 0), (8, 0), (9, 0), (10, 0), (12, 0)] r_p 10) (bx_val [(0, 0), (0, 0), (0, 0), (0, 0), (0, 0), (0, 0), (0, 0), (0, 0), (8, 0), (9, 0), (10, 0), (12, 0)] r_p 11)
    rw [bx_val_x (n := 8) (e := (8, 0)) h0_ rfl, bx_val_x (n := 9) (e := (9, 0)) h0_ rfl, bx_val_x (n := 10) (e := (10, 0)) h0_ rfl, bx_val_x (n := 11) (e := (12, 0)) h0_ rfl]
    exact g.2.2.1
  · show rxmRPCO_21 S0 ws S_p (bx_val [(0, 0), (0, 0), (0, 0), (0, 0), (0, 0), (0, 0), (0, 0), (0, 0), (8, 0), (9, 0), (10, 0), (12, 0)] r_p 8) (bx_val [(0, 0), (0, 0), (0, 0), (0, 0), (0, 0), (0, 0), (0, 0), (0, 0), (8, 0), (9, 0), (10, 0), (12, 0)] r_p 9) (bx_val [(0, 0), (0, 0), (0, 0), (0, 0), (0, 0), (0, 0), (0, 0), (0, 0), (8, 0), (9, 0), (10, 0), (12, 0)] r_p 10) (bx_val [(0, 0), (0, 0), (0, 0), (0, 0), (0, 0), (0, 0), (0, 0), (0, 0), (8, 0), (9, 0), (10, 0), (12, 0)] r_p 11) < rxmRPCO_20 S0 ws S_p (r 8) (r 9) (r 10) (r 11)
    rw [bx_val_x (n := 8) (e := (8, 0)) h0_ rfl, bx_val_x (n := 9) (e := (9, 0)) h0_ rfl, bx_val_x (n := 10) (e := (10, 0)) h0_ rfl, bx_val_x (n := 11) (e := (12, 0)) h0_ rfl, ← hr_ 8 (by decide), ← hr_ 9 (by decide), ← hr_ 10 (by decide), ← hr_ 11 (by decide)]
    exact g.2.2.2
theorem rxdRPCO_20_0 {S0 : Nat → Int → Int} {ws : List Int} {S : Nat → Int → Int} {st cu hu ki : Int} (hP : rxPRPCO S0 ws) (hin : bx_same rxL (bx_mdl rxCRPCO.2.2.1) S0 S) (hin2 : bx_same rxL (bx_mdl rxCRPCO.2.2.1) S S) (I0 : bx_Inv rxL S) (I1 : bx_Inv rxL S) (hinv : rxIRPCO_20 S0 ws S st cu hu ki) (l8 : 0 ≤ st) (u8 : st ≤ 6) (l9 : 0 ≤ cu) (u9 : cu ≤ 6) (l10 : 1 ≤ hu) (u10 : hu ≤ 1) (l11 : 0 ≤ ki) (u11 : ki ≤ 4) (f0 : hu ≠ 0) : (True) ∧ rxPSRPCO S0 ws S (some 1) := by
  obtain ⟨hI, hx⟩ := hinv
  obtain ⟨a_, c_⟩ := rxdRPCK_20_0 hP hin hin2 I0 I1 hI l8 u8 l9 u9 l10 u10 l11 u11 f0
  exact ⟨a_, c_, hx⟩
theorem rxfRPCO_20_0 {X : (Nat → Int → Int) → Prop} {S0 : Nat → Int → Int} {ws : List Int} (hP : rxPRPCO S0 ws) : bx_obE rxL X S0 rxCRPCO.2.2.1 (rxIRPCO S0 ws) (rxPSRPCO S0 ws) 20 rxzRPCO_20 rxeRPCO_20_0 := by
  intro S S_p r r_p hinv hX hin hsm_ hseg
  obtain ⟨I0, I1, h0_, hr_, b_, f_, d_⟩ := bx_cl (evs := []) (fvs := [(3, (10, 0), (0, 0), (0, 0))]) hseg (by decide +kernel) (by decide +kernel)
  have hinv : rxIRPCO_20 S0 ws S (r 8) (r 9) (r 10) (r 11) := hinv
  rw [← hr_ 8 (by decide), ← hr_ 9 (by decide), ← hr_ 10 (by decide), ← hr_ 11 (by decide)] at hinv
  obtain ⟨⟨l8, u8⟩, ⟨l9, u9⟩, ⟨l10, u10⟩, ⟨l11, u11⟩, -⟩ := b_
  obtain ⟨f0, -⟩ := f_
  have w_ := d_
  subst w_
  have g := rxdRPCO_20_0 hP hin hsm_ I0 I1 hinv l8 u8 l9 u9 l10 u10 l11 u11 f0
  refine ⟨bx_narP_ok (l := []) g.1, ?_⟩
  show rxPSRPCO S0 ws S_p (some (bx_num r_p (.inr (0, (0, 1)))))
  rw [bx_xv_ok h0_]
  exact g.2
theorem rxcRPCO_22_0 {S0 : Nat → Int → Int} {ws : List Int} {S : Nat → Int → Int} {st cu hu sa res : Int} (hP : rxPRPCO S0 ws) (hin : bx_same rxL (bx_mdl rxCRPCO.2.2.1) S0 S) (I0 : bx_Inv rxL S) (hinv : rxIRPCO_22 S0 ws S st cu hu sa res) (l8 : 0 ≤ st) (u8 : st ≤ 6) (l9 : 0 ≤ cu) (u9 : cu ≤ 6) (l10 : 0 ≤ hu) (u10 : hu ≤ 1) (l11 : 0 ≤ sa) (u11 : sa ≤ 1522) (l12 : 1 ≤ res) (u12 : res ≤ 1) (f0 : res ≠ 0) : (True) ∧ (True) ∧ rxIRPCO_23 S0 ws S st cu hu ∧ rxmRPCO_23 S0 ws S st cu hu < rxmRPCO_22 S0 ws S st cu hu sa res := by
  obtain ⟨hI, hx⟩ := hinv
  obtain ⟨a_, b_, c_, d_⟩ := rxcRPCK_22_0 hP hin I0 hI l8 u8 l9 u9 l10 u10 l11 u11 l12 u12 f0
  exact ⟨a_, b_, ⟨c_, hx⟩, d_⟩
theorem rxgRPCO_22_0 {X : (Nat → Int → Int) → Prop} {S0 : Nat → Int → Int} {ws : List Int} (hP : rxPRPCO S0 ws) : bx_obC rxL X S0 rxCRPCO.2.2.1 (rxIRPCO S0 ws) (rxmRPCO S0 ws) 22 rxzRPCO_22 rxoRPCO_22_0 := by
  intro S S_p r r_p hinv hX hin hsm_ hseg
  obtain ⟨I0, I1, h0_, hr_, b_, f_, d_⟩ := bx_cl (evs := []) (fvs := [(3, (12, 0), (0, 0), (0, 0))]) hseg (by decide +kernel) (by decide +kernel)
  have hinv : rxIRPCO_22 S0 ws S (r 8) (r 9) (r 10) (r 11) (r 12) := hinv
  rw [← hr_ 8 (by decide), ← hr_ 9 (by decide), ← hr_ 10 (by decide), ← hr_ 11 (by decide), ← hr_ 12 (by decide)] at hinv
  obtain ⟨⟨l8, u8⟩, ⟨l9, u9⟩, ⟨l10, u10⟩, ⟨l11, u11⟩, ⟨l12, u12⟩, -⟩ := b_
  obtain ⟨f0, -⟩ := f_
  have w_ := d_
  subst w_
  have g := rxcRPCO_22_0 hP hin I0 hinv l8 u8 l9 u9 l10 u10 l11 u11 l12 u12 f0
  refine ⟨bx_narP_ok (l := []) g.1, bx_nfP_ok h0_ (fvs := []) (by decide +kernel) g.2.1, ?_, ?_⟩
  · show rxIRPCO_23 S0 ws S_p (bx_val [(0, 0), (0, 0), (0, 0), (0, 0), (0, 0), (0, 0), (0, 0), (0, 0), (8, 0), (9, 0), (10, 0)] r_p 8) (bx_val [(0, 0), (0, 0), (0, 0), (0, 0), (0, 0), (0, 0), (0, 0), (0, 0), (8, 0), (9, 0), (10, 0)] r_p 9) (bx_val [(0, 0), (0, 0), (0, 0), (0, 0), (0, 0), (0, 0), (0, 0), (0, 0), (8, 0), (9, 0), (10, 0)] r_p 10)
    rw [bx_val_x (n := 8) (e := (8, 0)) h0_ rfl, bx_val_x (n := 9) (e := (9, 0)) h0_ rfl, bx_val_x (n := 10) (e := (10, 0)) h0_ rfl]
    exact g.2.2.1
  · show rxmRPCO_23 S0 ws S_p (bx_val [(0, 0), (0, 0), (0, 0), (0, 0), (0, 0), (0, 0), (0, 0), (0, 0), (8, 0), (9, 0), (10, 0)] r_p 8) (bx_val [(0, 0), (0, 0), (0, 0), (0, 0), (0, 0), (0, 0), (0, 0), (0, 0), (8, 0), (9, 0), (10, 0)] r_p 9) (bx_val [(0, 0), (0, 0), (0, 0), (0, 0), (0, 0), (0, 0), (0, 0), (0, 0), (8, 0), (9, 0), (10, 0)] r_p 10) < rxmRPCO_22 S0 ws S_p (r 8) (r 9) (r 10) (r 11) (r 12)
    rw [bx_val_x (n := 8) (e := (8, 0)) h0_ rfl, bx_val_x (n := 9) (e := (9, 0)) h0_ rfl, bx_val_x (n := 10) (e := (10, 0)) h0_ rfl, ← hr_ 8 (by decide), ← hr_ 9 (by decide), ← hr_ 10 (by decide), ← hr_ 11 (by decide), ← hr_ 12 (by decide)]
    exact g.2.2.2
theorem rxdRPCO_22_0 {S0 : Nat → Int → Int} {ws : List Int} {S : Nat → Int → Int} {st cu hu sa res : Int} (hP : rxPRPCO S0 ws) (hin : bx_same rxL (bx_mdl rxCRPCO.2.2.1) S0 S) (hin2 : bx_same rxL (bx_mdl rxCRPCO.2.2.1) S S) (I0 : bx_Inv rxL S) (I1 : bx_Inv rxL S) (hinv : rxIRPCO_22 S0 ws S st cu hu sa res) (l8 : 0 ≤ st) (u8 : st ≤ 6) (l9 : 0 ≤ cu) (u9 : cu ≤ 6) (l10 : 0 ≤ hu) (u10 : hu ≤ 1) (l11 : 0 ≤ sa) (u11 : sa ≤ 1522) (l12 : 0 ≤ res) (u12 : res ≤ 0) : (True) ∧ rxPSRPCO S0 ws S (some 0) := by
  obtain ⟨hI, hx⟩ := hinv
  obtain ⟨a_, c_⟩ := rxdRPCK_22_0 hP hin hin2 I0 I1 hI l8 u8 l9 u9 l10 u10 l11 u11 l12 u12
  exact ⟨a_, c_, hx⟩
theorem rxfRPCO_22_0 {X : (Nat → Int → Int) → Prop} {S0 : Nat → Int → Int} {ws : List Int} (hP : rxPRPCO S0 ws) : bx_obE rxL X S0 rxCRPCO.2.2.1 (rxIRPCO S0 ws) (rxPSRPCO S0 ws) 22 rxzRPCO_22 rxeRPCO_22_0 := by
  intro S S_p r r_p hinv hX hin hsm_ hseg
  obtain ⟨I0, I1, h0_, hr_, b_, f_, d_⟩ := bx_cl (evs := []) (fvs := []) hseg (by decide +kernel) (by decide +kernel)
  have hinv : rxIRPCO_22 S0 ws S (r 8) (r 9) (r 10) (r 11) (r 12) := hinv
  rw [← hr_ 8 (by decide), ← hr_ 9 (by decide), ← hr_ 10 (by decide), ← hr_ 11 (by decide), ← hr_ 12 (by decide)] at hinv
  obtain ⟨⟨l8, u8⟩, ⟨l9, u9⟩, ⟨l10, u10⟩, ⟨l11, u11⟩, ⟨l12, u12⟩, -⟩ := b_
  have w_ := d_
  subst w_
  have g := rxdRPCO_22_0 hP hin hsm_ I0 I1 hinv l8 u8 l9 u9 l10 u10 l11 u11 l12 u12
  refine ⟨bx_narP_ok (l := []) g.1, ?_⟩
  show rxPSRPCO S0 ws S_p (some (bx_num r_p (.inr (0, (0, 0)))))
  rw [bx_xv_ok h0_]
  exact g.2
theorem rxcRPCO_24_0 {S0 : Nat → Int → Int} {ws : List Int} {S : Nat → Int → Int} {st cu hu r : Int} (hP : rxPRPCO S0 ws) (hin : bx_same rxL (bx_mdl rxCRPCO.2.2.1) S0 S) (I0 : bx_Inv rxL S) (hinv : rxIRPCO_24 S0 ws S st cu hu r) (l8 : 0 ≤ st) (u8 : st ≤ 6) (l9 : 0 ≤ cu) (u9 : cu ≤ 6) (l10 : 0 ≤ hu) (u10 : hu ≤ 1) (l11 : 1 ≤ r) (u11 : r ≤ 1) (f0 : r ≠ 0) : (True) ∧ (True) ∧ rxIRPCO_25 S0 ws S st cu hu ∧ rxmRPCO_25 S0 ws S st cu hu < rxmRPCO_24 S0 ws S st cu hu r := by
  obtain ⟨hI, hx⟩ := hinv
  obtain ⟨a_, b_, c_, d_⟩ := rxcRPCK_24_0 hP hin I0 hI l8 u8 l9 u9 l10 u10 l11 u11 f0
  exact ⟨a_, b_, ⟨c_, hx⟩, d_⟩
theorem rxgRPCO_24_0 {X : (Nat → Int → Int) → Prop} {S0 : Nat → Int → Int} {ws : List Int} (hP : rxPRPCO S0 ws) : bx_obC rxL X S0 rxCRPCO.2.2.1 (rxIRPCO S0 ws) (rxmRPCO S0 ws) 24 rxzRPCO_24 rxoRPCO_24_0 := by
  intro S S_p r r_p hinv hX hin hsm_ hseg
  obtain ⟨I0, I1, h0_, hr_, b_, f_, d_⟩ := bx_cl (evs := []) (fvs := [(3, (11, 0), (0, 0), (0, 0))]) hseg (by decide +kernel) (by decide +kernel)
  have hinv : rxIRPCO_24 S0 ws S (r 8) (r 9) (r 10) (r 11) := hinv
  rw [← hr_ 8 (by decide), ← hr_ 9 (by decide), ← hr_ 10 (by decide), ← hr_ 11 (by decide)] at hinv
  obtain ⟨⟨l8, u8⟩, ⟨l9, u9⟩, ⟨l10, u10⟩, ⟨l11, u11⟩, -⟩ := b_
  obtain ⟨f0, -⟩ := f_
  have w_ := d_
  subst w_
  have g := rxcRPCO_24_0 hP hin I0 hinv l8 u8 l9 u9 l10 u10 l11 u11 f0
  refine ⟨bx_narP_ok (l := []) g.1, bx_nfP_ok h0_ (fvs := []) (by decide +kernel) g.2.1, ?_, ?_⟩
  · show rxIRPCO_25 S0 ws S_p (bx_val [(0, 0), (0, 0), (0, 0), (0, 0), (0, 0), (0, 0), (0, 0), (0, 0), (8, 0), (9, 0), (10, 0)] r_p 8) (bx_val [(0, 0), (0, 0), (0, 0), (0, 0), (0, 0), (0, 0), (0, 0), (0, 0), (8, 0), (9, 0), (10, 0)] r_p 9) (bx_val [(0, 0), (0, 0), (0, 0), (0, 0), (0, 0), (0, 0), (0, 0), (0, 0), (8, 0), (9, 0), (10, 0)] r_p 10)
    rw [bx_val_x (n := 8) (e := (8, 0)) h0_ rfl, bx_val_x (n := 9) (e := (9, 0)) h0_ rfl, bx_val_x (n := 10) (e := (10, 0)) h0_ rfl]
    exact g.2.2.1
  · show rxmRPCO_25 S0 ws S_p (bx_val [(0, 0), (0, 0), (0, 0), (0, 0), (0, 0), (0, 0), (0, 0), (0, 0), (8, 0), (9, 0), (10, 0)] r_p 8) (bx_val [(0, 0), (0, 0), (0, 0), (0, 0), (0, 0), (0, 0), (0, 0), (0, 0), (8, 0), (9, 0), (10, 0)] r_p 9) (bx_val [(0, 0), (0, 0), (0, 0), (0, 0), (0, 0), (0, 0), (0, 0), (0, 0), (8, 0), (9, 0), (10, 0)] r_p 10) < rxmRPCO_24 S0 ws S_p (r 8) (r 9) (r 10) (r 11)
    rw [bx_val_x (n := 8) (e := (8, 0)) h0_ rfl, bx_val_x (n := 9) (e := (9, 0)) h0_ rfl, bx_val_x (n := 10) (e := (10, 0)) h0_ rfl, ← hr_ 8 (by decide), ← hr_ 9 (by decide), ← hr_ 10 (by decide), ← hr_ 11 (by decide)]
    exact g.2.2.2
theorem rxdRPCO_24_0 {S0 : Nat → Int → Int} {ws : List Int} {S : Nat → Int → Int} {st cu hu r : Int} (hP : rxPRPCO S0 ws) (hin : bx_same rxL (bx_mdl rxCRPCO.2.2.1) S0 S) (hin2 : bx_same rxL (bx_mdl rxCRPCO.2.2.1) S S) (I0 : bx_Inv rxL S) (I1 : bx_Inv rxL S) (hinv : rxIRPCO_24 S0 ws S st cu hu r) (l8 : 0 ≤ st) (u8 : st ≤ 6) (l9 : 0 ≤ cu) (u9 : cu ≤ 6) (l10 : 0 ≤ hu) (u10 : hu ≤ 1) (l11 : 0 ≤ r) (u11 : r ≤ 0) : (True) ∧ rxPSRPCO S0 ws S (some 1) := by
  obtain ⟨hI, hx⟩ := hinv
  obtain ⟨a_, c_⟩ := rxdRPCK_24_0 hP hin hin2 I0 I1 hI l8 u8 l9 u9 l10 u10 l11 u11
  exact ⟨a_, c_, hx⟩
theorem rxfRPCO_24_0 {X : (Nat → Int → Int) → Prop} {S0 : Nat → Int → Int} {ws : List Int} (hP : rxPRPCO S0 ws) : bx_obE rxL X S0 rxCRPCO.2.2.1 (rxIRPCO S0 ws) (rxPSRPCO S0 ws) 24 rxzRPCO_24 rxeRPCO_24_0 := by
  intro S S_p r r_p hinv hX hin hsm_ hseg
  obtain ⟨I0, I1, h0_, hr_, b_, f_, d_⟩ := bx_cl (evs := []) (fvs := []) hseg (by decide +kernel) (by decide +kernel)
  have hinv : rxIRPCO_24 S0 ws S (r 8) (r 9) (r 10) (r 11) := hinv
  rw [← hr_ 8 (by decide), ← hr_ 9 (by decide), ← hr_ 10 (by decide), ← hr_ 11 (by decide)] at hinv
  obtain ⟨⟨l8, u8⟩, ⟨l9, u9⟩, ⟨l10, u10⟩, ⟨l11, u11⟩, -⟩ := b_
  have w_ := d_
  subst w_
  have g := rxdRPCO_24_0 hP hin hsm_ I0 I1 hinv l8 u8 l9 u9 l10 u10 l11 u11
  refine ⟨bx_narP_ok (l := []) g.1, ?_⟩
  show rxPSRPCO S0 ws S_p (some (bx_num r_p (.inr (0, (0, 1)))))
  rw [bx_xv_ok h0_]
  exact g.2
theorem rxcRPCO_26_0 {S0 : Nat → Int → Int} {ws : List Int} {S : Nat → Int → Int} {st cu hu x11 : Int} (hP : rxPRPCO S0 ws) (hin : bx_same rxL (bx_mdl rxCRPCO.2.2.1) S0 S) (I0 : bx_Inv rxL S) (hinv : rxIRPCO_26 S0 ws S st cu hu) (l8 : 0 ≤ st) (u8 : st ≤ 6) (l9 : 0 ≤ cu) (u9 : cu ≤ 6) (l10 : 0 ≤ hu) (u10 : hu ≤ 1) (l11 : 0 ≤ x11) (u11 : x11 ≤ 1522) (e0 : S 427 9 = x11) : (True) ∧ (True) ∧ rxIRPCO_27 S0 ws S st cu hu x11 ∧ rxmRPCO_27 S0 ws S st cu hu x11 < rxmRPCO_26 S0 ws S st cu hu := by
  obtain ⟨hI, hx⟩ := hinv
  obtain ⟨a_, b_, c_, d_⟩ := rxcRPCK_26_0 hP hin I0 hI l8 u8 l9 u9 l10 u10 l11 u11 e0
  exact ⟨a_, b_, ⟨c_, hx⟩, d_⟩
theorem rxgRPCO_26_0 {X : (Nat → Int → Int) → Prop} {S0 : Nat → Int → Int} {ws : List Int} (hP : rxPRPCO S0 ws) : bx_obC rxL X S0 rxCRPCO.2.2.1 (rxIRPCO S0 ws) (rxmRPCO S0 ws) 26 rxzRPCO_26 rxoRPCO_26_0 := by
  intro S S_p r r_p hinv hX hin hsm_ hseg
  obtain ⟨I0, I1, h0_, hr_, b_, f_, d_⟩ := bx_cl (evs := [(0, (0, 427), (0, 9), .inr (3, (11, 0)))]) (fvs := []) hseg (by decide +kernel) (by decide +kernel)
  have hinv : rxIRPCO_26 S0 ws S (r 8) (r 9) (r 10) := hinv
  rw [← hr_ 8 (by decide), ← hr_ 9 (by decide), ← hr_ 10 (by decide)] at hinv
  obtain ⟨⟨l8, u8⟩, ⟨l9, u9⟩, ⟨l10, u10⟩, ⟨l11, u11⟩, -⟩ := b_
  obtain ⟨e0, w_⟩ := d_
  subst w_
  have g := rxcRPCO_26_0 hP hin I0 hinv l8 u8 l9 u9 l10 u10 l11 u11 e0
  refine ⟨bx_narP_ok (l := []) g.1, bx_nfP_ok h0_ (fvs := []) (by decide +kernel) g.2.1, ?_, ?_⟩
  · show rxIRPCO_27 S0 ws S_p (bx_val [(0, 0), (0, 0), (0, 0), (0, 0), (0, 0), (0, 0), (0, 0), (0, 0), (8, 0), (9, 0), (10, 0), (11, 0)] r_p 8) (bx_val [(0, 0), (0, 0), (0, 0), (0, 0), (0, 0), (0, 0), (0, 0), (0, 0), (8, 0), (9, 0), (10, 0), (11, 0)] r_p 9) (bx_val [(0, 0), (0, 0), (0, 0), (0, 0), (0, 0), (0, 0), (0, 0), (0, 0), (8, 0), (9, 0), (10, 0), (11, 0)] r_p 10) (bx_val [(0, 0), (0, 0), (0, 0), (0, 0), (0, 0), (0, 0), (0, 0), (0, 0), (8, 0), (9, 0), (10, 0), (11, 0)] r_p 11)
    rw [bx_val_x (n := 8) (e := (8, 0)) h0_ rfl, bx_val_x (n := 9) (e := (9, 0)) h0_ rfl, bx_val_x (n := 10) (e := (10, 0)) h0_ rfl, bx_val_x (n := 11) (e := (11, 0)) h0_ rfl]
    exact g.2.2.1
  · show rxmRPCO_27 S0 ws S_p (bx_val [(0, 0), (0, 0), (0, 0), (0, 0), (0, 0), (0, 0), (0, 0), (0, 0), (8, 0), (9, 0), (10, 0), (11, 0)] r_p 8) (bx_val [(0, 0), (0, 0), (0, 0), (0, 0), (0, 0), (0, 0), (0, 0), (0, 0), (8, 0), (9, 0), (10, 0), (11, 0)] r_p 9) (bx_val [(0, 0), (0, 0), (0, 0), (0, 0), (0, 0), (0, 0), (0, 0), (0, 0), (8, 0), (9, 0), (10, 0), (11, 0)] r_p 10) (bx_val [(0, 0), (0, 0), (0, 0), (0, 0), (0, 0), (0, 0), (0, 0), (0, 0), (8, 0), (9, 0), (10, 0), (11, 0)] r_p 11) < rxmRPCO_26 S0 ws S_p (r 8) (r 9) (r 10)
    rw [bx_val_x (n := 8) (e := (8, 0)) h0_ rfl, bx_val_x (n := 9) (e := (9, 0)) h0_ rfl, bx_val_x (n := 10) (e := (10, 0)) h0_ rfl, bx_val_x (n := 11) (e := (11, 0)) h0_ rfl, ← hr_ 8 (by decide), ← hr_ 9 (by decide), ← hr_ 10 (by decide)]
    exact g.2.2.2
theorem rxdRPCO_28_0 {S0 : Nat → Int → Int} {ws : List Int} {S : Nat → Int → Int} {st cu hu sa res : Int} (hP : rxPRPCO S0 ws) (hin : bx_same rxL (bx_mdl rxCRPCO.2.2.1) S0 S) (hin2 : bx_same rxL (bx_mdl rxCRPCO.2.2.1) S S) (I0 : bx_Inv rxL S) (I1 : bx_Inv rxL S) (hinv : rxIRPCO_28 S0 ws S st cu hu sa res) (l8 : 0 ≤ st) (u8 : st ≤ 6) (l9 : 0 ≤ cu) (u9 : cu ≤ 6) (l10 : 0 ≤ hu) (u10 : hu ≤ 1) (l11 : 0 ≤ sa) (u11 : sa ≤ 1522) (l12 : 0 ≤ res) (u12 : res ≤ 1) : (True) ∧ rxPSRPCO S0 ws S (some res) := by
  obtain ⟨hI, hx⟩ := hinv
  obtain ⟨a_, c_⟩ := rxdRPCK_28_0 hP hin hin2 I0 I1 hI l8 u8 l9 u9 l10 u10 l11 u11 l12 u12
  exact ⟨a_, c_, hx⟩
theorem rxfRPCO_28_0 {X : (Nat → Int → Int) → Prop} {S0 : Nat → Int → Int} {ws : List Int} (hP : rxPRPCO S0 ws) : bx_obE rxL X S0 rxCRPCO.2.2.1 (rxIRPCO S0 ws) (rxPSRPCO S0 ws) 28 rxzRPCO_28 rxeRPCO_28_0 := by
  intro S S_p r r_p hinv hX hin hsm_ hseg
  obtain ⟨I0, I1, h0_, hr_, b_, f_, d_⟩ := bx_cl (evs := []) (fvs := []) hseg (by decide +kernel) (by decide +kernel)
  have hinv : rxIRPCO_28 S0 ws S (r 8) (r 9) (r 10) (r 11) (r 12) := hinv
  rw [← hr_ 8 (by decide), ← hr_ 9 (by decide), ← hr_ 10 (by decide), ← hr_ 11 (by decide), ← hr_ 12 (by decide)] at hinv
  obtain ⟨⟨l8, u8⟩, ⟨l9, u9⟩, ⟨l10, u10⟩, ⟨l11, u11⟩, ⟨l12, u12⟩, -⟩ := b_
  have w_ := d_
  subst w_
  have g := rxdRPCO_28_0 hP hin hsm_ I0 I1 hinv l8 u8 l9 u9 l10 u10 l11 u11 l12 u12
  refine ⟨bx_narP_ok (l := []) g.1, ?_⟩
  show rxPSRPCO S0 ws S_p (some (bx_num r_p (.inr (0, (12, 0)))))
  rw [bx_xv_ok h0_]
  exact g.2
theorem rxgCRPCO {X : (Nat → Int → Int) → Prop} {S0 : Nat → Int → Int} {ws : List Int} (hP : rxPRPCO S0 ws) : bx_allI (fun i q => rxURPCO q = true ∨ bx_allP (fun o => bx_obC rxL X S0 rxCRPCO.2.2.1 (rxIRPCO S0 ws) (rxmRPCO S0 ws) i q.1 o) q.2.1) 0 rxYRPCO := ⟨Or.inr ⟨rxgRPCO_0_0 hP, trivial⟩, Or.inl rfl, Or.inr ⟨rxgRPCO_2_0 hP, trivial⟩, Or.inl rfl, Or.inr ⟨rxgRPCO_4_0 hP, trivial⟩, Or.inl rfl, Or.inr ⟨rxgRPCO_6_0 hP, trivial⟩, Or.inl rfl, Or.inr ⟨rxgRPCO_8_0 hP, trivial⟩, Or.inl rfl, Or.inr ⟨rxgRPCO_10_0 hP, trivial⟩, Or.inl rfl, Or.inr ⟨rxgRPCO_12_0 hP, trivial⟩, Or.inl rfl, Or.inr ⟨rxgRPCO_14_0 hP, rxgRPCO_14_1 hP, trivial⟩, Or.inl rfl, Or.inr ⟨rxgRPCO_16_0 hP, trivial⟩, Or.inl rfl, Or.inr ⟨rxgRPCO_18_0 hP, rxgRPCO_18_1 hP, trivial⟩, Or.inl rfl, Or.inr ⟨rxgRPCO_20_0 hP, trivial⟩, Or.inl rfl, Or.inr ⟨rxgRPCO_22_0 hP, trivial⟩, Or.inl rfl, Or.inr ⟨rxgRPCO_24_0 hP, trivial⟩, Or.inl rfl, Or.inr ⟨rxgRPCO_26_0 hP, trivial⟩, Or.inl rfl, Or.inr trivial, trivial⟩
theorem rxgERPCO {X : (Nat → Int → Int) → Prop} {S0 : Nat → Int → Int} {ws : List Int} (hP : rxPRPCO S0 ws) : bx_allI (fun i q => rxURPCO q = true ∨ bx_allP (fun E => bx_obE rxL X S0 rxCRPCO.2.2.1 (rxIRPCO S0 ws) (rxPSRPCO S0 ws) i q.1 E) q.2.2) 0 rxYRPCO := ⟨Or.inr trivial, Or.inl rfl, Or.inr ⟨rxfRPCO_2_0 hP, trivial⟩, Or.inl rfl, Or.inr ⟨rxfRPCO_4_0 hP, trivial⟩, Or.inl rfl, Or.inr trivial, Or.inl rfl, Or.inr ⟨rxfRPCO_8_0 hP, trivial⟩, Or.inl rfl, Or.inr ⟨rxfRPCO_10_0 hP, trivial⟩, Or.inl rfl, Or.inr trivial, Or.inl rfl, Or.inr trivial, Or.inl rfl, Or.inr ⟨rxfRPCO_16_0 hP, trivial⟩, Or.inl rfl, Or.inr trivial, Or.inl rfl, Or.inr ⟨rxfRPCO_20_0 hP, trivial⟩, Or.inl rfl, Or.inr ⟨rxfRPCO_22_0 hP, trivial⟩, Or.inl rfl, Or.inr ⟨rxfRPCO_24_0 hP, trivial⟩, Or.inl rfl, Or.inr trivial, Or.inl rfl, Or.inr ⟨rxfRPCO_28_0 hP, trivial⟩, trivial⟩
theorem rxuRPCO {PX : State → Prop} {Dg : va_G} {A : Nat → Prop} {ad xa : Nat → Nat} {l : Launch} {X : (Nat → Int → Int) → Prop} (hPX : rx_PXOK rxNW A PX) (hX : ∀ S S1 : Nat → Int → Int, X S → bx_same rxL (bx_mdl rxCRPCO.2.2.1) S S1 → X S1) (hQTKW : bx_ConP rxG rxNW rxAO PX Dg rxL X vwCl A ad l rxM90 rxC90 rxPTKW rxPSTKW) (hQPLH : bx_ConP rxG rxNW rxAO PX Dg rxL X vwCl A ad l rxM91 rxC91 rxPPLH rxPSPLH) (hQAD : bx_ConP rxG rxNW rxAO PX Dg rxL X vwCl A ad l rxM84 rxC84 rxPAD rxPSAD) (hQIWX : bx_ConP rxG rxNW rxAO PX Dg rxL X vwCl A ad l rxM59 rxC59 rxPIWX rxPSIWX) (hQOCO : bx_ConP rxG rxNW rxAO PX Dg rxL X vwCl A ad l rxM60 rxCOCO rxPOCO rxPSOCO) (hQREDO : bx_ConP rxG rxNW rxAO PX Dg rxL X vwCl A ad l rxM61 rxCREDO rxPREDO rxPSREDO) {S0 : Nat → Int → Int} {ws : List Int} (hP : rxPRPCO S0 ws) : ∀ (i : Nat) (q : bx_HE), rxYRPCO[i]? = some q → rxURPCO q = true → ∀ {p : Program} {e : Env} {R : Room} {s : State} {m : MethodId} {args : Array Value} {below : List Frame} {meth : Method} {c : Code} {Q : State → Prop} {H0 : Heap}, rx_Fr rxG rxNW rxAO PX p s m args meth c rxM85 → (∀ q, H0.size ≤ q → A q) → H0 = s.heap → rxM85.2.2.2.2.2.2.1 ≤ R.cells → rxM85.2.2.2.2.2.2.2 ≤ R.slots → rxCRPCO.2.2.2.1 ≤ R.frames → rxCRPCO.2.2.2.1 * 40 ≤ R.locals → bx_Step p l e R s m args below meth c Q Dg rxL X vwCl A xa H0 ad rxM85 rxYRPCO (rxIRPCO S0 ws) (rxmRPCO S0 ws) S0 rxCRPCO.2.2.1 i q := by
  intro i q hq hus p e R s m args below meth c Q H0 hF hA hH0 hmc hms hd hdl
  match i, hq with
  | 0, hq =>
    cases hq
    exact absurd (show false = true from hus) Bool.false_ne_true
  | 1, hq =>
    cases hq
    exact rx_stepC (ins := .invokevirtual 88) (len := 3) (i_p := 2) (M_p := rxM90) (d := rxCRPCO.2.2.2.1) (as := [.inr (3, (0, 412)), .inr (3, (0, 533))]) (t := []) (ct := rxC90) hPX hF rfl hA hH0 hmc hms hd hdl (by decide +kernel) rfl rfl (by decide +kernel) (by decide +kernel) hQTKW (by decide +kernel) rfl (Or.inr ⟨_, _, _, 1, rfl, rfl, by omega, rfl, rfl, rfl⟩) (rxsRPCO_1 hP)
  | 2, hq =>
    cases hq
    exact absurd (show false = true from hus) Bool.false_ne_true
  | 3, hq =>
    cases hq
    exact rx_stepC (ins := .invokevirtual 92) (len := 3) (i_p := 4) (M_p := rxM91) (d := rxCRPCO.2.2.2.1) (as := [.inr (3, (0, 412))]) (t := []) (ct := rxC91) hPX hF rfl hA hH0 hmc hms hd hdl (by decide +kernel) rfl rfl (by decide +kernel) (by decide +kernel) hQPLH (by decide +kernel) rfl (Or.inr ⟨_, _, _, 1, rfl, rfl, by omega, rfl, rfl, rfl⟩) (rxsRPCO_3 hP)
  | 4, hq =>
    cases hq
    exact absurd (show false = true from hus) Bool.false_ne_true
  | 5, hq =>
    cases hq
    exact rx_stepC (ins := .invokevirtual 66) (len := 3) (i_p := 6) (M_p := rxM84) (d := rxCRPCO.2.2.2.1) (as := [.inr (3, (0, 412))]) (t := []) (ct := rxC84) hPX hF rfl hA hH0 hmc hms hd hdl (by decide +kernel) rfl rfl (by decide +kernel) (by decide +kernel) hQAD (by decide +kernel) rfl (Or.inl ⟨rfl, rfl, rfl⟩) (rxsRPCO_5 hP)
  | 6, hq =>
    cases hq
    exact absurd (show false = true from hus) Bool.false_ne_true
  | 7, hq =>
    cases hq
    exact rx_stepC (ins := .invokevirtual 88) (len := 3) (i_p := 8) (M_p := rxM90) (d := rxCRPCO.2.2.2.1) (as := [.inr (3, (0, 412)), .inr (3, (0, 524))]) (t := []) (ct := rxC90) hPX hF rfl hA hH0 hmc hms hd hdl (by decide +kernel) rfl rfl (by decide +kernel) (by decide +kernel) hQTKW (by decide +kernel) rfl (Or.inr ⟨_, _, _, 1, rfl, rfl, by omega, rfl, rfl, rfl⟩) (rxsRPCO_7 hP)
  | 8, hq =>
    cases hq
    exact absurd (show false = true from hus) Bool.false_ne_true
  | 9, hq =>
    cases hq
    exact rx_stepC (ins := .invokevirtual 92) (len := 3) (i_p := 10) (M_p := rxM91) (d := rxCRPCO.2.2.2.1) (as := [.inr (3, (0, 412))]) (t := []) (ct := rxC91) hPX hF rfl hA hH0 hmc hms hd hdl (by decide +kernel) rfl rfl (by decide +kernel) (by decide +kernel) hQPLH (by decide +kernel) rfl (Or.inr ⟨_, _, _, 1, rfl, rfl, by omega, rfl, rfl, rfl⟩) (rxsRPCO_9 hP)
  | 10, hq =>
    cases hq
    exact absurd (show false = true from hus) Bool.false_ne_true
  | 11, hq =>
    cases hq
    exact rx_stepC (ins := .invokevirtual 66) (len := 3) (i_p := 12) (M_p := rxM84) (d := rxCRPCO.2.2.2.1) (as := [.inr (3, (0, 412))]) (t := []) (ct := rxC84) hPX hF rfl hA hH0 hmc hms hd hdl (by decide +kernel) rfl rfl (by decide +kernel) (by decide +kernel) hQAD (by decide +kernel) rfl (Or.inl ⟨rfl, rfl, rfl⟩) (rxsRPCO_11 hP)
  | 12, hq =>
    cases hq
    exact absurd (show false = true from hus) Bool.false_ne_true
  | 13, hq =>
    cases hq
    exact rx_stepC (ins := .invokevirtual 100) (len := 3) (i_p := 14) (M_p := rxM59) (d := rxCRPCO.2.2.2.1) (as := [.inr (3, (0, 412)), .inr (3, (0, 531))]) (t := []) (ct := rxC59) hPX hF rfl hA hH0 hmc hms hd hdl (by decide +kernel) rfl rfl (by decide +kernel) (by decide +kernel) hQIWX (by decide +kernel) rfl (Or.inr ⟨_, _, _, 1, rfl, rfl, by omega, rfl, rfl, rfl⟩) (rxsRPCO_13 hP)
  | 14, hq =>
    cases hq
    exact absurd (show false = true from hus) Bool.false_ne_true
  | 15, hq =>
    cases hq
    exact rx_stepC (ins := .invokevirtual 100) (len := 3) (i_p := 16) (M_p := rxM59) (d := rxCRPCO.2.2.2.1) (as := [.inr (3, (0, 412)), .inr (3, (0, 541))]) (t := []) (ct := rxC59) hPX hF rfl hA hH0 hmc hms hd hdl (by decide +kernel) rfl rfl (by decide +kernel) (by decide +kernel) hQIWX (by decide +kernel) rfl (Or.inr ⟨_, _, _, 1, rfl, rfl, by omega, rfl, rfl, rfl⟩) (rxsRPCO_15 hP)
  | 16, hq =>
    cases hq
    exact absurd (show false = true from hus) Bool.false_ne_true
  | 17, hq =>
    cases hq
    exact rx_stepC (ins := .invokevirtual 66) (len := 3) (i_p := 18) (M_p := rxM84) (d := rxCRPCO.2.2.2.1) (as := [.inr (3, (0, 412))]) (t := []) (ct := rxC84) hPX hF rfl hA hH0 hmc hms hd hdl (by decide +kernel) rfl rfl (by decide +kernel) (by decide +kernel) hQAD (by decide +kernel) rfl (Or.inl ⟨rfl, rfl, rfl⟩) (rxsRPCO_17 hP)
  | 18, hq =>
    cases hq
    exact absurd (show false = true from hus) Bool.false_ne_true
  | 19, hq =>
    cases hq
    exact rx_stepC (ins := .invokevirtual 105) (len := 3) (i_p := 20) (M_p := rxM60) (d := rxCRPCO.2.2.2.1) (as := [.inr (3, (0, 427)), .inr (0, (11, 0)), .inr (0, (8, 0)), .inr (0, (9, 0))]) (t := []) (ct := rxCOCO) hPX hF rfl hA hH0 hmc hms hd hdl (by decide +kernel) rfl rfl (by decide +kernel) (by decide +kernel) hQOCO (by decide +kernel) rfl (Or.inl ⟨rfl, rfl, rfl⟩) (rxsRPCO_19 hP)
  | 20, hq =>
    cases hq
    exact absurd (show false = true from hus) Bool.false_ne_true
  | 21, hq =>
    cases hq
    exact rx_stepC (ins := .invokevirtual 112) (len := 3) (i_p := 22) (M_p := rxM61) (d := rxCRPCO.2.2.2.1) (as := [.inr (3, (0, 412)), .inr (3, (11, 0)), .inr (0, (0, 0))]) (t := []) (ct := rxCREDO) hPX hF rfl hA hH0 hmc hms hd hdl (by decide +kernel) rfl rfl (by decide +kernel) (by decide +kernel) hQREDO (by decide +kernel) rfl (Or.inr ⟨_, _, _, 1, rfl, rfl, by omega, rfl, rfl, rfl⟩) (rxsRPCO_21 hP)
  | 22, hq =>
    cases hq
    exact absurd (show false = true from hus) Bool.false_ne_true
  | 23, hq =>
    cases hq
    exact rx_stepC (ins := .invokevirtual 100) (len := 3) (i_p := 24) (M_p := rxM59) (d := rxCRPCO.2.2.2.1) (as := [.inr (3, (0, 412)), .inr (3, (0, 529))]) (t := []) (ct := rxC59) hPX hF rfl hA hH0 hmc hms hd hdl (by decide +kernel) rfl rfl (by decide +kernel) (by decide +kernel) hQIWX (by decide +kernel) rfl (Or.inr ⟨_, _, _, 1, rfl, rfl, by omega, rfl, rfl, rfl⟩) (rxsRPCO_23 hP)
  | 24, hq =>
    cases hq
    exact absurd (show false = true from hus) Bool.false_ne_true
  | 25, hq =>
    cases hq
    exact rx_stepC (ins := .invokevirtual 66) (len := 3) (i_p := 26) (M_p := rxM84) (d := rxCRPCO.2.2.2.1) (as := [.inr (3, (0, 412))]) (t := []) (ct := rxC84) hPX hF rfl hA hH0 hmc hms hd hdl (by decide +kernel) rfl rfl (by decide +kernel) (by decide +kernel) hQAD (by decide +kernel) rfl (Or.inl ⟨rfl, rfl, rfl⟩) (rxsRPCO_25 hP)
  | 26, hq =>
    cases hq
    exact absurd (show false = true from hus) Bool.false_ne_true
  | 27, hq =>
    cases hq
    exact rx_stepC (ins := .invokevirtual 112) (len := 3) (i_p := 28) (M_p := rxM61) (d := rxCRPCO.2.2.2.1) (as := [.inr (3, (0, 412)), .inr (3, (11, 0)), .inr (0, (0, 0))]) (t := []) (ct := rxCREDO) hPX hF rfl hA hH0 hmc hms hd hdl (by decide +kernel) rfl rfl (by decide +kernel) (by decide +kernel) hQREDO (by decide +kernel) rfl (Or.inr ⟨_, _, _, 1, rfl, rfl, by omega, rfl, rfl, rfl⟩) (rxsRPCO_27 hP)
  | 28, hq =>
    cases hq
    exact absurd (show false = true from hus) Bool.false_ne_true
  | n + 29, hq => cases hq
theorem rxQRPCO {PX : State → Prop} {Dg : va_G} {A : Nat → Prop} {ad xa : Nat → Nat} {l : Launch} {X : (Nat → Int → Int) → Prop} (hPX : rx_PXOK rxNW A PX) (hsl : ∀ s : State, PX s → ∀ o idx n : Nat, rxSl o idx = some n → ∃ tx : String, vk_R (rxNm o) idx tx (ad n) s)
    (hX : ∀ S S_p : Nat → Int → Int, X S → bx_same rxL (bx_mdl rxCRPCO.2.2.1) S S_p → X S_p)
    (ih : ∀ (j2 : Nat) (ct2 : bx_Ct) (M2 : rx_Mt), ct2 ∈ rxCnE j2 → ct2.2.2.2.1 + 1 ≤ rxCRPCO.2.2.2.1 → rxT.2.2.2.2.2 j2 = some M2 → bx_Con rxG rxNW rxAO PX Dg rxL X vwCl A ad l M2 ct2) (hQTKW : bx_ConP rxG rxNW rxAO PX Dg rxL X vwCl A ad l rxM90 rxC90 rxPTKW rxPSTKW) (hQPLH : bx_ConP rxG rxNW rxAO PX Dg rxL X vwCl A ad l rxM91 rxC91 rxPPLH rxPSPLH) (hQAD : bx_ConP rxG rxNW rxAO PX Dg rxL X vwCl A ad l rxM84 rxC84 rxPAD rxPSAD) (hQIWX : bx_ConP rxG rxNW rxAO PX Dg rxL X vwCl A ad l rxM59 rxC59 rxPIWX rxPSIWX) (hQOCO : bx_ConP rxG rxNW rxAO PX Dg rxL X vwCl A ad l rxM60 rxCOCO rxPOCO rxPSOCO) (hQREDO : bx_ConP rxG rxNW rxAO PX Dg rxL X vwCl A ad l rxM61 rxCREDO rxPREDO rxPSREDO) : bx_ConP rxG rxNW rxAO PX Dg rxL X vwCl A ad l rxM85 rxCRPCO rxPRPCO rxPSRPCO :=
  rxQof (xa := xa) (Cn := rxCnE) (f := 30000) (j := 85) (tab := rxYRPCO) (us := rxURPCO) hPX hsl hX ih rfl rxYcRPCO rxIRPCO rxmRPCO
    (fun S0 ws r I0 I ht0 ht as he he1 hX0 hI0 hP hs ha => by
      have e := he.symm.trans (show bx_ent0 rxNP rxCRPCO.1 bx_I0 [] = some ([(0, 0), (0, 0), (0, 0), (0, 0), (0, 0), (0, 0), (0, 0), (0, 0)], [], [.inr (3, (0, 412))]) from rfl)
      cases e
      subst ha
      have h0 : r 0 = 0 := hs.1
      show rxIRPCO_0 S0 _ S0
      refine ⟨⟨⟨rfl, ?_⟩, trivial⟩, trivial⟩
      simp only [List.map_cons, List.map_nil, bx_xv_ok h0]
      rfl)
    (fun S0 ws hP => rxuRPCO (xa := xa) hPX hX hQTKW hQPLH hQAD hQIWX hQOCO hQREDO hP) (fun S0 ws hP => rxgCRPCO hP) (fun S0 ws hP => rxgERPCO hP)
