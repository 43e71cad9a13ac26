noncomputable def rxCRDDO : bx_Ct := ([(3, (1, 412, 0)), (0, (0, 0, 6))], none, [(6, 0), (7, 10), (1021, 0), (1022, 0)], 1, [(412, 0, 3, (1, 411, 0)), (412, 6, 3, (1, 427, 0))])
noncomputable def rxIRDDO_0 (S0 : Nat → Int → Int) (ws : List Int) (S : Nat → Int → Int) (least : Int) : Prop := rxIRDDK_0 S0 ws S least ∧ True
noncomputable def rxmRDDO_0 (S0 : Nat → Int → Int) (ws : List Int) (S : Nat → Int → Int) (least : Int) : Nat := rxmRDDK_0 S0 ws S least
noncomputable def rxzRDDO_0 : rx_Z := ([(0, 0), (0, 0), (0, 0), (0, 0), (0, 0), (0, 0), (0, 0), (0, 0), (0, 6)], [], [(((0, 412), 6), .inr (3, (0, 427))), (((0, 412), 0), .inr (3, (0, 411)))], 0, 0, 0, [(0, .inr (3, (0, 412))), (1, .inr (0, (8, 0)))], [])
noncomputable def rxIRDDO_1 (S0 : Nat → Int → Int) (ws : List Int) (S : Nat → Int → Int) (least : Int) : Prop := rxIRDDK_1 S0 ws S least ∧ (rkPp S0 → rkPO S0 S)
noncomputable def rxmRDDO_1 (S0 : Nat → Int → Int) (ws : List Int) (S : Nat → Int → Int) (least : Int) : Nat := rxmRDDK_1 S0 ws S least
noncomputable def rxzRDDO_1 : rx_Z := ([(0, 0), (0, 0), (0, 0), (0, 0), (0, 0), (0, 0), (0, 0), (0, 0), (0, 6)], [], [(((0, 412), 0), .inr (3, (0, 411))), (((0, 412), 6), .inr (3, (0, 427)))], 0, 0, 0, [(0, .inr (3, (0, 412))), (1, .inr (0, (8, 0)))], [])
noncomputable def rxIRDDO_2 (S0 : Nat → Int → Int) (ws : List Int) (S : Nat → Int → Int) (least op : Int) : Prop := rxIRDDK_2 S0 ws S least op ∧ (rkPp S0 → rkPO S0 S)
noncomputable def rxmRDDO_2 (S0 : Nat → Int → Int) (ws : List Int) (S : Nat → Int → Int) (least op : Int) : Nat := rxmRDDK_2 S0 ws S least op
noncomputable def rxzRDDO_2 : rx_Z := ([(0, 0), (0, 0), (0, 0), (0, 0), (0, 0), (0, 0), (0, 0), (0, 0), (0, 6), (0, 13)], [], [(((0, 412), 0), .inr (3, (0, 411))), (((0, 412), 6), .inr (3, (0, 427)))], 0, 0, 18, [(0, .inr (3, (0, 412))), (1, .inr (0, (8, 0)))], [.inr (0, (9, 0))])
noncomputable def rxIRDDO_3 (S0 : Nat → Int → Int) (ws : List Int) (S : Nat → Int → Int) (least op s : Int) : Prop := rxIRDDK_3 S0 ws S least op s ∧ (rkPp S0 → rkPO S0 S)
noncomputable def rxmRDDO_3 (S0 : Nat → Int → Int) (ws : List Int) (S : Nat → Int → Int) (least op s : Int) : Nat := rxmRDDK_3 S0 ws S least op s
noncomputable def rxzRDDO_3 : rx_Z := ([(0, 0), (0, 0), (0, 0), (0, 0), (0, 0), (0, 0), (0, 0), (0, 0), (0, 6), (0, 13), (0, 6)], [], [(((0, 412), 0), .inr (3, (0, 411))), (((0, 412), 6), .inr (3, (0, 427)))], 0, 0, 21, [(0, .inr (3, (0, 412))), (1, .inr (0, (8, 0)))], [.inr (0, (10, 0))])
noncomputable def rxIRDDO_4 (S0 : Nat → Int → Int) (ws : List Int) (S : Nat → Int → Int) (least x : Int) : Prop := rxIRDDK_4 S0 ws S least x ∧ (rkPp S0 → rkPO S0 S)
noncomputable def rxmRDDO_4 (S0 : Nat → Int → Int) (ws : List Int) (S : Nat → Int → Int) (least x : Int) : Nat := rxmRDDK_4 S0 ws S least x
noncomputable def rxzRDDO_4 : rx_Z := ([(0, 0), (0, 0), (0, 0), (0, 0), (0, 0), (0, 0), (0, 0), (0, 0), (0, 6), (0, 400)], [], [(((0, 412), 0), .inr (3, (0, 411))), (((0, 412), 6), .inr (3, (0, 427)))], 0, 0, 31, [(0, .inr (3, (0, 412))), (1, .inr (0, (8, 0)))], [.inr (0, (0, 1)), .inr (0, (9, 0)), .inr (3, (0, 412))])
noncomputable def rxIRDDO_5 (S0 : Nat → Int → Int) (ws : List Int) (S : Nat → Int → Int) (least x y : Int) : Prop := rxIRDDK_5 S0 ws S least x y ∧ (rkPp S0 → rkPO S0 S)
noncomputable def rxmRDDO_5 (S0 : Nat → Int → Int) (ws : List Int) (S : Nat → Int → Int) (least x y : Int) : Nat := rxmRDDK_5 S0 ws S least x y
noncomputable def rxzRDDO_5 : rx_Z := ([(0, 0), (0, 0), (0, 0), (0, 0), (0, 0), (0, 0), (0, 0), (0, 0), (0, 6), (0, 400), (0, 399)], [], [(((0, 412), 0), .inr (3, (0, 411))), (((0, 412), 6), .inr (3, (0, 427)))], 0, 0, 32, [(0, .inr (3, (0, 412))), (1, .inr (0, (8, 0)))], [.inr (0, (10, 0)), .inr (3, (0, 412))])
noncomputable def rxoRDDO_0_0 : bx_HO := (([(0, 0), (0, 0), (0, 0), (0, 0), (0, 0), (0, 0), (0, 0), (0, 0), (0, 6), (1, 400), (0, 13)], [], [(((0, 0), 1851192626986356797223661186461964305852737083915409897475342336000000), .inr (0, (10, 0))), (((0, 412), 11), .inr (3, (0, 425))), (((0, 0), 1851192626986356799431407398244775400849232659564395713334607872000000), .inr (0, (9, 0))), (((0, 412), 10), .inr (0, (9, 0))), (((0, 412), 6), .inr (3, (0, 427))), (((0, 412), 0), .inr (3, (0, 411)))], 0, 0, 18, [(0, .inr (3, (0, 412))), (1, .inr (0, (8, 0)))], [.inr (0, (10, 0))]), [], [], [(0, 0), (0, 0), (0, 0), (0, 0), (0, 0), (0, 0), (0, 0), (0, 0), (8, 0), (10, 0)], 2)
noncomputable def rxeRDDO_0_0 : rx_End × List (Nat × Int × Int) := (([(0, 0), (0, 0), (0, 0), (0, 0), (0, 0), (0, 0), (0, 0), (0, 0), (0, 6), (0, 0)], [], [(((0, 0), 1851192626986356799431407398244775400849232659564395713334607872000000), .inr (0, (9, 0))), (((0, 412), 10), .inr (0, (9, 0))), (((0, 412), 6), .inr (3, (0, 427))), (((0, 412), 0), .inr (3, (0, 411)))], none), [])
noncomputable def rxoRDDO_1_0 : bx_HO := (([(0, 0), (0, 0), (0, 0), (0, 0), (0, 0), (0, 0), (0, 0), (0, 0), (0, 6), (1, 400), (0, 13)], [], [(((0, 0), 1851192626986356797223661186461964305852737083915409897475342336000000), .inr (0, (10, 0))), (((0, 412), 11), .inr (3, (0, 425))), (((0, 0), 1851192626986356799431407398244775400849232659564395713334607872000000), .inr (0, (9, 0))), (((0, 412), 10), .inr (0, (9, 0))), (((0, 412), 0), .inr (3, (0, 411))), (((0, 412), 6), .inr (3, (0, 427)))], 0, 0, 18, [(0, .inr (3, (0, 412))), (1, .inr (0, (8, 0)))], [.inr (0, (10, 0))]), [], [], [(0, 0), (0, 0), (0, 0), (0, 0), (0, 0), (0, 0), (0, 0), (0, 0), (8, 0), (10, 0)], 2)
noncomputable def rxeRDDO_1_0 : rx_End × List (Nat × Int × Int) := (([(0, 0), (0, 0), (0, 0), (0, 0), (0, 0), (0, 0), (0, 0), (0, 0), (0, 6), (0, 0)], [], [(((0, 0), 1851192626986356799431407398244775400849232659564395713334607872000000), .inr (0, (9, 0))), (((0, 412), 10), .inr (0, (9, 0))), (((0, 412), 0), .inr (3, (0, 411))), (((0, 412), 6), .inr (3, (0, 427)))], none), [])
noncomputable def rxoRDDO_3_0 : bx_HO := (([(0, 0), (0, 0), (0, 0), (0, 0), (0, 0), (0, 0), (0, 0), (0, 0), (0, 6), (0, 13), (0, 6), (0, 400)], [(1, (8, 0), (10, 0))], [(((0, 0), 1851192626986356799431407398244775400849232659564395713334607872000000), .inr (0, (11, 0))), (((0, 412), 10), .inr (0, (11, 0))), (((0, 412), 0), .inr (3, (0, 411))), (((0, 412), 6), .inr (3, (0, 427)))], 0, 0, 31, [(0, .inr (3, (0, 412))), (1, .inr (0, (8, 0)))], [.inr (0, (0, 1)), .inr (0, (11, 0)), .inr (3, (0, 412))]), [], [], [(0, 0), (0, 0), (0, 0), (0, 0), (0, 0), (0, 0), (0, 0), (0, 0), (8, 0), (11, 0)], 4)
noncomputable def rxeRDDO_3_0 : rx_End × List (Nat × Int × Int) := (([(0, 0), (0, 0), (0, 0), (0, 0), (0, 0), (0, 0), (0, 0), (0, 0), (1, 6), (0, 13), (0, 5)], [(0, (10, 0), (8, 0))], [(((0, 412), 0), .inr (3, (0, 411))), (((0, 412), 6), .inr (3, (0, 427)))], none), [])
noncomputable def rxoRDDO_5_0 : bx_HO := (([(0, 0), (0, 0), (0, 0), (0, 0), (0, 0), (0, 0), (0, 0), (0, 0), (0, 6), (0, 400), (0, 399), (5, 5), ((-1), (-1))], [(3, (11, 0), (0, 4))], [(((0, 0), 1851192626986356797424370955790042202572729718740712036943659008000000), .inr (0, (12, 0))), (((0, 412), 12), .inr (3, (0, 426))), (((0, 0), 1851192626986356797424370955790042202572729718740712036943069184000000), .inr (0, (11, 0))), (((0, 412), 11), .inr (3, (0, 425))), (((0, 0), 1851192626986356799431407398244775400849232659564395713334607875000000), .inr (0, (10, 0))), (((0, 412), 10), .inr (0, (10, 0))), (((0, 412), 0), .inr (3, (0, 411))), (((0, 412), 6), .inr (3, (0, 427)))], 0, 0, 0, [(2, .inr (0, (11, 0))), (0, .inr (3, (0, 412))), (1, .inr (0, (8, 0)))], []), [], [], [(0, 0), (0, 0), (0, 0), (0, 0), (0, 0), (0, 0), (0, 0), (0, 0), (8, 0)], 1)
noncomputable def rxoRDDO_5_1 : bx_HO := (([(0, 0), (0, 0), (0, 0), (0, 0), (0, 0), (0, 0), (0, 0), (0, 0), (0, 6), (0, 400), (0, 399), (5, 5), (0, 400), (0, 400)], [(1, (13, 0), (12, 0)), (3, (11, 0), (0, 4))], [(((0, 0), 1851192626986356797424340330377019318111018015026043177805217792000000), .inr (0, (13, 0))), (((0, 427), 0), .inr (0, (13, 0))), (((0, 0), 1851192626986356797424370955790042202572729718740712036943659008000000), .inr (0, (12, 0))), (((0, 412), 12), .inr (3, (0, 426))), (((0, 0), 1851192626986356797424370955790042202572729718740712036943069184000000), .inr (0, (11, 0))), (((0, 412), 11), .inr (3, (0, 425))), (((0, 0), 1851192626986356799431407398244775400849232659564395713334607875000000), .inr (0, (10, 0))), (((0, 412), 10), .inr (0, (10, 0))), (((0, 412), 0), .inr (3, (0, 411))), (((0, 412), 6), .inr (3, (0, 427)))], 0, 0, 0, [(2, .inr (0, (11, 0))), (0, .inr (3, (0, 412))), (1, .inr (0, (8, 0)))], []), [], [], [(0, 0), (0, 0), (0, 0), (0, 0), (0, 0), (0, 0), (0, 0), (0, 0), (8, 0)], 1)
noncomputable def rxoRDDO_5_2 : bx_HO := (([(0, 0), (0, 0), (0, 0), (0, 0), (0, 0), (0, 0), (0, 0), (0, 0), (0, 6), (0, 400), (0, 399), (5, 5), (0, 399), (1, 400)], [(0, (12, 0), (13, 0)), (3, (11, 0), (0, 4))], [(((0, 0), 1851192626986356797424377080872646779465072059483645808773234691000000), .inr (0, (13, 0))), (((0, 427), 2), .inr (3, (0, 429))), (((0, 0), 1851192626986356797424340330377019318111018015026043177805217792000000), .inr (0, (13, 0))), (((0, 427), 0), .inr (0, (13, 0))), (((0, 0), 1851192626986356797424370955790042202572729718740712036943659008000000), .inr (0, (12, 0))), (((0, 412), 12), .inr (3, (0, 426))), (((0, 0), 1851192626986356797424370955790042202572729718740712036943069184000000), .inr (0, (11, 0))), (((0, 412), 11), .inr (3, (0, 425))), (((0, 0), 1851192626986356799431407398244775400849232659564395713334607875000000), .inr (0, (10, 0))), (((0, 412), 10), .inr (0, (10, 0))), (((0, 412), 0), .inr (3, (0, 411))), (((0, 412), 6), .inr (3, (0, 427)))], 0, 0, 0, [(2, .inr (0, (11, 0))), (0, .inr (3, (0, 412))), (1, .inr (0, (8, 0)))], []), [], [], [(0, 0), (0, 0), (0, 0), (0, 0), (0, 0), (0, 0), (0, 0), (0, 0), (8, 0)], 1)
noncomputable def rxoRDDO_5_3 : bx_HO := (([(0, 0), (0, 0), (0, 0), (0, 0), (0, 0), (0, 0), (0, 0), (0, 0), (0, 6), (0, 400), (0, 399), (0, 13), (0, 399)], [(3, (11, 0), (0, 5)), (3, (11, 0), (0, 4))], [(((0, 0), 1851192626986356797424340330377019318111018015026043177805217795000000), .inr (0, (12, 1))), (((0, 427), 0), .inr (0, (12, 1))), (((0, 0), 1851192626986356797424377080872646779465072059483645808773234691000000), .inr (0, (0, 0))), (((0, 427), 2), .inr (3, (0, 429))), (((0, 0), 1851192626986356797424377080872646779465072059483645808772644867000000), .inr (0, (11, 0))), (((0, 427), 1), .inr (3, (0, 428))), (((0, 0), 1851192626986356797424340330377019318111018015026043177805217792000000), .inr (0, (12, 0))), (((0, 0), 1851192626986356797424370955790042202572729718740712036943069184000000), .inr (0, (11, 0))), (((0, 412), 11), .inr (3, (0, 425))), (((0, 0), 1851192626986356799431407398244775400849232659564395713334607875000000), .inr (0, (10, 0))), (((0, 412), 10), .inr (0, (10, 0))), (((0, 412), 0), .inr (3, (0, 411))), (((0, 412), 6), .inr (3, (0, 427)))], 0, 0, 0, [(2, .inr (0, (11, 0))), (0, .inr (3, (0, 412))), (1, .inr (0, (8, 0)))], []), [], [], [(0, 0), (0, 0), (0, 0), (0, 0), (0, 0), (0, 0), (0, 0), (0, 0), (8, 0)], 1)
noncomputable def rxoRDDO_5_4 : bx_HO := (([(0, 0), (0, 0), (0, 0), (0, 0), (0, 0), (0, 0), (0, 0), (0, 0), (0, 6), (0, 400), (0, 399), (0, 13), (400, 400)], [(3, (11, 0), (0, 5)), (3, (11, 0), (0, 4))], [(((0, 0), 1851192626986356797424340330377019318111018015026043177805217792000000), .inr (0, (12, 0))), (((0, 427), 0), .inr (0, (12, 0))), (((0, 0), 1851192626986356797424370955790042202572729718740712036943069184000000), .inr (0, (11, 0))), (((0, 412), 11), .inr (3, (0, 425))), (((0, 0), 1851192626986356799431407398244775400849232659564395713334607875000000), .inr (0, (10, 0))), (((0, 412), 10), .inr (0, (10, 0))), (((0, 412), 0), .inr (3, (0, 411))), (((0, 412), 6), .inr (3, (0, 427)))], 0, 0, 0, [(2, .inr (0, (11, 0))), (0, .inr (3, (0, 412))), (1, .inr (0, (8, 0)))], []), [], [], [(0, 0), (0, 0), (0, 0), (0, 0), (0, 0), (0, 0), (0, 0), (0, 0), (8, 0)], 1)
noncomputable def rxoRDDO_5_5 : bx_HO := (([(0, 0), (0, 0), (0, 0), (0, 0), (0, 0), (0, 0), (0, 0), (0, 0), (0, 6), (0, 400), (0, 399), (4, 4), ((-1), (-1))], [], [(((0, 0), 1851192626986356797424370955790042202572729718740712036943659008000000), .inr (0, (12, 0))), (((0, 412), 12), .inr (3, (0, 426))), (((0, 0), 1851192626986356797424370955790042202572729718740712036943069184000000), .inr (0, (11, 0))), (((0, 412), 11), .inr (3, (0, 425))), (((0, 0), 1851192626986356799431407398244775400849232659564395713334607875000000), .inr (0, (10, 0))), (((0, 412), 10), .inr (0, (10, 0))), (((0, 412), 0), .inr (3, (0, 411))), (((0, 412), 6), .inr (3, (0, 427)))], 0, 0, 0, [(2, .inr (0, (11, 0))), (0, .inr (3, (0, 412))), (1, .inr (0, (8, 0)))], []), [], [], [(0, 0), (0, 0), (0, 0), (0, 0), (0, 0), (0, 0), (0, 0), (0, 0), (8, 0)], 1)
noncomputable def rxoRDDO_5_6 : bx_HO := (([(0, 0), (0, 0), (0, 0), (0, 0), (0, 0), (0, 0), (0, 0), (0, 0), (0, 6), (0, 400), (0, 399), (4, 4), (0, 400), (0, 400)], [(1, (13, 0), (12, 0))], [(((0, 0), 1851192626986356797424340330377019318111018015026043177805217792000000), .inr (0, (13, 0))), (((0, 427), 0), .inr (0, (13, 0))), (((0, 0), 1851192626986356797424370955790042202572729718740712036943659008000000), .inr (0, (12, 0))), (((0, 412), 12), .inr (3, (0, 426))), (((0, 0), 1851192626986356797424370955790042202572729718740712036943069184000000), .inr (0, (11, 0))), (((0, 412), 11), .inr (3, (0, 425))), (((0, 0), 1851192626986356799431407398244775400849232659564395713334607875000000), .inr (0, (10, 0))), (((0, 412), 10), .inr (0, (10, 0))), (((0, 412), 0), .inr (3, (0, 411))), (((0, 412), 6), .inr (3, (0, 427)))], 0, 0, 0, [(2, .inr (0, (11, 0))), (0, .inr (3, (0, 412))), (1, .inr (0, (8, 0)))], []), [], [], [(0, 0), (0, 0), (0, 0), (0, 0), (0, 0), (0, 0), (0, 0), (0, 0), (8, 0)], 1)
noncomputable def rxoRDDO_5_7 : bx_HO := (([(0, 0), (0, 0), (0, 0), (0, 0), (0, 0), (0, 0), (0, 0), (0, 0), (0, 6), (0, 400), (0, 399), (4, 4), (0, 399), (1, 400)], [(0, (12, 0), (13, 0))], [(((0, 0), 1851192626986356797424377080872646779465072059483645808773234691000000), .inr (0, (13, 0))), (((0, 427), 2), .inr (3, (0, 429))), (((0, 0), 1851192626986356797424340330377019318111018015026043177805217792000000), .inr (0, (13, 0))), (((0, 427), 0), .inr (0, (13, 0))), (((0, 0), 1851192626986356797424370955790042202572729718740712036943659008000000), .inr (0, (12, 0))), (((0, 412), 12), .inr (3, (0, 426))), (((0, 0), 1851192626986356797424370955790042202572729718740712036943069184000000), .inr (0, (11, 0))), (((0, 412), 11), .inr (3, (0, 425))), (((0, 0), 1851192626986356799431407398244775400849232659564395713334607875000000), .inr (0, (10, 0))), (((0, 412), 10), .inr (0, (10, 0))), (((0, 412), 0), .inr (3, (0, 411))), (((0, 412), 6), .inr (3, (0, 427)))], 0, 0, 0, [(2, .inr (0, (11, 0))), (0, .inr (3, (0, 412))), (1, .inr (0, (8, 0)))], []), [], [], [(0, 0), (0, 0), (0, 0), (0, 0), (0, 0), (0, 0), (0, 0), (0, 0), (8, 0)], 1)
noncomputable def rxYRDDO : List bx_HE := [(rxzRDDO_0, [rxoRDDO_0_0], [rxeRDDO_0_0]), (rxzRDDO_1, [rxoRDDO_1_0], [rxeRDDO_1_0]), (rxzRDDO_2, [], []), (rxzRDDO_3, [rxoRDDO_3_0], [rxeRDDO_3_0]), (rxzRDDO_4, [], []), (rxzRDDO_5, [rxoRDDO_5_0, rxoRDDO_5_1, rxoRDDO_5_2, rxoRDDO_5_3, rxoRDDO_5_4, rxoRDDO_5_5, rxoRDDO_5_6, rxoRDDO_5_7], [])]
noncomputable def rxURDDO (q : bx_HE) : Bool := Nat.beq (rx_zpc q.1) 18 || Nat.beq (rx_zpc q.1) 31
noncomputable def rxYBRDDO : bx_B := (rxV, rxNP, rxDmf, bx_mdH rxCRDDO.2.2.1)
set_option maxRecDepth 100000 in
theorem rxYcRDDO : bx_chkH rxYBRDDO rxM80 rxCRDDO rxYRDDO (rxURDDO, fun cut z => rx_ex2 (rxCT rxYBRDDO rxCnE) cut 30000 rxCRDDO.2.2.2.1 80 z) = true := by decide +kernel
noncomputable def rxIRDDO (S0 : Nat → Int → Int) (ws : List Int) (i : Nat) : bx_SP := fun S r => match i with | 0 => rxIRDDO_0 S0 ws S (r 8) | 1 => rxIRDDO_1 S0 ws S (r 8) | 2 => rxIRDDO_2 S0 ws S (r 8) (r 9) | 3 => rxIRDDO_3 S0 ws S (r 8) (r 9) (r 10) | 4 => rxIRDDO_4 S0 ws S (r 8) (r 9) | 5 => rxIRDDO_5 S0 ws S (r 8) (r 9) (r 10) | _ => False
noncomputable def rxmRDDO (S0 : Nat → Int → Int) (ws : List Int) (i : Nat) (S : Nat → Int → Int) (r : Nat → Int) : Nat := match i with | 0 => rxmRDDO_0 S0 ws S (r 8) | 1 => rxmRDDO_1 S0 ws S (r 8) | 2 => rxmRDDO_2 S0 ws S (r 8) (r 9) | 3 => rxmRDDO_3 S0 ws S (r 8) (r 9) (r 10) | 4 => rxmRDDO_4 S0 ws S (r 8) (r 9) | 5 => rxmRDDO_5 S0 ws S (r 8) (r 9) (r 10) | _ => 0
noncomputable def rxPRDDO (S0 : Nat → Int → Int) (ws : List Int) : Prop := rxPRDDK S0 ws
noncomputable def rxPSRDDO (S0 : Nat → Int → Int) (ws : List Int) (S : Nat → Int → Int) (w : Option Int) : Prop := w = none ∧ rxPSRDDK S0 ws S w ∧ (rkPp S0 → rkPO S0 S)
theorem rxkRDDO_2 {S0 : Nat → Int → Int} {ws : List Int} {S : Nat → Int → Int} {least op : Int} (hP : rxPRDDO S0 ws) (hin : bx_same rxL (bx_mdl rxCRDDO.2.2.1) S0 S) (I0 : bx_Inv rxL S) (hinv : rxIRDDO_2 S0 ws S least op) (l8 : 0 ≤ least) (u8 : least ≤ 6) (l9 : 0 ≤ op) (u9 : op ≤ 13) : rxPSTD S [op] ∧ ∀ (S_p : Nat → Int → Int) (s : Int), 0 ≤ s → s ≤ 6 → rxPSSTD S [op] S_p (some s) → bx_Inv rxL S_p → bx_same rxL (bx_mdl rxC4.2.2.1) S S_p → rxIRDDO_3 S0 ws S_p least op s ∧ rxmRDDO_3 S0 ws S_p least op s < rxmRDDO_2 S0 ws S least op := by
  obtain ⟨hI, hx⟩ := hinv
  have g_ := rxkRDDK_2 hP hin I0 hI l8 u8 l9 u9
  exact ⟨g_.1, fun S_p s l_ u_ hq I1 hsm => ⟨⟨(g_.2 S_p s l_ u_ hq I1 hsm).1, (by
    intro hp
    exact rkPO_sm hsm (by decide +kernel) (hx hp))⟩, (g_.2 S_p s l_ u_ hq I1 hsm).2⟩⟩
theorem rxsRDDO_2 {X : (Nat → Int → Int) → Prop} {S0 : Nat → Int → Int} {ws : List Int} (hP : rxPRDDO S0 ws) : rx_obK X S0 rxCRDDO.2.2.1 rxC4.2.2.1 (rxIRDDO S0 ws) (rxmRDDO S0 ws) 2 3 rxzRDDO_2 rxzRDDO_3 [.inr (0, (9, 0))] (some 10) rxPSTD rxPSSTD := by
  intro S r hinv hXS I0 hin hs_ hf_
  have b_ := bx_bds_sat hs_
  have f_ := bx_fcl_ok hs_.1 hf_
  obtain ⟨⟨l8, u8⟩, ⟨l9, u9⟩, -⟩ := b_
  have g := rxkRDDO_2 hP hin I0 hinv l8 u8 l9 u9
  have ea : List.map (bx_num r) [.inr (0, (9, 0))] = [(r 9)] := by
    simp only [List.map_cons, List.map_nil, bx_xv_ok hs_.1]
    rfl
  rw [ea]
  refine ⟨g.1, fun S_p w r_p hPS hX_p I1 hsm hr hw hs_p => ?_⟩
  have hw := hw _ rfl
  subst hw
  have b_p := hs_p.2.2 10 _ _ rfl
  have g2 := g.2 S_p (r_p 10) b_p.1 b_p.2 hPS I1 hsm
  show rxIRDDO_3 S0 ws S_p (r_p 8) (r_p 9) (r_p 10) ∧ rxmRDDO_3 S0 ws S_p (r_p 8) (r_p 9) (r_p 10) < _
  rw [hr 8 (by decide), hr 9 (by decide)]
  exact g2
theorem rxbRDDO_4 {S0 : Nat → Int → Int} {ws : List Int} {S : Nat → Int → Int} {least x : Int} (hP : rxPRDDO S0 ws) (hin : bx_same rxL (bx_mdl rxCRDDO.2.2.1) S0 S) (I0 : bx_Inv rxL S) (hinv : rxIRDDO_4 S0 ws S least x) (l8 : 0 ≤ least) (u8 : least ≤ 6) (l9 : 0 ≤ x) (u9 : x ≤ 400) : bx_opcB 34 x 1 ∧ ∀ y : Int, y = bx_opvB 34 x 1 → (0 ≤ y ∧ y ≤ 399) ∧ rxIRDDO_5 S0 ws S least x y ∧ rxmRDDO_5 S0 ws S least x y < rxmRDDO_4 S0 ws S least x := by
  obtain ⟨hI, hx⟩ := hinv
  have g_ := rxbRDDK_4 hP hin I0 hI l8 u8 l9 u9
  exact ⟨g_.1, fun y hv => ⟨(g_.2 y hv).1, ⟨(g_.2 y hv).2.1, hx⟩, (g_.2 y hv).2.2⟩⟩
theorem rxsRDDO_4 {X : (Nat → Int → Int) → Prop} {S0 : Nat → Int → Int} {ws : List Int} (hP : rxPRDDO S0 ws) : rx_obBB X S0 rxCRDDO.2.2.1 (rxIRDDO S0 ws) (rxmRDDO S0 ws) 4 5 rxzRDDO_4 34 (9, 0) (0, 1) 0 399 := by
  intro S r hinv hXS I0 hin hs_ hf_
  have b_ := bx_bds_sat hs_
  have f_ := bx_fcl_ok hs_.1 hf_
  obtain ⟨⟨l8, u8⟩, ⟨l9, u9⟩, -⟩ := b_
  have g := rxbRDDO_4 hP hin I0 hinv l8 u8 l9 u9
  rw [bx_x_ok hs_.1, bx_x_ok hs_.1]
  refine ⟨g.1, fun r_p hr h0_ hv => ?_⟩
  have g2 := g.2 (r_p 10) hv
  show _ ∧ rxIRDDO_5 S0 ws S (r_p 8) (r_p 9) (r_p 10) ∧ rxmRDDO_5 S0 ws S (r_p 8) (r_p 9) (r_p 10) < _
  rw [hr 8 (by decide), hr 9 (by decide)]
  exact g2
theorem rxcRDDO_0_0 {S0 : Nat → Int → Int} {ws : List Int} {S : Nat → Int → Int} {least x9 x10 : Int} (hP : rxPRDDO S0 ws) (hin : bx_same rxL (bx_mdl rxCRDDO.2.2.1) S0 S) (I0 : bx_Inv rxL S) (hinv : rxIRDDO_0 S0 ws S least) (l8 : 0 ≤ least) (u8 : least ≤ 6) (l9 : 1 ≤ x9) (u9 : x9 ≤ 400) (l10 : 0 ≤ x10) (u10 : x10 ≤ 13) (e1 : S 412 10 = x9) (e0 : S 425 (x9 + (-1)) = x10) : (True) ∧ (True) ∧ rxIRDDO_2 S0 ws S least x10 ∧ rxmRDDO_2 S0 ws S least x10 < rxmRDDO_0 S0 ws S least := by
  obtain ⟨hI, hx⟩ := hinv
  obtain ⟨a_, b_, c_, d_⟩ := rxcRDDK_0_0 hP hin I0 hI l8 u8 l9 u9 l10 u10 e1 e0
  exact ⟨a_, b_, ⟨c_, (by
    have e := hI.1
    subst e
    intro hp
    exact (rkPO_rf hp))⟩, d_⟩
theorem rxgRDDO_0_0 {X : (Nat → Int → Int) → Prop} {S0 : Nat → Int → Int} {ws : List Int} (hP : rxPRDDO S0 ws) : bx_obC rxL X S0 rxCRDDO.2.2.1 (rxIRDDO S0 ws) (rxmRDDO S0 ws) 0 rxzRDDO_0 rxoRDDO_0_0 := by
  intro S S_p r r_p hinv hX hin hsm_ hseg
  obtain ⟨I0, I1, h0_, hr_, b_, f_, d_⟩ := bx_cl (evs := [(0, (0, 425), (9, (-1)), .inr (0, (10, 0))), (0, (0, 412), (0, 10), .inr (0, (9, 0)))]) (fvs := []) hseg (by decide +kernel) (by decide +kernel)
  have hinv : rxIRDDO_0 S0 ws S (r 8) := hinv
  rw [← hr_ 8 (by decide)] at hinv
  obtain ⟨⟨l8, u8⟩, ⟨l9, u9⟩, ⟨l10, u10⟩, -⟩ := b_
  obtain ⟨e0, ⟨e1, w_⟩⟩ := d_
  subst w_
  have g := rxcRDDO_0_0 hP hin I0 hinv l8 u8 l9 u9 l10 u10 e1 e0
  refine ⟨bx_narP_ok (l := []) g.1, bx_nfP_ok h0_ (fvs := []) (by decide +kernel) g.2.1, ?_, ?_⟩
  · show rxIRDDO_2 S0 ws S_p (bx_val [(0, 0), (0, 0), (0, 0), (0, 0), (0, 0), (0, 0), (0, 0), (0, 0), (8, 0), (10, 0)] r_p 8) (bx_val [(0, 0), (0, 0), (0, 0), (0, 0), (0, 0), (0, 0), (0, 0), (0, 0), (8, 0), (10, 0)] r_p 9)
    rw [bx_val_x (n := 8) (e := (8, 0)) h0_ rfl, bx_val_x (n := 9) (e := (10, 0)) h0_ rfl]
    exact g.2.2.1
  · show rxmRDDO_2 S0 ws S_p (bx_val [(0, 0), (0, 0), (0, 0), (0, 0), (0, 0), (0, 0), (0, 0), (0, 0), (8, 0), (10, 0)] r_p 8) (bx_val [(0, 0), (0, 0), (0, 0), (0, 0), (0, 0), (0, 0), (0, 0), (0, 0), (8, 0), (10, 0)] r_p 9) < rxmRDDO_0 S0 ws S_p (r 8)
    rw [bx_val_x (n := 8) (e := (8, 0)) h0_ rfl, bx_val_x (n := 9) (e := (10, 0)) h0_ rfl, ← hr_ 8 (by decide)]
    exact g.2.2.2
theorem rxdRDDO_0_0 {S0 : Nat → Int → Int} {ws : List Int} {S : Nat → Int → Int} {least x9 : Int} (hP : rxPRDDO S0 ws) (hin : bx_same rxL (bx_mdl rxCRDDO.2.2.1) S0 S) (hin2 : bx_same rxL (bx_mdl rxCRDDO.2.2.1) S S) (I0 : bx_Inv rxL S) (I1 : bx_Inv rxL S) (hinv : rxIRDDO_0 S0 ws S least) (l8 : 0 ≤ least) (u8 : least ≤ 6) (l9 : 0 ≤ x9) (u9 : x9 ≤ 0) (e0 : S 412 10 = x9) : (True) ∧ rxPSRDDO S0 ws S none := by
  obtain ⟨hI, hx⟩ := hinv
  obtain ⟨a_, c_⟩ := rxdRDDK_0_0 hP hin hin2 I0 I1 hI l8 u8 l9 u9 e0
  exact ⟨a_, rfl, c_, (by
    have e := hI.1
    subst e
    intro hp
    exact (rkPO_rf hp))⟩
theorem rxfRDDO_0_0 {X : (Nat → Int → Int) → Prop} {S0 : Nat → Int → Int} {ws : List Int} (hP : rxPRDDO S0 ws) : bx_obE rxL X S0 rxCRDDO.2.2.1 (rxIRDDO S0 ws) (rxPSRDDO S0 ws) 0 rxzRDDO_0 rxeRDDO_0_0 := by
  intro S S_p r r_p hinv hX hin hsm_ hseg
  obtain ⟨I0, I1, h0_, hr_, b_, f_, d_⟩ := bx_cl (evs := [(0, (0, 412), (0, 10), .inr (0, (9, 0)))]) (fvs := []) hseg (by decide +kernel) (by decide +kernel)
  have hinv : rxIRDDO_0 S0 ws S (r 8) := hinv
  rw [← hr_ 8 (by decide)] at hinv
  obtain ⟨⟨l8, u8⟩, ⟨l9, u9⟩, -⟩ := b_
  obtain ⟨e0, w_⟩ := d_
  subst w_
  have g := rxdRDDO_0_0 hP hin hsm_ I0 I1 hinv l8 u8 l9 u9 e0
  refine ⟨bx_narP_ok (l := []) g.1, ?_⟩
  exact g.2
theorem rxcRDDO_1_0 {S0 : Nat → Int → Int} {ws : List Int} {S : Nat → Int → Int} {least x9 x10 : Int} (hP : rxPRDDO S0 ws) (hin : bx_same rxL (bx_mdl rxCRDDO.2.2.1) S0 S) (I0 : bx_Inv rxL S) (hinv : rxIRDDO_1 S0 ws S least) (l8 : 0 ≤ least) (u8 : least ≤ 6) (l9 : 1 ≤ x9) (u9 : x9 ≤ 400) (l10 : 0 ≤ x10) (u10 : x10 ≤ 13) (e1 : S 412 10 = x9) (e0 : S 425 (x9 + (-1)) = x10) : (True) ∧ (True) ∧ rxIRDDO_2 S0 ws S least x10 ∧ rxmRDDO_2 S0 ws S least x10 < rxmRDDO_1 S0 ws S least := by
  obtain ⟨hI, hx⟩ := hinv
  obtain ⟨a_, b_, c_, d_⟩ := rxcRDDK_1_0 hP hin I0 hI l8 u8 l9 u9 l10 u10 e1 e0
  exact ⟨a_, b_, ⟨c_, hx⟩, d_⟩
theorem rxgRDDO_1_0 {X : (Nat → Int → Int) → Prop} {S0 : Nat → Int → Int} {ws : List Int} (hP : rxPRDDO S0 ws) : bx_obC rxL X S0 rxCRDDO.2.2.1 (rxIRDDO S0 ws) (rxmRDDO S0 ws) 1 rxzRDDO_1 rxoRDDO_1_0 := by
  intro S S_p r r_p hinv hX hin hsm_ hseg
  obtain ⟨I0, I1, h0_, hr_, b_, f_, d_⟩ := bx_cl (evs := [(0, (0, 425), (9, (-1)), .inr (0, (10, 0))), (0, (0, 412), (0, 10), .inr (0, (9, 0)))]) (fvs := []) hseg (by decide +kernel) (by decide +kernel)
  have hinv : rxIRDDO_1 S0 ws S (r 8) := hinv
  rw [← hr_ 8 (by decide)] at hinv
  obtain ⟨⟨l8, u8⟩, ⟨l9, u9⟩, ⟨l10, u10⟩, -⟩ := b_
  obtain ⟨e0, ⟨e1, w_⟩⟩ := d_
  subst w_
  have g := rxcRDDO_1_0 hP hin I0 hinv l8 u8 l9 u9 l10 u10 e1 e0
  refine ⟨bx_narP_ok (l := []) g.1, bx_nfP_ok h0_ (fvs := []) (by decide +kernel) g.2.1, ?_, ?_⟩
  · show rxIRDDO_2 S0 ws S_p (bx_val [(0, 0), (0, 0), (0, 0), (0, 0), (0, 0), (0, 0), (0, 0), (0, 0), (8, 0), (10, 0)] r_p 8) (bx_val [(0, 0), (0, 0), (0, 0), (0, 0), (0, 0), (0, 0), (0, 0), (0, 0), (8, 0), (10, 0)] r_p 9)
    rw [bx_val_x (n := 8) (e := (8, 0)) h0_ rfl, bx_val_x (n := 9) (e := (10, 0)) h0_ rfl]
    exact g.2.2.1
  · show rxmRDDO_2 S0 ws S_p (bx_val [(0, 0), (0, 0), (0, 0), (0, 0), (0, 0), (0, 0), (0, 0), (0, 0), (8, 0), (10, 0)] r_p 8) (bx_val [(0, 0), (0, 0), (0, 0), (0, 0), (0, 0), (0, 0), (0, 0), (0, 0), (8, 0), (10, 0)] r_p 9) < rxmRDDO_1 S0 ws S_p (r 8)
    rw [bx_val_x (n := 8) (e := (8, 0)) h0_ rfl, bx_val_x (n := 9) (e := (10, 0)) h0_ rfl, ← hr_ 8 (by decide)]
    exact g.2.2.2
theorem rxdRDDO_1_0 {S0 : Nat → Int → Int} {ws : List Int} {S : Nat → Int → Int} {least x9 : Int} (hP : rxPRDDO S0 ws) (hin : bx_same rxL (bx_mdl rxCRDDO.2.2.1) S0 S) (hin2 : bx_same rxL (bx_mdl rxCRDDO.2.2.1) S S) (I0 : bx_Inv rxL S) (I1 : bx_Inv rxL S) (hinv : rxIRDDO_1 S0 ws S least) (l8 : 0 ≤ least) (u8 : least ≤ 6) (l9 : 0 ≤ x9) (u9 : x9 ≤ 0) (e0 : S 412 10 = x9) : (True) ∧ rxPSRDDO S0 ws S none := by
  obtain ⟨hI, hx⟩ := hinv
  obtain ⟨a_, c_⟩ := rxdRDDK_1_0 hP hin hin2 I0 I1 hI l8 u8 l9 u9 e0
  exact ⟨a_, rfl, c_, hx⟩
theorem rxfRDDO_1_0 {X : (Nat → Int → Int) → Prop} {S0 : Nat → Int → Int} {ws : List Int} (hP : rxPRDDO S0 ws) : bx_obE rxL X S0 rxCRDDO.2.2.1 (rxIRDDO S0 ws) (rxPSRDDO S0 ws) 1 rxzRDDO_1 rxeRDDO_1_0 := by
  intro S S_p r r_p hinv hX hin hsm_ hseg
  obtain ⟨I0, I1, h0_, hr_, b_, f_, d_⟩ := bx_cl (evs := [(0, (0, 412), (0, 10), .inr (0, (9, 0)))]) (fvs := []) hseg (by decide +kernel) (by decide +kernel)
  have hinv : rxIRDDO_1 S0 ws S (r 8) := hinv
  rw [← hr_ 8 (by decide)] at hinv
  obtain ⟨⟨l8, u8⟩, ⟨l9, u9⟩, -⟩ := b_
  obtain ⟨e0, w_⟩ := d_
  subst w_
  have g := rxdRDDO_1_0 hP hin hsm_ I0 I1 hinv l8 u8 l9 u9 e0
  refine ⟨bx_narP_ok (l := []) g.1, ?_⟩
  exact g.2
theorem rxcRDDO_3_0 {S0 : Nat → Int → Int} {ws : List Int} {S : Nat → Int → Int} {least op s x11 : Int} (hP : rxPRDDO S0 ws) (hin : bx_same rxL (bx_mdl rxCRDDO.2.2.1) S0 S) (I0 : bx_Inv rxL S) (hinv : rxIRDDO_3 S0 ws S least op s) (l8 : 0 ≤ least) (u8 : least ≤ 6) (l9 : 0 ≤ op) (u9 : op ≤ 13) (l10 : 0 ≤ s) (u10 : s ≤ 6) (l11 : 0 ≤ x11) (u11 : x11 ≤ 400) (f0 : least ≤ s) (e0 : S 412 10 = x11) : (True) ∧ (True) ∧ rxIRDDO_4 S0 ws S least x11 ∧ rxmRDDO_4 S0 ws S least x11 < rxmRDDO_3 S0 ws S least op s := by
  obtain ⟨hI, hx⟩ := hinv
  obtain ⟨a_, b_, c_, d_⟩ := rxcRDDK_3_0 hP hin I0 hI l8 u8 l9 u9 l10 u10 l11 u11 f0 e0
  exact ⟨a_, b_, ⟨c_, hx⟩, d_⟩
theorem rxgRDDO_3_0 {X : (Nat → Int → Int) → Prop} {S0 : Nat → Int → Int} {ws : List Int} (hP : rxPRDDO S0 ws) : bx_obC rxL X S0 rxCRDDO.2.2.1 (rxIRDDO S0 ws) (rxmRDDO S0 ws) 3 rxzRDDO_3 rxoRDDO_3_0 := by
  intro S S_p r r_p hinv hX hin hsm_ hseg
  obtain ⟨I0, I1, h0_, hr_, b_, f_, d_⟩ := bx_cl (evs := [(0, (0, 412), (0, 10), .inr (0, (11, 0)))]) (fvs := [(1, (8, 0), (10, 0), (0, 0))]) hseg (by decide +kernel) (by decide +kernel)
  have hinv : rxIRDDO_3 S0 ws S (r 8) (r 9) (r 10) := hinv
  rw [← hr_ 8 (by decide), ← hr_ 9 (by decide), ← hr_ 10 (by decide)] at hinv
  obtain ⟨⟨l8, u8⟩, ⟨l9, u9⟩, ⟨l10, u10⟩, ⟨l11, u11⟩, -⟩ := b_
  obtain ⟨f0, -⟩ := f_
  obtain ⟨e0, w_⟩ := d_
  subst w_
  have g := rxcRDDO_3_0 hP hin I0 hinv l8 u8 l9 u9 l10 u10 l11 u11 f0 e0
  refine ⟨bx_narP_ok (l := []) g.1, bx_nfP_ok h0_ (fvs := []) (by decide +kernel) g.2.1, ?_, ?_⟩
  · show rxIRDDO_4 S0 ws S_p (bx_val [(0, 0), (0, 0), (0, 0), (0, 0), (0, 0), (0, 0), (0, 0), (0, 0), (8, 0), (11, 0)] r_p 8) (bx_val [(0, 0), (0, 0), (0, 0), (0, 0), (0, 0), (0, 0), (0, 0), (0, 0), (8, 0), (11, 0)] r_p 9)
    rw [bx_val_x (n := 8) (e := (8, 0)) h0_ rfl, bx_val_x (n := 9) (e := (11, 0)) h0_ rfl]
    exact g.2.2.1
  · show rxmRDDO_4 S0 ws S_p (bx_val [(0, 0), (0, 0), (0, 0), (0, 0), (0, 0), (0, 0), (0, 0), (0, 0), (8, 0), (11, 0)] r_p 8) (bx_val [(0, 0), (0, 0), (0, 0), (0, 0), (0, 0), (0, 0), (0, 0), (0, 0), (8, 0), (11, 0)] r_p 9) < rxmRDDO_3 S0 ws S_p (r 8) (r 9) (r 10)
    rw [bx_val_x (n := 8) (e := (8, 0)) h0_ rfl, bx_val_x (n := 9) (e := (11, 0)) h0_ rfl, ← hr_ 8 (by decide), ← hr_ 9 (by decide), ← hr_ 10 (by decide)]
    exact g.2.2.2
theorem rxdRDDO_3_0 {S0 : Nat → Int → Int} {ws : List Int} {S : Nat → Int → Int} {least op s : Int} (hP : rxPRDDO S0 ws) (hin : bx_same rxL (bx_mdl rxCRDDO.2.2.1) S0 S) (hin2 : bx_same rxL (bx_mdl rxCRDDO.2.2.1) S S) (I0 : bx_Inv rxL S) (I1 : bx_Inv rxL S) (hinv : rxIRDDO_3 S0 ws S least op s) (l8 : 1 ≤ least) (u8 : least ≤ 6) (l9 : 0 ≤ op) (u9 : op ≤ 13) (l10 : 0 ≤ s) (u10 : s ≤ 5) (f0 : s < least) : (True) ∧ rxPSRDDO S0 ws S none := by
  obtain ⟨hI, hx⟩ := hinv
  obtain ⟨a_, c_⟩ := rxdRDDK_3_0 hP hin hin2 I0 I1 hI l8 u8 l9 u9 l10 u10 f0
  exact ⟨a_, rfl, c_, hx⟩
theorem rxfRDDO_3_0 {X : (Nat → Int → Int) → Prop} {S0 : Nat → Int → Int} {ws : List Int} (hP : rxPRDDO S0 ws) : bx_obE rxL X S0 rxCRDDO.2.2.1 (rxIRDDO S0 ws) (rxPSRDDO S0 ws) 3 rxzRDDO_3 rxeRDDO_3_0 := by
  intro S S_p r r_p hinv hX hin hsm_ hseg
  obtain ⟨I0, I1, h0_, hr_, b_, f_, d_⟩ := bx_cl (evs := []) (fvs := [(0, (10, 0), (8, 0), (0, 0))]) hseg (by decide +kernel) (by decide +kernel)
  have hinv : rxIRDDO_3 S0 ws S (r 8) (r 9) (r 10) := hinv
  rw [← hr_ 8 (by decide), ← hr_ 9 (by decide), ← hr_ 10 (by decide)] at hinv
  obtain ⟨⟨l8, u8⟩, ⟨l9, u9⟩, ⟨l10, u10⟩, -⟩ := b_
  obtain ⟨f0, -⟩ := f_
  have w_ := d_
  subst w_
  have g := rxdRDDO_3_0 hP hin hsm_ I0 I1 hinv l8 u8 l9 u9 l10 u10 f0
  refine ⟨bx_narP_ok (l := []) g.1, ?_⟩
  exact g.2
theorem rxcRDDO_5_0 {S0 : Nat → Int → Int} {ws : List Int} {S : Nat → Int → Int} {least x y x11 x12 : Int} (hP : rxPRDDO S0 ws) (hin : bx_same rxL (bx_mdl rxCRDDO.2.2.1) S0 S) (I0 : bx_Inv rxL S) (hinv : rxIRDDO_5 S0 ws S least x y) (l8 : 0 ≤ least) (u8 : least ≤ 6) (l9 : 0 ≤ x) (u9 : x ≤ 400) (l10 : 0 ≤ y) (u10 : y ≤ 399) (l11 : 5 ≤ x11) (u11 : x11 ≤ 5) (l12 : (-1) ≤ x12) (u12 : x12 ≤ (-1)) (f0 : x11 ≠ 4) (e1 : (bx_up S 412 10 y) 425 y = x11) (e0 : (bx_up S 412 10 y) 426 y = x12) : (True) ∧ (True) ∧ rxIRDDO_1 S0 ws (bx_up S 412 10 y) least ∧ rxmRDDO_1 S0 ws (bx_up S 412 10 y) least < rxmRDDO_5 S0 ws S least x y := by
  obtain ⟨hI, hx⟩ := hinv
  obtain ⟨a_, b_, c_, d_⟩ := rxcRDDK_5_0 hP hin I0 hI l8 u8 l9 u9 l10 u10 l11 u11 l12 u12 f0 e1 e0
  exact ⟨a_, b_, ⟨c_, (by
    intro hp
    exact (rkPO_up (q := 412) (by decide +kernel) (fun g => absurd g.1 (by decide)) (hx hp)))⟩, d_⟩
theorem rxgRDDO_5_0 {X : (Nat → Int → Int) → Prop} {S0 : Nat → Int → Int} {ws : List Int} (hP : rxPRDDO S0 ws) : bx_obC rxL X S0 rxCRDDO.2.2.1 (rxIRDDO S0 ws) (rxmRDDO S0 ws) 5 rxzRDDO_5 rxoRDDO_5_0 := by
  intro S S_p r r_p hinv hX hin hsm_ hseg
  obtain ⟨I0, I1, h0_, hr_, b_, f_, d_⟩ := bx_cl (evs := [(0, (0, 426), (10, 0), .inr (0, (12, 0))), (0, (0, 425), (10, 0), .inr (0, (11, 0))), (1, (0, 412), (0, 10), .inr (0, (10, 0)))]) (fvs := [(3, (11, 0), (0, 4), (0, 0))]) hseg (by decide +kernel) (by decide +kernel)
  have hinv : rxIRDDO_5 S0 ws S (r 8) (r 9) (r 10) := hinv
  rw [← hr_ 8 (by decide), ← hr_ 9 (by decide), ← hr_ 10 (by decide)] at hinv
  obtain ⟨⟨l8, u8⟩, ⟨l9, u9⟩, ⟨l10, u10⟩, ⟨l11, u11⟩, ⟨l12, u12⟩, -⟩ := b_
  obtain ⟨f0, -⟩ := f_
  obtain ⟨e0, ⟨e1, ⟨T2, w_, w2⟩⟩⟩ := d_
  subst w2
  subst w_
  have g := rxcRDDO_5_0 hP hin I0 hinv l8 u8 l9 u9 l10 u10 l11 u11 l12 u12 f0 e1 e0
  refine ⟨bx_narP_ok (l := []) g.1, bx_nfP_ok h0_ (fvs := []) (by decide +kernel) g.2.1, ?_, ?_⟩
  · show rxIRDDO_1 S0 ws (bx_up T2 412 (10) (r_p 10)) (bx_val [(0, 0), (0, 0), (0, 0), (0, 0), (0, 0), (0, 0), (0, 0), (0, 0), (8, 0)] r_p 8)
    rw [bx_val_x (n := 8) (e := (8, 0)) h0_ rfl]
    exact g.2.2.1
  · show rxmRDDO_1 S0 ws (bx_up T2 412 (10) (r_p 10)) (bx_val [(0, 0), (0, 0), (0, 0), (0, 0), (0, 0), (0, 0), (0, 0), (0, 0), (8, 0)] r_p 8) < rxmRDDO_5 S0 ws T2 (r 8) (r 9) (r 10)
    rw [bx_val_x (n := 8) (e := (8, 0)) h0_ rfl, ← hr_ 8 (by decide), ← hr_ 9 (by decide), ← hr_ 10 (by decide)]
    exact g.2.2.2
theorem rxcRDDO_5_1 {S0 : Nat → Int → Int} {ws : List Int} {S : Nat → Int → Int} {least x y x11 x12 x13 : Int} (hP : rxPRDDO S0 ws) (hin : bx_same rxL (bx_mdl rxCRDDO.2.2.1) S0 S) (I0 : bx_Inv rxL S) (hinv : rxIRDDO_5 S0 ws S least x y) (l8 : 0 ≤ least) (u8 : least ≤ 6) (l9 : 0 ≤ x) (u9 : x ≤ 400) (l10 : 0 ≤ y) (u10 : y ≤ 399) (l11 : 5 ≤ x11) (u11 : x11 ≤ 5) (l12 : 0 ≤ x12) (u12 : x12 ≤ 400) (l13 : 0 ≤ x13) (u13 : x13 ≤ 400) (f0 : x13 ≤ x12) (f1 : x11 ≠ 4) (e2 : (bx_up S 412 10 y) 425 y = x11) (e1 : (bx_up S 412 10 y) 426 y = x12) (e0 : (bx_up S 412 10 y) 427 0 = x13) : (True) ∧ (True) ∧ rxIRDDO_1 S0 ws (bx_up S 412 10 y) least ∧ rxmRDDO_1 S0 ws (bx_up S 412 10 y) least < rxmRDDO_5 S0 ws S least x y := by
  obtain ⟨hI, hx⟩ := hinv
  obtain ⟨a_, b_, c_, d_⟩ := rxcRDDK_5_1 hP hin I0 hI l8 u8 l9 u9 l10 u10 l11 u11 l12 u12 l13 u13 f0 f1 e2 e1 e0
  exact ⟨a_, b_, ⟨c_, (by
    intro hp
    exact (rkPO_up (q := 412) (by decide +kernel) (fun g => absurd g.1 (by decide)) (hx hp)))⟩, d_⟩
theorem rxgRDDO_5_1 {X : (Nat → Int → Int) → Prop} {S0 : Nat → Int → Int} {ws : List Int} (hP : rxPRDDO S0 ws) : bx_obC rxL X S0 rxCRDDO.2.2.1 (rxIRDDO S0 ws) (rxmRDDO S0 ws) 5 rxzRDDO_5 rxoRDDO_5_1 := by
  intro S S_p r r_p hinv hX hin hsm_ hseg
  obtain ⟨I0, I1, h0_, hr_, b_, f_, d_⟩ := bx_cl (evs := [(0, (0, 427), (0, 0), .inr (0, (13, 0))), (0, (0, 426), (10, 0), .inr (0, (12, 0))), (0, (0, 425), (10, 0), .inr (0, (11, 0))), (1, (0, 412), (0, 10), .inr (0, (10, 0)))]) (fvs := [(1, (13, 0), (12, 0), (0, 0)), (3, (11, 0), (0, 4), (0, 0))]) hseg (by decide +kernel) (by decide +kernel)
  have hinv : rxIRDDO_5 S0 ws S (r 8) (r 9) (r 10) := hinv
  rw [← hr_ 8 (by decide), ← hr_ 9 (by decide), ← hr_ 10 (by decide)] at hinv
  obtain ⟨⟨l8, u8⟩, ⟨l9, u9⟩, ⟨l10, u10⟩, ⟨l11, u11⟩, ⟨l12, u12⟩, ⟨l13, u13⟩, -⟩ := b_
  obtain ⟨f0, f1, -⟩ := f_
  obtain ⟨e0, ⟨e1, ⟨e2, ⟨T3, w_, w3⟩⟩⟩⟩ := d_
  subst w3
  subst w_
  have g := rxcRDDO_5_1 hP hin I0 hinv l8 u8 l9 u9 l10 u10 l11 u11 l12 u12 l13 u13 f0 f1 e2 e1 e0
  refine ⟨bx_narP_ok (l := []) g.1, bx_nfP_ok h0_ (fvs := []) (by decide +kernel) g.2.1, ?_, ?_⟩
  · show rxIRDDO_1 S0 ws (bx_up T3 412 (10) (r_p 10)) (bx_val [(0, 0), (0, 0), (0, 0), (0, 0), (0, 0), (0, 0), (0, 0), (0, 0), (8, 0)] r_p 8)
    rw [bx_val_x (n := 8) (e := (8, 0)) h0_ rfl]
    exact g.2.2.1
  · show rxmRDDO_1 S0 ws (bx_up T3 412 (10) (r_p 10)) (bx_val [(0, 0), (0, 0), (0, 0), (0, 0), (0, 0), (0, 0), (0, 0), (0, 0), (8, 0)] r_p 8) < rxmRDDO_5 S0 ws T3 (r 8) (r 9) (r 10)
    rw [bx_val_x (n := 8) (e := (8, 0)) h0_ rfl, ← hr_ 8 (by decide), ← hr_ 9 (by decide), ← hr_ 10 (by decide)]
    exact g.2.2.2
theorem rxcRDDO_5_2 {S0 : Nat → Int → Int} {ws : List Int} {S : Nat → Int → Int} {least x y x11 x12 x13 : Int} (hP : rxPRDDO S0 ws) (hin : bx_same rxL (bx_mdl rxCRDDO.2.2.1) S0 S) (I0 : bx_Inv rxL S) (hinv : rxIRDDO_5 S0 ws S least x y) (l8 : 0 ≤ least) (u8 : least ≤ 6) (l9 : 0 ≤ x) (u9 : x ≤ 400) (l10 : 0 ≤ y) (u10 : y ≤ 399) (l11 : 5 ≤ x11) (u11 : x11 ≤ 5) (l12 : 0 ≤ x12) (u12 : x12 ≤ 399) (l13 : 1 ≤ x13) (u13 : x13 ≤ 400) (f0 : x12 < x13) (f1 : x11 ≠ 4) (e3 : (bx_up S 412 10 y) 425 y = x11) (e2 : (bx_up S 412 10 y) 426 y = x12) (e1 : (bx_up S 412 10 y) 427 0 = x13) : (True) ∧ (True) ∧ rxIRDDO_1 S0 ws (bx_up (bx_up S 412 10 y) 429 x12 x13) least ∧ rxmRDDO_1 S0 ws (bx_up (bx_up S 412 10 y) 429 x12 x13) least < rxmRDDO_5 S0 ws S least x y := by
  obtain ⟨hI, hx⟩ := hinv
  obtain ⟨a_, b_, c_, d_⟩ := rxcRDDK_5_2 hP hin I0 hI l8 u8 l9 u9 l10 u10 l11 u11 l12 u12 l13 u13 f0 f1 e3 e2 e1
  exact ⟨a_, b_, ⟨c_, (by
    intro hp
    exact (rkPO_up (q := 429) (by decide +kernel) (fun g => absurd g.1 (by decide)) (rkPO_up (q := 412) (by decide +kernel) (fun g => absurd g.1 (by decide)) (hx hp))))⟩, d_⟩
theorem rxgRDDO_5_2 {X : (Nat → Int → Int) → Prop} {S0 : Nat → Int → Int} {ws : List Int} (hP : rxPRDDO S0 ws) : bx_obC rxL X S0 rxCRDDO.2.2.1 (rxIRDDO S0 ws) (rxmRDDO S0 ws) 5 rxzRDDO_5 rxoRDDO_5_2 := by
  intro S S_p r r_p hinv hX hin hsm_ hseg
  obtain ⟨I0, I1, h0_, hr_, b_, f_, d_⟩ := bx_cl (evs := [(1, (0, 429), (12, 0), .inr (0, (13, 0))), (0, (0, 427), (0, 0), .inr (0, (13, 0))), (0, (0, 426), (10, 0), .inr (0, (12, 0))), (0, (0, 425), (10, 0), .inr (0, (11, 0))), (1, (0, 412), (0, 10), .inr (0, (10, 0)))]) (fvs := [(0, (12, 0), (13, 0), (0, 0)), (3, (11, 0), (0, 4), (0, 0))]) hseg (by decide +kernel) (by decide +kernel)
  have hinv : rxIRDDO_5 S0 ws S (r 8) (r 9) (r 10) := hinv
  rw [← hr_ 8 (by decide), ← hr_ 9 (by decide), ← hr_ 10 (by decide)] at hinv
  obtain ⟨⟨l8, u8⟩, ⟨l9, u9⟩, ⟨l10, u10⟩, ⟨l11, u11⟩, ⟨l12, u12⟩, ⟨l13, u13⟩, -⟩ := b_
  obtain ⟨f0, f1, -⟩ := f_
  obtain ⟨T0, ⟨e1, ⟨e2, ⟨e3, ⟨T4, w_, w4⟩⟩⟩⟩, w0⟩ := d_
  subst w0
  subst w4
  subst w_
  have g := rxcRDDO_5_2 hP hin I0 hinv l8 u8 l9 u9 l10 u10 l11 u11 l12 u12 l13 u13 f0 f1 e3 e2 e1
  refine ⟨bx_narP_ok (l := []) g.1, bx_nfP_ok h0_ (fvs := []) (by decide +kernel) g.2.1, ?_, ?_⟩
  · show rxIRDDO_1 S0 ws (bx_up (bx_up T4 412 (10) (r_p 10)) 429 (r_p 12) (r_p 13)) (bx_val [(0, 0), (0, 0), (0, 0), (0, 0), (0, 0), (0, 0), (0, 0), (0, 0), (8, 0)] r_p 8)
    rw [bx_val_x (n := 8) (e := (8, 0)) h0_ rfl]
    exact g.2.2.1
  · show rxmRDDO_1 S0 ws (bx_up (bx_up T4 412 (10) (r_p 10)) 429 (r_p 12) (r_p 13)) (bx_val [(0, 0), (0, 0), (0, 0), (0, 0), (0, 0), (0, 0), (0, 0), (0, 0), (8, 0)] r_p 8) < rxmRDDO_5 S0 ws T4 (r 8) (r 9) (r 10)
    rw [bx_val_x (n := 8) (e := (8, 0)) h0_ rfl, ← hr_ 8 (by decide), ← hr_ 9 (by decide), ← hr_ 10 (by decide)]
    exact g.2.2.2
theorem rxcRDDO_5_3 {S0 : Nat → Int → Int} {ws : List Int} {S : Nat → Int → Int} {least x y x11 x12 : Int} (hP : rxPRDDO S0 ws) (hin : bx_same rxL (bx_mdl rxCRDDO.2.2.1) S0 S) (I0 : bx_Inv rxL S) (hinv : rxIRDDO_5 S0 ws S least x y) (l8 : 0 ≤ least) (u8 : least ≤ 6) (l9 : 0 ≤ x) (u9 : x ≤ 400) (l10 : 0 ≤ y) (u10 : y ≤ 399) (l11 : 0 ≤ x11) (u11 : x11 ≤ 13) (l12 : 0 ≤ x12) (u12 : x12 ≤ 399) (f0 : x11 ≠ 5) (f1 : x11 ≠ 4) (e4 : (bx_up S 412 10 y) 425 y = x11) (e3 : (bx_up S 412 10 y) 427 0 = x12) : (True) ∧ (True) ∧ rxIRDDO_1 S0 ws (bx_up (bx_up (bx_up (bx_up S 412 10 y) 428 x12 x11) 429 x12 0) 427 0 (x12 + 1)) least ∧ rxmRDDO_1 S0 ws (bx_up (bx_up (bx_up (bx_up S 412 10 y) 428 x12 x11) 429 x12 0) 427 0 (x12 + 1)) least < rxmRDDO_5 S0 ws S least x y := by
  obtain ⟨hI, hx⟩ := hinv
  obtain ⟨a_, b_, c_, d_⟩ := rxcRDDK_5_3 hP hin I0 hI l8 u8 l9 u9 l10 u10 l11 u11 l12 u12 f0 f1 e4 e3
  exact ⟨a_, b_, ⟨c_, (by
    intro hp
    exact (rkPO_up (q := 427) (by decide +kernel) (by omega) (rkPO_up (q := 429) (by decide +kernel) (fun g => absurd g.1 (by decide)) (rkPO_up (q := 428) (by decide +kernel) (fun g => absurd g.1 (by decide)) (rkPO_up (q := 412) (by decide +kernel) (fun g => absurd g.1 (by decide)) (hx hp))))))⟩, d_⟩
theorem rxgRDDO_5_3 {X : (Nat → Int → Int) → Prop} {S0 : Nat → Int → Int} {ws : List Int} (hP : rxPRDDO S0 ws) : bx_obC rxL X S0 rxCRDDO.2.2.1 (rxIRDDO S0 ws) (rxmRDDO S0 ws) 5 rxzRDDO_5 rxoRDDO_5_3 := by
  intro S S_p r r_p hinv hX hin hsm_ hseg
  obtain ⟨I0, I1, h0_, hr_, b_, f_, d_⟩ := bx_cl (evs := [(1, (0, 427), (0, 0), .inr (0, (12, 1))), (1, (0, 429), (12, 0), .inr (0, (0, 0))), (1, (0, 428), (12, 0), .inr (0, (11, 0))), (0, (0, 427), (0, 0), .inr (0, (12, 0))), (0, (0, 425), (10, 0), .inr (0, (11, 0))), (1, (0, 412), (0, 10), .inr (0, (10, 0)))]) (fvs := [(3, (11, 0), (0, 5), (0, 0)), (3, (11, 0), (0, 4), (0, 0))]) hseg (by decide +kernel) (by decide +kernel)
  have hinv : rxIRDDO_5 S0 ws S (r 8) (r 9) (r 10) := hinv
  rw [← hr_ 8 (by decide), ← hr_ 9 (by decide), ← hr_ 10 (by decide)] at hinv
  obtain ⟨⟨l8, u8⟩, ⟨l9, u9⟩, ⟨l10, u10⟩, ⟨l11, u11⟩, ⟨l12, u12⟩, -⟩ := b_
  obtain ⟨f0, f1, -⟩ := f_
  obtain ⟨T0, ⟨T1, ⟨T2, ⟨e3, ⟨e4, ⟨T5, w_, w5⟩⟩⟩, w2⟩, w1⟩, w0⟩ := d_
  subst w0
  subst w1
  subst w2
  subst w5
  subst w_
  have g := rxcRDDO_5_3 hP hin I0 hinv l8 u8 l9 u9 l10 u10 l11 u11 l12 u12 f0 f1 e4 e3
  refine ⟨bx_narP_ok (l := []) g.1, bx_nfP_ok h0_ (fvs := []) (by decide +kernel) g.2.1, ?_, ?_⟩
  · show rxIRDDO_1 S0 ws (bx_up (bx_up (bx_up (bx_up T5 412 (10) (r_p 10)) 428 (r_p 12) (r_p 11)) 429 (r_p 12) (0)) 427 (0) (r_p 12 + 1)) (bx_val [(0, 0), (0, 0), (0, 0), (0, 0), (0, 0), (0, 0), (0, 0), (0, 0), (8, 0)] r_p 8)
    rw [bx_val_x (n := 8) (e := (8, 0)) h0_ rfl]
    exact g.2.2.1
  · show rxmRDDO_1 S0 ws (bx_up (bx_up (bx_up (bx_up T5 412 (10) (r_p 10)) 428 (r_p 12) (r_p 11)) 429 (r_p 12) (0)) 427 (0) (r_p 12 + 1)) (bx_val [(0, 0), (0, 0), (0, 0), (0, 0), (0, 0), (0, 0), (0, 0), (0, 0), (8, 0)] r_p 8) < rxmRDDO_5 S0 ws T5 (r 8) (r 9) (r 10)
    rw [bx_val_x (n := 8) (e := (8, 0)) h0_ rfl, ← hr_ 8 (by decide), ← hr_ 9 (by decide), ← hr_ 10 (by decide)]
    exact g.2.2.2
theorem rxcRDDO_5_4 {S0 : Nat → Int → Int} {ws : List Int} {S : Nat → Int → Int} {least x y x11 x12 : Int} (hP : rxPRDDO S0 ws) (hin : bx_same rxL (bx_mdl rxCRDDO.2.2.1) S0 S) (I0 : bx_Inv rxL S) (hinv : rxIRDDO_5 S0 ws S least x y) (l8 : 0 ≤ least) (u8 : least ≤ 6) (l9 : 0 ≤ x) (u9 : x ≤ 400) (l10 : 0 ≤ y) (u10 : y ≤ 399) (l11 : 0 ≤ x11) (u11 : x11 ≤ 13) (l12 : 400 ≤ x12) (u12 : x12 ≤ 400) (f0 : x11 ≠ 5) (f1 : x11 ≠ 4) (e1 : (bx_up S 412 10 y) 425 y = x11) (e0 : (bx_up S 412 10 y) 427 0 = x12) : (True) ∧ (True) ∧ rxIRDDO_1 S0 ws (bx_up S 412 10 y) least ∧ rxmRDDO_1 S0 ws (bx_up S 412 10 y) least < rxmRDDO_5 S0 ws S least x y := by
  obtain ⟨hI, hx⟩ := hinv
  obtain ⟨a_, b_, c_, d_⟩ := rxcRDDK_5_4 hP hin I0 hI l8 u8 l9 u9 l10 u10 l11 u11 l12 u12 f0 f1 e1 e0
  exact ⟨a_, b_, ⟨c_, (by
    intro hp
    exact (rkPO_up (q := 412) (by decide +kernel) (fun g => absurd g.1 (by decide)) (hx hp)))⟩, d_⟩
theorem rxgRDDO_5_4 {X : (Nat → Int → Int) → Prop} {S0 : Nat → Int → Int} {ws : List Int} (hP : rxPRDDO S0 ws) : bx_obC rxL X S0 rxCRDDO.2.2.1 (rxIRDDO S0 ws) (rxmRDDO S0 ws) 5 rxzRDDO_5 rxoRDDO_5_4 := by
  intro S S_p r r_p hinv hX hin hsm_ hseg
  obtain ⟨I0, I1, h0_, hr_, b_, f_, d_⟩ := bx_cl (evs := [(0, (0, 427), (0, 0), .inr (0, (12, 0))), (0, (0, 425), (10, 0), .inr (0, (11, 0))), (1, (0, 412), (0, 10), .inr (0, (10, 0)))]) (fvs := [(3, (11, 0), (0, 5), (0, 0)), (3, (11, 0), (0, 4), (0, 0))]) hseg (by decide +kernel) (by decide +kernel)
  have hinv : rxIRDDO_5 S0 ws S (r 8) (r 9) (r 10) := hinv
  rw [← hr_ 8 (by decide), ← hr_ 9 (by decide), ← hr_ 10 (by decide)] at hinv
  obtain ⟨⟨l8, u8⟩, ⟨l9, u9⟩, ⟨l10, u10⟩, ⟨l11, u11⟩, ⟨l12, u12⟩, -⟩ := b_
  obtain ⟨f0, f1, -⟩ := f_
  obtain ⟨e0, ⟨e1, ⟨T2, w_, w2⟩⟩⟩ := d_
  subst w2
  subst w_
  have g := rxcRDDO_5_4 hP hin I0 hinv l8 u8 l9 u9 l10 u10 l11 u11 l12 u12 f0 f1 e1 e0
  refine ⟨bx_narP_ok (l := []) g.1, bx_nfP_ok h0_ (fvs := []) (by decide +kernel) g.2.1, ?_, ?_⟩
  · show rxIRDDO_1 S0 ws (bx_up T2 412 (10) (r_p 10)) (bx_val [(0, 0), (0, 0), (0, 0), (0, 0), (0, 0), (0, 0), (0, 0), (0, 0), (8, 0)] r_p 8)
    rw [bx_val_x (n := 8) (e := (8, 0)) h0_ rfl]
    exact g.2.2.1
  · show rxmRDDO_1 S0 ws (bx_up T2 412 (10) (r_p 10)) (bx_val [(0, 0), (0, 0), (0, 0), (0, 0), (0, 0), (0, 0), (0, 0), (0, 0), (8, 0)] r_p 8) < rxmRDDO_5 S0 ws T2 (r 8) (r 9) (r 10)
    rw [bx_val_x (n := 8) (e := (8, 0)) h0_ rfl, ← hr_ 8 (by decide), ← hr_ 9 (by decide), ← hr_ 10 (by decide)]
    exact g.2.2.2
theorem rxcRDDO_5_5 {S0 : Nat → Int → Int} {ws : List Int} {S : Nat → Int → Int} {least x y x11 x12 : Int} (hP : rxPRDDO S0 ws) (hin : bx_same rxL (bx_mdl rxCRDDO.2.2.1) S0 S) (I0 : bx_Inv rxL S) (hinv : rxIRDDO_5 S0 ws S least x y) (l8 : 0 ≤ least) (u8 : least ≤ 6) (l9 : 0 ≤ x) (u9 : x ≤ 400) (l10 : 0 ≤ y) (u10 : y ≤ 399) (l11 : 4 ≤ x11) (u11 : x11 ≤ 4) (l12 : (-1) ≤ x12) (u12 : x12 ≤ (-1)) (e1 : (bx_up S 412 10 y) 425 y = x11) (e0 : (bx_up S 412 10 y) 426 y = x12) : (True) ∧ (True) ∧ rxIRDDO_1 S0 ws (bx_up S 412 10 y) least ∧ rxmRDDO_1 S0 ws (bx_up S 412 10 y) least < rxmRDDO_5 S0 ws S least x y := by
  obtain ⟨hI, hx⟩ := hinv
  obtain ⟨a_, b_, c_, d_⟩ := rxcRDDK_5_5 hP hin I0 hI l8 u8 l9 u9 l10 u10 l11 u11 l12 u12 e1 e0
  exact ⟨a_, b_, ⟨c_, (by
    intro hp
    exact (rkPO_up (q := 412) (by decide +kernel) (fun g => absurd g.1 (by decide)) (hx hp)))⟩, d_⟩
theorem rxgRDDO_5_5 {X : (Nat → Int → Int) → Prop} {S0 : Nat → Int → Int} {ws : List Int} (hP : rxPRDDO S0 ws) : bx_obC rxL X S0 rxCRDDO.2.2.1 (rxIRDDO S0 ws) (rxmRDDO S0 ws) 5 rxzRDDO_5 rxoRDDO_5_5 := by
  intro S S_p r r_p hinv hX hin hsm_ hseg
  obtain ⟨I0, I1, h0_, hr_, b_, f_, d_⟩ := bx_cl (evs := [(0, (0, 426), (10, 0), .inr (0, (12, 0))), (0, (0, 425), (10, 0), .inr (0, (11, 0))), (1, (0, 412), (0, 10), .inr (0, (10, 0)))]) (fvs := []) hseg (by decide +kernel) (by decide +kernel)
  have hinv : rxIRDDO_5 S0 ws S (r 8) (r 9) (r 10) := hinv
  rw [← hr_ 8 (by decide), ← hr_ 9 (by decide), ← hr_ 10 (by decide)] at hinv
  obtain ⟨⟨l8, u8⟩, ⟨l9, u9⟩, ⟨l10, u10⟩, ⟨l11, u11⟩, ⟨l12, u12⟩, -⟩ := b_
  obtain ⟨e0, ⟨e1, ⟨T2, w_, w2⟩⟩⟩ := d_
  subst w2
  subst w_
  have g := rxcRDDO_5_5 hP hin I0 hinv l8 u8 l9 u9 l10 u10 l11 u11 l12 u12 e1 e0
  refine ⟨bx_narP_ok (l := []) g.1, bx_nfP_ok h0_ (fvs := []) (by decide +kernel) g.2.1, ?_, ?_⟩
  · show rxIRDDO_1 S0 ws (bx_up T2 412 (10) (r_p 10)) (bx_val [(0, 0), (0, 0), (0, 0), (0, 0), (0, 0), (0, 0), (0, 0), (0, 0), (8, 0)] r_p 8)
    rw [bx_val_x (n := 8) (e := (8, 0)) h0_ rfl]
    exact g.2.2.1
  · show rxmRDDO_1 S0 ws (bx_up T2 412 (10) (r_p 10)) (bx_val [(0, 0), (0, 0), (0, 0), (0, 0), (0, 0), (0, 0), (0, 0), (0, 0), (8, 0)] r_p 8) < rxmRDDO_5 S0 ws T2 (r 8) (r 9) (r 10)
    rw [bx_val_x (n := 8) (e := (8, 0)) h0_ rfl, ← hr_ 8 (by decide), ← hr_ 9 (by decide), ← hr_ 10 (by decide)]
    exact g.2.2.2
theorem rxcRDDO_5_6 {S0 : Nat → Int → Int} {ws : List Int} {S : Nat → Int → Int} {least x y x11 x12 x13 : Int} (hP : rxPRDDO S0 ws) (hin : bx_same rxL (bx_mdl rxCRDDO.2.2.1) S0 S) (I0 : bx_Inv rxL S) (hinv : rxIRDDO_5 S0 ws S least x y) (l8 : 0 ≤ least) (u8 : least ≤ 6) (l9 : 0 ≤ x) (u9 : x ≤ 400) (l10 : 0 ≤ y) (u10 : y ≤ 399) (l11 : 4 ≤ x11) (u11 : x11 ≤ 4) (l12 : 0 ≤ x12) (u12 : x12 ≤ 400) (l13 : 0 ≤ x13) (u13 : x13 ≤ 400) (f0 : x13 ≤ x12) (e2 : (bx_up S 412 10 y) 425 y = x11) (e1 : (bx_up S 412 10 y) 426 y = x12) (e0 : (bx_up S 412 10 y) 427 0 = x13) : (True) ∧ (True) ∧ rxIRDDO_1 S0 ws (bx_up S 412 10 y) least ∧ rxmRDDO_1 S0 ws (bx_up S 412 10 y) least < rxmRDDO_5 S0 ws S least x y := by
  obtain ⟨hI, hx⟩ := hinv
  obtain ⟨a_, b_, c_, d_⟩ := rxcRDDK_5_6 hP hin I0 hI l8 u8 l9 u9 l10 u10 l11 u11 l12 u12 l13 u13 f0 e2 e1 e0
  exact ⟨a_, b_, ⟨c_, (by
    intro hp
    exact (rkPO_up (q := 412) (by decide +kernel) (fun g => absurd g.1 (by decide)) (hx hp)))⟩, d_⟩
theorem rxgRDDO_5_6 {X : (Nat → Int → Int) → Prop} {S0 : Nat → Int → Int} {ws : List Int} (hP : rxPRDDO S0 ws) : bx_obC rxL X S0 rxCRDDO.2.2.1 (rxIRDDO S0 ws) (rxmRDDO S0 ws) 5 rxzRDDO_5 rxoRDDO_5_6 := by
  intro S S_p r r_p hinv hX hin hsm_ hseg
  obtain ⟨I0, I1, h0_, hr_, b_, f_, d_⟩ := bx_cl (evs := [(0, (0, 427), (0, 0), .inr (0, (13, 0))), (0, (0, 426), (10, 0), .inr (0, (12, 0))), (0, (0, 425), (10, 0), .inr (0, (11, 0))), (1, (0, 412), (0, 10), .inr (0, (10, 0)))]) (fvs := [(1, (13, 0), (12, 0), (0, 0))]) hseg (by decide +kernel) (by decide +kernel)
  have hinv : rxIRDDO_5 S0 ws S (r 8) (r 9) (r 10) := hinv
  rw [← hr_ 8 (by decide), ← hr_ 9 (by decide), ← hr_ 10 (by decide)] at hinv
  obtain ⟨⟨l8, u8⟩, ⟨l9, u9⟩, ⟨l10, u10⟩, ⟨l11, u11⟩, ⟨l12, u12⟩, ⟨l13, u13⟩, -⟩ := b_
  obtain ⟨f0, -⟩ := f_
  obtain ⟨e0, ⟨e1, ⟨e2, ⟨T3, w_, w3⟩⟩⟩⟩ := d_
  subst w3
  subst w_
  have g := rxcRDDO_5_6 hP hin I0 hinv l8 u8 l9 u9 l10 u10 l11 u11 l12 u12 l13 u13 f0 e2 e1 e0
  refine ⟨bx_narP_ok (l := []) g.1, bx_nfP_ok h0_ (fvs := []) (by decide +kernel) g.2.1, ?_, ?_⟩
  · show rxIRDDO_1 S0 ws (bx_up T3 412 (10) (r_p 10)) (bx_val [(0, 0), (0, 0), (0, 0), (0, 0), (0, 0), (0, 0), (0, 0), (0, 0), (8, 0)] r_p 8)
    rw [bx_val_x (n := 8) (e := (8, 0)) h0_ rfl]
    exact g.2.2.1
  · show rxmRDDO_1 S0 ws (bx_up T3 412 (10) (r_p 10)) (bx_val [(0, 0), (0, 0), (0, 0), (0, 0), (0, 0), (0, 0), (0, 0), (0, 0), (8, 0)] r_p 8) < rxmRDDO_5 S0 ws T3 (r 8) (r 9) (r 10)
    rw [bx_val_x (n := 8) (e := (8, 0)) h0_ rfl, ← hr_ 8 (by decide), ← hr_ 9 (by decide), ← hr_ 10 (by decide)]
    exact g.2.2.2
theorem rxcRDDO_5_7 {S0 : Nat → Int → Int} {ws : List Int} {S : Nat → Int → Int} {least x y x11 x12 x13 : Int} (hP : rxPRDDO S0 ws) (hin : bx_same rxL (bx_mdl rxCRDDO.2.2.1) S0 S) (I0 : bx_Inv rxL S) (hinv : rxIRDDO_5 S0 ws S least x y) (l8 : 0 ≤ least) (u8 : least ≤ 6) (l9 : 0 ≤ x) (u9 : x ≤ 400) (l10 : 0 ≤ y) (u10 : y ≤ 399) (l11 : 4 ≤ x11) (u11 : x11 ≤ 4) (l12 : 0 ≤ x12) (u12 : x12 ≤ 399) (l13 : 1 ≤ x13) (u13 : x13 ≤ 400) (f0 : x12 < x13) (e3 : (bx_up S 412 10 y) 425 y = x11) (e2 : (bx_up S 412 10 y) 426 y = x12) (e1 : (bx_up S 412 10 y) 427 0 = x13) : (True) ∧ (True) ∧ rxIRDDO_1 S0 ws (bx_up (bx_up S 412 10 y) 429 x12 x13) least ∧ rxmRDDO_1 S0 ws (bx_up (bx_up S 412 10 y) 429 x12 x13) least < rxmRDDO_5 S0 ws S least x y := by
  obtain ⟨hI, hx⟩ := hinv
  obtain ⟨a_, b_, c_, d_⟩ := rxcRDDK_5_7 hP hin I0 hI l8 u8 l9 u9 l10 u10 l11 u11 l12 u12 l13 u13 f0 e3 e2 e1
  exact ⟨a_, b_, ⟨c_, (by
    intro hp
    exact (rkPO_up (q := 429) (by decide +kernel) (fun g => absurd g.1 (by decide)) (rkPO_up (q := 412) (by decide +kernel) (fun g => absurd g.1 (by decide)) (hx hp))))⟩, d_⟩
theorem rxgRDDO_5_7 {X : (Nat → Int → Int) → Prop} {S0 : Nat → Int → Int} {ws : List Int} (hP : rxPRDDO S0 ws) : bx_obC rxL X S0 rxCRDDO.2.2.1 (rxIRDDO S0 ws) (rxmRDDO S0 ws) 5 rxzRDDO_5 rxoRDDO_5_7 := by
  intro S S_p r r_p hinv hX hin hsm_ hseg
  obtain ⟨I0, I1, h0_, hr_, b_, f_, d_⟩ := bx_cl (evs := [(1, (0, 429), (12, 0), .inr (0, (13, 0))), (0, (0, 427), (0, 0), .inr (0, (13, 0))), (0, (0, 426), (10, 0), .inr (0, (12, 0))), (0, (0, 425), (10, 0), .inr (0, (11, 0))), (1, (0, 412), (0, 10), .inr (0, (10, 0)))]) (fvs := [(0, (12, 0), (13, 0), (0, 0))]) hseg (by decide +kernel) (by decide +kernel)
  have hinv : rxIRDDO_5 S0 ws S (r 8) (r 9) (r 10) := hinv
  rw [← hr_ 8 (by decide), ← hr_ 9 (by decide), ← hr_ 10 (by decide)] at hinv
  obtain ⟨⟨l8, u8⟩, ⟨l9, u9⟩, ⟨l10, u10⟩, ⟨l11, u11⟩, ⟨l12, u12⟩, ⟨l13, u13⟩, -⟩ := b_
  obtain ⟨f0, -⟩ := f_
  obtain ⟨T0, ⟨e1, ⟨e2, ⟨e3, ⟨T4, w_, w4⟩⟩⟩⟩, w0⟩ := d_
  subst w0
  subst w4
  subst w_
  have g := rxcRDDO_5_7 hP hin I0 hinv l8 u8 l9 u9 l10 u10 l11 u11 l12 u12 l13 u13 f0 e3 e2 e1
  refine ⟨bx_narP_ok (l := []) g.1, bx_nfP_ok h0_ (fvs := []) (by decide +kernel) g.2.1, ?_, ?_⟩
  · show rxIRDDO_1 S0 ws (bx_up (bx_up T4 412 (10) (r_p 10)) 429 (r_p 12) (r_p 13)) (bx_val [(0, 0), (0, 0), (0, 0), (0, 0), (0, 0), (0, 0), (0, 0), (0, 0), (8, 0)] r_p 8)
    rw [bx_val_x (n := 8) (e := (8, 0)) h0_ rfl]
    exact g.2.2.1
  · show rxmRDDO_1 S0 ws (bx_up (bx_up T4 412 (10) (r_p 10)) 429 (r_p 12) (r_p 13)) (bx_val [(0, 0), (0, 0), (0, 0), (0, 0), (0, 0), (0, 0), (0, 0), (0, 0), (8, 0)] r_p 8) < rxmRDDO_5 S0 ws T4 (r 8) (r 9) (r 10)
    rw [bx_val_x (n := 8) (e := (8, 0)) h0_ rfl, ← hr_ 8 (by decide), ← hr_ 9 (by decide), ← hr_ 10 (by decide)]
    exact g.2.2.2
theorem rxgCRDDO {X : (Nat → Int → Int) → Prop} {S0 : Nat → Int → Int} {ws : List Int} (hP : rxPRDDO S0 ws) : bx_allI (fun i q => rxURDDO q = true ∨ bx_allP (fun o => bx_obC rxL X S0 rxCRDDO.2.2.1 (rxIRDDO S0 ws) (rxmRDDO S0 ws) i q.1 o) q.2.1) 0 rxYRDDO := ⟨Or.inr ⟨rxgRDDO_0_0 hP, trivial⟩, Or.inr ⟨rxgRDDO_1_0 hP, trivial⟩, Or.inl rfl, Or.inr ⟨rxgRDDO_3_0 hP, trivial⟩, Or.inl rfl, Or.inr ⟨rxgRDDO_5_0 hP, rxgRDDO_5_1 hP, rxgRDDO_5_2 hP, rxgRDDO_5_3 hP, rxgRDDO_5_4 hP, rxgRDDO_5_5 hP, rxgRDDO_5_6 hP, rxgRDDO_5_7 hP, trivial⟩, trivial⟩
theorem rxgERDDO {X : (Nat → Int → Int) → Prop} {S0 : Nat → Int → Int} {ws : List Int} (hP : rxPRDDO S0 ws) : bx_allI (fun i q => rxURDDO q = true ∨ bx_allP (fun E => bx_obE rxL X S0 rxCRDDO.2.2.1 (rxIRDDO S0 ws) (rxPSRDDO S0 ws) i q.1 E) q.2.2) 0 rxYRDDO := ⟨Or.inr ⟨rxfRDDO_0_0 hP, trivial⟩, Or.inr ⟨rxfRDDO_1_0 hP, trivial⟩, Or.inl rfl, Or.inr ⟨rxfRDDO_3_0 hP, trivial⟩, Or.inl rfl, Or.inr trivial, trivial⟩
theorem rxuRDDO {PX : State → Prop} {Dg : va_G} {A : Nat → Prop} {ad xa : Nat → Nat} {l : Launch} {X : (Nat → Int → Int) → Prop} (hPX : rx_PXOK rxNW A PX) (hX : ∀ S S1 : Nat → Int → Int, X S → bx_same rxL (bx_mdl rxCRDDO.2.2.1) S S1 → X S1) (hQSTD : bx_ConP rxG rxNW rxAO PX Dg rxL X vwCl A ad l rxM4 rxC4 rxPSTD rxPSSTD) {S0 : Nat → Int → Int} {ws : List Int} (hP : rxPRDDO S0 ws) : ∀ (i : Nat) (q : bx_HE), rxYRDDO[i]? = some q → rxURDDO q = true → ∀ {p : Program} {e : Env} {R : Room} {s : State} {m : MethodId} {args : Array Value} {below : List Frame} {meth : Method} {c : Code} {Q : State → Prop} {H0 : Heap}, rx_Fr rxG rxNW rxAO PX p s m args meth c rxM80 → (∀ q, H0.size ≤ q → A q) → H0 = s.heap → rxM80.2.2.2.2.2.2.1 ≤ R.cells → rxM80.2.2.2.2.2.2.2 ≤ R.slots → rxCRDDO.2.2.2.1 ≤ R.frames → rxCRDDO.2.2.2.1 * 40 ≤ R.locals → bx_Step p l e R s m args below meth c Q Dg rxL X vwCl A xa H0 ad rxM80 rxYRDDO (rxIRDDO S0 ws) (rxmRDDO S0 ws) S0 rxCRDDO.2.2.1 i q := by
  intro i q hq hus p e R s m args below meth c Q H0 hF hA hH0 hmc hms hd hdl
  match i, hq with
  | 0, hq =>
    cases hq
    exact absurd (show false = true from hus) Bool.false_ne_true
  | 1, hq =>
    cases hq
    exact absurd (show false = true from hus) Bool.false_ne_true
  | 2, hq =>
    cases hq
    exact rx_stepC (ins := .invokestatic 199) (len := 3) (i_p := 3) (M_p := rxM4) (d := rxCRDDO.2.2.2.1) (as := [.inr (0, (9, 0))]) (t := []) (ct := rxC4) hPX hF rfl hA hH0 hmc hms hd hdl (by decide +kernel) rfl rfl (by decide +kernel) (by decide +kernel) hQSTD (by decide +kernel) rfl (Or.inr ⟨_, _, _, 1, rfl, rfl, by omega, rfl, rfl, rfl⟩) (rxsRDDO_2 hP)
  | 3, hq =>
    cases hq
    exact absurd (show false = true from hus) Bool.false_ne_true
  | 4, hq =>
    cases hq
    exact rx_stepBB (i_p := 5) (o := 34) (a := (9, 0)) (b := (0, 1)) (lo := 0) (hi := 399) (t := [.inr (3, (0, 412))]) hF (Or.inr (Or.inr (Or.inr (Or.inr ⟨rfl, rfl⟩)))) (by decide +kernel) rfl rfl rfl rfl (rxsRDDO_4 hP)
  | 5, hq =>
    cases hq
    exact absurd (show false = true from hus) Bool.false_ne_true
  | n + 6, hq => cases hq
theorem rxQRDDO {PX : State → Prop} {Dg : va_G} {A : Nat → Prop} {ad xa : Nat → Nat} {l : Launch} {X : (Nat → Int → Int) → Prop} (hPX : rx_PXOK rxNW A PX) (hsl : ∀ s : State, PX s → ∀ o idx n : Nat, rxSl o idx = some n → ∃ tx : String, vk_R (rxNm o) idx tx (ad n) s)
    (hX : ∀ S S_p : Nat → Int → Int, X S → bx_same rxL (bx_mdl rxCRDDO.2.2.1) S S_p → X S_p)
    (ih : ∀ (j2 : Nat) (ct2 : bx_Ct) (M2 : rx_Mt), ct2 ∈ rxCnE j2 → ct2.2.2.2.1 + 1 ≤ rxCRDDO.2.2.2.1 → rxT.2.2.2.2.2 j2 = some M2 → bx_Con rxG rxNW rxAO PX Dg rxL X vwCl A ad l M2 ct2) (hQSTD : bx_ConP rxG rxNW rxAO PX Dg rxL X vwCl A ad l rxM4 rxC4 rxPSTD rxPSSTD) : bx_ConP rxG rxNW rxAO PX Dg rxL X vwCl A ad l rxM80 rxCRDDO rxPRDDO rxPSRDDO :=
  rxQof (xa := xa) (Cn := rxCnE) (f := 30000) (j := 80) (tab := rxYRDDO) (us := rxURDDO) hPX hsl hX ih rfl rxYcRDDO rxIRDDO rxmRDDO
    (fun S0 ws r I0 I ht0 ht as he he1 hX0 hI0 hP hs ha => by
      have e := he.symm.trans (show bx_ent0 rxNP rxCRDDO.1 bx_I0 [] = some ([(0, 0), (0, 0), (0, 0), (0, 0), (0, 0), (0, 0), (0, 0), (0, 0), (0, 6)], [], [.inr (3, (0, 412)), .inr (0, (8, 0))]) from rfl)
      cases e
      subst ha
      have h0 : r 0 = 0 := hs.1
      show rxIRDDO_0 S0 _ S0 (r 8)
      refine ⟨⟨rfl, ?_⟩, trivial⟩
      simp only [List.map_cons, List.map_nil, bx_xv_ok h0]
      rfl)
    (fun S0 ws hP => rxuRDDO (xa := xa) hPX hX hQSTD hP) (fun S0 ws hP => rxgCRDDO hP) (fun S0 ws hP => rxgERDDO hP)
noncomputable def rxCRPDO : bx_Ct := ([(3, (1, 412, 0))], some (0, (0, 0, 1)), [(6, 0), (7, 2), (7, 3), (7, 4), (7, 7), (1021, 0), (1022, 0), (1034, 0)], 6, [(412, 0, 3, (1, 411, 0)), (412, 6, 3, (1, 427, 0))])
noncomputable def rxIRPDO_0 (S0 : Nat → Int → Int) (ws : List Int) (S : Nat → Int → Int) : Prop := rxIRPDK_0 S0 ws S ∧ True
noncomputable def rxmRPDO_0 (S0 : Nat → Int → Int) (ws : List Int) (S : Nat → Int → Int) : Nat := rxmRPDK_0 S0 ws S
noncomputable def rxzRPDO_0 : rx_Z := ([(0, 0), (0, 0), (0, 0), (0, 0), (0, 0), (0, 0), (0, 0), (0, 0)], [], [(((0, 412), 6), .inr (3, (0, 427))), (((0, 412), 0), .inr (3, (0, 411)))], 0, 0, 0, [(0, .inr (3, (0, 412)))], [])
noncomputable def rxIRPDO_1 (S0 : Nat → Int → Int) (ws : List Int) (S : Nat → Int → Int) : Prop := rxIRPDK_1 S0 ws S ∧ (rkPp S0 → rkPO S0 S)
noncomputable def rxmRPDO_1 (S0 : Nat → Int → Int) (ws : List Int) (S : Nat → Int → Int) : Nat := rxmRPDK_1 S0 ws S
noncomputable def rxzRPDO_1 : rx_Z := ([(0, 0), (0, 0), (0, 0), (0, 0), (0, 0), (0, 0), (0, 0), (0, 0)], [], [(((0, 412), 0), .inr (3, (0, 411))), (((0, 412), 6), .inr (3, (0, 427)))], 0, 0, 1, [(0, .inr (3, (0, 412)))], [.inr (3, (0, 412))])
noncomputable def rxIRPDO_2 (S0 : Nat → Int → Int) (ws : List Int) (S : Nat → Int → Int) (nm : Int) : Prop := rxIRPDK_2 S0 ws S nm ∧ (rkPp S0 → rkPO S0 S)
noncomputable def rxmRPDO_2 (S0 : Nat → Int → Int) (ws : List Int) (S : Nat → Int → Int) (nm : Int) : Nat := rxmRPDK_2 S0 ws S nm
noncomputable def rxzRPDO_2 : rx_Z := ([(0, 0), (0, 0), (0, 0), (0, 0), (0, 0), (0, 0), (0, 0), (0, 0), ((-2147483648), 1001)], [], [(((0, 412), 0), .inr (3, (0, 411))), (((0, 412), 6), .inr (3, (0, 427)))], 0, 0, 4, [(0, .inr (3, (0, 412)))], [.inr (0, (8, 0))])
noncomputable def rxIRPDO_3 (S0 : Nat → Int → Int) (ws : List Int) (S : Nat → Int → Int) (nm : Int) : Prop := rxIRPDK_3 S0 ws S nm ∧ (rkPp S0 → rkPO S0 S)
noncomputable def rxmRPDO_3 (S0 : Nat → Int → Int) (ws : List Int) (S : Nat → Int → Int) (nm : Int) : Nat := rxmRPDK_3 S0 ws S nm
noncomputable def rxzRPDO_3 : rx_Z := ([(0, 0), (0, 0), (0, 0), (0, 0), (0, 0), (0, 0), (0, 0), (0, 0), ((-2147483648), 1000)], [], [(((0, 412), 0), .inr (3, (0, 411))), (((0, 412), 6), .inr (3, (0, 427)))], 0, 0, 58, [(0, .inr (3, (0, 412))), (1, .inr (0, (8, 0)))], [.inr (3, (0, 412)), .inr (0, (0, 2)), .inr (3, (0, 427))])
noncomputable def rxIRPDO_4 (S0 : Nat → Int → Int) (ws : List Int) (S : Nat → Int → Int) (nm ix : Int) : Prop := rxIRPDK_4 S0 ws S nm ix ∧ (rkPp S0 → rkPO S0 S)
noncomputable def rxmRPDO_4 (S0 : Nat → Int → Int) (ws : List Int) (S : Nat → Int → Int) (nm ix : Int) : Nat := rxmRPDK_4 S0 ws S nm ix
noncomputable def rxzRPDO_4 : rx_Z := ([(0, 0), (0, 0), (0, 0), (0, 0), (0, 0), (0, 0), (0, 0), (0, 0), ((-2147483648), 1000), ((-1), 7)], [], [(((0, 412), 0), .inr (3, (0, 411))), (((0, 412), 6), .inr (3, (0, 427)))], 0, 0, 61, [(0, .inr (3, (0, 412))), (1, .inr (0, (8, 0)))], [.inr (0, (9, 0)), .inr (0, (0, 2)), .inr (3, (0, 427))])
noncomputable def rxIRPDO_5 (S0 : Nat → Int → Int) (ws : List Int) (S : Nat → Int → Int) (nm : Int) : Prop := rxIRPDK_5 S0 ws S nm ∧ (rkPp S0 → rkPO S0 S)
noncomputable def rxmRPDO_5 (S0 : Nat → Int → Int) (ws : List Int) (S : Nat → Int → Int) (nm : Int) : Nat := rxmRPDK_5 S0 ws S nm
noncomputable def rxzRPDO_5 : rx_Z := ([(0, 0), (0, 0), (0, 0), (0, 0), (0, 0), (0, 0), (0, 0), (0, 0), ((-2147483648), 1000)], [], [(((0, 412), 0), .inr (3, (0, 411))), (((0, 412), 6), .inr (3, (0, 427)))], 0, 0, 69, [(0, .inr (3, (0, 412))), (1, .inr (0, (8, 0)))], [.inr (3, (0, 412))])
noncomputable def rxIRPDO_6 (S0 : Nat → Int → Int) (ws : List Int) (S : Nat → Int → Int) (nm : Int) : Prop := rxIRPDK_6 S0 ws S nm ∧ (rkPp S0 → rkPO S0 S)
noncomputable def rxmRPDO_6 (S0 : Nat → Int → Int) (ws : List Int) (S : Nat → Int → Int) (nm : Int) : Nat := rxmRPDK_6 S0 ws S nm
noncomputable def rxzRPDO_6 : rx_Z := ([(0, 0), (0, 0), (0, 0), (0, 0), (0, 0), (0, 0), (0, 0), (0, 0), ((-2147483648), 1000)], [], [(((0, 412), 0), .inr (3, (0, 411))), (((0, 412), 6), .inr (3, (0, 427)))], 0, 0, 72, [(0, .inr (3, (0, 412))), (1, .inr (0, (8, 0)))], [])
noncomputable def rxoRPDO_0_0 : bx_HO := (([(0, 0), (0, 0), (0, 0), (0, 0), (0, 0), (0, 0), (0, 0), (0, 0)], [], [(((0, 412), 6), .inr (3, (0, 427))), (((0, 412), 0), .inr (3, (0, 411)))], 0, 0, 1, [(0, .inr (3, (0, 412)))], [.inr (3, (0, 412))]), [], [], [(0, 0), (0, 0), (0, 0), (0, 0), (0, 0), (0, 0), (0, 0), (0, 0)], 1)
noncomputable def rxoRPDO_2_0 : bx_HO := (([(0, 0), (0, 0), (0, 0), (0, 0), (0, 0), (0, 0), (0, 0), (0, 0), (0, 1000), (0, 49), (0, 399), (0, 8), (0, 4)], [(3, (12, 0), (0, 1))], [(((0, 0), 1851192626986356797424374018331344491018900889112178922856382464000000), .inr (0, (12, 0))), (((0, 412), 9), .inr (3, (0, 424))), (((0, 0), 1851192626986356799029993984671224184301589730656725206226960384000000), .inr (0, (11, 0))), (((0, 412), 8), .inr (0, (11, 0))), (((0, 0), 1851192626986356797424340330377019318111018015026043177805217795000000), .inr (0, (10, 1))), (((0, 427), 0), .inr (0, (10, 1))), (((0, 0), 1851192626986356797424370955790042202572729718740712036945428483000000), .inr (0, (8, 0))), (((0, 427), 2), .inr (3, (0, 429))), (((0, 0), 1851192626986356797424370955790042202572729718740712036944838659000000), .inr (0, (0, 1))), (((0, 427), 1), .inr (3, (0, 428))), (((0, 0), 1851192626986356797424340330377019318111018015026043177805217792000000), .inr (0, (10, 0))), (((0, 0), 1851192626986356798829287277884448576027768266202889952673136643000000), .inr (0, (9, 1))), (((0, 412), 7), .inr (0, (9, 1))), (((0, 0), 1851192626986356798829287277884448576027768266202889952673136640000000), .inr (0, (9, 0))), (((0, 412), 0), .inr (3, (0, 411))), (((0, 412), 6), .inr (3, (0, 427)))], 0, 0, 69, [(1, .inr (0, (8, 0))), (0, .inr (3, (0, 412)))], [.inr (3, (0, 412))]), [], [], [(0, 0), (0, 0), (0, 0), (0, 0), (0, 0), (0, 0), (0, 0), (0, 0), (8, 0)], 5)
noncomputable def rxoRPDO_2_1 : bx_HO := (([(0, 0), (0, 0), (0, 0), (0, 0), (0, 0), (0, 0), (0, 0), (0, 0), (0, 1000), (0, 49), (0, 399), (0, 8), (1, 1)], [], [(((0, 0), 1851192626986356797424374018331344491018900889112178922856382467000000), .inr (0, (0, 2))), (((0, 0), 1851192626986356797424374018331344491018900889112178922856382464000000), .inr (0, (12, 0))), (((0, 412), 9), .inr (3, (0, 424))), (((0, 0), 1851192626986356799029993984671224184301589730656725206226960384000000), .inr (0, (11, 0))), (((0, 412), 8), .inr (0, (11, 0))), (((0, 0), 1851192626986356797424340330377019318111018015026043177805217795000000), .inr (0, (10, 1))), (((0, 427), 0), .inr (0, (10, 1))), (((0, 0), 1851192626986356797424370955790042202572729718740712036945428483000000), .inr (0, (8, 0))), (((0, 427), 2), .inr (3, (0, 429))), (((0, 0), 1851192626986356797424370955790042202572729718740712036944838659000000), .inr (0, (0, 1))), (((0, 427), 1), .inr (3, (0, 428))), (((0, 0), 1851192626986356797424340330377019318111018015026043177805217792000000), .inr (0, (10, 0))), (((0, 0), 1851192626986356798829287277884448576027768266202889952673136643000000), .inr (0, (9, 1))), (((0, 412), 7), .inr (0, (9, 1))), (((0, 0), 1851192626986356798829287277884448576027768266202889952673136640000000), .inr (0, (9, 0))), (((0, 412), 0), .inr (3, (0, 411))), (((0, 412), 6), .inr (3, (0, 427)))], 0, 0, 69, [(1, .inr (0, (8, 0))), (0, .inr (3, (0, 412)))], [.inr (3, (0, 412))]), [], [], [(0, 0), (0, 0), (0, 0), (0, 0), (0, 0), (0, 0), (0, 0), (0, 0), (8, 0)], 5)
noncomputable def rxoRPDO_2_2 : bx_HO := (([(0, 0), (0, 0), (0, 0), (0, 0), (0, 0), (0, 0), (0, 0), (0, 0), (0, 1000), (0, 49), (0, 399), (9, 2147483647)], [], [(((0, 412), 9), .inr (3, (0, 424))), (((0, 0), 1851192626986356799029993984671224184301589730656725206226960384000000), .inr (0, (11, 0))), (((0, 412), 8), .inr (0, (11, 0))), (((0, 0), 1851192626986356797424340330377019318111018015026043177805217795000000), .inr (0, (10, 1))), (((0, 427), 0), .inr (0, (10, 1))), (((0, 0), 1851192626986356797424370955790042202572729718740712036945428483000000), .inr (0, (8, 0))), (((0, 427), 2), .inr (3, (0, 429))), (((0, 0), 1851192626986356797424370955790042202572729718740712036944838659000000), .inr (0, (0, 1))), (((0, 427), 1), .inr (3, (0, 428))), (((0, 0), 1851192626986356797424340330377019318111018015026043177805217792000000), .inr (0, (10, 0))), (((0, 0), 1851192626986356798829287277884448576027768266202889952673136643000000), .inr (0, (9, 1))), (((0, 412), 7), .inr (0, (9, 1))), (((0, 0), 1851192626986356798829287277884448576027768266202889952673136640000000), .inr (0, (9, 0))), (((0, 412), 0), .inr (3, (0, 411))), (((0, 412), 6), .inr (3, (0, 427)))], 0, 0, 69, [(1, .inr (0, (8, 0))), (0, .inr (3, (0, 412)))], [.inr (3, (0, 412))]), [], [], [(0, 0), (0, 0), (0, 0), (0, 0), (0, 0), (0, 0), (0, 0), (0, 0), (8, 0)], 5)
noncomputable def rxoRPDO_2_3 : bx_HO := (([(0, 0), (0, 0), (0, 0), (0, 0), (0, 0), (0, 0), (0, 0), (0, 0), (0, 1000), (0, 49), (0, 399), ((-2147483648), (-1))], [], [(((0, 0), 1851192626986356799029993984671224184301589730656725206226960384000000), .inr (0, (11, 0))), (((0, 412), 8), .inr (0, (11, 0))), (((0, 0), 1851192626986356797424340330377019318111018015026043177805217795000000), .inr (0, (10, 1))), (((0, 427), 0), .inr (0, (10, 1))), (((0, 0), 1851192626986356797424370955790042202572729718740712036945428483000000), .inr (0, (8, 0))), (((0, 427), 2), .inr (3, (0, 429))), (((0, 0), 1851192626986356797424370955790042202572729718740712036944838659000000), .inr (0, (0, 1))), (((0, 427), 1), .inr (3, (0, 428))), (((0, 0), 1851192626986356797424340330377019318111018015026043177805217792000000), .inr (0, (10, 0))), (((0, 0), 1851192626986356798829287277884448576027768266202889952673136643000000), .inr (0, (9, 1))), (((0, 412), 7), .inr (0, (9, 1))), (((0, 0), 1851192626986356798829287277884448576027768266202889952673136640000000), .inr (0, (9, 0))), (((0, 412), 0), .inr (3, (0, 411))), (((0, 412), 6), .inr (3, (0, 427)))], 0, 0, 69, [(1, .inr (0, (8, 0))), (0, .inr (3, (0, 412)))], [.inr (3, (0, 412))]), [], [], [(0, 0), (0, 0), (0, 0), (0, 0), (0, 0), (0, 0), (0, 0), (0, 0), (8, 0)], 5)
noncomputable def rxoRPDO_2_4 : bx_HO := (([(0, 0), (0, 0), (0, 0), (0, 0), (0, 0), (0, 0), (0, 0), (0, 0), (0, 1000), (0, 49), (400, 400), (0, 8), (0, 4)], [(3, (12, 0), (0, 1))], [(((0, 0), 1851192626986356797424374018331344491018900889112178922856382464000000), .inr (0, (12, 0))), (((0, 412), 9), .inr (3, (0, 424))), (((0, 0), 1851192626986356799029993984671224184301589730656725206226960384000000), .inr (0, (11, 0))), (((0, 412), 8), .inr (0, (11, 0))), (((0, 0), 1851192626986356797424340330377019318111018015026043177805217792000000), .inr (0, (10, 0))), (((0, 427), 0), .inr (0, (10, 0))), (((0, 0), 1851192626986356798829287277884448576027768266202889952673136643000000), .inr (0, (9, 1))), (((0, 412), 7), .inr (0, (9, 1))), (((0, 0), 1851192626986356798829287277884448576027768266202889952673136640000000), .inr (0, (9, 0))), (((0, 412), 0), .inr (3, (0, 411))), (((0, 412), 6), .inr (3, (0, 427)))], 0, 0, 69, [(1, .inr (0, (8, 0))), (0, .inr (3, (0, 412)))], [.inr (3, (0, 412))]), [], [], [(0, 0), (0, 0), (0, 0), (0, 0), (0, 0), (0, 0), (0, 0), (0, 0), (8, 0)], 5)
noncomputable def rxoRPDO_2_5 : bx_HO := (([(0, 0), (0, 0), (0, 0), (0, 0), (0, 0), (0, 0), (0, 0), (0, 0), (0, 1000), (0, 49), (400, 400), (0, 8), (1, 1)], [], [(((0, 0), 1851192626986356797424374018331344491018900889112178922856382467000000), .inr (0, (0, 2))), (((0, 0), 1851192626986356797424374018331344491018900889112178922856382464000000), .inr (0, (12, 0))), (((0, 412), 9), .inr (3, (0, 424))), (((0, 0), 1851192626986356799029993984671224184301589730656725206226960384000000), .inr (0, (11, 0))), (((0, 412), 8), .inr (0, (11, 0))), (((0, 0), 1851192626986356797424340330377019318111018015026043177805217792000000), .inr (0, (10, 0))), (((0, 427), 0), .inr (0, (10, 0))), (((0, 0), 1851192626986356798829287277884448576027768266202889952673136643000000), .inr (0, (9, 1))), (((0, 412), 7), .inr (0, (9, 1))), (((0, 0), 1851192626986356798829287277884448576027768266202889952673136640000000), .inr (0, (9, 0))), (((0, 412), 0), .inr (3, (0, 411))), (((0, 412), 6), .inr (3, (0, 427)))], 0, 0, 69, [(1, .inr (0, (8, 0))), (0, .inr (3, (0, 412)))], [.inr (3, (0, 412))]), [], [], [(0, 0), (0, 0), (0, 0), (0, 0), (0, 0), (0, 0), (0, 0), (0, 0), (8, 0)], 5)
noncomputable def rxoRPDO_2_6 : bx_HO := (([(0, 0), (0, 0), (0, 0), (0, 0), (0, 0), (0, 0), (0, 0), (0, 0), (0, 1000), (0, 49), (400, 400), (9, 2147483647)], [], [(((0, 412), 9), .inr (3, (0, 424))), (((0, 0), 1851192626986356799029993984671224184301589730656725206226960384000000), .inr (0, (11, 0))), (((0, 412), 8), .inr (0, (11, 0))), (((0, 0), 1851192626986356797424340330377019318111018015026043177805217792000000), .inr (0, (10, 0))), (((0, 427), 0), .inr (0, (10, 0))), (((0, 0), 1851192626986356798829287277884448576027768266202889952673136643000000), .inr (0, (9, 1))), (((0, 412), 7), .inr (0, (9, 1))), (((0, 0), 1851192626986356798829287277884448576027768266202889952673136640000000), .inr (0, (9, 0))), (((0, 412), 0), .inr (3, (0, 411))), (((0, 412), 6), .inr (3, (0, 427)))], 0, 0, 69, [(1, .inr (0, (8, 0))), (0, .inr (3, (0, 412)))], [.inr (3, (0, 412))]), [], [], [(0, 0), (0, 0), (0, 0), (0, 0), (0, 0), (0, 0), (0, 0), (0, 0), (8, 0)], 5)
noncomputable def rxoRPDO_2_7 : bx_HO := (([(0, 0), (0, 0), (0, 0), (0, 0), (0, 0), (0, 0), (0, 0), (0, 0), (0, 1000), (0, 49), (400, 400), ((-2147483648), (-1))], [], [(((0, 0), 1851192626986356799029993984671224184301589730656725206226960384000000), .inr (0, (11, 0))), (((0, 412), 8), .inr (0, (11, 0))), (((0, 0), 1851192626986356797424340330377019318111018015026043177805217792000000), .inr (0, (10, 0))), (((0, 427), 0), .inr (0, (10, 0))), (((0, 0), 1851192626986356798829287277884448576027768266202889952673136643000000), .inr (0, (9, 1))), (((0, 412), 7), .inr (0, (9, 1))), (((0, 0), 1851192626986356798829287277884448576027768266202889952673136640000000), .inr (0, (9, 0))), (((0, 412), 0), .inr (3, (0, 411))), (((0, 412), 6), .inr (3, (0, 427)))], 0, 0, 69, [(1, .inr (0, (8, 0))), (0, .inr (3, (0, 412)))], [.inr (3, (0, 412))]), [], [], [(0, 0), (0, 0), (0, 0), (0, 0), (0, 0), (0, 0), (0, 0), (0, 0), (8, 0)], 5)
noncomputable def rxoRPDO_2_8 : bx_HO := (([(0, 0), (0, 0), (0, 0), (0, 0), (0, 0), (0, 0), (0, 0), (0, 0), ((-2147483648), (-1)), (0, 49)], [], [(((0, 0), 1851192626986356798829287277884448576027768266202889952673136643000000), .inr (0, (9, 1))), (((0, 412), 7), .inr (0, (9, 1))), (((0, 0), 1851192626986356798829287277884448576027768266202889952673136640000000), .inr (0, (9, 0))), (((0, 412), 0), .inr (3, (0, 411))), (((0, 412), 6), .inr (3, (0, 427)))], 0, 0, 58, [(1, .inr (0, (8, 0))), (0, .inr (3, (0, 412)))], [.inr (3, (0, 412)), .inr (0, (0, 2)), .inr (3, (0, 427))]), [], [], [(0, 0), (0, 0), (0, 0), (0, 0), (0, 0), (0, 0), (0, 0), (0, 0), (8, 0)], 3)
noncomputable def rxeRPDO_2_0 : rx_End × List (Nat × Int × Int) := (([(0, 0), (0, 0), (0, 0), (0, 0), (0, 0), (0, 0), (0, 0), (0, 0), ((-2147483648), 1000), (50, 50), (0, 400)], [], [(((0, 0), 1851192626986356798227167157524121751206303872841384192011665411000000), .inr (0, (10, 0))), (((0, 412), 4), .inr (0, (10, 0))), (((0, 0), 1851192626986356797825753743950570534658660943933713684904017920000000), .inr (0, (10, 0))), (((0, 412), 2), .inr (0, (10, 0))), (((0, 0), 1851192626986356798829287277884448576027768266202889952673136640000000), .inr (0, (9, 0))), (((0, 412), 7), .inr (0, (9, 0))), (((0, 412), 0), .inr (3, (0, 411))), (((0, 412), 6), .inr (3, (0, 427)))], some (.inr (0, (0, 0)))), [])
noncomputable def rxeRPDO_2_1 : rx_End × List (Nat × Int × Int) := (([(0, 0), (0, 0), (0, 0), (0, 0), (0, 0), (0, 0), (0, 0), (0, 0), (1001, 1001), (0, 400)], [], [(((0, 0), 1851192626986356798227167157524121751206303872841384192011665411000000), .inr (0, (9, 0))), (((0, 412), 4), .inr (0, (9, 0))), (((0, 0), 1851192626986356797825753743950570534658660943933713684904017920000000), .inr (0, (9, 0))), (((0, 412), 2), .inr (0, (9, 0))), (((0, 412), 0), .inr (3, (0, 411))), (((0, 412), 6), .inr (3, (0, 427)))], some (.inr (0, (0, 0)))), [])
noncomputable def rxoRPDO_4_0 : bx_HO := (([(0, 0), (0, 0), (0, 0), (0, 0), (0, 0), (0, 0), (0, 0), (0, 0), ((-2147483648), 1000), ((-1), 7), (0, 399), (0, 8), (0, 4)], [(3, (12, 0), (0, 1))], [(((0, 0), 1851192626986356797424374018331344491018900889112178922856382464000000), .inr (0, (12, 0))), (((0, 412), 9), .inr (3, (0, 424))), (((0, 0), 1851192626986356799029993984671224184301589730656725206226960384000000), .inr (0, (11, 0))), (((0, 412), 8), .inr (0, (11, 0))), (((0, 0), 1851192626986356797424340330377019318111018015026043177805217795000000), .inr (0, (10, 1))), (((0, 427), 0), .inr (0, (10, 1))), (((0, 0), 1851192626986356797424370955790042202572729718740712036945428483000000), .inr (0, (9, 0))), (((0, 427), 2), .inr (3, (0, 429))), (((0, 0), 1851192626986356797424370955790042202572729718740712036944838659000000), .inr (0, (0, 2))), (((0, 427), 1), .inr (3, (0, 428))), (((0, 0), 1851192626986356797424340330377019318111018015026043177805217792000000), .inr (0, (10, 0))), (((0, 412), 0), .inr (3, (0, 411))), (((0, 412), 6), .inr (3, (0, 427)))], 0, 0, 69, [(0, .inr (3, (0, 412))), (1, .inr (0, (8, 0)))], [.inr (3, (0, 412))]), [], [], [(0, 0), (0, 0), (0, 0), (0, 0), (0, 0), (0, 0), (0, 0), (0, 0), (8, 0)], 5)
noncomputable def rxoRPDO_4_1 : bx_HO := (([(0, 0), (0, 0), (0, 0), (0, 0), (0, 0), (0, 0), (0, 0), (0, 0), ((-2147483648), 1000), ((-1), 7), (0, 399), (0, 8), (1, 1)], [], [(((0, 0), 1851192626986356797424374018331344491018900889112178922856382467000000), .inr (0, (0, 2))), (((0, 0), 1851192626986356797424374018331344491018900889112178922856382464000000), .inr (0, (12, 0))), (((0, 412), 9), .inr (3, (0, 424))), (((0, 0), 1851192626986356799029993984671224184301589730656725206226960384000000), .inr (0, (11, 0))), (((0, 412), 8), .inr (0, (11, 0))), (((0, 0), 1851192626986356797424340330377019318111018015026043177805217795000000), .inr (0, (10, 1))), (((0, 427), 0), .inr (0, (10, 1))), (((0, 0), 1851192626986356797424370955790042202572729718740712036945428483000000), .inr (0, (9, 0))), (((0, 427), 2), .inr (3, (0, 429))), (((0, 0), 1851192626986356797424370955790042202572729718740712036944838659000000), .inr (0, (0, 2))), (((0, 427), 1), .inr (3, (0, 428))), (((0, 0), 1851192626986356797424340330377019318111018015026043177805217792000000), .inr (0, (10, 0))), (((0, 412), 0), .inr (3, (0, 411))), (((0, 412), 6), .inr (3, (0, 427)))], 0, 0, 69, [(0, .inr (3, (0, 412))), (1, .inr (0, (8, 0)))], [.inr (3, (0, 412))]), [], [], [(0, 0), (0, 0), (0, 0), (0, 0), (0, 0), (0, 0), (0, 0), (0, 0), (8, 0)], 5)
noncomputable def rxoRPDO_4_2 : bx_HO := (([(0, 0), (0, 0), (0, 0), (0, 0), (0, 0), (0, 0), (0, 0), (0, 0), ((-2147483648), 1000), ((-1), 7), (0, 399), (9, 2147483647)], [], [(((0, 412), 9), .inr (3, (0, 424))), (((0, 0), 1851192626986356799029993984671224184301589730656725206226960384000000), .inr (0, (11, 0))), (((0, 412), 8), .inr (0, (11, 0))), (((0, 0), 1851192626986356797424340330377019318111018015026043177805217795000000), .inr (0, (10, 1))), (((0, 427), 0), .inr (0, (10, 1))), (((0, 0), 1851192626986356797424370955790042202572729718740712036945428483000000), .inr (0, (9, 0))), (((0, 427), 2), .inr (3, (0, 429))), (((0, 0), 1851192626986356797424370955790042202572729718740712036944838659000000), .inr (0, (0, 2))), (((0, 427), 1), .inr (3, (0, 428))), (((0, 0), 1851192626986356797424340330377019318111018015026043177805217792000000), .inr (0, (10, 0))), (((0, 412), 0), .inr (3, (0, 411))), (((0, 412), 6), .inr (3, (0, 427)))], 0, 0, 69, [(0, .inr (3, (0, 412))), (1, .inr (0, (8, 0)))], [.inr (3, (0, 412))]), [], [], [(0, 0), (0, 0), (0, 0), (0, 0), (0, 0), (0, 0), (0, 0), (0, 0), (8, 0)], 5)
noncomputable def rxoRPDO_4_3 : bx_HO := (([(0, 0), (0, 0), (0, 0), (0, 0), (0, 0), (0, 0), (0, 0), (0, 0), ((-2147483648), 1000), ((-1), 7), (0, 399), ((-2147483648), (-1))], [], [(((0, 0), 1851192626986356799029993984671224184301589730656725206226960384000000), .inr (0, (11, 0))), (((0, 412), 8), .inr (0, (11, 0))), (((0, 0), 1851192626986356797424340330377019318111018015026043177805217795000000), .inr (0, (10, 1))), (((0, 427), 0), .inr (0, (10, 1))), (((0, 0), 1851192626986356797424370955790042202572729718740712036945428483000000), .inr (0, (9, 0))), (((0, 427), 2), .inr (3, (0, 429))), (((0, 0), 1851192626986356797424370955790042202572729718740712036944838659000000), .inr (0, (0, 2))), (((0, 427), 1), .inr (3, (0, 428))), (((0, 0), 1851192626986356797424340330377019318111018015026043177805217792000000), .inr (0, (10, 0))), (((0, 412), 0), .inr (3, (0, 411))), (((0, 412), 6), .inr (3, (0, 427)))], 0, 0, 69, [(0, .inr (3, (0, 412))), (1, .inr (0, (8, 0)))], [.inr (3, (0, 412))]), [], [], [(0, 0), (0, 0), (0, 0), (0, 0), (0, 0), (0, 0), (0, 0), (0, 0), (8, 0)], 5)
noncomputable def rxoRPDO_4_4 : bx_HO := (([(0, 0), (0, 0), (0, 0), (0, 0), (0, 0), (0, 0), (0, 0), (0, 0), ((-2147483648), 1000), ((-1), 7), (400, 400), (0, 8), (0, 4)], [(3, (12, 0), (0, 1))], [(((0, 0), 1851192626986356797424374018331344491018900889112178922856382464000000), .inr (0, (12, 0))), (((0, 412), 9), .inr (3, (0, 424))), (((0, 0), 1851192626986356799029993984671224184301589730656725206226960384000000), .inr (0, (11, 0))), (((0, 412), 8), .inr (0, (11, 0))), (((0, 0), 1851192626986356797424340330377019318111018015026043177805217792000000), .inr (0, (10, 0))), (((0, 427), 0), .inr (0, (10, 0))), (((0, 412), 0), .inr (3, (0, 411))), (((0, 412), 6), .inr (3, (0, 427)))], 0, 0, 69, [(0, .inr (3, (0, 412))), (1, .inr (0, (8, 0)))], [.inr (3, (0, 412))]), [], [], [(0, 0), (0, 0), (0, 0), (0, 0), (0, 0), (0, 0), (0, 0), (0, 0), (8, 0)], 5)
noncomputable def rxoRPDO_4_5 : bx_HO := (([(0, 0), (0, 0), (0, 0), (0, 0), (0, 0), (0, 0), (0, 0), (0, 0), ((-2147483648), 1000), ((-1), 7), (400, 400), (0, 8), (1, 1)], [], [(((0, 0), 1851192626986356797424374018331344491018900889112178922856382467000000), .inr (0, (0, 2))), (((0, 0), 1851192626986356797424374018331344491018900889112178922856382464000000), .inr (0, (12, 0))), (((0, 412), 9), .inr (3, (0, 424))), (((0, 0), 1851192626986356799029993984671224184301589730656725206226960384000000), .inr (0, (11, 0))), (((0, 412), 8), .inr (0, (11, 0))), (((0, 0), 1851192626986356797424340330377019318111018015026043177805217792000000), .inr (0, (10, 0))), (((0, 427), 0), .inr (0, (10, 0))), (((0, 412), 0), .inr (3, (0, 411))), (((0, 412), 6), .inr (3, (0, 427)))], 0, 0, 69, [(0, .inr (3, (0, 412))), (1, .inr (0, (8, 0)))], [.inr (3, (0, 412))]), [], [], [(0, 0), (0, 0), (0, 0), (0, 0), (0, 0), (0, 0), (0, 0), (0, 0), (8, 0)], 5)
noncomputable def rxoRPDO_4_6 : bx_HO := (([(0, 0), (0, 0), (0, 0), (0, 0), (0, 0), (0, 0), (0, 0), (0, 0), ((-2147483648), 1000), ((-1), 7), (400, 400), (9, 2147483647)], [], [(((0, 412), 9), .inr (3, (0, 424))), (((0, 0), 1851192626986356799029993984671224184301589730656725206226960384000000), .inr (0, (11, 0))), (((0, 412), 8), .inr (0, (11, 0))), (((0, 0), 1851192626986356797424340330377019318111018015026043177805217792000000), .inr (0, (10, 0))), (((0, 427), 0), .inr (0, (10, 0))), (((0, 412), 0), .inr (3, (0, 411))), (((0, 412), 6), .inr (3, (0, 427)))], 0, 0, 69, [(0, .inr (3, (0, 412))), (1, .inr (0, (8, 0)))], [.inr (3, (0, 412))]), [], [], [(0, 0), (0, 0), (0, 0), (0, 0), (0, 0), (0, 0), (0, 0), (0, 0), (8, 0)], 5)
noncomputable def rxoRPDO_4_7 : bx_HO := (([(0, 0), (0, 0), (0, 0), (0, 0), (0, 0), (0, 0), (0, 0), (0, 0), ((-2147483648), 1000), ((-1), 7), (400, 400), ((-2147483648), (-1))], [], [(((0, 0), 1851192626986356799029993984671224184301589730656725206226960384000000), .inr (0, (11, 0))), (((0, 412), 8), .inr (0, (11, 0))), (((0, 0), 1851192626986356797424340330377019318111018015026043177805217792000000), .inr (0, (10, 0))), (((0, 427), 0), .inr (0, (10, 0))), (((0, 412), 0), .inr (3, (0, 411))), (((0, 412), 6), .inr (3, (0, 427)))], 0, 0, 69, [(0, .inr (3, (0, 412))), (1, .inr (0, (8, 0)))], [.inr (3, (0, 412))]), [], [], [(0, 0), (0, 0), (0, 0), (0, 0), (0, 0), (0, 0), (0, 0), (0, 0), (8, 0)], 5)
noncomputable def rxeRPDO_6_0 : rx_End × List (Nat × Int × Int) := (([(0, 0), (0, 0), (0, 0), (0, 0), (0, 0), (0, 0), (0, 0), (0, 0), ((-2147483648), 1000)], [], [(((0, 412), 0), .inr (3, (0, 411))), (((0, 412), 6), .inr (3, (0, 427)))], some (.inr (0, (0, 1)))), [])
noncomputable def rxYRPDO : List bx_HE := [(rxzRPDO_0, [rxoRPDO_0_0], []), (rxzRPDO_1, [], []), (rxzRPDO_2, [rxoRPDO_2_0, rxoRPDO_2_1, rxoRPDO_2_2, rxoRPDO_2_3, rxoRPDO_2_4, rxoRPDO_2_5, rxoRPDO_2_6, rxoRPDO_2_7, rxoRPDO_2_8], [rxeRPDO_2_0, rxeRPDO_2_1]), (rxzRPDO_3, [], []), (rxzRPDO_4, [rxoRPDO_4_0, rxoRPDO_4_1, rxoRPDO_4_2, rxoRPDO_4_3, rxoRPDO_4_4, rxoRPDO_4_5, rxoRPDO_4_6, rxoRPDO_4_7], []), (rxzRPDO_5, [], []), (rxzRPDO_6, [], [rxeRPDO_6_0])]
noncomputable def rxURPDO (q : bx_HE) : Bool := Nat.beq (rx_zpc q.1) 1 || Nat.beq (rx_zpc q.1) 58 || Nat.beq (rx_zpc q.1) 69
noncomputable def rxYBRPDO : bx_B := (rxV, rxNP, rxDmf, bx_mdH rxCRPDO.2.2.1)
set_option maxRecDepth 100000 in
theorem rxYcRPDO : bx_chkH rxYBRPDO rxM65 rxCRPDO rxYRPDO (rxURPDO, fun cut z => rx_ex2 (rxCT rxYBRPDO rxCnE) cut 30000 rxCRPDO.2.2.2.1 65 z) = true := by decide +kernel
noncomputable def rxIRPDO (S0 : Nat → Int → Int) (ws : List Int) (i : Nat) : bx_SP := fun S r => match i with | 0 => rxIRPDO_0 S0 ws S | 1 => rxIRPDO_1 S0 ws S | 2 => rxIRPDO_2 S0 ws S (r 8) | 3 => rxIRPDO_3 S0 ws S (r 8) | 4 => rxIRPDO_4 S0 ws S (r 8) (r 9) | 5 => rxIRPDO_5 S0 ws S (r 8) | 6 => rxIRPDO_6 S0 ws S (r 8) | _ => False
noncomputable def rxmRPDO (S0 : Nat → Int → Int) (ws : List Int) (i : Nat) (S : Nat → Int → Int) (r : Nat → Int) : Nat := match i with | 0 => rxmRPDO_0 S0 ws S | 1 => rxmRPDO_1 S0 ws S | 2 => rxmRPDO_2 S0 ws S (r 8) | 3 => rxmRPDO_3 S0 ws S (r 8) | 4 => rxmRPDO_4 S0 ws S (r 8) (r 9) | 5 => rxmRPDO_5 S0 ws S (r 8) | 6 => rxmRPDO_6 S0 ws S (r 8) | _ => 0
noncomputable def rxPRPDO (S0 : Nat → Int → Int) (ws : List Int) : Prop := rxPRPDK S0 ws
noncomputable def rxPSRPDO (S0 : Nat → Int → Int) (ws : List Int) (S : Nat → Int → Int) (w : Option Int) : Prop := rxPSRPDK S0 ws S w ∧ (rkPp S0 → rkPO S0 S)
theorem rxkRPDO_1 {S0 : Nat → Int → Int} {ws : List Int} {S : Nat → Int → Int} (hP : rxPRPDO S0 ws) (hin : bx_same rxL (bx_mdl rxCRPDO.2.2.1) S0 S) (I0 : bx_Inv rxL S) (hinv : rxIRPDO_1 S0 ws S)  : rxPNUM S [412] ∧ ∀ (S_p : Nat → Int → Int) (nm : Int), (-2147483648) ≤ nm → nm ≤ 1001 → rxPSNUM S [412] S_p (some nm) → bx_Inv rxL S_p → bx_same rxL (bx_mdl rxC74.2.2.1) S S_p → rxIRPDO_2 S0 ws S_p nm ∧ rxmRPDO_2 S0 ws S_p nm < rxmRPDO_1 S0 ws S := by
  obtain ⟨hI, hx⟩ := hinv
  have g_ := rxkRPDK_1 hP hin I0 hI
  exact ⟨g_.1, fun S_p nm l_ u_ hq I1 hsm => ⟨⟨(g_.2 S_p nm l_ u_ hq I1 hsm).1, (by
    intro hp
    exact rkPO_sm hsm (by decide +kernel) (hx hp))⟩, (g_.2 S_p nm l_ u_ hq I1 hsm).2⟩⟩
theorem rxsRPDO_1 {X : (Nat → Int → Int) → Prop} {S0 : Nat → Int → Int} {ws : List Int} (hP : rxPRPDO S0 ws) : rx_obK X S0 rxCRPDO.2.2.1 rxC74.2.2.1 (rxIRPDO S0 ws) (rxmRPDO S0 ws) 1 2 rxzRPDO_1 rxzRPDO_2 [.inr (3, (0, 412))] (some 8) rxPNUM rxPSNUM := by
  intro S r hinv hXS I0 hin hs_ hf_
  have b_ := bx_bds_sat hs_
  have f_ := bx_fcl_ok hs_.1 hf_
  have g := rxkRPDO_1 hP hin I0 hinv 
  have ea : List.map (bx_num r) [.inr (3, (0, 412))] = [412] := by
    simp only [List.map_cons, List.map_nil, bx_xv_ok hs_.1]
    rfl
  rw [ea]
  refine ⟨g.1, fun S_p w r_p hPS hX_p I1 hsm hr hw hs_p => ?_⟩
  have hw := hw _ rfl
  subst hw
  have b_p := hs_p.2.2 8 _ _ rfl
  have g2 := g.2 S_p (r_p 8) b_p.1 b_p.2 hPS I1 hsm
  show rxIRPDO_2 S0 ws S_p (r_p 8) ∧ rxmRPDO_2 S0 ws S_p (r_p 8) < _
  exact g2
theorem rxkRPDO_3 {S0 : Nat → Int → Int} {ws : List Int} {S : Nat → Int → Int} {nm : Int} (hP : rxPRPDO S0 ws) (hin : bx_same rxL (bx_mdl rxCRPDO.2.2.1) S0 S) (I0 : bx_Inv rxL S) (hinv : rxIRPDO_3 S0 ws S nm) (l8 : (-2147483648) ≤ nm) (u8 : nm ≤ 1000) : rxPNMH S [412] ∧ ∀ (S_p : Nat → Int → Int) (ix : Int), (-1) ≤ ix → ix ≤ 7 → rxPSNMH S [412] S_p (some ix) → bx_Inv rxL S_p → bx_same rxL (bx_mdl rxC73.2.2.1) S S_p → rxIRPDO_4 S0 ws S_p nm ix ∧ rxmRPDO_4 S0 ws S_p nm ix < rxmRPDO_3 S0 ws S nm := by
  obtain ⟨hI, hx⟩ := hinv
  have g_ := rxkRPDK_3 hP hin I0 hI l8 u8
  exact ⟨g_.1, fun S_p ix l_ u_ hq I1 hsm => ⟨⟨(g_.2 S_p ix l_ u_ hq I1 hsm).1, (by
    intro hp
    exact rkPO_sm hsm (by decide +kernel) (hx hp))⟩, (g_.2 S_p ix l_ u_ hq I1 hsm).2⟩⟩
theorem rxsRPDO_3 {X : (Nat → Int → Int) → Prop} {S0 : Nat → Int → Int} {ws : List Int} (hP : rxPRPDO S0 ws) : rx_obK X S0 rxCRPDO.2.2.1 rxC73.2.2.1 (rxIRPDO S0 ws) (rxmRPDO S0 ws) 3 4 rxzRPDO_3 rxzRPDO_4 [.inr (3, (0, 412))] (some 9) rxPNMH rxPSNMH := by
  intro S r hinv hXS I0 hin hs_ hf_
  have b_ := bx_bds_sat hs_
  have f_ := bx_fcl_ok hs_.1 hf_
  obtain ⟨⟨l8, u8⟩, -⟩ := b_
  have g := rxkRPDO_3 hP hin I0 hinv l8 u8
  have ea : List.map (bx_num r) [.inr (3, (0, 412))] = [412] := by
    simp only [List.map_cons, List.map_nil, bx_xv_ok hs_.1]
    rfl
  rw [ea]
  refine ⟨g.1, fun S_p w r_p hPS hX_p I1 hsm hr hw hs_p => ?_⟩
  have hw := hw _ rfl
  subst hw
  have b_p := hs_p.2.2 9 _ _ rfl
  have g2 := g.2 S_p (r_p 9) b_p.1 b_p.2 hPS I1 hsm
  show rxIRPDO_4 S0 ws S_p (r_p 8) (r_p 9) ∧ rxmRPDO_4 S0 ws S_p (r_p 8) (r_p 9) < _
  rw [hr 8 (by decide)]
  exact g2
theorem rxkRPDO_5 {S0 : Nat → Int → Int} {ws : List Int} {S : Nat → Int → Int} {nm : Int} (hP : rxPRPDO S0 ws) (hin : bx_same rxL (bx_mdl rxCRPDO.2.2.1) S0 S) (I0 : bx_Inv rxL S) (hinv : rxIRPDO_5 S0 ws S nm) (l8 : (-2147483648) ≤ nm) (u8 : nm ≤ 1000) : rxPAD S [412] ∧ ∀ (S_p : Nat → Int → Int), rxPSAD S [412] S_p none → bx_Inv rxL S_p → bx_same rxL (bx_mdl rxC84.2.2.1) S S_p → rxIRPDO_6 S0 ws S_p nm ∧ rxmRPDO_6 S0 ws S_p nm < rxmRPDO_5 S0 ws S nm := by
  obtain ⟨hI, hx⟩ := hinv
  have g_ := rxkRPDK_5 hP hin I0 hI l8 u8
  exact ⟨g_.1, fun S_p hq I1 hsm => ⟨⟨(g_.2 S_p hq I1 hsm).1, (by
    intro hp
    exact rkPO_sm hsm (by decide +kernel) (hx hp))⟩, (g_.2 S_p hq I1 hsm).2⟩⟩
theorem rxsRPDO_5 {X : (Nat → Int → Int) → Prop} {S0 : Nat → Int → Int} {ws : List Int} (hP : rxPRPDO S0 ws) : rx_obK X S0 rxCRPDO.2.2.1 rxC84.2.2.1 (rxIRPDO S0 ws) (rxmRPDO S0 ws) 5 6 rxzRPDO_5 rxzRPDO_6 [.inr (3, (0, 412))] none rxPAD rxPSAD := by
  intro S r hinv hXS I0 hin hs_ hf_
  have b_ := bx_bds_sat hs_
  have f_ := bx_fcl_ok hs_.1 hf_
  obtain ⟨⟨l8, u8⟩, -⟩ := b_
  have g := rxkRPDO_5 hP hin I0 hinv l8 u8
  have ea : List.map (bx_num r) [.inr (3, (0, 412))] = [412] := by
    simp only [List.map_cons, List.map_nil, bx_xv_ok hs_.1]
    rfl
  rw [ea]
  refine ⟨g.1, fun S_p w r_p hPS hX_p I1 hsm hr hw hs_p => ?_⟩
  have hw : w = none := hPS.1
  subst hw
  have g2 := g.2 S_p hPS I1 hsm
  show rxIRPDO_6 S0 ws S_p (r_p 8) ∧ rxmRPDO_6 S0 ws S_p (r_p 8) < _
  rw [hr 8 (by decide)]
  exact g2
theorem rxcRPDO_0_0 {S0 : Nat → Int → Int} {ws : List Int} {S : Nat → Int → Int} (hP : rxPRPDO S0 ws) (hin : bx_same rxL (bx_mdl rxCRPDO.2.2.1) S0 S) (I0 : bx_Inv rxL S) (hinv : rxIRPDO_0 S0 ws S)  : (True) ∧ (True) ∧ rxIRPDO_1 S0 ws S ∧ rxmRPDO_1 S0 ws S < rxmRPDO_0 S0 ws S := by
  obtain ⟨hI, hx⟩ := hinv
  obtain ⟨a_, b_, c_, d_⟩ := rxcRPDK_0_0 hP hin I0 hI
  exact ⟨a_, b_, ⟨c_, (by
    have e := hI.1.1
    subst e
    intro hp
    exact (rkPO_rf hp))⟩, d_⟩
theorem rxgRPDO_0_0 {X : (Nat → Int → Int) → Prop} {S0 : Nat → Int → Int} {ws : List Int} (hP : rxPRPDO S0 ws) : bx_obC rxL X S0 rxCRPDO.2.2.1 (rxIRPDO S0 ws) (rxmRPDO S0 ws) 0 rxzRPDO_0 rxoRPDO_0_0 := by
  intro S S_p r r_p hinv hX hin hsm_ hseg
  obtain ⟨I0, I1, h0_, hr_, b_, f_, d_⟩ := bx_cl (evs := []) (fvs := []) hseg (by decide +kernel) (by decide +kernel)
  have hinv : rxIRPDO_0 S0 ws S := hinv
  have w_ := d_
  subst w_
  have g := rxcRPDO_0_0 hP hin I0 hinv 
  refine ⟨bx_narP_ok (l := []) g.1, bx_nfP_ok h0_ (fvs := []) (by decide +kernel) g.2.1, ?_, ?_⟩
  · show rxIRPDO_1 S0 ws S_p
    exact g.2.2.1
  · show rxmRPDO_1 S0 ws S_p < rxmRPDO_0 S0 ws S_p
    exact g.2.2.2
theorem rxcRPDO_2_0 {S0 : Nat → Int → Int} {ws : List Int} {S : Nat → Int → Int} {nm x9 x10 x11 x12 : Int} (hP : rxPRPDO S0 ws) (hin : bx_same rxL (bx_mdl rxCRPDO.2.2.1) S0 S) (I0 : bx_Inv rxL S) (hinv : rxIRPDO_2 S0 ws S nm) (l8 : 0 ≤ nm) (u8 : nm ≤ 1000) (l9 : 0 ≤ x9) (u9 : x9 ≤ 49) (l10 : 0 ≤ x10) (u10 : x10 ≤ 399) (l11 : 0 ≤ x11) (u11 : x11 ≤ 8) (l12 : 0 ≤ x12) (u12 : x12 ≤ 4) (f0 : x12 ≠ 1) (e7 : S 412 7 = x9) (e5 : (bx_up S 412 7 (x9 + 1)) 427 0 = x10) (e1 : (bx_up (bx_up (bx_up (bx_up S 412 7 (x9 + 1)) 428 x10 1) 429 x10 nm) 427 0 (x10 + 1)) 412 8 = x11) (e0 : (bx_up (bx_up (bx_up (bx_up S 412 7 (x9 + 1)) 428 x10 1) 429 x10 nm) 427 0 (x10 + 1)) 424 x11 = x12) : (True) ∧ (True) ∧ rxIRPDO_5 S0 ws (bx_up (bx_up (bx_up (bx_up S 412 7 (x9 + 1)) 428 x10 1) 429 x10 nm) 427 0 (x10 + 1)) nm ∧ rxmRPDO_5 S0 ws (bx_up (bx_up (bx_up (bx_up S 412 7 (x9 + 1)) 428 x10 1) 429 x10 nm) 427 0 (x10 + 1)) nm < rxmRPDO_2 S0 ws S nm := by
  obtain ⟨hI, hx⟩ := hinv
  obtain ⟨a_, b_, c_, d_⟩ := rxcRPDK_2_0 hP hin I0 hI l8 u8 l9 u9 l10 u10 l11 u11 l12 u12 f0 e7 e5 e1 e0
  exact ⟨a_, b_, ⟨c_, (by
    intro hp
    exact (rkPO_up (q := 427) (by decide +kernel) (by omega) (rkPO_up (q := 429) (by decide +kernel) (fun g => absurd g.1 (by decide)) (rkPO_up (q := 428) (by decide +kernel) (fun g => absurd g.1 (by decide)) (rkPO_up (q := 412) (by decide +kernel) (fun g => absurd g.1 (by decide)) (hx hp))))))⟩, d_⟩
theorem rxgRPDO_2_0 {X : (Nat → Int → Int) → Prop} {S0 : Nat → Int → Int} {ws : List Int} (hP : rxPRPDO S0 ws) : bx_obC rxL X S0 rxCRPDO.2.2.1 (rxIRPDO S0 ws) (rxmRPDO S0 ws) 2 rxzRPDO_2 rxoRPDO_2_0 := by
  intro S S_p r r_p hinv hX hin hsm_ hseg
  obtain ⟨I0, I1, h0_, hr_, b_, f_, d_⟩ := bx_cl (evs := [(0, (0, 424), (11, 0), .inr (0, (12, 0))), (0, (0, 412), (0, 8), .inr (0, (11, 0))), (1, (0, 427), (0, 0), .inr (0, (10, 1))), (1, (0, 429), (10, 0), .inr (0, (8, 0))), (1, (0, 428), (10, 0), .inr (0, (0, 1))), (0, (0, 427), (0, 0), .inr (0, (10, 0))), (1, (0, 412), (0, 7), .inr (0, (9, 1))), (0, (0, 412), (0, 7), .inr (0, (9, 0)))]) (fvs := [(3, (12, 0), (0, 1), (0, 0))]) hseg (by decide +kernel) (by decide +kernel)
  have hinv : rxIRPDO_2 S0 ws S (r 8) := hinv
  rw [← hr_ 8 (by decide)] at hinv
  obtain ⟨⟨l8, u8⟩, ⟨l9, u9⟩, ⟨l10, u10⟩, ⟨l11, u11⟩, ⟨l12, u12⟩, -⟩ := b_
  obtain ⟨f0, -⟩ := f_
  obtain ⟨e0, ⟨e1, ⟨T2, ⟨T3, ⟨T4, ⟨e5, ⟨T6, ⟨e7, w_⟩, w6⟩⟩, w4⟩, w3⟩, w2⟩⟩⟩ := d_
  subst w2
  subst w3
  subst w4
  subst w6
  subst w_
  have g := rxcRPDO_2_0 hP hin I0 hinv l8 u8 l9 u9 l10 u10 l11 u11 l12 u12 f0 e7 e5 e1 e0
  refine ⟨bx_narP_ok (l := []) g.1, bx_nfP_ok h0_ (fvs := []) (by decide +kernel) g.2.1, ?_, ?_⟩
  · show rxIRPDO_5 S0 ws (bx_up (bx_up (bx_up (bx_up T6 412 (7) (r_p 9 + 1)) 428 (r_p 10) (1)) 429 (r_p 10) (r_p 8)) 427 (0) (r_p 10 + 1)) (bx_val [(0, 0), (0, 0), (0, 0), (0, 0), (0, 0), (0, 0), (0, 0), (0, 0), (8, 0)] r_p 8)
    rw [bx_val_x (n := 8) (e := (8, 0)) h0_ rfl]
    exact g.2.2.1
  · show rxmRPDO_5 S0 ws (bx_up (bx_up (bx_up (bx_up T6 412 (7) (r_p 9 + 1)) 428 (r_p 10) (1)) 429 (r_p 10) (r_p 8)) 427 (0) (r_p 10 + 1)) (bx_val [(0, 0), (0, 0), (0, 0), (0, 0), (0, 0), (0, 0), (0, 0), (0, 0), (8, 0)] r_p 8) < rxmRPDO_2 S0 ws T6 (r 8)
    rw [bx_val_x (n := 8) (e := (8, 0)) h0_ rfl, ← hr_ 8 (by decide)]
    exact g.2.2.2
theorem rxcRPDO_2_1 {S0 : Nat → Int → Int} {ws : List Int} {S : Nat → Int → Int} {nm x9 x10 x11 x12 : Int} (hP : rxPRPDO S0 ws) (hin : bx_same rxL (bx_mdl rxCRPDO.2.2.1) S0 S) (I0 : bx_Inv rxL S) (hinv : rxIRPDO_2 S0 ws S nm) (l8 : 0 ≤ nm) (u8 : nm ≤ 1000) (l9 : 0 ≤ x9) (u9 : x9 ≤ 49) (l10 : 0 ≤ x10) (u10 : x10 ≤ 399) (l11 : 0 ≤ x11) (u11 : x11 ≤ 8) (l12 : 1 ≤ x12) (u12 : x12 ≤ 1) (e8 : S 412 7 = x9) (e6 : (bx_up S 412 7 (x9 + 1)) 427 0 = x10) (e2 : (bx_up (bx_up (bx_up (bx_up S 412 7 (x9 + 1)) 428 x10 1) 429 x10 nm) 427 0 (x10 + 1)) 412 8 = x11) (e1 : (bx_up (bx_up (bx_up (bx_up S 412 7 (x9 + 1)) 428 x10 1) 429 x10 nm) 427 0 (x10 + 1)) 424 x11 = x12) : (True) ∧ (True) ∧ rxIRPDO_5 S0 ws (bx_up (bx_up (bx_up (bx_up (bx_up S 412 7 (x9 + 1)) 428 x10 1) 429 x10 nm) 427 0 (x10 + 1)) 424 x11 2) nm ∧ rxmRPDO_5 S0 ws (bx_up (bx_up (bx_up (bx_up (bx_up S 412 7 (x9 + 1)) 428 x10 1) 429 x10 nm) 427 0 (x10 + 1)) 424 x11 2) nm < rxmRPDO_2 S0 ws S nm := by
  obtain ⟨hI, hx⟩ := hinv
  obtain ⟨a_, b_, c_, d_⟩ := rxcRPDK_2_1 hP hin I0 hI l8 u8 l9 u9 l10 u10 l11 u11 l12 u12 e8 e6 e2 e1
  exact ⟨a_, b_, ⟨c_, (by
    intro hp
    exact (rkPO_up (q := 424) (by decide +kernel) (fun g => absurd g.1 (by decide)) (rkPO_up (q := 427) (by decide +kernel) (by omega) (rkPO_up (q := 429) (by decide +kernel) (fun g => absurd g.1 (by decide)) (rkPO_up (q := 428) (by decide +kernel) (fun g => absurd g.1 (by decide)) (rkPO_up (q := 412) (by decide +kernel) (fun g => absurd g.1 (by decide)) (hx hp)))))))⟩, d_⟩
theorem rxgRPDO_2_1 {X : (Nat → Int → Int) → Prop} {S0 : Nat → Int → Int} {ws : List Int} (hP : rxPRPDO S0 ws) : bx_obC rxL X S0 rxCRPDO.2.2.1 (rxIRPDO S0 ws) (rxmRPDO S0 ws) 2 rxzRPDO_2 rxoRPDO_2_1 := by
  intro S S_p r r_p hinv hX hin hsm_ hseg
  obtain ⟨I0, I1, h0_, hr_, b_, f_, d_⟩ := bx_cl (evs := [(1, (0, 424), (11, 0), .inr (0, (0, 2))), (0, (0, 424), (11, 0), .inr (0, (12, 0))), (0, (0, 412), (0, 8), .inr (0, (11, 0))), (1, (0, 427), (0, 0), .inr (0, (10, 1))), (1, (0, 429), (10, 0), .inr (0, (8, 0))), (1, (0, 428), (10, 0), .inr (0, (0, 1))), (0, (0, 427), (0, 0), .inr (0, (10, 0))), (1, (0, 412), (0, 7), .inr (0, (9, 1))), (0, (0, 412), (0, 7), .inr (0, (9, 0)))]) (fvs := []) hseg (by decide +kernel) (by decide +kernel)
  have hinv : rxIRPDO_2 S0 ws S (r 8) := hinv
  rw [← hr_ 8 (by decide)] at hinv
  obtain ⟨⟨l8, u8⟩, ⟨l9, u9⟩, ⟨l10, u10⟩, ⟨l11, u11⟩, ⟨l12, u12⟩, -⟩ := b_
  obtain ⟨T0, ⟨e1, ⟨e2, ⟨T3, ⟨T4, ⟨T5, ⟨e6, ⟨T7, ⟨e8, w_⟩, w7⟩⟩, w5⟩, w4⟩, w3⟩⟩⟩, w0⟩ := d_
  subst w0
  subst w3
  subst w4
  subst w5
  subst w7
  subst w_
  have g := rxcRPDO_2_1 hP hin I0 hinv l8 u8 l9 u9 l10 u10 l11 u11 l12 u12 e8 e6 e2 e1
  refine ⟨bx_narP_ok (l := []) g.1, bx_nfP_ok h0_ (fvs := []) (by decide +kernel) g.2.1, ?_, ?_⟩
  · show rxIRPDO_5 S0 ws (bx_up (bx_up (bx_up (bx_up (bx_up T7 412 (7) (r_p 9 + 1)) 428 (r_p 10) (1)) 429 (r_p 10) (r_p 8)) 427 (0) (r_p 10 + 1)) 424 (r_p 11) (2)) (bx_val [(0, 0), (0, 0), (0, 0), (0, 0), (0, 0), (0, 0), (0, 0), (0, 0), (8, 0)] r_p 8)
    rw [bx_val_x (n := 8) (e := (8, 0)) h0_ rfl]
    exact g.2.2.1
  · show rxmRPDO_5 S0 ws (bx_up (bx_up (bx_up (bx_up (bx_up T7 412 (7) (r_p 9 + 1)) 428 (r_p 10) (1)) 429 (r_p 10) (r_p 8)) 427 (0) (r_p 10 + 1)) 424 (r_p 11) (2)) (bx_val [(0, 0), (0, 0), (0, 0), (0, 0), (0, 0), (0, 0), (0, 0), (0, 0), (8, 0)] r_p 8) < rxmRPDO_2 S0 ws T7 (r 8)
    rw [bx_val_x (n := 8) (e := (8, 0)) h0_ rfl, ← hr_ 8 (by decide)]
    exact g.2.2.2
theorem rxcRPDO_2_2 {S0 : Nat → Int → Int} {ws : List Int} {S : Nat → Int → Int} {nm x9 x10 x11 : Int} (hP : rxPRPDO S0 ws) (hin : bx_same rxL (bx_mdl rxCRPDO.2.2.1) S0 S) (I0 : bx_Inv rxL S) (hinv : rxIRPDO_2 S0 ws S nm) (l8 : 0 ≤ nm) (u8 : nm ≤ 1000) (l9 : 0 ≤ x9) (u9 : x9 ≤ 49) (l10 : 0 ≤ x10) (u10 : x10 ≤ 399) (l11 : 9 ≤ x11) (u11 : x11 ≤ 2147483647) (e6 : S 412 7 = x9) (e4 : (bx_up S 412 7 (x9 + 1)) 427 0 = x10) (e0 : (bx_up (bx_up (bx_up (bx_up S 412 7 (x9 + 1)) 428 x10 1) 429 x10 nm) 427 0 (x10 + 1)) 412 8 = x11) : (True) ∧ (True) ∧ rxIRPDO_5 S0 ws (bx_up (bx_up (bx_up (bx_up S 412 7 (x9 + 1)) 428 x10 1) 429 x10 nm) 427 0 (x10 + 1)) nm ∧ rxmRPDO_5 S0 ws (bx_up (bx_up (bx_up (bx_up S 412 7 (x9 + 1)) 428 x10 1) 429 x10 nm) 427 0 (x10 + 1)) nm < rxmRPDO_2 S0 ws S nm := by
  obtain ⟨hI, hx⟩ := hinv
  obtain ⟨a_, b_, c_, d_⟩ := rxcRPDK_2_2 hP hin I0 hI l8 u8 l9 u9 l10 u10 l11 u11 e6 e4 e0
  exact ⟨a_, b_, ⟨c_, (by
    intro hp
    exact (rkPO_up (q := 427) (by decide +kernel) (by omega) (rkPO_up (q := 429) (by decide +kernel) (fun g => absurd g.1 (by decide)) (rkPO_up (q := 428) (by decide +kernel) (fun g => absurd g.1 (by decide)) (rkPO_up (q := 412) (by decide +kernel) (fun g => absurd g.1 (by decide)) (hx hp))))))⟩, d_⟩
theorem rxgRPDO_2_2 {X : (Nat → Int → Int) → Prop} {S0 : Nat → Int → Int} {ws : List Int} (hP : rxPRPDO S0 ws) : bx_obC rxL X S0 rxCRPDO.2.2.1 (rxIRPDO S0 ws) (rxmRPDO S0 ws) 2 rxzRPDO_2 rxoRPDO_2_2 := by
  intro S S_p r r_p hinv hX hin hsm_ hseg
  obtain ⟨I0, I1, h0_, hr_, b_, f_, d_⟩ := bx_cl (evs := [(0, (0, 412), (0, 8), .inr (0, (11, 0))), (1, (0, 427), (0, 0), .inr (0, (10, 1))), (1, (0, 429), (10, 0), .inr (0, (8, 0))), (1, (0, 428), (10, 0), .inr (0, (0, 1))), (0, (0, 427), (0, 0), .inr (0, (10, 0))), (1, (0, 412), (0, 7), .inr (0, (9, 1))), (0, (0, 412), (0, 7), .inr (0, (9, 0)))]) (fvs := []) hseg (by decide +kernel) (by decide +kernel)
  have hinv : rxIRPDO_2 S0 ws S (r 8) := hinv
  rw [← hr_ 8 (by decide)] at hinv
  obtain ⟨⟨l8, u8⟩, ⟨l9, u9⟩, ⟨l10, u10⟩, ⟨l11, u11⟩, -⟩ := b_
  obtain ⟨e0, ⟨T1, ⟨T2, ⟨T3, ⟨e4, ⟨T5, ⟨e6, w_⟩, w5⟩⟩, w3⟩, w2⟩, w1⟩⟩ := d_
  subst w1
  subst w2
  subst w3
  subst w5
  subst w_
  have g := rxcRPDO_2_2 hP hin I0 hinv l8 u8 l9 u9 l10 u10 l11 u11 e6 e4 e0
  refine ⟨bx_narP_ok (l := []) g.1, bx_nfP_ok h0_ (fvs := []) (by decide +kernel) g.2.1, ?_, ?_⟩
  · show rxIRPDO_5 S0 ws (bx_up (bx_up (bx_up (bx_up T5 412 (7) (r_p 9 + 1)) 428 (r_p 10) (1)) 429 (r_p 10) (r_p 8)) 427 (0) (r_p 10 + 1)) (bx_val [(0, 0), (0, 0), (0, 0), (0, 0), (0, 0), (0, 0), (0, 0), (0, 0), (8, 0)] r_p 8)
    rw [bx_val_x (n := 8) (e := (8, 0)) h0_ rfl]
    exact g.2.2.1
  · show rxmRPDO_5 S0 ws (bx_up (bx_up (bx_up (bx_up T5 412 (7) (r_p 9 + 1)) 428 (r_p 10) (1)) 429 (r_p 10) (r_p 8)) 427 (0) (r_p 10 + 1)) (bx_val [(0, 0), (0, 0), (0, 0), (0, 0), (0, 0), (0, 0), (0, 0), (0, 0), (8, 0)] r_p 8) < rxmRPDO_2 S0 ws T5 (r 8)
    rw [bx_val_x (n := 8) (e := (8, 0)) h0_ rfl, ← hr_ 8 (by decide)]
    exact g.2.2.2
theorem rxcRPDO_2_3 {S0 : Nat → Int → Int} {ws : List Int} {S : Nat → Int → Int} {nm x9 x10 x11 : Int} (hP : rxPRPDO S0 ws) (hin : bx_same rxL (bx_mdl rxCRPDO.2.2.1) S0 S) (I0 : bx_Inv rxL S) (hinv : rxIRPDO_2 S0 ws S nm) (l8 : 0 ≤ nm) (u8 : nm ≤ 1000) (l9 : 0 ≤ x9) (u9 : x9 ≤ 49) (l10 : 0 ≤ x10) (u10 : x10 ≤ 399) (l11 : (-2147483648) ≤ x11) (u11 : x11 ≤ (-1)) (e6 : S 412 7 = x9) (e4 : (bx_up S 412 7 (x9 + 1)) 427 0 = x10) (e0 : (bx_up (bx_up (bx_up (bx_up S 412 7 (x9 + 1)) 428 x10 1) 429 x10 nm) 427 0 (x10 + 1)) 412 8 = x11) : (True) ∧ (True) ∧ rxIRPDO_5 S0 ws (bx_up (bx_up (bx_up (bx_up S 412 7 (x9 + 1)) 428 x10 1) 429 x10 nm) 427 0 (x10 + 1)) nm ∧ rxmRPDO_5 S0 ws (bx_up (bx_up (bx_up (bx_up S 412 7 (x9 + 1)) 428 x10 1) 429 x10 nm) 427 0 (x10 + 1)) nm < rxmRPDO_2 S0 ws S nm := by
  obtain ⟨hI, hx⟩ := hinv
  obtain ⟨a_, b_, c_, d_⟩ := rxcRPDK_2_3 hP hin I0 hI l8 u8 l9 u9 l10 u10 l11 u11 e6 e4 e0
  exact ⟨a_, b_, ⟨c_, (by
    intro hp
    exact (rkPO_up (q := 427) (by decide +kernel) (by omega) (rkPO_up (q := 429) (by decide +kernel) (fun g => absurd g.1 (by decide)) (rkPO_up (q := 428) (by decide +kernel) (fun g => absurd g.1 (by decide)) (rkPO_up (q := 412) (by decide +kernel) (fun g => absurd g.1 (by decide)) (hx hp))))))⟩, d_⟩
theorem rxgRPDO_2_3 {X : (Nat → Int → Int) → Prop} {S0 : Nat → Int → Int} {ws : List Int} (hP : rxPRPDO S0 ws) : bx_obC rxL X S0 rxCRPDO.2.2.1 (rxIRPDO S0 ws) (rxmRPDO S0 ws) 2 rxzRPDO_2 rxoRPDO_2_3 := by
  intro S S_p r r_p hinv hX hin hsm_ hseg
  obtain ⟨I0, I1, h0_, hr_, b_, f_, d_⟩ := bx_cl (evs := [(0, (0, 412), (0, 8), .inr (0, (11, 0))), (1, (0, 427), (0, 0), .inr (0, (10, 1))), (1, (0, 429), (10, 0), .inr (0, (8, 0))), (1, (0, 428), (10, 0), .inr (0, (0, 1))), (0, (0, 427), (0, 0), .inr (0, (10, 0))), (1, (0, 412), (0, 7), .inr (0, (9, 1))), (0, (0, 412), (0, 7), .inr (0, (9, 0)))]) (fvs := []) hseg (by decide +kernel) (by decide +kernel)
  have hinv : rxIRPDO_2 S0 ws S (r 8) := hinv
  rw [← hr_ 8 (by decide)] at hinv
  obtain ⟨⟨l8, u8⟩, ⟨l9, u9⟩, ⟨l10, u10⟩, ⟨l11, u11⟩, -⟩ := b_
  obtain ⟨e0, ⟨T1, ⟨T2, ⟨T3, ⟨e4, ⟨T5, ⟨e6, w_⟩, w5⟩⟩, w3⟩, w2⟩, w1⟩⟩ := d_
  subst w1
  subst w2
  subst w3
  subst w5
  subst w_
  have g := rxcRPDO_2_3 hP hin I0 hinv l8 u8 l9 u9 l10 u10 l11 u11 e6 e4 e0
  refine ⟨bx_narP_ok (l := []) g.1, bx_nfP_ok h0_ (fvs := []) (by decide +kernel) g.2.1, ?_, ?_⟩
  · show rxIRPDO_5 S0 ws (bx_up (bx_up (bx_up (bx_up T5 412 (7) (r_p 9 + 1)) 428 (r_p 10) (1)) 429 (r_p 10) (r_p 8)) 427 (0) (r_p 10 + 1)) (bx_val [(0, 0), (0, 0), (0, 0), (0, 0), (0, 0), (0, 0), (0, 0), (0, 0), (8, 0)] r_p 8)
    rw [bx_val_x (n := 8) (e := (8, 0)) h0_ rfl]
    exact g.2.2.1
  · show rxmRPDO_5 S0 ws (bx_up (bx_up (bx_up (bx_up T5 412 (7) (r_p 9 + 1)) 428 (r_p 10) (1)) 429 (r_p 10) (r_p 8)) 427 (0) (r_p 10 + 1)) (bx_val [(0, 0), (0, 0), (0, 0), (0, 0), (0, 0), (0, 0), (0, 0), (0, 0), (8, 0)] r_p 8) < rxmRPDO_2 S0 ws T5 (r 8)
    rw [bx_val_x (n := 8) (e := (8, 0)) h0_ rfl, ← hr_ 8 (by decide)]
    exact g.2.2.2
theorem rxcRPDO_2_4 {S0 : Nat → Int → Int} {ws : List Int} {S : Nat → Int → Int} {nm x9 x10 x11 x12 : Int} (hP : rxPRPDO S0 ws) (hin : bx_same rxL (bx_mdl rxCRPDO.2.2.1) S0 S) (I0 : bx_Inv rxL S) (hinv : rxIRPDO_2 S0 ws S nm) (l8 : 0 ≤ nm) (u8 : nm ≤ 1000) (l9 : 0 ≤ x9) (u9 : x9 ≤ 49) (l10 : 400 ≤ x10) (u10 : x10 ≤ 400) (l11 : 0 ≤ x11) (u11 : x11 ≤ 8) (l12 : 0 ≤ x12) (u12 : x12 ≤ 4) (f0 : x12 ≠ 1) (e4 : S 412 7 = x9) (e2 : (bx_up S 412 7 (x9 + 1)) 427 0 = x10) (e1 : (bx_up S 412 7 (x9 + 1)) 412 8 = x11) (e0 : (bx_up S 412 7 (x9 + 1)) 424 x11 = x12) : (True) ∧ (True) ∧ rxIRPDO_5 S0 ws (bx_up S 412 7 (x9 + 1)) nm ∧ rxmRPDO_5 S0 ws (bx_up S 412 7 (x9 + 1)) nm < rxmRPDO_2 S0 ws S nm := by
  obtain ⟨hI, hx⟩ := hinv
  obtain ⟨a_, b_, c_, d_⟩ := rxcRPDK_2_4 hP hin I0 hI l8 u8 l9 u9 l10 u10 l11 u11 l12 u12 f0 e4 e2 e1 e0
  exact ⟨a_, b_, ⟨c_, (by
    intro hp
    exact (rkPO_up (q := 412) (by decide +kernel) (fun g => absurd g.1 (by decide)) (hx hp)))⟩, d_⟩
theorem rxgRPDO_2_4 {X : (Nat → Int → Int) → Prop} {S0 : Nat → Int → Int} {ws : List Int} (hP : rxPRPDO S0 ws) : bx_obC rxL X S0 rxCRPDO.2.2.1 (rxIRPDO S0 ws) (rxmRPDO S0 ws) 2 rxzRPDO_2 rxoRPDO_2_4 := by
  intro S S_p r r_p hinv hX hin hsm_ hseg
  obtain ⟨I0, I1, h0_, hr_, b_, f_, d_⟩ := bx_cl (evs := [(0, (0, 424), (11, 0), .inr (0, (12, 0))), (0, (0, 412), (0, 8), .inr (0, (11, 0))), (0, (0, 427), (0, 0), .inr (0, (10, 0))), (1, (0, 412), (0, 7), .inr (0, (9, 1))), (0, (0, 412), (0, 7), .inr (0, (9, 0)))]) (fvs := [(3, (12, 0), (0, 1), (0, 0))]) hseg (by decide +kernel) (by decide +kernel)
  have hinv : rxIRPDO_2 S0 ws S (r 8) := hinv
  rw [← hr_ 8 (by decide)] at hinv
  obtain ⟨⟨l8, u8⟩, ⟨l9, u9⟩, ⟨l10, u10⟩, ⟨l11, u11⟩, ⟨l12, u12⟩, -⟩ := b_
  obtain ⟨f0, -⟩ := f_
  obtain ⟨e0, ⟨e1, ⟨e2, ⟨T3, ⟨e4, w_⟩, w3⟩⟩⟩⟩ := d_
  subst w3
  subst w_
  have g := rxcRPDO_2_4 hP hin I0 hinv l8 u8 l9 u9 l10 u10 l11 u11 l12 u12 f0 e4 e2 e1 e0
  refine ⟨bx_narP_ok (l := []) g.1, bx_nfP_ok h0_ (fvs := []) (by decide +kernel) g.2.1, ?_, ?_⟩
  · show rxIRPDO_5 S0 ws (bx_up T3 412 (7) (r_p 9 + 1)) (bx_val [(0, 0), (0, 0), (0, 0), (0, 0), (0, 0), (0, 0), (0, 0), (0, 0), (8, 0)] r_p 8)
    rw [bx_val_x (n := 8) (e := (8, 0)) h0_ rfl]
    exact g.2.2.1
  · show rxmRPDO_5 S0 ws (bx_up T3 412 (7) (r_p 9 + 1)) (bx_val [(0, 0), (0, 0), (0, 0), (0, 0), (0, 0), (0, 0), (0, 0), (0, 0), (8, 0)] r_p 8) < rxmRPDO_2 S0 ws T3 (r 8)
    rw [bx_val_x (n := 8) (e := (8, 0)) h0_ rfl, ← hr_ 8 (by decide)]
    exact g.2.2.2
theorem rxcRPDO_2_5 {S0 : Nat → Int → Int} {ws : List Int} {S : Nat → Int → Int} {nm x9 x10 x11 x12 : Int} (hP : rxPRPDO S0 ws) (hin : bx_same rxL (bx_mdl rxCRPDO.2.2.1) S0 S) (I0 : bx_Inv rxL S) (hinv : rxIRPDO_2 S0 ws S nm) (l8 : 0 ≤ nm) (u8 : nm ≤ 1000) (l9 : 0 ≤ x9) (u9 : x9 ≤ 49) (l10 : 400 ≤ x10) (u10 : x10 ≤ 400) (l11 : 0 ≤ x11) (u11 : x11 ≤ 8) (l12 : 1 ≤ x12) (u12 : x12 ≤ 1) (e5 : S 412 7 = x9) (e3 : (bx_up S 412 7 (x9 + 1)) 427 0 = x10) (e2 : (bx_up S 412 7 (x9 + 1)) 412 8 = x11) (e1 : (bx_up S 412 7 (x9 + 1)) 424 x11 = x12) : (True) ∧ (True) ∧ rxIRPDO_5 S0 ws (bx_up (bx_up S 412 7 (x9 + 1)) 424 x11 2) nm ∧ rxmRPDO_5 S0 ws (bx_up (bx_up S 412 7 (x9 + 1)) 424 x11 2) nm < rxmRPDO_2 S0 ws S nm := by
  obtain ⟨hI, hx⟩ := hinv
  obtain ⟨a_, b_, c_, d_⟩ := rxcRPDK_2_5 hP hin I0 hI l8 u8 l9 u9 l10 u10 l11 u11 l12 u12 e5 e3 e2 e1
  exact ⟨a_, b_, ⟨c_, (by
    intro hp
    exact (rkPO_up (q := 424) (by decide +kernel) (fun g => absurd g.1 (by decide)) (rkPO_up (q := 412) (by decide +kernel) (fun g => absurd g.1 (by decide)) (hx hp))))⟩, d_⟩
theorem rxgRPDO_2_5 {X : (Nat → Int → Int) → Prop} {S0 : Nat → Int → Int} {ws : List Int} (hP : rxPRPDO S0 ws) : bx_obC rxL X S0 rxCRPDO.2.2.1 (rxIRPDO S0 ws) (rxmRPDO S0 ws) 2 rxzRPDO_2 rxoRPDO_2_5 := by
  intro S S_p r r_p hinv hX hin hsm_ hseg
  obtain ⟨I0, I1, h0_, hr_, b_, f_, d_⟩ := bx_cl (evs := [(1, (0, 424), (11, 0), .inr (0, (0, 2))), (0, (0, 424), (11, 0), .inr (0, (12, 0))), (0, (0, 412), (0, 8), .inr (0, (11, 0))), (0, (0, 427), (0, 0), .inr (0, (10, 0))), (1, (0, 412), (0, 7), .inr (0, (9, 1))), (0, (0, 412), (0, 7), .inr (0, (9, 0)))]) (fvs := []) hseg (by decide +kernel) (by decide +kernel)
  have hinv : rxIRPDO_2 S0 ws S (r 8) := hinv
  rw [← hr_ 8 (by decide)] at hinv
  obtain ⟨⟨l8, u8⟩, ⟨l9, u9⟩, ⟨l10, u10⟩, ⟨l11, u11⟩, ⟨l12, u12⟩, -⟩ := b_
  obtain ⟨T0, ⟨e1, ⟨e2, ⟨e3, ⟨T4, ⟨e5, w_⟩, w4⟩⟩⟩⟩, w0⟩ := d_
  subst w0
  subst w4
  subst w_
  have g := rxcRPDO_2_5 hP hin I0 hinv l8 u8 l9 u9 l10 u10 l11 u11 l12 u12 e5 e3 e2 e1
  refine ⟨bx_narP_ok (l := []) g.1, bx_nfP_ok h0_ (fvs := []) (by decide +kernel) g.2.1, ?_, ?_⟩
  · show rxIRPDO_5 S0 ws (bx_up (bx_up T4 412 (7) (r_p 9 + 1)) 424 (r_p 11) (2)) (bx_val [(0, 0), (0, 0), (0, 0), (0, 0), (0, 0), (0, 0), (0, 0), (0, 0), (8, 0)] r_p 8)
    rw [bx_val_x (n := 8) (e := (8, 0)) h0_ rfl]
    exact g.2.2.1
  · show rxmRPDO_5 S0 ws (bx_up (bx_up T4 412 (7) (r_p 9 + 1)) 424 (r_p 11) (2)) (bx_val [(0, 0), (0, 0), (0, 0), (0, 0), (0, 0), (0, 0), (0, 0), (0, 0), (8, 0)] r_p 8) < rxmRPDO_2 S0 ws T4 (r 8)
    rw [bx_val_x (n := 8) (e := (8, 0)) h0_ rfl, ← hr_ 8 (by decide)]
    exact g.2.2.2
theorem rxcRPDO_2_6 {S0 : Nat → Int → Int} {ws : List Int} {S : Nat → Int → Int} {nm x9 x10 x11 : Int} (hP : rxPRPDO S0 ws) (hin : bx_same rxL (bx_mdl rxCRPDO.2.2.1) S0 S) (I0 : bx_Inv rxL S) (hinv : rxIRPDO_2 S0 ws S nm) (l8 : 0 ≤ nm) (u8 : nm ≤ 1000) (l9 : 0 ≤ x9) (u9 : x9 ≤ 49) (l10 : 400 ≤ x10) (u10 : x10 ≤ 400) (l11 : 9 ≤ x11) (u11 : x11 ≤ 2147483647) (e3 : S 412 7 = x9) (e1 : (bx_up S 412 7 (x9 + 1)) 427 0 = x10) (e0 : (bx_up S 412 7 (x9 + 1)) 412 8 = x11) : (True) ∧ (True) ∧ rxIRPDO_5 S0 ws (bx_up S 412 7 (x9 + 1)) nm ∧ rxmRPDO_5 S0 ws (bx_up S 412 7 (x9 + 1)) nm < rxmRPDO_2 S0 ws S nm := by
  obtain ⟨hI, hx⟩ := hinv
  obtain ⟨a_, b_, c_, d_⟩ := rxcRPDK_2_6 hP hin I0 hI l8 u8 l9 u9 l10 u10 l11 u11 e3 e1 e0
  exact ⟨a_, b_, ⟨c_, (by
    intro hp
    exact (rkPO_up (q := 412) (by decide +kernel) (fun g => absurd g.1 (by decide)) (hx hp)))⟩, d_⟩
theorem rxgRPDO_2_6 {X : (Nat → Int → Int) → Prop} {S0 : Nat → Int → Int} {ws : List Int} (hP : rxPRPDO S0 ws) : bx_obC rxL X S0 rxCRPDO.2.2.1 (rxIRPDO S0 ws) (rxmRPDO S0 ws) 2 rxzRPDO_2 rxoRPDO_2_6 := by
  intro S S_p r r_p hinv hX hin hsm_ hseg
  obtain ⟨I0, I1, h0_, hr_, b_, f_, d_⟩ := bx_cl (evs := [(0, (0, 412), (0, 8), .inr (0, (11, 0))), (0, (0, 427), (0, 0), .inr (0, (10, 0))), (1, (0, 412), (0, 7), .inr (0, (9, 1))), (0, (0, 412), (0, 7), .inr (0, (9, 0)))]) (fvs := []) hseg (by decide +kernel) (by decide +kernel)
  have hinv : rxIRPDO_2 S0 ws S (r 8) := hinv
  rw [← hr_ 8 (by decide)] at hinv
  obtain ⟨⟨l8, u8⟩, ⟨l9, u9⟩, ⟨l10, u10⟩, ⟨l11, u11⟩, -⟩ := b_
  obtain ⟨e0, ⟨e1, ⟨T2, ⟨e3, w_⟩, w2⟩⟩⟩ := d_
  subst w2
  subst w_
  have g := rxcRPDO_2_6 hP hin I0 hinv l8 u8 l9 u9 l10 u10 l11 u11 e3 e1 e0
  refine ⟨bx_narP_ok (l := []) g.1, bx_nfP_ok h0_ (fvs := []) (by decide +kernel) g.2.1, ?_, ?_⟩
  · show rxIRPDO_5 S0 ws (bx_up T2 412 (7) (r_p 9 + 1)) (bx_val [(0, 0), (0, 0), (0, 0), (0, 0), (0, 0), (0, 0), (0, 0), (0, 0), (8, 0)] r_p 8)
    rw [bx_val_x (n := 8) (e := (8, 0)) h0_ rfl]
    exact g.2.2.1
  · show rxmRPDO_5 S0 ws (bx_up T2 412 (7) (r_p 9 + 1)) (bx_val [(0, 0), (0, 0), (0, 0), (0, 0), (0, 0), (0, 0), (0, 0), (0, 0), (8, 0)] r_p 8) < rxmRPDO_2 S0 ws T2 (r 8)
    rw [bx_val_x (n := 8) (e := (8, 0)) h0_ rfl, ← hr_ 8 (by decide)]
    exact g.2.2.2
theorem rxcRPDO_2_7 {S0 : Nat → Int → Int} {ws : List Int} {S : Nat → Int → Int} {nm x9 x10 x11 : Int} (hP : rxPRPDO S0 ws) (hin : bx_same rxL (bx_mdl rxCRPDO.2.2.1) S0 S) (I0 : bx_Inv rxL S) (hinv : rxIRPDO_2 S0 ws S nm) (l8 : 0 ≤ nm) (u8 : nm ≤ 1000) (l9 : 0 ≤ x9) (u9 : x9 ≤ 49) (l10 : 400 ≤ x10) (u10 : x10 ≤ 400) (l11 : (-2147483648) ≤ x11) (u11 : x11 ≤ (-1)) (e3 : S 412 7 = x9) (e1 : (bx_up S 412 7 (x9 + 1)) 427 0 = x10) (e0 : (bx_up S 412 7 (x9 + 1)) 412 8 = x11) : (True) ∧ (True) ∧ rxIRPDO_5 S0 ws (bx_up S 412 7 (x9 + 1)) nm ∧ rxmRPDO_5 S0 ws (bx_up S 412 7 (x9 + 1)) nm < rxmRPDO_2 S0 ws S nm := by
  obtain ⟨hI, hx⟩ := hinv
  obtain ⟨a_, b_, c_, d_⟩ := rxcRPDK_2_7 hP hin I0 hI l8 u8 l9 u9 l10 u10 l11 u11 e3 e1 e0
  exact ⟨a_, b_, ⟨c_, (by
    intro hp
    exact (rkPO_up (q := 412) (by decide +kernel) (fun g => absurd g.1 (by decide)) (hx hp)))⟩, d_⟩
theorem rxgRPDO_2_7 {X : (Nat → Int → Int) → Prop} {S0 : Nat → Int → Int} {ws : List Int} (hP : rxPRPDO S0 ws) : bx_obC rxL X S0 rxCRPDO.2.2.1 (rxIRPDO S0 ws) (rxmRPDO S0 ws) 2 rxzRPDO_2 rxoRPDO_2_7 := by
  intro S S_p r r_p hinv hX hin hsm_ hseg
  obtain ⟨I0, I1, h0_, hr_, b_, f_, d_⟩ := bx_cl (evs := [(0, (0, 412), (0, 8), .inr (0, (11, 0))), (0, (0, 427), (0, 0), .inr (0, (10, 0))), (1, (0, 412), (0, 7), .inr (0, (9, 1))), (0, (0, 412), (0, 7), .inr (0, (9, 0)))]) (fvs := []) hseg (by decide +kernel) (by decide +kernel)
  have hinv : rxIRPDO_2 S0 ws S (r 8) := hinv
  rw [← hr_ 8 (by decide)] at hinv
  obtain ⟨⟨l8, u8⟩, ⟨l9, u9⟩, ⟨l10, u10⟩, ⟨l11, u11⟩, -⟩ := b_
  obtain ⟨e0, ⟨e1, ⟨T2, ⟨e3, w_⟩, w2⟩⟩⟩ := d_
  subst w2
  subst w_
  have g := rxcRPDO_2_7 hP hin I0 hinv l8 u8 l9 u9 l10 u10 l11 u11 e3 e1 e0
  refine ⟨bx_narP_ok (l := []) g.1, bx_nfP_ok h0_ (fvs := []) (by decide +kernel) g.2.1, ?_, ?_⟩
  · show rxIRPDO_5 S0 ws (bx_up T2 412 (7) (r_p 9 + 1)) (bx_val [(0, 0), (0, 0), (0, 0), (0, 0), (0, 0), (0, 0), (0, 0), (0, 0), (8, 0)] r_p 8)
    rw [bx_val_x (n := 8) (e := (8, 0)) h0_ rfl]
    exact g.2.2.1
  · show rxmRPDO_5 S0 ws (bx_up T2 412 (7) (r_p 9 + 1)) (bx_val [(0, 0), (0, 0), (0, 0), (0, 0), (0, 0), (0, 0), (0, 0), (0, 0), (8, 0)] r_p 8) < rxmRPDO_2 S0 ws T2 (r 8)
    rw [bx_val_x (n := 8) (e := (8, 0)) h0_ rfl, ← hr_ 8 (by decide)]
    exact g.2.2.2
theorem rxcRPDO_2_8 {S0 : Nat → Int → Int} {ws : List Int} {S : Nat → Int → Int} {nm x9 : Int} (hP : rxPRPDO S0 ws) (hin : bx_same rxL (bx_mdl rxCRPDO.2.2.1) S0 S) (I0 : bx_Inv rxL S) (hinv : rxIRPDO_2 S0 ws S nm) (l8 : (-2147483648) ≤ nm) (u8 : nm ≤ (-1)) (l9 : 0 ≤ x9) (u9 : x9 ≤ 49) (e1 : S 412 7 = x9) : (True) ∧ (True) ∧ rxIRPDO_3 S0 ws (bx_up S 412 7 (x9 + 1)) nm ∧ rxmRPDO_3 S0 ws (bx_up S 412 7 (x9 + 1)) nm < rxmRPDO_2 S0 ws S nm := by
  obtain ⟨hI, hx⟩ := hinv
  obtain ⟨a_, b_, c_, d_⟩ := rxcRPDK_2_8 hP hin I0 hI l8 u8 l9 u9 e1
  exact ⟨a_, b_, ⟨c_, (by
    intro hp
    exact (rkPO_up (q := 412) (by decide +kernel) (fun g => absurd g.1 (by decide)) (hx hp)))⟩, d_⟩
theorem rxgRPDO_2_8 {X : (Nat → Int → Int) → Prop} {S0 : Nat → Int → Int} {ws : List Int} (hP : rxPRPDO S0 ws) : bx_obC rxL X S0 rxCRPDO.2.2.1 (rxIRPDO S0 ws) (rxmRPDO S0 ws) 2 rxzRPDO_2 rxoRPDO_2_8 := by
  intro S S_p r r_p hinv hX hin hsm_ hseg
  obtain ⟨I0, I1, h0_, hr_, b_, f_, d_⟩ := bx_cl (evs := [(1, (0, 412), (0, 7), .inr (0, (9, 1))), (0, (0, 412), (0, 7), .inr (0, (9, 0)))]) (fvs := []) hseg (by decide +kernel) (by decide +kernel)
  have hinv : rxIRPDO_2 S0 ws S (r 8) := hinv
  rw [← hr_ 8 (by decide)] at hinv
  obtain ⟨⟨l8, u8⟩, ⟨l9, u9⟩, -⟩ := b_
  obtain ⟨T0, ⟨e1, w_⟩, w0⟩ := d_
  subst w0
  subst w_
  have g := rxcRPDO_2_8 hP hin I0 hinv l8 u8 l9 u9 e1
  refine ⟨bx_narP_ok (l := []) g.1, bx_nfP_ok h0_ (fvs := []) (by decide +kernel) g.2.1, ?_, ?_⟩
  · show rxIRPDO_3 S0 ws (bx_up T0 412 (7) (r_p 9 + 1)) (bx_val [(0, 0), (0, 0), (0, 0), (0, 0), (0, 0), (0, 0), (0, 0), (0, 0), (8, 0)] r_p 8)
    rw [bx_val_x (n := 8) (e := (8, 0)) h0_ rfl]
    exact g.2.2.1
  · show rxmRPDO_3 S0 ws (bx_up T0 412 (7) (r_p 9 + 1)) (bx_val [(0, 0), (0, 0), (0, 0), (0, 0), (0, 0), (0, 0), (0, 0), (0, 0), (8, 0)] r_p 8) < rxmRPDO_2 S0 ws T0 (r 8)
    rw [bx_val_x (n := 8) (e := (8, 0)) h0_ rfl, ← hr_ 8 (by decide)]
    exact g.2.2.2
theorem rxdRPDO_2_0 {S0 : Nat → Int → Int} {ws : List Int} {S : Nat → Int → Int} {nm x9 x10 : Int} (hP : rxPRPDO S0 ws) (hin : bx_same rxL (bx_mdl rxCRPDO.2.2.1) S0 S) (hin2 : bx_same rxL (bx_mdl rxCRPDO.2.2.1) S (bx_up S 412 4 x10)) (I0 : bx_Inv rxL S) (I1 : bx_Inv rxL (bx_up S 412 4 x10)) (hinv : rxIRPDO_2 S0 ws S nm) (l8 : (-2147483648) ≤ nm) (u8 : nm ≤ 1000) (l9 : 50 ≤ x9) (u9 : x9 ≤ 50) (l10 : 0 ≤ x10) (u10 : x10 ≤ 400) (e2 : S 412 7 = x9) (e1 : S 412 2 = x10) : (True) ∧ rxPSRPDO S0 ws (bx_up S 412 4 x10) (some 0) := by
  obtain ⟨hI, hx⟩ := hinv
  obtain ⟨a_, c_⟩ := rxdRPDK_2_0 hP hin hin2 I0 I1 hI l8 u8 l9 u9 l10 u10 e2 e1
  exact ⟨a_, c_, (by
    intro hp
    exact (rkPO_up (q := 412) (by decide +kernel) (fun g => absurd g.1 (by decide)) (hx hp)))⟩
theorem rxfRPDO_2_0 {X : (Nat → Int → Int) → Prop} {S0 : Nat → Int → Int} {ws : List Int} (hP : rxPRPDO S0 ws) : bx_obE rxL X S0 rxCRPDO.2.2.1 (rxIRPDO S0 ws) (rxPSRPDO S0 ws) 2 rxzRPDO_2 rxeRPDO_2_0 := by
  intro S S_p r r_p hinv hX hin hsm_ hseg
  obtain ⟨I0, I1, h0_, hr_, b_, f_, d_⟩ := bx_cl (evs := [(1, (0, 412), (0, 4), .inr (0, (10, 0))), (0, (0, 412), (0, 2), .inr (0, (10, 0))), (0, (0, 412), (0, 7), .inr (0, (9, 0)))]) (fvs := []) hseg (by decide +kernel) (by decide +kernel)
  have hinv : rxIRPDO_2 S0 ws S (r 8) := hinv
  rw [← hr_ 8 (by decide)] at hinv
  obtain ⟨⟨l8, u8⟩, ⟨l9, u9⟩, ⟨l10, u10⟩, -⟩ := b_
  obtain ⟨T0, ⟨e1, ⟨e2, w_⟩⟩, w0⟩ := d_
  subst w0
  subst w_
  have g := rxdRPDO_2_0 hP hin hsm_ I0 I1 hinv l8 u8 l9 u9 l10 u10 e2 e1
  refine ⟨bx_narP_ok (l := []) g.1, ?_⟩
  show rxPSRPDO S0 ws (bx_up T0 412 (4) (r_p 10)) (some (bx_num r_p (.inr (0, (0, 0)))))
  rw [bx_xv_ok h0_]
  exact g.2
theorem rxdRPDO_2_1 {S0 : Nat → Int → Int} {ws : List Int} {S : Nat → Int → Int} {nm x9 : Int} (hP : rxPRPDO S0 ws) (hin : bx_same rxL (bx_mdl rxCRPDO.2.2.1) S0 S) (hin2 : bx_same rxL (bx_mdl rxCRPDO.2.2.1) S (bx_up S 412 4 x9)) (I0 : bx_Inv rxL S) (I1 : bx_Inv rxL (bx_up S 412 4 x9)) (hinv : rxIRPDO_2 S0 ws S nm) (l8 : 1001 ≤ nm) (u8 : nm ≤ 1001) (l9 : 0 ≤ x9) (u9 : x9 ≤ 400) (e1 : S 412 2 = x9) : (True) ∧ rxPSRPDO S0 ws (bx_up S 412 4 x9) (some 0) := by
  obtain ⟨hI, hx⟩ := hinv
  obtain ⟨a_, c_⟩ := rxdRPDK_2_1 hP hin hin2 I0 I1 hI l8 u8 l9 u9 e1
  exact ⟨a_, c_, (by
    intro hp
    exact (rkPO_up (q := 412) (by decide +kernel) (fun g => absurd g.1 (by decide)) (hx hp)))⟩
theorem rxfRPDO_2_1 {X : (Nat → Int → Int) → Prop} {S0 : Nat → Int → Int} {ws : List Int} (hP : rxPRPDO S0 ws) : bx_obE rxL X S0 rxCRPDO.2.2.1 (rxIRPDO S0 ws) (rxPSRPDO S0 ws) 2 rxzRPDO_2 rxeRPDO_2_1 := by
  intro S S_p r r_p hinv hX hin hsm_ hseg
  obtain ⟨I0, I1, h0_, hr_, b_, f_, d_⟩ := bx_cl (evs := [(1, (0, 412), (0, 4), .inr (0, (9, 0))), (0, (0, 412), (0, 2), .inr (0, (9, 0)))]) (fvs := []) hseg (by decide +kernel) (by decide +kernel)
  have hinv : rxIRPDO_2 S0 ws S (r 8) := hinv
  rw [← hr_ 8 (by decide)] at hinv
  obtain ⟨⟨l8, u8⟩, ⟨l9, u9⟩, -⟩ := b_
  obtain ⟨T0, ⟨e1, w_⟩, w0⟩ := d_
  subst w0
  subst w_
  have g := rxdRPDO_2_1 hP hin hsm_ I0 I1 hinv l8 u8 l9 u9 e1
  refine ⟨bx_narP_ok (l := []) g.1, ?_⟩
  show rxPSRPDO S0 ws (bx_up T0 412 (4) (r_p 9)) (some (bx_num r_p (.inr (0, (0, 0)))))
  rw [bx_xv_ok h0_]
  exact g.2
theorem rxcRPDO_4_0 {S0 : Nat → Int → Int} {ws : List Int} {S : Nat → Int → Int} {nm ix x10 x11 x12 : Int} (hP : rxPRPDO S0 ws) (hin : bx_same rxL (bx_mdl rxCRPDO.2.2.1) S0 S) (I0 : bx_Inv rxL S) (hinv : rxIRPDO_4 S0 ws S nm ix) (l8 : (-2147483648) ≤ nm) (u8 : nm ≤ 1000) (l9 : (-1) ≤ ix) (u9 : ix ≤ 7) (l10 : 0 ≤ x10) (u10 : x10 ≤ 399) (l11 : 0 ≤ x11) (u11 : x11 ≤ 8) (l12 : 0 ≤ x12) (u12 : x12 ≤ 4) (f0 : x12 ≠ 1) (e5 : S 427 0 = x10) (e1 : (bx_up (bx_up (bx_up S 428 x10 2) 429 x10 ix) 427 0 (x10 + 1)) 412 8 = x11) (e0 : (bx_up (bx_up (bx_up S 428 x10 2) 429 x10 ix) 427 0 (x10 + 1)) 424 x11 = x12) : (True) ∧ (True) ∧ rxIRPDO_5 S0 ws (bx_up (bx_up (bx_up S 428 x10 2) 429 x10 ix) 427 0 (x10 + 1)) nm ∧ rxmRPDO_5 S0 ws (bx_up (bx_up (bx_up S 428 x10 2) 429 x10 ix) 427 0 (x10 + 1)) nm < rxmRPDO_4 S0 ws S nm ix := by
  obtain ⟨hI, hx⟩ := hinv
  obtain ⟨a_, b_, c_, d_⟩ := rxcRPDK_4_0 hP hin I0 hI l8 u8 l9 u9 l10 u10 l11 u11 l12 u12 f0 e5 e1 e0
  exact ⟨a_, b_, ⟨c_, (by
    intro hp
    exact (rkPO_up (q := 427) (by decide +kernel) (by omega) (rkPO_up (q := 429) (by decide +kernel) (fun g => absurd g.1 (by decide)) (rkPO_up (q := 428) (by decide +kernel) (fun g => absurd g.1 (by decide)) (hx hp)))))⟩, d_⟩
theorem rxgRPDO_4_0 {X : (Nat → Int → Int) → Prop} {S0 : Nat → Int → Int} {ws : List Int} (hP : rxPRPDO S0 ws) : bx_obC rxL X S0 rxCRPDO.2.2.1 (rxIRPDO S0 ws) (rxmRPDO S0 ws) 4 rxzRPDO_4 rxoRPDO_4_0 := by
  intro S S_p r r_p hinv hX hin hsm_ hseg
  obtain ⟨I0, I1, h0_, hr_, b_, f_, d_⟩ := bx_cl (evs := [(0, (0, 424), (11, 0), .inr (0, (12, 0))), (0, (0, 412), (0, 8), .inr (0, (11, 0))), (1, (0, 427), (0, 0), .inr (0, (10, 1))), (1, (0, 429), (10, 0), .inr (0, (9, 0))), (1, (0, 428), (10, 0), .inr (0, (0, 2))), (0, (0, 427), (0, 0), .inr (0, (10, 0)))]) (fvs := [(3, (12, 0), (0, 1), (0, 0))]) hseg (by decide +kernel) (by decide +kernel)
  have hinv : rxIRPDO_4 S0 ws S (r 8) (r 9) := hinv
  rw [← hr_ 8 (by decide), ← hr_ 9 (by decide)] at hinv
  obtain ⟨⟨l8, u8⟩, ⟨l9, u9⟩, ⟨l10, u10⟩, ⟨l11, u11⟩, ⟨l12, u12⟩, -⟩ := b_
  obtain ⟨f0, -⟩ := f_
  obtain ⟨e0, ⟨e1, ⟨T2, ⟨T3, ⟨T4, ⟨e5, w_⟩, w4⟩, w3⟩, w2⟩⟩⟩ := d_
  subst w2
  subst w3
  subst w4
  subst w_
  have g := rxcRPDO_4_0 hP hin I0 hinv l8 u8 l9 u9 l10 u10 l11 u11 l12 u12 f0 e5 e1 e0
  refine ⟨bx_narP_ok (l := []) g.1, bx_nfP_ok h0_ (fvs := []) (by decide +kernel) g.2.1, ?_, ?_⟩
  · show rxIRPDO_5 S0 ws (bx_up (bx_up (bx_up T4 428 (r_p 10) (2)) 429 (r_p 10) (r_p 9)) 427 (0) (r_p 10 + 1)) (bx_val [(0, 0), (0, 0), (0, 0), (0, 0), (0, 0), (0, 0), (0, 0), (0, 0), (8, 0)] r_p 8)
    rw [bx_val_x (n := 8) (e := (8, 0)) h0_ rfl]
    exact g.2.2.1
  · show rxmRPDO_5 S0 ws (bx_up (bx_up (bx_up T4 428 (r_p 10) (2)) 429 (r_p 10) (r_p 9)) 427 (0) (r_p 10 + 1)) (bx_val [(0, 0), (0, 0), (0, 0), (0, 0), (0, 0), (0, 0), (0, 0), (0, 0), (8, 0)] r_p 8) < rxmRPDO_4 S0 ws T4 (r 8) (r 9)
    rw [bx_val_x (n := 8) (e := (8, 0)) h0_ rfl, ← hr_ 8 (by decide), ← hr_ 9 (by decide)]
    exact g.2.2.2
theorem rxcRPDO_4_1 {S0 : Nat → Int → Int} {ws : List Int} {S : Nat → Int → Int} {nm ix x10 x11 x12 : Int} (hP : rxPRPDO S0 ws) (hin : bx_same rxL (bx_mdl rxCRPDO.2.2.1) S0 S) (I0 : bx_Inv rxL S) (hinv : rxIRPDO_4 S0 ws S nm ix) (l8 : (-2147483648) ≤ nm) (u8 : nm ≤ 1000) (l9 : (-1) ≤ ix) (u9 : ix ≤ 7) (l10 : 0 ≤ x10) (u10 : x10 ≤ 399) (l11 : 0 ≤ x11) (u11 : x11 ≤ 8) (l12 : 1 ≤ x12) (u12 : x12 ≤ 1) (e6 : S 427 0 = x10) (e2 : (bx_up (bx_up (bx_up S 428 x10 2) 429 x10 ix) 427 0 (x10 + 1)) 412 8 = x11) (e1 : (bx_up (bx_up (bx_up S 428 x10 2) 429 x10 ix) 427 0 (x10 + 1)) 424 x11 = x12) : (True) ∧ (True) ∧ rxIRPDO_5 S0 ws (bx_up (bx_up (bx_up (bx_up S 428 x10 2) 429 x10 ix) 427 0 (x10 + 1)) 424 x11 2) nm ∧ rxmRPDO_5 S0 ws (bx_up (bx_up (bx_up (bx_up S 428 x10 2) 429 x10 ix) 427 0 (x10 + 1)) 424 x11 2) nm < rxmRPDO_4 S0 ws S nm ix := by
  obtain ⟨hI, hx⟩ := hinv
  obtain ⟨a_, b_, c_, d_⟩ := rxcRPDK_4_1 hP hin I0 hI l8 u8 l9 u9 l10 u10 l11 u11 l12 u12 e6 e2 e1
  exact ⟨a_, b_, ⟨c_, (by
    intro hp
    exact (rkPO_up (q := 424) (by decide +kernel) (fun g => absurd g.1 (by decide)) (rkPO_up (q := 427) (by decide +kernel) (by omega) (rkPO_up (q := 429) (by decide +kernel) (fun g => absurd g.1 (by decide)) (rkPO_up (q := 428) (by decide +kernel) (fun g => absurd g.1 (by decide)) (hx hp))))))⟩, d_⟩
theorem rxgRPDO_4_1 {X : (Nat → Int → Int) → Prop} {S0 : Nat → Int → Int} {ws : List Int} (hP : rxPRPDO S0 ws) : bx_obC rxL X S0 rxCRPDO.2.2.1 (rxIRPDO S0 ws) (rxmRPDO S0 ws) 4 rxzRPDO_4 rxoRPDO_4_1 := by
  intro S S_p r r_p hinv hX hin hsm_ hseg
  obtain ⟨I0, I1, h0_, hr_, b_, f_, d_⟩ := bx_cl (evs := [(1, (0, 424), (11, 0), .inr (0, (0, 2))), (0, (0, 424), (11, 0), .inr (0, (12, 0))), (0, (0, 412), (0, 8), .inr (0, (11, 0))), (1, (0, 427), (0, 0), .inr (0, (10, 1))), (1, (0, 429), (10, 0), .inr (0, (9, 0))), (1, (0, 428), (10, 0), .inr (0, (0, 2))), (0, (0, 427), (0, 0), .inr (0, (10, 0)))]) (fvs := []) hseg (by decide +kernel) (by decide +kernel)
  have hinv : rxIRPDO_4 S0 ws S (r 8) (r 9) := hinv
  rw [← hr_ 8 (by decide), ← hr_ 9 (by decide)] at hinv
  obtain ⟨⟨l8, u8⟩, ⟨l9, u9⟩, ⟨l10, u10⟩, ⟨l11, u11⟩, ⟨l12, u12⟩, -⟩ := b_
  obtain ⟨T0, ⟨e1, ⟨e2, ⟨T3, ⟨T4, ⟨T5, ⟨e6, w_⟩, w5⟩, w4⟩, w3⟩⟩⟩, w0⟩ := d_
  subst w0
  subst w3
  subst w4
  subst w5
  subst w_
  have g := rxcRPDO_4_1 hP hin I0 hinv l8 u8 l9 u9 l10 u10 l11 u11 l12 u12 e6 e2 e1
  refine ⟨bx_narP_ok (l := []) g.1, bx_nfP_ok h0_ (fvs := []) (by decide +kernel) g.2.1, ?_, ?_⟩
  · show rxIRPDO_5 S0 ws (bx_up (bx_up (bx_up (bx_up T5 428 (r_p 10) (2)) 429 (r_p 10) (r_p 9)) 427 (0) (r_p 10 + 1)) 424 (r_p 11) (2)) (bx_val [(0, 0), (0, 0), (0, 0), (0, 0), (0, 0), (0, 0), (0, 0), (0, 0), (8, 0)] r_p 8)
    rw [bx_val_x (n := 8) (e := (8, 0)) h0_ rfl]
    exact g.2.2.1
  · show rxmRPDO_5 S0 ws (bx_up (bx_up (bx_up (bx_up T5 428 (r_p 10) (2)) 429 (r_p 10) (r_p 9)) 427 (0) (r_p 10 + 1)) 424 (r_p 11) (2)) (bx_val [(0, 0), (0, 0), (0, 0), (0, 0), (0, 0), (0, 0), (0, 0), (0, 0), (8, 0)] r_p 8) < rxmRPDO_4 S0 ws T5 (r 8) (r 9)
    rw [bx_val_x (n := 8) (e := (8, 0)) h0_ rfl, ← hr_ 8 (by decide), ← hr_ 9 (by decide)]
    exact g.2.2.2
theorem rxcRPDO_4_2 {S0 : Nat → Int → Int} {ws : List Int} {S : Nat → Int → Int} {nm ix x10 x11 : Int} (hP : rxPRPDO S0 ws) (hin : bx_same rxL (bx_mdl rxCRPDO.2.2.1) S0 S) (I0 : bx_Inv rxL S) (hinv : rxIRPDO_4 S0 ws S nm ix) (l8 : (-2147483648) ≤ nm) (u8 : nm ≤ 1000) (l9 : (-1) ≤ ix) (u9 : ix ≤ 7) (l10 : 0 ≤ x10) (u10 : x10 ≤ 399) (l11 : 9 ≤ x11) (u11 : x11 ≤ 2147483647) (e4 : S 427 0 = x10) (e0 : (bx_up (bx_up (bx_up S 428 x10 2) 429 x10 ix) 427 0 (x10 + 1)) 412 8 = x11) : (True) ∧ (True) ∧ rxIRPDO_5 S0 ws (bx_up (bx_up (bx_up S 428 x10 2) 429 x10 ix) 427 0 (x10 + 1)) nm ∧ rxmRPDO_5 S0 ws (bx_up (bx_up (bx_up S 428 x10 2) 429 x10 ix) 427 0 (x10 + 1)) nm < rxmRPDO_4 S0 ws S nm ix := by
  obtain ⟨hI, hx⟩ := hinv
  obtain ⟨a_, b_, c_, d_⟩ := rxcRPDK_4_2 hP hin I0 hI l8 u8 l9 u9 l10 u10 l11 u11 e4 e0
  exact ⟨a_, b_, ⟨c_, (by
    intro hp
    exact (rkPO_up (q := 427) (by decide +kernel) (by omega) (rkPO_up (q := 429) (by decide +kernel) (fun g => absurd g.1 (by decide)) (rkPO_up (q := 428) (by decide +kernel) (fun g => absurd g.1 (by decide)) (hx hp)))))⟩, d_⟩
theorem rxgRPDO_4_2 {X : (Nat → Int → Int) → Prop} {S0 : Nat → Int → Int} {ws : List Int} (hP : rxPRPDO S0 ws) : bx_obC rxL X S0 rxCRPDO.2.2.1 (rxIRPDO S0 ws) (rxmRPDO S0 ws) 4 rxzRPDO_4 rxoRPDO_4_2 := by
  intro S S_p r r_p hinv hX hin hsm_ hseg
  obtain ⟨I0, I1, h0_, hr_, b_, f_, d_⟩ := bx_cl (evs := [(0, (0, 412), (0, 8), .inr (0, (11, 0))), (1, (0, 427), (0, 0), .inr (0, (10, 1))), (1, (0, 429), (10, 0), .inr (0, (9, 0))), (1, (0, 428), (10, 0), .inr (0, (0, 2))), (0, (0, 427), (0, 0), .inr (0, (10, 0)))]) (fvs := []) hseg (by decide +kernel) (by decide +kernel)
  have hinv : rxIRPDO_4 S0 ws S (r 8) (r 9) := hinv
  rw [← hr_ 8 (by decide), ← hr_ 9 (by decide)] at hinv
  obtain ⟨⟨l8, u8⟩, ⟨l9, u9⟩, ⟨l10, u10⟩, ⟨l11, u11⟩, -⟩ := b_
  obtain ⟨e0, ⟨T1, ⟨T2, ⟨T3, ⟨e4, w_⟩, w3⟩, w2⟩, w1⟩⟩ := d_
  subst w1
  subst w2
  subst w3
  subst w_
  have g := rxcRPDO_4_2 hP hin I0 hinv l8 u8 l9 u9 l10 u10 l11 u11 e4 e0
  refine ⟨bx_narP_ok (l := []) g.1, bx_nfP_ok h0_ (fvs := []) (by decide +kernel) g.2.1, ?_, ?_⟩
  · show rxIRPDO_5 S0 ws (bx_up (bx_up (bx_up T3 428 (r_p 10) (2)) 429 (r_p 10) (r_p 9)) 427 (0) (r_p 10 + 1)) (bx_val [(0, 0), (0, 0), (0, 0), (0, 0), (0, 0), (0, 0), (0, 0), (0, 0), (8, 0)] r_p 8)
    rw [bx_val_x (n := 8) (e := (8, 0)) h0_ rfl]
    exact g.2.2.1
  · show rxmRPDO_5 S0 ws (bx_up (bx_up (bx_up T3 428 (r_p 10) (2)) 429 (r_p 10) (r_p 9)) 427 (0) (r_p 10 + 1)) (bx_val [(0, 0), (0, 0), (0, 0), (0, 0), (0, 0), (0, 0), (0, 0), (0, 0), (8, 0)] r_p 8) < rxmRPDO_4 S0 ws T3 (r 8) (r 9)
    rw [bx_val_x (n := 8) (e := (8, 0)) h0_ rfl, ← hr_ 8 (by decide), ← hr_ 9 (by decide)]
    exact g.2.2.2
theorem rxcRPDO_4_3 {S0 : Nat → Int → Int} {ws : List Int} {S : Nat → Int → Int} {nm ix x10 x11 : Int} (hP : rxPRPDO S0 ws) (hin : bx_same rxL (bx_mdl rxCRPDO.2.2.1) S0 S) (I0 : bx_Inv rxL S) (hinv : rxIRPDO_4 S0 ws S nm ix) (l8 : (-2147483648) ≤ nm) (u8 : nm ≤ 1000) (l9 : (-1) ≤ ix) (u9 : ix ≤ 7) (l10 : 0 ≤ x10) (u10 : x10 ≤ 399) (l11 : (-2147483648) ≤ x11) (u11 : x11 ≤ (-1)) (e4 : S 427 0 = x10) (e0 : (bx_up (bx_up (bx_up S 428 x10 2) 429 x10 ix) 427 0 (x10 + 1)) 412 8 = x11) : (True) ∧ (True) ∧ rxIRPDO_5 S0 ws (bx_up (bx_up (bx_up S 428 x10 2) 429 x10 ix) 427 0 (x10 + 1)) nm ∧ rxmRPDO_5 S0 ws (bx_up (bx_up (bx_up S 428 x10 2) 429 x10 ix) 427 0 (x10 + 1)) nm < rxmRPDO_4 S0 ws S nm ix := by
  obtain ⟨hI, hx⟩ := hinv
  obtain ⟨a_, b_, c_, d_⟩ := rxcRPDK_4_3 hP hin I0 hI l8 u8 l9 u9 l10 u10 l11 u11 e4 e0
  exact ⟨a_, b_, ⟨c_, (by
    intro hp
    exact (rkPO_up (q := 427) (by decide +kernel) (by omega) (rkPO_up (q := 429) (by decide +kernel) (fun g => absurd g.1 (by decide)) (rkPO_up (q := 428) (by decide +kernel) (fun g => absurd g.1 (by decide)) (hx hp)))))⟩, d_⟩
theorem rxgRPDO_4_3 {X : (Nat → Int → Int) → Prop} {S0 : Nat → Int → Int} {ws : List Int} (hP : rxPRPDO S0 ws) : bx_obC rxL X S0 rxCRPDO.2.2.1 (rxIRPDO S0 ws) (rxmRPDO S0 ws) 4 rxzRPDO_4 rxoRPDO_4_3 := by
  intro S S_p r r_p hinv hX hin hsm_ hseg
  obtain ⟨I0, I1, h0_, hr_, b_, f_, d_⟩ := bx_cl (evs := [(0, (0, 412), (0, 8), .inr (0, (11, 0))), (1, (0, 427), (0, 0), .inr (0, (10, 1))), (1, (0, 429), (10, 0), .inr (0, (9, 0))), (1, (0, 428), (10, 0), .inr (0, (0, 2))), (0, (0, 427), (0, 0), .inr (0, (10, 0)))]) (fvs := []) hseg (by decide +kernel) (by decide +kernel)
  have hinv : rxIRPDO_4 S0 ws S (r 8) (r 9) := hinv
  rw [← hr_ 8 (by decide), ← hr_ 9 (by decide)] at hinv
  obtain ⟨⟨l8, u8⟩, ⟨l9, u9⟩, ⟨l10, u10⟩, ⟨l11, u11⟩, -⟩ := b_
  obtain ⟨e0, ⟨T1, ⟨T2, ⟨T3, ⟨e4, w_⟩, w3⟩, w2⟩, w1⟩⟩ := d_
  subst w1
  subst w2
  subst w3
  subst w_
  have g := rxcRPDO_4_3 hP hin I0 hinv l8 u8 l9 u9 l10 u10 l11 u11 e4 e0
  refine ⟨bx_narP_ok (l := []) g.1, bx_nfP_ok h0_ (fvs := []) (by decide +kernel) g.2.1, ?_, ?_⟩
  · show rxIRPDO_5 S0 ws (bx_up (bx_up (bx_up T3 428 (r_p 10) (2)) 429 (r_p 10) (r_p 9)) 427 (0) (r_p 10 + 1)) (bx_val [(0, 0), (0, 0), (0, 0), (0, 0), (0, 0), (0, 0), (0, 0), (0, 0), (8, 0)] r_p 8)
    rw [bx_val_x (n := 8) (e := (8, 0)) h0_ rfl]
    exact g.2.2.1
  · show rxmRPDO_5 S0 ws (bx_up (bx_up (bx_up T3 428 (r_p 10) (2)) 429 (r_p 10) (r_p 9)) 427 (0) (r_p 10 + 1)) (bx_val [(0, 0), (0, 0), (0, 0), (0, 0), (0, 0), (0, 0), (0, 0), (0, 0), (8, 0)] r_p 8) < rxmRPDO_4 S0 ws T3 (r 8) (r 9)
    rw [bx_val_x (n := 8) (e := (8, 0)) h0_ rfl, ← hr_ 8 (by decide), ← hr_ 9 (by decide)]
    exact g.2.2.2
theorem rxcRPDO_4_4 {S0 : Nat → Int → Int} {ws : List Int} {S : Nat → Int → Int} {nm ix x10 x11 x12 : Int} (hP : rxPRPDO S0 ws) (hin : bx_same rxL (bx_mdl rxCRPDO.2.2.1) S0 S) (I0 : bx_Inv rxL S) (hinv : rxIRPDO_4 S0 ws S nm ix) (l8 : (-2147483648) ≤ nm) (u8 : nm ≤ 1000) (l9 : (-1) ≤ ix) (u9 : ix ≤ 7) (l10 : 400 ≤ x10) (u10 : x10 ≤ 400) (l11 : 0 ≤ x11) (u11 : x11 ≤ 8) (l12 : 0 ≤ x12) (u12 : x12 ≤ 4) (f0 : x12 ≠ 1) (e2 : S 427 0 = x10) (e1 : S 412 8 = x11) (e0 : S 424 x11 = x12) : (True) ∧ (True) ∧ rxIRPDO_5 S0 ws S nm ∧ rxmRPDO_5 S0 ws S nm < rxmRPDO_4 S0 ws S nm ix := by
  obtain ⟨hI, hx⟩ := hinv
  obtain ⟨a_, b_, c_, d_⟩ := rxcRPDK_4_4 hP hin I0 hI l8 u8 l9 u9 l10 u10 l11 u11 l12 u12 f0 e2 e1 e0
  exact ⟨a_, b_, ⟨c_, hx⟩, d_⟩
theorem rxgRPDO_4_4 {X : (Nat → Int → Int) → Prop} {S0 : Nat → Int → Int} {ws : List Int} (hP : rxPRPDO S0 ws) : bx_obC rxL X S0 rxCRPDO.2.2.1 (rxIRPDO S0 ws) (rxmRPDO S0 ws) 4 rxzRPDO_4 rxoRPDO_4_4 := by
  intro S S_p r r_p hinv hX hin hsm_ hseg
  obtain ⟨I0, I1, h0_, hr_, b_, f_, d_⟩ := bx_cl (evs := [(0, (0, 424), (11, 0), .inr (0, (12, 0))), (0, (0, 412), (0, 8), .inr (0, (11, 0))), (0, (0, 427), (0, 0), .inr (0, (10, 0)))]) (fvs := [(3, (12, 0), (0, 1), (0, 0))]) hseg (by decide +kernel) (by decide +kernel)
  have hinv : rxIRPDO_4 S0 ws S (r 8) (r 9) := hinv
  rw [← hr_ 8 (by decide), ← hr_ 9 (by decide)] at hinv
  obtain ⟨⟨l8, u8⟩, ⟨l9, u9⟩, ⟨l10, u10⟩, ⟨l11, u11⟩, ⟨l12, u12⟩, -⟩ := b_
  obtain ⟨f0, -⟩ := f_
  obtain ⟨e0, ⟨e1, ⟨e2, w_⟩⟩⟩ := d_
  subst w_
  have g := rxcRPDO_4_4 hP hin I0 hinv l8 u8 l9 u9 l10 u10 l11 u11 l12 u12 f0 e2 e1 e0
  refine ⟨bx_narP_ok (l := []) g.1, bx_nfP_ok h0_ (fvs := []) (by decide +kernel) g.2.1, ?_, ?_⟩
  · show rxIRPDO_5 S0 ws S_p (bx_val [(0, 0), (0, 0), (0, 0), (0, 0), (0, 0), (0, 0), (0, 0), (0, 0), (8, 0)] r_p 8)
    rw [bx_val_x (n := 8) (e := (8, 0)) h0_ rfl]
    exact g.2.2.1
  · show rxmRPDO_5 S0 ws S_p (bx_val [(0, 0), (0, 0), (0, 0), (0, 0), (0, 0), (0, 0), (0, 0), (0, 0), (8, 0)] r_p 8) < rxmRPDO_4 S0 ws S_p (r 8) (r 9)
    rw [bx_val_x (n := 8) (e := (8, 0)) h0_ rfl, ← hr_ 8 (by decide), ← hr_ 9 (by decide)]
    exact g.2.2.2
theorem rxcRPDO_4_5 {S0 : Nat → Int → Int} {ws : List Int} {S : Nat → Int → Int} {nm ix x10 x11 x12 : Int} (hP : rxPRPDO S0 ws) (hin : bx_same rxL (bx_mdl rxCRPDO.2.2.1) S0 S) (I0 : bx_Inv rxL S) (hinv : rxIRPDO_4 S0 ws S nm ix) (l8 : (-2147483648) ≤ nm) (u8 : nm ≤ 1000) (l9 : (-1) ≤ ix) (u9 : ix ≤ 7) (l10 : 400 ≤ x10) (u10 : x10 ≤ 400) (l11 : 0 ≤ x11) (u11 : x11 ≤ 8) (l12 : 1 ≤ x12) (u12 : x12 ≤ 1) (e3 : S 427 0 = x10) (e2 : S 412 8 = x11) (e1 : S 424 x11 = x12) : (True) ∧ (True) ∧ rxIRPDO_5 S0 ws (bx_up S 424 x11 2) nm ∧ rxmRPDO_5 S0 ws (bx_up S 424 x11 2) nm < rxmRPDO_4 S0 ws S nm ix := by
  obtain ⟨hI, hx⟩ := hinv
  obtain ⟨a_, b_, c_, d_⟩ := rxcRPDK_4_5 hP hin I0 hI l8 u8 l9 u9 l10 u10 l11 u11 l12 u12 e3 e2 e1
  exact ⟨a_, b_, ⟨c_, (by
    intro hp
    exact (rkPO_up (q := 424) (by decide +kernel) (fun g => absurd g.1 (by decide)) (hx hp)))⟩, d_⟩
theorem rxgRPDO_4_5 {X : (Nat → Int → Int) → Prop} {S0 : Nat → Int → Int} {ws : List Int} (hP : rxPRPDO S0 ws) : bx_obC rxL X S0 rxCRPDO.2.2.1 (rxIRPDO S0 ws) (rxmRPDO S0 ws) 4 rxzRPDO_4 rxoRPDO_4_5 := by
  intro S S_p r r_p hinv hX hin hsm_ hseg
  obtain ⟨I0, I1, h0_, hr_, b_, f_, d_⟩ := bx_cl (evs := [(1, (0, 424), (11, 0), .inr (0, (0, 2))), (0, (0, 424), (11, 0), .inr (0, (12, 0))), (0, (0, 412), (0, 8), .inr (0, (11, 0))), (0, (0, 427), (0, 0), .inr (0, (10, 0)))]) (fvs := []) hseg (by decide +kernel) (by decide +kernel)
  have hinv : rxIRPDO_4 S0 ws S (r 8) (r 9) := hinv
  rw [← hr_ 8 (by decide), ← hr_ 9 (by decide)] at hinv
  obtain ⟨⟨l8, u8⟩, ⟨l9, u9⟩, ⟨l10, u10⟩, ⟨l11, u11⟩, ⟨l12, u12⟩, -⟩ := b_
  obtain ⟨T0, ⟨e1, ⟨e2, ⟨e3, w_⟩⟩⟩, w0⟩ := d_
  subst w0
  subst w_
  have g := rxcRPDO_4_5 hP hin I0 hinv l8 u8 l9 u9 l10 u10 l11 u11 l12 u12 e3 e2 e1
  refine ⟨bx_narP_ok (l := []) g.1, bx_nfP_ok h0_ (fvs := []) (by decide +kernel) g.2.1, ?_, ?_⟩
  · show rxIRPDO_5 S0 ws (bx_up T0 424 (r_p 11) (2)) (bx_val [(0, 0), (0, 0), (0, 0), (0, 0), (0, 0), (0, 0), (0, 0), (0, 0), (8, 0)] r_p 8)
    rw [bx_val_x (n := 8) (e := (8, 0)) h0_ rfl]
    exact g.2.2.1
  · show rxmRPDO_5 S0 ws (bx_up T0 424 (r_p 11) (2)) (bx_val [(0, 0), (0, 0), (0, 0), (0, 0), (0, 0), (0, 0), (0, 0), (0, 0), (8, 0)] r_p 8) < rxmRPDO_4 S0 ws T0 (r 8) (r 9)
    rw [bx_val_x (n := 8) (e := (8, 0)) h0_ rfl, ← hr_ 8 (by decide), ← hr_ 9 (by decide)]
    exact g.2.2.2
theorem rxcRPDO_4_6 {S0 : Nat → Int → Int} {ws : List Int} {S : Nat → Int → Int} {nm ix x10 x11 : Int} (hP : rxPRPDO S0 ws) (hin : bx_same rxL (bx_mdl rxCRPDO.2.2.1) S0 S) (I0 : bx_Inv rxL S) (hinv : rxIRPDO_4 S0 ws S nm ix) (l8 : (-2147483648) ≤ nm) (u8 : nm ≤ 1000) (l9 : (-1) ≤ ix) (u9 : ix ≤ 7) (l10 : 400 ≤ x10) (u10 : x10 ≤ 400) (l11 : 9 ≤ x11) (u11 : x11 ≤ 2147483647) (e1 : S 427 0 = x10) (e0 : S 412 8 = x11) : (True) ∧ (True) ∧ rxIRPDO_5 S0 ws S nm ∧ rxmRPDO_5 S0 ws S nm < rxmRPDO_4 S0 ws S nm ix := by
  obtain ⟨hI, hx⟩ := hinv
  obtain ⟨a_, b_, c_, d_⟩ := rxcRPDK_4_6 hP hin I0 hI l8 u8 l9 u9 l10 u10 l11 u11 e1 e0
  exact ⟨a_, b_, ⟨c_, hx⟩, d_⟩
theorem rxgRPDO_4_6 {X : (Nat → Int → Int) → Prop} {S0 : Nat → Int → Int} {ws : List Int} (hP : rxPRPDO S0 ws) : bx_obC rxL X S0 rxCRPDO.2.2.1 (rxIRPDO S0 ws) (rxmRPDO S0 ws) 4 rxzRPDO_4 rxoRPDO_4_6 := by
  intro S S_p r r_p hinv hX hin hsm_ hseg
  obtain ⟨I0, I1, h0_, hr_, b_, f_, d_⟩ := bx_cl (evs := [(0, (0, 412), (0, 8), .inr (0, (11, 0))), (0, (0, 427), (0, 0), .inr (0, (10, 0)))]) (fvs := []) hseg (by decide +kernel) (by decide +kernel)
  have hinv : rxIRPDO_4 S0 ws S (r 8) (r 9) := hinv
  rw [← hr_ 8 (by decide), ← hr_ 9 (by decide)] at hinv
  obtain ⟨⟨l8, u8⟩, ⟨l9, u9⟩, ⟨l10, u10⟩, ⟨l11, u11⟩, -⟩ := b_
  obtain ⟨e0, ⟨e1, w_⟩⟩ := d_
  subst w_
  have g := rxcRPDO_4_6 hP hin I0 hinv l8 u8 l9 u9 l10 u10 l11 u11 e1 e0
  refine ⟨bx_narP_ok (l := []) g.1, bx_nfP_ok h0_ (fvs := []) (by decide +kernel) g.2.1, ?_, ?_⟩
  · show rxIRPDO_5 S0 ws S_p (bx_val [(0, 0), (0, 0), (0, 0), (0, 0), (0, 0), (0, 0), (0, 0), (0, 0), (8, 0)] r_p 8)
    rw [bx_val_x (n := 8) (e := (8, 0)) h0_ rfl]
    exact g.2.2.1
  · show rxmRPDO_5 S0 ws S_p (bx_val [(0, 0), (0, 0), (0, 0), (0, 0), (0, 0), (0, 0), (0, 0), (0, 0), (8, 0)] r_p 8) < rxmRPDO_4 S0 ws S_p (r 8) (r 9)
    rw [bx_val_x (n := 8) (e := (8, 0)) h0_ rfl, ← hr_ 8 (by decide), ← hr_ 9 (by decide)]
    exact g.2.2.2
theorem rxcRPDO_4_7 {S0 : Nat → Int → Int} {ws : List Int} {S : Nat → Int → Int} {nm ix x10 x11 : Int} (hP : rxPRPDO S0 ws) (hin : bx_same rxL (bx_mdl rxCRPDO.2.2.1) S0 S) (I0 : bx_Inv rxL S) (hinv : rxIRPDO_4 S0 ws S nm ix) (l8 : (-2147483648) ≤ nm) (u8 : nm ≤ 1000) (l9 : (-1) ≤ ix) (u9 : ix ≤ 7) (l10 : 400 ≤ x10) (u10 : x10 ≤ 400) (l11 : (-2147483648) ≤ x11) (u11 : x11 ≤ (-1)) (e1 : S 427 0 = x10) (e0 : S 412 8 = x11) : (True) ∧ (True) ∧ rxIRPDO_5 S0 ws S nm ∧ rxmRPDO_5 S0 ws S nm < rxmRPDO_4 S0 ws S nm ix := by
  obtain ⟨hI, hx⟩ := hinv
  obtain ⟨a_, b_, c_, d_⟩ := rxcRPDK_4_7 hP hin I0 hI l8 u8 l9 u9 l10 u10 l11 u11 e1 e0
  exact ⟨a_, b_, ⟨c_, hx⟩, d_⟩
theorem rxgRPDO_4_7 {X : (Nat → Int → Int) → Prop} {S0 : Nat → Int → Int} {ws : List Int} (hP : rxPRPDO S0 ws) : bx_obC rxL X S0 rxCRPDO.2.2.1 (rxIRPDO S0 ws) (rxmRPDO S0 ws) 4 rxzRPDO_4 rxoRPDO_4_7 := by
  intro S S_p r r_p hinv hX hin hsm_ hseg
  obtain ⟨I0, I1, h0_, hr_, b_, f_, d_⟩ := bx_cl (evs := [(0, (0, 412), (0, 8), .inr (0, (11, 0))), (0, (0, 427), (0, 0), .inr (0, (10, 0)))]) (fvs := []) hseg (by decide +kernel) (by decide +kernel)
  have hinv : rxIRPDO_4 S0 ws S (r 8) (r 9) := hinv
  rw [← hr_ 8 (by decide), ← hr_ 9 (by decide)] at hinv
  obtain ⟨⟨l8, u8⟩, ⟨l9, u9⟩, ⟨l10, u10⟩, ⟨l11, u11⟩, -⟩ := b_
  obtain ⟨e0, ⟨e1, w_⟩⟩ := d_
  subst w_
  have g := rxcRPDO_4_7 hP hin I0 hinv l8 u8 l9 u9 l10 u10 l11 u11 e1 e0
  refine ⟨bx_narP_ok (l := []) g.1, bx_nfP_ok h0_ (fvs := []) (by decide +kernel) g.2.1, ?_, ?_⟩
  · show rxIRPDO_5 S0 ws S_p (bx_val [(0, 0), (0, 0), (0, 0), (0, 0), (0, 0), (0, 0), (0, 0), (0, 0), (8, 0)] r_p 8)
    rw [bx_val_x (n := 8) (e := (8, 0)) h0_ rfl]
    exact g.2.2.1
  · show rxmRPDO_5 S0 ws S_p (bx_val [(0, 0), (0, 0), (0, 0), (0, 0), (0, 0), (0, 0), (0, 0), (0, 0), (8, 0)] r_p 8) < rxmRPDO_4 S0 ws S_p (r 8) (r 9)
    rw [bx_val_x (n := 8) (e := (8, 0)) h0_ rfl, ← hr_ 8 (by decide), ← hr_ 9 (by decide)]
    exact g.2.2.2
theorem rxdRPDO_6_0 {S0 : Nat → Int → Int} {ws : List Int} {S : Nat → Int → Int} {nm : Int} (hP : rxPRPDO S0 ws) (hin : bx_same rxL (bx_mdl rxCRPDO.2.2.1) S0 S) (hin2 : bx_same rxL (bx_mdl rxCRPDO.2.2.1) S S) (I0 : bx_Inv rxL S) (I1 : bx_Inv rxL S) (hinv : rxIRPDO_6 S0 ws S nm) (l8 : (-2147483648) ≤ nm) (u8 : nm ≤ 1000) : (True) ∧ rxPSRPDO S0 ws S (some 1) := by
  obtain ⟨hI, hx⟩ := hinv
  obtain ⟨a_, c_⟩ := rxdRPDK_6_0 hP hin hin2 I0 I1 hI l8 u8
  exact ⟨a_, c_, hx⟩
theorem rxfRPDO_6_0 {X : (Nat → Int → Int) → Prop} {S0 : Nat → Int → Int} {ws : List Int} (hP : rxPRPDO S0 ws) : bx_obE rxL X S0 rxCRPDO.2.2.1 (rxIRPDO S0 ws) (rxPSRPDO S0 ws) 6 rxzRPDO_6 rxeRPDO_6_0 := by
  intro S S_p r r_p hinv hX hin hsm_ hseg
  obtain ⟨I0, I1, h0_, hr_, b_, f_, d_⟩ := bx_cl (evs := []) (fvs := []) hseg (by decide +kernel) (by decide +kernel)
  have hinv : rxIRPDO_6 S0 ws S (r 8) := hinv
  rw [← hr_ 8 (by decide)] at hinv
  obtain ⟨⟨l8, u8⟩, -⟩ := b_
  have w_ := d_
  subst w_
  have g := rxdRPDO_6_0 hP hin hsm_ I0 I1 hinv l8 u8
  refine ⟨bx_narP_ok (l := []) g.1, ?_⟩
  show rxPSRPDO S0 ws S_p (some (bx_num r_p (.inr (0, (0, 1)))))
  rw [bx_xv_ok h0_]
  exact g.2
theorem rxgCRPDO {X : (Nat → Int → Int) → Prop} {S0 : Nat → Int → Int} {ws : List Int} (hP : rxPRPDO S0 ws) : bx_allI (fun i q => rxURPDO q = true ∨ bx_allP (fun o => bx_obC rxL X S0 rxCRPDO.2.2.1 (rxIRPDO S0 ws) (rxmRPDO S0 ws) i q.1 o) q.2.1) 0 rxYRPDO := ⟨Or.inr ⟨rxgRPDO_0_0 hP, trivial⟩, Or.inl rfl, Or.inr ⟨rxgRPDO_2_0 hP, rxgRPDO_2_1 hP, rxgRPDO_2_2 hP, rxgRPDO_2_3 hP, rxgRPDO_2_4 hP, rxgRPDO_2_5 hP, rxgRPDO_2_6 hP, rxgRPDO_2_7 hP, rxgRPDO_2_8 hP, trivial⟩, Or.inl rfl, Or.inr ⟨rxgRPDO_4_0 hP, rxgRPDO_4_1 hP, rxgRPDO_4_2 hP, rxgRPDO_4_3 hP, rxgRPDO_4_4 hP, rxgRPDO_4_5 hP, rxgRPDO_4_6 hP, rxgRPDO_4_7 hP, trivial⟩, Or.inl rfl, Or.inr trivial, trivial⟩
theorem rxgERPDO {X : (Nat → Int → Int) → Prop} {S0 : Nat → Int → Int} {ws : List Int} (hP : rxPRPDO S0 ws) : bx_allI (fun i q => rxURPDO q = true ∨ bx_allP (fun E => bx_obE rxL X S0 rxCRPDO.2.2.1 (rxIRPDO S0 ws) (rxPSRPDO S0 ws) i q.1 E) q.2.2) 0 rxYRPDO := ⟨Or.inr trivial, Or.inl rfl, Or.inr ⟨rxfRPDO_2_0 hP, rxfRPDO_2_1 hP, trivial⟩, Or.inl rfl, Or.inr trivial, Or.inl rfl, Or.inr ⟨rxfRPDO_6_0 hP, trivial⟩, trivial⟩
theorem rxuRPDO {PX : State → Prop} {Dg : va_G} {A : Nat → Prop} {ad xa : Nat → Nat} {l : Launch} {X : (Nat → Int → Int) → Prop} (hPX : rx_PXOK rxNW A PX) (hX : ∀ S S1 : Nat → Int → Int, X S → bx_same rxL (bx_mdl rxCRPDO.2.2.1) S S1 → X S1) (hQNUM : bx_ConP rxG rxNW rxAO PX Dg rxL X vwCl A ad l rxM74 rxC74 rxPNUM rxPSNUM) (hQNMH : bx_ConP rxG rxNW rxAO PX Dg rxL X vwCl A ad l rxM73 rxC73 rxPNMH rxPSNMH) (hQAD : bx_ConP rxG rxNW rxAO PX Dg rxL X vwCl A ad l rxM84 rxC84 rxPAD rxPSAD) {S0 : Nat → Int → Int} {ws : List Int} (hP : rxPRPDO S0 ws) : ∀ (i : Nat) (q : bx_HE), rxYRPDO[i]? = some q → rxURPDO q = true → ∀ {p : Program} {e : Env} {R : Room} {s : State} {m : MethodId} {args : Array Value} {below : List Frame} {meth : Method} {c : Code} {Q : State → Prop} {H0 : Heap}, rx_Fr rxG rxNW rxAO PX p s m args meth c rxM65 → (∀ q, H0.size ≤ q → A q) → H0 = s.heap → rxM65.2.2.2.2.2.2.1 ≤ R.cells → rxM65.2.2.2.2.2.2.2 ≤ R.slots → rxCRPDO.2.2.2.1 ≤ R.frames → rxCRPDO.2.2.2.1 * 40 ≤ R.locals → bx_Step p l e R s m args below meth c Q Dg rxL X vwCl A xa H0 ad rxM65 rxYRPDO (rxIRPDO S0 ws) (rxmRPDO S0 ws) S0 rxCRPDO.2.2.1 i q := by
  intro i q hq hus p e R s m args below meth c Q H0 hF hA hH0 hmc hms hd hdl
  match i, hq with
  | 0, hq =>
    cases hq
    exact absurd (show false = true from hus) Bool.false_ne_true
  | 1, hq =>
    cases hq
    exact rx_stepC (ins := .invokevirtual 171) (len := 3) (i_p := 2) (M_p := rxM74) (d := rxCRPDO.2.2.2.1) (as := [.inr (3, (0, 412))]) (t := []) (ct := rxC74) hPX hF rfl hA hH0 hmc hms hd hdl (by decide +kernel) rfl rfl (by decide +kernel) (by decide +kernel) hQNUM (by decide +kernel) rfl (Or.inr ⟨_, _, _, 1, rfl, rfl, by omega, rfl, rfl, rfl⟩) (rxsRPDO_1 hP)
  | 2, hq =>
    cases hq
    exact absurd (show false = true from hus) Bool.false_ne_true
  | 3, hq =>
    cases hq
    exact rx_stepC (ins := .invokevirtual 168) (len := 3) (i_p := 4) (M_p := rxM73) (d := rxCRPDO.2.2.2.1) (as := [.inr (3, (0, 412))]) (t := [.inr (0, (0, 2)), .inr (3, (0, 427))]) (ct := rxC73) hPX hF rfl hA hH0 hmc hms hd hdl (by decide +kernel) rfl rfl (by decide +kernel) (by decide +kernel) hQNMH (by decide +kernel) rfl (Or.inr ⟨_, _, _, 1, rfl, rfl, by omega, rfl, rfl, rfl⟩) (rxsRPDO_3 hP)
  | 4, hq =>
    cases hq
    exact absurd (show false = true from hus) Bool.false_ne_true
  | 5, hq =>
    cases hq
    exact rx_stepC (ins := .invokevirtual 66) (len := 3) (i_p := 6) (M_p := rxM84) (d := rxCRPDO.2.2.2.1) (as := [.inr (3, (0, 412))]) (t := []) (ct := rxC84) hPX hF rfl hA hH0 hmc hms hd hdl (by decide +kernel) rfl rfl (by decide +kernel) (by decide +kernel) hQAD (by decide +kernel) rfl (Or.inl ⟨rfl, rfl, rfl⟩) (rxsRPDO_5 hP)
  | 6, hq =>
    cases hq
    exact absurd (show false = true from hus) Bool.false_ne_true
  | n + 7, hq => cases hq
theorem rxQRPDO {PX : State → Prop} {Dg : va_G} {A : Nat → Prop} {ad xa : Nat → Nat} {l : Launch} {X : (Nat → Int → Int) → Prop} (hPX : rx_PXOK rxNW A PX) (hsl : ∀ s : State, PX s → ∀ o idx n : Nat, rxSl o idx = some n → ∃ tx : String, vk_R (rxNm o) idx tx (ad n) s)
    (hX : ∀ S S_p : Nat → Int → Int, X S → bx_same rxL (bx_mdl rxCRPDO.2.2.1) S S_p → X S_p)
    (ih : ∀ (j2 : Nat) (ct2 : bx_Ct) (M2 : rx_Mt), ct2 ∈ rxCnE j2 → ct2.2.2.2.1 + 1 ≤ rxCRPDO.2.2.2.1 → rxT.2.2.2.2.2 j2 = some M2 → bx_Con rxG rxNW rxAO PX Dg rxL X vwCl A ad l M2 ct2) (hQNUM : bx_ConP rxG rxNW rxAO PX Dg rxL X vwCl A ad l rxM74 rxC74 rxPNUM rxPSNUM) (hQNMH : bx_ConP rxG rxNW rxAO PX Dg rxL X vwCl A ad l rxM73 rxC73 rxPNMH rxPSNMH) (hQAD : bx_ConP rxG rxNW rxAO PX Dg rxL X vwCl A ad l rxM84 rxC84 rxPAD rxPSAD) : bx_ConP rxG rxNW rxAO PX Dg rxL X vwCl A ad l rxM65 rxCRPDO rxPRPDO rxPSRPDO :=
  rxQof (xa := xa) (Cn := rxCnE) (f := 30000) (j := 65) (tab := rxYRPDO) (us := rxURPDO) hPX hsl hX ih rfl rxYcRPDO rxIRPDO rxmRPDO
    (fun S0 ws r I0 I ht0 ht as he he1 hX0 hI0 hP hs ha => by
      have e := he.symm.trans (show bx_ent0 rxNP rxCRPDO.1 bx_I0 [] = some ([(0, 0), (0, 0), (0, 0), (0, 0), (0, 0), (0, 0), (0, 0), (0, 0)], [], [.inr (3, (0, 412))]) from rfl)
      cases e
      subst ha
      have h0 : r 0 = 0 := hs.1
      show rxIRPDO_0 S0 _ S0
      refine ⟨⟨⟨rfl, ?_⟩, trivial⟩, trivial⟩
      simp only [List.map_cons, List.map_nil, bx_xv_ok h0]
      rfl)
    (fun S0 ws hP => rxuRPDO (xa := xa) hPX hX hQNUM hQNMH hQAD hP) (fun S0 ws hP => rxgCRPDO hP) (fun S0 ws hP => rxgERPDO hP)
