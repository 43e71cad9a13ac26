/-! CONTRACT BY HAND, by program (wip/sim/genhand.py): DeadUnderstudies$Reader.reduce -/
def rxCRDDK : bx_Ct := ([(3, (1, 412, 0)), (0, (0, 0, 6))], none, [(6, 0), (7, 10), (1021, 0), (1022, 0)], 1, [(412, 0, 3, (1, 411, 0)), (412, 6, 3, (1, 427, 0))])
def rxIRDDK_0 (S0 : Nat → Int → Int) (ws : List Int) (S : Nat → Int → Int) (least : Int) : Prop := S = S0 ∧ ws = [412, least]
def rxmRDDK_0 (S0 : Nat → Int → Int) (ws : List Int) (S : Nat → Int → Int) (least : Int) : Nat := 1000000
def rxzRDDK_0 : rx_Z := ([(0, 0), (0, 0), (0, 0), (0, 0), (0, 0), (0, 0), (0, 0), (0, 0), (0, 6)], [], [(((0, 412), 6), .inr (3, (0, 427))), (((0, 412), 0), .inr (3, (0, 411)))], 0, 0, 0, [(0, .inr (3, (0, 412))), (1, .inr (0, (8, 0)))], [])
def rxIRDDK_1 (S0 : Nat → Int → Int) (ws : List Int) (S : Nat → Int → Int) (least : Int) : Prop := ws = [412, least] ∧ rkRl S0 S least
def rxmRDDK_1 (S0 : Nat → Int → Int) (ws : List Int) (S : Nat → Int → Int) (least : Int) : Nat := 10 * (S 412 10).toNat + 5
def rxzRDDK_1 : rx_Z := ([(0, 0), (0, 0), (0, 0), (0, 0), (0, 0), (0, 0), (0, 0), (0, 0), (0, 6)], [], [(((0, 412), 0), .inr (3, (0, 411))), (((0, 412), 6), .inr (3, (0, 427)))], 0, 0, 0, [(0, .inr (3, (0, 412))), (1, .inr (0, (8, 0)))], [])
def rxIRDDK_2 (S0 : Nat → Int → Int) (ws : List Int) (S : Nat → Int → Int) (least op : Int) : Prop := ws = [412, least] ∧ rkRl S0 S least ∧ 0 < S 412 10 ∧ op = S 425 (S 412 10 - 1)
def rxmRDDK_2 (S0 : Nat → Int → Int) (ws : List Int) (S : Nat → Int → Int) (least op : Int) : Nat := 10 * (S 412 10).toNat + 4
def rxzRDDK_2 : rx_Z := ([(0, 0), (0, 0), (0, 0), (0, 0), (0, 0), (0, 0), (0, 0), (0, 0), (0, 6), (0, 13)], [], [(((0, 412), 0), .inr (3, (0, 411))), (((0, 412), 6), .inr (3, (0, 427)))], 0, 0, 18, [(0, .inr (3, (0, 412))), (1, .inr (0, (8, 0)))], [.inr (0, (9, 0))])
def rxIRDDK_3 (S0 : Nat → Int → Int) (ws : List Int) (S : Nat → Int → Int) (least op s : Int) : Prop := ws = [412, least] ∧ rkRl S0 S least ∧ 0 < S 412 10 ∧ s = rzStr (S 425 (S 412 10 - 1))
def rxmRDDK_3 (S0 : Nat → Int → Int) (ws : List Int) (S : Nat → Int → Int) (least op s : Int) : Nat := 10 * (S 412 10).toNat + 3
def rxzRDDK_3 : rx_Z := ([(0, 0), (0, 0), (0, 0), (0, 0), (0, 0), (0, 0), (0, 0), (0, 0), (0, 6), (0, 13), (0, 6)], [], [(((0, 412), 0), .inr (3, (0, 411))), (((0, 412), 6), .inr (3, (0, 427)))], 0, 0, 21, [(0, .inr (3, (0, 412))), (1, .inr (0, (8, 0)))], [.inr (0, (10, 0))])
def rxIRDDK_4 (S0 : Nat → Int → Int) (ws : List Int) (S : Nat → Int → Int) (least x : Int) : Prop := ws = [412, least] ∧ rkRl S0 S least ∧ 0 < S 412 10 ∧ x = S 412 10 ∧ least ≤ rzStr (S 425 (S 412 10 - 1))
def rxmRDDK_4 (S0 : Nat → Int → Int) (ws : List Int) (S : Nat → Int → Int) (least x : Int) : Nat := 10 * (S 412 10).toNat + 2
def rxzRDDK_4 : rx_Z := ([(0, 0), (0, 0), (0, 0), (0, 0), (0, 0), (0, 0), (0, 0), (0, 0), (0, 6), (0, 400)], [], [(((0, 412), 0), .inr (3, (0, 411))), (((0, 412), 6), .inr (3, (0, 427)))], 0, 0, 31, [(0, .inr (3, (0, 412))), (1, .inr (0, (8, 0)))], [.inr (0, (0, 1)), .inr (0, (9, 0)), .inr (3, (0, 412))])
def rxIRDDK_5 (S0 : Nat → Int → Int) (ws : List Int) (S : Nat → Int → Int) (least x y : Int) : Prop := ws = [412, least] ∧ rkRl S0 S least ∧ 0 < S 412 10 ∧ y = S 412 10 - 1 ∧ least ≤ rzStr (S 425 (S 412 10 - 1))
def rxmRDDK_5 (S0 : Nat → Int → Int) (ws : List Int) (S : Nat → Int → Int) (least x y : Int) : Nat := 10 * (S 412 10).toNat + 1
def rxzRDDK_5 : rx_Z := ([(0, 0), (0, 0), (0, 0), (0, 0), (0, 0), (0, 0), (0, 0), (0, 0), (0, 6), (0, 400), (0, 399)], [], [(((0, 412), 0), .inr (3, (0, 411))), (((0, 412), 6), .inr (3, (0, 427)))], 0, 0, 32, [(0, .inr (3, (0, 412))), (1, .inr (0, (8, 0)))], [.inr (0, (10, 0)), .inr (3, (0, 412))])
def rxoRDDK_0_0 : bx_HO := (([(0, 0), (0, 0), (0, 0), (0, 0), (0, 0), (0, 0), (0, 0), (0, 0), (0, 6), (1, 400), (0, 13)], [], [(((0, 0), 1851192626986356797223661186461964305852737083915409897475342336000000), .inr (0, (10, 0))), (((0, 412), 11), .inr (3, (0, 425))), (((0, 0), 1851192626986356799431407398244775400849232659564395713334607872000000), .inr (0, (9, 0))), (((0, 412), 10), .inr (0, (9, 0))), (((0, 412), 6), .inr (3, (0, 427))), (((0, 412), 0), .inr (3, (0, 411)))], 0, 0, 18, [(0, .inr (3, (0, 412))), (1, .inr (0, (8, 0)))], [.inr (0, (10, 0))]), [], [], [(0, 0), (0, 0), (0, 0), (0, 0), (0, 0), (0, 0), (0, 0), (0, 0), (8, 0), (10, 0)], 2)
def rxeRDDK_0_0 : rx_End × List (Nat × Int × Int) := (([(0, 0), (0, 0), (0, 0), (0, 0), (0, 0), (0, 0), (0, 0), (0, 0), (0, 6), (0, 0)], [], [(((0, 0), 1851192626986356799431407398244775400849232659564395713334607872000000), .inr (0, (9, 0))), (((0, 412), 10), .inr (0, (9, 0))), (((0, 412), 6), .inr (3, (0, 427))), (((0, 412), 0), .inr (3, (0, 411)))], none), [])
def rxoRDDK_1_0 : bx_HO := (([(0, 0), (0, 0), (0, 0), (0, 0), (0, 0), (0, 0), (0, 0), (0, 0), (0, 6), (1, 400), (0, 13)], [], [(((0, 0), 1851192626986356797223661186461964305852737083915409897475342336000000), .inr (0, (10, 0))), (((0, 412), 11), .inr (3, (0, 425))), (((0, 0), 1851192626986356799431407398244775400849232659564395713334607872000000), .inr (0, (9, 0))), (((0, 412), 10), .inr (0, (9, 0))), (((0, 412), 0), .inr (3, (0, 411))), (((0, 412), 6), .inr (3, (0, 427)))], 0, 0, 18, [(0, .inr (3, (0, 412))), (1, .inr (0, (8, 0)))], [.inr (0, (10, 0))]), [], [], [(0, 0), (0, 0), (0, 0), (0, 0), (0, 0), (0, 0), (0, 0), (0, 0), (8, 0), (10, 0)], 2)
def rxeRDDK_1_0 : rx_End × List (Nat × Int × Int) := (([(0, 0), (0, 0), (0, 0), (0, 0), (0, 0), (0, 0), (0, 0), (0, 0), (0, 6), (0, 0)], [], [(((0, 0), 1851192626986356799431407398244775400849232659564395713334607872000000), .inr (0, (9, 0))), (((0, 412), 10), .inr (0, (9, 0))), (((0, 412), 0), .inr (3, (0, 411))), (((0, 412), 6), .inr (3, (0, 427)))], none), [])
def rxoRDDK_3_0 : bx_HO := (([(0, 0), (0, 0), (0, 0), (0, 0), (0, 0), (0, 0), (0, 0), (0, 0), (0, 6), (0, 13), (0, 6), (0, 400)], [(1, (8, 0), (10, 0))], [(((0, 0), 1851192626986356799431407398244775400849232659564395713334607872000000), .inr (0, (11, 0))), (((0, 412), 10), .inr (0, (11, 0))), (((0, 412), 0), .inr (3, (0, 411))), (((0, 412), 6), .inr (3, (0, 427)))], 0, 0, 31, [(0, .inr (3, (0, 412))), (1, .inr (0, (8, 0)))], [.inr (0, (0, 1)), .inr (0, (11, 0)), .inr (3, (0, 412))]), [], [], [(0, 0), (0, 0), (0, 0), (0, 0), (0, 0), (0, 0), (0, 0), (0, 0), (8, 0), (11, 0)], 4)
def rxeRDDK_3_0 : rx_End × List (Nat × Int × Int) := (([(0, 0), (0, 0), (0, 0), (0, 0), (0, 0), (0, 0), (0, 0), (0, 0), (1, 6), (0, 13), (0, 5)], [(0, (10, 0), (8, 0))], [(((0, 412), 0), .inr (3, (0, 411))), (((0, 412), 6), .inr (3, (0, 427)))], none), [])
def rxoRDDK_5_0 : bx_HO := (([(0, 0), (0, 0), (0, 0), (0, 0), (0, 0), (0, 0), (0, 0), (0, 0), (0, 6), (0, 400), (0, 399), (5, 5), ((-1), (-1))], [(3, (11, 0), (0, 4))], [(((0, 0), 1851192626986356797424370955790042202572729718740712036943659008000000), .inr (0, (12, 0))), (((0, 412), 12), .inr (3, (0, 426))), (((0, 0), 1851192626986356797424370955790042202572729718740712036943069184000000), .inr (0, (11, 0))), (((0, 412), 11), .inr (3, (0, 425))), (((0, 0), 1851192626986356799431407398244775400849232659564395713334607875000000), .inr (0, (10, 0))), (((0, 412), 10), .inr (0, (10, 0))), (((0, 412), 0), .inr (3, (0, 411))), (((0, 412), 6), .inr (3, (0, 427)))], 0, 0, 0, [(2, .inr (0, (11, 0))), (0, .inr (3, (0, 412))), (1, .inr (0, (8, 0)))], []), [], [], [(0, 0), (0, 0), (0, 0), (0, 0), (0, 0), (0, 0), (0, 0), (0, 0), (8, 0)], 1)
def rxoRDDK_5_1 : bx_HO := (([(0, 0), (0, 0), (0, 0), (0, 0), (0, 0), (0, 0), (0, 0), (0, 0), (0, 6), (0, 400), (0, 399), (5, 5), (0, 400), (0, 400)], [(1, (13, 0), (12, 0)), (3, (11, 0), (0, 4))], [(((0, 0), 1851192626986356797424340330377019318111018015026043177805217792000000), .inr (0, (13, 0))), (((0, 427), 0), .inr (0, (13, 0))), (((0, 0), 1851192626986356797424370955790042202572729718740712036943659008000000), .inr (0, (12, 0))), (((0, 412), 12), .inr (3, (0, 426))), (((0, 0), 1851192626986356797424370955790042202572729718740712036943069184000000), .inr (0, (11, 0))), (((0, 412), 11), .inr (3, (0, 425))), (((0, 0), 1851192626986356799431407398244775400849232659564395713334607875000000), .inr (0, (10, 0))), (((0, 412), 10), .inr (0, (10, 0))), (((0, 412), 0), .inr (3, (0, 411))), (((0, 412), 6), .inr (3, (0, 427)))], 0, 0, 0, [(2, .inr (0, (11, 0))), (0, .inr (3, (0, 412))), (1, .inr (0, (8, 0)))], []), [], [], [(0, 0), (0, 0), (0, 0), (0, 0), (0, 0), (0, 0), (0, 0), (0, 0), (8, 0)], 1)
def rxoRDDK_5_2 : bx_HO := (([(0, 0), (0, 0), (0, 0), (0, 0), (0, 0), (0, 0), (0, 0), (0, 0), (0, 6), (0, 400), (0, 399), (5, 5), (0, 399), (1, 400)], [(0, (12, 0), (13, 0)), (3, (11, 0), (0, 4))], [(((0, 0), 1851192626986356797424377080872646779465072059483645808773234691000000), .inr (0, (13, 0))), (((0, 427), 2), .inr (3, (0, 429))), (((0, 0), 1851192626986356797424340330377019318111018015026043177805217792000000), .inr (0, (13, 0))), (((0, 427), 0), .inr (0, (13, 0))), (((0, 0), 1851192626986356797424370955790042202572729718740712036943659008000000), .inr (0, (12, 0))), (((0, 412), 12), .inr (3, (0, 426))), (((0, 0), 1851192626986356797424370955790042202572729718740712036943069184000000), .inr (0, (11, 0))), (((0, 412), 11), .inr (3, (0, 425))), (((0, 0), 1851192626986356799431407398244775400849232659564395713334607875000000), .inr (0, (10, 0))), (((0, 412), 10), .inr (0, (10, 0))), (((0, 412), 0), .inr (3, (0, 411))), (((0, 412), 6), .inr (3, (0, 427)))], 0, 0, 0, [(2, .inr (0, (11, 0))), (0, .inr (3, (0, 412))), (1, .inr (0, (8, 0)))], []), [], [], [(0, 0), (0, 0), (0, 0), (0, 0), (0, 0), (0, 0), (0, 0), (0, 0), (8, 0)], 1)
def rxoRDDK_5_3 : bx_HO := (([(0, 0), (0, 0), (0, 0), (0, 0), (0, 0), (0, 0), (0, 0), (0, 0), (0, 6), (0, 400), (0, 399), (0, 13), (0, 399)], [(3, (11, 0), (0, 5)), (3, (11, 0), (0, 4))], [(((0, 0), 1851192626986356797424340330377019318111018015026043177805217795000000), .inr (0, (12, 1))), (((0, 427), 0), .inr (0, (12, 1))), (((0, 0), 1851192626986356797424377080872646779465072059483645808773234691000000), .inr (0, (0, 0))), (((0, 427), 2), .inr (3, (0, 429))), (((0, 0), 1851192626986356797424377080872646779465072059483645808772644867000000), .inr (0, (11, 0))), (((0, 427), 1), .inr (3, (0, 428))), (((0, 0), 1851192626986356797424340330377019318111018015026043177805217792000000), .inr (0, (12, 0))), (((0, 0), 1851192626986356797424370955790042202572729718740712036943069184000000), .inr (0, (11, 0))), (((0, 412), 11), .inr (3, (0, 425))), (((0, 0), 1851192626986356799431407398244775400849232659564395713334607875000000), .inr (0, (10, 0))), (((0, 412), 10), .inr (0, (10, 0))), (((0, 412), 0), .inr (3, (0, 411))), (((0, 412), 6), .inr (3, (0, 427)))], 0, 0, 0, [(2, .inr (0, (11, 0))), (0, .inr (3, (0, 412))), (1, .inr (0, (8, 0)))], []), [], [], [(0, 0), (0, 0), (0, 0), (0, 0), (0, 0), (0, 0), (0, 0), (0, 0), (8, 0)], 1)
def rxoRDDK_5_4 : bx_HO := (([(0, 0), (0, 0), (0, 0), (0, 0), (0, 0), (0, 0), (0, 0), (0, 0), (0, 6), (0, 400), (0, 399), (0, 13), (400, 400)], [(3, (11, 0), (0, 5)), (3, (11, 0), (0, 4))], [(((0, 0), 1851192626986356797424340330377019318111018015026043177805217792000000), .inr (0, (12, 0))), (((0, 427), 0), .inr (0, (12, 0))), (((0, 0), 1851192626986356797424370955790042202572729718740712036943069184000000), .inr (0, (11, 0))), (((0, 412), 11), .inr (3, (0, 425))), (((0, 0), 1851192626986356799431407398244775400849232659564395713334607875000000), .inr (0, (10, 0))), (((0, 412), 10), .inr (0, (10, 0))), (((0, 412), 0), .inr (3, (0, 411))), (((0, 412), 6), .inr (3, (0, 427)))], 0, 0, 0, [(2, .inr (0, (11, 0))), (0, .inr (3, (0, 412))), (1, .inr (0, (8, 0)))], []), [], [], [(0, 0), (0, 0), (0, 0), (0, 0), (0, 0), (0, 0), (0, 0), (0, 0), (8, 0)], 1)
def rxoRDDK_5_5 : bx_HO := (([(0, 0), (0, 0), (0, 0), (0, 0), (0, 0), (0, 0), (0, 0), (0, 0), (0, 6), (0, 400), (0, 399), (4, 4), ((-1), (-1))], [], [(((0, 0), 1851192626986356797424370955790042202572729718740712036943659008000000), .inr (0, (12, 0))), (((0, 412), 12), .inr (3, (0, 426))), (((0, 0), 1851192626986356797424370955790042202572729718740712036943069184000000), .inr (0, (11, 0))), (((0, 412), 11), .inr (3, (0, 425))), (((0, 0), 1851192626986356799431407398244775400849232659564395713334607875000000), .inr (0, (10, 0))), (((0, 412), 10), .inr (0, (10, 0))), (((0, 412), 0), .inr (3, (0, 411))), (((0, 412), 6), .inr (3, (0, 427)))], 0, 0, 0, [(2, .inr (0, (11, 0))), (0, .inr (3, (0, 412))), (1, .inr (0, (8, 0)))], []), [], [], [(0, 0), (0, 0), (0, 0), (0, 0), (0, 0), (0, 0), (0, 0), (0, 0), (8, 0)], 1)
def rxoRDDK_5_6 : bx_HO := (([(0, 0), (0, 0), (0, 0), (0, 0), (0, 0), (0, 0), (0, 0), (0, 0), (0, 6), (0, 400), (0, 399), (4, 4), (0, 400), (0, 400)], [(1, (13, 0), (12, 0))], [(((0, 0), 1851192626986356797424340330377019318111018015026043177805217792000000), .inr (0, (13, 0))), (((0, 427), 0), .inr (0, (13, 0))), (((0, 0), 1851192626986356797424370955790042202572729718740712036943659008000000), .inr (0, (12, 0))), (((0, 412), 12), .inr (3, (0, 426))), (((0, 0), 1851192626986356797424370955790042202572729718740712036943069184000000), .inr (0, (11, 0))), (((0, 412), 11), .inr (3, (0, 425))), (((0, 0), 1851192626986356799431407398244775400849232659564395713334607875000000), .inr (0, (10, 0))), (((0, 412), 10), .inr (0, (10, 0))), (((0, 412), 0), .inr (3, (0, 411))), (((0, 412), 6), .inr (3, (0, 427)))], 0, 0, 0, [(2, .inr (0, (11, 0))), (0, .inr (3, (0, 412))), (1, .inr (0, (8, 0)))], []), [], [], [(0, 0), (0, 0), (0, 0), (0, 0), (0, 0), (0, 0), (0, 0), (0, 0), (8, 0)], 1)
def rxoRDDK_5_7 : bx_HO := (([(0, 0), (0, 0), (0, 0), (0, 0), (0, 0), (0, 0), (0, 0), (0, 0), (0, 6), (0, 400), (0, 399), (4, 4), (0, 399), (1, 400)], [(0, (12, 0), (13, 0))], [(((0, 0), 1851192626986356797424377080872646779465072059483645808773234691000000), .inr (0, (13, 0))), (((0, 427), 2), .inr (3, (0, 429))), (((0, 0), 1851192626986356797424340330377019318111018015026043177805217792000000), .inr (0, (13, 0))), (((0, 427), 0), .inr (0, (13, 0))), (((0, 0), 1851192626986356797424370955790042202572729718740712036943659008000000), .inr (0, (12, 0))), (((0, 412), 12), .inr (3, (0, 426))), (((0, 0), 1851192626986356797424370955790042202572729718740712036943069184000000), .inr (0, (11, 0))), (((0, 412), 11), .inr (3, (0, 425))), (((0, 0), 1851192626986356799431407398244775400849232659564395713334607875000000), .inr (0, (10, 0))), (((0, 412), 10), .inr (0, (10, 0))), (((0, 412), 0), .inr (3, (0, 411))), (((0, 412), 6), .inr (3, (0, 427)))], 0, 0, 0, [(2, .inr (0, (11, 0))), (0, .inr (3, (0, 412))), (1, .inr (0, (8, 0)))], []), [], [], [(0, 0), (0, 0), (0, 0), (0, 0), (0, 0), (0, 0), (0, 0), (0, 0), (8, 0)], 1)
def rxYRDDK : List bx_HE := [(rxzRDDK_0, [rxoRDDK_0_0], [rxeRDDK_0_0]), (rxzRDDK_1, [rxoRDDK_1_0], [rxeRDDK_1_0]), (rxzRDDK_2, [], []), (rxzRDDK_3, [rxoRDDK_3_0], [rxeRDDK_3_0]), (rxzRDDK_4, [], []), (rxzRDDK_5, [rxoRDDK_5_0, rxoRDDK_5_1, rxoRDDK_5_2, rxoRDDK_5_3, rxoRDDK_5_4, rxoRDDK_5_5, rxoRDDK_5_6, rxoRDDK_5_7], [])]
def rxURDDK (q : bx_HE) : Bool := Nat.beq (rx_zpc q.1) 18 || Nat.beq (rx_zpc q.1) 31
def rxYBRDDK : bx_B := (rxV, rxNP, rxDmf, bx_mdH rxCRDDK.2.2.1)
set_option maxRecDepth 100000 in
theorem rxYcRDDK : bx_chkH rxYBRDDK rxM80 rxCRDDK rxYRDDK (rxURDDK, fun cut z => rx_ex2 (rxCT rxYBRDDK rxCnE) cut 30000 rxCRDDK.2.2.2.1 80 z) = true := by decide +kernel
def rxIRDDK (S0 : Nat → Int → Int) (ws : List Int) (i : Nat) : bx_SP := fun S r => match i with | 0 => rxIRDDK_0 S0 ws S (r 8) | 1 => rxIRDDK_1 S0 ws S (r 8) | 2 => rxIRDDK_2 S0 ws S (r 8) (r 9) | 3 => rxIRDDK_3 S0 ws S (r 8) (r 9) (r 10) | 4 => rxIRDDK_4 S0 ws S (r 8) (r 9) | 5 => rxIRDDK_5 S0 ws S (r 8) (r 9) (r 10) | _ => False
def rxmRDDK (S0 : Nat → Int → Int) (ws : List Int) (i : Nat) (S : Nat → Int → Int) (r : Nat → Int) : Nat := match i with | 0 => rxmRDDK_0 S0 ws S (r 8) | 1 => rxmRDDK_1 S0 ws S (r 8) | 2 => rxmRDDK_2 S0 ws S (r 8) (r 9) | 3 => rxmRDDK_3 S0 ws S (r 8) (r 9) (r 10) | 4 => rxmRDDK_4 S0 ws S (r 8) (r 9) | 5 => rxmRDDK_5 S0 ws S (r 8) (r 9) (r 10) | _ => 0
def rxPRDDK (S0 : Nat → Int → Int) (ws : List Int) : Prop := True
def rxPSRDDK (S0 : Nat → Int → Int) (ws : List Int) (S : Nat → Int → Int) (w : Option Int) : Prop := w = none ∧ rxPSRDD S0 ws S w ∧ ∃ least : Int, ws = [412, least] ∧ (1 ≤ least → ∀ (b : Int) (c : rkC), rkD S0 b c → rkW c → b + (c.1 : Int) + rkM c ≤ 399 → rkD S b (rkRed least c) ∧ rkFr S0 S b)
theorem rxkRDDK_2 {S0 : Nat → Int → Int} {ws : List Int} {S : Nat → Int → Int} {least op : Int} (hP : rxPRDDK S0 ws) (hin : bx_same rxL (bx_mdl rxCRDDK.2.2.1) S0 S) (I0 : bx_Inv rxL S) (hinv : rxIRDDK_2 S0 ws S least op) (l8 : 0 ≤ least) (u8 : least ≤ 6) (l9 : 0 ≤ op) (u9 : op ≤ 13) : rxPSTD S [op] ∧ ∀ (S_p : Nat → Int → Int) (s : Int), 0 ≤ s → s ≤ 6 → rxPSSTD S [op] S_p (some s) → bx_Inv rxL S_p → bx_same rxL (bx_mdl rxC4.2.2.1) S S_p → rxIRDDK_3 S0 ws S_p least op s ∧ rxmRDDK_3 S0 ws S_p least op s < rxmRDDK_2 S0 ws S least op := by
  obtain ⟨hw, hr, h0, ho⟩ := hinv
  refine ⟨trivial, fun S_p s _ _ hq _ _ => ?_⟩
  obtain ⟨rfl, st, h1, h2⟩ := hq
  have h1 : op = st := Option.some.inj (congrArg (fun l : List Int => l[0]?) h1)
  have h2 := Option.some.inj h2
  exact ⟨⟨hw, hr, h0, by rw [h2, ← h1, ho]⟩, by unfold rxmRDDK_2 rxmRDDK_3; omega⟩
theorem rxsRDDK_2 {X : (Nat → Int → Int) → Prop} {S0 : Nat → Int → Int} {ws : List Int} (hP : rxPRDDK S0 ws) : rx_obK X S0 rxCRDDK.2.2.1 rxC4.2.2.1 (rxIRDDK S0 ws) (rxmRDDK S0 ws) 2 3 rxzRDDK_2 rxzRDDK_3 [.inr (0, (9, 0))] (some 10) rxPSTD rxPSSTD := by
  intro S r hinv hXS I0 hin hs_ hf_
  have b_ := bx_bds_sat hs_
  have f_ := bx_fcl_ok hs_.1 hf_
  obtain ⟨⟨l8, u8⟩, ⟨l9, u9⟩, -⟩ := b_
  have g := rxkRDDK_2 hP hin I0 hinv l8 u8 l9 u9
  have ea : List.map (bx_num r) [.inr (0, (9, 0))] = [(r 9)] := by
    simp only [List.map_cons, List.map_nil, bx_xv_ok hs_.1]
    rfl
  rw [ea]
  refine ⟨g.1, fun S_p w r_p hPS hX_p I1 hsm hr hw hs_p => ?_⟩
  have hw := hw _ rfl
  subst hw
  have b_p := hs_p.2.2 10 _ _ rfl
  have g2 := g.2 S_p (r_p 10) b_p.1 b_p.2 hPS I1 hsm
  show rxIRDDK_3 S0 ws S_p (r_p 8) (r_p 9) (r_p 10) ∧ rxmRDDK_3 S0 ws S_p (r_p 8) (r_p 9) (r_p 10) < _
  rw [hr 8 (by decide), hr 9 (by decide)]
  exact g2
theorem rxbRDDK_4 {S0 : Nat → Int → Int} {ws : List Int} {S : Nat → Int → Int} {least x : Int} (hP : rxPRDDK S0 ws) (hin : bx_same rxL (bx_mdl rxCRDDK.2.2.1) S0 S) (I0 : bx_Inv rxL S) (hinv : rxIRDDK_4 S0 ws S least x) (l8 : 0 ≤ least) (u8 : least ≤ 6) (l9 : 0 ≤ x) (u9 : x ≤ 400) : bx_opcB 34 x 1 ∧ ∀ y : Int, y = bx_opvB 34 x 1 → (0 ≤ y ∧ y ≤ 399) ∧ rxIRDDK_5 S0 ws S least x y ∧ rxmRDDK_5 S0 ws S least x y < rxmRDDK_4 S0 ws S least x := by
  obtain ⟨hw, hr, h0, hx, hs⟩ := hinv
  refine ⟨⟨⟨by omega, by omega⟩, show (-2147483648 : Int) ≤ 1 ∧ (1 : Int) ≤ 2147483647 ∧ -2147483648 ≤ x - 1 ∧ x - 1 ≤ 2147483647 by omega⟩, fun y hv => ?_⟩
  have hv : y = x - 1 := hv
  exact ⟨by omega, ⟨hw, hr, h0, by omega, hs⟩, by unfold rxmRDDK_4 rxmRDDK_5; omega⟩
theorem rxsRDDK_4 {X : (Nat → Int → Int) → Prop} {S0 : Nat → Int → Int} {ws : List Int} (hP : rxPRDDK S0 ws) : rx_obBB X S0 rxCRDDK.2.2.1 (rxIRDDK S0 ws) (rxmRDDK S0 ws) 4 5 rxzRDDK_4 34 (9, 0) (0, 1) 0 399 := by
  intro S r hinv hXS I0 hin hs_ hf_
  have b_ := bx_bds_sat hs_
  have f_ := bx_fcl_ok hs_.1 hf_
  obtain ⟨⟨l8, u8⟩, ⟨l9, u9⟩, -⟩ := b_
  have g := rxbRDDK_4 hP hin I0 hinv l8 u8 l9 u9
  rw [bx_x_ok hs_.1, bx_x_ok hs_.1]
  refine ⟨g.1, fun r_p hr h0_ hv => ?_⟩
  have g2 := g.2 (r_p 10) hv
  show _ ∧ rxIRDDK_5 S0 ws S (r_p 8) (r_p 9) (r_p 10) ∧ rxmRDDK_5 S0 ws S (r_p 8) (r_p 9) (r_p 10) < _
  rw [hr 8 (by decide), hr 9 (by decide)]
  exact g2
theorem rxcRDDK_0_0 {S0 : Nat → Int → Int} {ws : List Int} {S : Nat → Int → Int} {least x9 x10 : Int} (hP : rxPRDDK S0 ws) (hin : bx_same rxL (bx_mdl rxCRDDK.2.2.1) S0 S) (I0 : bx_Inv rxL S) (hinv : rxIRDDK_0 S0 ws S least) (l8 : 0 ≤ least) (u8 : least ≤ 6) (l9 : 1 ≤ x9) (u9 : x9 ≤ 400) (l10 : 0 ≤ x10) (u10 : x10 ≤ 13) (e1 : S 412 10 = x9) (e0 : S 425 (x9 + (-1)) = x10) : (True) ∧ (True) ∧ rxIRDDK_2 S0 ws S least x10 ∧ rxmRDDK_2 S0 ws S least x10 < rxmRDDK_0 S0 ws S least := by
  obtain ⟨rfl, hw⟩ := hinv
  have hr := rkRl_0 (S := S) (least := least)
  have b : 0 ≤ S 412 10 ∧ S 412 10 ≤ 400 := I0 412 10 (by decide) (by decide)
  exact ⟨trivial, trivial, ⟨hw, hr, by omega, by rw [show S 412 10 - 1 = x9 + -1 by omega]; exact e0.symm⟩, by unfold rxmRDDK_0 rxmRDDK_2; omega⟩
theorem rxgRDDK_0_0 {X : (Nat → Int → Int) → Prop} {S0 : Nat → Int → Int} {ws : List Int} (hP : rxPRDDK S0 ws) : bx_obC rxL X S0 rxCRDDK.2.2.1 (rxIRDDK S0 ws) (rxmRDDK S0 ws) 0 rxzRDDK_0 rxoRDDK_0_0 := by
  intro S S_p r r_p hinv hX hin hsm_ hseg
  obtain ⟨I0, I1, h0_, hr_, b_, f_, d_⟩ := bx_cl (evs := [(0, (0, 425), (9, (-1)), .inr (0, (10, 0))), (0, (0, 412), (0, 10), .inr (0, (9, 0)))]) (fvs := []) hseg (by decide +kernel) (by decide +kernel)
  have hinv : rxIRDDK_0 S0 ws S (r 8) := hinv
  rw [← hr_ 8 (by decide)] at hinv
  obtain ⟨⟨l8, u8⟩, ⟨l9, u9⟩, ⟨l10, u10⟩, -⟩ := b_
  obtain ⟨e0, ⟨e1, w_⟩⟩ := d_
  subst w_
  have g := rxcRDDK_0_0 hP hin I0 hinv l8 u8 l9 u9 l10 u10 e1 e0
  refine ⟨bx_narP_ok (l := []) g.1, bx_nfP_ok h0_ (fvs := []) (by decide +kernel) g.2.1, ?_, ?_⟩
  · show rxIRDDK_2 S0 ws S_p (bx_val [(0, 0), (0, 0), (0, 0), (0, 0), (0, 0), (0, 0), (0, 0), (0, 0), (8, 0), (10, 0)] r_p 8) (bx_val [(0, 0), (0, 0), (0, 0), (0, 0), (0, 0), (0, 0), (0, 0), (0, 0), (8, 0), (10, 0)] r_p 9)
    rw [bx_val_x (n := 8) (e := (8, 0)) h0_ rfl, bx_val_x (n := 9) (e := (10, 0)) h0_ rfl]
    exact g.2.2.1
  · show rxmRDDK_2 S0 ws S_p (bx_val [(0, 0), (0, 0), (0, 0), (0, 0), (0, 0), (0, 0), (0, 0), (0, 0), (8, 0), (10, 0)] r_p 8) (bx_val [(0, 0), (0, 0), (0, 0), (0, 0), (0, 0), (0, 0), (0, 0), (0, 0), (8, 0), (10, 0)] r_p 9) < rxmRDDK_0 S0 ws S_p (r 8)
    rw [bx_val_x (n := 8) (e := (8, 0)) h0_ rfl, bx_val_x (n := 9) (e := (10, 0)) h0_ rfl, ← hr_ 8 (by decide)]
    exact g.2.2.2
theorem rxdRDDK_0_0 {S0 : Nat → Int → Int} {ws : List Int} {S : Nat → Int → Int} {least x9 : Int} (hP : rxPRDDK S0 ws) (hin : bx_same rxL (bx_mdl rxCRDDK.2.2.1) S0 S) (hin2 : bx_same rxL (bx_mdl rxCRDDK.2.2.1) S S) (I0 : bx_Inv rxL S) (I1 : bx_Inv rxL S) (hinv : rxIRDDK_0 S0 ws S least) (l8 : 0 ≤ least) (u8 : least ≤ 6) (l9 : 0 ≤ x9) (u9 : x9 ≤ 0) (e0 : S 412 10 = x9) : (True) ∧ rxPSRDDK S0 ws S none := by
  obtain ⟨rfl, hw⟩ := hinv
  have hr := rkRl_0 (S := S) (least := least)
  exact ⟨trivial, rfl, ⟨rfl, trivial⟩, least, hw, rkRl_end hr rfl (Or.inl (by omega))⟩
theorem rxfRDDK_0_0 {X : (Nat → Int → Int) → Prop} {S0 : Nat → Int → Int} {ws : List Int} (hP : rxPRDDK S0 ws) : bx_obE rxL X S0 rxCRDDK.2.2.1 (rxIRDDK S0 ws) (rxPSRDDK S0 ws) 0 rxzRDDK_0 rxeRDDK_0_0 := by
  intro S S_p r r_p hinv hX hin hsm_ hseg
  obtain ⟨I0, I1, h0_, hr_, b_, f_, d_⟩ := bx_cl (evs := [(0, (0, 412), (0, 10), .inr (0, (9, 0)))]) (fvs := []) hseg (by decide +kernel) (by decide +kernel)
  have hinv : rxIRDDK_0 S0 ws S (r 8) := hinv
  rw [← hr_ 8 (by decide)] at hinv
  obtain ⟨⟨l8, u8⟩, ⟨l9, u9⟩, -⟩ := b_
  obtain ⟨e0, w_⟩ := d_
  subst w_
  have g := rxdRDDK_0_0 hP hin hsm_ I0 I1 hinv l8 u8 l9 u9 e0
  refine ⟨bx_narP_ok (l := []) g.1, ?_⟩
  exact g.2
theorem rxcRDDK_1_0 {S0 : Nat → Int → Int} {ws : List Int} {S : Nat → Int → Int} {least x9 x10 : Int} (hP : rxPRDDK S0 ws) (hin : bx_same rxL (bx_mdl rxCRDDK.2.2.1) S0 S) (I0 : bx_Inv rxL S) (hinv : rxIRDDK_1 S0 ws S least) (l8 : 0 ≤ least) (u8 : least ≤ 6) (l9 : 1 ≤ x9) (u9 : x9 ≤ 400) (l10 : 0 ≤ x10) (u10 : x10 ≤ 13) (e1 : S 412 10 = x9) (e0 : S 425 (x9 + (-1)) = x10) : (True) ∧ (True) ∧ rxIRDDK_2 S0 ws S least x10 ∧ rxmRDDK_2 S0 ws S least x10 < rxmRDDK_1 S0 ws S least := by
  obtain ⟨hw, hr⟩ := hinv
  have b : 0 ≤ S 412 10 ∧ S 412 10 ≤ 400 := I0 412 10 (by decide) (by decide)
  exact ⟨trivial, trivial, ⟨hw, hr, by omega, by rw [show S 412 10 - 1 = x9 + -1 by omega]; exact e0.symm⟩, by unfold rxmRDDK_1 rxmRDDK_2; omega⟩
theorem rxgRDDK_1_0 {X : (Nat → Int → Int) → Prop} {S0 : Nat → Int → Int} {ws : List Int} (hP : rxPRDDK S0 ws) : bx_obC rxL X S0 rxCRDDK.2.2.1 (rxIRDDK S0 ws) (rxmRDDK S0 ws) 1 rxzRDDK_1 rxoRDDK_1_0 := by
  intro S S_p r r_p hinv hX hin hsm_ hseg
  obtain ⟨I0, I1, h0_, hr_, b_, f_, d_⟩ := bx_cl (evs := [(0, (0, 425), (9, (-1)), .inr (0, (10, 0))), (0, (0, 412), (0, 10), .inr (0, (9, 0)))]) (fvs := []) hseg (by decide +kernel) (by decide +kernel)
  have hinv : rxIRDDK_1 S0 ws S (r 8) := hinv
  rw [← hr_ 8 (by decide)] at hinv
  obtain ⟨⟨l8, u8⟩, ⟨l9, u9⟩, ⟨l10, u10⟩, -⟩ := b_
  obtain ⟨e0, ⟨e1, w_⟩⟩ := d_
  subst w_
  have g := rxcRDDK_1_0 hP hin I0 hinv l8 u8 l9 u9 l10 u10 e1 e0
  refine ⟨bx_narP_ok (l := []) g.1, bx_nfP_ok h0_ (fvs := []) (by decide +kernel) g.2.1, ?_, ?_⟩
  · show rxIRDDK_2 S0 ws S_p (bx_val [(0, 0), (0, 0), (0, 0), (0, 0), (0, 0), (0, 0), (0, 0), (0, 0), (8, 0), (10, 0)] r_p 8) (bx_val [(0, 0), (0, 0), (0, 0), (0, 0), (0, 0), (0, 0), (0, 0), (0, 0), (8, 0), (10, 0)] r_p 9)
    rw [bx_val_x (n := 8) (e := (8, 0)) h0_ rfl, bx_val_x (n := 9) (e := (10, 0)) h0_ rfl]
    exact g.2.2.1
  · show rxmRDDK_2 S0 ws S_p (bx_val [(0, 0), (0, 0), (0, 0), (0, 0), (0, 0), (0, 0), (0, 0), (0, 0), (8, 0), (10, 0)] r_p 8) (bx_val [(0, 0), (0, 0), (0, 0), (0, 0), (0, 0), (0, 0), (0, 0), (0, 0), (8, 0), (10, 0)] r_p 9) < rxmRDDK_1 S0 ws S_p (r 8)
    rw [bx_val_x (n := 8) (e := (8, 0)) h0_ rfl, bx_val_x (n := 9) (e := (10, 0)) h0_ rfl, ← hr_ 8 (by decide)]
    exact g.2.2.2
theorem rxdRDDK_1_0 {S0 : Nat → Int → Int} {ws : List Int} {S : Nat → Int → Int} {least x9 : Int} (hP : rxPRDDK S0 ws) (hin : bx_same rxL (bx_mdl rxCRDDK.2.2.1) S0 S) (hin2 : bx_same rxL (bx_mdl rxCRDDK.2.2.1) S S) (I0 : bx_Inv rxL S) (I1 : bx_Inv rxL S) (hinv : rxIRDDK_1 S0 ws S least) (l8 : 0 ≤ least) (u8 : least ≤ 6) (l9 : 0 ≤ x9) (u9 : x9 ≤ 0) (e0 : S 412 10 = x9) : (True) ∧ rxPSRDDK S0 ws S none := by
  obtain ⟨hw, hr⟩ := hinv
  exact ⟨trivial, rfl, ⟨rfl, trivial⟩, least, hw, rkRl_end hr rfl (Or.inl (by omega))⟩
theorem rxfRDDK_1_0 {X : (Nat → Int → Int) → Prop} {S0 : Nat → Int → Int} {ws : List Int} (hP : rxPRDDK S0 ws) : bx_obE rxL X S0 rxCRDDK.2.2.1 (rxIRDDK S0 ws) (rxPSRDDK S0 ws) 1 rxzRDDK_1 rxeRDDK_1_0 := by
  intro S S_p r r_p hinv hX hin hsm_ hseg
  obtain ⟨I0, I1, h0_, hr_, b_, f_, d_⟩ := bx_cl (evs := [(0, (0, 412), (0, 10), .inr (0, (9, 0)))]) (fvs := []) hseg (by decide +kernel) (by decide +kernel)
  have hinv : rxIRDDK_1 S0 ws S (r 8) := hinv
  rw [← hr_ 8 (by decide)] at hinv
  obtain ⟨⟨l8, u8⟩, ⟨l9, u9⟩, -⟩ := b_
  obtain ⟨e0, w_⟩ := d_
  subst w_
  have g := rxdRDDK_1_0 hP hin hsm_ I0 I1 hinv l8 u8 l9 u9 e0
  refine ⟨bx_narP_ok (l := []) g.1, ?_⟩
  exact g.2
theorem rxcRDDK_3_0 {S0 : Nat → Int → Int} {ws : List Int} {S : Nat → Int → Int} {least op s x11 : Int} (hP : rxPRDDK S0 ws) (hin : bx_same rxL (bx_mdl rxCRDDK.2.2.1) S0 S) (I0 : bx_Inv rxL S) (hinv : rxIRDDK_3 S0 ws S least op s) (l8 : 0 ≤ least) (u8 : least ≤ 6) (l9 : 0 ≤ op) (u9 : op ≤ 13) (l10 : 0 ≤ s) (u10 : s ≤ 6) (l11 : 0 ≤ x11) (u11 : x11 ≤ 400) (f0 : least ≤ s) (e0 : S 412 10 = x11) : (True) ∧ (True) ∧ rxIRDDK_4 S0 ws S least x11 ∧ rxmRDDK_4 S0 ws S least x11 < rxmRDDK_3 S0 ws S least op s := by
  obtain ⟨hw, hr, h0, hs⟩ := hinv
  have b : 0 ≤ S 412 10 ∧ S 412 10 ≤ 400 := I0 412 10 (by decide) (by decide)
  exact ⟨trivial, trivial, ⟨hw, hr, h0, e0.symm, by omega⟩, by unfold rxmRDDK_3 rxmRDDK_4; omega⟩
theorem rxgRDDK_3_0 {X : (Nat → Int → Int) → Prop} {S0 : Nat → Int → Int} {ws : List Int} (hP : rxPRDDK S0 ws) : bx_obC rxL X S0 rxCRDDK.2.2.1 (rxIRDDK S0 ws) (rxmRDDK S0 ws) 3 rxzRDDK_3 rxoRDDK_3_0 := by
  intro S S_p r r_p hinv hX hin hsm_ hseg
  obtain ⟨I0, I1, h0_, hr_, b_, f_, d_⟩ := bx_cl (evs := [(0, (0, 412), (0, 10), .inr (0, (11, 0)))]) (fvs := [(1, (8, 0), (10, 0), (0, 0))]) hseg (by decide +kernel) (by decide +kernel)
  have hinv : rxIRDDK_3 S0 ws S (r 8) (r 9) (r 10) := hinv
  rw [← hr_ 8 (by decide), ← hr_ 9 (by decide), ← hr_ 10 (by decide)] at hinv
  obtain ⟨⟨l8, u8⟩, ⟨l9, u9⟩, ⟨l10, u10⟩, ⟨l11, u11⟩, -⟩ := b_
  obtain ⟨f0, -⟩ := f_
  obtain ⟨e0, w_⟩ := d_
  subst w_
  have g := rxcRDDK_3_0 hP hin I0 hinv l8 u8 l9 u9 l10 u10 l11 u11 f0 e0
  refine ⟨bx_narP_ok (l := []) g.1, bx_nfP_ok h0_ (fvs := []) (by decide +kernel) g.2.1, ?_, ?_⟩
  · show rxIRDDK_4 S0 ws S_p (bx_val [(0, 0), (0, 0), (0, 0), (0, 0), (0, 0), (0, 0), (0, 0), (0, 0), (8, 0), (11, 0)] r_p 8) (bx_val [(0, 0), (0, 0), (0, 0), (0, 0), (0, 0), (0, 0), (0, 0), (0, 0), (8, 0), (11, 0)] r_p 9)
    rw [bx_val_x (n := 8) (e := (8, 0)) h0_ rfl, bx_val_x (n := 9) (e := (11, 0)) h0_ rfl]
    exact g.2.2.1
  · show rxmRDDK_4 S0 ws S_p (bx_val [(0, 0), (0, 0), (0, 0), (0, 0), (0, 0), (0, 0), (0, 0), (0, 0), (8, 0), (11, 0)] r_p 8) (bx_val [(0, 0), (0, 0), (0, 0), (0, 0), (0, 0), (0, 0), (0, 0), (0, 0), (8, 0), (11, 0)] r_p 9) < rxmRDDK_3 S0 ws S_p (r 8) (r 9) (r 10)
    rw [bx_val_x (n := 8) (e := (8, 0)) h0_ rfl, bx_val_x (n := 9) (e := (11, 0)) h0_ rfl, ← hr_ 8 (by decide), ← hr_ 9 (by decide), ← hr_ 10 (by decide)]
    exact g.2.2.2
theorem rxdRDDK_3_0 {S0 : Nat → Int → Int} {ws : List Int} {S : Nat → Int → Int} {least op s : Int} (hP : rxPRDDK S0 ws) (hin : bx_same rxL (bx_mdl rxCRDDK.2.2.1) S0 S) (hin2 : bx_same rxL (bx_mdl rxCRDDK.2.2.1) S S) (I0 : bx_Inv rxL S) (I1 : bx_Inv rxL S) (hinv : rxIRDDK_3 S0 ws S least op s) (l8 : 1 ≤ least) (u8 : least ≤ 6) (l9 : 0 ≤ op) (u9 : op ≤ 13) (l10 : 0 ≤ s) (u10 : s ≤ 5) (f0 : s < least) : (True) ∧ rxPSRDDK S0 ws S none := by
  obtain ⟨hw, hr, h0, hs⟩ := hinv
  exact ⟨trivial, rfl, ⟨rfl, trivial⟩, least, hw, rkRl_end hr rfl (Or.inr (by omega))⟩
theorem rxfRDDK_3_0 {X : (Nat → Int → Int) → Prop} {S0 : Nat → Int → Int} {ws : List Int} (hP : rxPRDDK S0 ws) : bx_obE rxL X S0 rxCRDDK.2.2.1 (rxIRDDK S0 ws) (rxPSRDDK S0 ws) 3 rxzRDDK_3 rxeRDDK_3_0 := by
  intro S S_p r r_p hinv hX hin hsm_ hseg
  obtain ⟨I0, I1, h0_, hr_, b_, f_, d_⟩ := bx_cl (evs := []) (fvs := [(0, (10, 0), (8, 0), (0, 0))]) hseg (by decide +kernel) (by decide +kernel)
  have hinv : rxIRDDK_3 S0 ws S (r 8) (r 9) (r 10) := hinv
  rw [← hr_ 8 (by decide), ← hr_ 9 (by decide), ← hr_ 10 (by decide)] at hinv
  obtain ⟨⟨l8, u8⟩, ⟨l9, u9⟩, ⟨l10, u10⟩, -⟩ := b_
  obtain ⟨f0, -⟩ := f_
  have w_ := d_
  subst w_
  have g := rxdRDDK_3_0 hP hin hsm_ I0 I1 hinv l8 u8 l9 u9 l10 u10 f0
  refine ⟨bx_narP_ok (l := []) g.1, ?_⟩
  exact g.2
theorem rxcRDDK_5_0 {S0 : Nat → Int → Int} {ws : List Int} {S : Nat → Int → Int} {least x y x11 x12 : Int} (hP : rxPRDDK S0 ws) (hin : bx_same rxL (bx_mdl rxCRDDK.2.2.1) S0 S) (I0 : bx_Inv rxL S) (hinv : rxIRDDK_5 S0 ws S least x y) (l8 : 0 ≤ least) (u8 : least ≤ 6) (l9 : 0 ≤ x) (u9 : x ≤ 400) (l10 : 0 ≤ y) (u10 : y ≤ 399) (l11 : 5 ≤ x11) (u11 : x11 ≤ 5) (l12 : (-1) ≤ x12) (u12 : x12 ≤ (-1)) (f0 : x11 ≠ 4) (e1 : (bx_up S 412 10 y) 425 y = x11) (e0 : (bx_up S 412 10 y) 426 y = x12) : (True) ∧ (True) ∧ rxIRDDK_1 S0 ws (bx_up S 412 10 y) least ∧ rxmRDDK_1 S0 ws (bx_up S 412 10 y) least < rxmRDDK_5 S0 ws S least x y := by
  obtain ⟨hw, hr, h0, hy, hs⟩ := hinv
  have b : 0 ≤ S 412 10 ∧ S 412 10 ≤ 400 := I0 412 10 (by decide) (by decide)
  have hm : (bx_up S 412 10 y) 412 10 = S 412 10 - 1 := (bx_up_at).trans (by omega)
  have h5 : S 425 (S 412 10 - 1) = x11 := by
    rw [show S 412 10 - 1 = y by omega]
    exact (((bx_up_ne (by omega))).symm.trans e1)
  refine ⟨trivial, trivial, ⟨hw, rkRl_step hr h0 (by omega) fun b c hD hW hn hb => ?_⟩, by unfold rxmRDDK_5 rxmRDDK_1; rw [hm]; omega⟩
  have h6 : S 426 (S 412 10 - 1) = x12 := by
    rw [show S 412 10 - 1 = y by omega]
    exact (((bx_up_ne (by omega))).symm.trans e0)
  exfalso
  have z1 := hD.2.2.1
  have q := hW.2.1 ((c.1 : Int) - 1) (by omega) (by omega)
  have r := hD.2.2.2.2.1 ((c.1 : Int) - 1) (by omega) (by omega)
  have z2 := hD.2.2.2.1
  have z0 := hD.1
  rw [← z1] at q r
  have hj : rkPo c (S 412 10 - 1) = 29 ∨ rkPo c (S 412 10 - 1) = 30 := (rkEn_j q.1 q.2.1).mp (by rw [← r.1, h5]; omega)
  have q3 := q.2.2 hj
  have r2 := r.2 hj
  omega
theorem rxgRDDK_5_0 {X : (Nat → Int → Int) → Prop} {S0 : Nat → Int → Int} {ws : List Int} (hP : rxPRDDK S0 ws) : bx_obC rxL X S0 rxCRDDK.2.2.1 (rxIRDDK S0 ws) (rxmRDDK S0 ws) 5 rxzRDDK_5 rxoRDDK_5_0 := by
  intro S S_p r r_p hinv hX hin hsm_ hseg
  obtain ⟨I0, I1, h0_, hr_, b_, f_, d_⟩ := bx_cl (evs := [(0, (0, 426), (10, 0), .inr (0, (12, 0))), (0, (0, 425), (10, 0), .inr (0, (11, 0))), (1, (0, 412), (0, 10), .inr (0, (10, 0)))]) (fvs := [(3, (11, 0), (0, 4), (0, 0))]) hseg (by decide +kernel) (by decide +kernel)
  have hinv : rxIRDDK_5 S0 ws S (r 8) (r 9) (r 10) := hinv
  rw [← hr_ 8 (by decide), ← hr_ 9 (by decide), ← hr_ 10 (by decide)] at hinv
  obtain ⟨⟨l8, u8⟩, ⟨l9, u9⟩, ⟨l10, u10⟩, ⟨l11, u11⟩, ⟨l12, u12⟩, -⟩ := b_
  obtain ⟨f0, -⟩ := f_
  obtain ⟨e0, ⟨e1, ⟨T2, w_, w2⟩⟩⟩ := d_
  subst w2
  subst w_
  have g := rxcRDDK_5_0 hP hin I0 hinv l8 u8 l9 u9 l10 u10 l11 u11 l12 u12 f0 e1 e0
  refine ⟨bx_narP_ok (l := []) g.1, bx_nfP_ok h0_ (fvs := []) (by decide +kernel) g.2.1, ?_, ?_⟩
  · show rxIRDDK_1 S0 ws (bx_up T2 412 (10) (r_p 10)) (bx_val [(0, 0), (0, 0), (0, 0), (0, 0), (0, 0), (0, 0), (0, 0), (0, 0), (8, 0)] r_p 8)
    rw [bx_val_x (n := 8) (e := (8, 0)) h0_ rfl]
    exact g.2.2.1
  · show rxmRDDK_1 S0 ws (bx_up T2 412 (10) (r_p 10)) (bx_val [(0, 0), (0, 0), (0, 0), (0, 0), (0, 0), (0, 0), (0, 0), (0, 0), (8, 0)] r_p 8) < rxmRDDK_5 S0 ws T2 (r 8) (r 9) (r 10)
    rw [bx_val_x (n := 8) (e := (8, 0)) h0_ rfl, ← hr_ 8 (by decide), ← hr_ 9 (by decide), ← hr_ 10 (by decide)]
    exact g.2.2.2
theorem rxcRDDK_5_1 {S0 : Nat → Int → Int} {ws : List Int} {S : Nat → Int → Int} {least x y x11 x12 x13 : Int} (hP : rxPRDDK S0 ws) (hin : bx_same rxL (bx_mdl rxCRDDK.2.2.1) S0 S) (I0 : bx_Inv rxL S) (hinv : rxIRDDK_5 S0 ws S least x y) (l8 : 0 ≤ least) (u8 : least ≤ 6) (l9 : 0 ≤ x) (u9 : x ≤ 400) (l10 : 0 ≤ y) (u10 : y ≤ 399) (l11 : 5 ≤ x11) (u11 : x11 ≤ 5) (l12 : 0 ≤ x12) (u12 : x12 ≤ 400) (l13 : 0 ≤ x13) (u13 : x13 ≤ 400) (f0 : x13 ≤ x12) (f1 : x11 ≠ 4) (e2 : (bx_up S 412 10 y) 425 y = x11) (e1 : (bx_up S 412 10 y) 426 y = x12) (e0 : (bx_up S 412 10 y) 427 0 = x13) : (True) ∧ (True) ∧ rxIRDDK_1 S0 ws (bx_up S 412 10 y) least ∧ rxmRDDK_1 S0 ws (bx_up S 412 10 y) least < rxmRDDK_5 S0 ws S least x y := by
  obtain ⟨hw, hr, h0, hy, hs⟩ := hinv
  have b : 0 ≤ S 412 10 ∧ S 412 10 ≤ 400 := I0 412 10 (by decide) (by decide)
  have hm : (bx_up S 412 10 y) 412 10 = S 412 10 - 1 := (bx_up_at).trans (by omega)
  have h5 : S 425 (S 412 10 - 1) = x11 := by
    rw [show S 412 10 - 1 = y by omega]
    exact (((bx_up_ne (by omega))).symm.trans e2)
  refine ⟨trivial, trivial, ⟨hw, rkRl_step hr h0 (by omega) fun b c hD hW hn hb => ?_⟩, by unfold rxmRDDK_5 rxmRDDK_1; rw [hm]; omega⟩
  have h6 : S 426 (S 412 10 - 1) = x12 := by
    rw [show S 412 10 - 1 = y by omega]
    exact (((bx_up_ne (by omega))).symm.trans e1)
  exfalso
  have z1 := hD.2.2.1
  have q := hW.2.1 ((c.1 : Int) - 1) (by omega) (by omega)
  have r := hD.2.2.2.2.1 ((c.1 : Int) - 1) (by omega) (by omega)
  have z2 := hD.2.2.2.1
  have z0 := hD.1
  rw [← z1] at q r
  have hj : rkPo c (S 412 10 - 1) = 29 ∨ rkPo c (S 412 10 - 1) = 30 := (rkEn_j q.1 q.2.1).mp (by rw [← r.1, h5]; omega)
  have q3 := q.2.2 hj
  have r2 := r.2 hj
  have hz : S 427 0 = x13 := (((bx_up_ne (by omega))).symm.trans e0)
  omega
theorem rxgRDDK_5_1 {X : (Nat → Int → Int) → Prop} {S0 : Nat → Int → Int} {ws : List Int} (hP : rxPRDDK S0 ws) : bx_obC rxL X S0 rxCRDDK.2.2.1 (rxIRDDK S0 ws) (rxmRDDK S0 ws) 5 rxzRDDK_5 rxoRDDK_5_1 := by
  intro S S_p r r_p hinv hX hin hsm_ hseg
  obtain ⟨I0, I1, h0_, hr_, b_, f_, d_⟩ := bx_cl (evs := [(0, (0, 427), (0, 0), .inr (0, (13, 0))), (0, (0, 426), (10, 0), .inr (0, (12, 0))), (0, (0, 425), (10, 0), .inr (0, (11, 0))), (1, (0, 412), (0, 10), .inr (0, (10, 0)))]) (fvs := [(1, (13, 0), (12, 0), (0, 0)), (3, (11, 0), (0, 4), (0, 0))]) hseg (by decide +kernel) (by decide +kernel)
  have hinv : rxIRDDK_5 S0 ws S (r 8) (r 9) (r 10) := hinv
  rw [← hr_ 8 (by decide), ← hr_ 9 (by decide), ← hr_ 10 (by decide)] at hinv
  obtain ⟨⟨l8, u8⟩, ⟨l9, u9⟩, ⟨l10, u10⟩, ⟨l11, u11⟩, ⟨l12, u12⟩, ⟨l13, u13⟩, -⟩ := b_
  obtain ⟨f0, f1, -⟩ := f_
  obtain ⟨e0, ⟨e1, ⟨e2, ⟨T3, w_, w3⟩⟩⟩⟩ := d_
  subst w3
  subst w_
  have g := rxcRDDK_5_1 hP hin I0 hinv l8 u8 l9 u9 l10 u10 l11 u11 l12 u12 l13 u13 f0 f1 e2 e1 e0
  refine ⟨bx_narP_ok (l := []) g.1, bx_nfP_ok h0_ (fvs := []) (by decide +kernel) g.2.1, ?_, ?_⟩
  · show rxIRDDK_1 S0 ws (bx_up T3 412 (10) (r_p 10)) (bx_val [(0, 0), (0, 0), (0, 0), (0, 0), (0, 0), (0, 0), (0, 0), (0, 0), (8, 0)] r_p 8)
    rw [bx_val_x (n := 8) (e := (8, 0)) h0_ rfl]
    exact g.2.2.1
  · show rxmRDDK_1 S0 ws (bx_up T3 412 (10) (r_p 10)) (bx_val [(0, 0), (0, 0), (0, 0), (0, 0), (0, 0), (0, 0), (0, 0), (0, 0), (8, 0)] r_p 8) < rxmRDDK_5 S0 ws T3 (r 8) (r 9) (r 10)
    rw [bx_val_x (n := 8) (e := (8, 0)) h0_ rfl, ← hr_ 8 (by decide), ← hr_ 9 (by decide), ← hr_ 10 (by decide)]
    exact g.2.2.2
theorem rxcRDDK_5_2 {S0 : Nat → Int → Int} {ws : List Int} {S : Nat → Int → Int} {least x y x11 x12 x13 : Int} (hP : rxPRDDK S0 ws) (hin : bx_same rxL (bx_mdl rxCRDDK.2.2.1) S0 S) (I0 : bx_Inv rxL S) (hinv : rxIRDDK_5 S0 ws S least x y) (l8 : 0 ≤ least) (u8 : least ≤ 6) (l9 : 0 ≤ x) (u9 : x ≤ 400) (l10 : 0 ≤ y) (u10 : y ≤ 399) (l11 : 5 ≤ x11) (u11 : x11 ≤ 5) (l12 : 0 ≤ x12) (u12 : x12 ≤ 399) (l13 : 1 ≤ x13) (u13 : x13 ≤ 400) (f0 : x12 < x13) (f1 : x11 ≠ 4) (e3 : (bx_up S 412 10 y) 425 y = x11) (e2 : (bx_up S 412 10 y) 426 y = x12) (e1 : (bx_up S 412 10 y) 427 0 = x13) : (True) ∧ (True) ∧ rxIRDDK_1 S0 ws (bx_up (bx_up S 412 10 y) 429 x12 x13) least ∧ rxmRDDK_1 S0 ws (bx_up (bx_up S 412 10 y) 429 x12 x13) least < rxmRDDK_5 S0 ws S least x y := by
  obtain ⟨hw, hr, h0, hy, hs⟩ := hinv
  have b : 0 ≤ S 412 10 ∧ S 412 10 ≤ 400 := I0 412 10 (by decide) (by decide)
  have hm : (bx_up (bx_up S 412 10 y) 429 x12 x13) 412 10 = S 412 10 - 1 := ((bx_up_ne (by omega)).trans (bx_up_at)).trans (by omega)
  have h5 : S 425 (S 412 10 - 1) = x11 := by
    rw [show S 412 10 - 1 = y by omega]
    exact (((bx_up_ne (by omega))).symm.trans e3)
  refine ⟨trivial, trivial, ⟨hw, rkRl_step hr h0 (by omega) fun b c hD hW hn hb => ?_⟩, by unfold rxmRDDK_5 rxmRDDK_1; rw [hm]; omega⟩
  have h6 : S 426 (S 412 10 - 1) = x12 := by
    rw [show S 412 10 - 1 = y by omega]
    exact (((bx_up_ne (by omega))).symm.trans e2)
  have hz : S 427 0 = x13 := (((bx_up_ne (by omega))).symm.trans e1)
  exact rkD_tj hD hW hn (by omega) hm ((bx_up_ne (by omega)).trans ((bx_up_ne (by omega)))) (fun j => ⟨(bx_up_ne (by omega)).trans ((bx_up_ne (by omega))), (bx_up_ne (by omega)).trans ((bx_up_ne (by omega)))⟩) (fun j => (bx_up_ne (by omega)).trans ((bx_up_ne (by omega)))) (fun j hj => (bx_up_ne (by omega)).trans ((bx_up_ne (by omega)))) (by rw [h6, hz]; exact bx_up_at)
theorem rxgRDDK_5_2 {X : (Nat → Int → Int) → Prop} {S0 : Nat → Int → Int} {ws : List Int} (hP : rxPRDDK S0 ws) : bx_obC rxL X S0 rxCRDDK.2.2.1 (rxIRDDK S0 ws) (rxmRDDK S0 ws) 5 rxzRDDK_5 rxoRDDK_5_2 := by
  intro S S_p r r_p hinv hX hin hsm_ hseg
  obtain ⟨I0, I1, h0_, hr_, b_, f_, d_⟩ := bx_cl (evs := [(1, (0, 429), (12, 0), .inr (0, (13, 0))), (0, (0, 427), (0, 0), .inr (0, (13, 0))), (0, (0, 426), (10, 0), .inr (0, (12, 0))), (0, (0, 425), (10, 0), .inr (0, (11, 0))), (1, (0, 412), (0, 10), .inr (0, (10, 0)))]) (fvs := [(0, (12, 0), (13, 0), (0, 0)), (3, (11, 0), (0, 4), (0, 0))]) hseg (by decide +kernel) (by decide +kernel)
  have hinv : rxIRDDK_5 S0 ws S (r 8) (r 9) (r 10) := hinv
  rw [← hr_ 8 (by decide), ← hr_ 9 (by decide), ← hr_ 10 (by decide)] at hinv
  obtain ⟨⟨l8, u8⟩, ⟨l9, u9⟩, ⟨l10, u10⟩, ⟨l11, u11⟩, ⟨l12, u12⟩, ⟨l13, u13⟩, -⟩ := b_
  obtain ⟨f0, f1, -⟩ := f_
  obtain ⟨T0, ⟨e1, ⟨e2, ⟨e3, ⟨T4, w_, w4⟩⟩⟩⟩, w0⟩ := d_
  subst w0
  subst w4
  subst w_
  have g := rxcRDDK_5_2 hP hin I0 hinv l8 u8 l9 u9 l10 u10 l11 u11 l12 u12 l13 u13 f0 f1 e3 e2 e1
  refine ⟨bx_narP_ok (l := []) g.1, bx_nfP_ok h0_ (fvs := []) (by decide +kernel) g.2.1, ?_, ?_⟩
  · show rxIRDDK_1 S0 ws (bx_up (bx_up T4 412 (10) (r_p 10)) 429 (r_p 12) (r_p 13)) (bx_val [(0, 0), (0, 0), (0, 0), (0, 0), (0, 0), (0, 0), (0, 0), (0, 0), (8, 0)] r_p 8)
    rw [bx_val_x (n := 8) (e := (8, 0)) h0_ rfl]
    exact g.2.2.1
  · show rxmRDDK_1 S0 ws (bx_up (bx_up T4 412 (10) (r_p 10)) 429 (r_p 12) (r_p 13)) (bx_val [(0, 0), (0, 0), (0, 0), (0, 0), (0, 0), (0, 0), (0, 0), (0, 0), (8, 0)] r_p 8) < rxmRDDK_5 S0 ws T4 (r 8) (r 9) (r 10)
    rw [bx_val_x (n := 8) (e := (8, 0)) h0_ rfl, ← hr_ 8 (by decide), ← hr_ 9 (by decide), ← hr_ 10 (by decide)]
    exact g.2.2.2
theorem rxcRDDK_5_3 {S0 : Nat → Int → Int} {ws : List Int} {S : Nat → Int → Int} {least x y x11 x12 : Int} (hP : rxPRDDK S0 ws) (hin : bx_same rxL (bx_mdl rxCRDDK.2.2.1) S0 S) (I0 : bx_Inv rxL S) (hinv : rxIRDDK_5 S0 ws S least x y) (l8 : 0 ≤ least) (u8 : least ≤ 6) (l9 : 0 ≤ x) (u9 : x ≤ 400) (l10 : 0 ≤ y) (u10 : y ≤ 399) (l11 : 0 ≤ x11) (u11 : x11 ≤ 13) (l12 : 0 ≤ x12) (u12 : x12 ≤ 399) (f0 : x11 ≠ 5) (f1 : x11 ≠ 4) (e4 : (bx_up S 412 10 y) 425 y = x11) (e3 : (bx_up S 412 10 y) 427 0 = x12) : (True) ∧ (True) ∧ rxIRDDK_1 S0 ws (bx_up (bx_up (bx_up (bx_up S 412 10 y) 428 x12 x11) 429 x12 0) 427 0 (x12 + 1)) least ∧ rxmRDDK_1 S0 ws (bx_up (bx_up (bx_up (bx_up S 412 10 y) 428 x12 x11) 429 x12 0) 427 0 (x12 + 1)) least < rxmRDDK_5 S0 ws S least x y := by
  obtain ⟨hw, hr, h0, hy, hs⟩ := hinv
  have b : 0 ≤ S 412 10 ∧ S 412 10 ≤ 400 := I0 412 10 (by decide) (by decide)
  have hm : (bx_up (bx_up (bx_up (bx_up S 412 10 y) 428 x12 x11) 429 x12 0) 427 0 (x12 + 1)) 412 10 = S 412 10 - 1 := ((bx_up_ne (by omega)).trans ((bx_up_ne (by omega)).trans ((bx_up_ne (by omega)).trans (bx_up_at)))).trans (by omega)
  have h5 : S 425 (S 412 10 - 1) = x11 := by
    rw [show S 412 10 - 1 = y by omega]
    exact (((bx_up_ne (by omega))).symm.trans e4)
  refine ⟨trivial, trivial, ⟨hw, rkRl_step hr h0 (by omega) fun b c hD hW hn hb => ?_⟩, by unfold rxmRDDK_5 rxmRDDK_1; rw [hm]; omega⟩
  have hz : S 427 0 = x12 := (((bx_up_ne (by omega))).symm.trans e3)
  exact rkD_te hD hW hn (by omega) hm ((bx_up_at).trans (by omega)) (fun j => ⟨(bx_up_ne (by omega)).trans ((bx_up_ne (by omega)).trans ((bx_up_ne (by omega)).trans ((bx_up_ne (by omega))))), (bx_up_ne (by omega)).trans ((bx_up_ne (by omega)).trans ((bx_up_ne (by omega)).trans ((bx_up_ne (by omega)))))⟩) (fun j hj => (bx_up_ne (by omega)).trans ((bx_up_ne (by omega)).trans ((bx_up_ne (by omega)).trans ((bx_up_ne (by omega)))))) (fun j hj => (bx_up_ne (by omega)).trans ((bx_up_ne (by omega)).trans ((bx_up_ne (by omega)).trans ((bx_up_ne (by omega)))))) (by rw [hz, h5]; exact ((bx_up_ne (by omega)).trans ((bx_up_ne (by omega)))).trans bx_up_at) (by rw [hz]; exact ((bx_up_ne (by omega))).trans bx_up_at)
theorem rxgRDDK_5_3 {X : (Nat → Int → Int) → Prop} {S0 : Nat → Int → Int} {ws : List Int} (hP : rxPRDDK S0 ws) : bx_obC rxL X S0 rxCRDDK.2.2.1 (rxIRDDK S0 ws) (rxmRDDK S0 ws) 5 rxzRDDK_5 rxoRDDK_5_3 := by
  intro S S_p r r_p hinv hX hin hsm_ hseg
  obtain ⟨I0, I1, h0_, hr_, b_, f_, d_⟩ := bx_cl (evs := [(1, (0, 427), (0, 0), .inr (0, (12, 1))), (1, (0, 429), (12, 0), .inr (0, (0, 0))), (1, (0, 428), (12, 0), .inr (0, (11, 0))), (0, (0, 427), (0, 0), .inr (0, (12, 0))), (0, (0, 425), (10, 0), .inr (0, (11, 0))), (1, (0, 412), (0, 10), .inr (0, (10, 0)))]) (fvs := [(3, (11, 0), (0, 5), (0, 0)), (3, (11, 0), (0, 4), (0, 0))]) hseg (by decide +kernel) (by decide +kernel)
  have hinv : rxIRDDK_5 S0 ws S (r 8) (r 9) (r 10) := hinv
  rw [← hr_ 8 (by decide), ← hr_ 9 (by decide), ← hr_ 10 (by decide)] at hinv
  obtain ⟨⟨l8, u8⟩, ⟨l9, u9⟩, ⟨l10, u10⟩, ⟨l11, u11⟩, ⟨l12, u12⟩, -⟩ := b_
  obtain ⟨f0, f1, -⟩ := f_
  obtain ⟨T0, ⟨T1, ⟨T2, ⟨e3, ⟨e4, ⟨T5, w_, w5⟩⟩⟩, w2⟩, w1⟩, w0⟩ := d_
  subst w0
  subst w1
  subst w2
  subst w5
  subst w_
  have g := rxcRDDK_5_3 hP hin I0 hinv l8 u8 l9 u9 l10 u10 l11 u11 l12 u12 f0 f1 e4 e3
  refine ⟨bx_narP_ok (l := []) g.1, bx_nfP_ok h0_ (fvs := []) (by decide +kernel) g.2.1, ?_, ?_⟩
  · show rxIRDDK_1 S0 ws (bx_up (bx_up (bx_up (bx_up T5 412 (10) (r_p 10)) 428 (r_p 12) (r_p 11)) 429 (r_p 12) (0)) 427 (0) (r_p 12 + 1)) (bx_val [(0, 0), (0, 0), (0, 0), (0, 0), (0, 0), (0, 0), (0, 0), (0, 0), (8, 0)] r_p 8)
    rw [bx_val_x (n := 8) (e := (8, 0)) h0_ rfl]
    exact g.2.2.1
  · show rxmRDDK_1 S0 ws (bx_up (bx_up (bx_up (bx_up T5 412 (10) (r_p 10)) 428 (r_p 12) (r_p 11)) 429 (r_p 12) (0)) 427 (0) (r_p 12 + 1)) (bx_val [(0, 0), (0, 0), (0, 0), (0, 0), (0, 0), (0, 0), (0, 0), (0, 0), (8, 0)] r_p 8) < rxmRDDK_5 S0 ws T5 (r 8) (r 9) (r 10)
    rw [bx_val_x (n := 8) (e := (8, 0)) h0_ rfl, ← hr_ 8 (by decide), ← hr_ 9 (by decide), ← hr_ 10 (by decide)]
    exact g.2.2.2
theorem rxcRDDK_5_4 {S0 : Nat → Int → Int} {ws : List Int} {S : Nat → Int → Int} {least x y x11 x12 : Int} (hP : rxPRDDK S0 ws) (hin : bx_same rxL (bx_mdl rxCRDDK.2.2.1) S0 S) (I0 : bx_Inv rxL S) (hinv : rxIRDDK_5 S0 ws S least x y) (l8 : 0 ≤ least) (u8 : least ≤ 6) (l9 : 0 ≤ x) (u9 : x ≤ 400) (l10 : 0 ≤ y) (u10 : y ≤ 399) (l11 : 0 ≤ x11) (u11 : x11 ≤ 13) (l12 : 400 ≤ x12) (u12 : x12 ≤ 400) (f0 : x11 ≠ 5) (f1 : x11 ≠ 4) (e1 : (bx_up S 412 10 y) 425 y = x11) (e0 : (bx_up S 412 10 y) 427 0 = x12) : (True) ∧ (True) ∧ rxIRDDK_1 S0 ws (bx_up S 412 10 y) least ∧ rxmRDDK_1 S0 ws (bx_up S 412 10 y) least < rxmRDDK_5 S0 ws S least x y := by
  obtain ⟨hw, hr, h0, hy, hs⟩ := hinv
  have b : 0 ≤ S 412 10 ∧ S 412 10 ≤ 400 := I0 412 10 (by decide) (by decide)
  have hm : (bx_up S 412 10 y) 412 10 = S 412 10 - 1 := (bx_up_at).trans (by omega)
  have h5 : S 425 (S 412 10 - 1) = x11 := by
    rw [show S 412 10 - 1 = y by omega]
    exact (((bx_up_ne (by omega))).symm.trans e1)
  refine ⟨trivial, trivial, ⟨hw, rkRl_step hr h0 (by omega) fun b c hD hW hn hb => ?_⟩, by unfold rxmRDDK_5 rxmRDDK_1; rw [hm]; omega⟩
  have hz : S 427 0 = x12 := (((bx_up_ne (by omega))).symm.trans e0)
  exfalso
  have z2 := hD.2.2.2.1
  omega
theorem rxgRDDK_5_4 {X : (Nat → Int → Int) → Prop} {S0 : Nat → Int → Int} {ws : List Int} (hP : rxPRDDK S0 ws) : bx_obC rxL X S0 rxCRDDK.2.2.1 (rxIRDDK S0 ws) (rxmRDDK S0 ws) 5 rxzRDDK_5 rxoRDDK_5_4 := by
  intro S S_p r r_p hinv hX hin hsm_ hseg
  obtain ⟨I0, I1, h0_, hr_, b_, f_, d_⟩ := bx_cl (evs := [(0, (0, 427), (0, 0), .inr (0, (12, 0))), (0, (0, 425), (10, 0), .inr (0, (11, 0))), (1, (0, 412), (0, 10), .inr (0, (10, 0)))]) (fvs := [(3, (11, 0), (0, 5), (0, 0)), (3, (11, 0), (0, 4), (0, 0))]) hseg (by decide +kernel) (by decide +kernel)
  have hinv : rxIRDDK_5 S0 ws S (r 8) (r 9) (r 10) := hinv
  rw [← hr_ 8 (by decide), ← hr_ 9 (by decide), ← hr_ 10 (by decide)] at hinv
  obtain ⟨⟨l8, u8⟩, ⟨l9, u9⟩, ⟨l10, u10⟩, ⟨l11, u11⟩, ⟨l12, u12⟩, -⟩ := b_
  obtain ⟨f0, f1, -⟩ := f_
  obtain ⟨e0, ⟨e1, ⟨T2, w_, w2⟩⟩⟩ := d_
  subst w2
  subst w_
  have g := rxcRDDK_5_4 hP hin I0 hinv l8 u8 l9 u9 l10 u10 l11 u11 l12 u12 f0 f1 e1 e0
  refine ⟨bx_narP_ok (l := []) g.1, bx_nfP_ok h0_ (fvs := []) (by decide +kernel) g.2.1, ?_, ?_⟩
  · show rxIRDDK_1 S0 ws (bx_up T2 412 (10) (r_p 10)) (bx_val [(0, 0), (0, 0), (0, 0), (0, 0), (0, 0), (0, 0), (0, 0), (0, 0), (8, 0)] r_p 8)
    rw [bx_val_x (n := 8) (e := (8, 0)) h0_ rfl]
    exact g.2.2.1
  · show rxmRDDK_1 S0 ws (bx_up T2 412 (10) (r_p 10)) (bx_val [(0, 0), (0, 0), (0, 0), (0, 0), (0, 0), (0, 0), (0, 0), (0, 0), (8, 0)] r_p 8) < rxmRDDK_5 S0 ws T2 (r 8) (r 9) (r 10)
    rw [bx_val_x (n := 8) (e := (8, 0)) h0_ rfl, ← hr_ 8 (by decide), ← hr_ 9 (by decide), ← hr_ 10 (by decide)]
    exact g.2.2.2
theorem rxcRDDK_5_5 {S0 : Nat → Int → Int} {ws : List Int} {S : Nat → Int → Int} {least x y x11 x12 : Int} (hP : rxPRDDK S0 ws) (hin : bx_same rxL (bx_mdl rxCRDDK.2.2.1) S0 S) (I0 : bx_Inv rxL S) (hinv : rxIRDDK_5 S0 ws S least x y) (l8 : 0 ≤ least) (u8 : least ≤ 6) (l9 : 0 ≤ x) (u9 : x ≤ 400) (l10 : 0 ≤ y) (u10 : y ≤ 399) (l11 : 4 ≤ x11) (u11 : x11 ≤ 4) (l12 : (-1) ≤ x12) (u12 : x12 ≤ (-1)) (e1 : (bx_up S 412 10 y) 425 y = x11) (e0 : (bx_up S 412 10 y) 426 y = x12) : (True) ∧ (True) ∧ rxIRDDK_1 S0 ws (bx_up S 412 10 y) least ∧ rxmRDDK_1 S0 ws (bx_up S 412 10 y) least < rxmRDDK_5 S0 ws S least x y := by
  obtain ⟨hw, hr, h0, hy, hs⟩ := hinv
  have b : 0 ≤ S 412 10 ∧ S 412 10 ≤ 400 := I0 412 10 (by decide) (by decide)
  have hm : (bx_up S 412 10 y) 412 10 = S 412 10 - 1 := (bx_up_at).trans (by omega)
  have h5 : S 425 (S 412 10 - 1) = x11 := by
    rw [show S 412 10 - 1 = y by omega]
    exact (((bx_up_ne (by omega))).symm.trans e1)
  refine ⟨trivial, trivial, ⟨hw, rkRl_step hr h0 (by omega) fun b c hD hW hn hb => ?_⟩, by unfold rxmRDDK_5 rxmRDDK_1; rw [hm]; omega⟩
  have h6 : S 426 (S 412 10 - 1) = x12 := by
    rw [show S 412 10 - 1 = y by omega]
    exact (((bx_up_ne (by omega))).symm.trans e0)
  exfalso
  have z1 := hD.2.2.1
  have q := hW.2.1 ((c.1 : Int) - 1) (by omega) (by omega)
  have r := hD.2.2.2.2.1 ((c.1 : Int) - 1) (by omega) (by omega)
  have z2 := hD.2.2.2.1
  have z0 := hD.1
  rw [← z1] at q r
  have hj : rkPo c (S 412 10 - 1) = 29 ∨ rkPo c (S 412 10 - 1) = 30 := (rkEn_j q.1 q.2.1).mp (by rw [← r.1, h5]; omega)
  have q3 := q.2.2 hj
  have r2 := r.2 hj
  omega
theorem rxgRDDK_5_5 {X : (Nat → Int → Int) → Prop} {S0 : Nat → Int → Int} {ws : List Int} (hP : rxPRDDK S0 ws) : bx_obC rxL X S0 rxCRDDK.2.2.1 (rxIRDDK S0 ws) (rxmRDDK S0 ws) 5 rxzRDDK_5 rxoRDDK_5_5 := by
  intro S S_p r r_p hinv hX hin hsm_ hseg
  obtain ⟨I0, I1, h0_, hr_, b_, f_, d_⟩ := bx_cl (evs := [(0, (0, 426), (10, 0), .inr (0, (12, 0))), (0, (0, 425), (10, 0), .inr (0, (11, 0))), (1, (0, 412), (0, 10), .inr (0, (10, 0)))]) (fvs := []) hseg (by decide +kernel) (by decide +kernel)
  have hinv : rxIRDDK_5 S0 ws S (r 8) (r 9) (r 10) := hinv
  rw [← hr_ 8 (by decide), ← hr_ 9 (by decide), ← hr_ 10 (by decide)] at hinv
  obtain ⟨⟨l8, u8⟩, ⟨l9, u9⟩, ⟨l10, u10⟩, ⟨l11, u11⟩, ⟨l12, u12⟩, -⟩ := b_
  obtain ⟨e0, ⟨e1, ⟨T2, w_, w2⟩⟩⟩ := d_
  subst w2
  subst w_
  have g := rxcRDDK_5_5 hP hin I0 hinv l8 u8 l9 u9 l10 u10 l11 u11 l12 u12 e1 e0
  refine ⟨bx_narP_ok (l := []) g.1, bx_nfP_ok h0_ (fvs := []) (by decide +kernel) g.2.1, ?_, ?_⟩
  · show rxIRDDK_1 S0 ws (bx_up T2 412 (10) (r_p 10)) (bx_val [(0, 0), (0, 0), (0, 0), (0, 0), (0, 0), (0, 0), (0, 0), (0, 0), (8, 0)] r_p 8)
    rw [bx_val_x (n := 8) (e := (8, 0)) h0_ rfl]
    exact g.2.2.1
  · show rxmRDDK_1 S0 ws (bx_up T2 412 (10) (r_p 10)) (bx_val [(0, 0), (0, 0), (0, 0), (0, 0), (0, 0), (0, 0), (0, 0), (0, 0), (8, 0)] r_p 8) < rxmRDDK_5 S0 ws T2 (r 8) (r 9) (r 10)
    rw [bx_val_x (n := 8) (e := (8, 0)) h0_ rfl, ← hr_ 8 (by decide), ← hr_ 9 (by decide), ← hr_ 10 (by decide)]
    exact g.2.2.2
theorem rxcRDDK_5_6 {S0 : Nat → Int → Int} {ws : List Int} {S : Nat → Int → Int} {least x y x11 x12 x13 : Int} (hP : rxPRDDK S0 ws) (hin : bx_same rxL (bx_mdl rxCRDDK.2.2.1) S0 S) (I0 : bx_Inv rxL S) (hinv : rxIRDDK_5 S0 ws S least x y) (l8 : 0 ≤ least) (u8 : least ≤ 6) (l9 : 0 ≤ x) (u9 : x ≤ 400) (l10 : 0 ≤ y) (u10 : y ≤ 399) (l11 : 4 ≤ x11) (u11 : x11 ≤ 4) (l12 : 0 ≤ x12) (u12 : x12 ≤ 400) (l13 : 0 ≤ x13) (u13 : x13 ≤ 400) (f0 : x13 ≤ x12) (e2 : (bx_up S 412 10 y) 425 y = x11) (e1 : (bx_up S 412 10 y) 426 y = x12) (e0 : (bx_up S 412 10 y) 427 0 = x13) : (True) ∧ (True) ∧ rxIRDDK_1 S0 ws (bx_up S 412 10 y) least ∧ rxmRDDK_1 S0 ws (bx_up S 412 10 y) least < rxmRDDK_5 S0 ws S least x y := by
  obtain ⟨hw, hr, h0, hy, hs⟩ := hinv
  have b : 0 ≤ S 412 10 ∧ S 412 10 ≤ 400 := I0 412 10 (by decide) (by decide)
  have hm : (bx_up S 412 10 y) 412 10 = S 412 10 - 1 := (bx_up_at).trans (by omega)
  have h5 : S 425 (S 412 10 - 1) = x11 := by
    rw [show S 412 10 - 1 = y by omega]
    exact (((bx_up_ne (by omega))).symm.trans e2)
  refine ⟨trivial, trivial, ⟨hw, rkRl_step hr h0 (by omega) fun b c hD hW hn hb => ?_⟩, by unfold rxmRDDK_5 rxmRDDK_1; rw [hm]; omega⟩
  have h6 : S 426 (S 412 10 - 1) = x12 := by
    rw [show S 412 10 - 1 = y by omega]
    exact (((bx_up_ne (by omega))).symm.trans e1)
  exfalso
  have z1 := hD.2.2.1
  have q := hW.2.1 ((c.1 : Int) - 1) (by omega) (by omega)
  have r := hD.2.2.2.2.1 ((c.1 : Int) - 1) (by omega) (by omega)
  have z2 := hD.2.2.2.1
  have z0 := hD.1
  rw [← z1] at q r
  have hj : rkPo c (S 412 10 - 1) = 29 ∨ rkPo c (S 412 10 - 1) = 30 := (rkEn_j q.1 q.2.1).mp (by rw [← r.1, h5]; omega)
  have q3 := q.2.2 hj
  have r2 := r.2 hj
  have hz : S 427 0 = x13 := (((bx_up_ne (by omega))).symm.trans e0)
  omega
theorem rxgRDDK_5_6 {X : (Nat → Int → Int) → Prop} {S0 : Nat → Int → Int} {ws : List Int} (hP : rxPRDDK S0 ws) : bx_obC rxL X S0 rxCRDDK.2.2.1 (rxIRDDK S0 ws) (rxmRDDK S0 ws) 5 rxzRDDK_5 rxoRDDK_5_6 := by
  intro S S_p r r_p hinv hX hin hsm_ hseg
  obtain ⟨I0, I1, h0_, hr_, b_, f_, d_⟩ := bx_cl (evs := [(0, (0, 427), (0, 0), .inr (0, (13, 0))), (0, (0, 426), (10, 0), .inr (0, (12, 0))), (0, (0, 425), (10, 0), .inr (0, (11, 0))), (1, (0, 412), (0, 10), .inr (0, (10, 0)))]) (fvs := [(1, (13, 0), (12, 0), (0, 0))]) hseg (by decide +kernel) (by decide +kernel)
  have hinv : rxIRDDK_5 S0 ws S (r 8) (r 9) (r 10) := hinv
  rw [← hr_ 8 (by decide), ← hr_ 9 (by decide), ← hr_ 10 (by decide)] at hinv
  obtain ⟨⟨l8, u8⟩, ⟨l9, u9⟩, ⟨l10, u10⟩, ⟨l11, u11⟩, ⟨l12, u12⟩, ⟨l13, u13⟩, -⟩ := b_
  obtain ⟨f0, -⟩ := f_
  obtain ⟨e0, ⟨e1, ⟨e2, ⟨T3, w_, w3⟩⟩⟩⟩ := d_
  subst w3
  subst w_
  have g := rxcRDDK_5_6 hP hin I0 hinv l8 u8 l9 u9 l10 u10 l11 u11 l12 u12 l13 u13 f0 e2 e1 e0
  refine ⟨bx_narP_ok (l := []) g.1, bx_nfP_ok h0_ (fvs := []) (by decide +kernel) g.2.1, ?_, ?_⟩
  · show rxIRDDK_1 S0 ws (bx_up T3 412 (10) (r_p 10)) (bx_val [(0, 0), (0, 0), (0, 0), (0, 0), (0, 0), (0, 0), (0, 0), (0, 0), (8, 0)] r_p 8)
    rw [bx_val_x (n := 8) (e := (8, 0)) h0_ rfl]
    exact g.2.2.1
  · show rxmRDDK_1 S0 ws (bx_up T3 412 (10) (r_p 10)) (bx_val [(0, 0), (0, 0), (0, 0), (0, 0), (0, 0), (0, 0), (0, 0), (0, 0), (8, 0)] r_p 8) < rxmRDDK_5 S0 ws T3 (r 8) (r 9) (r 10)
    rw [bx_val_x (n := 8) (e := (8, 0)) h0_ rfl, ← hr_ 8 (by decide), ← hr_ 9 (by decide), ← hr_ 10 (by decide)]
    exact g.2.2.2
theorem rxcRDDK_5_7 {S0 : Nat → Int → Int} {ws : List Int} {S : Nat → Int → Int} {least x y x11 x12 x13 : Int} (hP : rxPRDDK S0 ws) (hin : bx_same rxL (bx_mdl rxCRDDK.2.2.1) S0 S) (I0 : bx_Inv rxL S) (hinv : rxIRDDK_5 S0 ws S least x y) (l8 : 0 ≤ least) (u8 : least ≤ 6) (l9 : 0 ≤ x) (u9 : x ≤ 400) (l10 : 0 ≤ y) (u10 : y ≤ 399) (l11 : 4 ≤ x11) (u11 : x11 ≤ 4) (l12 : 0 ≤ x12) (u12 : x12 ≤ 399) (l13 : 1 ≤ x13) (u13 : x13 ≤ 400) (f0 : x12 < x13) (e3 : (bx_up S 412 10 y) 425 y = x11) (e2 : (bx_up S 412 10 y) 426 y = x12) (e1 : (bx_up S 412 10 y) 427 0 = x13) : (True) ∧ (True) ∧ rxIRDDK_1 S0 ws (bx_up (bx_up S 412 10 y) 429 x12 x13) least ∧ rxmRDDK_1 S0 ws (bx_up (bx_up S 412 10 y) 429 x12 x13) least < rxmRDDK_5 S0 ws S least x y := by
  obtain ⟨hw, hr, h0, hy, hs⟩ := hinv
  have b : 0 ≤ S 412 10 ∧ S 412 10 ≤ 400 := I0 412 10 (by decide) (by decide)
  have hm : (bx_up (bx_up S 412 10 y) 429 x12 x13) 412 10 = S 412 10 - 1 := ((bx_up_ne (by omega)).trans (bx_up_at)).trans (by omega)
  have h5 : S 425 (S 412 10 - 1) = x11 := by
    rw [show S 412 10 - 1 = y by omega]
    exact (((bx_up_ne (by omega))).symm.trans e3)
  refine ⟨trivial, trivial, ⟨hw, rkRl_step hr h0 (by omega) fun b c hD hW hn hb => ?_⟩, by unfold rxmRDDK_5 rxmRDDK_1; rw [hm]; omega⟩
  have h6 : S 426 (S 412 10 - 1) = x12 := by
    rw [show S 412 10 - 1 = y by omega]
    exact (((bx_up_ne (by omega))).symm.trans e2)
  have hz : S 427 0 = x13 := (((bx_up_ne (by omega))).symm.trans e1)
  exact rkD_tj hD hW hn (by omega) hm ((bx_up_ne (by omega)).trans ((bx_up_ne (by omega)))) (fun j => ⟨(bx_up_ne (by omega)).trans ((bx_up_ne (by omega))), (bx_up_ne (by omega)).trans ((bx_up_ne (by omega)))⟩) (fun j => (bx_up_ne (by omega)).trans ((bx_up_ne (by omega)))) (fun j hj => (bx_up_ne (by omega)).trans ((bx_up_ne (by omega)))) (by rw [h6, hz]; exact bx_up_at)
theorem rxgRDDK_5_7 {X : (Nat → Int → Int) → Prop} {S0 : Nat → Int → Int} {ws : List Int} (hP : rxPRDDK S0 ws) : bx_obC rxL X S0 rxCRDDK.2.2.1 (rxIRDDK S0 ws) (rxmRDDK S0 ws) 5 rxzRDDK_5 rxoRDDK_5_7 := by
  intro S S_p r r_p hinv hX hin hsm_ hseg
  obtain ⟨I0, I1, h0_, hr_, b_, f_, d_⟩ := bx_cl (evs := [(1, (0, 429), (12, 0), .inr (0, (13, 0))), (0, (0, 427), (0, 0), .inr (0, (13, 0))), (0, (0, 426), (10, 0), .inr (0, (12, 0))), (0, (0, 425), (10, 0), .inr (0, (11, 0))), (1, (0, 412), (0, 10), .inr (0, (10, 0)))]) (fvs := [(0, (12, 0), (13, 0), (0, 0))]) hseg (by decide +kernel) (by decide +kernel)
  have hinv : rxIRDDK_5 S0 ws S (r 8) (r 9) (r 10) := hinv
  rw [← hr_ 8 (by decide), ← hr_ 9 (by decide), ← hr_ 10 (by decide)] at hinv
  obtain ⟨⟨l8, u8⟩, ⟨l9, u9⟩, ⟨l10, u10⟩, ⟨l11, u11⟩, ⟨l12, u12⟩, ⟨l13, u13⟩, -⟩ := b_
  obtain ⟨f0, -⟩ := f_
  obtain ⟨T0, ⟨e1, ⟨e2, ⟨e3, ⟨T4, w_, w4⟩⟩⟩⟩, w0⟩ := d_
  subst w0
  subst w4
  subst w_
  have g := rxcRDDK_5_7 hP hin I0 hinv l8 u8 l9 u9 l10 u10 l11 u11 l12 u12 l13 u13 f0 e3 e2 e1
  refine ⟨bx_narP_ok (l := []) g.1, bx_nfP_ok h0_ (fvs := []) (by decide +kernel) g.2.1, ?_, ?_⟩
  · show rxIRDDK_1 S0 ws (bx_up (bx_up T4 412 (10) (r_p 10)) 429 (r_p 12) (r_p 13)) (bx_val [(0, 0), (0, 0), (0, 0), (0, 0), (0, 0), (0, 0), (0, 0), (0, 0), (8, 0)] r_p 8)
    rw [bx_val_x (n := 8) (e := (8, 0)) h0_ rfl]
    exact g.2.2.1
  · show rxmRDDK_1 S0 ws (bx_up (bx_up T4 412 (10) (r_p 10)) 429 (r_p 12) (r_p 13)) (bx_val [(0, 0), (0, 0), (0, 0), (0, 0), (0, 0), (0, 0), (0, 0), (0, 0), (8, 0)] r_p 8) < rxmRDDK_5 S0 ws T4 (r 8) (r 9) (r 10)
    rw [bx_val_x (n := 8) (e := (8, 0)) h0_ rfl, ← hr_ 8 (by decide), ← hr_ 9 (by decide), ← hr_ 10 (by decide)]
    exact g.2.2.2
theorem rxgCRDDK {X : (Nat → Int → Int) → Prop} {S0 : Nat → Int → Int} {ws : List Int} (hP : rxPRDDK S0 ws) : bx_allI (fun i q => rxURDDK q = true ∨ bx_allP (fun o => bx_obC rxL X S0 rxCRDDK.2.2.1 (rxIRDDK S0 ws) (rxmRDDK S0 ws) i q.1 o) q.2.1) 0 rxYRDDK := ⟨Or.inr ⟨rxgRDDK_0_0 hP, trivial⟩, Or.inr ⟨rxgRDDK_1_0 hP, trivial⟩, Or.inl rfl, Or.inr ⟨rxgRDDK_3_0 hP, trivial⟩, Or.inl rfl, Or.inr ⟨rxgRDDK_5_0 hP, rxgRDDK_5_1 hP, rxgRDDK_5_2 hP, rxgRDDK_5_3 hP, rxgRDDK_5_4 hP, rxgRDDK_5_5 hP, rxgRDDK_5_6 hP, rxgRDDK_5_7 hP, trivial⟩, trivial⟩
theorem rxgERDDK {X : (Nat → Int → Int) → Prop} {S0 : Nat → Int → Int} {ws : List Int} (hP : rxPRDDK S0 ws) : bx_allI (fun i q => rxURDDK q = true ∨ bx_allP (fun E => bx_obE rxL X S0 rxCRDDK.2.2.1 (rxIRDDK S0 ws) (rxPSRDDK S0 ws) i q.1 E) q.2.2) 0 rxYRDDK := ⟨Or.inr ⟨rxfRDDK_0_0 hP, trivial⟩, Or.inr ⟨rxfRDDK_1_0 hP, trivial⟩, Or.inl rfl, Or.inr ⟨rxfRDDK_3_0 hP, trivial⟩, Or.inl rfl, Or.inr trivial, trivial⟩
theorem rxuRDDK {PX : State → Prop} {Dg : va_G} {A : Nat → Prop} {ad xa : Nat → Nat} {l : Launch} {X : (Nat → Int → Int) → Prop} (hPX : rx_PXOK rxNW A PX) (hX : ∀ S S1 : Nat → Int → Int, X S → bx_same rxL (bx_mdl rxCRDDK.2.2.1) S S1 → X S1) (hQSTD : bx_ConP rxG rxNW rxAO PX Dg rxL X vwCl A ad l rxM4 rxC4 rxPSTD rxPSSTD) {S0 : Nat → Int → Int} {ws : List Int} (hP : rxPRDDK S0 ws) : ∀ (i : Nat) (q : bx_HE), rxYRDDK[i]? = some q → rxURDDK q = true → ∀ {p : Program} {e : Env} {R : Room} {s : State} {m : MethodId} {args : Array Value} {below : List Frame} {meth : Method} {c : Code} {Q : State → Prop} {H0 : Heap}, rx_Fr rxG rxNW rxAO PX p s m args meth c rxM80 → (∀ q, H0.size ≤ q → A q) → H0 = s.heap → rxM80.2.2.2.2.2.2.1 ≤ R.cells → rxM80.2.2.2.2.2.2.2 ≤ R.slots → rxCRDDK.2.2.2.1 ≤ R.frames → rxCRDDK.2.2.2.1 * 40 ≤ R.locals → bx_Step p l e R s m args below meth c Q Dg rxL X vwCl A xa H0 ad rxM80 rxYRDDK (rxIRDDK S0 ws) (rxmRDDK S0 ws) S0 rxCRDDK.2.2.1 i q := by
  intro i q hq hus p e R s m args below meth c Q H0 hF hA hH0 hmc hms hd hdl
  match i, hq with
  | 0, hq =>
    cases hq
    exact absurd (show false = true from hus) Bool.false_ne_true
  | 1, hq =>
    cases hq
    exact absurd (show false = true from hus) Bool.false_ne_true
  | 2, hq =>
    cases hq
    exact rx_stepC (ins := .invokestatic 199) (len := 3) (i_p := 3) (M_p := rxM4) (d := rxCRDDK.2.2.2.1) (as := [.inr (0, (9, 0))]) (t := []) (ct := rxC4) hPX hF rfl hA hH0 hmc hms hd hdl (by decide +kernel) rfl rfl (by decide +kernel) (by decide +kernel) hQSTD (by decide +kernel) rfl (Or.inr ⟨_, _, _, 1, rfl, rfl, by omega, rfl, rfl, rfl⟩) (rxsRDDK_2 hP)
  | 3, hq =>
    cases hq
    exact absurd (show false = true from hus) Bool.false_ne_true
  | 4, hq =>
    cases hq
    exact rx_stepBB (i_p := 5) (o := 34) (a := (9, 0)) (b := (0, 1)) (lo := 0) (hi := 399) (t := [.inr (3, (0, 412))]) hF (Or.inr (Or.inr (Or.inr (Or.inr ⟨rfl, rfl⟩)))) (by decide +kernel) rfl rfl rfl rfl (rxsRDDK_4 hP)
  | 5, hq =>
    cases hq
    exact absurd (show false = true from hus) Bool.false_ne_true
  | n + 6, hq => cases hq
theorem rxQRDDK {PX : State → Prop} {Dg : va_G} {A : Nat → Prop} {ad xa : Nat → Nat} {l : Launch} {X : (Nat → Int → Int) → Prop} (hPX : rx_PXOK rxNW A PX) (hsl : ∀ s : State, PX s → ∀ o idx n : Nat, rxSl o idx = some n → ∃ tx : String, vk_R (rxNm o) idx tx (ad n) s)
    (hX : ∀ S S_p : Nat → Int → Int, X S → bx_same rxL (bx_mdl rxCRDDK.2.2.1) S S_p → X S_p)
    (ih : ∀ (j2 : Nat) (ct2 : bx_Ct) (M2 : rx_Mt), ct2 ∈ rxCnE j2 → ct2.2.2.2.1 + 1 ≤ rxCRDDK.2.2.2.1 → rxT.2.2.2.2.2 j2 = some M2 → bx_Con rxG rxNW rxAO PX Dg rxL X vwCl A ad l M2 ct2) (hQSTD : bx_ConP rxG rxNW rxAO PX Dg rxL X vwCl A ad l rxM4 rxC4 rxPSTD rxPSSTD) : bx_ConP rxG rxNW rxAO PX Dg rxL X vwCl A ad l rxM80 rxCRDDK rxPRDDK rxPSRDDK :=
  rxQof (xa := xa) (Cn := rxCnE) (f := 30000) (j := 80) (tab := rxYRDDK) (us := rxURDDK) hPX hsl hX ih rfl rxYcRDDK rxIRDDK rxmRDDK
    (fun S0 ws r I0 I ht0 ht as he he1 hX0 hI0 hP hs ha => by
      have e := he.symm.trans (show bx_ent0 rxNP rxCRDDK.1 bx_I0 [] = some ([(0, 0), (0, 0), (0, 0), (0, 0), (0, 0), (0, 0), (0, 0), (0, 0), (0, 6)], [], [.inr (3, (0, 412)), .inr (0, (8, 0))]) from rfl)
      cases e
      subst ha
      have h0 : r 0 = 0 := hs.1
      show rxIRDDK_0 S0 _ S0 (r 8)
      refine ⟨rfl, ?_⟩
      simp only [List.map_cons, List.map_nil, bx_xv_ok h0]
      rfl)
    (fun S0 ws hP => rxuRDDK (xa := xa) hPX hX hQSTD hP) (fun S0 ws hP => rxgCRDDK hP) (fun S0 ws hP => rxgERDDK hP)
