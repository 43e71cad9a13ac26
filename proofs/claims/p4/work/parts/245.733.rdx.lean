/-! CONTRACT BY HAND, by program (wip/sim/genhand.py): DeadUnderstudies$Reader.read -/
def rxCRDXK : bx_Ct := ([(3, (1, 412, 0)), (3, (1, 411, 0)), (0, (0, 0, 400)), (0, (0, 0, 1)), (3, (1, 427, 0))], some (0, (0, 0, 1)), [(6, 0), (6, 4), (7, 0), (7, 1), (7, 2), (7, 3), (7, 4), (7, 5), (7, 6), (7, 7), (7, 8), (7, 10), (1021, 0), (1022, 0), (1024, 0), (1025, 0), (1026, 0), (1027, 0), (1034, 0), (1035, 0), (1036, 0)], 9, [])
def rxIRDXK_0 (S0 : Nat → Int → Int) (ws : List Int) (S : Nat → Int → Int) (nb ap : Int) : Prop := rxIRDX_0 S0 ws S nb ap ∧ True
def rxmRDXK_0 (S0 : Nat → Int → Int) (ws : List Int) (S : Nat → Int → Int) (nb ap : Int) : Nat := rxmRDX_0 S0 ws S nb ap
def rxzRDXK_0 : rx_Z := ([(0, 0), (0, 0), (0, 0), (0, 0), (0, 0), (0, 0), (0, 0), (0, 0), (0, 400), (0, 1)], [], [], 0, 0, 0, [(0, .inr (3, (0, 412))), (1, .inr (3, (0, 411))), (2, .inr (0, (8, 0))), (3, .inr (0, (9, 0))), (4, .inr (3, (0, 427)))], [])
def rxIRDXK_1 (S0 : Nat → Int → Int) (ws : List Int) (S : Nat → Int → Int) (nb ap : Int) : Prop := rxIRDX_1 S0 ws S nb ap ∧ (rkPp S0 → S 427 0 = 0 ∧ S 427 4 = 0 ∧ rkPp S)
def rxmRDXK_1 (S0 : Nat → Int → Int) (ws : List Int) (S : Nat → Int → Int) (nb ap : Int) : Nat := rxmRDX_1 S0 ws S nb ap
def rxzRDXK_1 : rx_Z := ([(0, 0), (0, 0), (0, 0), (0, 0), (0, 0), (0, 0), (0, 0), (0, 0), (0, 400), (0, 1)], [], [(((0, 412), 0), .inr (3, (0, 411))), (((0, 412), 6), .inr (3, (0, 427)))], 0, 0, 52, [(0, .inr (3, (0, 412))), (2, .inr (0, (8, 0))), (3, .inr (0, (9, 0)))], [.inr (3, (0, 412))])
def rxIRDXK_2 (S0 : Nat → Int → Int) (ws : List Int) (S : Nat → Int → Int) (nb ap : Int) : Prop := rxIRDX_2 S0 ws S nb ap ∧ (rkPp S0 → S 427 0 = 0 ∧ S 427 4 = 0 ∧ rkPp S) ∧ S 412 2 = rzF (rzCut (S0 411)) nb 0 ∧ S 412 7 = 0
def rxmRDXK_2 (S0 : Nat → Int → Int) (ws : List Int) (S : Nat → Int → Int) (nb ap : Int) : Nat := rxmRDX_2 S0 ws S nb ap
def rxzRDXK_2 : rx_Z := ([(0, 0), (0, 0), (0, 0), (0, 0), (0, 0), (0, 0), (0, 0), (0, 0), (0, 400), (0, 1)], [], [(((0, 412), 0), .inr (3, (0, 411))), (((0, 412), 6), .inr (3, (0, 427)))], 0, 0, 55, [(0, .inr (3, (0, 412))), (2, .inr (0, (8, 0))), (3, .inr (0, (9, 0)))], [])
def rxIRDXK_3 (S0 : Nat → Int → Int) (ws : List Int) (S : Nat → Int → Int) (nb ap cl : Int) : Prop := rxIRDX_3 S0 ws S nb ap cl ∧ rkLp S0 S nb ap cl
def rxmRDXK_3 (S0 : Nat → Int → Int) (ws : List Int) (S : Nat → Int → Int) (nb ap cl : Int) : Nat := rxmRDX_3 S0 ws S nb ap cl
def rxzRDXK_3 : rx_Z := ([(0, 0), (0, 0), (0, 0), (0, 0), (0, 0), (0, 0), (0, 0), (0, 0), (0, 400), (0, 1), (0, 12)], [], [(((0, 412), 0), .inr (3, (0, 411))), (((0, 412), 6), .inr (3, (0, 427)))], 0, 0, 58, [(0, .inr (3, (0, 412))), (2, .inr (0, (8, 0))), (3, .inr (0, (9, 0))), (5, .inr (0, (10, 0)))], [])
def rxIRDXK_4 (S0 : Nat → Int → Int) (ws : List Int) (S : Nat → Int → Int) (nb ap cl : Int) : Prop := rxIRDX_4 S0 ws S nb ap cl ∧ rkLp S0 S nb ap cl
def rxmRDXK_4 (S0 : Nat → Int → Int) (ws : List Int) (S : Nat → Int → Int) (nb ap cl : Int) : Nat := rxmRDX_4 S0 ws S nb ap cl
def rxzRDXK_4 : rx_Z := ([(0, 0), (0, 0), (0, 0), (0, 0), (0, 0), (0, 0), (0, 0), (0, 0), (0, 400), (0, 1), (0, 11)], [], [(((0, 412), 0), .inr (3, (0, 411))), (((0, 412), 6), .inr (3, (0, 427)))], 0, 0, 73, [(0, .inr (3, (0, 412))), (2, .inr (0, (8, 0))), (3, .inr (0, (9, 0))), (5, .inr (0, (10, 0)))], [.inr (3, (0, 412))])
def rxIRDXK_5 (S0 : Nat → Int → Int) (ws : List Int) (S : Nat → Int → Int) (nb ap cl res : Int) : Prop := rxIRDX_5 S0 ws S nb ap cl res ∧ (res = 1 → rkLq S0 S nb ap cl)
def rxmRDXK_5 (S0 : Nat → Int → Int) (ws : List Int) (S : Nat → Int → Int) (nb ap cl res : Int) : Nat := rxmRDX_5 S0 ws S nb ap cl res
def rxzRDXK_5 : rx_Z := ([(0, 0), (0, 0), (0, 0), (0, 0), (0, 0), (0, 0), (0, 0), (0, 0), (0, 400), (0, 1), (0, 11), (0, 1)], [], [(((0, 412), 0), .inr (3, (0, 411))), (((0, 412), 6), .inr (3, (0, 427)))], 0, 0, 76, [(0, .inr (3, (0, 412))), (2, .inr (0, (8, 0))), (3, .inr (0, (9, 0))), (5, .inr (0, (10, 0)))], [.inr (0, (11, 0))])
def rxIRDXK_6 (S0 : Nat → Int → Int) (ws : List Int) (S : Nat → Int → Int) (nb ap cl : Int) : Prop := rxIRDX_6 S0 ws S nb ap cl ∧ rkLp S0 S nb ap cl
def rxmRDXK_6 (S0 : Nat → Int → Int) (ws : List Int) (S : Nat → Int → Int) (nb ap cl : Int) : Nat := rxmRDX_6 S0 ws S nb ap cl
def rxzRDXK_6 : rx_Z := ([(0, 0), (0, 0), (0, 0), (0, 0), (0, 0), (0, 0), (0, 0), (0, 0), (0, 400), (0, 1), (0, 11)], [], [(((0, 412), 0), .inr (3, (0, 411))), (((0, 412), 6), .inr (3, (0, 427)))], 0, 0, 80, [(0, .inr (3, (0, 412))), (2, .inr (0, (8, 0))), (3, .inr (0, (9, 0))), (5, .inr (0, (10, 0)))], [.inr (3, (0, 412))])
def rxIRDXK_7 (S0 : Nat → Int → Int) (ws : List Int) (S : Nat → Int → Int) (nb ap cl res : Int) : Prop := rxIRDX_7 S0 ws S nb ap cl res ∧ (res = 1 → rkLq S0 S nb ap cl)
def rxmRDXK_7 (S0 : Nat → Int → Int) (ws : List Int) (S : Nat → Int → Int) (nb ap cl res : Int) : Nat := rxmRDX_7 S0 ws S nb ap cl res
def rxzRDXK_7 : rx_Z := ([(0, 0), (0, 0), (0, 0), (0, 0), (0, 0), (0, 0), (0, 0), (0, 0), (0, 400), (0, 1), (0, 11), (0, 1)], [], [(((0, 412), 0), .inr (3, (0, 411))), (((0, 412), 6), .inr (3, (0, 427)))], 0, 0, 83, [(0, .inr (3, (0, 412))), (2, .inr (0, (8, 0))), (3, .inr (0, (9, 0))), (5, .inr (0, (10, 0)))], [.inr (0, (11, 0))])
def rxIRDXK_8 (S0 : Nat → Int → Int) (ws : List Int) (S : Nat → Int → Int) (nb ap cl : Int) : Prop := rxIRDX_8 S0 ws S nb ap cl ∧ rkLq S0 S nb ap cl
def rxmRDXK_8 (S0 : Nat → Int → Int) (ws : List Int) (S : Nat → Int → Int) (nb ap cl : Int) : Nat := rxmRDX_8 S0 ws S nb ap cl
def rxzRDXK_8 : rx_Z := ([(0, 0), (0, 0), (0, 0), (0, 0), (0, 0), (0, 0), (0, 0), (0, 0), (0, 400), (0, 1), (0, 11)], [], [(((0, 412), 0), .inr (3, (0, 411))), (((0, 412), 6), .inr (3, (0, 427)))], 0, 0, 91, [(0, .inr (3, (0, 412))), (2, .inr (0, (8, 0))), (3, .inr (0, (9, 0))), (5, .inr (0, (10, 0)))], [.inr (3, (0, 412))])
def rxIRDXK_9 (S0 : Nat → Int → Int) (ws : List Int) (S : Nat → Int → Int) (nb ap cl res : Int) : Prop := rxIRDX_9 S0 ws S nb ap cl res ∧ (res = 1 → rkLr S0 S nb ap cl)
def rxmRDXK_9 (S0 : Nat → Int → Int) (ws : List Int) (S : Nat → Int → Int) (nb ap cl res : Int) : Nat := rxmRDX_9 S0 ws S nb ap cl res
def rxzRDXK_9 : rx_Z := ([(0, 0), (0, 0), (0, 0), (0, 0), (0, 0), (0, 0), (0, 0), (0, 0), (0, 400), (0, 1), (0, 11), (0, 1)], [], [(((0, 412), 0), .inr (3, (0, 411))), (((0, 412), 6), .inr (3, (0, 427)))], 0, 0, 94, [(0, .inr (3, (0, 412))), (2, .inr (0, (8, 0))), (3, .inr (0, (9, 0))), (5, .inr (0, (10, 0)))], [.inr (0, (11, 0))])
def rxIRDXK_10 (S0 : Nat → Int → Int) (ws : List Int) (S : Nat → Int → Int) (nb ap cl : Int) : Prop := rxIRDX_10 S0 ws S nb ap cl ∧ rkLr S0 S nb ap cl
def rxmRDXK_10 (S0 : Nat → Int → Int) (ws : List Int) (S : Nat → Int → Int) (nb ap cl : Int) : Nat := rxmRDX_10 S0 ws S nb ap cl
def rxzRDXK_10 : rx_Z := ([(0, 0), (0, 0), (0, 0), (0, 0), (0, 0), (0, 0), (0, 0), (0, 0), (0, 400), (0, 1), (0, 11)], [], [(((0, 412), 0), .inr (3, (0, 411))), (((0, 412), 6), .inr (3, (0, 427)))], 0, 0, 127, [(0, .inr (3, (0, 412))), (2, .inr (0, (8, 0))), (3, .inr (0, (9, 0))), (5, .inr (0, (10, 0)))], [.inr (3, (0, 412))])
def rxIRDXK_11 (S0 : Nat → Int → Int) (ws : List Int) (S : Nat → Int → Int) (nb ap cl : Int) : Prop := rxIRDX_11 S0 ws S nb ap cl ∧ rkLp S0 S nb ap (cl + 1)
def rxmRDXK_11 (S0 : Nat → Int → Int) (ws : List Int) (S : Nat → Int → Int) (nb ap cl : Int) : Nat := rxmRDX_11 S0 ws S nb ap cl
def rxzRDXK_11 : rx_Z := ([(0, 0), (0, 0), (0, 0), (0, 0), (0, 0), (0, 0), (0, 0), (0, 0), (0, 400), (0, 1), (0, 11)], [], [(((0, 412), 0), .inr (3, (0, 411))), (((0, 412), 6), .inr (3, (0, 427)))], 0, 0, 130, [(0, .inr (3, (0, 412))), (2, .inr (0, (8, 0))), (3, .inr (0, (9, 0))), (5, .inr (0, (10, 0)))], [])
def rxoRDXK_0_0 : bx_HO := (([(0, 0), (0, 0), (0, 0), (0, 0), (0, 0), (0, 0), (0, 0), (0, 0), (0, 400), (0, 1)], [], [(((0, 0), 1851192626986356798829287277884448576027768266202889952673136643000000), .inr (0, (0, 0))), (((0, 412), 7), .inr (0, (0, 0))), (((0, 0), 1851192626986356798227167157524121751206303872841384192020512771000000), .inr (0, (0, 0))), (((0, 427), 4), .inr (0, (0, 0))), (((0, 0), 1851192626986356797424340330377019318111018015026043177805217795000000), .inr (0, (0, 0))), (((0, 427), 0), .inr (0, (0, 0))), (((0, 0), 1851192626986356798628580571097672967753946801749054699119312899000000), .inr (3, (0, 427))), (((0, 412), 6), .inr (3, (0, 427))), (((0, 0), 1851192626986356798427873864310897359480125337295219445565489155000000), .inr (0, (9, 0))), (((0, 412), 5), .inr (0, (9, 0))), (((0, 0), 1851192626986356798227167157524121751206303872841384192011665411000000), .inr (0, (0, (-1)))), (((0, 412), 4), .inr (0, (0, (-1)))), (((0, 0), 1851192626986356798026460450737346142932482408387548938457841667000000), .inr (0, (0, 0))), (((0, 412), 3), .inr (0, (0, 0))), (((0, 0), 1851192626986356797625047037163794926384839479479878431350194179000000), .inr (0, (8, 0))), (((0, 412), 1), .inr (0, (8, 0))), (((0, 0), 1851192626986356797424340330377019318111018015026043177796370435000000), .inr (3, (0, 411))), (((0, 412), 0), .inr (3, (0, 411)))], 0, 0, 52, [(0, .inr (3, (0, 412))), (1, .inr (3, (0, 411))), (2, .inr (0, (8, 0))), (3, .inr (0, (9, 0))), (4, .inr (3, (0, 427)))], [.inr (3, (0, 412))]), [], [], [(0, 0), (0, 0), (0, 0), (0, 0), (0, 0), (0, 0), (0, 0), (0, 0), (8, 0), (9, 0)], 1)
def rxoRDXK_2_0 : bx_HO := (([(0, 0), (0, 0), (0, 0), (0, 0), (0, 0), (0, 0), (0, 0), (0, 0), (0, 400), (0, 1)], [], [(((0, 412), 0), .inr (3, (0, 411))), (((0, 412), 6), .inr (3, (0, 427)))], 0, 0, 58, [(5, .inr (0, (0, 0))), (0, .inr (3, (0, 412))), (2, .inr (0, (8, 0))), (3, .inr (0, (9, 0)))], []), [], [], [(0, 0), (0, 0), (0, 0), (0, 0), (0, 0), (0, 0), (0, 0), (0, 0), (8, 0), (9, 0), (0, 0)], 3)
def rxoRDXK_3_0 : bx_HO := (([(0, 0), (0, 0), (0, 0), (0, 0), (0, 0), (0, 0), (0, 0), (0, 0), (0, 400), (0, 1), (0, 11), (1, 1)], [(3, (11, 0), (0, 0))], [(((0, 0), 1851192626986356798427873864310897359480125337295219445565489152000000), .inr (0, (11, 0))), (((0, 412), 5), .inr (0, (11, 0))), (((0, 412), 0), .inr (3, (0, 411))), (((0, 412), 6), .inr (3, (0, 427)))], 0, 0, 73, [(0, .inr (3, (0, 412))), (2, .inr (0, (8, 0))), (3, .inr (0, (9, 0))), (5, .inr (0, (10, 0)))], [.inr (3, (0, 412))]), [], [], [(0, 0), (0, 0), (0, 0), (0, 0), (0, 0), (0, 0), (0, 0), (0, 0), (8, 0), (9, 0), (10, 0)], 4)
def rxoRDXK_3_1 : bx_HO := (([(0, 0), (0, 0), (0, 0), (0, 0), (0, 0), (0, 0), (0, 0), (0, 0), (0, 400), (0, 1), (0, 11), (0, 0)], [], [(((0, 0), 1851192626986356798427873864310897359480125337295219445565489152000000), .inr (0, (11, 0))), (((0, 412), 5), .inr (0, (11, 0))), (((0, 412), 0), .inr (3, (0, 411))), (((0, 412), 6), .inr (3, (0, 427)))], 0, 0, 80, [(0, .inr (3, (0, 412))), (2, .inr (0, (8, 0))), (3, .inr (0, (9, 0))), (5, .inr (0, (10, 0)))], [.inr (3, (0, 412))]), [], [], [(0, 0), (0, 0), (0, 0), (0, 0), (0, 0), (0, 0), (0, 0), (0, 0), (8, 0), (9, 0), (10, 0)], 6)
def rxeRDXK_3_0 : rx_End × List (Nat × Int × Int) := (([(0, 0), (0, 0), (0, 0), (0, 0), (0, 0), (0, 0), (0, 0), (0, 0), (0, 400), (0, 1), (12, 12), (0, 400)], [], [(((0, 0), 1851192626986356798227167157524121751206303872841384192011665411000000), .inr (0, (11, 0))), (((0, 412), 4), .inr (0, (11, 0))), (((0, 0), 1851192626986356797825753743950570534658660943933713684904017920000000), .inr (0, (11, 0))), (((0, 412), 2), .inr (0, (11, 0))), (((0, 412), 0), .inr (3, (0, 411))), (((0, 412), 6), .inr (3, (0, 427)))], some (.inr (0, (0, 0)))), [])
def rxoRDXK_5_0 : bx_HO := (([(0, 0), (0, 0), (0, 0), (0, 0), (0, 0), (0, 0), (0, 0), (0, 0), (0, 400), (0, 1), (0, 11), (1, 1)], [(3, (11, 0), (0, 0))], [(((0, 412), 0), .inr (3, (0, 411))), (((0, 412), 6), .inr (3, (0, 427)))], 0, 0, 91, [(6, .inr (0, (11, 0))), (0, .inr (3, (0, 412))), (2, .inr (0, (8, 0))), (3, .inr (0, (9, 0))), (5, .inr (0, (10, 0)))], [.inr (3, (0, 412))]), [], [], [(0, 0), (0, 0), (0, 0), (0, 0), (0, 0), (0, 0), (0, 0), (0, 0), (8, 0), (9, 0), (10, 0)], 8)
def rxeRDXK_5_0 : rx_End × List (Nat × Int × Int) := (([(0, 0), (0, 0), (0, 0), (0, 0), (0, 0), (0, 0), (0, 0), (0, 0), (0, 400), (0, 1), (0, 11), (0, 0)], [], [(((0, 412), 0), .inr (3, (0, 411))), (((0, 412), 6), .inr (3, (0, 427)))], some (.inr (0, (0, 0)))), [])
def rxoRDXK_7_0 : bx_HO := (([(0, 0), (0, 0), (0, 0), (0, 0), (0, 0), (0, 0), (0, 0), (0, 0), (0, 400), (0, 1), (0, 11), (1, 1)], [(3, (11, 0), (0, 0))], [(((0, 412), 0), .inr (3, (0, 411))), (((0, 412), 6), .inr (3, (0, 427)))], 0, 0, 91, [(6, .inr (0, (11, 0))), (0, .inr (3, (0, 412))), (2, .inr (0, (8, 0))), (3, .inr (0, (9, 0))), (5, .inr (0, (10, 0)))], [.inr (3, (0, 412))]), [], [], [(0, 0), (0, 0), (0, 0), (0, 0), (0, 0), (0, 0), (0, 0), (0, 0), (8, 0), (9, 0), (10, 0)], 8)
def rxeRDXK_7_0 : rx_End × List (Nat × Int × Int) := (([(0, 0), (0, 0), (0, 0), (0, 0), (0, 0), (0, 0), (0, 0), (0, 0), (0, 400), (0, 1), (0, 11), (0, 0)], [], [(((0, 412), 0), .inr (3, (0, 411))), (((0, 412), 6), .inr (3, (0, 427)))], some (.inr (0, (0, 0)))), [])
def rxoRDXK_9_0 : bx_HO := (([(0, 0), (0, 0), (0, 0), (0, 0), (0, 0), (0, 0), (0, 0), (0, 0), (0, 400), (0, 1), (0, 11), (1, 1), (0, 399), (1, 400), (59, 59)], [(0, (12, 0), (13, 0)), (0, (12, 0), (13, 0)), (3, (11, 0), (0, 0))], [(((0, 0), 1851192626986356797424377080872646779465072059483645808762617856000000), .inr (0, (14, 0))), (((0, 0), 1851192626986356797625047037163794926384839479479878431350194176000000), .inr (0, (13, 0))), (((0, 412), 1), .inr (0, (13, 0))), (((0, 0), 1851192626986356797825753743950570534658660943933713684904017920000000), .inr (0, (12, 0))), (((0, 412), 2), .inr (0, (12, 0))), (((0, 412), 0), .inr (3, (0, 411))), (((0, 412), 6), .inr (3, (0, 427)))], 0, 0, 127, [(0, .inr (3, (0, 412))), (2, .inr (0, (8, 0))), (3, .inr (0, (9, 0))), (5, .inr (0, (10, 0)))], [.inr (3, (0, 412))]), [], [], [(0, 0), (0, 0), (0, 0), (0, 0), (0, 0), (0, 0), (0, 0), (0, 0), (8, 0), (9, 0), (10, 0)], 10)
def rxeRDXK_9_0 : rx_End × List (Nat × Int × Int) := (([(0, 0), (0, 0), (0, 0), (0, 0), (0, 0), (0, 0), (0, 0), (0, 0), (0, 400), (0, 1), (0, 11), (0, 0)], [], [(((0, 412), 0), .inr (3, (0, 411))), (((0, 412), 6), .inr (3, (0, 427)))], some (.inr (0, (0, 0)))), [])
def rxeRDXK_9_1 : rx_End × List (Nat × Int × Int) := (([(0, 0), (0, 0), (0, 0), (0, 0), (0, 0), (0, 0), (0, 0), (0, 0), (0, 400), (0, 1), (0, 11), (1, 1), (0, 400), (0, 400)], [(1, (13, 0), (12, 0)), (3, (11, 0), (0, 0))], [(((0, 0), 1851192626986356797625047037163794926384839479479878431350194176000000), .inr (0, (13, 0))), (((0, 412), 1), .inr (0, (13, 0))), (((0, 0), 1851192626986356797825753743950570534658660943933713684904017920000000), .inr (0, (12, 0))), (((0, 412), 2), .inr (0, (12, 0))), (((0, 412), 0), .inr (3, (0, 411))), (((0, 412), 6), .inr (3, (0, 427)))], some (.inr (0, (0, 1)))), [])
def rxeRDXK_9_2 : rx_End × List (Nat × Int × Int) := (([(0, 0), (0, 0), (0, 0), (0, 0), (0, 0), (0, 0), (0, 0), (0, 0), (0, 400), (0, 1), (0, 11), (1, 1), (0, 399), (1, 400), (0, 255)], [(3, (14, 0), (0, 59)), (0, (12, 0), (13, 0)), (0, (12, 0), (13, 0)), (3, (11, 0), (0, 0))], [(((0, 0), 1851192626986356798227167157524121751206303872841384192011665411000000), .inr (0, (12, 0))), (((0, 412), 4), .inr (0, (12, 0))), (((0, 0), 1851192626986356797424377080872646779465072059483645808762617856000000), .inr (0, (14, 0))), (((0, 0), 1851192626986356797625047037163794926384839479479878431350194176000000), .inr (0, (13, 0))), (((0, 412), 1), .inr (0, (13, 0))), (((0, 0), 1851192626986356797825753743950570534658660943933713684904017920000000), .inr (0, (12, 0))), (((0, 412), 2), .inr (0, (12, 0))), (((0, 412), 0), .inr (3, (0, 411))), (((0, 412), 6), .inr (3, (0, 427)))], some (.inr (0, (0, 0)))), [])
def rxoRDXK_11_0 : bx_HO := (([(0, 0), (0, 0), (0, 0), (0, 0), (0, 0), (0, 0), (0, 0), (0, 0), (0, 400), (0, 1), (0, 11)], [], [(((0, 412), 0), .inr (3, (0, 411))), (((0, 412), 6), .inr (3, (0, 427)))], 0, 0, 58, [(5, .inr (0, (10, 1))), (0, .inr (3, (0, 412))), (2, .inr (0, (8, 0))), (3, .inr (0, (9, 0)))], []), [], [], [(0, 0), (0, 0), (0, 0), (0, 0), (0, 0), (0, 0), (0, 0), (0, 0), (8, 0), (9, 0), (10, 1)], 3)
def rxYRDXK : List bx_HE := [(rxzRDXK_0, [rxoRDXK_0_0], []), (rxzRDXK_1, [], []), (rxzRDXK_2, [rxoRDXK_2_0], []), (rxzRDXK_3, [rxoRDXK_3_0, rxoRDXK_3_1], [rxeRDXK_3_0]), (rxzRDXK_4, [], []), (rxzRDXK_5, [rxoRDXK_5_0], [rxeRDXK_5_0]), (rxzRDXK_6, [], []), (rxzRDXK_7, [rxoRDXK_7_0], [rxeRDXK_7_0]), (rxzRDXK_8, [], []), (rxzRDXK_9, [rxoRDXK_9_0], [rxeRDXK_9_0, rxeRDXK_9_1, rxeRDXK_9_2]), (rxzRDXK_10, [], []), (rxzRDXK_11, [rxoRDXK_11_0], [])]
def rxURDXK (q : bx_HE) : Bool := Nat.beq (rx_zpc q.1) 52 || Nat.beq (rx_zpc q.1) 73 || Nat.beq (rx_zpc q.1) 80 || Nat.beq (rx_zpc q.1) 91 || Nat.beq (rx_zpc q.1) 127
def rxYBRDXK : bx_B := (rxV, rxNP, rxDmf, bx_mdH rxCRDXK.2.2.1)
set_option maxRecDepth 100000 in
theorem rxYcRDXK : bx_chkH rxYBRDXK rxM119 rxCRDXK rxYRDXK (rxURDXK, fun cut z => rx_ex2 (rxCT rxYBRDXK rxCnE) cut 30000 rxCRDXK.2.2.2.1 119 z) = true := by decide +kernel
def rxIRDXK (S0 : Nat → Int → Int) (ws : List Int) (i : Nat) : bx_SP := fun S r => match i with | 0 => rxIRDXK_0 S0 ws S (r 8) (r 9) | 1 => rxIRDXK_1 S0 ws S (r 8) (r 9) | 2 => rxIRDXK_2 S0 ws S (r 8) (r 9) | 3 => rxIRDXK_3 S0 ws S (r 8) (r 9) (r 10) | 4 => rxIRDXK_4 S0 ws S (r 8) (r 9) (r 10) | 5 => rxIRDXK_5 S0 ws S (r 8) (r 9) (r 10) (r 11) | 6 => rxIRDXK_6 S0 ws S (r 8) (r 9) (r 10) | 7 => rxIRDXK_7 S0 ws S (r 8) (r 9) (r 10) (r 11) | 8 => rxIRDXK_8 S0 ws S (r 8) (r 9) (r 10) | 9 => rxIRDXK_9 S0 ws S (r 8) (r 9) (r 10) (r 11) | 10 => rxIRDXK_10 S0 ws S (r 8) (r 9) (r 10) | 11 => rxIRDXK_11 S0 ws S (r 8) (r 9) (r 10) | _ => False
def rxmRDXK (S0 : Nat → Int → Int) (ws : List Int) (i : Nat) (S : Nat → Int → Int) (r : Nat → Int) : Nat := match i with | 0 => rxmRDXK_0 S0 ws S (r 8) (r 9) | 1 => rxmRDXK_1 S0 ws S (r 8) (r 9) | 2 => rxmRDXK_2 S0 ws S (r 8) (r 9) | 3 => rxmRDXK_3 S0 ws S (r 8) (r 9) (r 10) | 4 => rxmRDXK_4 S0 ws S (r 8) (r 9) (r 10) | 5 => rxmRDXK_5 S0 ws S (r 8) (r 9) (r 10) (r 11) | 6 => rxmRDXK_6 S0 ws S (r 8) (r 9) (r 10) | 7 => rxmRDXK_7 S0 ws S (r 8) (r 9) (r 10) (r 11) | 8 => rxmRDXK_8 S0 ws S (r 8) (r 9) (r 10) | 9 => rxmRDXK_9 S0 ws S (r 8) (r 9) (r 10) (r 11) | 10 => rxmRDXK_10 S0 ws S (r 8) (r 9) (r 10) | 11 => rxmRDXK_11 S0 ws S (r 8) (r 9) (r 10) | _ => 0
def rxPRDXK (S0 : Nat → Int → Int) (ws : List Int) : Prop := rxPRDX S0 ws
def rxPSRDXK (S0 : Nat → Int → Int) (ws : List Int) (S : Nat → Int → Int) (w : Option Int) : Prop := rxPSRDX S0 ws S w ∧ (∃ nb ap : Int, ws = [412, 411, nb, ap, 427] ∧ (w = some 1 → rkPp S0 → ∃ L : List rkQ, rkText (decide (ap = 1)) (rzCut (S0 411)) nb L ∧ S 427 4 = (L.length : Int) ∧ L.length ≤ 12 ∧ rkPd S 0 L ∧ rkPp S))
theorem rxkRDXK_1 {S0 : Nat → Int → Int} {ws : List Int} {S : Nat → Int → Int} {nb ap : Int} (hP : rxPRDXK S0 ws) (hin : bx_same rxL (bx_mdl rxCRDXK.2.2.1) S0 S) (I0 : bx_Inv rxL S) (hinv : rxIRDXK_1 S0 ws S nb ap) (l8 : 0 ≤ nb) (u8 : nb ≤ 400) (l9 : 0 ≤ ap) (u9 : ap ≤ 1) : rxPAD S [412] ∧ ∀ (S_p : Nat → Int → Int), rxPSAD S [412] S_p none → bx_Inv rxL S_p → bx_same rxL (bx_mdl rxC84.2.2.1) S S_p → rxIRDXK_2 S0 ws S_p nb ap ∧ rxmRDXK_2 S0 ws S_p nb ap < rxmRDXK_1 S0 ws S nb ap := by
  obtain ⟨hI, hx⟩ := hinv
  have g_ := rxkRDX_1 hP hin I0 hI l8 u8 l9 u9
  exact ⟨g_.1, fun S_p hq I1 hsm => ⟨⟨(g_.2 S_p hq I1 hsm).1, (by
    obtain ⟨hw, hR, h3, h7⟩ := hI
    refine ⟨fun hp => ?_, ?_, (hsm 412 7 (by decide) (by decide) (by decide +kernel)).trans h7⟩
    · obtain ⟨g1, g2, g3⟩ := hx hp
      obtain ⟨a1, a2, a3, a4, a5, a6, a7⟩ := rkPs_sm (S0 := S) rkPs_rf hsm (by decide +kernel)
      exact ⟨a1.trans g1, a2.trans g2, a5.trans g3.1, a6.trans g3.2.1, a7.trans g3.2.2⟩
    · rw [hq.2.1, hR.1, hR.2.1, h3])⟩, (g_.2 S_p hq I1 hsm).2⟩⟩
theorem rxsRDXK_1 {X : (Nat → Int → Int) → Prop} {S0 : Nat → Int → Int} {ws : List Int} (hP : rxPRDXK S0 ws) : rx_obK X S0 rxCRDXK.2.2.1 rxC84.2.2.1 (rxIRDXK S0 ws) (rxmRDXK S0 ws) 1 2 rxzRDXK_1 rxzRDXK_2 [.inr (3, (0, 412))] none rxPAD rxPSAD := by
  intro S r hinv hXS I0 hin hs_ hf_
  have b_ := bx_bds_sat hs_
  have f_ := bx_fcl_ok hs_.1 hf_
  obtain ⟨⟨l8, u8⟩, ⟨l9, u9⟩, -⟩ := b_
  have g := rxkRDXK_1 hP hin I0 hinv l8 u8 l9 u9
  have ea : List.map (bx_num r) [.inr (3, (0, 412))] = [412] := by
    simp only [List.map_cons, List.map_nil, bx_xv_ok hs_.1]
    rfl
  rw [ea]
  refine ⟨g.1, fun S_p w r_p hPS hX_p I1 hsm hr hw hs_p => ?_⟩
  have hw : w = none := hPS.1
  subst hw
  have g2 := g.2 S_p hPS I1 hsm
  show rxIRDXK_2 S0 ws S_p (r_p 8) (r_p 9) ∧ rxmRDXK_2 S0 ws S_p (r_p 8) (r_p 9) < _
  rw [hr 8 (by decide), hr 9 (by decide)]
  exact g2
theorem rxkRDXK_4 {S0 : Nat → Int → Int} {ws : List Int} {S : Nat → Int → Int} {nb ap cl : Int} (hP : rxPRDXK S0 ws) (hin : bx_same rxL (bx_mdl rxCRDXK.2.2.1) S0 S) (I0 : bx_Inv rxL S) (hinv : rxIRDXK_4 S0 ws S nb ap cl) (l8 : 0 ≤ nb) (u8 : nb ≤ 400) (l9 : 0 ≤ ap) (u9 : ap ≤ 1) (l10 : 0 ≤ cl) (u10 : cl ≤ 11) : rxPRPCK S [412] ∧ ∀ (S_p : Nat → Int → Int) (res : Int), 0 ≤ res → res ≤ 1 → rxPSRPCK S [412] S_p (some res) → bx_Inv rxL S_p → bx_same rxL (bx_mdl rxCRPCK.2.2.1) S S_p → rxIRDXK_5 S0 ws S_p nb ap cl res ∧ rxmRDXK_5 S0 ws S_p nb ap cl res < rxmRDXK_4 S0 ws S nb ap cl := by
  obtain ⟨hI, hx⟩ := hinv
  have g_ := rxkRDX_4 hP hin I0 hI l8 u8 l9 u9 l10 u10
  exact ⟨g_.1, fun S_p res l_ u_ hq I1 hsm => ⟨⟨(g_.2 S_p res l_ u_ hq.1 I1 hsm).1, (by
    obtain ⟨ha, hw, S1, hR, hA⟩ := hI
    intro g_
    have eT : rzCut (S 411) = rzCut (S0 411) := hA.1.1.trans hR.1
    have e1 : S 412 1 = nb := hA.1.2.1.trans hR.2.1
    have e5 : S 412 5 = ap := hA.1.2.2.1.trans hR.2.2.1
    have hW : rzWs S = rzPn := by
      unfold rzWs
      rw [e5, if_pos (by omega)]
    have hd : decide (ap = 1) = true := decide_eq_true (by omega)
    obtain ⟨hq0, hq1⟩ := hq
    obtain ⟨r, r1, r2⟩ := hq0
    rw [eT, e1, hW] at r1
    have hq1 := hq1 (by rw [g_])
    rw [eT, e1, hW] at hq1
    rcases r2 with ⟨-, -, -, -, p2, p7⟩ | ⟨z, -⟩
    · refine rkLq_of hx (by omega) (by omega) I0 (r := r) ?_ p2 p7 ?_
      · rw [hd]
        exact r1
      · rw [hd]
        exact hq1
    · exfalso
      have := Option.some.inj z
      omega)⟩, (g_.2 S_p res l_ u_ hq.1 I1 hsm).2⟩⟩
theorem rxsRDXK_4 {X : (Nat → Int → Int) → Prop} {S0 : Nat → Int → Int} {ws : List Int} (hP : rxPRDXK S0 ws) : rx_obK X S0 rxCRDXK.2.2.1 rxCRPCK.2.2.1 (rxIRDXK S0 ws) (rxmRDXK S0 ws) 4 5 rxzRDXK_4 rxzRDXK_5 [.inr (3, (0, 412))] (some 11) rxPRPCK rxPSRPCK := by
  intro S r hinv hXS I0 hin hs_ hf_
  have b_ := bx_bds_sat hs_
  have f_ := bx_fcl_ok hs_.1 hf_
  obtain ⟨⟨l8, u8⟩, ⟨l9, u9⟩, ⟨l10, u10⟩, -⟩ := b_
  have g := rxkRDXK_4 hP hin I0 hinv l8 u8 l9 u9 l10 u10
  have ea : List.map (bx_num r) [.inr (3, (0, 412))] = [412] := by
    simp only [List.map_cons, List.map_nil, bx_xv_ok hs_.1]
    rfl
  rw [ea]
  refine ⟨g.1, fun S_p w r_p hPS hX_p I1 hsm hr hw hs_p => ?_⟩
  have hw := hw _ rfl
  subst hw
  have b_p := hs_p.2.2 11 _ _ rfl
  have g2 := g.2 S_p (r_p 11) b_p.1 b_p.2 hPS I1 hsm
  show rxIRDXK_5 S0 ws S_p (r_p 8) (r_p 9) (r_p 10) (r_p 11) ∧ rxmRDXK_5 S0 ws S_p (r_p 8) (r_p 9) (r_p 10) (r_p 11) < _
  rw [hr 8 (by decide), hr 9 (by decide), hr 10 (by decide)]
  exact g2
theorem rxkRDXK_6 {S0 : Nat → Int → Int} {ws : List Int} {S : Nat → Int → Int} {nb ap cl : Int} (hP : rxPRDXK S0 ws) (hin : bx_same rxL (bx_mdl rxCRDXK.2.2.1) S0 S) (I0 : bx_Inv rxL S) (hinv : rxIRDXK_6 S0 ws S nb ap cl) (l8 : 0 ≤ nb) (u8 : nb ≤ 400) (l9 : 0 ≤ ap) (u9 : ap ≤ 1) (l10 : 0 ≤ cl) (u10 : cl ≤ 11) : rxPRLCK S [412] ∧ ∀ (S_p : Nat → Int → Int) (res : Int), 0 ≤ res → res ≤ 1 → rxPSRLCK S [412] S_p (some res) → bx_Inv rxL S_p → bx_same rxL (bx_mdl rxCRLCK.2.2.1) S S_p → rxIRDXK_7 S0 ws S_p nb ap cl res ∧ rxmRDXK_7 S0 ws S_p nb ap cl res < rxmRDXK_6 S0 ws S nb ap cl := by
  obtain ⟨hI, hx⟩ := hinv
  have g_ := rxkRDX_6 hP hin I0 hI l8 u8 l9 u9 l10 u10
  exact ⟨g_.1, fun S_p res l_ u_ hq I1 hsm => ⟨⟨(g_.2 S_p res l_ u_ hq.1 I1 hsm).1, (by
    obtain ⟨ha, hw, S1, hR, hA⟩ := hI
    intro g_
    have eT : rzCut (S 411) = rzCut (S0 411) := hA.1.1.trans hR.1
    have e1 : S 412 1 = nb := hA.1.2.1.trans hR.2.1
    have e5 : S 412 5 = ap := hA.1.2.2.1.trans hR.2.2.1
    have hW : rzWs S = rzLn_ := by
      unfold rzWs
      rw [e5, if_neg (by omega)]
    have hd : decide (ap = 1) = false := decide_eq_false (by omega)
    obtain ⟨hq0, hq1⟩ := hq
    obtain ⟨r, r1, r2⟩ := hq0
    rw [eT, e1, hW] at r1
    have hq1 := hq1 (by rw [g_])
    rw [eT, e1, hW] at hq1
    rcases r2 with ⟨-, -, -, -, p2, p7⟩ | ⟨z, -⟩
    · refine rkLq_of hx (by omega) (by omega) I0 (r := r) ?_ p2 p7 ?_
      · rw [hd]
        exact r1
      · rw [hd]
        exact hq1
    · exfalso
      have := Option.some.inj z
      omega)⟩, (g_.2 S_p res l_ u_ hq.1 I1 hsm).2⟩⟩
theorem rxsRDXK_6 {X : (Nat → Int → Int) → Prop} {S0 : Nat → Int → Int} {ws : List Int} (hP : rxPRDXK S0 ws) : rx_obK X S0 rxCRDXK.2.2.1 rxCRLCK.2.2.1 (rxIRDXK S0 ws) (rxmRDXK S0 ws) 6 7 rxzRDXK_6 rxzRDXK_7 [.inr (3, (0, 412))] (some 11) rxPRLCK rxPSRLCK := by
  intro S r hinv hXS I0 hin hs_ hf_
  have b_ := bx_bds_sat hs_
  have f_ := bx_fcl_ok hs_.1 hf_
  obtain ⟨⟨l8, u8⟩, ⟨l9, u9⟩, ⟨l10, u10⟩, -⟩ := b_
  have g := rxkRDXK_6 hP hin I0 hinv l8 u8 l9 u9 l10 u10
  have ea : List.map (bx_num r) [.inr (3, (0, 412))] = [412] := by
    simp only [List.map_cons, List.map_nil, bx_xv_ok hs_.1]
    rfl
  rw [ea]
  refine ⟨g.1, fun S_p w r_p hPS hX_p I1 hsm hr hw hs_p => ?_⟩
  have hw := hw _ rfl
  subst hw
  have b_p := hs_p.2.2 11 _ _ rfl
  have g2 := g.2 S_p (r_p 11) b_p.1 b_p.2 hPS I1 hsm
  show rxIRDXK_7 S0 ws S_p (r_p 8) (r_p 9) (r_p 10) (r_p 11) ∧ rxmRDXK_7 S0 ws S_p (r_p 8) (r_p 9) (r_p 10) (r_p 11) < _
  rw [hr 8 (by decide), hr 9 (by decide), hr 10 (by decide)]
  exact g2
theorem rxkRDXK_8 {S0 : Nat → Int → Int} {ws : List Int} {S : Nat → Int → Int} {nb ap cl : Int} (hP : rxPRDXK S0 ws) (hin : bx_same rxL (bx_mdl rxCRDXK.2.2.1) S0 S) (I0 : bx_Inv rxL S) (hinv : rxIRDXK_8 S0 ws S nb ap cl) (l8 : 0 ≤ nb) (u8 : nb ≤ 400) (l9 : 0 ≤ ap) (u9 : ap ≤ 1) (l10 : 0 ≤ cl) (u10 : cl ≤ 11) : rxPRIFK S [412] ∧ ∀ (S_p : Nat → Int → Int) (res : Int), 0 ≤ res → res ≤ 1 → rxPSRIFK S [412] S_p (some res) → bx_Inv rxL S_p → bx_same rxL (bx_mdl rxCRIFK.2.2.1) S S_p → rxIRDXK_9 S0 ws S_p nb ap cl res ∧ rxmRDXK_9 S0 ws S_p nb ap cl res < rxmRDXK_8 S0 ws S nb ap cl := by
  obtain ⟨hI, hx⟩ := hinv
  have g_ := rxkRDX_8 hP hin I0 hI l8 u8 l9 u9 l10 u10
  exact ⟨g_.1, fun S_p res l_ u_ hq I1 hsm => ⟨⟨(g_.2 S_p res l_ u_ hq.1 I1 hsm).1, (by
    obtain ⟨hw, S1, hR, hA⟩ := hI
    intro g_
    have eT : rzCut (S 411) = rzCut (S0 411) := hA.1.1.trans hR.1
    have e1 : S 412 1 = nb := hA.1.2.1.trans hR.2.1
    have e5 : S 412 5 = ap := hA.1.2.2.1.trans hR.2.2.1
    have hW : rzWs S = rkWs (decide (ap = 1)) := by
      unfold rzWs rkWs
      rw [e5]
      by_cases c : ap = 1
      · rw [if_pos c, if_pos (decide_eq_true c)]
      · rw [if_neg c, if_neg (by rw [decide_eq_false c]; decide)]
    obtain ⟨hq0, hq1⟩ := hq
    obtain ⟨r, r1, r2⟩ := hq0
    rw [eT, e1, hW] at r1
    rcases r2 with ⟨-, -, -, -, p2, p7⟩ | ⟨z, -⟩
    · exact rkLr_of hx (by omega) (by omega) I0 eT e1 hW r1 p2 p7 (hq1 (by rw [g_]))
    · exfalso
      have := Option.some.inj z
      omega)⟩, (g_.2 S_p res l_ u_ hq.1 I1 hsm).2⟩⟩
theorem rxsRDXK_8 {X : (Nat → Int → Int) → Prop} {S0 : Nat → Int → Int} {ws : List Int} (hP : rxPRDXK S0 ws) : rx_obK X S0 rxCRDXK.2.2.1 rxCRIFK.2.2.1 (rxIRDXK S0 ws) (rxmRDXK S0 ws) 8 9 rxzRDXK_8 rxzRDXK_9 [.inr (3, (0, 412))] (some 11) rxPRIFK rxPSRIFK := by
  intro S r hinv hXS I0 hin hs_ hf_
  have b_ := bx_bds_sat hs_
  have f_ := bx_fcl_ok hs_.1 hf_
  obtain ⟨⟨l8, u8⟩, ⟨l9, u9⟩, ⟨l10, u10⟩, -⟩ := b_
  have g := rxkRDXK_8 hP hin I0 hinv l8 u8 l9 u9 l10 u10
  have ea : List.map (bx_num r) [.inr (3, (0, 412))] = [412] := by
    simp only [List.map_cons, List.map_nil, bx_xv_ok hs_.1]
    rfl
  rw [ea]
  refine ⟨g.1, fun S_p w r_p hPS hX_p I1 hsm hr hw hs_p => ?_⟩
  have hw := hw _ rfl
  subst hw
  have b_p := hs_p.2.2 11 _ _ rfl
  have g2 := g.2 S_p (r_p 11) b_p.1 b_p.2 hPS I1 hsm
  show rxIRDXK_9 S0 ws S_p (r_p 8) (r_p 9) (r_p 10) (r_p 11) ∧ rxmRDXK_9 S0 ws S_p (r_p 8) (r_p 9) (r_p 10) (r_p 11) < _
  rw [hr 8 (by decide), hr 9 (by decide), hr 10 (by decide)]
  exact g2
theorem rxkRDXK_10 {S0 : Nat → Int → Int} {ws : List Int} {S : Nat → Int → Int} {nb ap cl : Int} (hP : rxPRDXK S0 ws) (hin : bx_same rxL (bx_mdl rxCRDXK.2.2.1) S0 S) (I0 : bx_Inv rxL S) (hinv : rxIRDXK_10 S0 ws S nb ap cl) (l8 : 0 ≤ nb) (u8 : nb ≤ 400) (l9 : 0 ≤ ap) (u9 : ap ≤ 1) (l10 : 0 ≤ cl) (u10 : cl ≤ 11) : rxPAD S [412] ∧ ∀ (S_p : Nat → Int → Int), rxPSAD S [412] S_p none → bx_Inv rxL S_p → bx_same rxL (bx_mdl rxC84.2.2.1) S S_p → rxIRDXK_11 S0 ws S_p nb ap cl ∧ rxmRDXK_11 S0 ws S_p nb ap cl < rxmRDXK_10 S0 ws S nb ap cl := by
  obtain ⟨hI, hx⟩ := hinv
  have g_ := rxkRDX_10 hP hin I0 hI l8 u8 l9 u9 l10 u10
  exact ⟨g_.1, fun S_p hq I1 hsm => ⟨⟨(g_.2 S_p hq I1 hsm).1, (by
    obtain ⟨hw, S1, hR, hA, hb⟩ := hI
    intro hp
    obtain ⟨L, h1, h2, h3, h4, h5, h6⟩ := hx hp
    have eT : rzCut (S 411) = rzCut (S0 411) := hA.1.1.trans hR.1
    have e1 : S 412 1 = nb := hA.1.2.1.trans hR.2.1
    obtain ⟨a1, a2, a3, a4, a5, a6, a7⟩ := rkPs_sm (S0 := S) rkPs_rf hsm (by decide +kernel)
    have bz : 0 ≤ S 427 0 ∧ S 427 0 ≤ 400 := I0 427 0 (by decide) (by decide)
    have e2 : S_p 412 2 = rzN (rzCut (S0 411)) nb (S 412 2) := by
      rw [hq.2.1, hA.2.1.1, eT, e1]
      rfl
    have b2 := (rzN_b (T := rzCut (S0 411)) (n := nb) (f := S 412 2)).1
    refine ⟨L, a2.trans h1, h2, ⟨a5.trans h3.1, a6.trans h3.2.1, a7.trans h3.2.2⟩, by omega, rkPd_fr (c := 12) (fun i u v => a3 i u (by omega)) (by omega) a4 (Int.le_refl 0) (by omega) h5, fun L' hL => h6 L' (rzAlt_y hb ?_)⟩
    rw [e2, show S_p 412 7 = S 412 7 from hsm 412 7 (by decide) (by decide) (by decide +kernel), show (12 - (cl + 1)).toNat = (11 - cl).toNat by omega] at hL
    exact hL)⟩, (g_.2 S_p hq I1 hsm).2⟩⟩
theorem rxsRDXK_10 {X : (Nat → Int → Int) → Prop} {S0 : Nat → Int → Int} {ws : List Int} (hP : rxPRDXK S0 ws) : rx_obK X S0 rxCRDXK.2.2.1 rxC84.2.2.1 (rxIRDXK S0 ws) (rxmRDXK S0 ws) 10 11 rxzRDXK_10 rxzRDXK_11 [.inr (3, (0, 412))] none rxPAD rxPSAD := by
  intro S r hinv hXS I0 hin hs_ hf_
  have b_ := bx_bds_sat hs_
  have f_ := bx_fcl_ok hs_.1 hf_
  obtain ⟨⟨l8, u8⟩, ⟨l9, u9⟩, ⟨l10, u10⟩, -⟩ := b_
  have g := rxkRDXK_10 hP hin I0 hinv l8 u8 l9 u9 l10 u10
  have ea : List.map (bx_num r) [.inr (3, (0, 412))] = [412] := by
    simp only [List.map_cons, List.map_nil, bx_xv_ok hs_.1]
    rfl
  rw [ea]
  refine ⟨g.1, fun S_p w r_p hPS hX_p I1 hsm hr hw hs_p => ?_⟩
  have hw : w = none := hPS.1
  subst hw
  have g2 := g.2 S_p hPS I1 hsm
  show rxIRDXK_11 S0 ws S_p (r_p 8) (r_p 9) (r_p 10) ∧ rxmRDXK_11 S0 ws S_p (r_p 8) (r_p 9) (r_p 10) < _
  rw [hr 8 (by decide), hr 9 (by decide), hr 10 (by decide)]
  exact g2
theorem rxcRDXK_0_0 {S0 : Nat → Int → Int} {ws : List Int} {S : Nat → Int → Int} {nb ap : Int} (hP : rxPRDXK S0 ws) (hin : bx_same rxL (bx_mdl rxCRDXK.2.2.1) S0 S) (I0 : bx_Inv rxL S) (hinv : rxIRDXK_0 S0 ws S nb ap) (l8 : 0 ≤ nb) (u8 : nb ≤ 400) (l9 : 0 ≤ ap) (u9 : ap ≤ 1) : (True) ∧ (True) ∧ rxIRDXK_1 S0 ws (bx_up (bx_up (bx_up (bx_up (bx_up (bx_up (bx_up (bx_up (bx_up S 412 0 411) 412 1 nb) 412 3 0) 412 4 ((-1))) 412 5 ap) 412 6 427) 427 0 0) 427 4 0) 412 7 0) nb ap ∧ rxmRDXK_1 S0 ws (bx_up (bx_up (bx_up (bx_up (bx_up (bx_up (bx_up (bx_up (bx_up S 412 0 411) 412 1 nb) 412 3 0) 412 4 ((-1))) 412 5 ap) 412 6 427) 427 0 0) 427 4 0) 412 7 0) nb ap < rxmRDXK_0 S0 ws S nb ap := by
  obtain ⟨hI, hx⟩ := hinv
  obtain ⟨a_, b_, c_, d_⟩ := rxcRDX_0_0 hP hin I0 hI l8 u8 l9 u9
  exact ⟨a_, b_, ⟨c_, (by
    obtain ⟨e, -⟩ := hI
    subst e
    exact fun hp => ⟨((bx_up_ne (by omega)).trans ((bx_up_ne (by omega)).trans (bx_up_at))), ((bx_up_ne (by omega)).trans (bx_up_at)), ((bx_up_ne (by omega)).trans ((bx_up_ne (by omega)).trans ((bx_up_ne (by omega)).trans ((bx_up_ne (by omega)).trans ((bx_up_ne (by omega)).trans ((bx_up_ne (by omega)).trans ((bx_up_ne (by omega)).trans ((bx_up_ne (by omega)).trans ((bx_up_ne (by omega))))))))))).trans hp.1, ((bx_up_ne (by omega)).trans ((bx_up_ne (by omega)).trans ((bx_up_ne (by omega)).trans ((bx_up_ne (by omega)).trans ((bx_up_ne (by omega)).trans ((bx_up_ne (by omega)).trans ((bx_up_ne (by omega)).trans ((bx_up_ne (by omega)).trans ((bx_up_ne (by omega))))))))))).trans hp.2.1, ((bx_up_ne (by omega)).trans ((bx_up_ne (by omega)).trans ((bx_up_ne (by omega)).trans ((bx_up_ne (by omega)).trans ((bx_up_ne (by omega)).trans ((bx_up_ne (by omega)).trans ((bx_up_ne (by omega)).trans ((bx_up_ne (by omega)).trans ((bx_up_ne (by omega))))))))))).trans hp.2.2⟩)⟩, d_⟩
theorem rxgRDXK_0_0 {X : (Nat → Int → Int) → Prop} {S0 : Nat → Int → Int} {ws : List Int} (hP : rxPRDXK S0 ws) : bx_obC rxL X S0 rxCRDXK.2.2.1 (rxIRDXK S0 ws) (rxmRDXK S0 ws) 0 rxzRDXK_0 rxoRDXK_0_0 := by
  intro S S_p r r_p hinv hX hin hsm_ hseg
  obtain ⟨I0, I1, h0_, hr_, b_, f_, d_⟩ := bx_cl (evs := [(1, (0, 412), (0, 7), .inr (0, (0, 0))), (1, (0, 427), (0, 4), .inr (0, (0, 0))), (1, (0, 427), (0, 0), .inr (0, (0, 0))), (1, (0, 412), (0, 6), .inr (3, (0, 427))), (1, (0, 412), (0, 5), .inr (0, (9, 0))), (1, (0, 412), (0, 4), .inr (0, (0, (-1)))), (1, (0, 412), (0, 3), .inr (0, (0, 0))), (1, (0, 412), (0, 1), .inr (0, (8, 0))), (1, (0, 412), (0, 0), .inr (3, (0, 411)))]) (fvs := []) hseg (by decide +kernel) (by decide +kernel)
  have hinv : rxIRDXK_0 S0 ws S (r 8) (r 9) := hinv
  rw [← hr_ 8 (by decide), ← hr_ 9 (by decide)] at hinv
  obtain ⟨⟨l8, u8⟩, ⟨l9, u9⟩, -⟩ := b_
  obtain ⟨T0, ⟨T1, ⟨T2, ⟨T3, ⟨T4, ⟨T5, ⟨T6, ⟨T7, ⟨T8, w_, w8⟩, w7⟩, w6⟩, w5⟩, w4⟩, w3⟩, w2⟩, w1⟩, w0⟩ := d_
  subst w0
  subst w1
  subst w2
  subst w3
  subst w4
  subst w5
  subst w6
  subst w7
  subst w8
  subst w_
  have g := rxcRDXK_0_0 hP hin I0 hinv l8 u8 l9 u9
  refine ⟨bx_narP_ok (l := []) g.1, bx_nfP_ok h0_ (fvs := []) (by decide +kernel) g.2.1, ?_, ?_⟩
  · show rxIRDXK_1 S0 ws (bx_up (bx_up (bx_up (bx_up (bx_up (bx_up (bx_up (bx_up (bx_up T8 412 (0) (411)) 412 (1) (r_p 8)) 412 (3) (0)) 412 (4) ((-1))) 412 (5) (r_p 9)) 412 (6) (427)) 427 (0) (0)) 427 (4) (0)) 412 (7) (0)) (bx_val [(0, 0), (0, 0), (0, 0), (0, 0), (0, 0), (0, 0), (0, 0), (0, 0), (8, 0), (9, 0)] r_p 8) (bx_val [(0, 0), (0, 0), (0, 0), (0, 0), (0, 0), (0, 0), (0, 0), (0, 0), (8, 0), (9, 0)] r_p 9)
    rw [bx_val_x (n := 8) (e := (8, 0)) h0_ rfl, bx_val_x (n := 9) (e := (9, 0)) h0_ rfl]
    exact g.2.2.1
  · show rxmRDXK_1 S0 ws (bx_up (bx_up (bx_up (bx_up (bx_up (bx_up (bx_up (bx_up (bx_up T8 412 (0) (411)) 412 (1) (r_p 8)) 412 (3) (0)) 412 (4) ((-1))) 412 (5) (r_p 9)) 412 (6) (427)) 427 (0) (0)) 427 (4) (0)) 412 (7) (0)) (bx_val [(0, 0), (0, 0), (0, 0), (0, 0), (0, 0), (0, 0), (0, 0), (0, 0), (8, 0), (9, 0)] r_p 8) (bx_val [(0, 0), (0, 0), (0, 0), (0, 0), (0, 0), (0, 0), (0, 0), (0, 0), (8, 0), (9, 0)] r_p 9) < rxmRDXK_0 S0 ws T8 (r 8) (r 9)
    rw [bx_val_x (n := 8) (e := (8, 0)) h0_ rfl, bx_val_x (n := 9) (e := (9, 0)) h0_ rfl, ← hr_ 8 (by decide), ← hr_ 9 (by decide)]
    exact g.2.2.2
theorem rxcRDXK_2_0 {S0 : Nat → Int → Int} {ws : List Int} {S : Nat → Int → Int} {nb ap : Int} (hP : rxPRDXK S0 ws) (hin : bx_same rxL (bx_mdl rxCRDXK.2.2.1) S0 S) (I0 : bx_Inv rxL S) (hinv : rxIRDXK_2 S0 ws S nb ap) (l8 : 0 ≤ nb) (u8 : nb ≤ 400) (l9 : 0 ≤ ap) (u9 : ap ≤ 1) : (True) ∧ (True) ∧ rxIRDXK_3 S0 ws S nb ap 0 ∧ rxmRDXK_3 S0 ws S nb ap 0 < rxmRDXK_2 S0 ws S nb ap := by
  obtain ⟨hI, hx⟩ := hinv
  obtain ⟨a_, b_, c_, d_⟩ := rxcRDX_2_0 hP hin I0 hI l8 u8 l9 u9
  exact ⟨a_, b_, ⟨c_, (by
    refine fun hp => ⟨[], ?_, ?_, (hx.1 hp).2.2, ?_, trivial, fun L' hL => ?_⟩
    · exact (hx.1 hp).2.1
    · rfl
    · rw [(hx.1 hp).1, hx.2.1]
      exact rzF_b.1
    · rw [hx.2.1, hx.2.2] at hL
      exact hL)⟩, d_⟩
theorem rxgRDXK_2_0 {X : (Nat → Int → Int) → Prop} {S0 : Nat → Int → Int} {ws : List Int} (hP : rxPRDXK S0 ws) : bx_obC rxL X S0 rxCRDXK.2.2.1 (rxIRDXK S0 ws) (rxmRDXK S0 ws) 2 rxzRDXK_2 rxoRDXK_2_0 := by
  intro S S_p r r_p hinv hX hin hsm_ hseg
  obtain ⟨I0, I1, h0_, hr_, b_, f_, d_⟩ := bx_cl (evs := []) (fvs := []) hseg (by decide +kernel) (by decide +kernel)
  have hinv : rxIRDXK_2 S0 ws S (r 8) (r 9) := hinv
  rw [← hr_ 8 (by decide), ← hr_ 9 (by decide)] at hinv
  obtain ⟨⟨l8, u8⟩, ⟨l9, u9⟩, -⟩ := b_
  have w_ := d_
  subst w_
  have g := rxcRDXK_2_0 hP hin I0 hinv l8 u8 l9 u9
  refine ⟨bx_narP_ok (l := []) g.1, bx_nfP_ok h0_ (fvs := []) (by decide +kernel) g.2.1, ?_, ?_⟩
  · show rxIRDXK_3 S0 ws S_p (bx_val [(0, 0), (0, 0), (0, 0), (0, 0), (0, 0), (0, 0), (0, 0), (0, 0), (8, 0), (9, 0), (0, 0)] r_p 8) (bx_val [(0, 0), (0, 0), (0, 0), (0, 0), (0, 0), (0, 0), (0, 0), (0, 0), (8, 0), (9, 0), (0, 0)] r_p 9) (bx_val [(0, 0), (0, 0), (0, 0), (0, 0), (0, 0), (0, 0), (0, 0), (0, 0), (8, 0), (9, 0), (0, 0)] r_p 10)
    rw [bx_val_x (n := 8) (e := (8, 0)) h0_ rfl, bx_val_x (n := 9) (e := (9, 0)) h0_ rfl, bx_val_x (n := 10) (e := (0, 0)) h0_ rfl]
    exact g.2.2.1
  · show rxmRDXK_3 S0 ws S_p (bx_val [(0, 0), (0, 0), (0, 0), (0, 0), (0, 0), (0, 0), (0, 0), (0, 0), (8, 0), (9, 0), (0, 0)] r_p 8) (bx_val [(0, 0), (0, 0), (0, 0), (0, 0), (0, 0), (0, 0), (0, 0), (0, 0), (8, 0), (9, 0), (0, 0)] r_p 9) (bx_val [(0, 0), (0, 0), (0, 0), (0, 0), (0, 0), (0, 0), (0, 0), (0, 0), (8, 0), (9, 0), (0, 0)] r_p 10) < rxmRDXK_2 S0 ws S_p (r 8) (r 9)
    rw [bx_val_x (n := 8) (e := (8, 0)) h0_ rfl, bx_val_x (n := 9) (e := (9, 0)) h0_ rfl, bx_val_x (n := 10) (e := (0, 0)) h0_ rfl, ← hr_ 8 (by decide), ← hr_ 9 (by decide)]
    exact g.2.2.2
theorem rxcRDXK_3_0 {S0 : Nat → Int → Int} {ws : List Int} {S : Nat → Int → Int} {nb ap cl x11 : Int} (hP : rxPRDXK S0 ws) (hin : bx_same rxL (bx_mdl rxCRDXK.2.2.1) S0 S) (I0 : bx_Inv rxL S) (hinv : rxIRDXK_3 S0 ws S nb ap cl) (l8 : 0 ≤ nb) (u8 : nb ≤ 400) (l9 : 0 ≤ ap) (u9 : ap ≤ 1) (l10 : 0 ≤ cl) (u10 : cl ≤ 11) (l11 : 1 ≤ x11) (u11 : x11 ≤ 1) (f0 : x11 ≠ 0) (e0 : S 412 5 = x11) : (True) ∧ (True) ∧ rxIRDXK_4 S0 ws S nb ap cl ∧ rxmRDXK_4 S0 ws S nb ap cl < rxmRDXK_3 S0 ws S nb ap cl := by
  obtain ⟨hI, hx⟩ := hinv
  obtain ⟨a_, b_, c_, d_⟩ := rxcRDX_3_0 hP hin I0 hI l8 u8 l9 u9 l10 u10 l11 u11 f0 e0
  exact ⟨a_, b_, ⟨c_, hx⟩, d_⟩
theorem rxgRDXK_3_0 {X : (Nat → Int → Int) → Prop} {S0 : Nat → Int → Int} {ws : List Int} (hP : rxPRDXK S0 ws) : bx_obC rxL X S0 rxCRDXK.2.2.1 (rxIRDXK S0 ws) (rxmRDXK S0 ws) 3 rxzRDXK_3 rxoRDXK_3_0 := by
  intro S S_p r r_p hinv hX hin hsm_ hseg
  obtain ⟨I0, I1, h0_, hr_, b_, f_, d_⟩ := bx_cl (evs := [(0, (0, 412), (0, 5), .inr (0, (11, 0)))]) (fvs := [(3, (11, 0), (0, 0), (0, 0))]) hseg (by decide +kernel) (by decide +kernel)
  have hinv : rxIRDXK_3 S0 ws S (r 8) (r 9) (r 10) := hinv
  rw [← hr_ 8 (by decide), ← hr_ 9 (by decide), ← hr_ 10 (by decide)] at hinv
  obtain ⟨⟨l8, u8⟩, ⟨l9, u9⟩, ⟨l10, u10⟩, ⟨l11, u11⟩, -⟩ := b_
  obtain ⟨f0, -⟩ := f_
  obtain ⟨e0, w_⟩ := d_
  subst w_
  have g := rxcRDXK_3_0 hP hin I0 hinv l8 u8 l9 u9 l10 u10 l11 u11 f0 e0
  refine ⟨bx_narP_ok (l := []) g.1, bx_nfP_ok h0_ (fvs := []) (by decide +kernel) g.2.1, ?_, ?_⟩
  · show rxIRDXK_4 S0 ws S_p (bx_val [(0, 0), (0, 0), (0, 0), (0, 0), (0, 0), (0, 0), (0, 0), (0, 0), (8, 0), (9, 0), (10, 0)] r_p 8) (bx_val [(0, 0), (0, 0), (0, 0), (0, 0), (0, 0), (0, 0), (0, 0), (0, 0), (8, 0), (9, 0), (10, 0)] r_p 9) (bx_val [(0, 0), (0, 0), (0, 0), (0, 0), (0, 0), (0, 0), (0, 0), (0, 0), (8, 0), (9, 0), (10, 0)] r_p 10)
    rw [bx_val_x (n := 8) (e := (8, 0)) h0_ rfl, bx_val_x (n := 9) (e := (9, 0)) h0_ rfl, bx_val_x (n := 10) (e := (10, 0)) h0_ rfl]
    exact g.2.2.1
  · show rxmRDXK_4 S0 ws S_p (bx_val [(0, 0), (0, 0), (0, 0), (0, 0), (0, 0), (0, 0), (0, 0), (0, 0), (8, 0), (9, 0), (10, 0)] r_p 8) (bx_val [(0, 0), (0, 0), (0, 0), (0, 0), (0, 0), (0, 0), (0, 0), (0, 0), (8, 0), (9, 0), (10, 0)] r_p 9) (bx_val [(0, 0), (0, 0), (0, 0), (0, 0), (0, 0), (0, 0), (0, 0), (0, 0), (8, 0), (9, 0), (10, 0)] r_p 10) < rxmRDXK_3 S0 ws S_p (r 8) (r 9) (r 10)
    rw [bx_val_x (n := 8) (e := (8, 0)) h0_ rfl, bx_val_x (n := 9) (e := (9, 0)) h0_ rfl, bx_val_x (n := 10) (e := (10, 0)) h0_ rfl, ← hr_ 8 (by decide), ← hr_ 9 (by decide), ← hr_ 10 (by decide)]
    exact g.2.2.2
theorem rxcRDXK_3_1 {S0 : Nat → Int → Int} {ws : List Int} {S : Nat → Int → Int} {nb ap cl x11 : Int} (hP : rxPRDXK S0 ws) (hin : bx_same rxL (bx_mdl rxCRDXK.2.2.1) S0 S) (I0 : bx_Inv rxL S) (hinv : rxIRDXK_3 S0 ws S nb ap cl) (l8 : 0 ≤ nb) (u8 : nb ≤ 400) (l9 : 0 ≤ ap) (u9 : ap ≤ 1) (l10 : 0 ≤ cl) (u10 : cl ≤ 11) (l11 : 0 ≤ x11) (u11 : x11 ≤ 0) (e0 : S 412 5 = x11) : (True) ∧ (True) ∧ rxIRDXK_6 S0 ws S nb ap cl ∧ rxmRDXK_6 S0 ws S nb ap cl < rxmRDXK_3 S0 ws S nb ap cl := by
  obtain ⟨hI, hx⟩ := hinv
  obtain ⟨a_, b_, c_, d_⟩ := rxcRDX_3_1 hP hin I0 hI l8 u8 l9 u9 l10 u10 l11 u11 e0
  exact ⟨a_, b_, ⟨c_, hx⟩, d_⟩
theorem rxgRDXK_3_1 {X : (Nat → Int → Int) → Prop} {S0 : Nat → Int → Int} {ws : List Int} (hP : rxPRDXK S0 ws) : bx_obC rxL X S0 rxCRDXK.2.2.1 (rxIRDXK S0 ws) (rxmRDXK S0 ws) 3 rxzRDXK_3 rxoRDXK_3_1 := by
  intro S S_p r r_p hinv hX hin hsm_ hseg
  obtain ⟨I0, I1, h0_, hr_, b_, f_, d_⟩ := bx_cl (evs := [(0, (0, 412), (0, 5), .inr (0, (11, 0)))]) (fvs := []) hseg (by decide +kernel) (by decide +kernel)
  have hinv : rxIRDXK_3 S0 ws S (r 8) (r 9) (r 10) := hinv
  rw [← hr_ 8 (by decide), ← hr_ 9 (by decide), ← hr_ 10 (by decide)] at hinv
  obtain ⟨⟨l8, u8⟩, ⟨l9, u9⟩, ⟨l10, u10⟩, ⟨l11, u11⟩, -⟩ := b_
  obtain ⟨e0, w_⟩ := d_
  subst w_
  have g := rxcRDXK_3_1 hP hin I0 hinv l8 u8 l9 u9 l10 u10 l11 u11 e0
  refine ⟨bx_narP_ok (l := []) g.1, bx_nfP_ok h0_ (fvs := []) (by decide +kernel) g.2.1, ?_, ?_⟩
  · show rxIRDXK_6 S0 ws S_p (bx_val [(0, 0), (0, 0), (0, 0), (0, 0), (0, 0), (0, 0), (0, 0), (0, 0), (8, 0), (9, 0), (10, 0)] r_p 8) (bx_val [(0, 0), (0, 0), (0, 0), (0, 0), (0, 0), (0, 0), (0, 0), (0, 0), (8, 0), (9, 0), (10, 0)] r_p 9) (bx_val [(0, 0), (0, 0), (0, 0), (0, 0), (0, 0), (0, 0), (0, 0), (0, 0), (8, 0), (9, 0), (10, 0)] r_p 10)
    rw [bx_val_x (n := 8) (e := (8, 0)) h0_ rfl, bx_val_x (n := 9) (e := (9, 0)) h0_ rfl, bx_val_x (n := 10) (e := (10, 0)) h0_ rfl]
    exact g.2.2.1
  · show rxmRDXK_6 S0 ws S_p (bx_val [(0, 0), (0, 0), (0, 0), (0, 0), (0, 0), (0, 0), (0, 0), (0, 0), (8, 0), (9, 0), (10, 0)] r_p 8) (bx_val [(0, 0), (0, 0), (0, 0), (0, 0), (0, 0), (0, 0), (0, 0), (0, 0), (8, 0), (9, 0), (10, 0)] r_p 9) (bx_val [(0, 0), (0, 0), (0, 0), (0, 0), (0, 0), (0, 0), (0, 0), (0, 0), (8, 0), (9, 0), (10, 0)] r_p 10) < rxmRDXK_3 S0 ws S_p (r 8) (r 9) (r 10)
    rw [bx_val_x (n := 8) (e := (8, 0)) h0_ rfl, bx_val_x (n := 9) (e := (9, 0)) h0_ rfl, bx_val_x (n := 10) (e := (10, 0)) h0_ rfl, ← hr_ 8 (by decide), ← hr_ 9 (by decide), ← hr_ 10 (by decide)]
    exact g.2.2.2
theorem rxdRDXK_3_0 {S0 : Nat → Int → Int} {ws : List Int} {S : Nat → Int → Int} {nb ap cl x11 : Int} (hP : rxPRDXK S0 ws) (hin : bx_same rxL (bx_mdl rxCRDXK.2.2.1) S0 S) (hin2 : bx_same rxL (bx_mdl rxCRDXK.2.2.1) S (bx_up S 412 4 x11)) (I0 : bx_Inv rxL S) (I1 : bx_Inv rxL (bx_up S 412 4 x11)) (hinv : rxIRDXK_3 S0 ws S nb ap cl) (l8 : 0 ≤ nb) (u8 : nb ≤ 400) (l9 : 0 ≤ ap) (u9 : ap ≤ 1) (l10 : 12 ≤ cl) (u10 : cl ≤ 12) (l11 : 0 ≤ x11) (u11 : x11 ≤ 400) (e1 : S 412 2 = x11) : (True) ∧ rxPSRDXK S0 ws (bx_up S 412 4 x11) (some 0) := by
  obtain ⟨hI, hx⟩ := hinv
  obtain ⟨a_, c_⟩ := rxdRDX_3_0 hP hin hin2 I0 I1 hI l8 u8 l9 u9 l10 u10 l11 u11 e1
  exact ⟨a_, c_, (by
    have hw := hI.1
    exact ⟨nb, ap, hw, fun g => by
      have := Option.some.inj g
      omega⟩)⟩
theorem rxfRDXK_3_0 {X : (Nat → Int → Int) → Prop} {S0 : Nat → Int → Int} {ws : List Int} (hP : rxPRDXK S0 ws) : bx_obE rxL X S0 rxCRDXK.2.2.1 (rxIRDXK S0 ws) (rxPSRDXK S0 ws) 3 rxzRDXK_3 rxeRDXK_3_0 := by
  intro S S_p r r_p hinv hX hin hsm_ hseg
  obtain ⟨I0, I1, h0_, hr_, b_, f_, d_⟩ := bx_cl (evs := [(1, (0, 412), (0, 4), .inr (0, (11, 0))), (0, (0, 412), (0, 2), .inr (0, (11, 0)))]) (fvs := []) hseg (by decide +kernel) (by decide +kernel)
  have hinv : rxIRDXK_3 S0 ws S (r 8) (r 9) (r 10) := hinv
  rw [← hr_ 8 (by decide), ← hr_ 9 (by decide), ← hr_ 10 (by decide)] at hinv
  obtain ⟨⟨l8, u8⟩, ⟨l9, u9⟩, ⟨l10, u10⟩, ⟨l11, u11⟩, -⟩ := b_
  obtain ⟨T0, ⟨e1, w_⟩, w0⟩ := d_
  subst w0
  subst w_
  have g := rxdRDXK_3_0 hP hin hsm_ I0 I1 hinv l8 u8 l9 u9 l10 u10 l11 u11 e1
  refine ⟨bx_narP_ok (l := []) g.1, ?_⟩
  show rxPSRDXK S0 ws (bx_up T0 412 (4) (r_p 11)) (some (bx_num r_p (.inr (0, (0, 0)))))
  rw [bx_xv_ok h0_]
  exact g.2
theorem rxcRDXK_5_0 {S0 : Nat → Int → Int} {ws : List Int} {S : Nat → Int → Int} {nb ap cl res : Int} (hP : rxPRDXK S0 ws) (hin : bx_same rxL (bx_mdl rxCRDXK.2.2.1) S0 S) (I0 : bx_Inv rxL S) (hinv : rxIRDXK_5 S0 ws S nb ap cl res) (l8 : 0 ≤ nb) (u8 : nb ≤ 400) (l9 : 0 ≤ ap) (u9 : ap ≤ 1) (l10 : 0 ≤ cl) (u10 : cl ≤ 11) (l11 : 1 ≤ res) (u11 : res ≤ 1) (f0 : res ≠ 0) : (True) ∧ (True) ∧ rxIRDXK_8 S0 ws S nb ap cl ∧ rxmRDXK_8 S0 ws S nb ap cl < rxmRDXK_5 S0 ws S nb ap cl res := by
  obtain ⟨hI, hx⟩ := hinv
  obtain ⟨a_, b_, c_, d_⟩ := rxcRDX_5_0 hP hin I0 hI l8 u8 l9 u9 l10 u10 l11 u11 f0
  exact ⟨a_, b_, ⟨c_, (by
    exact hx (by omega))⟩, d_⟩
theorem rxgRDXK_5_0 {X : (Nat → Int → Int) → Prop} {S0 : Nat → Int → Int} {ws : List Int} (hP : rxPRDXK S0 ws) : bx_obC rxL X S0 rxCRDXK.2.2.1 (rxIRDXK S0 ws) (rxmRDXK S0 ws) 5 rxzRDXK_5 rxoRDXK_5_0 := by
  intro S S_p r r_p hinv hX hin hsm_ hseg
  obtain ⟨I0, I1, h0_, hr_, b_, f_, d_⟩ := bx_cl (evs := []) (fvs := [(3, (11, 0), (0, 0), (0, 0))]) hseg (by decide +kernel) (by decide +kernel)
  have hinv : rxIRDXK_5 S0 ws S (r 8) (r 9) (r 10) (r 11) := hinv
  rw [← hr_ 8 (by decide), ← hr_ 9 (by decide), ← hr_ 10 (by decide), ← hr_ 11 (by decide)] at hinv
  obtain ⟨⟨l8, u8⟩, ⟨l9, u9⟩, ⟨l10, u10⟩, ⟨l11, u11⟩, -⟩ := b_
  obtain ⟨f0, -⟩ := f_
  have w_ := d_
  subst w_
  have g := rxcRDXK_5_0 hP hin I0 hinv l8 u8 l9 u9 l10 u10 l11 u11 f0
  refine ⟨bx_narP_ok (l := []) g.1, bx_nfP_ok h0_ (fvs := []) (by decide +kernel) g.2.1, ?_, ?_⟩
  · show rxIRDXK_8 S0 ws S_p (bx_val [(0, 0), (0, 0), (0, 0), (0, 0), (0, 0), (0, 0), (0, 0), (0, 0), (8, 0), (9, 0), (10, 0)] r_p 8) (bx_val [(0, 0), (0, 0), (0, 0), (0, 0), (0, 0), (0, 0), (0, 0), (0, 0), (8, 0), (9, 0), (10, 0)] r_p 9) (bx_val [(0, 0), (0, 0), (0, 0), (0, 0), (0, 0), (0, 0), (0, 0), (0, 0), (8, 0), (9, 0), (10, 0)] r_p 10)
    rw [bx_val_x (n := 8) (e := (8, 0)) h0_ rfl, bx_val_x (n := 9) (e := (9, 0)) h0_ rfl, bx_val_x (n := 10) (e := (10, 0)) h0_ rfl]
    exact g.2.2.1
  · show rxmRDXK_8 S0 ws S_p (bx_val [(0, 0), (0, 0), (0, 0), (0, 0), (0, 0), (0, 0), (0, 0), (0, 0), (8, 0), (9, 0), (10, 0)] r_p 8) (bx_val [(0, 0), (0, 0), (0, 0), (0, 0), (0, 0), (0, 0), (0, 0), (0, 0), (8, 0), (9, 0), (10, 0)] r_p 9) (bx_val [(0, 0), (0, 0), (0, 0), (0, 0), (0, 0), (0, 0), (0, 0), (0, 0), (8, 0), (9, 0), (10, 0)] r_p 10) < rxmRDXK_5 S0 ws S_p (r 8) (r 9) (r 10) (r 11)
    rw [bx_val_x (n := 8) (e := (8, 0)) h0_ rfl, bx_val_x (n := 9) (e := (9, 0)) h0_ rfl, bx_val_x (n := 10) (e := (10, 0)) h0_ rfl, ← hr_ 8 (by decide), ← hr_ 9 (by decide), ← hr_ 10 (by decide), ← hr_ 11 (by decide)]
    exact g.2.2.2
theorem rxdRDXK_5_0 {S0 : Nat → Int → Int} {ws : List Int} {S : Nat → Int → Int} {nb ap cl res : Int} (hP : rxPRDXK S0 ws) (hin : bx_same rxL (bx_mdl rxCRDXK.2.2.1) S0 S) (hin2 : bx_same rxL (bx_mdl rxCRDXK.2.2.1) S S) (I0 : bx_Inv rxL S) (I1 : bx_Inv rxL S) (hinv : rxIRDXK_5 S0 ws S nb ap cl res) (l8 : 0 ≤ nb) (u8 : nb ≤ 400) (l9 : 0 ≤ ap) (u9 : ap ≤ 1) (l10 : 0 ≤ cl) (u10 : cl ≤ 11) (l11 : 0 ≤ res) (u11 : res ≤ 0) : (True) ∧ rxPSRDXK S0 ws S (some 0) := by
  obtain ⟨hI, hx⟩ := hinv
  obtain ⟨a_, c_⟩ := rxdRDX_5_0 hP hin hin2 I0 I1 hI l8 u8 l9 u9 l10 u10 l11 u11
  exact ⟨a_, c_, (by
    have hw := hI.1
    exact ⟨nb, ap, hw, fun g => by
      have := Option.some.inj g
      omega⟩)⟩
theorem rxfRDXK_5_0 {X : (Nat → Int → Int) → Prop} {S0 : Nat → Int → Int} {ws : List Int} (hP : rxPRDXK S0 ws) : bx_obE rxL X S0 rxCRDXK.2.2.1 (rxIRDXK S0 ws) (rxPSRDXK S0 ws) 5 rxzRDXK_5 rxeRDXK_5_0 := by
  intro S S_p r r_p hinv hX hin hsm_ hseg
  obtain ⟨I0, I1, h0_, hr_, b_, f_, d_⟩ := bx_cl (evs := []) (fvs := []) hseg (by decide +kernel) (by decide +kernel)
  have hinv : rxIRDXK_5 S0 ws S (r 8) (r 9) (r 10) (r 11) := hinv
  rw [← hr_ 8 (by decide), ← hr_ 9 (by decide), ← hr_ 10 (by decide), ← hr_ 11 (by decide)] at hinv
  obtain ⟨⟨l8, u8⟩, ⟨l9, u9⟩, ⟨l10, u10⟩, ⟨l11, u11⟩, -⟩ := b_
  have w_ := d_
  subst w_
  have g := rxdRDXK_5_0 hP hin hsm_ I0 I1 hinv l8 u8 l9 u9 l10 u10 l11 u11
  refine ⟨bx_narP_ok (l := []) g.1, ?_⟩
  show rxPSRDXK S0 ws S_p (some (bx_num r_p (.inr (0, (0, 0)))))
  rw [bx_xv_ok h0_]
  exact g.2
theorem rxcRDXK_7_0 {S0 : Nat → Int → Int} {ws : List Int} {S : Nat → Int → Int} {nb ap cl res : Int} (hP : rxPRDXK S0 ws) (hin : bx_same rxL (bx_mdl rxCRDXK.2.2.1) S0 S) (I0 : bx_Inv rxL S) (hinv : rxIRDXK_7 S0 ws S nb ap cl res) (l8 : 0 ≤ nb) (u8 : nb ≤ 400) (l9 : 0 ≤ ap) (u9 : ap ≤ 1) (l10 : 0 ≤ cl) (u10 : cl ≤ 11) (l11 : 1 ≤ res) (u11 : res ≤ 1) (f0 : res ≠ 0) : (True) ∧ (True) ∧ rxIRDXK_8 S0 ws S nb ap cl ∧ rxmRDXK_8 S0 ws S nb ap cl < rxmRDXK_7 S0 ws S nb ap cl res := by
  obtain ⟨hI, hx⟩ := hinv
  obtain ⟨a_, b_, c_, d_⟩ := rxcRDX_7_0 hP hin I0 hI l8 u8 l9 u9 l10 u10 l11 u11 f0
  exact ⟨a_, b_, ⟨c_, (by
    exact hx (by omega))⟩, d_⟩
theorem rxgRDXK_7_0 {X : (Nat → Int → Int) → Prop} {S0 : Nat → Int → Int} {ws : List Int} (hP : rxPRDXK S0 ws) : bx_obC rxL X S0 rxCRDXK.2.2.1 (rxIRDXK S0 ws) (rxmRDXK S0 ws) 7 rxzRDXK_7 rxoRDXK_7_0 := by
  intro S S_p r r_p hinv hX hin hsm_ hseg
  obtain ⟨I0, I1, h0_, hr_, b_, f_, d_⟩ := bx_cl (evs := []) (fvs := [(3, (11, 0), (0, 0), (0, 0))]) hseg (by decide +kernel) (by decide +kernel)
  have hinv : rxIRDXK_7 S0 ws S (r 8) (r 9) (r 10) (r 11) := hinv
  rw [← hr_ 8 (by decide), ← hr_ 9 (by decide), ← hr_ 10 (by decide), ← hr_ 11 (by decide)] at hinv
  obtain ⟨⟨l8, u8⟩, ⟨l9, u9⟩, ⟨l10, u10⟩, ⟨l11, u11⟩, -⟩ := b_
  obtain ⟨f0, -⟩ := f_
  have w_ := d_
  subst w_
  have g := rxcRDXK_7_0 hP hin I0 hinv l8 u8 l9 u9 l10 u10 l11 u11 f0
  refine ⟨bx_narP_ok (l := []) g.1, bx_nfP_ok h0_ (fvs := []) (by decide +kernel) g.2.1, ?_, ?_⟩
  · show rxIRDXK_8 S0 ws S_p (bx_val [(0, 0), (0, 0), (0, 0), (0, 0), (0, 0), (0, 0), (0, 0), (0, 0), (8, 0), (9, 0), (10, 0)] r_p 8) (bx_val [(0, 0), (0, 0), (0, 0), (0, 0), (0, 0), (0, 0), (0, 0), (0, 0), (8, 0), (9, 0), (10, 0)] r_p 9) (bx_val [(0, 0), (0, 0), (0, 0), (0, 0), (0, 0), (0, 0), (0, 0), (0, 0), (8, 0), (9, 0), (10, 0)] r_p 10)
    rw [bx_val_x (n := 8) (e := (8, 0)) h0_ rfl, bx_val_x (n := 9) (e := (9, 0)) h0_ rfl, bx_val_x (n := 10) (e := (10, 0)) h0_ rfl]
    exact g.2.2.1
  · show rxmRDXK_8 S0 ws S_p (bx_val [(0, 0), (0, 0), (0, 0), (0, 0), (0, 0), (0, 0), (0, 0), (0, 0), (8, 0), (9, 0), (10, 0)] r_p 8) (bx_val [(0, 0), (0, 0), (0, 0), (0, 0), (0, 0), (0, 0), (0, 0), (0, 0), (8, 0), (9, 0), (10, 0)] r_p 9) (bx_val [(0, 0), (0, 0), (0, 0), (0, 0), (0, 0), (0, 0), (0, 0), (0, 0), (8, 0), (9, 0), (10, 0)] r_p 10) < rxmRDXK_7 S0 ws S_p (r 8) (r 9) (r 10) (r 11)
    rw [bx_val_x (n := 8) (e := (8, 0)) h0_ rfl, bx_val_x (n := 9) (e := (9, 0)) h0_ rfl, bx_val_x (n := 10) (e := (10, 0)) h0_ rfl, ← hr_ 8 (by decide), ← hr_ 9 (by decide), ← hr_ 10 (by decide), ← hr_ 11 (by decide)]
    exact g.2.2.2
theorem rxdRDXK_7_0 {S0 : Nat → Int → Int} {ws : List Int} {S : Nat → Int → Int} {nb ap cl res : Int} (hP : rxPRDXK S0 ws) (hin : bx_same rxL (bx_mdl rxCRDXK.2.2.1) S0 S) (hin2 : bx_same rxL (bx_mdl rxCRDXK.2.2.1) S S) (I0 : bx_Inv rxL S) (I1 : bx_Inv rxL S) (hinv : rxIRDXK_7 S0 ws S nb ap cl res) (l8 : 0 ≤ nb) (u8 : nb ≤ 400) (l9 : 0 ≤ ap) (u9 : ap ≤ 1) (l10 : 0 ≤ cl) (u10 : cl ≤ 11) (l11 : 0 ≤ res) (u11 : res ≤ 0) : (True) ∧ rxPSRDXK S0 ws S (some 0) := by
  obtain ⟨hI, hx⟩ := hinv
  obtain ⟨a_, c_⟩ := rxdRDX_7_0 hP hin hin2 I0 I1 hI l8 u8 l9 u9 l10 u10 l11 u11
  exact ⟨a_, c_, (by
    have hw := hI.1
    exact ⟨nb, ap, hw, fun g => by
      have := Option.some.inj g
      omega⟩)⟩
theorem rxfRDXK_7_0 {X : (Nat → Int → Int) → Prop} {S0 : Nat → Int → Int} {ws : List Int} (hP : rxPRDXK S0 ws) : bx_obE rxL X S0 rxCRDXK.2.2.1 (rxIRDXK S0 ws) (rxPSRDXK S0 ws) 7 rxzRDXK_7 rxeRDXK_7_0 := by
  intro S S_p r r_p hinv hX hin hsm_ hseg
  obtain ⟨I0, I1, h0_, hr_, b_, f_, d_⟩ := bx_cl (evs := []) (fvs := []) hseg (by decide +kernel) (by decide +kernel)
  have hinv : rxIRDXK_7 S0 ws S (r 8) (r 9) (r 10) (r 11) := hinv
  rw [← hr_ 8 (by decide), ← hr_ 9 (by decide), ← hr_ 10 (by decide), ← hr_ 11 (by decide)] at hinv
  obtain ⟨⟨l8, u8⟩, ⟨l9, u9⟩, ⟨l10, u10⟩, ⟨l11, u11⟩, -⟩ := b_
  have w_ := d_
  subst w_
  have g := rxdRDXK_7_0 hP hin hsm_ I0 I1 hinv l8 u8 l9 u9 l10 u10 l11 u11
  refine ⟨bx_narP_ok (l := []) g.1, ?_⟩
  show rxPSRDXK S0 ws S_p (some (bx_num r_p (.inr (0, (0, 0)))))
  rw [bx_xv_ok h0_]
  exact g.2
theorem rxcRDXK_9_0 {S0 : Nat → Int → Int} {ws : List Int} {S : Nat → Int → Int} {nb ap cl res x12 x13 x14 : Int} (hP : rxPRDXK S0 ws) (hin : bx_same rxL (bx_mdl rxCRDXK.2.2.1) S0 S) (I0 : bx_Inv rxL S) (hinv : rxIRDXK_9 S0 ws S nb ap cl res) (l8 : 0 ≤ nb) (u8 : nb ≤ 400) (l9 : 0 ≤ ap) (u9 : ap ≤ 1) (l10 : 0 ≤ cl) (u10 : cl ≤ 11) (l11 : 1 ≤ res) (u11 : res ≤ 1) (l12 : 0 ≤ x12) (u12 : x12 ≤ 399) (l13 : 1 ≤ x13) (u13 : x13 ≤ 400) (l14 : 59 ≤ x14) (u14 : x14 ≤ 59) (f0 : x12 < x13) (f1 : x12 < x13) (f2 : res ≠ 0) (e2 : S 412 2 = x12) (e1 : S 412 1 = x13) (e0 : S 411 x12 = x14) : (True) ∧ (True) ∧ rxIRDXK_10 S0 ws S nb ap cl ∧ rxmRDXK_10 S0 ws S nb ap cl < rxmRDXK_9 S0 ws S nb ap cl res := by
  obtain ⟨hI, hx⟩ := hinv
  obtain ⟨a_, b_, c_, d_⟩ := rxcRDX_9_0 hP hin I0 hI l8 u8 l9 u9 l10 u10 l11 u11 l12 u12 l13 u13 l14 u14 f0 f1 f2 e2 e1 e0
  exact ⟨a_, b_, ⟨c_, (by
    exact hx (by omega))⟩, d_⟩
theorem rxgRDXK_9_0 {X : (Nat → Int → Int) → Prop} {S0 : Nat → Int → Int} {ws : List Int} (hP : rxPRDXK S0 ws) : bx_obC rxL X S0 rxCRDXK.2.2.1 (rxIRDXK S0 ws) (rxmRDXK S0 ws) 9 rxzRDXK_9 rxoRDXK_9_0 := by
  intro S S_p r r_p hinv hX hin hsm_ hseg
  obtain ⟨I0, I1, h0_, hr_, b_, f_, d_⟩ := bx_cl (evs := [(0, (0, 411), (12, 0), .inr (0, (14, 0))), (0, (0, 412), (0, 1), .inr (0, (13, 0))), (0, (0, 412), (0, 2), .inr (0, (12, 0)))]) (fvs := [(0, (12, 0), (13, 0), (0, 0)), (0, (12, 0), (13, 0), (0, 0)), (3, (11, 0), (0, 0), (0, 0))]) hseg (by decide +kernel) (by decide +kernel)
  have hinv : rxIRDXK_9 S0 ws S (r 8) (r 9) (r 10) (r 11) := hinv
  rw [← hr_ 8 (by decide), ← hr_ 9 (by decide), ← hr_ 10 (by decide), ← hr_ 11 (by decide)] at hinv
  obtain ⟨⟨l8, u8⟩, ⟨l9, u9⟩, ⟨l10, u10⟩, ⟨l11, u11⟩, ⟨l12, u12⟩, ⟨l13, u13⟩, ⟨l14, u14⟩, -⟩ := b_
  obtain ⟨f0, f1, f2, -⟩ := f_
  obtain ⟨e0, ⟨e1, ⟨e2, w_⟩⟩⟩ := d_
  subst w_
  have g := rxcRDXK_9_0 hP hin I0 hinv l8 u8 l9 u9 l10 u10 l11 u11 l12 u12 l13 u13 l14 u14 f0 f1 f2 e2 e1 e0
  refine ⟨bx_narP_ok (l := []) g.1, bx_nfP_ok h0_ (fvs := []) (by decide +kernel) g.2.1, ?_, ?_⟩
  · show rxIRDXK_10 S0 ws S_p (bx_val [(0, 0), (0, 0), (0, 0), (0, 0), (0, 0), (0, 0), (0, 0), (0, 0), (8, 0), (9, 0), (10, 0)] r_p 8) (bx_val [(0, 0), (0, 0), (0, 0), (0, 0), (0, 0), (0, 0), (0, 0), (0, 0), (8, 0), (9, 0), (10, 0)] r_p 9) (bx_val [(0, 0), (0, 0), (0, 0), (0, 0), (0, 0), (0, 0), (0, 0), (0, 0), (8, 0), (9, 0), (10, 0)] r_p 10)
    rw [bx_val_x (n := 8) (e := (8, 0)) h0_ rfl, bx_val_x (n := 9) (e := (9, 0)) h0_ rfl, bx_val_x (n := 10) (e := (10, 0)) h0_ rfl]
    exact g.2.2.1
  · show rxmRDXK_10 S0 ws S_p (bx_val [(0, 0), (0, 0), (0, 0), (0, 0), (0, 0), (0, 0), (0, 0), (0, 0), (8, 0), (9, 0), (10, 0)] r_p 8) (bx_val [(0, 0), (0, 0), (0, 0), (0, 0), (0, 0), (0, 0), (0, 0), (0, 0), (8, 0), (9, 0), (10, 0)] r_p 9) (bx_val [(0, 0), (0, 0), (0, 0), (0, 0), (0, 0), (0, 0), (0, 0), (0, 0), (8, 0), (9, 0), (10, 0)] r_p 10) < rxmRDXK_9 S0 ws S_p (r 8) (r 9) (r 10) (r 11)
    rw [bx_val_x (n := 8) (e := (8, 0)) h0_ rfl, bx_val_x (n := 9) (e := (9, 0)) h0_ rfl, bx_val_x (n := 10) (e := (10, 0)) h0_ rfl, ← hr_ 8 (by decide), ← hr_ 9 (by decide), ← hr_ 10 (by decide), ← hr_ 11 (by decide)]
    exact g.2.2.2
theorem rxdRDXK_9_0 {S0 : Nat → Int → Int} {ws : List Int} {S : Nat → Int → Int} {nb ap cl res : Int} (hP : rxPRDXK S0 ws) (hin : bx_same rxL (bx_mdl rxCRDXK.2.2.1) S0 S) (hin2 : bx_same rxL (bx_mdl rxCRDXK.2.2.1) S S) (I0 : bx_Inv rxL S) (I1 : bx_Inv rxL S) (hinv : rxIRDXK_9 S0 ws S nb ap cl res) (l8 : 0 ≤ nb) (u8 : nb ≤ 400) (l9 : 0 ≤ ap) (u9 : ap ≤ 1) (l10 : 0 ≤ cl) (u10 : cl ≤ 11) (l11 : 0 ≤ res) (u11 : res ≤ 0) : (True) ∧ rxPSRDXK S0 ws S (some 0) := by
  obtain ⟨hI, hx⟩ := hinv
  obtain ⟨a_, c_⟩ := rxdRDX_9_0 hP hin hin2 I0 I1 hI l8 u8 l9 u9 l10 u10 l11 u11
  exact ⟨a_, c_, (by
    have hw := hI.1
    exact ⟨nb, ap, hw, fun g => by
      have := Option.some.inj g
      omega⟩)⟩
theorem rxfRDXK_9_0 {X : (Nat → Int → Int) → Prop} {S0 : Nat → Int → Int} {ws : List Int} (hP : rxPRDXK S0 ws) : bx_obE rxL X S0 rxCRDXK.2.2.1 (rxIRDXK S0 ws) (rxPSRDXK S0 ws) 9 rxzRDXK_9 rxeRDXK_9_0 := by
  intro S S_p r r_p hinv hX hin hsm_ hseg
  obtain ⟨I0, I1, h0_, hr_, b_, f_, d_⟩ := bx_cl (evs := []) (fvs := []) hseg (by decide +kernel) (by decide +kernel)
  have hinv : rxIRDXK_9 S0 ws S (r 8) (r 9) (r 10) (r 11) := hinv
  rw [← hr_ 8 (by decide), ← hr_ 9 (by decide), ← hr_ 10 (by decide), ← hr_ 11 (by decide)] at hinv
  obtain ⟨⟨l8, u8⟩, ⟨l9, u9⟩, ⟨l10, u10⟩, ⟨l11, u11⟩, -⟩ := b_
  have w_ := d_
  subst w_
  have g := rxdRDXK_9_0 hP hin hsm_ I0 I1 hinv l8 u8 l9 u9 l10 u10 l11 u11
  refine ⟨bx_narP_ok (l := []) g.1, ?_⟩
  show rxPSRDXK S0 ws S_p (some (bx_num r_p (.inr (0, (0, 0)))))
  rw [bx_xv_ok h0_]
  exact g.2
theorem rxdRDXK_9_1 {S0 : Nat → Int → Int} {ws : List Int} {S : Nat → Int → Int} {nb ap cl res x12 x13 : Int} (hP : rxPRDXK S0 ws) (hin : bx_same rxL (bx_mdl rxCRDXK.2.2.1) S0 S) (hin2 : bx_same rxL (bx_mdl rxCRDXK.2.2.1) S S) (I0 : bx_Inv rxL S) (I1 : bx_Inv rxL S) (hinv : rxIRDXK_9 S0 ws S nb ap cl res) (l8 : 0 ≤ nb) (u8 : nb ≤ 400) (l9 : 0 ≤ ap) (u9 : ap ≤ 1) (l10 : 0 ≤ cl) (u10 : cl ≤ 11) (l11 : 1 ≤ res) (u11 : res ≤ 1) (l12 : 0 ≤ x12) (u12 : x12 ≤ 400) (l13 : 0 ≤ x13) (u13 : x13 ≤ 400) (f0 : x13 ≤ x12) (f1 : res ≠ 0) (e1 : S 412 2 = x12) (e0 : S 412 1 = x13) : (True) ∧ rxPSRDXK S0 ws S (some 1) := by
  obtain ⟨hI, hx⟩ := hinv
  obtain ⟨a_, c_⟩ := rxdRDX_9_1 hP hin hin2 I0 I1 hI l8 u8 l9 u9 l10 u10 l11 u11 l12 u12 l13 u13 f0 f1 e1 e0
  exact ⟨a_, c_, (by
    obtain ⟨hw, hc⟩ := hI
    refine ⟨nb, ap, hw, fun _ hp => ?_⟩
    rcases hc with ⟨z, S1, hR, hA⟩ | ⟨z, -⟩
    · have a1 : S 412 1 = nb := hA.1.2.1.trans hR.2.1
      have a2 : S 412 2 = x12 := e1
      have a3 : S 412 1 = x13 := e0
      obtain ⟨L, h1, h2, h3, h4, h5, h6⟩ := hx z hp
      have q := h6 [] (rzAlt_n (decide_eq_false fun g => by have := g.1; omega) rfl)
      rw [List.append_nil] at q
      exact ⟨L, q, h1, by omega, h5, h3⟩
    · exfalso
      omega)⟩
theorem rxfRDXK_9_1 {X : (Nat → Int → Int) → Prop} {S0 : Nat → Int → Int} {ws : List Int} (hP : rxPRDXK S0 ws) : bx_obE rxL X S0 rxCRDXK.2.2.1 (rxIRDXK S0 ws) (rxPSRDXK S0 ws) 9 rxzRDXK_9 rxeRDXK_9_1 := by
  intro S S_p r r_p hinv hX hin hsm_ hseg
  obtain ⟨I0, I1, h0_, hr_, b_, f_, d_⟩ := bx_cl (evs := [(0, (0, 412), (0, 1), .inr (0, (13, 0))), (0, (0, 412), (0, 2), .inr (0, (12, 0)))]) (fvs := [(1, (13, 0), (12, 0), (0, 0)), (3, (11, 0), (0, 0), (0, 0))]) hseg (by decide +kernel) (by decide +kernel)
  have hinv : rxIRDXK_9 S0 ws S (r 8) (r 9) (r 10) (r 11) := hinv
  rw [← hr_ 8 (by decide), ← hr_ 9 (by decide), ← hr_ 10 (by decide), ← hr_ 11 (by decide)] at hinv
  obtain ⟨⟨l8, u8⟩, ⟨l9, u9⟩, ⟨l10, u10⟩, ⟨l11, u11⟩, ⟨l12, u12⟩, ⟨l13, u13⟩, -⟩ := b_
  obtain ⟨f0, f1, -⟩ := f_
  obtain ⟨e0, ⟨e1, w_⟩⟩ := d_
  subst w_
  have g := rxdRDXK_9_1 hP hin hsm_ I0 I1 hinv l8 u8 l9 u9 l10 u10 l11 u11 l12 u12 l13 u13 f0 f1 e1 e0
  refine ⟨bx_narP_ok (l := []) g.1, ?_⟩
  show rxPSRDXK S0 ws S_p (some (bx_num r_p (.inr (0, (0, 1)))))
  rw [bx_xv_ok h0_]
  exact g.2
theorem rxdRDXK_9_2 {S0 : Nat → Int → Int} {ws : List Int} {S : Nat → Int → Int} {nb ap cl res x12 x13 x14 : Int} (hP : rxPRDXK S0 ws) (hin : bx_same rxL (bx_mdl rxCRDXK.2.2.1) S0 S) (hin2 : bx_same rxL (bx_mdl rxCRDXK.2.2.1) S (bx_up S 412 4 x12)) (I0 : bx_Inv rxL S) (I1 : bx_Inv rxL (bx_up S 412 4 x12)) (hinv : rxIRDXK_9 S0 ws S nb ap cl res) (l8 : 0 ≤ nb) (u8 : nb ≤ 400) (l9 : 0 ≤ ap) (u9 : ap ≤ 1) (l10 : 0 ≤ cl) (u10 : cl ≤ 11) (l11 : 1 ≤ res) (u11 : res ≤ 1) (l12 : 0 ≤ x12) (u12 : x12 ≤ 399) (l13 : 1 ≤ x13) (u13 : x13 ≤ 400) (l14 : 0 ≤ x14) (u14 : x14 ≤ 255) (f0 : x14 ≠ 59) (f1 : x12 < x13) (f2 : x12 < x13) (f3 : res ≠ 0) (e3 : S 412 2 = x12) (e2 : S 412 1 = x13) (e1 : S 411 x12 = x14) : (True) ∧ rxPSRDXK S0 ws (bx_up S 412 4 x12) (some 0) := by
  obtain ⟨hI, hx⟩ := hinv
  obtain ⟨a_, c_⟩ := rxdRDX_9_2 hP hin hin2 I0 I1 hI l8 u8 l9 u9 l10 u10 l11 u11 l12 u12 l13 u13 l14 u14 f0 f1 f2 f3 e3 e2 e1
  exact ⟨a_, c_, (by
    have hw := hI.1
    exact ⟨nb, ap, hw, fun g => by
      have := Option.some.inj g
      omega⟩)⟩
theorem rxfRDXK_9_2 {X : (Nat → Int → Int) → Prop} {S0 : Nat → Int → Int} {ws : List Int} (hP : rxPRDXK S0 ws) : bx_obE rxL X S0 rxCRDXK.2.2.1 (rxIRDXK S0 ws) (rxPSRDXK S0 ws) 9 rxzRDXK_9 rxeRDXK_9_2 := by
  intro S S_p r r_p hinv hX hin hsm_ hseg
  obtain ⟨I0, I1, h0_, hr_, b_, f_, d_⟩ := bx_cl (evs := [(1, (0, 412), (0, 4), .inr (0, (12, 0))), (0, (0, 411), (12, 0), .inr (0, (14, 0))), (0, (0, 412), (0, 1), .inr (0, (13, 0))), (0, (0, 412), (0, 2), .inr (0, (12, 0)))]) (fvs := [(3, (14, 0), (0, 59), (0, 0)), (0, (12, 0), (13, 0), (0, 0)), (0, (12, 0), (13, 0), (0, 0)), (3, (11, 0), (0, 0), (0, 0))]) hseg (by decide +kernel) (by decide +kernel)
  have hinv : rxIRDXK_9 S0 ws S (r 8) (r 9) (r 10) (r 11) := hinv
  rw [← hr_ 8 (by decide), ← hr_ 9 (by decide), ← hr_ 10 (by decide), ← hr_ 11 (by decide)] at hinv
  obtain ⟨⟨l8, u8⟩, ⟨l9, u9⟩, ⟨l10, u10⟩, ⟨l11, u11⟩, ⟨l12, u12⟩, ⟨l13, u13⟩, ⟨l14, u14⟩, -⟩ := b_
  obtain ⟨f0, f1, f2, f3, -⟩ := f_
  obtain ⟨T0, ⟨e1, ⟨e2, ⟨e3, w_⟩⟩⟩, w0⟩ := d_
  subst w0
  subst w_
  have g := rxdRDXK_9_2 hP hin hsm_ I0 I1 hinv l8 u8 l9 u9 l10 u10 l11 u11 l12 u12 l13 u13 l14 u14 f0 f1 f2 f3 e3 e2 e1
  refine ⟨bx_narP_ok (l := []) g.1, ?_⟩
  show rxPSRDXK S0 ws (bx_up T0 412 (4) (r_p 12)) (some (bx_num r_p (.inr (0, (0, 0)))))
  rw [bx_xv_ok h0_]
  exact g.2
theorem rxcRDXK_11_0 {S0 : Nat → Int → Int} {ws : List Int} {S : Nat → Int → Int} {nb ap cl : Int} (hP : rxPRDXK S0 ws) (hin : bx_same rxL (bx_mdl rxCRDXK.2.2.1) S0 S) (I0 : bx_Inv rxL S) (hinv : rxIRDXK_11 S0 ws S nb ap cl) (l8 : 0 ≤ nb) (u8 : nb ≤ 400) (l9 : 0 ≤ ap) (u9 : ap ≤ 1) (l10 : 0 ≤ cl) (u10 : cl ≤ 11) : (True) ∧ (True) ∧ rxIRDXK_3 S0 ws S nb ap (cl + 1) ∧ rxmRDXK_3 S0 ws S nb ap (cl + 1) < rxmRDXK_11 S0 ws S nb ap cl := by
  obtain ⟨hI, hx⟩ := hinv
  obtain ⟨a_, b_, c_, d_⟩ := rxcRDX_11_0 hP hin I0 hI l8 u8 l9 u9 l10 u10
  exact ⟨a_, b_, ⟨c_, hx⟩, d_⟩
theorem rxgRDXK_11_0 {X : (Nat → Int → Int) → Prop} {S0 : Nat → Int → Int} {ws : List Int} (hP : rxPRDXK S0 ws) : bx_obC rxL X S0 rxCRDXK.2.2.1 (rxIRDXK S0 ws) (rxmRDXK S0 ws) 11 rxzRDXK_11 rxoRDXK_11_0 := by
  intro S S_p r r_p hinv hX hin hsm_ hseg
  obtain ⟨I0, I1, h0_, hr_, b_, f_, d_⟩ := bx_cl (evs := []) (fvs := []) hseg (by decide +kernel) (by decide +kernel)
  have hinv : rxIRDXK_11 S0 ws S (r 8) (r 9) (r 10) := hinv
  rw [← hr_ 8 (by decide), ← hr_ 9 (by decide), ← hr_ 10 (by decide)] at hinv
  obtain ⟨⟨l8, u8⟩, ⟨l9, u9⟩, ⟨l10, u10⟩, -⟩ := b_
  have w_ := d_
  subst w_
  have g := rxcRDXK_11_0 hP hin I0 hinv l8 u8 l9 u9 l10 u10
  refine ⟨bx_narP_ok (l := []) g.1, bx_nfP_ok h0_ (fvs := []) (by decide +kernel) g.2.1, ?_, ?_⟩
  · show rxIRDXK_3 S0 ws S_p (bx_val [(0, 0), (0, 0), (0, 0), (0, 0), (0, 0), (0, 0), (0, 0), (0, 0), (8, 0), (9, 0), (10, 1)] r_p 8) (bx_val [(0, 0), (0, 0), (0, 0), (0, 0), (0, 0), (0, 0), (0, 0), (0, 0), (8, 0), (9, 0), (10, 1)] r_p 9) (bx_val [(0, 0), (0, 0), (0, 0), (0, 0), (0, 0), (0, 0), (0, 0), (0, 0), (8, 0), (9, 0), (10, 1)] r_p 10)
    rw [bx_val_x (n := 8) (e := (8, 0)) h0_ rfl, bx_val_x (n := 9) (e := (9, 0)) h0_ rfl, bx_val_x (n := 10) (e := (10, 1)) h0_ rfl]
    exact g.2.2.1
  · show rxmRDXK_3 S0 ws S_p (bx_val [(0, 0), (0, 0), (0, 0), (0, 0), (0, 0), (0, 0), (0, 0), (0, 0), (8, 0), (9, 0), (10, 1)] r_p 8) (bx_val [(0, 0), (0, 0), (0, 0), (0, 0), (0, 0), (0, 0), (0, 0), (0, 0), (8, 0), (9, 0), (10, 1)] r_p 9) (bx_val [(0, 0), (0, 0), (0, 0), (0, 0), (0, 0), (0, 0), (0, 0), (0, 0), (8, 0), (9, 0), (10, 1)] r_p 10) < rxmRDXK_11 S0 ws S_p (r 8) (r 9) (r 10)
    rw [bx_val_x (n := 8) (e := (8, 0)) h0_ rfl, bx_val_x (n := 9) (e := (9, 0)) h0_ rfl, bx_val_x (n := 10) (e := (10, 1)) h0_ rfl, ← hr_ 8 (by decide), ← hr_ 9 (by decide), ← hr_ 10 (by decide)]
    exact g.2.2.2
theorem rxgCRDXK {X : (Nat → Int → Int) → Prop} {S0 : Nat → Int → Int} {ws : List Int} (hP : rxPRDXK S0 ws) : bx_allI (fun i q => rxURDXK q = true ∨ bx_allP (fun o => bx_obC rxL X S0 rxCRDXK.2.2.1 (rxIRDXK S0 ws) (rxmRDXK S0 ws) i q.1 o) q.2.1) 0 rxYRDXK := ⟨Or.inr ⟨rxgRDXK_0_0 hP, trivial⟩, Or.inl rfl, Or.inr ⟨rxgRDXK_2_0 hP, trivial⟩, Or.inr ⟨rxgRDXK_3_0 hP, rxgRDXK_3_1 hP, trivial⟩, Or.inl rfl, Or.inr ⟨rxgRDXK_5_0 hP, trivial⟩, Or.inl rfl, Or.inr ⟨rxgRDXK_7_0 hP, trivial⟩, Or.inl rfl, Or.inr ⟨rxgRDXK_9_0 hP, trivial⟩, Or.inl rfl, Or.inr ⟨rxgRDXK_11_0 hP, trivial⟩, trivial⟩
theorem rxgERDXK {X : (Nat → Int → Int) → Prop} {S0 : Nat → Int → Int} {ws : List Int} (hP : rxPRDXK S0 ws) : bx_allI (fun i q => rxURDXK q = true ∨ bx_allP (fun E => bx_obE rxL X S0 rxCRDXK.2.2.1 (rxIRDXK S0 ws) (rxPSRDXK S0 ws) i q.1 E) q.2.2) 0 rxYRDXK := ⟨Or.inr trivial, Or.inl rfl, Or.inr trivial, Or.inr ⟨rxfRDXK_3_0 hP, trivial⟩, Or.inl rfl, Or.inr ⟨rxfRDXK_5_0 hP, trivial⟩, Or.inl rfl, Or.inr ⟨rxfRDXK_7_0 hP, trivial⟩, Or.inl rfl, Or.inr ⟨rxfRDXK_9_0 hP, rxfRDXK_9_1 hP, rxfRDXK_9_2 hP, trivial⟩, Or.inl rfl, Or.inr trivial, trivial⟩
theorem rxuRDXK {PX : State → Prop} {Dg : va_G} {A : Nat → Prop} {ad xa : Nat → Nat} {l : Launch} {X : (Nat → Int → Int) → Prop} (hPX : rx_PXOK rxNW A PX) (hX : ∀ S S1 : Nat → Int → Int, X S → bx_same rxL (bx_mdl rxCRDXK.2.2.1) S S1 → X S1) (hQAD : bx_ConP rxG rxNW rxAO PX Dg rxL X vwCl A ad l rxM84 rxC84 rxPAD rxPSAD) (hQRPCK : bx_ConP rxG rxNW rxAO PX Dg rxL X vwCl A ad l rxM85 rxCRPCK rxPRPCK rxPSRPCK) (hQRLCK : bx_ConP rxG rxNW rxAO PX Dg rxL X vwCl A ad l rxM86 rxCRLCK rxPRLCK rxPSRLCK) (hQRIFK : bx_ConP rxG rxNW rxAO PX Dg rxL X vwCl A ad l rxM87 rxCRIFK rxPRIFK rxPSRIFK) {S0 : Nat → Int → Int} {ws : List Int} (hP : rxPRDXK S0 ws) : ∀ (i : Nat) (q : bx_HE), rxYRDXK[i]? = some q → rxURDXK q = true → ∀ {p : Program} {e : Env} {R : Room} {s : State} {m : MethodId} {args : Array Value} {below : List Frame} {meth : Method} {c : Code} {Q : State → Prop} {H0 : Heap}, rx_Fr rxG rxNW rxAO PX p s m args meth c rxM119 → (∀ q, H0.size ≤ q → A q) → H0 = s.heap → rxM119.2.2.2.2.2.2.1 ≤ R.cells → rxM119.2.2.2.2.2.2.2 ≤ R.slots → rxCRDXK.2.2.2.1 ≤ R.frames → rxCRDXK.2.2.2.1 * 40 ≤ R.locals → bx_Step p l e R s m args below meth c Q Dg rxL X vwCl A xa H0 ad rxM119 rxYRDXK (rxIRDXK S0 ws) (rxmRDXK S0 ws) S0 rxCRDXK.2.2.1 i q := by
  intro i q hq hus p e R s m args below meth c Q H0 hF hA hH0 hmc hms hd hdl
  match i, hq with
  | 0, hq =>
    cases hq
    exact absurd (show false = true from hus) Bool.false_ne_true
  | 1, hq =>
    cases hq
    exact rx_stepC (ins := .invokevirtual 66) (len := 3) (i_p := 2) (M_p := rxM84) (d := rxCRDXK.2.2.2.1) (as := [.inr (3, (0, 412))]) (t := []) (ct := rxC84) hPX hF rfl hA hH0 hmc hms hd hdl (by decide +kernel) rfl rfl (by decide +kernel) (by decide +kernel) hQAD (by decide +kernel) rfl (Or.inl ⟨rfl, rfl, rfl⟩) (rxsRDXK_1 hP)
  | 2, hq =>
    cases hq
    exact absurd (show false = true from hus) Bool.false_ne_true
  | 3, hq =>
    cases hq
    exact absurd (show false = true from hus) Bool.false_ne_true
  | 4, hq =>
    cases hq
    exact rx_stepC (ins := .invokevirtual 69) (len := 3) (i_p := 5) (M_p := rxM85) (d := rxCRDXK.2.2.2.1) (as := [.inr (3, (0, 412))]) (t := []) (ct := rxCRPCK) hPX hF rfl hA hH0 hmc hms hd hdl (by decide +kernel) rfl rfl (by decide +kernel) (by decide +kernel) hQRPCK (by decide +kernel) rfl (Or.inr ⟨_, _, _, 1, rfl, rfl, by omega, rfl, rfl, rfl⟩) (rxsRDXK_4 hP)
  | 5, hq =>
    cases hq
    exact absurd (show false = true from hus) Bool.false_ne_true
  | 6, hq =>
    cases hq
    exact rx_stepC (ins := .invokevirtual 73) (len := 3) (i_p := 7) (M_p := rxM86) (d := rxCRDXK.2.2.2.1) (as := [.inr (3, (0, 412))]) (t := []) (ct := rxCRLCK) hPX hF rfl hA hH0 hmc hms hd hdl (by decide +kernel) rfl rfl (by decide +kernel) (by decide +kernel) hQRLCK (by decide +kernel) rfl (Or.inr ⟨_, _, _, 1, rfl, rfl, by omega, rfl, rfl, rfl⟩) (rxsRDXK_6 hP)
  | 7, hq =>
    cases hq
    exact absurd (show false = true from hus) Bool.false_ne_true
  | 8, hq =>
    cases hq
    exact rx_stepC (ins := .invokevirtual 76) (len := 3) (i_p := 9) (M_p := rxM87) (d := rxCRDXK.2.2.2.1) (as := [.inr (3, (0, 412))]) (t := []) (ct := rxCRIFK) hPX hF rfl hA hH0 hmc hms hd hdl (by decide +kernel) rfl rfl (by decide +kernel) (by decide +kernel) hQRIFK (by decide +kernel) rfl (Or.inr ⟨_, _, _, 1, rfl, rfl, by omega, rfl, rfl, rfl⟩) (rxsRDXK_8 hP)
  | 9, hq =>
    cases hq
    exact absurd (show false = true from hus) Bool.false_ne_true
  | 10, hq =>
    cases hq
    exact rx_stepC (ins := .invokevirtual 66) (len := 3) (i_p := 11) (M_p := rxM84) (d := rxCRDXK.2.2.2.1) (as := [.inr (3, (0, 412))]) (t := []) (ct := rxC84) hPX hF rfl hA hH0 hmc hms hd hdl (by decide +kernel) rfl rfl (by decide +kernel) (by decide +kernel) hQAD (by decide +kernel) rfl (Or.inl ⟨rfl, rfl, rfl⟩) (rxsRDXK_10 hP)
  | 11, hq =>
    cases hq
    exact absurd (show false = true from hus) Bool.false_ne_true
  | n + 12, hq => cases hq
theorem rxQRDXK {PX : State → Prop} {Dg : va_G} {A : Nat → Prop} {ad xa : Nat → Nat} {l : Launch} {X : (Nat → Int → Int) → Prop} (hPX : rx_PXOK rxNW A PX) (hsl : ∀ s : State, PX s → ∀ o idx n : Nat, rxSl o idx = some n → ∃ tx : String, vk_R (rxNm o) idx tx (ad n) s)
    (hX : ∀ S S_p : Nat → Int → Int, X S → bx_same rxL (bx_mdl rxCRDXK.2.2.1) S S_p → X S_p)
    (ih : ∀ (j2 : Nat) (ct2 : bx_Ct) (M2 : rx_Mt), ct2 ∈ rxCnE j2 → ct2.2.2.2.1 + 1 ≤ rxCRDXK.2.2.2.1 → rxT.2.2.2.2.2 j2 = some M2 → bx_Con rxG rxNW rxAO PX Dg rxL X vwCl A ad l M2 ct2) (hQAD : bx_ConP rxG rxNW rxAO PX Dg rxL X vwCl A ad l rxM84 rxC84 rxPAD rxPSAD) (hQRPCK : bx_ConP rxG rxNW rxAO PX Dg rxL X vwCl A ad l rxM85 rxCRPCK rxPRPCK rxPSRPCK) (hQRLCK : bx_ConP rxG rxNW rxAO PX Dg rxL X vwCl A ad l rxM86 rxCRLCK rxPRLCK rxPSRLCK) (hQRIFK : bx_ConP rxG rxNW rxAO PX Dg rxL X vwCl A ad l rxM87 rxCRIFK rxPRIFK rxPSRIFK) : bx_ConP rxG rxNW rxAO PX Dg rxL X vwCl A ad l rxM119 rxCRDXK rxPRDXK rxPSRDXK :=
  rxQof (xa := xa) (Cn := rxCnE) (f := 30000) (j := 119) (tab := rxYRDXK) (us := rxURDXK) hPX hsl hX ih rfl rxYcRDXK rxIRDXK rxmRDXK
    (fun S0 ws r I0 I ht0 ht as he he1 hX0 hI0 hP hs ha => by
      have e := he.symm.trans (show bx_ent0 rxNP rxCRDXK.1 bx_I0 [] = some ([(0, 0), (0, 0), (0, 0), (0, 0), (0, 0), (0, 0), (0, 0), (0, 0), (0, 400), (0, 1)], [], [.inr (3, (0, 412)), .inr (3, (0, 411)), .inr (0, (8, 0)), .inr (0, (9, 0)), .inr (3, (0, 427))]) from rfl)
      cases e
      subst ha
      have h0 : r 0 = 0 := hs.1
      show rxIRDXK_0 S0 _ S0 (r 8) (r 9)
      refine ⟨⟨rfl, ?_⟩, trivial⟩
      simp only [List.map_cons, List.map_nil, bx_xv_ok h0]
      rfl)
    (fun S0 ws hP => rxuRDXK (xa := xa) hPX hX hQAD hQRPCK hQRLCK hQRIFK hP) (fun S0 ws hP => rxgCRDXK hP) (fun S0 ws hP => rxgERDXK hP)
