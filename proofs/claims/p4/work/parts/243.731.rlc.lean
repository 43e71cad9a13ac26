/-! CONTRACT BY HAND, by program (wip/sim/genhand.py): DeadUnderstudies$Reader.readLawClause -/
def rxCRLCK : bx_Ct := ([(3, (1, 412, 0))], some (0, (0, 0, 1)), [(6, 0), (6, 4), (7, 2), (7, 3), (7, 4), (7, 7), (7, 8), (7, 10), (1021, 0), (1022, 0), (1024, 0), (1025, 0), (1026, 0), (1027, 0), (1034, 0), (1035, 0), (1036, 0)], 8, [(412, 0, 3, (1, 411, 0)), (412, 6, 3, (1, 427, 0))])
def rxIRLCK_0 (S0 : Nat → Int → Int) (ws : List Int) (S : Nat → Int → Int) : Prop := rxIRLC_0 S0 ws S ∧ True
def rxmRLCK_0 (S0 : Nat → Int → Int) (ws : List Int) (S : Nat → Int → Int) : Nat := rxmRLC_0 S0 ws S
def rxzRLCK_0 : rx_Z := ([(0, 0), (0, 0), (0, 0), (0, 0), (0, 0), (0, 0), (0, 0), (0, 0)], [], [(((0, 412), 6), .inr (3, (0, 427))), (((0, 412), 0), .inr (3, (0, 411)))], 0, 0, 0, [(0, .inr (3, (0, 412)))], [])
def rxIRLCK_1 (S0 : Nat → Int → Int) (ws : List Int) (S : Nat → Int → Int) : Prop := rxIRLC_1 S0 ws S ∧ rkTa S0 S (S0 412 2)
def rxmRLCK_1 (S0 : Nat → Int → Int) (ws : List Int) (S : Nat → Int → Int) : Nat := rxmRLC_1 S0 ws S
def rxzRLCK_1 : rx_Z := ([(0, 0), (0, 0), (0, 0), (0, 0), (0, 0), (0, 0), (0, 0), (0, 0)], [], [(((0, 412), 0), .inr (3, (0, 411))), (((0, 412), 6), .inr (3, (0, 427)))], 0, 0, 3, [(0, .inr (3, (0, 412)))], [.inr (3, (0, 525)), .inr (3, (0, 412))])
def rxIRLCK_2 (S0 : Nat → Int → Int) (ws : List Int) (S : Nat → Int → Int) (r : Int) : Prop := rxIRLC_2 S0 ws S r ∧ rkTa S0 S (S0 412 2)
def rxmRLCK_2 (S0 : Nat → Int → Int) (ws : List Int) (S : Nat → Int → Int) (r : Int) : Nat := rxmRLC_2 S0 ws S r
def rxzRLCK_2 : rx_Z := ([(0, 0), (0, 0), (0, 0), (0, 0), (0, 0), (0, 0), (0, 0), (0, 0), (0, 1)], [], [(((0, 412), 0), .inr (3, (0, 411))), (((0, 412), 6), .inr (3, (0, 427)))], 0, 0, 6, [(0, .inr (3, (0, 412)))], [.inr (0, (8, 0))])
def rxIRLCK_3 (S0 : Nat → Int → Int) (ws : List Int) (S : Nat → Int → Int) (ba : Int) : Prop := rxIRLC_3 S0 ws S ba ∧ rkTa S0 S (S0 412 2)
def rxmRLCK_3 (S0 : Nat → Int → Int) (ws : List Int) (S : Nat → Int → Int) (ba : Int) : Nat := rxmRLC_3 S0 ws S ba
def rxzRLCK_3 : rx_Z := ([(0, 0), (0, 0), (0, 0), (0, 0), (0, 0), (0, 0), (0, 0), (0, 0), (0, 1)], [], [(((0, 412), 0), .inr (3, (0, 411))), (((0, 412), 6), .inr (3, (0, 427)))], 0, 0, 10, [(0, .inr (3, (0, 412))), (1, .inr (0, (8, 0)))], [.inr (3, (0, 542)), .inr (3, (0, 412))])
def rxIRLCK_4 (S0 : Nat → Int → Int) (ws : List Int) (S : Nat → Int → Int) (ba r : Int) : Prop := rxIRLC_4 S0 ws S ba r ∧ rkTa S0 S (S0 412 2)
def rxmRLCK_4 (S0 : Nat → Int → Int) (ws : List Int) (S : Nat → Int → Int) (ba r : Int) : Nat := rxmRLC_4 S0 ws S ba r
def rxzRLCK_4 : rx_Z := ([(0, 0), (0, 0), (0, 0), (0, 0), (0, 0), (0, 0), (0, 0), (0, 0), (0, 1), (0, 1)], [], [(((0, 412), 0), .inr (3, (0, 411))), (((0, 412), 6), .inr (3, (0, 427)))], 0, 0, 13, [(0, .inr (3, (0, 412))), (1, .inr (0, (8, 0)))], [.inr (0, (9, 0))])
def rxIRLCK_5 (S0 : Nat → Int → Int) (ws : List Int) (S : Nat → Int → Int) (ba sl : Int) : Prop := rxIRLC_5 S0 ws S ba sl ∧ rkTa S0 S (S0 412 2)
def rxmRLCK_5 (S0 : Nat → Int → Int) (ws : List Int) (S : Nat → Int → Int) (ba sl : Int) : Nat := rxmRLC_5 S0 ws S ba sl
def rxzRLCK_5 : rx_Z := ([(0, 0), (0, 0), (0, 0), (0, 0), (0, 0), (0, 0), (0, 0), (0, 0), (0, 1), (0, 1)], [], [(((0, 412), 0), .inr (3, (0, 411))), (((0, 412), 6), .inr (3, (0, 427)))], 0, 0, 25, [(0, .inr (3, (0, 412))), (1, .inr (0, (8, 0))), (2, .inr (0, (9, 0)))], [.inr (3, (0, 530)), .inr (3, (0, 412))])
def rxIRLCK_6 (S0 : Nat → Int → Int) (ws : List Int) (S : Nat → Int → Int) (ba sl r : Int) : Prop := rxIRLC_6 S0 ws S ba sl r ∧ rkTa S0 S (S0 412 2)
def rxmRLCK_6 (S0 : Nat → Int → Int) (ws : List Int) (S : Nat → Int → Int) (ba sl r : Int) : Nat := rxmRLC_6 S0 ws S ba sl r
def rxzRLCK_6 : rx_Z := ([(0, 0), (0, 0), (0, 0), (0, 0), (0, 0), (0, 0), (0, 0), (0, 0), (0, 1), (0, 1), (0, 1)], [], [(((0, 412), 0), .inr (3, (0, 411))), (((0, 412), 6), .inr (3, (0, 427)))], 0, 0, 28, [(0, .inr (3, (0, 412))), (1, .inr (0, (8, 0))), (2, .inr (0, (9, 0)))], [.inr (0, (10, 0))])
def rxIRLCK_7 (S0 : Nat → Int → Int) (ws : List Int) (S : Nat → Int → Int) (ba sl : Int) : Prop := rxIRLC_7 S0 ws S ba sl ∧ rkTa S0 S (S0 412 2) ∧ ((ba = 1 ∧ rzIs (rzCut (S0 411)) (S0 412 1) rzW_bars (S0 412 2) = true) ∨ (ba = 0 ∧ rzIs (rzCut (S0 411)) (S0 412 1) rzW_bars (S0 412 2) = false ∧ sl = (if rzIs (rzCut (S0 411)) (S0 412 1) rzW_slips (S0 412 2) = true then 1 else 0))) ∧ (S0 412 2) < (rzN (rzCut (S0 411)) (S0 412 1) (S0 412 2))
def rxmRLCK_7 (S0 : Nat → Int → Int) (ws : List Int) (S : Nat → Int → Int) (ba sl : Int) : Nat := rxmRLC_7 S0 ws S ba sl
def rxzRLCK_7 : rx_Z := ([(0, 0), (0, 0), (0, 0), (0, 0), (0, 0), (0, 0), (0, 0), (0, 0), (0, 1), (0, 1)], [], [(((0, 412), 0), .inr (3, (0, 411))), (((0, 412), 6), .inr (3, (0, 427)))], 0, 0, 37, [(0, .inr (3, (0, 412))), (1, .inr (0, (8, 0))), (2, .inr (0, (9, 0)))], [.inr (3, (0, 412))])
def rxIRLCK_8 (S0 : Nat → Int → Int) (ws : List Int) (S : Nat → Int → Int) (ba sl : Int) : Prop := rxIRLC_8 S0 ws S ba sl ∧ rkTa S0 S (rzN (rzCut (S0 411)) (S0 412 1) (S0 412 2)) ∧ ((ba = 1 ∧ rzIs (rzCut (S0 411)) (S0 412 1) rzW_bars (S0 412 2) = true) ∨ (ba = 0 ∧ rzIs (rzCut (S0 411)) (S0 412 1) rzW_bars (S0 412 2) = false ∧ sl = (if rzIs (rzCut (S0 411)) (S0 412 1) rzW_slips (S0 412 2) = true then 1 else 0))) ∧ (S0 412 2) < (rzN (rzCut (S0 411)) (S0 412 1) (S0 412 2))
def rxmRLCK_8 (S0 : Nat → Int → Int) (ws : List Int) (S : Nat → Int → Int) (ba sl : Int) : Nat := rxmRLC_8 S0 ws S ba sl
def rxzRLCK_8 : rx_Z := ([(0, 0), (0, 0), (0, 0), (0, 0), (0, 0), (0, 0), (0, 0), (0, 0), (0, 1), (0, 1)], [], [(((0, 412), 0), .inr (3, (0, 411))), (((0, 412), 6), .inr (3, (0, 427)))], 0, 0, 40, [(0, .inr (3, (0, 412))), (1, .inr (0, (8, 0))), (2, .inr (0, (9, 0)))], [])
def rxIRLCK_9 (S0 : Nat → Int → Int) (ws : List Int) (S : Nat → Int → Int) (ba sl ki : Int) : Prop := rxIRLC_9 S0 ws S ba sl ki ∧ rkTa S0 S (rzN (rzCut (S0 411)) (S0 412 1) (S0 412 2)) ∧ ((ba = 1 ∧ rzIs (rzCut (S0 411)) (S0 412 1) rzW_bars (S0 412 2) = true) ∨ (ba = 0 ∧ rzIs (rzCut (S0 411)) (S0 412 1) rzW_bars (S0 412 2) = false ∧ sl = (if rzIs (rzCut (S0 411)) (S0 412 1) rzW_slips (S0 412 2) = true then 1 else 0))) ∧ (S0 412 2) < (rzN (rzCut (S0 411)) (S0 412 1) (S0 412 2)) ∧ ki = (if ba = 1 then 2 else if sl = 1 then 0 else 1)
def rxmRLCK_9 (S0 : Nat → Int → Int) (ws : List Int) (S : Nat → Int → Int) (ba sl ki : Int) : Nat := rxmRLC_9 S0 ws S ba sl ki
def rxzRLCK_9 : rx_Z := ([(0, 0), (0, 0), (0, 0), (0, 0), (0, 0), (0, 0), (0, 0), (0, 0), (0, 1), (0, 1), (0, 4)], [], [(((0, 412), 0), .inr (3, (0, 411))), (((0, 412), 6), .inr (3, (0, 427)))], 0, 0, 63, [(0, .inr (3, (0, 412))), (1, .inr (0, (8, 0))), (2, .inr (0, (9, 0)))], [.inr (0, (0, (-1))), .inr (0, (0, (-1))), .inr (0, (10, 0)), .inr (3, (0, 427))])
def rxIRLCK_10 (S0 : Nat → Int → Int) (ws : List Int) (S : Nat → Int → Int) (ba sl ki : Int) : Prop := rxIRLC_10 S0 ws S ba sl ki ∧ (rkPr S0 → rkCw S0 S (ki, -1, -1, none, none, none) ∧ S 412 2 = (rzN (rzCut (S0 411)) (S0 412 1) (S0 412 2)) ∧ S 412 7 = S0 412 7 ∧ S 427 0 = S0 427 0 ∧ rkPp S) ∧ ((ba = 1 ∧ rzIs (rzCut (S0 411)) (S0 412 1) rzW_bars (S0 412 2) = true) ∨ (ba = 0 ∧ rzIs (rzCut (S0 411)) (S0 412 1) rzW_bars (S0 412 2) = false ∧ sl = (if rzIs (rzCut (S0 411)) (S0 412 1) rzW_slips (S0 412 2) = true then 1 else 0))) ∧ (S0 412 2) < (rzN (rzCut (S0 411)) (S0 412 1) (S0 412 2)) ∧ ki = (if ba = 1 then 2 else if sl = 1 then 0 else 1)
def rxmRLCK_10 (S0 : Nat → Int → Int) (ws : List Int) (S : Nat → Int → Int) (ba sl ki : Int) : Nat := rxmRLC_10 S0 ws S ba sl ki
def rxzRLCK_10 : rx_Z := ([(0, 0), (0, 0), (0, 0), (0, 0), (0, 0), (0, 0), (0, 0), (0, 0), (0, 1), (0, 1), (0, 4)], [], [(((0, 412), 0), .inr (3, (0, 411))), (((0, 412), 6), .inr (3, (0, 427)))], 0, 0, 66, [(0, .inr (3, (0, 412))), (1, .inr (0, (8, 0))), (2, .inr (0, (9, 0)))], [])
def rxIRLCK_11 (S0 : Nat → Int → Int) (ws : List Int) (S : Nat → Int → Int) (ba sl sa : Int) : Prop := rxIRLC_11 S0 ws S ba sl sa ∧ (rkPr S0 → (rkCw S0 S ((if ba = 1 then 2 else if sl = 1 then 0 else 1), -1, -1, none, none, none) ∧ S 412 2 = (rzN (rzCut (S0 411)) (S0 412 1) (S0 412 2)) ∧ S 412 7 = S0 412 7 ∧ S 427 0 = S0 427 0 ∧ rkPp S) ∧ sa = 434) ∧ ((ba = 1 ∧ rzIs (rzCut (S0 411)) (S0 412 1) rzW_bars (S0 412 2) = true) ∨ (ba = 0 ∧ rzIs (rzCut (S0 411)) (S0 412 1) rzW_bars (S0 412 2) = false ∧ sl = (if rzIs (rzCut (S0 411)) (S0 412 1) rzW_slips (S0 412 2) = true then 1 else 0))) ∧ (S0 412 2) < (rzN (rzCut (S0 411)) (S0 412 1) (S0 412 2)) ∧ ba = 0
def rxmRLCK_11 (S0 : Nat → Int → Int) (ws : List Int) (S : Nat → Int → Int) (ba sl sa : Int) : Nat := rxmRLC_11 S0 ws S ba sl sa
def rxzRLCK_11 : rx_Z := ([(0, 0), (0, 0), (0, 0), (0, 0), (0, 0), (0, 0), (0, 0), (0, 0), (0, 1), (0, 1), (0, 1522)], [], [(((10, 0), 1000014), .inl none), (((0, 412), 0), .inr (3, (0, 411))), (((0, 412), 6), .inr (3, (0, 427)))], 0, 0, 79, [(0, .inr (3, (0, 412))), (1, .inr (0, (8, 0))), (2, .inr (0, (9, 0)))], [.inr (0, (0, 0)), .inr (3, (10, 0)), .inr (3, (0, 412))])
def rxIRLCK_12 (S0 : Nat → Int → Int) (ws : List Int) (S : Nat → Int → Int) (ba sl sa res : Int) : Prop := rxIRLC_12 S0 ws S ba sl sa res ∧ (res = 1 → rkHo (rkLH (rzCut (S0 411)) (S0 412 1) (rzWs S0) (S0 412 2) (S0 412 7)) S0 S)
def rxmRLCK_12 (S0 : Nat → Int → Int) (ws : List Int) (S : Nat → Int → Int) (ba sl sa res : Int) : Nat := rxmRLC_12 S0 ws S ba sl sa res
def rxzRLCK_12 : rx_Z := ([(0, 0), (0, 0), (0, 0), (0, 0), (0, 0), (0, 0), (0, 0), (0, 0), (0, 1), (0, 1), (0, 1522), (0, 1)], [], [(((10, 0), 1000014), .inl none), (((0, 412), 0), .inr (3, (0, 411))), (((0, 412), 6), .inr (3, (0, 427)))], 0, 0, 82, [(0, .inr (3, (0, 412))), (1, .inr (0, (8, 0))), (2, .inr (0, (9, 0)))], [.inr (0, (11, 0))])
def rxoRLCK_0_0 : bx_HO := (([(0, 0), (0, 0), (0, 0), (0, 0), (0, 0), (0, 0), (0, 0), (0, 0)], [], [(((0, 412), 6), .inr (3, (0, 427))), (((0, 412), 0), .inr (3, (0, 411)))], 0, 0, 3, [(0, .inr (3, (0, 412)))], [.inr (3, (0, 525)), .inr (3, (0, 412))]), [], [], [(0, 0), (0, 0), (0, 0), (0, 0), (0, 0), (0, 0), (0, 0), (0, 0)], 1)
def rxoRLCK_2_0 : bx_HO := (([(0, 0), (0, 0), (0, 0), (0, 0), (0, 0), (0, 0), (0, 0), (0, 0), (0, 1)], [], [(((0, 412), 0), .inr (3, (0, 411))), (((0, 412), 6), .inr (3, (0, 427)))], 0, 0, 10, [(1, .inr (0, (8, 0))), (0, .inr (3, (0, 412)))], [.inr (3, (0, 542)), .inr (3, (0, 412))]), [], [], [(0, 0), (0, 0), (0, 0), (0, 0), (0, 0), (0, 0), (0, 0), (0, 0), (8, 0)], 3)
def rxoRLCK_4_0 : bx_HO := (([(0, 0), (0, 0), (0, 0), (0, 0), (0, 0), (0, 0), (0, 0), (0, 0), (0, 0), (0, 0)], [], [(((0, 412), 0), .inr (3, (0, 411))), (((0, 412), 6), .inr (3, (0, 427)))], 0, 0, 25, [(2, .inr (0, (9, 0))), (0, .inr (3, (0, 412))), (1, .inr (0, (8, 0)))], [.inr (3, (0, 530)), .inr (3, (0, 412))]), [], [], [(0, 0), (0, 0), (0, 0), (0, 0), (0, 0), (0, 0), (0, 0), (0, 0), (8, 0), (9, 0)], 5)
def rxoRLCK_4_1 : bx_HO := (([(0, 0), (0, 0), (0, 0), (0, 0), (0, 0), (0, 0), (0, 0), (0, 0), (0, 0), (1, 1)], [(3, (9, 0), (0, 0))], [(((0, 412), 0), .inr (3, (0, 411))), (((0, 412), 6), .inr (3, (0, 427)))], 0, 0, 37, [(2, .inr (0, (9, 0))), (0, .inr (3, (0, 412))), (1, .inr (0, (8, 0)))], [.inr (3, (0, 412))]), [], [], [(0, 0), (0, 0), (0, 0), (0, 0), (0, 0), (0, 0), (0, 0), (0, 0), (8, 0), (9, 0)], 7)
def rxoRLCK_4_2 : bx_HO := (([(0, 0), (0, 0), (0, 0), (0, 0), (0, 0), (0, 0), (0, 0), (0, 0), (1, 1), (0, 1)], [(3, (8, 0), (0, 0))], [(((0, 412), 0), .inr (3, (0, 411))), (((0, 412), 6), .inr (3, (0, 427)))], 0, 0, 37, [(2, .inr (0, (9, 0))), (0, .inr (3, (0, 412))), (1, .inr (0, (8, 0)))], [.inr (3, (0, 412))]), [], [], [(0, 0), (0, 0), (0, 0), (0, 0), (0, 0), (0, 0), (0, 0), (0, 0), (8, 0), (9, 0)], 7)
def rxoRLCK_6_0 : bx_HO := (([(0, 0), (0, 0), (0, 0), (0, 0), (0, 0), (0, 0), (0, 0), (0, 0), (0, 1), (0, 1), (1, 1)], [(3, (10, 0), (0, 0))], [(((0, 412), 0), .inr (3, (0, 411))), (((0, 412), 6), .inr (3, (0, 427)))], 0, 0, 37, [(0, .inr (3, (0, 412))), (1, .inr (0, (8, 0))), (2, .inr (0, (9, 0)))], [.inr (3, (0, 412))]), [], [], [(0, 0), (0, 0), (0, 0), (0, 0), (0, 0), (0, 0), (0, 0), (0, 0), (8, 0), (9, 0)], 7)
def rxeRLCK_6_0 : rx_End × List (Nat × Int × Int) := (([(0, 0), (0, 0), (0, 0), (0, 0), (0, 0), (0, 0), (0, 0), (0, 0), (0, 1), (0, 1), (0, 0), (0, 400)], [], [(((0, 0), 1851192626986356798227167157524121751206303872841384192011665411000000), .inr (0, (11, 0))), (((0, 412), 4), .inr (0, (11, 0))), (((0, 0), 1851192626986356797825753743950570534658660943933713684904017920000000), .inr (0, (11, 0))), (((0, 412), 2), .inr (0, (11, 0))), (((0, 412), 0), .inr (3, (0, 411))), (((0, 412), 6), .inr (3, (0, 427)))], some (.inr (0, (0, 0)))), [])
def rxoRLCK_8_0 : bx_HO := (([(0, 0), (0, 0), (0, 0), (0, 0), (0, 0), (0, 0), (0, 0), (0, 0), (1, 1), (0, 1)], [(3, (8, 0), (0, 0))], [(((0, 412), 0), .inr (3, (0, 411))), (((0, 412), 6), .inr (3, (0, 427)))], 0, 0, 63, [(0, .inr (3, (0, 412))), (1, .inr (0, (8, 0))), (2, .inr (0, (9, 0)))], [.inr (0, (0, (-1))), .inr (0, (0, (-1))), .inr (0, (0, 2)), .inr (3, (0, 427))]), [], [], [(0, 0), (0, 0), (0, 0), (0, 0), (0, 0), (0, 0), (0, 0), (0, 0), (8, 0), (9, 0), (0, 2)], 9)
def rxoRLCK_8_1 : bx_HO := (([(0, 0), (0, 0), (0, 0), (0, 0), (0, 0), (0, 0), (0, 0), (0, 0), (0, 0), (1, 1)], [(3, (9, 0), (0, 0))], [(((0, 412), 0), .inr (3, (0, 411))), (((0, 412), 6), .inr (3, (0, 427)))], 0, 0, 63, [(0, .inr (3, (0, 412))), (1, .inr (0, (8, 0))), (2, .inr (0, (9, 0)))], [.inr (0, (0, (-1))), .inr (0, (0, (-1))), .inr (0, (0, 0)), .inr (3, (0, 427))]), [], [], [(0, 0), (0, 0), (0, 0), (0, 0), (0, 0), (0, 0), (0, 0), (0, 0), (8, 0), (9, 0), (0, 0)], 9)
def rxoRLCK_8_2 : bx_HO := (([(0, 0), (0, 0), (0, 0), (0, 0), (0, 0), (0, 0), (0, 0), (0, 0), (0, 0), (0, 0)], [], [(((0, 412), 0), .inr (3, (0, 411))), (((0, 412), 6), .inr (3, (0, 427)))], 0, 0, 63, [(0, .inr (3, (0, 412))), (1, .inr (0, (8, 0))), (2, .inr (0, (9, 0)))], [.inr (0, (0, (-1))), .inr (0, (0, (-1))), .inr (0, (0, 1)), .inr (3, (0, 427))]), [], [], [(0, 0), (0, 0), (0, 0), (0, 0), (0, 0), (0, 0), (0, 0), (0, 0), (8, 0), (9, 0), (0, 1)], 9)
def rxoRLCK_10_0 : bx_HO := (([(0, 0), (0, 0), (0, 0), (0, 0), (0, 0), (0, 0), (0, 0), (0, 0), (0, 0), (0, 1), (0, 4), (0, 1522)], [], [(((0, 0), 1851192626986356799029993984671224184301589730656725206235807744000000), .inr (3, (11, 0))), (((0, 427), 8), .inr (3, (11, 0))), (((11, 0), 1000014), .inl none), (((0, 412), 0), .inr (3, (0, 411))), (((0, 412), 6), .inr (3, (0, 427)))], 0, 0, 79, [(0, .inr (3, (0, 412))), (1, .inr (0, (8, 0))), (2, .inr (0, (9, 0)))], [.inr (0, (0, 0)), .inr (3, (11, 0)), .inr (3, (0, 412))]), [], [], [(0, 0), (0, 0), (0, 0), (0, 0), (0, 0), (0, 0), (0, 0), (0, 0), (8, 0), (9, 0), (11, 0)], 11)
def rxeRLCK_10_0 : rx_End × List (Nat × Int × Int) := (([(0, 0), (0, 0), (0, 0), (0, 0), (0, 0), (0, 0), (0, 0), (0, 0), (1, 1), (0, 1), (0, 4)], [(3, (8, 0), (0, 0))], [(((0, 412), 0), .inr (3, (0, 411))), (((0, 412), 6), .inr (3, (0, 427)))], some (.inr (0, (0, 1)))), [])
def rxeRLCK_12_0 : rx_End × List (Nat × Int × Int) := (([(0, 0), (0, 0), (0, 0), (0, 0), (0, 0), (0, 0), (0, 0), (0, 0), (0, 1), (0, 1), (0, 1522), (1, 1)], [(3, (11, 0), (0, 0))], [(((10, 0), 1000014), .inl none), (((0, 412), 0), .inr (3, (0, 411))), (((0, 412), 6), .inr (3, (0, 427)))], some (.inr (0, (0, 1)))), [])
def rxeRLCK_12_1 : rx_End × List (Nat × Int × Int) := (([(0, 0), (0, 0), (0, 0), (0, 0), (0, 0), (0, 0), (0, 0), (0, 0), (0, 1), (0, 1), (0, 1522), (0, 0)], [], [(((10, 0), 1000014), .inl none), (((0, 412), 0), .inr (3, (0, 411))), (((0, 412), 6), .inr (3, (0, 427)))], some (.inr (0, (0, 0)))), [])
def rxYRLCK : List bx_HE := [(rxzRLCK_0, [rxoRLCK_0_0], []), (rxzRLCK_1, [], []), (rxzRLCK_2, [rxoRLCK_2_0], []), (rxzRLCK_3, [], []), (rxzRLCK_4, [rxoRLCK_4_0, rxoRLCK_4_1, rxoRLCK_4_2], []), (rxzRLCK_5, [], []), (rxzRLCK_6, [rxoRLCK_6_0], [rxeRLCK_6_0]), (rxzRLCK_7, [], []), (rxzRLCK_8, [rxoRLCK_8_0, rxoRLCK_8_1, rxoRLCK_8_2], []), (rxzRLCK_9, [], []), (rxzRLCK_10, [rxoRLCK_10_0], [rxeRLCK_10_0]), (rxzRLCK_11, [], []), (rxzRLCK_12, [], [rxeRLCK_12_0, rxeRLCK_12_1])]
def rxURLCK (q : bx_HE) : Bool := Nat.beq (rx_zpc q.1) 3 || Nat.beq (rx_zpc q.1) 10 || Nat.beq (rx_zpc q.1) 25 || Nat.beq (rx_zpc q.1) 37 || Nat.beq (rx_zpc q.1) 63 || Nat.beq (rx_zpc q.1) 79
def rxYBRLCK : bx_B := (rxV, rxNP, rxDmf, bx_mdH rxCRLCK.2.2.1)
set_option maxRecDepth 100000 in
theorem rxYcRLCK : bx_chkH rxYBRLCK rxM86 rxCRLCK rxYRLCK (rxURLCK, fun cut z => rx_ex2 (rxCT rxYBRLCK rxCnE) cut 30000 rxCRLCK.2.2.2.1 86 z) = true := by decide +kernel
def rxIRLCK (S0 : Nat → Int → Int) (ws : List Int) (i : Nat) : bx_SP := fun S r => match i with | 0 => rxIRLCK_0 S0 ws S | 1 => rxIRLCK_1 S0 ws S | 2 => rxIRLCK_2 S0 ws S (r 8) | 3 => rxIRLCK_3 S0 ws S (r 8) | 4 => rxIRLCK_4 S0 ws S (r 8) (r 9) | 5 => rxIRLCK_5 S0 ws S (r 8) (r 9) | 6 => rxIRLCK_6 S0 ws S (r 8) (r 9) (r 10) | 7 => rxIRLCK_7 S0 ws S (r 8) (r 9) | 8 => rxIRLCK_8 S0 ws S (r 8) (r 9) | 9 => rxIRLCK_9 S0 ws S (r 8) (r 9) (r 10) | 10 => rxIRLCK_10 S0 ws S (r 8) (r 9) (r 10) | 11 => rxIRLCK_11 S0 ws S (r 8) (r 9) (r 10) | 12 => rxIRLCK_12 S0 ws S (r 8) (r 9) (r 10) (r 11) | _ => False
def rxmRLCK (S0 : Nat → Int → Int) (ws : List Int) (i : Nat) (S : Nat → Int → Int) (r : Nat → Int) : Nat := match i with | 0 => rxmRLCK_0 S0 ws S | 1 => rxmRLCK_1 S0 ws S | 2 => rxmRLCK_2 S0 ws S (r 8) | 3 => rxmRLCK_3 S0 ws S (r 8) | 4 => rxmRLCK_4 S0 ws S (r 8) (r 9) | 5 => rxmRLCK_5 S0 ws S (r 8) (r 9) | 6 => rxmRLCK_6 S0 ws S (r 8) (r 9) (r 10) | 7 => rxmRLCK_7 S0 ws S (r 8) (r 9) | 8 => rxmRLCK_8 S0 ws S (r 8) (r 9) | 9 => rxmRLCK_9 S0 ws S (r 8) (r 9) (r 10) | 10 => rxmRLCK_10 S0 ws S (r 8) (r 9) (r 10) | 11 => rxmRLCK_11 S0 ws S (r 8) (r 9) (r 10) | 12 => rxmRLCK_12 S0 ws S (r 8) (r 9) (r 10) (r 11) | _ => 0
def rxPRLCK (S0 : Nat → Int → Int) (ws : List Int) : Prop := rxPRLC S0 ws
def rxPSRLCK (S0 : Nat → Int → Int) (ws : List Int) (S : Nat → Int → Int) (w : Option Int) : Prop := rxPSRLC S0 ws S w ∧ (w = some 1 → rkHo (rkLH (rzCut (S0 411)) (S0 412 1) (rzWs S0) (S0 412 2) (S0 412 7)) S0 S)
theorem rxkRLCK_1 {S0 : Nat → Int → Int} {ws : List Int} {S : Nat → Int → Int} (hP : rxPRLCK S0 ws) (hin : bx_same rxL (bx_mdl rxCRLCK.2.2.1) S0 S) (I0 : bx_Inv rxL S) (hinv : rxIRLCK_1 S0 ws S)  : rxPIWX S [412, 525] ∧ ∀ (S_p : Nat → Int → Int) (r : Int), 0 ≤ r → r ≤ 1 → rxPSIWX S [412, 525] S_p (some r) → bx_Inv rxL S_p → bx_same rxL (bx_mdl rxC59.2.2.1) S S_p → rxIRLCK_2 S0 ws S_p r ∧ rxmRLCK_2 S0 ws S_p r < rxmRLCK_1 S0 ws S := by
  obtain ⟨hI, hx⟩ := hinv
  have g_ := rxkRLC_1 hP hin I0 hI
  exact ⟨g_.1, fun S_p r l_ u_ hq I1 hsm => ⟨⟨(g_.2 S_p r l_ u_ hq I1 hsm).1, (by
    have e_ := hq.1
    subst e_
    exact hx)⟩, (g_.2 S_p r l_ u_ hq I1 hsm).2⟩⟩
theorem rxsRLCK_1 {X : (Nat → Int → Int) → Prop} {S0 : Nat → Int → Int} {ws : List Int} (hP : rxPRLCK S0 ws) : rx_obK X S0 rxCRLCK.2.2.1 rxC59.2.2.1 (rxIRLCK S0 ws) (rxmRLCK S0 ws) 1 2 rxzRLCK_1 rxzRLCK_2 [.inr (3, (0, 412)), .inr (3, (0, 525))] (some 8) rxPIWX rxPSIWX := by
  intro S r hinv hXS I0 hin hs_ hf_
  have b_ := bx_bds_sat hs_
  have f_ := bx_fcl_ok hs_.1 hf_
  have g := rxkRLCK_1 hP hin I0 hinv 
  have ea : List.map (bx_num r) [.inr (3, (0, 412)), .inr (3, (0, 525))] = [412, 525] := by
    simp only [List.map_cons, List.map_nil, bx_xv_ok hs_.1]
    rfl
  rw [ea]
  refine ⟨g.1, fun S_p w r_p hPS hX_p I1 hsm hr hw hs_p => ?_⟩
  have hw := hw _ rfl
  subst hw
  have b_p := hs_p.2.2 8 _ _ rfl
  have g2 := g.2 S_p (r_p 8) b_p.1 b_p.2 hPS I1 hsm
  show rxIRLCK_2 S0 ws S_p (r_p 8) ∧ rxmRLCK_2 S0 ws S_p (r_p 8) < _
  exact g2
theorem rxkRLCK_3 {S0 : Nat → Int → Int} {ws : List Int} {S : Nat → Int → Int} {ba : Int} (hP : rxPRLCK S0 ws) (hin : bx_same rxL (bx_mdl rxCRLCK.2.2.1) S0 S) (I0 : bx_Inv rxL S) (hinv : rxIRLCK_3 S0 ws S ba) (l8 : 0 ≤ ba) (u8 : ba ≤ 1) : rxPIWX S [412, 542] ∧ ∀ (S_p : Nat → Int → Int) (r : Int), 0 ≤ r → r ≤ 1 → rxPSIWX S [412, 542] S_p (some r) → bx_Inv rxL S_p → bx_same rxL (bx_mdl rxC59.2.2.1) S S_p → rxIRLCK_4 S0 ws S_p ba r ∧ rxmRLCK_4 S0 ws S_p ba r < rxmRLCK_3 S0 ws S ba := by
  obtain ⟨hI, hx⟩ := hinv
  have g_ := rxkRLC_3 hP hin I0 hI l8 u8
  exact ⟨g_.1, fun S_p r l_ u_ hq I1 hsm => ⟨⟨(g_.2 S_p r l_ u_ hq I1 hsm).1, (by
    have e_ := hq.1
    subst e_
    exact hx)⟩, (g_.2 S_p r l_ u_ hq I1 hsm).2⟩⟩
theorem rxsRLCK_3 {X : (Nat → Int → Int) → Prop} {S0 : Nat → Int → Int} {ws : List Int} (hP : rxPRLCK S0 ws) : rx_obK X S0 rxCRLCK.2.2.1 rxC59.2.2.1 (rxIRLCK S0 ws) (rxmRLCK S0 ws) 3 4 rxzRLCK_3 rxzRLCK_4 [.inr (3, (0, 412)), .inr (3, (0, 542))] (some 9) rxPIWX rxPSIWX := by
  intro S r hinv hXS I0 hin hs_ hf_
  have b_ := bx_bds_sat hs_
  have f_ := bx_fcl_ok hs_.1 hf_
  obtain ⟨⟨l8, u8⟩, -⟩ := b_
  have g := rxkRLCK_3 hP hin I0 hinv l8 u8
  have ea : List.map (bx_num r) [.inr (3, (0, 412)), .inr (3, (0, 542))] = [412, 542] := by
    simp only [List.map_cons, List.map_nil, bx_xv_ok hs_.1]
    rfl
  rw [ea]
  refine ⟨g.1, fun S_p w r_p hPS hX_p I1 hsm hr hw hs_p => ?_⟩
  have hw := hw _ rfl
  subst hw
  have b_p := hs_p.2.2 9 _ _ rfl
  have g2 := g.2 S_p (r_p 9) b_p.1 b_p.2 hPS I1 hsm
  show rxIRLCK_4 S0 ws S_p (r_p 8) (r_p 9) ∧ rxmRLCK_4 S0 ws S_p (r_p 8) (r_p 9) < _
  rw [hr 8 (by decide)]
  exact g2
theorem rxkRLCK_5 {S0 : Nat → Int → Int} {ws : List Int} {S : Nat → Int → Int} {ba sl : Int} (hP : rxPRLCK S0 ws) (hin : bx_same rxL (bx_mdl rxCRLCK.2.2.1) S0 S) (I0 : bx_Inv rxL S) (hinv : rxIRLCK_5 S0 ws S ba sl) (l8 : 0 ≤ ba) (u8 : ba ≤ 1) (l9 : 0 ≤ sl) (u9 : sl ≤ 1) : rxPIWX S [412, 530] ∧ ∀ (S_p : Nat → Int → Int) (r : Int), 0 ≤ r → r ≤ 1 → rxPSIWX S [412, 530] S_p (some r) → bx_Inv rxL S_p → bx_same rxL (bx_mdl rxC59.2.2.1) S S_p → rxIRLCK_6 S0 ws S_p ba sl r ∧ rxmRLCK_6 S0 ws S_p ba sl r < rxmRLCK_5 S0 ws S ba sl := by
  obtain ⟨hI, hx⟩ := hinv
  have g_ := rxkRLC_5 hP hin I0 hI l8 u8 l9 u9
  exact ⟨g_.1, fun S_p r l_ u_ hq I1 hsm => ⟨⟨(g_.2 S_p r l_ u_ hq I1 hsm).1, (by
    have e_ := hq.1
    subst e_
    exact hx)⟩, (g_.2 S_p r l_ u_ hq I1 hsm).2⟩⟩
theorem rxsRLCK_5 {X : (Nat → Int → Int) → Prop} {S0 : Nat → Int → Int} {ws : List Int} (hP : rxPRLCK S0 ws) : rx_obK X S0 rxCRLCK.2.2.1 rxC59.2.2.1 (rxIRLCK S0 ws) (rxmRLCK S0 ws) 5 6 rxzRLCK_5 rxzRLCK_6 [.inr (3, (0, 412)), .inr (3, (0, 530))] (some 10) rxPIWX rxPSIWX := by
  intro S r hinv hXS I0 hin hs_ hf_
  have b_ := bx_bds_sat hs_
  have f_ := bx_fcl_ok hs_.1 hf_
  obtain ⟨⟨l8, u8⟩, ⟨l9, u9⟩, -⟩ := b_
  have g := rxkRLCK_5 hP hin I0 hinv l8 u8 l9 u9
  have ea : List.map (bx_num r) [.inr (3, (0, 412)), .inr (3, (0, 530))] = [412, 530] := by
    simp only [List.map_cons, List.map_nil, bx_xv_ok hs_.1]
    rfl
  rw [ea]
  refine ⟨g.1, fun S_p w r_p hPS hX_p I1 hsm hr hw hs_p => ?_⟩
  have hw := hw _ rfl
  subst hw
  have b_p := hs_p.2.2 10 _ _ rfl
  have g2 := g.2 S_p (r_p 10) b_p.1 b_p.2 hPS I1 hsm
  show rxIRLCK_6 S0 ws S_p (r_p 8) (r_p 9) (r_p 10) ∧ rxmRLCK_6 S0 ws S_p (r_p 8) (r_p 9) (r_p 10) < _
  rw [hr 8 (by decide), hr 9 (by decide)]
  exact g2
theorem rxkRLCK_7 {S0 : Nat → Int → Int} {ws : List Int} {S : Nat → Int → Int} {ba sl : Int} (hP : rxPRLCK S0 ws) (hin : bx_same rxL (bx_mdl rxCRLCK.2.2.1) S0 S) (I0 : bx_Inv rxL S) (hinv : rxIRLCK_7 S0 ws S ba sl) (l8 : 0 ≤ ba) (u8 : ba ≤ 1) (l9 : 0 ≤ sl) (u9 : sl ≤ 1) : rxPAD S [412] ∧ ∀ (S_p : Nat → Int → Int), rxPSAD S [412] S_p none → bx_Inv rxL S_p → bx_same rxL (bx_mdl rxC84.2.2.1) S S_p → rxIRLCK_8 S0 ws S_p ba sl ∧ rxmRLCK_8 S0 ws S_p ba sl < rxmRLCK_7 S0 ws S ba sl := by
  obtain ⟨hI, hx⟩ := hinv
  have g_ := rxkRLC_7 hP hin I0 hI l8 u8 l9 u9
  exact ⟨g_.1, fun S_p hq I1 hsm => ⟨⟨(g_.2 S_p hq I1 hsm).1, (by
    exact ⟨rkTa_ad hx.1 hI.1.1 hI.1.2.1 hsm (by decide +kernel) (by decide +kernel) hq.2.1, hx.2⟩)⟩, (g_.2 S_p hq I1 hsm).2⟩⟩
theorem rxsRLCK_7 {X : (Nat → Int → Int) → Prop} {S0 : Nat → Int → Int} {ws : List Int} (hP : rxPRLCK S0 ws) : rx_obK X S0 rxCRLCK.2.2.1 rxC84.2.2.1 (rxIRLCK S0 ws) (rxmRLCK S0 ws) 7 8 rxzRLCK_7 rxzRLCK_8 [.inr (3, (0, 412))] none rxPAD rxPSAD := by
  intro S r hinv hXS I0 hin hs_ hf_
  have b_ := bx_bds_sat hs_
  have f_ := bx_fcl_ok hs_.1 hf_
  obtain ⟨⟨l8, u8⟩, ⟨l9, u9⟩, -⟩ := b_
  have g := rxkRLCK_7 hP hin I0 hinv l8 u8 l9 u9
  have ea : List.map (bx_num r) [.inr (3, (0, 412))] = [412] := by
    simp only [List.map_cons, List.map_nil, bx_xv_ok hs_.1]
    rfl
  rw [ea]
  refine ⟨g.1, fun S_p w r_p hPS hX_p I1 hsm hr hw hs_p => ?_⟩
  have hw : w = none := hPS.1
  subst hw
  have g2 := g.2 S_p hPS I1 hsm
  show rxIRLCK_8 S0 ws S_p (r_p 8) (r_p 9) ∧ rxmRLCK_8 S0 ws S_p (r_p 8) (r_p 9) < _
  rw [hr 8 (by decide), hr 9 (by decide)]
  exact g2
theorem rxkRLCK_9 {S0 : Nat → Int → Int} {ws : List Int} {S : Nat → Int → Int} {ba sl ki : Int} (hP : rxPRLCK S0 ws) (hin : bx_same rxL (bx_mdl rxCRLCK.2.2.1) S0 S) (I0 : bx_Inv rxL S) (hinv : rxIRLCK_9 S0 ws S ba sl ki) (l8 : 0 ≤ ba) (u8 : ba ≤ 1) (l9 : 0 ≤ sl) (u9 : sl ≤ 1) (l10 : 0 ≤ ki) (u10 : ki ≤ 4) : rxPOCDK S [427, ki, (-1), (-1)] ∧ ∀ (S_p : Nat → Int → Int), rxPSOCDK S [427, ki, (-1), (-1)] S_p none → bx_Inv rxL S_p → bx_same rxL (bx_mdl rxCOCDK.2.2.1) S S_p → rxIRLCK_10 S0 ws S_p ba sl ki ∧ rxmRLCK_10 S0 ws S_p ba sl ki < rxmRLCK_9 S0 ws S ba sl ki := by
  obtain ⟨hI, hx⟩ := hinv
  have g_ := rxkRLC_9 hP hin I0 hI l8 u8 l9 u9 l10 u10
  exact ⟨g_.1, fun S_p hq I1 hsm => ⟨⟨(g_.2 S_p hq.2.1 I1 hsm).1, (by
    refine ⟨fun hp => ?_, hx.2.1, hx.2.2.1, hx.2.2.2⟩
    obtain ⟨-, -, pg, ki2, st2, cu2, hw2, h⟩ := hq
    have e0 : (427 : Int) = pg := Option.some.inj (congrArg (fun l : List Int => l[0]?) hw2)
    have e1 : ki = ki2 := Option.some.inj (congrArg (fun l : List Int => l[1]?) hw2)
    have e2 : (-1 : Int) = st2 := Option.some.inj (congrArg (fun l : List Int => l[2]?) hw2)
    have e3 : (-1 : Int) = cu2 := Option.some.inj (congrArg (fun l : List Int => l[3]?) hw2)
    subst e0
    subst e1
    subst e2
    subst e3
    exact rkCw_oc hp hx.1 (rzN_b (T := (rzCut (S0 411))) (n := (S0 412 1)) (f := S0 412 2)).1 (h rfl))⟩, (g_.2 S_p hq.2.1 I1 hsm).2⟩⟩
theorem rxsRLCK_9 {X : (Nat → Int → Int) → Prop} {S0 : Nat → Int → Int} {ws : List Int} (hP : rxPRLCK S0 ws) : rx_obK X S0 rxCRLCK.2.2.1 rxCOCDK.2.2.1 (rxIRLCK S0 ws) (rxmRLCK S0 ws) 9 10 rxzRLCK_9 rxzRLCK_10 [.inr (3, (0, 427)), .inr (0, (10, 0)), .inr (0, (0, (-1))), .inr (0, (0, (-1)))] none rxPOCDK rxPSOCDK := by
  intro S r hinv hXS I0 hin hs_ hf_
  have b_ := bx_bds_sat hs_
  have f_ := bx_fcl_ok hs_.1 hf_
  obtain ⟨⟨l8, u8⟩, ⟨l9, u9⟩, ⟨l10, u10⟩, -⟩ := b_
  have g := rxkRLCK_9 hP hin I0 hinv l8 u8 l9 u9 l10 u10
  have ea : List.map (bx_num r) [.inr (3, (0, 427)), .inr (0, (10, 0)), .inr (0, (0, (-1))), .inr (0, (0, (-1)))] = [427, (r 10), -1, -1] := by
    simp only [List.map_cons, List.map_nil, bx_xv_ok hs_.1]
    rfl
  rw [ea]
  refine ⟨g.1, fun S_p w r_p hPS hX_p I1 hsm hr hw hs_p => ?_⟩
  have hw : w = none := hPS.1
  subst hw
  have g2 := g.2 S_p hPS I1 hsm
  show rxIRLCK_10 S0 ws S_p (r_p 8) (r_p 9) (r_p 10) ∧ rxmRLCK_10 S0 ws S_p (r_p 8) (r_p 9) (r_p 10) < _
  rw [hr 8 (by decide), hr 9 (by decide), hr 10 (by decide)]
  exact g2
theorem rxkRLCK_11 {S0 : Nat → Int → Int} {ws : List Int} {S : Nat → Int → Int} {ba sl sa : Int} (hP : rxPRLCK S0 ws) (hin : bx_same rxL (bx_mdl rxCRLCK.2.2.1) S0 S) (I0 : bx_Inv rxL S) (hinv : rxIRLCK_11 S0 ws S ba sl sa) (l8 : 0 ≤ ba) (u8 : ba ≤ 1) (l9 : 0 ≤ sl) (u9 : sl ≤ 1) (l10 : 0 ≤ sa) (u10 : sa ≤ 1522) : rxPREDK S [412, sa, 0] ∧ ∀ (S_p : Nat → Int → Int) (res : Int), 0 ≤ res → res ≤ 1 → rxPSREDK S [412, sa, 0] S_p (some res) → bx_Inv rxL S_p → bx_same rxL (bx_mdl rxCREDK.2.2.1) S S_p → rxIRLCK_12 S0 ws S_p ba sl sa res ∧ rxmRLCK_12 S0 ws S_p ba sl sa res < rxmRLCK_11 S0 ws S ba sl sa := by
  obtain ⟨hI, hx⟩ := hinv
  have g_ := rxkRLC_11 hP hin I0 hI l8 u8 l9 u9 l10 u10
  exact ⟨g_.1, fun S_p res l_ u_ hq I1 hsm => ⟨⟨(g_.2 S_p res l_ u_ hq.1 I1 hsm).1, (by
    intro g_ hp
    obtain ⟨-, sa2, sg2, hw2, h⟩ := hq
    have e1 : sa = sa2 := Option.some.inj (congrArg (fun l : List Int => l[1]?) hw2)
    have e2 : (0 : Int) = sg2 := Option.some.inj (congrArg (fun l : List Int => l[2]?) hw2)
    subst e1
    subst e2
    obtain ⟨⟨hc, h2, h7, h0, hpp⟩, hsa⟩ := hx.1 hp
    have hA : rzAt (rzLH (rzCut (S0 411)) (S0 412 1) (rzWs S0) (S0 412 2) (S0 412 7)) S0 S (rzEx (rzCut (S0 411)) (S0 412 1) (rzWs S0) 0) := hI
    have p6 := hp.2.2.2.2.2
    obtain ⟨-, hkd, hlt, hb0⟩ := hx
    obtain ⟨d, d1, d2, -⟩ := rkCw_e hp hc hsm (by decide +kernel) (Or.inl hsa) (by omega) (h (by rw [g_]))
    rw [hA.1.1, hA.1.2.1, hA.1.ws, h2, h7] at d1
    have d2 := d2 hsa
    rcases hkd with ⟨z, -⟩ | ⟨z, y1, y2⟩
    · exfalso
      omega
    · refine ⟨_, rzAlt_n y1 ⟨d, d1, rfl⟩, ?_⟩
      rw [if_neg (show ¬ ba = 1 by omega), y2] at d2
      by_cases ys : rzIs (rzCut (S0 411)) (S0 412 1) rzW_slips (S0 412 2) = true
      · rw [if_pos ys] at d2 ⊢
        exact d2
      · rw [if_neg ys] at d2 ⊢
        exact d2)⟩, (g_.2 S_p res l_ u_ hq.1 I1 hsm).2⟩⟩
theorem rxsRLCK_11 {X : (Nat → Int → Int) → Prop} {S0 : Nat → Int → Int} {ws : List Int} (hP : rxPRLCK S0 ws) : rx_obK X S0 rxCRLCK.2.2.1 rxCREDK.2.2.1 (rxIRLCK S0 ws) (rxmRLCK S0 ws) 11 12 rxzRLCK_11 rxzRLCK_12 [.inr (3, (0, 412)), .inr (3, (10, 0)), .inr (0, (0, 0))] (some 11) rxPREDK rxPSREDK := by
  intro S r hinv hXS I0 hin hs_ hf_
  have b_ := bx_bds_sat hs_
  have f_ := bx_fcl_ok hs_.1 hf_
  obtain ⟨⟨l8, u8⟩, ⟨l9, u9⟩, ⟨l10, u10⟩, -⟩ := b_
  have g := rxkRLCK_11 hP hin I0 hinv l8 u8 l9 u9 l10 u10
  have ea : List.map (bx_num r) [.inr (3, (0, 412)), .inr (3, (10, 0)), .inr (0, (0, 0))] = [412, (r 10), 0] := by
    simp only [List.map_cons, List.map_nil, bx_xv_ok hs_.1]
    rfl
  rw [ea]
  refine ⟨g.1, fun S_p w r_p hPS hX_p I1 hsm hr hw hs_p => ?_⟩
  have hw := hw _ rfl
  subst hw
  have b_p := hs_p.2.2 11 _ _ rfl
  have g2 := g.2 S_p (r_p 11) b_p.1 b_p.2 hPS I1 hsm
  show rxIRLCK_12 S0 ws S_p (r_p 8) (r_p 9) (r_p 10) (r_p 11) ∧ rxmRLCK_12 S0 ws S_p (r_p 8) (r_p 9) (r_p 10) (r_p 11) < _
  rw [hr 8 (by decide), hr 9 (by decide), hr 10 (by decide)]
  exact g2
theorem rxcRLCK_0_0 {S0 : Nat → Int → Int} {ws : List Int} {S : Nat → Int → Int} (hP : rxPRLCK S0 ws) (hin : bx_same rxL (bx_mdl rxCRLCK.2.2.1) S0 S) (I0 : bx_Inv rxL S) (hinv : rxIRLCK_0 S0 ws S)  : (True) ∧ (True) ∧ rxIRLCK_1 S0 ws S ∧ rxmRLCK_1 S0 ws S < rxmRLCK_0 S0 ws S := by
  obtain ⟨hI, hx⟩ := hinv
  obtain ⟨a_, b_, c_, d_⟩ := rxcRLC_0_0 hP hin I0 hI
  exact ⟨a_, b_, ⟨c_, (by
    obtain ⟨e, -⟩ := hI
    subst e
    exact rkTa_rf)⟩, d_⟩
theorem rxgRLCK_0_0 {X : (Nat → Int → Int) → Prop} {S0 : Nat → Int → Int} {ws : List Int} (hP : rxPRLCK S0 ws) : bx_obC rxL X S0 rxCRLCK.2.2.1 (rxIRLCK S0 ws) (rxmRLCK S0 ws) 0 rxzRLCK_0 rxoRLCK_0_0 := by
  intro S S_p r r_p hinv hX hin hsm_ hseg
  obtain ⟨I0, I1, h0_, hr_, b_, f_, d_⟩ := bx_cl (evs := []) (fvs := []) hseg (by decide +kernel) (by decide +kernel)
  have hinv : rxIRLCK_0 S0 ws S := hinv
  have w_ := d_
  subst w_
  have g := rxcRLCK_0_0 hP hin I0 hinv 
  refine ⟨bx_narP_ok (l := []) g.1, bx_nfP_ok h0_ (fvs := []) (by decide +kernel) g.2.1, ?_, ?_⟩
  · show rxIRLCK_1 S0 ws S_p
    exact g.2.2.1
  · show rxmRLCK_1 S0 ws S_p < rxmRLCK_0 S0 ws S_p
    exact g.2.2.2
theorem rxcRLCK_2_0 {S0 : Nat → Int → Int} {ws : List Int} {S : Nat → Int → Int} {r : Int} (hP : rxPRLCK S0 ws) (hin : bx_same rxL (bx_mdl rxCRLCK.2.2.1) S0 S) (I0 : bx_Inv rxL S) (hinv : rxIRLCK_2 S0 ws S r) (l8 : 0 ≤ r) (u8 : r ≤ 1) : (True) ∧ (True) ∧ rxIRLCK_3 S0 ws S r ∧ rxmRLCK_3 S0 ws S r < rxmRLCK_2 S0 ws S r := by
  obtain ⟨hI, hx⟩ := hinv
  obtain ⟨a_, b_, c_, d_⟩ := rxcRLC_2_0 hP hin I0 hI l8 u8
  exact ⟨a_, b_, ⟨c_, hx⟩, d_⟩
theorem rxgRLCK_2_0 {X : (Nat → Int → Int) → Prop} {S0 : Nat → Int → Int} {ws : List Int} (hP : rxPRLCK S0 ws) : bx_obC rxL X S0 rxCRLCK.2.2.1 (rxIRLCK S0 ws) (rxmRLCK S0 ws) 2 rxzRLCK_2 rxoRLCK_2_0 := by
  intro S S_p r r_p hinv hX hin hsm_ hseg
  obtain ⟨I0, I1, h0_, hr_, b_, f_, d_⟩ := bx_cl (evs := []) (fvs := []) hseg (by decide +kernel) (by decide +kernel)
  have hinv : rxIRLCK_2 S0 ws S (r 8) := hinv
  rw [← hr_ 8 (by decide)] at hinv
  obtain ⟨⟨l8, u8⟩, -⟩ := b_
  have w_ := d_
  subst w_
  have g := rxcRLCK_2_0 hP hin I0 hinv l8 u8
  refine ⟨bx_narP_ok (l := []) g.1, bx_nfP_ok h0_ (fvs := []) (by decide +kernel) g.2.1, ?_, ?_⟩
  · show rxIRLCK_3 S0 ws S_p (bx_val [(0, 0), (0, 0), (0, 0), (0, 0), (0, 0), (0, 0), (0, 0), (0, 0), (8, 0)] r_p 8)
    rw [bx_val_x (n := 8) (e := (8, 0)) h0_ rfl]
    exact g.2.2.1
  · show rxmRLCK_3 S0 ws S_p (bx_val [(0, 0), (0, 0), (0, 0), (0, 0), (0, 0), (0, 0), (0, 0), (0, 0), (8, 0)] r_p 8) < rxmRLCK_2 S0 ws S_p (r 8)
    rw [bx_val_x (n := 8) (e := (8, 0)) h0_ rfl, ← hr_ 8 (by decide)]
    exact g.2.2.2
theorem rxcRLCK_4_0 {S0 : Nat → Int → Int} {ws : List Int} {S : Nat → Int → Int} {ba r : Int} (hP : rxPRLCK S0 ws) (hin : bx_same rxL (bx_mdl rxCRLCK.2.2.1) S0 S) (I0 : bx_Inv rxL S) (hinv : rxIRLCK_4 S0 ws S ba r) (l8 : 0 ≤ ba) (u8 : ba ≤ 0) (l9 : 0 ≤ r) (u9 : r ≤ 0) : (True) ∧ (True) ∧ rxIRLCK_5 S0 ws S ba r ∧ rxmRLCK_5 S0 ws S ba r < rxmRLCK_4 S0 ws S ba r := by
  obtain ⟨hI, hx⟩ := hinv
  obtain ⟨a_, b_, c_, d_⟩ := rxcRLC_4_0 hP hin I0 hI l8 u8 l9 u9
  exact ⟨a_, b_, ⟨c_, hx⟩, d_⟩
theorem rxgRLCK_4_0 {X : (Nat → Int → Int) → Prop} {S0 : Nat → Int → Int} {ws : List Int} (hP : rxPRLCK S0 ws) : bx_obC rxL X S0 rxCRLCK.2.2.1 (rxIRLCK S0 ws) (rxmRLCK S0 ws) 4 rxzRLCK_4 rxoRLCK_4_0 := by
  intro S S_p r r_p hinv hX hin hsm_ hseg
  obtain ⟨I0, I1, h0_, hr_, b_, f_, d_⟩ := bx_cl (evs := []) (fvs := []) hseg (by decide +kernel) (by decide +kernel)
  have hinv : rxIRLCK_4 S0 ws S (r 8) (r 9) := hinv
  rw [← hr_ 8 (by decide), ← hr_ 9 (by decide)] at hinv
  obtain ⟨⟨l8, u8⟩, ⟨l9, u9⟩, -⟩ := b_
  have w_ := d_
  subst w_
  have g := rxcRLCK_4_0 hP hin I0 hinv l8 u8 l9 u9
  refine ⟨bx_narP_ok (l := []) g.1, bx_nfP_ok h0_ (fvs := []) (by decide +kernel) g.2.1, ?_, ?_⟩
  · show rxIRLCK_5 S0 ws S_p (bx_val [(0, 0), (0, 0), (0, 0), (0, 0), (0, 0), (0, 0), (0, 0), (0, 0), (8, 0), (9, 0)] r_p 8) (bx_val [(0, 0), (0, 0), (0, 0), (0, 0), (0, 0), (0, 0), (0, 0), (0, 0), (8, 0), (9, 0)] r_p 9)
    rw [bx_val_x (n := 8) (e := (8, 0)) h0_ rfl, bx_val_x (n := 9) (e := (9, 0)) h0_ rfl]
    exact g.2.2.1
  · show rxmRLCK_5 S0 ws S_p (bx_val [(0, 0), (0, 0), (0, 0), (0, 0), (0, 0), (0, 0), (0, 0), (0, 0), (8, 0), (9, 0)] r_p 8) (bx_val [(0, 0), (0, 0), (0, 0), (0, 0), (0, 0), (0, 0), (0, 0), (0, 0), (8, 0), (9, 0)] r_p 9) < rxmRLCK_4 S0 ws S_p (r 8) (r 9)
    rw [bx_val_x (n := 8) (e := (8, 0)) h0_ rfl, bx_val_x (n := 9) (e := (9, 0)) h0_ rfl, ← hr_ 8 (by decide), ← hr_ 9 (by decide)]
    exact g.2.2.2
theorem rxcRLCK_4_1 {S0 : Nat → Int → Int} {ws : List Int} {S : Nat → Int → Int} {ba r : Int} (hP : rxPRLCK S0 ws) (hin : bx_same rxL (bx_mdl rxCRLCK.2.2.1) S0 S) (I0 : bx_Inv rxL S) (hinv : rxIRLCK_4 S0 ws S ba r) (l8 : 0 ≤ ba) (u8 : ba ≤ 0) (l9 : 1 ≤ r) (u9 : r ≤ 1) (f0 : r ≠ 0) : (True) ∧ (True) ∧ rxIRLCK_7 S0 ws S ba r ∧ rxmRLCK_7 S0 ws S ba r < rxmRLCK_4 S0 ws S ba r := by
  obtain ⟨hI, hx⟩ := hinv
  obtain ⟨a_, b_, c_, d_⟩ := rxcRLC_4_1 hP hin I0 hI l8 u8 l9 u9 f0
  exact ⟨a_, b_, ⟨c_, (by
    obtain ⟨hA, h1, hr⟩ := hI
    have hf := hx.1
    rw [hA.1.1, hA.1.2.1] at hr
    have b1 : rzIs (rzCut (S0 411)) (S0 412 1) rzW_bars (S 412 2) = false := by
      cases hb : rzIs (rzCut (S0 411)) (S0 412 1) rzW_bars (S 412 2) with
      | false => rfl
      | true =>
        rw [hb, if_pos rfl] at h1
        omega
    have b2 : rzIs (rzCut (S0 411)) (S0 412 1) rzW_slips (S 412 2) = true := by
      cases hb : rzIs (rzCut (S0 411)) (S0 412 1) rzW_slips (S 412 2) with
      | true => rfl
      | false =>
        rw [hb, if_neg (by decide)] at hr
        omega
    rw [hf] at b1 b2
    exact ⟨hx, Or.inr ⟨by omega, b1, by rw [if_pos b2]; omega⟩, (rzN_b (T := (rzCut (S0 411))) (n := (S0 412 1)) (f := (S0 412 2))).2.2 (rzIs_lt (by decide) b2)⟩)⟩, d_⟩
theorem rxgRLCK_4_1 {X : (Nat → Int → Int) → Prop} {S0 : Nat → Int → Int} {ws : List Int} (hP : rxPRLCK S0 ws) : bx_obC rxL X S0 rxCRLCK.2.2.1 (rxIRLCK S0 ws) (rxmRLCK S0 ws) 4 rxzRLCK_4 rxoRLCK_4_1 := by
  intro S S_p r r_p hinv hX hin hsm_ hseg
  obtain ⟨I0, I1, h0_, hr_, b_, f_, d_⟩ := bx_cl (evs := []) (fvs := [(3, (9, 0), (0, 0), (0, 0))]) hseg (by decide +kernel) (by decide +kernel)
  have hinv : rxIRLCK_4 S0 ws S (r 8) (r 9) := hinv
  rw [← hr_ 8 (by decide), ← hr_ 9 (by decide)] at hinv
  obtain ⟨⟨l8, u8⟩, ⟨l9, u9⟩, -⟩ := b_
  obtain ⟨f0, -⟩ := f_
  have w_ := d_
  subst w_
  have g := rxcRLCK_4_1 hP hin I0 hinv l8 u8 l9 u9 f0
  refine ⟨bx_narP_ok (l := []) g.1, bx_nfP_ok h0_ (fvs := []) (by decide +kernel) g.2.1, ?_, ?_⟩
  · show rxIRLCK_7 S0 ws S_p (bx_val [(0, 0), (0, 0), (0, 0), (0, 0), (0, 0), (0, 0), (0, 0), (0, 0), (8, 0), (9, 0)] r_p 8) (bx_val [(0, 0), (0, 0), (0, 0), (0, 0), (0, 0), (0, 0), (0, 0), (0, 0), (8, 0), (9, 0)] r_p 9)
    rw [bx_val_x (n := 8) (e := (8, 0)) h0_ rfl, bx_val_x (n := 9) (e := (9, 0)) h0_ rfl]
    exact g.2.2.1
  · show rxmRLCK_7 S0 ws S_p (bx_val [(0, 0), (0, 0), (0, 0), (0, 0), (0, 0), (0, 0), (0, 0), (0, 0), (8, 0), (9, 0)] r_p 8) (bx_val [(0, 0), (0, 0), (0, 0), (0, 0), (0, 0), (0, 0), (0, 0), (0, 0), (8, 0), (9, 0)] r_p 9) < rxmRLCK_4 S0 ws S_p (r 8) (r 9)
    rw [bx_val_x (n := 8) (e := (8, 0)) h0_ rfl, bx_val_x (n := 9) (e := (9, 0)) h0_ rfl, ← hr_ 8 (by decide), ← hr_ 9 (by decide)]
    exact g.2.2.2
theorem rxcRLCK_4_2 {S0 : Nat → Int → Int} {ws : List Int} {S : Nat → Int → Int} {ba r : Int} (hP : rxPRLCK S0 ws) (hin : bx_same rxL (bx_mdl rxCRLCK.2.2.1) S0 S) (I0 : bx_Inv rxL S) (hinv : rxIRLCK_4 S0 ws S ba r) (l8 : 1 ≤ ba) (u8 : ba ≤ 1) (l9 : 0 ≤ r) (u9 : r ≤ 1) (f0 : ba ≠ 0) : (True) ∧ (True) ∧ rxIRLCK_7 S0 ws S ba r ∧ rxmRLCK_7 S0 ws S ba r < rxmRLCK_4 S0 ws S ba r := by
  obtain ⟨hI, hx⟩ := hinv
  obtain ⟨a_, b_, c_, d_⟩ := rxcRLC_4_2 hP hin I0 hI l8 u8 l9 u9 f0
  exact ⟨a_, b_, ⟨c_, (by
    obtain ⟨hA, h1, hr⟩ := hI
    have hf := hx.1
    rw [hA.1.1, hA.1.2.1] at hr
    have b1 : rzIs (rzCut (S0 411)) (S0 412 1) rzW_bars (S 412 2) = true := by
      cases hb : rzIs (rzCut (S0 411)) (S0 412 1) rzW_bars (S 412 2) with
      | true => rfl
      | false =>
        rw [hb, if_neg (by decide)] at h1
        omega
    rw [hf] at b1
    exact ⟨hx, Or.inl ⟨by omega, b1⟩, (rzN_b (T := (rzCut (S0 411))) (n := (S0 412 1)) (f := (S0 412 2))).2.2 (rzIs_lt (by decide) b1)⟩)⟩, d_⟩
theorem rxgRLCK_4_2 {X : (Nat → Int → Int) → Prop} {S0 : Nat → Int → Int} {ws : List Int} (hP : rxPRLCK S0 ws) : bx_obC rxL X S0 rxCRLCK.2.2.1 (rxIRLCK S0 ws) (rxmRLCK S0 ws) 4 rxzRLCK_4 rxoRLCK_4_2 := by
  intro S S_p r r_p hinv hX hin hsm_ hseg
  obtain ⟨I0, I1, h0_, hr_, b_, f_, d_⟩ := bx_cl (evs := []) (fvs := [(3, (8, 0), (0, 0), (0, 0))]) hseg (by decide +kernel) (by decide +kernel)
  have hinv : rxIRLCK_4 S0 ws S (r 8) (r 9) := hinv
  rw [← hr_ 8 (by decide), ← hr_ 9 (by decide)] at hinv
  obtain ⟨⟨l8, u8⟩, ⟨l9, u9⟩, -⟩ := b_
  obtain ⟨f0, -⟩ := f_
  have w_ := d_
  subst w_
  have g := rxcRLCK_4_2 hP hin I0 hinv l8 u8 l9 u9 f0
  refine ⟨bx_narP_ok (l := []) g.1, bx_nfP_ok h0_ (fvs := []) (by decide +kernel) g.2.1, ?_, ?_⟩
  · show rxIRLCK_7 S0 ws S_p (bx_val [(0, 0), (0, 0), (0, 0), (0, 0), (0, 0), (0, 0), (0, 0), (0, 0), (8, 0), (9, 0)] r_p 8) (bx_val [(0, 0), (0, 0), (0, 0), (0, 0), (0, 0), (0, 0), (0, 0), (0, 0), (8, 0), (9, 0)] r_p 9)
    rw [bx_val_x (n := 8) (e := (8, 0)) h0_ rfl, bx_val_x (n := 9) (e := (9, 0)) h0_ rfl]
    exact g.2.2.1
  · show rxmRLCK_7 S0 ws S_p (bx_val [(0, 0), (0, 0), (0, 0), (0, 0), (0, 0), (0, 0), (0, 0), (0, 0), (8, 0), (9, 0)] r_p 8) (bx_val [(0, 0), (0, 0), (0, 0), (0, 0), (0, 0), (0, 0), (0, 0), (0, 0), (8, 0), (9, 0)] r_p 9) < rxmRLCK_4 S0 ws S_p (r 8) (r 9)
    rw [bx_val_x (n := 8) (e := (8, 0)) h0_ rfl, bx_val_x (n := 9) (e := (9, 0)) h0_ rfl, ← hr_ 8 (by decide), ← hr_ 9 (by decide)]
    exact g.2.2.2
theorem rxcRLCK_6_0 {S0 : Nat → Int → Int} {ws : List Int} {S : Nat → Int → Int} {ba sl r : Int} (hP : rxPRLCK S0 ws) (hin : bx_same rxL (bx_mdl rxCRLCK.2.2.1) S0 S) (I0 : bx_Inv rxL S) (hinv : rxIRLCK_6 S0 ws S ba sl r) (l8 : 0 ≤ ba) (u8 : ba ≤ 1) (l9 : 0 ≤ sl) (u9 : sl ≤ 1) (l10 : 1 ≤ r) (u10 : r ≤ 1) (f0 : r ≠ 0) : (True) ∧ (True) ∧ rxIRLCK_7 S0 ws S ba sl ∧ rxmRLCK_7 S0 ws S ba sl < rxmRLCK_6 S0 ws S ba sl r := by
  obtain ⟨hI, hx⟩ := hinv
  obtain ⟨a_, b_, c_, d_⟩ := rxcRLC_6_0 hP hin I0 hI l8 u8 l9 u9 l10 u10 f0
  exact ⟨a_, b_, ⟨c_, (by
    obtain ⟨hA, z1, z2, h1, h2, hr⟩ := hI
    have hf := hx.1
    rw [hA.1.1, hA.1.2.1] at hr
    have b1 : rzIs (rzCut (S0 411)) (S0 412 1) rzW_bars (S 412 2) = false := by
      cases hb : rzIs (rzCut (S0 411)) (S0 412 1) rzW_bars (S 412 2) with
      | false => rfl
      | true =>
        rw [hb, if_pos rfl] at h1
        omega
    have b2 : rzIs (rzCut (S0 411)) (S0 412 1) rzW_slips (S 412 2) = false := by
      cases hb : rzIs (rzCut (S0 411)) (S0 412 1) rzW_slips (S 412 2) with
      | false => rfl
      | true =>
        rw [hb, if_pos rfl] at h2
        omega
    have b3 : rzIs (rzCut (S0 411)) (S0 412 1) rzW_hours (S 412 2) = true := by
      cases hb : rzIs (rzCut (S0 411)) (S0 412 1) rzW_hours (S 412 2) with
      | true => rfl
      | false =>
        rw [hb, if_neg (by decide)] at hr
        omega
    rw [hf] at b1 b2 b3
    exact ⟨hx, Or.inr ⟨z1, b1, by rw [b2, if_neg (by decide)]; exact z2⟩, (rzN_b (T := (rzCut (S0 411))) (n := (S0 412 1)) (f := (S0 412 2))).2.2 (rzIs_lt (by decide) b3)⟩)⟩, d_⟩
theorem rxgRLCK_6_0 {X : (Nat → Int → Int) → Prop} {S0 : Nat → Int → Int} {ws : List Int} (hP : rxPRLCK S0 ws) : bx_obC rxL X S0 rxCRLCK.2.2.1 (rxIRLCK S0 ws) (rxmRLCK S0 ws) 6 rxzRLCK_6 rxoRLCK_6_0 := by
  intro S S_p r r_p hinv hX hin hsm_ hseg
  obtain ⟨I0, I1, h0_, hr_, b_, f_, d_⟩ := bx_cl (evs := []) (fvs := [(3, (10, 0), (0, 0), (0, 0))]) hseg (by decide +kernel) (by decide +kernel)
  have hinv : rxIRLCK_6 S0 ws S (r 8) (r 9) (r 10) := hinv
  rw [← hr_ 8 (by decide), ← hr_ 9 (by decide), ← hr_ 10 (by decide)] at hinv
  obtain ⟨⟨l8, u8⟩, ⟨l9, u9⟩, ⟨l10, u10⟩, -⟩ := b_
  obtain ⟨f0, -⟩ := f_
  have w_ := d_
  subst w_
  have g := rxcRLCK_6_0 hP hin I0 hinv l8 u8 l9 u9 l10 u10 f0
  refine ⟨bx_narP_ok (l := []) g.1, bx_nfP_ok h0_ (fvs := []) (by decide +kernel) g.2.1, ?_, ?_⟩
  · show rxIRLCK_7 S0 ws S_p (bx_val [(0, 0), (0, 0), (0, 0), (0, 0), (0, 0), (0, 0), (0, 0), (0, 0), (8, 0), (9, 0)] r_p 8) (bx_val [(0, 0), (0, 0), (0, 0), (0, 0), (0, 0), (0, 0), (0, 0), (0, 0), (8, 0), (9, 0)] r_p 9)
    rw [bx_val_x (n := 8) (e := (8, 0)) h0_ rfl, bx_val_x (n := 9) (e := (9, 0)) h0_ rfl]
    exact g.2.2.1
  · show rxmRLCK_7 S0 ws S_p (bx_val [(0, 0), (0, 0), (0, 0), (0, 0), (0, 0), (0, 0), (0, 0), (0, 0), (8, 0), (9, 0)] r_p 8) (bx_val [(0, 0), (0, 0), (0, 0), (0, 0), (0, 0), (0, 0), (0, 0), (0, 0), (8, 0), (9, 0)] r_p 9) < rxmRLCK_6 S0 ws S_p (r 8) (r 9) (r 10)
    rw [bx_val_x (n := 8) (e := (8, 0)) h0_ rfl, bx_val_x (n := 9) (e := (9, 0)) h0_ rfl, ← hr_ 8 (by decide), ← hr_ 9 (by decide), ← hr_ 10 (by decide)]
    exact g.2.2.2
theorem rxdRLCK_6_0 {S0 : Nat → Int → Int} {ws : List Int} {S : Nat → Int → Int} {ba sl r x11 : Int} (hP : rxPRLCK S0 ws) (hin : bx_same rxL (bx_mdl rxCRLCK.2.2.1) S0 S) (hin2 : bx_same rxL (bx_mdl rxCRLCK.2.2.1) S (bx_up S 412 4 x11)) (I0 : bx_Inv rxL S) (I1 : bx_Inv rxL (bx_up S 412 4 x11)) (hinv : rxIRLCK_6 S0 ws S ba sl r) (l8 : 0 ≤ ba) (u8 : ba ≤ 1) (l9 : 0 ≤ sl) (u9 : sl ≤ 1) (l10 : 0 ≤ r) (u10 : r ≤ 0) (l11 : 0 ≤ x11) (u11 : x11 ≤ 400) (e1 : S 412 2 = x11) : (True) ∧ rxPSRLCK S0 ws (bx_up S 412 4 x11) (some 0) := by
  obtain ⟨hI, hx⟩ := hinv
  obtain ⟨a_, c_⟩ := rxdRLC_6_0 hP hin hin2 I0 I1 hI l8 u8 l9 u9 l10 u10 l11 u11 e1
  exact ⟨a_, c_, (fun g => absurd (Option.some.inj g) (by decide))⟩
theorem rxfRLCK_6_0 {X : (Nat → Int → Int) → Prop} {S0 : Nat → Int → Int} {ws : List Int} (hP : rxPRLCK S0 ws) : bx_obE rxL X S0 rxCRLCK.2.2.1 (rxIRLCK S0 ws) (rxPSRLCK S0 ws) 6 rxzRLCK_6 rxeRLCK_6_0 := by
  intro S S_p r r_p hinv hX hin hsm_ hseg
  obtain ⟨I0, I1, h0_, hr_, b_, f_, d_⟩ := bx_cl (evs := [(1, (0, 412), (0, 4), .inr (0, (11, 0))), (0, (0, 412), (0, 2), .inr (0, (11, 0)))]) (fvs := []) hseg (by decide +kernel) (by decide +kernel)
  have hinv : rxIRLCK_6 S0 ws S (r 8) (r 9) (r 10) := hinv
  rw [← hr_ 8 (by decide), ← hr_ 9 (by decide), ← hr_ 10 (by decide)] at hinv
  obtain ⟨⟨l8, u8⟩, ⟨l9, u9⟩, ⟨l10, u10⟩, ⟨l11, u11⟩, -⟩ := b_
  obtain ⟨T0, ⟨e1, w_⟩, w0⟩ := d_
  subst w0
  subst w_
  have g := rxdRLCK_6_0 hP hin hsm_ I0 I1 hinv l8 u8 l9 u9 l10 u10 l11 u11 e1
  refine ⟨bx_narP_ok (l := []) g.1, ?_⟩
  show rxPSRLCK S0 ws (bx_up T0 412 (4) (r_p 11)) (some (bx_num r_p (.inr (0, (0, 0)))))
  rw [bx_xv_ok h0_]
  exact g.2
theorem rxcRLCK_8_0 {S0 : Nat → Int → Int} {ws : List Int} {S : Nat → Int → Int} {ba sl : Int} (hP : rxPRLCK S0 ws) (hin : bx_same rxL (bx_mdl rxCRLCK.2.2.1) S0 S) (I0 : bx_Inv rxL S) (hinv : rxIRLCK_8 S0 ws S ba sl) (l8 : 1 ≤ ba) (u8 : ba ≤ 1) (l9 : 0 ≤ sl) (u9 : sl ≤ 1) (f0 : ba ≠ 0) : (True) ∧ (True) ∧ rxIRLCK_9 S0 ws S ba sl 2 ∧ rxmRLCK_9 S0 ws S ba sl 2 < rxmRLCK_8 S0 ws S ba sl := by
  obtain ⟨hI, hx⟩ := hinv
  obtain ⟨a_, b_, c_, d_⟩ := rxcRLC_8_0 hP hin I0 hI l8 u8 l9 u9 f0
  exact ⟨a_, b_, ⟨c_, (by
    refine ⟨hx.1, hx.2.1, hx.2.2, ?_⟩
    (repeat' split) <;> omega)⟩, d_⟩
theorem rxgRLCK_8_0 {X : (Nat → Int → Int) → Prop} {S0 : Nat → Int → Int} {ws : List Int} (hP : rxPRLCK S0 ws) : bx_obC rxL X S0 rxCRLCK.2.2.1 (rxIRLCK S0 ws) (rxmRLCK S0 ws) 8 rxzRLCK_8 rxoRLCK_8_0 := by
  intro S S_p r r_p hinv hX hin hsm_ hseg
  obtain ⟨I0, I1, h0_, hr_, b_, f_, d_⟩ := bx_cl (evs := []) (fvs := [(3, (8, 0), (0, 0), (0, 0))]) hseg (by decide +kernel) (by decide +kernel)
  have hinv : rxIRLCK_8 S0 ws S (r 8) (r 9) := hinv
  rw [← hr_ 8 (by decide), ← hr_ 9 (by decide)] at hinv
  obtain ⟨⟨l8, u8⟩, ⟨l9, u9⟩, -⟩ := b_
  obtain ⟨f0, -⟩ := f_
  have w_ := d_
  subst w_
  have g := rxcRLCK_8_0 hP hin I0 hinv l8 u8 l9 u9 f0
  refine ⟨bx_narP_ok (l := []) g.1, bx_nfP_ok h0_ (fvs := []) (by decide +kernel) g.2.1, ?_, ?_⟩
  · show rxIRLCK_9 S0 ws S_p (bx_val [(0, 0), (0, 0), (0, 0), (0, 0), (0, 0), (0, 0), (0, 0), (0, 0), (8, 0), (9, 0), (0, 2)] r_p 8) (bx_val [(0, 0), (0, 0), (0, 0), (0, 0), (0, 0), (0, 0), (0, 0), (0, 0), (8, 0), (9, 0), (0, 2)] r_p 9) (bx_val [(0, 0), (0, 0), (0, 0), (0, 0), (0, 0), (0, 0), (0, 0), (0, 0), (8, 0), (9, 0), (0, 2)] r_p 10)
    rw [bx_val_x (n := 8) (e := (8, 0)) h0_ rfl, bx_val_x (n := 9) (e := (9, 0)) h0_ rfl, bx_val_x (n := 10) (e := (0, 2)) h0_ rfl]
    exact g.2.2.1
  · show rxmRLCK_9 S0 ws S_p (bx_val [(0, 0), (0, 0), (0, 0), (0, 0), (0, 0), (0, 0), (0, 0), (0, 0), (8, 0), (9, 0), (0, 2)] r_p 8) (bx_val [(0, 0), (0, 0), (0, 0), (0, 0), (0, 0), (0, 0), (0, 0), (0, 0), (8, 0), (9, 0), (0, 2)] r_p 9) (bx_val [(0, 0), (0, 0), (0, 0), (0, 0), (0, 0), (0, 0), (0, 0), (0, 0), (8, 0), (9, 0), (0, 2)] r_p 10) < rxmRLCK_8 S0 ws S_p (r 8) (r 9)
    rw [bx_val_x (n := 8) (e := (8, 0)) h0_ rfl, bx_val_x (n := 9) (e := (9, 0)) h0_ rfl, bx_val_x (n := 10) (e := (0, 2)) h0_ rfl, ← hr_ 8 (by decide), ← hr_ 9 (by decide)]
    exact g.2.2.2
theorem rxcRLCK_8_1 {S0 : Nat → Int → Int} {ws : List Int} {S : Nat → Int → Int} {ba sl : Int} (hP : rxPRLCK S0 ws) (hin : bx_same rxL (bx_mdl rxCRLCK.2.2.1) S0 S) (I0 : bx_Inv rxL S) (hinv : rxIRLCK_8 S0 ws S ba sl) (l8 : 0 ≤ ba) (u8 : ba ≤ 0) (l9 : 1 ≤ sl) (u9 : sl ≤ 1) (f0 : sl ≠ 0) : (True) ∧ (True) ∧ rxIRLCK_9 S0 ws S ba sl 0 ∧ rxmRLCK_9 S0 ws S ba sl 0 < rxmRLCK_8 S0 ws S ba sl := by
  obtain ⟨hI, hx⟩ := hinv
  obtain ⟨a_, b_, c_, d_⟩ := rxcRLC_8_1 hP hin I0 hI l8 u8 l9 u9 f0
  exact ⟨a_, b_, ⟨c_, (by
    refine ⟨hx.1, hx.2.1, hx.2.2, ?_⟩
    (repeat' split) <;> omega)⟩, d_⟩
theorem rxgRLCK_8_1 {X : (Nat → Int → Int) → Prop} {S0 : Nat → Int → Int} {ws : List Int} (hP : rxPRLCK S0 ws) : bx_obC rxL X S0 rxCRLCK.2.2.1 (rxIRLCK S0 ws) (rxmRLCK S0 ws) 8 rxzRLCK_8 rxoRLCK_8_1 := by
  intro S S_p r r_p hinv hX hin hsm_ hseg
  obtain ⟨I0, I1, h0_, hr_, b_, f_, d_⟩ := bx_cl (evs := []) (fvs := [(3, (9, 0), (0, 0), (0, 0))]) hseg (by decide +kernel) (by decide +kernel)
  have hinv : rxIRLCK_8 S0 ws S (r 8) (r 9) := hinv
  rw [← hr_ 8 (by decide), ← hr_ 9 (by decide)] at hinv
  obtain ⟨⟨l8, u8⟩, ⟨l9, u9⟩, -⟩ := b_
  obtain ⟨f0, -⟩ := f_
  have w_ := d_
  subst w_
  have g := rxcRLCK_8_1 hP hin I0 hinv l8 u8 l9 u9 f0
  refine ⟨bx_narP_ok (l := []) g.1, bx_nfP_ok h0_ (fvs := []) (by decide +kernel) g.2.1, ?_, ?_⟩
  · show rxIRLCK_9 S0 ws S_p (bx_val [(0, 0), (0, 0), (0, 0), (0, 0), (0, 0), (0, 0), (0, 0), (0, 0), (8, 0), (9, 0), (0, 0)] r_p 8) (bx_val [(0, 0), (0, 0), (0, 0), (0, 0), (0, 0), (0, 0), (0, 0), (0, 0), (8, 0), (9, 0), (0, 0)] r_p 9) (bx_val [(0, 0), (0, 0), (0, 0), (0, 0), (0, 0), (0, 0), (0, 0), (0, 0), (8, 0), (9, 0), (0, 0)] r_p 10)
    rw [bx_val_x (n := 8) (e := (8, 0)) h0_ rfl, bx_val_x (n := 9) (e := (9, 0)) h0_ rfl, bx_val_x (n := 10) (e := (0, 0)) h0_ rfl]
    exact g.2.2.1
  · show rxmRLCK_9 S0 ws S_p (bx_val [(0, 0), (0, 0), (0, 0), (0, 0), (0, 0), (0, 0), (0, 0), (0, 0), (8, 0), (9, 0), (0, 0)] r_p 8) (bx_val [(0, 0), (0, 0), (0, 0), (0, 0), (0, 0), (0, 0), (0, 0), (0, 0), (8, 0), (9, 0), (0, 0)] r_p 9) (bx_val [(0, 0), (0, 0), (0, 0), (0, 0), (0, 0), (0, 0), (0, 0), (0, 0), (8, 0), (9, 0), (0, 0)] r_p 10) < rxmRLCK_8 S0 ws S_p (r 8) (r 9)
    rw [bx_val_x (n := 8) (e := (8, 0)) h0_ rfl, bx_val_x (n := 9) (e := (9, 0)) h0_ rfl, bx_val_x (n := 10) (e := (0, 0)) h0_ rfl, ← hr_ 8 (by decide), ← hr_ 9 (by decide)]
    exact g.2.2.2
theorem rxcRLCK_8_2 {S0 : Nat → Int → Int} {ws : List Int} {S : Nat → Int → Int} {ba sl : Int} (hP : rxPRLCK S0 ws) (hin : bx_same rxL (bx_mdl rxCRLCK.2.2.1) S0 S) (I0 : bx_Inv rxL S) (hinv : rxIRLCK_8 S0 ws S ba sl) (l8 : 0 ≤ ba) (u8 : ba ≤ 0) (l9 : 0 ≤ sl) (u9 : sl ≤ 0) : (True) ∧ (True) ∧ rxIRLCK_9 S0 ws S ba sl 1 ∧ rxmRLCK_9 S0 ws S ba sl 1 < rxmRLCK_8 S0 ws S ba sl := by
  obtain ⟨hI, hx⟩ := hinv
  obtain ⟨a_, b_, c_, d_⟩ := rxcRLC_8_2 hP hin I0 hI l8 u8 l9 u9
  exact ⟨a_, b_, ⟨c_, (by
    refine ⟨hx.1, hx.2.1, hx.2.2, ?_⟩
    (repeat' split) <;> omega)⟩, d_⟩
theorem rxgRLCK_8_2 {X : (Nat → Int → Int) → Prop} {S0 : Nat → Int → Int} {ws : List Int} (hP : rxPRLCK S0 ws) : bx_obC rxL X S0 rxCRLCK.2.2.1 (rxIRLCK S0 ws) (rxmRLCK S0 ws) 8 rxzRLCK_8 rxoRLCK_8_2 := by
  intro S S_p r r_p hinv hX hin hsm_ hseg
  obtain ⟨I0, I1, h0_, hr_, b_, f_, d_⟩ := bx_cl (evs := []) (fvs := []) hseg (by decide +kernel) (by decide +kernel)
  have hinv : rxIRLCK_8 S0 ws S (r 8) (r 9) := hinv
  rw [← hr_ 8 (by decide), ← hr_ 9 (by decide)] at hinv
  obtain ⟨⟨l8, u8⟩, ⟨l9, u9⟩, -⟩ := b_
  have w_ := d_
  subst w_
  have g := rxcRLCK_8_2 hP hin I0 hinv l8 u8 l9 u9
  refine ⟨bx_narP_ok (l := []) g.1, bx_nfP_ok h0_ (fvs := []) (by decide +kernel) g.2.1, ?_, ?_⟩
  · show rxIRLCK_9 S0 ws S_p (bx_val [(0, 0), (0, 0), (0, 0), (0, 0), (0, 0), (0, 0), (0, 0), (0, 0), (8, 0), (9, 0), (0, 1)] r_p 8) (bx_val [(0, 0), (0, 0), (0, 0), (0, 0), (0, 0), (0, 0), (0, 0), (0, 0), (8, 0), (9, 0), (0, 1)] r_p 9) (bx_val [(0, 0), (0, 0), (0, 0), (0, 0), (0, 0), (0, 0), (0, 0), (0, 0), (8, 0), (9, 0), (0, 1)] r_p 10)
    rw [bx_val_x (n := 8) (e := (8, 0)) h0_ rfl, bx_val_x (n := 9) (e := (9, 0)) h0_ rfl, bx_val_x (n := 10) (e := (0, 1)) h0_ rfl]
    exact g.2.2.1
  · show rxmRLCK_9 S0 ws S_p (bx_val [(0, 0), (0, 0), (0, 0), (0, 0), (0, 0), (0, 0), (0, 0), (0, 0), (8, 0), (9, 0), (0, 1)] r_p 8) (bx_val [(0, 0), (0, 0), (0, 0), (0, 0), (0, 0), (0, 0), (0, 0), (0, 0), (8, 0), (9, 0), (0, 1)] r_p 9) (bx_val [(0, 0), (0, 0), (0, 0), (0, 0), (0, 0), (0, 0), (0, 0), (0, 0), (8, 0), (9, 0), (0, 1)] r_p 10) < rxmRLCK_8 S0 ws S_p (r 8) (r 9)
    rw [bx_val_x (n := 8) (e := (8, 0)) h0_ rfl, bx_val_x (n := 9) (e := (9, 0)) h0_ rfl, bx_val_x (n := 10) (e := (0, 1)) h0_ rfl, ← hr_ 8 (by decide), ← hr_ 9 (by decide)]
    exact g.2.2.2
theorem rxcRLCK_10_0 {S0 : Nat → Int → Int} {ws : List Int} {S : Nat → Int → Int} {ba sl ki x11 : Int} (hP : rxPRLCK S0 ws) (hin : bx_same rxL (bx_mdl rxCRLCK.2.2.1) S0 S) (I0 : bx_Inv rxL S) (hinv : rxIRLCK_10 S0 ws S ba sl ki) (l8 : 0 ≤ ba) (u8 : ba ≤ 0) (l9 : 0 ≤ sl) (u9 : sl ≤ 1) (l10 : 0 ≤ ki) (u10 : ki ≤ 4) (l11 : 0 ≤ x11) (u11 : x11 ≤ 1522) (e0 : S 427 8 = x11) : (True) ∧ (True) ∧ rxIRLCK_11 S0 ws S ba sl x11 ∧ rxmRLCK_11 S0 ws S ba sl x11 < rxmRLCK_10 S0 ws S ba sl ki := by
  obtain ⟨hI, hx⟩ := hinv
  obtain ⟨a_, b_, c_, d_⟩ := rxcRLC_10_0 hP hin I0 hI l8 u8 l9 u9 l10 u10 l11 u11 e0
  exact ⟨a_, b_, ⟨c_, (by
    have hb : ba = 0 := by omega
    obtain ⟨h1_, h2_, h3_, h4_⟩ := hx
    subst h4_
    exact ⟨fun hp => ⟨h1_ hp, e0.symm.trans (h1_ hp).2.2.2.2.1⟩, h2_, h3_, hb⟩)⟩, d_⟩
theorem rxgRLCK_10_0 {X : (Nat → Int → Int) → Prop} {S0 : Nat → Int → Int} {ws : List Int} (hP : rxPRLCK S0 ws) : bx_obC rxL X S0 rxCRLCK.2.2.1 (rxIRLCK S0 ws) (rxmRLCK S0 ws) 10 rxzRLCK_10 rxoRLCK_10_0 := by
  intro S S_p r r_p hinv hX hin hsm_ hseg
  obtain ⟨I0, I1, h0_, hr_, b_, f_, d_⟩ := bx_cl (evs := [(0, (0, 427), (0, 8), .inr (3, (11, 0)))]) (fvs := []) hseg (by decide +kernel) (by decide +kernel)
  have hinv : rxIRLCK_10 S0 ws S (r 8) (r 9) (r 10) := hinv
  rw [← hr_ 8 (by decide), ← hr_ 9 (by decide), ← hr_ 10 (by decide)] at hinv
  obtain ⟨⟨l8, u8⟩, ⟨l9, u9⟩, ⟨l10, u10⟩, ⟨l11, u11⟩, -⟩ := b_
  obtain ⟨e0, w_⟩ := d_
  subst w_
  have g := rxcRLCK_10_0 hP hin I0 hinv l8 u8 l9 u9 l10 u10 l11 u11 e0
  refine ⟨bx_narP_ok (l := []) g.1, bx_nfP_ok h0_ (fvs := []) (by decide +kernel) g.2.1, ?_, ?_⟩
  · show rxIRLCK_11 S0 ws S_p (bx_val [(0, 0), (0, 0), (0, 0), (0, 0), (0, 0), (0, 0), (0, 0), (0, 0), (8, 0), (9, 0), (11, 0)] r_p 8) (bx_val [(0, 0), (0, 0), (0, 0), (0, 0), (0, 0), (0, 0), (0, 0), (0, 0), (8, 0), (9, 0), (11, 0)] r_p 9) (bx_val [(0, 0), (0, 0), (0, 0), (0, 0), (0, 0), (0, 0), (0, 0), (0, 0), (8, 0), (9, 0), (11, 0)] r_p 10)
    rw [bx_val_x (n := 8) (e := (8, 0)) h0_ rfl, bx_val_x (n := 9) (e := (9, 0)) h0_ rfl, bx_val_x (n := 10) (e := (11, 0)) h0_ rfl]
    exact g.2.2.1
  · show rxmRLCK_11 S0 ws S_p (bx_val [(0, 0), (0, 0), (0, 0), (0, 0), (0, 0), (0, 0), (0, 0), (0, 0), (8, 0), (9, 0), (11, 0)] r_p 8) (bx_val [(0, 0), (0, 0), (0, 0), (0, 0), (0, 0), (0, 0), (0, 0), (0, 0), (8, 0), (9, 0), (11, 0)] r_p 9) (bx_val [(0, 0), (0, 0), (0, 0), (0, 0), (0, 0), (0, 0), (0, 0), (0, 0), (8, 0), (9, 0), (11, 0)] r_p 10) < rxmRLCK_10 S0 ws S_p (r 8) (r 9) (r 10)
    rw [bx_val_x (n := 8) (e := (8, 0)) h0_ rfl, bx_val_x (n := 9) (e := (9, 0)) h0_ rfl, bx_val_x (n := 10) (e := (11, 0)) h0_ rfl, ← hr_ 8 (by decide), ← hr_ 9 (by decide), ← hr_ 10 (by decide)]
    exact g.2.2.2
theorem rxdRLCK_10_0 {S0 : Nat → Int → Int} {ws : List Int} {S : Nat → Int → Int} {ba sl ki : Int} (hP : rxPRLCK S0 ws) (hin : bx_same rxL (bx_mdl rxCRLCK.2.2.1) S0 S) (hin2 : bx_same rxL (bx_mdl rxCRLCK.2.2.1) S S) (I0 : bx_Inv rxL S) (I1 : bx_Inv rxL S) (hinv : rxIRLCK_10 S0 ws S ba sl ki) (l8 : 1 ≤ ba) (u8 : ba ≤ 1) (l9 : 0 ≤ sl) (u9 : sl ≤ 1) (l10 : 0 ≤ ki) (u10 : ki ≤ 4) (f0 : ba ≠ 0) : (True) ∧ rxPSRLCK S0 ws S (some 1) := by
  obtain ⟨hI, hx⟩ := hinv
  obtain ⟨a_, c_⟩ := rxdRLC_10_0 hP hin hin2 I0 I1 hI l8 u8 l9 u9 l10 u10 f0
  exact ⟨a_, c_, (by
    intro g_ hp
    obtain ⟨hc, h2, h7, h0, hpp⟩ := hx.1 hp
    obtain ⟨-, hkd, hlt, hki⟩ := hx
    rcases hkd with ⟨z, y1⟩ | ⟨z, y1, y2⟩
    · refine ⟨_, rzAlt_y y1 rfl, ?_⟩
      rw [hki, if_pos z] at hc
      exact hc
    · exfalso
      omega)⟩
theorem rxfRLCK_10_0 {X : (Nat → Int → Int) → Prop} {S0 : Nat → Int → Int} {ws : List Int} (hP : rxPRLCK S0 ws) : bx_obE rxL X S0 rxCRLCK.2.2.1 (rxIRLCK S0 ws) (rxPSRLCK S0 ws) 10 rxzRLCK_10 rxeRLCK_10_0 := by
  intro S S_p r r_p hinv hX hin hsm_ hseg
  obtain ⟨I0, I1, h0_, hr_, b_, f_, d_⟩ := bx_cl (evs := []) (fvs := [(3, (8, 0), (0, 0), (0, 0))]) hseg (by decide +kernel) (by decide +kernel)
  have hinv : rxIRLCK_10 S0 ws S (r 8) (r 9) (r 10) := hinv
  rw [← hr_ 8 (by decide), ← hr_ 9 (by decide), ← hr_ 10 (by decide)] at hinv
  obtain ⟨⟨l8, u8⟩, ⟨l9, u9⟩, ⟨l10, u10⟩, -⟩ := b_
  obtain ⟨f0, -⟩ := f_
  have w_ := d_
  subst w_
  have g := rxdRLCK_10_0 hP hin hsm_ I0 I1 hinv l8 u8 l9 u9 l10 u10 f0
  refine ⟨bx_narP_ok (l := []) g.1, ?_⟩
  show rxPSRLCK S0 ws S_p (some (bx_num r_p (.inr (0, (0, 1)))))
  rw [bx_xv_ok h0_]
  exact g.2
theorem rxdRLCK_12_0 {S0 : Nat → Int → Int} {ws : List Int} {S : Nat → Int → Int} {ba sl sa res : Int} (hP : rxPRLCK S0 ws) (hin : bx_same rxL (bx_mdl rxCRLCK.2.2.1) S0 S) (hin2 : bx_same rxL (bx_mdl rxCRLCK.2.2.1) S S) (I0 : bx_Inv rxL S) (I1 : bx_Inv rxL S) (hinv : rxIRLCK_12 S0 ws S ba sl sa res) (l8 : 0 ≤ ba) (u8 : ba ≤ 1) (l9 : 0 ≤ sl) (u9 : sl ≤ 1) (l10 : 0 ≤ sa) (u10 : sa ≤ 1522) (l11 : 1 ≤ res) (u11 : res ≤ 1) (f0 : res ≠ 0) : (True) ∧ rxPSRLCK S0 ws S (some 1) := by
  obtain ⟨hI, hx⟩ := hinv
  obtain ⟨a_, c_⟩ := rxdRLC_12_0 hP hin hin2 I0 I1 hI l8 u8 l9 u9 l10 u10 l11 u11 f0
  exact ⟨a_, c_, (by
    first
    | exact fun g => hx (Option.some.inj g)
    | exact fun _ => hx (by omega)
    | exact fun g => absurd (Option.some.inj g) (by decide))⟩
theorem rxfRLCK_12_0 {X : (Nat → Int → Int) → Prop} {S0 : Nat → Int → Int} {ws : List Int} (hP : rxPRLCK S0 ws) : bx_obE rxL X S0 rxCRLCK.2.2.1 (rxIRLCK S0 ws) (rxPSRLCK S0 ws) 12 rxzRLCK_12 rxeRLCK_12_0 := by
  intro S S_p r r_p hinv hX hin hsm_ hseg
  obtain ⟨I0, I1, h0_, hr_, b_, f_, d_⟩ := bx_cl (evs := []) (fvs := [(3, (11, 0), (0, 0), (0, 0))]) hseg (by decide +kernel) (by decide +kernel)
  have hinv : rxIRLCK_12 S0 ws S (r 8) (r 9) (r 10) (r 11) := hinv
  rw [← hr_ 8 (by decide), ← hr_ 9 (by decide), ← hr_ 10 (by decide), ← hr_ 11 (by decide)] at hinv
  obtain ⟨⟨l8, u8⟩, ⟨l9, u9⟩, ⟨l10, u10⟩, ⟨l11, u11⟩, -⟩ := b_
  obtain ⟨f0, -⟩ := f_
  have w_ := d_
  subst w_
  have g := rxdRLCK_12_0 hP hin hsm_ I0 I1 hinv l8 u8 l9 u9 l10 u10 l11 u11 f0
  refine ⟨bx_narP_ok (l := []) g.1, ?_⟩
  show rxPSRLCK S0 ws S_p (some (bx_num r_p (.inr (0, (0, 1)))))
  rw [bx_xv_ok h0_]
  exact g.2
theorem rxdRLCK_12_1 {S0 : Nat → Int → Int} {ws : List Int} {S : Nat → Int → Int} {ba sl sa res : Int} (hP : rxPRLCK S0 ws) (hin : bx_same rxL (bx_mdl rxCRLCK.2.2.1) S0 S) (hin2 : bx_same rxL (bx_mdl rxCRLCK.2.2.1) S S) (I0 : bx_Inv rxL S) (I1 : bx_Inv rxL S) (hinv : rxIRLCK_12 S0 ws S ba sl sa res) (l8 : 0 ≤ ba) (u8 : ba ≤ 1) (l9 : 0 ≤ sl) (u9 : sl ≤ 1) (l10 : 0 ≤ sa) (u10 : sa ≤ 1522) (l11 : 0 ≤ res) (u11 : res ≤ 0) : (True) ∧ rxPSRLCK S0 ws S (some 0) := by
  obtain ⟨hI, hx⟩ := hinv
  obtain ⟨a_, c_⟩ := rxdRLC_12_1 hP hin hin2 I0 I1 hI l8 u8 l9 u9 l10 u10 l11 u11
  exact ⟨a_, c_, (by
    first
    | exact fun g => hx (Option.some.inj g)
    | exact fun _ => hx (by omega)
    | exact fun g => absurd (Option.some.inj g) (by decide))⟩
theorem rxfRLCK_12_1 {X : (Nat → Int → Int) → Prop} {S0 : Nat → Int → Int} {ws : List Int} (hP : rxPRLCK S0 ws) : bx_obE rxL X S0 rxCRLCK.2.2.1 (rxIRLCK S0 ws) (rxPSRLCK S0 ws) 12 rxzRLCK_12 rxeRLCK_12_1 := by
  intro S S_p r r_p hinv hX hin hsm_ hseg
  obtain ⟨I0, I1, h0_, hr_, b_, f_, d_⟩ := bx_cl (evs := []) (fvs := []) hseg (by decide +kernel) (by decide +kernel)
  have hinv : rxIRLCK_12 S0 ws S (r 8) (r 9) (r 10) (r 11) := hinv
  rw [← hr_ 8 (by decide), ← hr_ 9 (by decide), ← hr_ 10 (by decide), ← hr_ 11 (by decide)] at hinv
  obtain ⟨⟨l8, u8⟩, ⟨l9, u9⟩, ⟨l10, u10⟩, ⟨l11, u11⟩, -⟩ := b_
  have w_ := d_
  subst w_
  have g := rxdRLCK_12_1 hP hin hsm_ I0 I1 hinv l8 u8 l9 u9 l10 u10 l11 u11
  refine ⟨bx_narP_ok (l := []) g.1, ?_⟩
  show rxPSRLCK S0 ws S_p (some (bx_num r_p (.inr (0, (0, 0)))))
  rw [bx_xv_ok h0_]
  exact g.2
theorem rxgCRLCK {X : (Nat → Int → Int) → Prop} {S0 : Nat → Int → Int} {ws : List Int} (hP : rxPRLCK S0 ws) : bx_allI (fun i q => rxURLCK q = true ∨ bx_allP (fun o => bx_obC rxL X S0 rxCRLCK.2.2.1 (rxIRLCK S0 ws) (rxmRLCK S0 ws) i q.1 o) q.2.1) 0 rxYRLCK := ⟨Or.inr ⟨rxgRLCK_0_0 hP, trivial⟩, Or.inl rfl, Or.inr ⟨rxgRLCK_2_0 hP, trivial⟩, Or.inl rfl, Or.inr ⟨rxgRLCK_4_0 hP, rxgRLCK_4_1 hP, rxgRLCK_4_2 hP, trivial⟩, Or.inl rfl, Or.inr ⟨rxgRLCK_6_0 hP, trivial⟩, Or.inl rfl, Or.inr ⟨rxgRLCK_8_0 hP, rxgRLCK_8_1 hP, rxgRLCK_8_2 hP, trivial⟩, Or.inl rfl, Or.inr ⟨rxgRLCK_10_0 hP, trivial⟩, Or.inl rfl, Or.inr trivial, trivial⟩
theorem rxgERLCK {X : (Nat → Int → Int) → Prop} {S0 : Nat → Int → Int} {ws : List Int} (hP : rxPRLCK S0 ws) : bx_allI (fun i q => rxURLCK q = true ∨ bx_allP (fun E => bx_obE rxL X S0 rxCRLCK.2.2.1 (rxIRLCK S0 ws) (rxPSRLCK S0 ws) i q.1 E) q.2.2) 0 rxYRLCK := ⟨Or.inr trivial, Or.inl rfl, Or.inr trivial, Or.inl rfl, Or.inr trivial, Or.inl rfl, Or.inr ⟨rxfRLCK_6_0 hP, trivial⟩, Or.inl rfl, Or.inr trivial, Or.inl rfl, Or.inr ⟨rxfRLCK_10_0 hP, trivial⟩, Or.inl rfl, Or.inr ⟨rxfRLCK_12_0 hP, rxfRLCK_12_1 hP, trivial⟩, trivial⟩
theorem rxuRLCK {PX : State → Prop} {Dg : va_G} {A : Nat → Prop} {ad xa : Nat → Nat} {l : Launch} {X : (Nat → Int → Int) → Prop} (hPX : rx_PXOK rxNW A PX) (hX : ∀ S S1 : Nat → Int → Int, X S → bx_same rxL (bx_mdl rxCRLCK.2.2.1) S S1 → X S1) (hQIWX : bx_ConP rxG rxNW rxAO PX Dg rxL X vwCl A ad l rxM59 rxC59 rxPIWX rxPSIWX) (hQAD : bx_ConP rxG rxNW rxAO PX Dg rxL X vwCl A ad l rxM84 rxC84 rxPAD rxPSAD) (hQOCDK : bx_ConP rxG rxNW rxAO PX Dg rxL X vwCl A ad l rxM60 rxCOCDK rxPOCDK rxPSOCDK) (hQREDK : bx_ConP rxG rxNW rxAO PX Dg rxL X vwCl A ad l rxM61 rxCREDK rxPREDK rxPSREDK) {S0 : Nat → Int → Int} {ws : List Int} (hP : rxPRLCK S0 ws) : ∀ (i : Nat) (q : bx_HE), rxYRLCK[i]? = some q → rxURLCK q = true → ∀ {p : Program} {e : Env} {R : Room} {s : State} {m : MethodId} {args : Array Value} {below : List Frame} {meth : Method} {c : Code} {Q : State → Prop} {H0 : Heap}, rx_Fr rxG rxNW rxAO PX p s m args meth c rxM86 → (∀ q, H0.size ≤ q → A q) → H0 = s.heap → rxM86.2.2.2.2.2.2.1 ≤ R.cells → rxM86.2.2.2.2.2.2.2 ≤ R.slots → rxCRLCK.2.2.2.1 ≤ R.frames → rxCRLCK.2.2.2.1 * 40 ≤ R.locals → bx_Step p l e R s m args below meth c Q Dg rxL X vwCl A xa H0 ad rxM86 rxYRLCK (rxIRLCK S0 ws) (rxmRLCK S0 ws) S0 rxCRLCK.2.2.1 i q := by
  intro i q hq hus p e R s m args below meth c Q H0 hF hA hH0 hmc hms hd hdl
  match i, hq with
  | 0, hq =>
    cases hq
    exact absurd (show false = true from hus) Bool.false_ne_true
  | 1, hq =>
    cases hq
    exact rx_stepC (ins := .invokevirtual 100) (len := 3) (i_p := 2) (M_p := rxM59) (d := rxCRLCK.2.2.2.1) (as := [.inr (3, (0, 412)), .inr (3, (0, 525))]) (t := []) (ct := rxC59) hPX hF rfl hA hH0 hmc hms hd hdl (by decide +kernel) rfl rfl (by decide +kernel) (by decide +kernel) hQIWX (by decide +kernel) rfl (Or.inr ⟨_, _, _, 1, rfl, rfl, by omega, rfl, rfl, rfl⟩) (rxsRLCK_1 hP)
  | 2, hq =>
    cases hq
    exact absurd (show false = true from hus) Bool.false_ne_true
  | 3, hq =>
    cases hq
    exact rx_stepC (ins := .invokevirtual 100) (len := 3) (i_p := 4) (M_p := rxM59) (d := rxCRLCK.2.2.2.1) (as := [.inr (3, (0, 412)), .inr (3, (0, 542))]) (t := []) (ct := rxC59) hPX hF rfl hA hH0 hmc hms hd hdl (by decide +kernel) rfl rfl (by decide +kernel) (by decide +kernel) hQIWX (by decide +kernel) rfl (Or.inr ⟨_, _, _, 1, rfl, rfl, by omega, rfl, rfl, rfl⟩) (rxsRLCK_3 hP)
  | 4, hq =>
    cases hq
    exact absurd (show false = true from hus) Bool.false_ne_true
  | 5, hq =>
    cases hq
    exact rx_stepC (ins := .invokevirtual 100) (len := 3) (i_p := 6) (M_p := rxM59) (d := rxCRLCK.2.2.2.1) (as := [.inr (3, (0, 412)), .inr (3, (0, 530))]) (t := []) (ct := rxC59) hPX hF rfl hA hH0 hmc hms hd hdl (by decide +kernel) rfl rfl (by decide +kernel) (by decide +kernel) hQIWX (by decide +kernel) rfl (Or.inr ⟨_, _, _, 1, rfl, rfl, by omega, rfl, rfl, rfl⟩) (rxsRLCK_5 hP)
  | 6, hq =>
    cases hq
    exact absurd (show false = true from hus) Bool.false_ne_true
  | 7, hq =>
    cases hq
    exact rx_stepC (ins := .invokevirtual 66) (len := 3) (i_p := 8) (M_p := rxM84) (d := rxCRLCK.2.2.2.1) (as := [.inr (3, (0, 412))]) (t := []) (ct := rxC84) hPX hF rfl hA hH0 hmc hms hd hdl (by decide +kernel) rfl rfl (by decide +kernel) (by decide +kernel) hQAD (by decide +kernel) rfl (Or.inl ⟨rfl, rfl, rfl⟩) (rxsRLCK_7 hP)
  | 8, hq =>
    cases hq
    exact absurd (show false = true from hus) Bool.false_ne_true
  | 9, hq =>
    cases hq
    exact rx_stepC (ins := .invokevirtual 105) (len := 3) (i_p := 10) (M_p := rxM60) (d := rxCRLCK.2.2.2.1) (as := [.inr (3, (0, 427)), .inr (0, (10, 0)), .inr (0, (0, (-1))), .inr (0, (0, (-1)))]) (t := []) (ct := rxCOCDK) hPX hF rfl hA hH0 hmc hms hd hdl (by decide +kernel) rfl rfl (by decide +kernel) (by decide +kernel) hQOCDK (by decide +kernel) rfl (Or.inl ⟨rfl, rfl, rfl⟩) (rxsRLCK_9 hP)
  | 10, hq =>
    cases hq
    exact absurd (show false = true from hus) Bool.false_ne_true
  | 11, hq =>
    cases hq
    exact rx_stepC (ins := .invokevirtual 112) (len := 3) (i_p := 12) (M_p := rxM61) (d := rxCRLCK.2.2.2.1) (as := [.inr (3, (0, 412)), .inr (3, (10, 0)), .inr (0, (0, 0))]) (t := []) (ct := rxCREDK) hPX hF rfl hA hH0 hmc hms hd hdl (by decide +kernel) rfl rfl (by decide +kernel) (by decide +kernel) hQREDK (by decide +kernel) rfl (Or.inr ⟨_, _, _, 1, rfl, rfl, by omega, rfl, rfl, rfl⟩) (rxsRLCK_11 hP)
  | 12, hq =>
    cases hq
    exact absurd (show false = true from hus) Bool.false_ne_true
  | n + 13, hq => cases hq
theorem rxQRLCK {PX : State → Prop} {Dg : va_G} {A : Nat → Prop} {ad xa : Nat → Nat} {l : Launch} {X : (Nat → Int → Int) → Prop} (hPX : rx_PXOK rxNW A PX) (hsl : ∀ s : State, PX s → ∀ o idx n : Nat, rxSl o idx = some n → ∃ tx : String, vk_R (rxNm o) idx tx (ad n) s)
    (hX : ∀ S S_p : Nat → Int → Int, X S → bx_same rxL (bx_mdl rxCRLCK.2.2.1) S S_p → X S_p)
    (ih : ∀ (j2 : Nat) (ct2 : bx_Ct) (M2 : rx_Mt), ct2 ∈ rxCnE j2 → ct2.2.2.2.1 + 1 ≤ rxCRLCK.2.2.2.1 → rxT.2.2.2.2.2 j2 = some M2 → bx_Con rxG rxNW rxAO PX Dg rxL X vwCl A ad l M2 ct2) (hQIWX : bx_ConP rxG rxNW rxAO PX Dg rxL X vwCl A ad l rxM59 rxC59 rxPIWX rxPSIWX) (hQAD : bx_ConP rxG rxNW rxAO PX Dg rxL X vwCl A ad l rxM84 rxC84 rxPAD rxPSAD) (hQOCDK : bx_ConP rxG rxNW rxAO PX Dg rxL X vwCl A ad l rxM60 rxCOCDK rxPOCDK rxPSOCDK) (hQREDK : bx_ConP rxG rxNW rxAO PX Dg rxL X vwCl A ad l rxM61 rxCREDK rxPREDK rxPSREDK) : bx_ConP rxG rxNW rxAO PX Dg rxL X vwCl A ad l rxM86 rxCRLCK rxPRLCK rxPSRLCK :=
  rxQof (xa := xa) (Cn := rxCnE) (f := 30000) (j := 86) (tab := rxYRLCK) (us := rxURLCK) hPX hsl hX ih rfl rxYcRLCK rxIRLCK rxmRLCK
    (fun S0 ws r I0 I ht0 ht as he he1 hX0 hI0 hP hs ha => by
      have e := he.symm.trans (show bx_ent0 rxNP rxCRLCK.1 bx_I0 [] = some ([(0, 0), (0, 0), (0, 0), (0, 0), (0, 0), (0, 0), (0, 0), (0, 0)], [], [.inr (3, (0, 412))]) from rfl)
      cases e
      subst ha
      have h0 : r 0 = 0 := hs.1
      show rxIRLCK_0 S0 _ S0
      refine ⟨⟨rfl, ?_⟩, trivial⟩
      simp only [List.map_cons, List.map_nil, bx_xv_ok h0]
      rfl)
    (fun S0 ws hP => rxuRLCK (xa := xa) hPX hX hQIWX hQAD hQOCDK hQREDK hP) (fun S0 ws hP => rxgCRLCK hP) (fun S0 ws hP => rxgERLCK hP)
