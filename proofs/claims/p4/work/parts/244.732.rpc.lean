/-! CONTRACT BY HAND, by program (wip/sim/genhand.py): DeadUnderstudies$Reader.readPlayClause -/
def rxCRPCK : bx_Ct := ([(3, (1, 412, 0))], some (0, (0, 0, 1)), [(6, 0), (6, 4), (7, 2), (7, 3), (7, 4), (7, 7), (7, 8), (7, 10), (1021, 0), (1022, 0), (1024, 0), (1025, 0), (1026, 0), (1027, 0), (1034, 0), (1035, 0), (1036, 0)], 8, [(412, 0, 3, (1, 411, 0)), (412, 6, 3, (1, 427, 0))])
def rxIRPCK_0 (S0 : Nat → Int → Int) (ws : List Int) (S : Nat → Int → Int) : Prop := rxIRPC_0 S0 ws S ∧ True
def rxmRPCK_0 (S0 : Nat → Int → Int) (ws : List Int) (S : Nat → Int → Int) : Nat := rxmRPC_0 S0 ws S
def rxzRPCK_0 : rx_Z := ([(0, 0), (0, 0), (0, 0), (0, 0), (0, 0), (0, 0), (0, 0), (0, 0)], [], [(((0, 412), 6), .inr (3, (0, 427))), (((0, 412), 0), .inr (3, (0, 411)))], 0, 0, 0, [(0, .inr (3, (0, 412)))], [])
def rxIRPCK_1 (S0 : Nat → Int → Int) (ws : List Int) (S : Nat → Int → Int) : Prop := rxIRPC_1 S0 ws S ∧ rkTa S0 S (S0 412 2)
def rxmRPCK_1 (S0 : Nat → Int → Int) (ws : List Int) (S : Nat → Int → Int) : Nat := rxmRPC_1 S0 ws S
def rxzRPCK_1 : rx_Z := ([(0, 0), (0, 0), (0, 0), (0, 0), (0, 0), (0, 0), (0, 0), (0, 0)], [], [(((0, 412), 0), .inr (3, (0, 411))), (((0, 412), 6), .inr (3, (0, 427)))], 0, 0, 3, [(0, .inr (3, (0, 412)))], [.inr (3, (0, 533)), .inr (3, (0, 412))])
def rxIRPCK_2 (S0 : Nat → Int → Int) (ws : List Int) (S : Nat → Int → Int) (r : Int) : Prop := rxIRPC_2 S0 ws S r ∧ (r = 1 → rkTa S0 S (rzN (rzCut (S0 411)) (S0 412 1) (S0 412 2)))
def rxmRPCK_2 (S0 : Nat → Int → Int) (ws : List Int) (S : Nat → Int → Int) (r : Int) : Nat := rxmRPC_2 S0 ws S r
def rxzRPCK_2 : rx_Z := ([(0, 0), (0, 0), (0, 0), (0, 0), (0, 0), (0, 0), (0, 0), (0, 0), (0, 1)], [], [(((0, 412), 0), .inr (3, (0, 411))), (((0, 412), 6), .inr (3, (0, 427)))], 0, 0, 6, [(0, .inr (3, (0, 412)))], [.inr (0, (8, 0))])
def rxIRPCK_3 (S0 : Nat → Int → Int) (ws : List Int) (S : Nat → Int → Int) : Prop := rxIRPC_3 S0 ws S ∧ rkTa S0 S (rzN (rzCut (S0 411)) (S0 412 1) (S0 412 2))
def rxmRPCK_3 (S0 : Nat → Int → Int) (ws : List Int) (S : Nat → Int → Int) : Nat := rxmRPC_3 S0 ws S
def rxzRPCK_3 : rx_Z := ([(0, 0), (0, 0), (0, 0), (0, 0), (0, 0), (0, 0), (0, 0), (0, 0)], [], [(((0, 412), 0), .inr (3, (0, 411))), (((0, 412), 6), .inr (3, (0, 427)))], 0, 0, 12, [(0, .inr (3, (0, 412)))], [.inr (3, (0, 412))])
def rxIRPCK_4 (S0 : Nat → Int → Int) (ws : List Int) (S : Nat → Int → Int) (pl : Int) : Prop := rxIRPC_4 S0 ws S pl ∧ rkTa S0 S (rzN (rzCut (S0 411)) (S0 412 1) (S0 412 2))
def rxmRPCK_4 (S0 : Nat → Int → Int) (ws : List Int) (S : Nat → Int → Int) (pl : Int) : Nat := rxmRPC_4 S0 ws S pl
def rxzRPCK_4 : rx_Z := ([(0, 0), (0, 0), (0, 0), (0, 0), (0, 0), (0, 0), (0, 0), (0, 0), ((-2147483648), 6)], [], [(((0, 412), 0), .inr (3, (0, 411))), (((0, 412), 6), .inr (3, (0, 427)))], 0, 0, 15, [(0, .inr (3, (0, 412)))], [.inr (0, (8, 0))])
def rxIRPCK_5 (S0 : Nat → Int → Int) (ws : List Int) (S : Nat → Int → Int) (st : Int) : Prop := rxIRPC_5 S0 ws S st ∧ rkTa S0 S (rzN (rzCut (S0 411)) (S0 412 1) (S0 412 2)) ∧ st = rzPv (rzCut (S0 411)) (S0 412 1) (rzN (rzCut (S0 411)) (S0 412 1) (S0 412 2))
def rxmRPCK_5 (S0 : Nat → Int → Int) (ws : List Int) (S : Nat → Int → Int) (st : Int) : Nat := rxmRPC_5 S0 ws S st
def rxzRPCK_5 : rx_Z := ([(0, 0), (0, 0), (0, 0), (0, 0), (0, 0), (0, 0), (0, 0), (0, 0), (0, 6)], [], [(((0, 412), 0), .inr (3, (0, 411))), (((0, 412), 6), .inr (3, (0, 427)))], 0, 0, 26, [(0, .inr (3, (0, 412))), (1, .inr (0, (8, 0)))], [.inr (3, (0, 412))])
def rxIRPCK_6 (S0 : Nat → Int → Int) (ws : List Int) (S : Nat → Int → Int) (st : Int) : Prop := rxIRPC_6 S0 ws S st ∧ rkTa S0 S (rzN (rzCut (S0 411)) (S0 412 1) (rzN (rzCut (S0 411)) (S0 412 1) (S0 412 2))) ∧ st = rzPv (rzCut (S0 411)) (S0 412 1) (rzN (rzCut (S0 411)) (S0 412 1) (S0 412 2))
def rxmRPCK_6 (S0 : Nat → Int → Int) (ws : List Int) (S : Nat → Int → Int) (st : Int) : Nat := rxmRPC_6 S0 ws S st
def rxzRPCK_6 : rx_Z := ([(0, 0), (0, 0), (0, 0), (0, 0), (0, 0), (0, 0), (0, 0), (0, 0), (0, 6)], [], [(((0, 412), 0), .inr (3, (0, 411))), (((0, 412), 6), .inr (3, (0, 427)))], 0, 0, 29, [(0, .inr (3, (0, 412))), (1, .inr (0, (8, 0)))], [])
def rxIRPCK_7 (S0 : Nat → Int → Int) (ws : List Int) (S : Nat → Int → Int) (st : Int) : Prop := rxIRPC_7 S0 ws S st ∧ rkTa S0 S (rzN (rzCut (S0 411)) (S0 412 1) (rzN (rzCut (S0 411)) (S0 412 1) (S0 412 2))) ∧ st = rzPv (rzCut (S0 411)) (S0 412 1) (rzN (rzCut (S0 411)) (S0 412 1) (S0 412 2))
def rxmRPCK_7 (S0 : Nat → Int → Int) (ws : List Int) (S : Nat → Int → Int) (st : Int) : Nat := rxmRPC_7 S0 ws S st
def rxzRPCK_7 : rx_Z := ([(0, 0), (0, 0), (0, 0), (0, 0), (0, 0), (0, 0), (0, 0), (0, 0), (0, 6)], [], [(((0, 412), 0), .inr (3, (0, 411))), (((0, 412), 6), .inr (3, (0, 427)))], 0, 0, 32, [(0, .inr (3, (0, 412))), (1, .inr (0, (8, 0)))], [.inr (3, (0, 524)), .inr (3, (0, 412))])
def rxIRPCK_8 (S0 : Nat → Int → Int) (ws : List Int) (S : Nat → Int → Int) (st r : Int) : Prop := rxIRPC_8 S0 ws S st r ∧ (r = 1 → rkTa S0 S (rzN (rzCut (S0 411)) (S0 412 1) (rzN (rzCut (S0 411)) (S0 412 1) (rzN (rzCut (S0 411)) (S0 412 1) (S0 412 2)))) ∧ st = rzPv (rzCut (S0 411)) (S0 412 1) (rzN (rzCut (S0 411)) (S0 412 1) (S0 412 2)))
def rxmRPCK_8 (S0 : Nat → Int → Int) (ws : List Int) (S : Nat → Int → Int) (st r : Int) : Nat := rxmRPC_8 S0 ws S st r
def rxzRPCK_8 : rx_Z := ([(0, 0), (0, 0), (0, 0), (0, 0), (0, 0), (0, 0), (0, 0), (0, 0), (0, 6), (0, 1)], [], [(((0, 412), 0), .inr (3, (0, 411))), (((0, 412), 6), .inr (3, (0, 427)))], 0, 0, 35, [(0, .inr (3, (0, 412))), (1, .inr (0, (8, 0)))], [.inr (0, (9, 0))])
def rxIRPCK_9 (S0 : Nat → Int → Int) (ws : List Int) (S : Nat → Int → Int) (st : Int) : Prop := rxIRPC_9 S0 ws S st ∧ rkTa S0 S (rzN (rzCut (S0 411)) (S0 412 1) (rzN (rzCut (S0 411)) (S0 412 1) (rzN (rzCut (S0 411)) (S0 412 1) (S0 412 2)))) ∧ st = rzPv (rzCut (S0 411)) (S0 412 1) (rzN (rzCut (S0 411)) (S0 412 1) (S0 412 2))
def rxmRPCK_9 (S0 : Nat → Int → Int) (ws : List Int) (S : Nat → Int → Int) (st : Int) : Nat := rxmRPC_9 S0 ws S st
def rxzRPCK_9 : rx_Z := ([(0, 0), (0, 0), (0, 0), (0, 0), (0, 0), (0, 0), (0, 0), (0, 0), (0, 6)], [], [(((0, 412), 0), .inr (3, (0, 411))), (((0, 412), 6), .inr (3, (0, 427)))], 0, 0, 41, [(0, .inr (3, (0, 412))), (1, .inr (0, (8, 0)))], [.inr (3, (0, 412))])
def rxIRPCK_10 (S0 : Nat → Int → Int) (ws : List Int) (S : Nat → Int → Int) (st pl : Int) : Prop := rxIRPC_10 S0 ws S st pl ∧ rkTa S0 S (rzN (rzCut (S0 411)) (S0 412 1) (rzN (rzCut (S0 411)) (S0 412 1) (rzN (rzCut (S0 411)) (S0 412 1) (S0 412 2)))) ∧ st = rzPv (rzCut (S0 411)) (S0 412 1) (rzN (rzCut (S0 411)) (S0 412 1) (S0 412 2))
def rxmRPCK_10 (S0 : Nat → Int → Int) (ws : List Int) (S : Nat → Int → Int) (st pl : Int) : Nat := rxmRPC_10 S0 ws S st pl
def rxzRPCK_10 : rx_Z := ([(0, 0), (0, 0), (0, 0), (0, 0), (0, 0), (0, 0), (0, 0), (0, 0), (0, 6), ((-2147483648), 6)], [], [(((0, 412), 0), .inr (3, (0, 411))), (((0, 412), 6), .inr (3, (0, 427)))], 0, 0, 44, [(0, .inr (3, (0, 412))), (1, .inr (0, (8, 0)))], [.inr (0, (9, 0))])
def rxIRPCK_11 (S0 : Nat → Int → Int) (ws : List Int) (S : Nat → Int → Int) (st cu : Int) : Prop := rxIRPC_11 S0 ws S st cu ∧ rkTa S0 S (rzN (rzCut (S0 411)) (S0 412 1) (rzN (rzCut (S0 411)) (S0 412 1) (rzN (rzCut (S0 411)) (S0 412 1) (S0 412 2)))) ∧ st = rzPv (rzCut (S0 411)) (S0 412 1) (rzN (rzCut (S0 411)) (S0 412 1) (S0 412 2)) ∧ cu = rzPv (rzCut (S0 411)) (S0 412 1) (rzN (rzCut (S0 411)) (S0 412 1) (rzN (rzCut (S0 411)) (S0 412 1) (rzN (rzCut (S0 411)) (S0 412 1) (S0 412 2))))
def rxmRPCK_11 (S0 : Nat → Int → Int) (ws : List Int) (S : Nat → Int → Int) (st cu : Int) : Nat := rxmRPC_11 S0 ws S st cu
def rxzRPCK_11 : rx_Z := ([(0, 0), (0, 0), (0, 0), (0, 0), (0, 0), (0, 0), (0, 0), (0, 0), (0, 6), (0, 6)], [], [(((0, 412), 0), .inr (3, (0, 411))), (((0, 412), 6), .inr (3, (0, 427)))], 0, 0, 55, [(0, .inr (3, (0, 412))), (1, .inr (0, (8, 0))), (2, .inr (0, (9, 0)))], [.inr (3, (0, 412))])
def rxIRPCK_12 (S0 : Nat → Int → Int) (ws : List Int) (S : Nat → Int → Int) (st cu : Int) : Prop := rxIRPC_12 S0 ws S st cu ∧ rkTa S0 S (rzN (rzCut (S0 411)) (S0 412 1) (rzN (rzCut (S0 411)) (S0 412 1) (rzN (rzCut (S0 411)) (S0 412 1) (rzN (rzCut (S0 411)) (S0 412 1) (S0 412 2))))) ∧ st = rzPv (rzCut (S0 411)) (S0 412 1) (rzN (rzCut (S0 411)) (S0 412 1) (S0 412 2)) ∧ cu = rzPv (rzCut (S0 411)) (S0 412 1) (rzN (rzCut (S0 411)) (S0 412 1) (rzN (rzCut (S0 411)) (S0 412 1) (rzN (rzCut (S0 411)) (S0 412 1) (S0 412 2))))
def rxmRPCK_12 (S0 : Nat → Int → Int) (ws : List Int) (S : Nat → Int → Int) (st cu : Int) : Nat := rxmRPC_12 S0 ws S st cu
def rxzRPCK_12 : rx_Z := ([(0, 0), (0, 0), (0, 0), (0, 0), (0, 0), (0, 0), (0, 0), (0, 0), (0, 6), (0, 6)], [], [(((0, 412), 0), .inr (3, (0, 411))), (((0, 412), 6), .inr (3, (0, 427)))], 0, 0, 58, [(0, .inr (3, (0, 412))), (1, .inr (0, (8, 0))), (2, .inr (0, (9, 0)))], [])
def rxIRPCK_13 (S0 : Nat → Int → Int) (ws : List Int) (S : Nat → Int → Int) (st cu : Int) : Prop := rxIRPC_13 S0 ws S st cu ∧ rkTa S0 S (rzN (rzCut (S0 411)) (S0 412 1) (rzN (rzCut (S0 411)) (S0 412 1) (rzN (rzCut (S0 411)) (S0 412 1) (rzN (rzCut (S0 411)) (S0 412 1) (S0 412 2))))) ∧ st = rzPv (rzCut (S0 411)) (S0 412 1) (rzN (rzCut (S0 411)) (S0 412 1) (S0 412 2)) ∧ cu = rzPv (rzCut (S0 411)) (S0 412 1) (rzN (rzCut (S0 411)) (S0 412 1) (rzN (rzCut (S0 411)) (S0 412 1) (rzN (rzCut (S0 411)) (S0 412 1) (S0 412 2))))
def rxmRPCK_13 (S0 : Nat → Int → Int) (ws : List Int) (S : Nat → Int → Int) (st cu : Int) : Nat := rxmRPC_13 S0 ws S st cu
def rxzRPCK_13 : rx_Z := ([(0, 0), (0, 0), (0, 0), (0, 0), (0, 0), (0, 0), (0, 0), (0, 0), (0, 6), (0, 6)], [], [(((0, 412), 0), .inr (3, (0, 411))), (((0, 412), 6), .inr (3, (0, 427)))], 0, 0, 61, [(0, .inr (3, (0, 412))), (1, .inr (0, (8, 0))), (2, .inr (0, (9, 0)))], [.inr (3, (0, 531)), .inr (3, (0, 412))])
def rxIRPCK_14 (S0 : Nat → Int → Int) (ws : List Int) (S : Nat → Int → Int) (st cu r : Int) : Prop := rxIRPC_14 S0 ws S st cu r ∧ rkTa S0 S (rzN (rzCut (S0 411)) (S0 412 1) (rzN (rzCut (S0 411)) (S0 412 1) (rzN (rzCut (S0 411)) (S0 412 1) (rzN (rzCut (S0 411)) (S0 412 1) (S0 412 2))))) ∧ st = rzPv (rzCut (S0 411)) (S0 412 1) (rzN (rzCut (S0 411)) (S0 412 1) (S0 412 2)) ∧ cu = rzPv (rzCut (S0 411)) (S0 412 1) (rzN (rzCut (S0 411)) (S0 412 1) (rzN (rzCut (S0 411)) (S0 412 1) (rzN (rzCut (S0 411)) (S0 412 1) (S0 412 2))))
def rxmRPCK_14 (S0 : Nat → Int → Int) (ws : List Int) (S : Nat → Int → Int) (st cu r : Int) : Nat := rxmRPC_14 S0 ws S st cu r
def rxzRPCK_14 : rx_Z := ([(0, 0), (0, 0), (0, 0), (0, 0), (0, 0), (0, 0), (0, 0), (0, 0), (0, 6), (0, 6), (0, 1)], [], [(((0, 412), 0), .inr (3, (0, 411))), (((0, 412), 6), .inr (3, (0, 427)))], 0, 0, 64, [(0, .inr (3, (0, 412))), (1, .inr (0, (8, 0))), (2, .inr (0, (9, 0)))], [.inr (0, (10, 0))])
def rxIRPCK_15 (S0 : Nat → Int → Int) (ws : List Int) (S : Nat → Int → Int) (st cu hu : Int) : Prop := rxIRPC_15 S0 ws S st cu hu ∧ rkTa S0 S (rzN (rzCut (S0 411)) (S0 412 1) (rzN (rzCut (S0 411)) (S0 412 1) (rzN (rzCut (S0 411)) (S0 412 1) (rzN (rzCut (S0 411)) (S0 412 1) (S0 412 2))))) ∧ st = rzPv (rzCut (S0 411)) (S0 412 1) (rzN (rzCut (S0 411)) (S0 412 1) (S0 412 2)) ∧ cu = rzPv (rzCut (S0 411)) (S0 412 1) (rzN (rzCut (S0 411)) (S0 412 1) (rzN (rzCut (S0 411)) (S0 412 1) (rzN (rzCut (S0 411)) (S0 412 1) (S0 412 2))))
def rxmRPCK_15 (S0 : Nat → Int → Int) (ws : List Int) (S : Nat → Int → Int) (st cu hu : Int) : Nat := rxmRPC_15 S0 ws S st cu hu
def rxzRPCK_15 : rx_Z := ([(0, 0), (0, 0), (0, 0), (0, 0), (0, 0), (0, 0), (0, 0), (0, 0), (0, 6), (0, 6), (0, 1)], [], [(((0, 412), 0), .inr (3, (0, 411))), (((0, 412), 6), .inr (3, (0, 427)))], 0, 0, 72, [(0, .inr (3, (0, 412))), (1, .inr (0, (8, 0))), (2, .inr (0, (9, 0))), (3, .inr (0, (10, 0)))], [.inr (3, (0, 541)), .inr (3, (0, 412))])
def rxIRPCK_16 (S0 : Nat → Int → Int) (ws : List Int) (S : Nat → Int → Int) (st cu hu r : Int) : Prop := rxIRPC_16 S0 ws S st cu hu r ∧ rkTa S0 S (rzN (rzCut (S0 411)) (S0 412 1) (rzN (rzCut (S0 411)) (S0 412 1) (rzN (rzCut (S0 411)) (S0 412 1) (rzN (rzCut (S0 411)) (S0 412 1) (S0 412 2))))) ∧ st = rzPv (rzCut (S0 411)) (S0 412 1) (rzN (rzCut (S0 411)) (S0 412 1) (S0 412 2)) ∧ cu = rzPv (rzCut (S0 411)) (S0 412 1) (rzN (rzCut (S0 411)) (S0 412 1) (rzN (rzCut (S0 411)) (S0 412 1) (rzN (rzCut (S0 411)) (S0 412 1) (S0 412 2))))
def rxmRPCK_16 (S0 : Nat → Int → Int) (ws : List Int) (S : Nat → Int → Int) (st cu hu r : Int) : Nat := rxmRPC_16 S0 ws S st cu hu r
def rxzRPCK_16 : rx_Z := ([(0, 0), (0, 0), (0, 0), (0, 0), (0, 0), (0, 0), (0, 0), (0, 0), (0, 6), (0, 6), (0, 1), (0, 1)], [], [(((0, 412), 0), .inr (3, (0, 411))), (((0, 412), 6), .inr (3, (0, 427)))], 0, 0, 75, [(0, .inr (3, (0, 412))), (1, .inr (0, (8, 0))), (2, .inr (0, (9, 0))), (3, .inr (0, (10, 0)))], [.inr (0, (11, 0))])
def rxIRPCK_17 (S0 : Nat → Int → Int) (ws : List Int) (S : Nat → Int → Int) (st cu hu : Int) : Prop := rxIRPC_17 S0 ws S st cu hu ∧ rkTa S0 S (rzN (rzCut (S0 411)) (S0 412 1) (rzN (rzCut (S0 411)) (S0 412 1) (rzN (rzCut (S0 411)) (S0 412 1) (rzN (rzCut (S0 411)) (S0 412 1) (S0 412 2))))) ∧ st = rzPv (rzCut (S0 411)) (S0 412 1) (rzN (rzCut (S0 411)) (S0 412 1) (S0 412 2)) ∧ cu = rzPv (rzCut (S0 411)) (S0 412 1) (rzN (rzCut (S0 411)) (S0 412 1) (rzN (rzCut (S0 411)) (S0 412 1) (rzN (rzCut (S0 411)) (S0 412 1) (S0 412 2)))) ∧ ((hu = 1 ∧ rzIs (rzCut (S0 411)) (S0 412 1) rzW_hush (rzN (rzCut (S0 411)) (S0 412 1) (rzN (rzCut (S0 411)) (S0 412 1) (rzN (rzCut (S0 411)) (S0 412 1) (rzN (rzCut (S0 411)) (S0 412 1) (S0 412 2))))) = true) ∨ (hu = 0 ∧ rzIs (rzCut (S0 411)) (S0 412 1) rzW_hush (rzN (rzCut (S0 411)) (S0 412 1) (rzN (rzCut (S0 411)) (S0 412 1) (rzN (rzCut (S0 411)) (S0 412 1) (rzN (rzCut (S0 411)) (S0 412 1) (S0 412 2))))) = false)) ∧ (rzN (rzCut (S0 411)) (S0 412 1) (rzN (rzCut (S0 411)) (S0 412 1) (rzN (rzCut (S0 411)) (S0 412 1) (rzN (rzCut (S0 411)) (S0 412 1) (S0 412 2))))) < (rzN (rzCut (S0 411)) (S0 412 1) (rzN (rzCut (S0 411)) (S0 412 1) (rzN (rzCut (S0 411)) (S0 412 1) (rzN (rzCut (S0 411)) (S0 412 1) (rzN (rzCut (S0 411)) (S0 412 1) (S0 412 2))))))
def rxmRPCK_17 (S0 : Nat → Int → Int) (ws : List Int) (S : Nat → Int → Int) (st cu hu : Int) : Nat := rxmRPC_17 S0 ws S st cu hu
def rxzRPCK_17 : rx_Z := ([(0, 0), (0, 0), (0, 0), (0, 0), (0, 0), (0, 0), (0, 0), (0, 0), (0, 6), (0, 6), (0, 1)], [], [(((0, 412), 0), .inr (3, (0, 411))), (((0, 412), 6), .inr (3, (0, 427)))], 0, 0, 84, [(0, .inr (3, (0, 412))), (1, .inr (0, (8, 0))), (2, .inr (0, (9, 0))), (3, .inr (0, (10, 0)))], [.inr (3, (0, 412))])
def rxIRPCK_18 (S0 : Nat → Int → Int) (ws : List Int) (S : Nat → Int → Int) (st cu hu : Int) : Prop := rxIRPC_18 S0 ws S st cu hu ∧ rkTa S0 S (rzN (rzCut (S0 411)) (S0 412 1) (rzN (rzCut (S0 411)) (S0 412 1) (rzN (rzCut (S0 411)) (S0 412 1) (rzN (rzCut (S0 411)) (S0 412 1) (rzN (rzCut (S0 411)) (S0 412 1) (S0 412 2)))))) ∧ st = rzPv (rzCut (S0 411)) (S0 412 1) (rzN (rzCut (S0 411)) (S0 412 1) (S0 412 2)) ∧ cu = rzPv (rzCut (S0 411)) (S0 412 1) (rzN (rzCut (S0 411)) (S0 412 1) (rzN (rzCut (S0 411)) (S0 412 1) (rzN (rzCut (S0 411)) (S0 412 1) (S0 412 2)))) ∧ ((hu = 1 ∧ rzIs (rzCut (S0 411)) (S0 412 1) rzW_hush (rzN (rzCut (S0 411)) (S0 412 1) (rzN (rzCut (S0 411)) (S0 412 1) (rzN (rzCut (S0 411)) (S0 412 1) (rzN (rzCut (S0 411)) (S0 412 1) (S0 412 2))))) = true) ∨ (hu = 0 ∧ rzIs (rzCut (S0 411)) (S0 412 1) rzW_hush (rzN (rzCut (S0 411)) (S0 412 1) (rzN (rzCut (S0 411)) (S0 412 1) (rzN (rzCut (S0 411)) (S0 412 1) (rzN (rzCut (S0 411)) (S0 412 1) (S0 412 2))))) = false)) ∧ (rzN (rzCut (S0 411)) (S0 412 1) (rzN (rzCut (S0 411)) (S0 412 1) (rzN (rzCut (S0 411)) (S0 412 1) (rzN (rzCut (S0 411)) (S0 412 1) (S0 412 2))))) < (rzN (rzCut (S0 411)) (S0 412 1) (rzN (rzCut (S0 411)) (S0 412 1) (rzN (rzCut (S0 411)) (S0 412 1) (rzN (rzCut (S0 411)) (S0 412 1) (rzN (rzCut (S0 411)) (S0 412 1) (S0 412 2))))))
def rxmRPCK_18 (S0 : Nat → Int → Int) (ws : List Int) (S : Nat → Int → Int) (st cu hu : Int) : Nat := rxmRPC_18 S0 ws S st cu hu
def rxzRPCK_18 : rx_Z := ([(0, 0), (0, 0), (0, 0), (0, 0), (0, 0), (0, 0), (0, 0), (0, 0), (0, 6), (0, 6), (0, 1)], [], [(((0, 412), 0), .inr (3, (0, 411))), (((0, 412), 6), .inr (3, (0, 427)))], 0, 0, 87, [(0, .inr (3, (0, 412))), (1, .inr (0, (8, 0))), (2, .inr (0, (9, 0))), (3, .inr (0, (10, 0)))], [])
def rxIRPCK_19 (S0 : Nat → Int → Int) (ws : List Int) (S : Nat → Int → Int) (st cu hu ki : Int) : Prop := rxIRPC_19 S0 ws S st cu hu ki ∧ rkTa S0 S (rzN (rzCut (S0 411)) (S0 412 1) (rzN (rzCut (S0 411)) (S0 412 1) (rzN (rzCut (S0 411)) (S0 412 1) (rzN (rzCut (S0 411)) (S0 412 1) (rzN (rzCut (S0 411)) (S0 412 1) (S0 412 2)))))) ∧ st = rzPv (rzCut (S0 411)) (S0 412 1) (rzN (rzCut (S0 411)) (S0 412 1) (S0 412 2)) ∧ cu = rzPv (rzCut (S0 411)) (S0 412 1) (rzN (rzCut (S0 411)) (S0 412 1) (rzN (rzCut (S0 411)) (S0 412 1) (rzN (rzCut (S0 411)) (S0 412 1) (S0 412 2)))) ∧ (((hu = 1 ∧ rzIs (rzCut (S0 411)) (S0 412 1) rzW_hush (rzN (rzCut (S0 411)) (S0 412 1) (rzN (rzCut (S0 411)) (S0 412 1) (rzN (rzCut (S0 411)) (S0 412 1) (rzN (rzCut (S0 411)) (S0 412 1) (S0 412 2))))) = true) ∨ (hu = 0 ∧ rzIs (rzCut (S0 411)) (S0 412 1) rzW_hush (rzN (rzCut (S0 411)) (S0 412 1) (rzN (rzCut (S0 411)) (S0 412 1) (rzN (rzCut (S0 411)) (S0 412 1) (rzN (rzCut (S0 411)) (S0 412 1) (S0 412 2))))) = false)) ∧ (rzN (rzCut (S0 411)) (S0 412 1) (rzN (rzCut (S0 411)) (S0 412 1) (rzN (rzCut (S0 411)) (S0 412 1) (rzN (rzCut (S0 411)) (S0 412 1) (S0 412 2))))) < (rzN (rzCut (S0 411)) (S0 412 1) (rzN (rzCut (S0 411)) (S0 412 1) (rzN (rzCut (S0 411)) (S0 412 1) (rzN (rzCut (S0 411)) (S0 412 1) (rzN (rzCut (S0 411)) (S0 412 1) (S0 412 2))))))) ∧ ki = (if hu = 1 then 4 else 3)
def rxmRPCK_19 (S0 : Nat → Int → Int) (ws : List Int) (S : Nat → Int → Int) (st cu hu ki : Int) : Nat := rxmRPC_19 S0 ws S st cu hu ki
def rxzRPCK_19 : rx_Z := ([(0, 0), (0, 0), (0, 0), (0, 0), (0, 0), (0, 0), (0, 0), (0, 0), (0, 6), (0, 6), (0, 1), (0, 4)], [], [(((0, 412), 0), .inr (3, (0, 411))), (((0, 412), 6), .inr (3, (0, 427)))], 0, 0, 102, [(0, .inr (3, (0, 412))), (1, .inr (0, (8, 0))), (2, .inr (0, (9, 0))), (3, .inr (0, (10, 0)))], [.inr (0, (9, 0)), .inr (0, (8, 0)), .inr (0, (11, 0)), .inr (3, (0, 427))])
def rxIRPCK_20 (S0 : Nat → Int → Int) (ws : List Int) (S : Nat → Int → Int) (st cu hu ki : Int) : Prop := rxIRPC_20 S0 ws S st cu hu ki ∧ (rkPr S0 → rkCw S0 S (ki, st, cu, none, none, none) ∧ S 412 2 = (rzN (rzCut (S0 411)) (S0 412 1) (rzN (rzCut (S0 411)) (S0 412 1) (rzN (rzCut (S0 411)) (S0 412 1) (rzN (rzCut (S0 411)) (S0 412 1) (rzN (rzCut (S0 411)) (S0 412 1) (S0 412 2)))))) ∧ S 412 7 = S0 412 7 ∧ S 427 0 = S0 427 0 ∧ rkPp S) ∧ st = rzPv (rzCut (S0 411)) (S0 412 1) (rzN (rzCut (S0 411)) (S0 412 1) (S0 412 2)) ∧ cu = rzPv (rzCut (S0 411)) (S0 412 1) (rzN (rzCut (S0 411)) (S0 412 1) (rzN (rzCut (S0 411)) (S0 412 1) (rzN (rzCut (S0 411)) (S0 412 1) (S0 412 2)))) ∧ (((hu = 1 ∧ rzIs (rzCut (S0 411)) (S0 412 1) rzW_hush (rzN (rzCut (S0 411)) (S0 412 1) (rzN (rzCut (S0 411)) (S0 412 1) (rzN (rzCut (S0 411)) (S0 412 1) (rzN (rzCut (S0 411)) (S0 412 1) (S0 412 2))))) = true) ∨ (hu = 0 ∧ rzIs (rzCut (S0 411)) (S0 412 1) rzW_hush (rzN (rzCut (S0 411)) (S0 412 1) (rzN (rzCut (S0 411)) (S0 412 1) (rzN (rzCut (S0 411)) (S0 412 1) (rzN (rzCut (S0 411)) (S0 412 1) (S0 412 2))))) = false)) ∧ (rzN (rzCut (S0 411)) (S0 412 1) (rzN (rzCut (S0 411)) (S0 412 1) (rzN (rzCut (S0 411)) (S0 412 1) (rzN (rzCut (S0 411)) (S0 412 1) (S0 412 2))))) < (rzN (rzCut (S0 411)) (S0 412 1) (rzN (rzCut (S0 411)) (S0 412 1) (rzN (rzCut (S0 411)) (S0 412 1) (rzN (rzCut (S0 411)) (S0 412 1) (rzN (rzCut (S0 411)) (S0 412 1) (S0 412 2))))))) ∧ ki = (if hu = 1 then 4 else 3)
def rxmRPCK_20 (S0 : Nat → Int → Int) (ws : List Int) (S : Nat → Int → Int) (st cu hu ki : Int) : Nat := rxmRPC_20 S0 ws S st cu hu ki
def rxzRPCK_20 : rx_Z := ([(0, 0), (0, 0), (0, 0), (0, 0), (0, 0), (0, 0), (0, 0), (0, 0), (0, 6), (0, 6), (0, 1), (0, 4)], [], [(((0, 412), 0), .inr (3, (0, 411))), (((0, 412), 6), .inr (3, (0, 427)))], 0, 0, 105, [(0, .inr (3, (0, 412))), (1, .inr (0, (8, 0))), (2, .inr (0, (9, 0))), (3, .inr (0, (10, 0)))], [])
def rxIRPCK_21 (S0 : Nat → Int → Int) (ws : List Int) (S : Nat → Int → Int) (st cu hu sa : Int) : Prop := rxIRPC_21 S0 ws S st cu hu sa ∧ (rkPr S0 → (rkCw S0 S (3, st, cu, none, none, none) ∧ S 412 2 = (rzN (rzCut (S0 411)) (S0 412 1) (rzN (rzCut (S0 411)) (S0 412 1) (rzN (rzCut (S0 411)) (S0 412 1) (rzN (rzCut (S0 411)) (S0 412 1) (rzN (rzCut (S0 411)) (S0 412 1) (S0 412 2)))))) ∧ S 412 7 = S0 412 7 ∧ S 427 0 = S0 427 0 ∧ rkPp S) ∧ sa = 434) ∧ st = rzPv (rzCut (S0 411)) (S0 412 1) (rzN (rzCut (S0 411)) (S0 412 1) (S0 412 2)) ∧ cu = rzPv (rzCut (S0 411)) (S0 412 1) (rzN (rzCut (S0 411)) (S0 412 1) (rzN (rzCut (S0 411)) (S0 412 1) (rzN (rzCut (S0 411)) (S0 412 1) (S0 412 2)))) ∧ (hu = 0 ∧ rzIs (rzCut (S0 411)) (S0 412 1) rzW_hush (rzN (rzCut (S0 411)) (S0 412 1) (rzN (rzCut (S0 411)) (S0 412 1) (rzN (rzCut (S0 411)) (S0 412 1) (rzN (rzCut (S0 411)) (S0 412 1) (S0 412 2))))) = false ∧ (rzN (rzCut (S0 411)) (S0 412 1) (rzN (rzCut (S0 411)) (S0 412 1) (rzN (rzCut (S0 411)) (S0 412 1) (rzN (rzCut (S0 411)) (S0 412 1) (S0 412 2))))) < (rzN (rzCut (S0 411)) (S0 412 1) (rzN (rzCut (S0 411)) (S0 412 1) (rzN (rzCut (S0 411)) (S0 412 1) (rzN (rzCut (S0 411)) (S0 412 1) (rzN (rzCut (S0 411)) (S0 412 1) (S0 412 2)))))))
def rxmRPCK_21 (S0 : Nat → Int → Int) (ws : List Int) (S : Nat → Int → Int) (st cu hu sa : Int) : Nat := rxmRPC_21 S0 ws S st cu hu sa
def rxzRPCK_21 : rx_Z := ([(0, 0), (0, 0), (0, 0), (0, 0), (0, 0), (0, 0), (0, 0), (0, 0), (0, 6), (0, 6), (0, 1), (0, 1522)], [], [(((11, 0), 1000014), .inl none), (((0, 412), 0), .inr (3, (0, 411))), (((0, 412), 6), .inr (3, (0, 427)))], 0, 0, 120, [(0, .inr (3, (0, 412))), (1, .inr (0, (8, 0))), (2, .inr (0, (9, 0))), (3, .inr (0, (10, 0)))], [.inr (0, (0, 0)), .inr (3, (11, 0)), .inr (3, (0, 412))])
def rxIRPCK_22 (S0 : Nat → Int → Int) (ws : List Int) (S : Nat → Int → Int) (st cu hu sa res : Int) : Prop := rxIRPC_22 S0 ws S st cu hu sa res ∧ (res = 1 → (rkPr S0 → ∃ (d : rkC) (r : rzR), rkEx (rzCut (S0 411)) (S0 412 1) (rzWs S0) 0 (rzN (rzCut (S0 411)) (S0 412 1) (rzN (rzCut (S0 411)) (S0 412 1) (rzN (rzCut (S0 411)) (S0 412 1) (rzN (rzCut (S0 411)) (S0 412 1) (rzN (rzCut (S0 411)) (S0 412 1) (S0 412 2)))))) (S0 412 7) d ∧ rzEx (rzCut (S0 411)) (S0 412 1) (rzWs S0) 0 (rzN (rzCut (S0 411)) (S0 412 1) (rzN (rzCut (S0 411)) (S0 412 1) (rzN (rzCut (S0 411)) (S0 412 1) (rzN (rzCut (S0 411)) (S0 412 1) (rzN (rzCut (S0 411)) (S0 412 1) (S0 412 2)))))) (S0 412 7) r ∧ S 412 2 = r.2.1 ∧ S 412 7 = r.2.2 ∧ rkCw S0 S (3, st, cu, some d, none, none)) ∧ st = rzPv (rzCut (S0 411)) (S0 412 1) (rzN (rzCut (S0 411)) (S0 412 1) (S0 412 2)) ∧ cu = rzPv (rzCut (S0 411)) (S0 412 1) (rzN (rzCut (S0 411)) (S0 412 1) (rzN (rzCut (S0 411)) (S0 412 1) (rzN (rzCut (S0 411)) (S0 412 1) (S0 412 2)))) ∧ hu = 0 ∧ rzIs (rzCut (S0 411)) (S0 412 1) rzW_hush (rzN (rzCut (S0 411)) (S0 412 1) (rzN (rzCut (S0 411)) (S0 412 1) (rzN (rzCut (S0 411)) (S0 412 1) (rzN (rzCut (S0 411)) (S0 412 1) (S0 412 2))))) = false ∧ (rzN (rzCut (S0 411)) (S0 412 1) (rzN (rzCut (S0 411)) (S0 412 1) (rzN (rzCut (S0 411)) (S0 412 1) (rzN (rzCut (S0 411)) (S0 412 1) (S0 412 2))))) < (rzN (rzCut (S0 411)) (S0 412 1) (rzN (rzCut (S0 411)) (S0 412 1) (rzN (rzCut (S0 411)) (S0 412 1) (rzN (rzCut (S0 411)) (S0 412 1) (rzN (rzCut (S0 411)) (S0 412 1) (S0 412 2)))))))
def rxmRPCK_22 (S0 : Nat → Int → Int) (ws : List Int) (S : Nat → Int → Int) (st cu hu sa res : Int) : Nat := rxmRPC_22 S0 ws S st cu hu sa res
def rxzRPCK_22 : rx_Z := ([(0, 0), (0, 0), (0, 0), (0, 0), (0, 0), (0, 0), (0, 0), (0, 0), (0, 6), (0, 6), (0, 1), (0, 1522), (0, 1)], [], [(((11, 0), 1000014), .inl none), (((0, 412), 0), .inr (3, (0, 411))), (((0, 412), 6), .inr (3, (0, 427)))], 0, 0, 123, [(0, .inr (3, (0, 412))), (1, .inr (0, (8, 0))), (2, .inr (0, (9, 0))), (3, .inr (0, (10, 0)))], [.inr (0, (12, 0))])
def rxIRPCK_23 (S0 : Nat → Int → Int) (ws : List Int) (S : Nat → Int → Int) (st cu hu : Int) : Prop := rxIRPC_23 S0 ws S st cu hu ∧ (rkPr S0 → ∃ (d : rkC) (r : rzR), rkEx (rzCut (S0 411)) (S0 412 1) (rzWs S0) 0 (rzN (rzCut (S0 411)) (S0 412 1) (rzN (rzCut (S0 411)) (S0 412 1) (rzN (rzCut (S0 411)) (S0 412 1) (rzN (rzCut (S0 411)) (S0 412 1) (rzN (rzCut (S0 411)) (S0 412 1) (S0 412 2)))))) (S0 412 7) d ∧ rzEx (rzCut (S0 411)) (S0 412 1) (rzWs S0) 0 (rzN (rzCut (S0 411)) (S0 412 1) (rzN (rzCut (S0 411)) (S0 412 1) (rzN (rzCut (S0 411)) (S0 412 1) (rzN (rzCut (S0 411)) (S0 412 1) (rzN (rzCut (S0 411)) (S0 412 1) (S0 412 2)))))) (S0 412 7) r ∧ S 412 2 = r.2.1 ∧ S 412 7 = r.2.2 ∧ rkCw S0 S (3, st, cu, some d, none, none)) ∧ st = rzPv (rzCut (S0 411)) (S0 412 1) (rzN (rzCut (S0 411)) (S0 412 1) (S0 412 2)) ∧ cu = rzPv (rzCut (S0 411)) (S0 412 1) (rzN (rzCut (S0 411)) (S0 412 1) (rzN (rzCut (S0 411)) (S0 412 1) (rzN (rzCut (S0 411)) (S0 412 1) (S0 412 2)))) ∧ hu = 0 ∧ rzIs (rzCut (S0 411)) (S0 412 1) rzW_hush (rzN (rzCut (S0 411)) (S0 412 1) (rzN (rzCut (S0 411)) (S0 412 1) (rzN (rzCut (S0 411)) (S0 412 1) (rzN (rzCut (S0 411)) (S0 412 1) (S0 412 2))))) = false ∧ (rzN (rzCut (S0 411)) (S0 412 1) (rzN (rzCut (S0 411)) (S0 412 1) (rzN (rzCut (S0 411)) (S0 412 1) (rzN (rzCut (S0 411)) (S0 412 1) (S0 412 2))))) < (rzN (rzCut (S0 411)) (S0 412 1) (rzN (rzCut (S0 411)) (S0 412 1) (rzN (rzCut (S0 411)) (S0 412 1) (rzN (rzCut (S0 411)) (S0 412 1) (rzN (rzCut (S0 411)) (S0 412 1) (S0 412 2))))))
def rxmRPCK_23 (S0 : Nat → Int → Int) (ws : List Int) (S : Nat → Int → Int) (st cu hu : Int) : Nat := rxmRPC_23 S0 ws S st cu hu
def rxzRPCK_23 : rx_Z := ([(0, 0), (0, 0), (0, 0), (0, 0), (0, 0), (0, 0), (0, 0), (0, 0), (0, 6), (0, 6), (0, 1)], [], [(((0, 412), 0), .inr (3, (0, 411))), (((0, 412), 6), .inr (3, (0, 427)))], 0, 0, 131, [(0, .inr (3, (0, 412))), (1, .inr (0, (8, 0))), (2, .inr (0, (9, 0))), (3, .inr (0, (10, 0)))], [.inr (3, (0, 529)), .inr (3, (0, 412))])
def rxIRPCK_24 (S0 : Nat → Int → Int) (ws : List Int) (S : Nat → Int → Int) (st cu hu r : Int) : Prop := rxIRPC_24 S0 ws S st cu hu r ∧ (rkPr S0 → ∃ (d : rkC) (r : rzR), rkEx (rzCut (S0 411)) (S0 412 1) (rzWs S0) 0 (rzN (rzCut (S0 411)) (S0 412 1) (rzN (rzCut (S0 411)) (S0 412 1) (rzN (rzCut (S0 411)) (S0 412 1) (rzN (rzCut (S0 411)) (S0 412 1) (rzN (rzCut (S0 411)) (S0 412 1) (S0 412 2)))))) (S0 412 7) d ∧ rzEx (rzCut (S0 411)) (S0 412 1) (rzWs S0) 0 (rzN (rzCut (S0 411)) (S0 412 1) (rzN (rzCut (S0 411)) (S0 412 1) (rzN (rzCut (S0 411)) (S0 412 1) (rzN (rzCut (S0 411)) (S0 412 1) (rzN (rzCut (S0 411)) (S0 412 1) (S0 412 2)))))) (S0 412 7) r ∧ S 412 2 = r.2.1 ∧ S 412 7 = r.2.2 ∧ rkCw S0 S (3, st, cu, some d, none, none)) ∧ st = rzPv (rzCut (S0 411)) (S0 412 1) (rzN (rzCut (S0 411)) (S0 412 1) (S0 412 2)) ∧ cu = rzPv (rzCut (S0 411)) (S0 412 1) (rzN (rzCut (S0 411)) (S0 412 1) (rzN (rzCut (S0 411)) (S0 412 1) (rzN (rzCut (S0 411)) (S0 412 1) (S0 412 2)))) ∧ hu = 0 ∧ rzIs (rzCut (S0 411)) (S0 412 1) rzW_hush (rzN (rzCut (S0 411)) (S0 412 1) (rzN (rzCut (S0 411)) (S0 412 1) (rzN (rzCut (S0 411)) (S0 412 1) (rzN (rzCut (S0 411)) (S0 412 1) (S0 412 2))))) = false ∧ (rzN (rzCut (S0 411)) (S0 412 1) (rzN (rzCut (S0 411)) (S0 412 1) (rzN (rzCut (S0 411)) (S0 412 1) (rzN (rzCut (S0 411)) (S0 412 1) (S0 412 2))))) < (rzN (rzCut (S0 411)) (S0 412 1) (rzN (rzCut (S0 411)) (S0 412 1) (rzN (rzCut (S0 411)) (S0 412 1) (rzN (rzCut (S0 411)) (S0 412 1) (rzN (rzCut (S0 411)) (S0 412 1) (S0 412 2))))))
def rxmRPCK_24 (S0 : Nat → Int → Int) (ws : List Int) (S : Nat → Int → Int) (st cu hu r : Int) : Nat := rxmRPC_24 S0 ws S st cu hu r
def rxzRPCK_24 : rx_Z := ([(0, 0), (0, 0), (0, 0), (0, 0), (0, 0), (0, 0), (0, 0), (0, 0), (0, 6), (0, 6), (0, 1), (0, 1)], [], [(((0, 412), 0), .inr (3, (0, 411))), (((0, 412), 6), .inr (3, (0, 427)))], 0, 0, 134, [(0, .inr (3, (0, 412))), (1, .inr (0, (8, 0))), (2, .inr (0, (9, 0))), (3, .inr (0, (10, 0)))], [.inr (0, (11, 0))])
def rxIRPCK_25 (S0 : Nat → Int → Int) (ws : List Int) (S : Nat → Int → Int) (st cu hu : Int) : Prop := rxIRPC_25 S0 ws S st cu hu ∧ (rkPr S0 → ∃ (d : rkC) (r : rzR), rkEx (rzCut (S0 411)) (S0 412 1) (rzWs S0) 0 (rzN (rzCut (S0 411)) (S0 412 1) (rzN (rzCut (S0 411)) (S0 412 1) (rzN (rzCut (S0 411)) (S0 412 1) (rzN (rzCut (S0 411)) (S0 412 1) (rzN (rzCut (S0 411)) (S0 412 1) (S0 412 2)))))) (S0 412 7) d ∧ rzEx (rzCut (S0 411)) (S0 412 1) (rzWs S0) 0 (rzN (rzCut (S0 411)) (S0 412 1) (rzN (rzCut (S0 411)) (S0 412 1) (rzN (rzCut (S0 411)) (S0 412 1) (rzN (rzCut (S0 411)) (S0 412 1) (rzN (rzCut (S0 411)) (S0 412 1) (S0 412 2)))))) (S0 412 7) r ∧ S 412 2 = r.2.1 ∧ S 412 7 = r.2.2 ∧ rkCw S0 S (3, st, cu, some d, none, none) ∧ rzIs (rzCut (S0 411)) (S0 412 1) rzW_go r.2.1 = true) ∧ st = rzPv (rzCut (S0 411)) (S0 412 1) (rzN (rzCut (S0 411)) (S0 412 1) (S0 412 2)) ∧ cu = rzPv (rzCut (S0 411)) (S0 412 1) (rzN (rzCut (S0 411)) (S0 412 1) (rzN (rzCut (S0 411)) (S0 412 1) (rzN (rzCut (S0 411)) (S0 412 1) (S0 412 2)))) ∧ hu = 0 ∧ rzIs (rzCut (S0 411)) (S0 412 1) rzW_hush (rzN (rzCut (S0 411)) (S0 412 1) (rzN (rzCut (S0 411)) (S0 412 1) (rzN (rzCut (S0 411)) (S0 412 1) (rzN (rzCut (S0 411)) (S0 412 1) (S0 412 2))))) = false ∧ (rzN (rzCut (S0 411)) (S0 412 1) (rzN (rzCut (S0 411)) (S0 412 1) (rzN (rzCut (S0 411)) (S0 412 1) (rzN (rzCut (S0 411)) (S0 412 1) (S0 412 2))))) < (rzN (rzCut (S0 411)) (S0 412 1) (rzN (rzCut (S0 411)) (S0 412 1) (rzN (rzCut (S0 411)) (S0 412 1) (rzN (rzCut (S0 411)) (S0 412 1) (rzN (rzCut (S0 411)) (S0 412 1) (S0 412 2))))))
def rxmRPCK_25 (S0 : Nat → Int → Int) (ws : List Int) (S : Nat → Int → Int) (st cu hu : Int) : Nat := rxmRPC_25 S0 ws S st cu hu
def rxzRPCK_25 : rx_Z := ([(0, 0), (0, 0), (0, 0), (0, 0), (0, 0), (0, 0), (0, 0), (0, 0), (0, 6), (0, 6), (0, 1)], [], [(((0, 412), 0), .inr (3, (0, 411))), (((0, 412), 6), .inr (3, (0, 427)))], 0, 0, 140, [(0, .inr (3, (0, 412))), (1, .inr (0, (8, 0))), (2, .inr (0, (9, 0))), (3, .inr (0, (10, 0)))], [.inr (3, (0, 412))])
def rxIRPCK_26 (S0 : Nat → Int → Int) (ws : List Int) (S : Nat → Int → Int) (st cu hu : Int) : Prop := rxIRPC_26 S0 ws S st cu hu ∧ (rkPr S0 → ∃ (d : rkC) (r : rzR), rkEx (rzCut (S0 411)) (S0 412 1) (rzWs S0) 0 (rzN (rzCut (S0 411)) (S0 412 1) (rzN (rzCut (S0 411)) (S0 412 1) (rzN (rzCut (S0 411)) (S0 412 1) (rzN (rzCut (S0 411)) (S0 412 1) (rzN (rzCut (S0 411)) (S0 412 1) (S0 412 2)))))) (S0 412 7) d ∧ rzEx (rzCut (S0 411)) (S0 412 1) (rzWs S0) 0 (rzN (rzCut (S0 411)) (S0 412 1) (rzN (rzCut (S0 411)) (S0 412 1) (rzN (rzCut (S0 411)) (S0 412 1) (rzN (rzCut (S0 411)) (S0 412 1) (rzN (rzCut (S0 411)) (S0 412 1) (S0 412 2)))))) (S0 412 7) r ∧ S 412 2 = (rzN (rzCut (S0 411)) (S0 412 1) r.2.1) ∧ S 412 7 = r.2.2 ∧ rkCw S0 S (3, st, cu, some d, none, none) ∧ rzIs (rzCut (S0 411)) (S0 412 1) rzW_go r.2.1 = true ∧ S 427 0 + 1 ≤ S 412 2) ∧ st = rzPv (rzCut (S0 411)) (S0 412 1) (rzN (rzCut (S0 411)) (S0 412 1) (S0 412 2)) ∧ cu = rzPv (rzCut (S0 411)) (S0 412 1) (rzN (rzCut (S0 411)) (S0 412 1) (rzN (rzCut (S0 411)) (S0 412 1) (rzN (rzCut (S0 411)) (S0 412 1) (S0 412 2)))) ∧ hu = 0 ∧ rzIs (rzCut (S0 411)) (S0 412 1) rzW_hush (rzN (rzCut (S0 411)) (S0 412 1) (rzN (rzCut (S0 411)) (S0 412 1) (rzN (rzCut (S0 411)) (S0 412 1) (rzN (rzCut (S0 411)) (S0 412 1) (S0 412 2))))) = false ∧ (rzN (rzCut (S0 411)) (S0 412 1) (rzN (rzCut (S0 411)) (S0 412 1) (rzN (rzCut (S0 411)) (S0 412 1) (rzN (rzCut (S0 411)) (S0 412 1) (S0 412 2))))) < (rzN (rzCut (S0 411)) (S0 412 1) (rzN (rzCut (S0 411)) (S0 412 1) (rzN (rzCut (S0 411)) (S0 412 1) (rzN (rzCut (S0 411)) (S0 412 1) (rzN (rzCut (S0 411)) (S0 412 1) (S0 412 2))))))
def rxmRPCK_26 (S0 : Nat → Int → Int) (ws : List Int) (S : Nat → Int → Int) (st cu hu : Int) : Nat := rxmRPC_26 S0 ws S st cu hu
def rxzRPCK_26 : rx_Z := ([(0, 0), (0, 0), (0, 0), (0, 0), (0, 0), (0, 0), (0, 0), (0, 0), (0, 6), (0, 6), (0, 1)], [], [(((0, 412), 0), .inr (3, (0, 411))), (((0, 412), 6), .inr (3, (0, 427)))], 0, 0, 143, [(0, .inr (3, (0, 412))), (1, .inr (0, (8, 0))), (2, .inr (0, (9, 0))), (3, .inr (0, (10, 0)))], [])
def rxIRPCK_27 (S0 : Nat → Int → Int) (ws : List Int) (S : Nat → Int → Int) (st cu hu sa : Int) : Prop := rxIRPC_27 S0 ws S st cu hu sa ∧ (rkPr S0 → ∃ (d : rkC) (r : rzR), rkEx (rzCut (S0 411)) (S0 412 1) (rzWs S0) 0 (rzN (rzCut (S0 411)) (S0 412 1) (rzN (rzCut (S0 411)) (S0 412 1) (rzN (rzCut (S0 411)) (S0 412 1) (rzN (rzCut (S0 411)) (S0 412 1) (rzN (rzCut (S0 411)) (S0 412 1) (S0 412 2)))))) (S0 412 7) d ∧ rzEx (rzCut (S0 411)) (S0 412 1) (rzWs S0) 0 (rzN (rzCut (S0 411)) (S0 412 1) (rzN (rzCut (S0 411)) (S0 412 1) (rzN (rzCut (S0 411)) (S0 412 1) (rzN (rzCut (S0 411)) (S0 412 1) (rzN (rzCut (S0 411)) (S0 412 1) (S0 412 2)))))) (S0 412 7) r ∧ S 412 2 = (rzN (rzCut (S0 411)) (S0 412 1) r.2.1) ∧ S 412 7 = r.2.2 ∧ rkCw S0 S (3, st, cu, some d, none, none) ∧ rzIs (rzCut (S0 411)) (S0 412 1) rzW_go r.2.1 = true ∧ S 427 0 + 1 ≤ S 412 2 ∧ sa = 435) ∧ st = rzPv (rzCut (S0 411)) (S0 412 1) (rzN (rzCut (S0 411)) (S0 412 1) (S0 412 2)) ∧ cu = rzPv (rzCut (S0 411)) (S0 412 1) (rzN (rzCut (S0 411)) (S0 412 1) (rzN (rzCut (S0 411)) (S0 412 1) (rzN (rzCut (S0 411)) (S0 412 1) (S0 412 2)))) ∧ hu = 0 ∧ rzIs (rzCut (S0 411)) (S0 412 1) rzW_hush (rzN (rzCut (S0 411)) (S0 412 1) (rzN (rzCut (S0 411)) (S0 412 1) (rzN (rzCut (S0 411)) (S0 412 1) (rzN (rzCut (S0 411)) (S0 412 1) (S0 412 2))))) = false ∧ (rzN (rzCut (S0 411)) (S0 412 1) (rzN (rzCut (S0 411)) (S0 412 1) (rzN (rzCut (S0 411)) (S0 412 1) (rzN (rzCut (S0 411)) (S0 412 1) (S0 412 2))))) < (rzN (rzCut (S0 411)) (S0 412 1) (rzN (rzCut (S0 411)) (S0 412 1) (rzN (rzCut (S0 411)) (S0 412 1) (rzN (rzCut (S0 411)) (S0 412 1) (rzN (rzCut (S0 411)) (S0 412 1) (S0 412 2))))))
def rxmRPCK_27 (S0 : Nat → Int → Int) (ws : List Int) (S : Nat → Int → Int) (st cu hu sa : Int) : Nat := rxmRPC_27 S0 ws S st cu hu sa
def rxzRPCK_27 : rx_Z := ([(0, 0), (0, 0), (0, 0), (0, 0), (0, 0), (0, 0), (0, 0), (0, 0), (0, 6), (0, 6), (0, 1), (0, 1522)], [], [(((11, 0), 1000014), .inl none), (((0, 412), 0), .inr (3, (0, 411))), (((0, 412), 6), .inr (3, (0, 427)))], 0, 0, 152, [(0, .inr (3, (0, 412))), (1, .inr (0, (8, 0))), (2, .inr (0, (9, 0))), (3, .inr (0, (10, 0)))], [.inr (0, (0, 0)), .inr (3, (11, 0)), .inr (3, (0, 412))])
def rxIRPCK_28 (S0 : Nat → Int → Int) (ws : List Int) (S : Nat → Int → Int) (st cu hu sa res : Int) : Prop := rxIRPC_28 S0 ws S st cu hu sa res ∧ (res = 1 → rkHo (rkPH (rzCut (S0 411)) (S0 412 1) (rzWs S0) (S0 412 2) (S0 412 7)) S0 S)
def rxmRPCK_28 (S0 : Nat → Int → Int) (ws : List Int) (S : Nat → Int → Int) (st cu hu sa res : Int) : Nat := rxmRPC_28 S0 ws S st cu hu sa res
def rxzRPCK_28 : rx_Z := ([(0, 0), (0, 0), (0, 0), (0, 0), (0, 0), (0, 0), (0, 0), (0, 0), (0, 6), (0, 6), (0, 1), (0, 1522), (0, 1)], [], [(((11, 0), 1000014), .inl none), (((0, 412), 0), .inr (3, (0, 411))), (((0, 412), 6), .inr (3, (0, 427)))], 0, 0, 155, [(0, .inr (3, (0, 412))), (1, .inr (0, (8, 0))), (2, .inr (0, (9, 0))), (3, .inr (0, (10, 0)))], [.inr (0, (12, 0))])
def rxoRPCK_0_0 : bx_HO := (([(0, 0), (0, 0), (0, 0), (0, 0), (0, 0), (0, 0), (0, 0), (0, 0)], [], [(((0, 412), 6), .inr (3, (0, 427))), (((0, 412), 0), .inr (3, (0, 411)))], 0, 0, 3, [(0, .inr (3, (0, 412)))], [.inr (3, (0, 533)), .inr (3, (0, 412))]), [], [], [(0, 0), (0, 0), (0, 0), (0, 0), (0, 0), (0, 0), (0, 0), (0, 0)], 1)
def rxoRPCK_2_0 : bx_HO := (([(0, 0), (0, 0), (0, 0), (0, 0), (0, 0), (0, 0), (0, 0), (0, 0), (1, 1)], [(3, (8, 0), (0, 0))], [(((0, 412), 0), .inr (3, (0, 411))), (((0, 412), 6), .inr (3, (0, 427)))], 0, 0, 12, [(0, .inr (3, (0, 412)))], [.inr (3, (0, 412))]), [], [], [(0, 0), (0, 0), (0, 0), (0, 0), (0, 0), (0, 0), (0, 0), (0, 0)], 3)
def rxeRPCK_2_0 : rx_End × List (Nat × Int × Int) := (([(0, 0), (0, 0), (0, 0), (0, 0), (0, 0), (0, 0), (0, 0), (0, 0), (0, 0)], [], [(((0, 412), 0), .inr (3, (0, 411))), (((0, 412), 6), .inr (3, (0, 427)))], some (.inr (0, (0, 0)))), [])
def rxoRPCK_4_0 : bx_HO := (([(0, 0), (0, 0), (0, 0), (0, 0), (0, 0), (0, 0), (0, 0), (0, 0), (0, 6)], [], [(((0, 412), 0), .inr (3, (0, 411))), (((0, 412), 6), .inr (3, (0, 427)))], 0, 0, 26, [(1, .inr (0, (8, 0))), (0, .inr (3, (0, 412)))], [.inr (3, (0, 412))]), [], [], [(0, 0), (0, 0), (0, 0), (0, 0), (0, 0), (0, 0), (0, 0), (0, 0), (8, 0)], 5)
def rxeRPCK_4_0 : rx_End × List (Nat × Int × Int) := (([(0, 0), (0, 0), (0, 0), (0, 0), (0, 0), (0, 0), (0, 0), (0, 0), ((-2147483648), (-1)), (0, 400)], [], [(((0, 0), 1851192626986356798227167157524121751206303872841384192011665411000000), .inr (0, (9, 0))), (((0, 412), 4), .inr (0, (9, 0))), (((0, 0), 1851192626986356797825753743950570534658660943933713684904017920000000), .inr (0, (9, 0))), (((0, 412), 2), .inr (0, (9, 0))), (((0, 412), 0), .inr (3, (0, 411))), (((0, 412), 6), .inr (3, (0, 427)))], some (.inr (0, (0, 0)))), [])
def rxoRPCK_6_0 : bx_HO := (([(0, 0), (0, 0), (0, 0), (0, 0), (0, 0), (0, 0), (0, 0), (0, 0), (0, 6)], [], [(((0, 412), 0), .inr (3, (0, 411))), (((0, 412), 6), .inr (3, (0, 427)))], 0, 0, 32, [(0, .inr (3, (0, 412))), (1, .inr (0, (8, 0)))], [.inr (3, (0, 524)), .inr (3, (0, 412))]), [], [], [(0, 0), (0, 0), (0, 0), (0, 0), (0, 0), (0, 0), (0, 0), (0, 0), (8, 0)], 7)
def rxoRPCK_8_0 : bx_HO := (([(0, 0), (0, 0), (0, 0), (0, 0), (0, 0), (0, 0), (0, 0), (0, 0), (0, 6), (1, 1)], [(3, (9, 0), (0, 0))], [(((0, 412), 0), .inr (3, (0, 411))), (((0, 412), 6), .inr (3, (0, 427)))], 0, 0, 41, [(0, .inr (3, (0, 412))), (1, .inr (0, (8, 0)))], [.inr (3, (0, 412))]), [], [], [(0, 0), (0, 0), (0, 0), (0, 0), (0, 0), (0, 0), (0, 0), (0, 0), (8, 0)], 9)
def rxeRPCK_8_0 : rx_End × List (Nat × Int × Int) := (([(0, 0), (0, 0), (0, 0), (0, 0), (0, 0), (0, 0), (0, 0), (0, 0), (0, 6), (0, 0)], [], [(((0, 412), 0), .inr (3, (0, 411))), (((0, 412), 6), .inr (3, (0, 427)))], some (.inr (0, (0, 0)))), [])
def rxoRPCK_10_0 : bx_HO := (([(0, 0), (0, 0), (0, 0), (0, 0), (0, 0), (0, 0), (0, 0), (0, 0), (0, 6), (0, 6)], [], [(((0, 412), 0), .inr (3, (0, 411))), (((0, 412), 6), .inr (3, (0, 427)))], 0, 0, 55, [(2, .inr (0, (9, 0))), (0, .inr (3, (0, 412))), (1, .inr (0, (8, 0)))], [.inr (3, (0, 412))]), [], [], [(0, 0), (0, 0), (0, 0), (0, 0), (0, 0), (0, 0), (0, 0), (0, 0), (8, 0), (9, 0)], 11)
def rxeRPCK_10_0 : rx_End × List (Nat × Int × Int) := (([(0, 0), (0, 0), (0, 0), (0, 0), (0, 0), (0, 0), (0, 0), (0, 0), (0, 6), ((-2147483648), (-1)), (0, 400)], [], [(((0, 0), 1851192626986356798227167157524121751206303872841384192011665411000000), .inr (0, (10, 0))), (((0, 412), 4), .inr (0, (10, 0))), (((0, 0), 1851192626986356797825753743950570534658660943933713684904017920000000), .inr (0, (10, 0))), (((0, 412), 2), .inr (0, (10, 0))), (((0, 412), 0), .inr (3, (0, 411))), (((0, 412), 6), .inr (3, (0, 427)))], some (.inr (0, (0, 0)))), [])
def rxoRPCK_12_0 : bx_HO := (([(0, 0), (0, 0), (0, 0), (0, 0), (0, 0), (0, 0), (0, 0), (0, 0), (0, 6), (0, 6)], [], [(((0, 412), 0), .inr (3, (0, 411))), (((0, 412), 6), .inr (3, (0, 427)))], 0, 0, 61, [(0, .inr (3, (0, 412))), (1, .inr (0, (8, 0))), (2, .inr (0, (9, 0)))], [.inr (3, (0, 531)), .inr (3, (0, 412))]), [], [], [(0, 0), (0, 0), (0, 0), (0, 0), (0, 0), (0, 0), (0, 0), (0, 0), (8, 0), (9, 0)], 13)
def rxoRPCK_14_0 : bx_HO := (([(0, 0), (0, 0), (0, 0), (0, 0), (0, 0), (0, 0), (0, 0), (0, 0), (0, 6), (0, 6), (0, 0)], [], [(((0, 412), 0), .inr (3, (0, 411))), (((0, 412), 6), .inr (3, (0, 427)))], 0, 0, 72, [(3, .inr (0, (10, 0))), (0, .inr (3, (0, 412))), (1, .inr (0, (8, 0))), (2, .inr (0, (9, 0)))], [.inr (3, (0, 541)), .inr (3, (0, 412))]), [], [], [(0, 0), (0, 0), (0, 0), (0, 0), (0, 0), (0, 0), (0, 0), (0, 0), (8, 0), (9, 0), (10, 0)], 15)
def rxoRPCK_14_1 : bx_HO := (([(0, 0), (0, 0), (0, 0), (0, 0), (0, 0), (0, 0), (0, 0), (0, 0), (0, 6), (0, 6), (1, 1)], [(3, (10, 0), (0, 0))], [(((0, 412), 0), .inr (3, (0, 411))), (((0, 412), 6), .inr (3, (0, 427)))], 0, 0, 84, [(3, .inr (0, (10, 0))), (0, .inr (3, (0, 412))), (1, .inr (0, (8, 0))), (2, .inr (0, (9, 0)))], [.inr (3, (0, 412))]), [], [], [(0, 0), (0, 0), (0, 0), (0, 0), (0, 0), (0, 0), (0, 0), (0, 0), (8, 0), (9, 0), (10, 0)], 17)
def rxoRPCK_16_0 : bx_HO := (([(0, 0), (0, 0), (0, 0), (0, 0), (0, 0), (0, 0), (0, 0), (0, 0), (0, 6), (0, 6), (0, 1), (1, 1)], [(3, (11, 0), (0, 0))], [(((0, 412), 0), .inr (3, (0, 411))), (((0, 412), 6), .inr (3, (0, 427)))], 0, 0, 84, [(0, .inr (3, (0, 412))), (1, .inr (0, (8, 0))), (2, .inr (0, (9, 0))), (3, .inr (0, (10, 0)))], [.inr (3, (0, 412))]), [], [], [(0, 0), (0, 0), (0, 0), (0, 0), (0, 0), (0, 0), (0, 0), (0, 0), (8, 0), (9, 0), (10, 0)], 17)
def rxeRPCK_16_0 : rx_End × List (Nat × Int × Int) := (([(0, 0), (0, 0), (0, 0), (0, 0), (0, 0), (0, 0), (0, 0), (0, 0), (0, 6), (0, 6), (0, 1), (0, 0), (0, 400)], [], [(((0, 0), 1851192626986356798227167157524121751206303872841384192011665411000000), .inr (0, (12, 0))), (((0, 412), 4), .inr (0, (12, 0))), (((0, 0), 1851192626986356797825753743950570534658660943933713684904017920000000), .inr (0, (12, 0))), (((0, 412), 2), .inr (0, (12, 0))), (((0, 412), 0), .inr (3, (0, 411))), (((0, 412), 6), .inr (3, (0, 427)))], some (.inr (0, (0, 0)))), [])
def rxoRPCK_18_0 : bx_HO := (([(0, 0), (0, 0), (0, 0), (0, 0), (0, 0), (0, 0), (0, 0), (0, 0), (0, 6), (0, 6), (1, 1)], [(3, (10, 0), (0, 0))], [(((0, 412), 0), .inr (3, (0, 411))), (((0, 412), 6), .inr (3, (0, 427)))], 0, 0, 102, [(0, .inr (3, (0, 412))), (1, .inr (0, (8, 0))), (2, .inr (0, (9, 0))), (3, .inr (0, (10, 0)))], [.inr (0, (9, 0)), .inr (0, (8, 0)), .inr (0, (0, 4)), .inr (3, (0, 427))]), [], [], [(0, 0), (0, 0), (0, 0), (0, 0), (0, 0), (0, 0), (0, 0), (0, 0), (8, 0), (9, 0), (10, 0), (0, 4)], 19)
def rxoRPCK_18_1 : bx_HO := (([(0, 0), (0, 0), (0, 0), (0, 0), (0, 0), (0, 0), (0, 0), (0, 0), (0, 6), (0, 6), (0, 0)], [], [(((0, 412), 0), .inr (3, (0, 411))), (((0, 412), 6), .inr (3, (0, 427)))], 0, 0, 102, [(0, .inr (3, (0, 412))), (1, .inr (0, (8, 0))), (2, .inr (0, (9, 0))), (3, .inr (0, (10, 0)))], [.inr (0, (9, 0)), .inr (0, (8, 0)), .inr (0, (0, 3)), .inr (3, (0, 427))]), [], [], [(0, 0), (0, 0), (0, 0), (0, 0), (0, 0), (0, 0), (0, 0), (0, 0), (8, 0), (9, 0), (10, 0), (0, 3)], 19)
def rxoRPCK_20_0 : bx_HO := (([(0, 0), (0, 0), (0, 0), (0, 0), (0, 0), (0, 0), (0, 0), (0, 0), (0, 6), (0, 6), (0, 0), (0, 4), (0, 1522)], [], [(((0, 0), 1851192626986356799029993984671224184301589730656725206235807744000000), .inr (3, (12, 0))), (((0, 427), 8), .inr (3, (12, 0))), (((12, 0), 1000014), .inl none), (((0, 412), 0), .inr (3, (0, 411))), (((0, 412), 6), .inr (3, (0, 427)))], 0, 0, 120, [(0, .inr (3, (0, 412))), (1, .inr (0, (8, 0))), (2, .inr (0, (9, 0))), (3, .inr (0, (10, 0)))], [.inr (0, (0, 0)), .inr (3, (12, 0)), .inr (3, (0, 412))]), [], [], [(0, 0), (0, 0), (0, 0), (0, 0), (0, 0), (0, 0), (0, 0), (0, 0), (8, 0), (9, 0), (10, 0), (12, 0)], 21)
def rxeRPCK_20_0 : rx_End × List (Nat × Int × Int) := (([(0, 0), (0, 0), (0, 0), (0, 0), (0, 0), (0, 0), (0, 0), (0, 0), (0, 6), (0, 6), (1, 1), (0, 4)], [(3, (10, 0), (0, 0))], [(((0, 412), 0), .inr (3, (0, 411))), (((0, 412), 6), .inr (3, (0, 427)))], some (.inr (0, (0, 1)))), [])
def rxoRPCK_22_0 : bx_HO := (([(0, 0), (0, 0), (0, 0), (0, 0), (0, 0), (0, 0), (0, 0), (0, 0), (0, 6), (0, 6), (0, 1), (0, 1522), (1, 1)], [(3, (12, 0), (0, 0))], [(((11, 0), 1000014), .inl none), (((0, 412), 0), .inr (3, (0, 411))), (((0, 412), 6), .inr (3, (0, 427)))], 0, 0, 131, [(0, .inr (3, (0, 412))), (1, .inr (0, (8, 0))), (2, .inr (0, (9, 0))), (3, .inr (0, (10, 0)))], [.inr (3, (0, 529)), .inr (3, (0, 412))]), [], [], [(0, 0), (0, 0), (0, 0), (0, 0), (0, 0), (0, 0), (0, 0), (0, 0), (8, 0), (9, 0), (10, 0)], 23)
def rxeRPCK_22_0 : rx_End × List (Nat × Int × Int) := (([(0, 0), (0, 0), (0, 0), (0, 0), (0, 0), (0, 0), (0, 0), (0, 0), (0, 6), (0, 6), (0, 1), (0, 1522), (0, 0)], [], [(((11, 0), 1000014), .inl none), (((0, 412), 0), .inr (3, (0, 411))), (((0, 412), 6), .inr (3, (0, 427)))], some (.inr (0, (0, 0)))), [])
def rxoRPCK_24_0 : bx_HO := (([(0, 0), (0, 0), (0, 0), (0, 0), (0, 0), (0, 0), (0, 0), (0, 0), (0, 6), (0, 6), (0, 1), (1, 1)], [(3, (11, 0), (0, 0))], [(((0, 412), 0), .inr (3, (0, 411))), (((0, 412), 6), .inr (3, (0, 427)))], 0, 0, 140, [(0, .inr (3, (0, 412))), (1, .inr (0, (8, 0))), (2, .inr (0, (9, 0))), (3, .inr (0, (10, 0)))], [.inr (3, (0, 412))]), [], [], [(0, 0), (0, 0), (0, 0), (0, 0), (0, 0), (0, 0), (0, 0), (0, 0), (8, 0), (9, 0), (10, 0)], 25)
def rxeRPCK_24_0 : rx_End × List (Nat × Int × Int) := (([(0, 0), (0, 0), (0, 0), (0, 0), (0, 0), (0, 0), (0, 0), (0, 0), (0, 6), (0, 6), (0, 1), (0, 0)], [], [(((0, 412), 0), .inr (3, (0, 411))), (((0, 412), 6), .inr (3, (0, 427)))], some (.inr (0, (0, 1)))), [])
def rxoRPCK_26_0 : bx_HO := (([(0, 0), (0, 0), (0, 0), (0, 0), (0, 0), (0, 0), (0, 0), (0, 0), (0, 6), (0, 6), (0, 1), (0, 1522)], [], [(((0, 0), 1851192626986356799230700691457999792575411195110560459789631488000000), .inr (3, (11, 0))), (((0, 427), 9), .inr (3, (11, 0))), (((11, 0), 1000014), .inl none), (((0, 412), 0), .inr (3, (0, 411))), (((0, 412), 6), .inr (3, (0, 427)))], 0, 0, 152, [(0, .inr (3, (0, 412))), (1, .inr (0, (8, 0))), (2, .inr (0, (9, 0))), (3, .inr (0, (10, 0)))], [.inr (0, (0, 0)), .inr (3, (11, 0)), .inr (3, (0, 412))]), [], [], [(0, 0), (0, 0), (0, 0), (0, 0), (0, 0), (0, 0), (0, 0), (0, 0), (8, 0), (9, 0), (10, 0), (11, 0)], 27)
def rxeRPCK_28_0 : rx_End × List (Nat × Int × Int) := (([(0, 0), (0, 0), (0, 0), (0, 0), (0, 0), (0, 0), (0, 0), (0, 0), (0, 6), (0, 6), (0, 1), (0, 1522), (0, 1)], [], [(((11, 0), 1000014), .inl none), (((0, 412), 0), .inr (3, (0, 411))), (((0, 412), 6), .inr (3, (0, 427)))], some (.inr (0, (12, 0)))), [])
def rxYRPCK : List bx_HE := [(rxzRPCK_0, [rxoRPCK_0_0], []), (rxzRPCK_1, [], []), (rxzRPCK_2, [rxoRPCK_2_0], [rxeRPCK_2_0]), (rxzRPCK_3, [], []), (rxzRPCK_4, [rxoRPCK_4_0], [rxeRPCK_4_0]), (rxzRPCK_5, [], []), (rxzRPCK_6, [rxoRPCK_6_0], []), (rxzRPCK_7, [], []), (rxzRPCK_8, [rxoRPCK_8_0], [rxeRPCK_8_0]), (rxzRPCK_9, [], []), (rxzRPCK_10, [rxoRPCK_10_0], [rxeRPCK_10_0]), (rxzRPCK_11, [], []), (rxzRPCK_12, [rxoRPCK_12_0], []), (rxzRPCK_13, [], []), (rxzRPCK_14, [rxoRPCK_14_0, rxoRPCK_14_1], []), (rxzRPCK_15, [], []), (rxzRPCK_16, [rxoRPCK_16_0], [rxeRPCK_16_0]), (rxzRPCK_17, [], []), (rxzRPCK_18, [rxoRPCK_18_0, rxoRPCK_18_1], []), (rxzRPCK_19, [], []), (rxzRPCK_20, [rxoRPCK_20_0], [rxeRPCK_20_0]), (rxzRPCK_21, [], []), (rxzRPCK_22, [rxoRPCK_22_0], [rxeRPCK_22_0]), (rxzRPCK_23, [], []), (rxzRPCK_24, [rxoRPCK_24_0], [rxeRPCK_24_0]), (rxzRPCK_25, [], []), (rxzRPCK_26, [rxoRPCK_26_0], []), (rxzRPCK_27, [], []), (rxzRPCK_28, [], [rxeRPCK_28_0])]
def rxURPCK (q : bx_HE) : Bool := Nat.beq (rx_zpc q.1) 3 || Nat.beq (rx_zpc q.1) 12 || Nat.beq (rx_zpc q.1) 26 || Nat.beq (rx_zpc q.1) 32 || Nat.beq (rx_zpc q.1) 41 || Nat.beq (rx_zpc q.1) 55 || Nat.beq (rx_zpc q.1) 61 || Nat.beq (rx_zpc q.1) 72 || Nat.beq (rx_zpc q.1) 84 || Nat.beq (rx_zpc q.1) 102 || Nat.beq (rx_zpc q.1) 120 || Nat.beq (rx_zpc q.1) 131 || Nat.beq (rx_zpc q.1) 140 || Nat.beq (rx_zpc q.1) 152
def rxYBRPCK : bx_B := (rxV, rxNP, rxDmf, bx_mdH rxCRPCK.2.2.1)
set_option maxRecDepth 100000 in
theorem rxYcRPCK : bx_chkH rxYBRPCK rxM85 rxCRPCK rxYRPCK (rxURPCK, fun cut z => rx_ex2 (rxCT rxYBRPCK rxCnE) cut 30000 rxCRPCK.2.2.2.1 85 z) = true := by decide +kernel
def rxIRPCK (S0 : Nat → Int → Int) (ws : List Int) (i : Nat) : bx_SP := fun S r => match i with | 0 => rxIRPCK_0 S0 ws S | 1 => rxIRPCK_1 S0 ws S | 2 => rxIRPCK_2 S0 ws S (r 8) | 3 => rxIRPCK_3 S0 ws S | 4 => rxIRPCK_4 S0 ws S (r 8) | 5 => rxIRPCK_5 S0 ws S (r 8) | 6 => rxIRPCK_6 S0 ws S (r 8) | 7 => rxIRPCK_7 S0 ws S (r 8) | 8 => rxIRPCK_8 S0 ws S (r 8) (r 9) | 9 => rxIRPCK_9 S0 ws S (r 8) | 10 => rxIRPCK_10 S0 ws S (r 8) (r 9) | 11 => rxIRPCK_11 S0 ws S (r 8) (r 9) | 12 => rxIRPCK_12 S0 ws S (r 8) (r 9) | 13 => rxIRPCK_13 S0 ws S (r 8) (r 9) | 14 => rxIRPCK_14 S0 ws S (r 8) (r 9) (r 10) | 15 => rxIRPCK_15 S0 ws S (r 8) (r 9) (r 10) | 16 => rxIRPCK_16 S0 ws S (r 8) (r 9) (r 10) (r 11) | 17 => rxIRPCK_17 S0 ws S (r 8) (r 9) (r 10) | 18 => rxIRPCK_18 S0 ws S (r 8) (r 9) (r 10) | 19 => rxIRPCK_19 S0 ws S (r 8) (r 9) (r 10) (r 11) | 20 => rxIRPCK_20 S0 ws S (r 8) (r 9) (r 10) (r 11) | 21 => rxIRPCK_21 S0 ws S (r 8) (r 9) (r 10) (r 11) | 22 => rxIRPCK_22 S0 ws S (r 8) (r 9) (r 10) (r 11) (r 12) | 23 => rxIRPCK_23 S0 ws S (r 8) (r 9) (r 10) | 24 => rxIRPCK_24 S0 ws S (r 8) (r 9) (r 10) (r 11) | 25 => rxIRPCK_25 S0 ws S (r 8) (r 9) (r 10) | 26 => rxIRPCK_26 S0 ws S (r 8) (r 9) (r 10) | 27 => rxIRPCK_27 S0 ws S (r 8) (r 9) (r 10) (r 11) | 28 => rxIRPCK_28 S0 ws S (r 8) (r 9) (r 10) (r 11) (r 12) | _ => False
def rxmRPCK (S0 : Nat → Int → Int) (ws : List Int) (i : Nat) (S : Nat → Int → Int) (r : Nat → Int) : Nat := match i with | 0 => rxmRPCK_0 S0 ws S | 1 => rxmRPCK_1 S0 ws S | 2 => rxmRPCK_2 S0 ws S (r 8) | 3 => rxmRPCK_3 S0 ws S | 4 => rxmRPCK_4 S0 ws S (r 8) | 5 => rxmRPCK_5 S0 ws S (r 8) | 6 => rxmRPCK_6 S0 ws S (r 8) | 7 => rxmRPCK_7 S0 ws S (r 8) | 8 => rxmRPCK_8 S0 ws S (r 8) (r 9) | 9 => rxmRPCK_9 S0 ws S (r 8) | 10 => rxmRPCK_10 S0 ws S (r 8) (r 9) | 11 => rxmRPCK_11 S0 ws S (r 8) (r 9) | 12 => rxmRPCK_12 S0 ws S (r 8) (r 9) | 13 => rxmRPCK_13 S0 ws S (r 8) (r 9) | 14 => rxmRPCK_14 S0 ws S (r 8) (r 9) (r 10) | 15 => rxmRPCK_15 S0 ws S (r 8) (r 9) (r 10) | 16 => rxmRPCK_16 S0 ws S (r 8) (r 9) (r 10) (r 11) | 17 => rxmRPCK_17 S0 ws S (r 8) (r 9) (r 10) | 18 => rxmRPCK_18 S0 ws S (r 8) (r 9) (r 10) | 19 => rxmRPCK_19 S0 ws S (r 8) (r 9) (r 10) (r 11) | 20 => rxmRPCK_20 S0 ws S (r 8) (r 9) (r 10) (r 11) | 21 => rxmRPCK_21 S0 ws S (r 8) (r 9) (r 10) (r 11) | 22 => rxmRPCK_22 S0 ws S (r 8) (r 9) (r 10) (r 11) (r 12) | 23 => rxmRPCK_23 S0 ws S (r 8) (r 9) (r 10) | 24 => rxmRPCK_24 S0 ws S (r 8) (r 9) (r 10) (r 11) | 25 => rxmRPCK_25 S0 ws S (r 8) (r 9) (r 10) | 26 => rxmRPCK_26 S0 ws S (r 8) (r 9) (r 10) | 27 => rxmRPCK_27 S0 ws S (r 8) (r 9) (r 10) (r 11) | 28 => rxmRPCK_28 S0 ws S (r 8) (r 9) (r 10) (r 11) (r 12) | _ => 0
def rxPRPCK (S0 : Nat → Int → Int) (ws : List Int) : Prop := rxPRPC S0 ws
def rxPSRPCK (S0 : Nat → Int → Int) (ws : List Int) (S : Nat → Int → Int) (w : Option Int) : Prop := rxPSRPC S0 ws S w ∧ (w = some 1 → rkHo (rkPH (rzCut (S0 411)) (S0 412 1) (rzWs S0) (S0 412 2) (S0 412 7)) S0 S)
theorem rxkRPCK_1 {S0 : Nat → Int → Int} {ws : List Int} {S : Nat → Int → Int} (hP : rxPRPCK S0 ws) (hin : bx_same rxL (bx_mdl rxCRPCK.2.2.1) S0 S) (I0 : bx_Inv rxL S) (hinv : rxIRPCK_1 S0 ws S)  : rxPTKW S [412, 533] ∧ ∀ (S_p : Nat → Int → Int) (r : Int), 0 ≤ r → r ≤ 1 → rxPSTKW S [412, 533] S_p (some r) → bx_Inv rxL S_p → bx_same rxL (bx_mdl rxC90.2.2.1) S S_p → rxIRPCK_2 S0 ws S_p r ∧ rxmRPCK_2 S0 ws S_p r < rxmRPCK_1 S0 ws S := by
  obtain ⟨hI, hx⟩ := hinv
  have g_ := rxkRPC_1 hP hin I0 hI
  exact ⟨g_.1, fun S_p r l_ u_ hq I1 hsm => ⟨⟨(g_.2 S_p r l_ u_ hq I1 hsm).1, (by
    intro g_
    obtain ⟨k, hk, hq⟩ := hq
    rcases hq with ⟨b, e, d, e2, kp⟩ | ⟨b, e, e4⟩
    · obtain ⟨h1, h2, h3⟩ := hx
      have hA : rzKp S0 S := hI.1
      have g : rkTa S0 S_p (rzN (rzCut (S0 411)) (S0 412 1) (S0 412 2)) := ⟨by rw [e2, hA.1, hA.2.1, h1], (hsm 412 7 (by decide) (by decide) (by decide +kernel)).trans h2, rkPs_sm h3 hsm (by decide +kernel)⟩
      exact g
    · exfalso
      have := Option.some.inj e
      omega)⟩, (g_.2 S_p r l_ u_ hq I1 hsm).2⟩⟩
theorem rxsRPCK_1 {X : (Nat → Int → Int) → Prop} {S0 : Nat → Int → Int} {ws : List Int} (hP : rxPRPCK S0 ws) : rx_obK X S0 rxCRPCK.2.2.1 rxC90.2.2.1 (rxIRPCK S0 ws) (rxmRPCK S0 ws) 1 2 rxzRPCK_1 rxzRPCK_2 [.inr (3, (0, 412)), .inr (3, (0, 533))] (some 8) rxPTKW rxPSTKW := by
  intro S r hinv hXS I0 hin hs_ hf_
  have b_ := bx_bds_sat hs_
  have f_ := bx_fcl_ok hs_.1 hf_
  have g := rxkRPCK_1 hP hin I0 hinv 
  have ea : List.map (bx_num r) [.inr (3, (0, 412)), .inr (3, (0, 533))] = [412, 533] := by
    simp only [List.map_cons, List.map_nil, bx_xv_ok hs_.1]
    rfl
  rw [ea]
  refine ⟨g.1, fun S_p w r_p hPS hX_p I1 hsm hr hw hs_p => ?_⟩
  have hw := hw _ rfl
  subst hw
  have b_p := hs_p.2.2 8 _ _ rfl
  have g2 := g.2 S_p (r_p 8) b_p.1 b_p.2 hPS I1 hsm
  show rxIRPCK_2 S0 ws S_p (r_p 8) ∧ rxmRPCK_2 S0 ws S_p (r_p 8) < _
  exact g2
theorem rxkRPCK_3 {S0 : Nat → Int → Int} {ws : List Int} {S : Nat → Int → Int} (hP : rxPRPCK S0 ws) (hin : bx_same rxL (bx_mdl rxCRPCK.2.2.1) S0 S) (I0 : bx_Inv rxL S) (hinv : rxIRPCK_3 S0 ws S)  : rxPPLH S [412] ∧ ∀ (S_p : Nat → Int → Int) (pl : Int), (-2147483648) ≤ pl → pl ≤ 6 → rxPSPLH S [412] S_p (some pl) → bx_Inv rxL S_p → bx_same rxL (bx_mdl rxC91.2.2.1) S S_p → rxIRPCK_4 S0 ws S_p pl ∧ rxmRPCK_4 S0 ws S_p pl < rxmRPCK_3 S0 ws S := by
  obtain ⟨hI, hx⟩ := hinv
  have g_ := rxkRPC_3 hP hin I0 hI
  exact ⟨g_.1, fun S_p pl l_ u_ hq I1 hsm => ⟨⟨(g_.2 S_p pl l_ u_ hq I1 hsm).1, (by
    have e := hq.1
    subst e
    exact hx)⟩, (g_.2 S_p pl l_ u_ hq I1 hsm).2⟩⟩
theorem rxsRPCK_3 {X : (Nat → Int → Int) → Prop} {S0 : Nat → Int → Int} {ws : List Int} (hP : rxPRPCK S0 ws) : rx_obK X S0 rxCRPCK.2.2.1 rxC91.2.2.1 (rxIRPCK S0 ws) (rxmRPCK S0 ws) 3 4 rxzRPCK_3 rxzRPCK_4 [.inr (3, (0, 412))] (some 8) rxPPLH rxPSPLH := by
  intro S r hinv hXS I0 hin hs_ hf_
  have b_ := bx_bds_sat hs_
  have f_ := bx_fcl_ok hs_.1 hf_
  have g := rxkRPCK_3 hP hin I0 hinv 
  have ea : List.map (bx_num r) [.inr (3, (0, 412))] = [412] := by
    simp only [List.map_cons, List.map_nil, bx_xv_ok hs_.1]
    rfl
  rw [ea]
  refine ⟨g.1, fun S_p w r_p hPS hX_p I1 hsm hr hw hs_p => ?_⟩
  have hw := hw _ rfl
  subst hw
  have b_p := hs_p.2.2 8 _ _ rfl
  have g2 := g.2 S_p (r_p 8) b_p.1 b_p.2 hPS I1 hsm
  show rxIRPCK_4 S0 ws S_p (r_p 8) ∧ rxmRPCK_4 S0 ws S_p (r_p 8) < _
  exact g2
theorem rxkRPCK_5 {S0 : Nat → Int → Int} {ws : List Int} {S : Nat → Int → Int} {st : Int} (hP : rxPRPCK S0 ws) (hin : bx_same rxL (bx_mdl rxCRPCK.2.2.1) S0 S) (I0 : bx_Inv rxL S) (hinv : rxIRPCK_5 S0 ws S st) (l8 : 0 ≤ st) (u8 : st ≤ 6) : rxPAD S [412] ∧ ∀ (S_p : Nat → Int → Int), rxPSAD S [412] S_p none → bx_Inv rxL S_p → bx_same rxL (bx_mdl rxC84.2.2.1) S S_p → rxIRPCK_6 S0 ws S_p st ∧ rxmRPCK_6 S0 ws S_p st < rxmRPCK_5 S0 ws S st := by
  obtain ⟨hI, hx⟩ := hinv
  have g_ := rxkRPC_5 hP hin I0 hI l8 u8
  exact ⟨g_.1, fun S_p hq I1 hsm => ⟨⟨(g_.2 S_p hq I1 hsm).1, (by
    exact ⟨rkTa_ad hx.1 hI.1.1 hI.1.2.1 hsm (by decide +kernel) (by decide +kernel) hq.2.1, hx.2⟩)⟩, (g_.2 S_p hq I1 hsm).2⟩⟩
theorem rxsRPCK_5 {X : (Nat → Int → Int) → Prop} {S0 : Nat → Int → Int} {ws : List Int} (hP : rxPRPCK S0 ws) : rx_obK X S0 rxCRPCK.2.2.1 rxC84.2.2.1 (rxIRPCK S0 ws) (rxmRPCK S0 ws) 5 6 rxzRPCK_5 rxzRPCK_6 [.inr (3, (0, 412))] none rxPAD rxPSAD := by
  intro S r hinv hXS I0 hin hs_ hf_
  have b_ := bx_bds_sat hs_
  have f_ := bx_fcl_ok hs_.1 hf_
  obtain ⟨⟨l8, u8⟩, -⟩ := b_
  have g := rxkRPCK_5 hP hin I0 hinv l8 u8
  have ea : List.map (bx_num r) [.inr (3, (0, 412))] = [412] := by
    simp only [List.map_cons, List.map_nil, bx_xv_ok hs_.1]
    rfl
  rw [ea]
  refine ⟨g.1, fun S_p w r_p hPS hX_p I1 hsm hr hw hs_p => ?_⟩
  have hw : w = none := hPS.1
  subst hw
  have g2 := g.2 S_p hPS I1 hsm
  show rxIRPCK_6 S0 ws S_p (r_p 8) ∧ rxmRPCK_6 S0 ws S_p (r_p 8) < _
  rw [hr 8 (by decide)]
  exact g2
theorem rxkRPCK_7 {S0 : Nat → Int → Int} {ws : List Int} {S : Nat → Int → Int} {st : Int} (hP : rxPRPCK S0 ws) (hin : bx_same rxL (bx_mdl rxCRPCK.2.2.1) S0 S) (I0 : bx_Inv rxL S) (hinv : rxIRPCK_7 S0 ws S st) (l8 : 0 ≤ st) (u8 : st ≤ 6) : rxPTKW S [412, 524] ∧ ∀ (S_p : Nat → Int → Int) (r : Int), 0 ≤ r → r ≤ 1 → rxPSTKW S [412, 524] S_p (some r) → bx_Inv rxL S_p → bx_same rxL (bx_mdl rxC90.2.2.1) S S_p → rxIRPCK_8 S0 ws S_p st r ∧ rxmRPCK_8 S0 ws S_p st r < rxmRPCK_7 S0 ws S st := by
  obtain ⟨hI, hx⟩ := hinv
  have g_ := rxkRPC_7 hP hin I0 hI l8 u8
  exact ⟨g_.1, fun S_p r l_ u_ hq I1 hsm => ⟨⟨(g_.2 S_p r l_ u_ hq I1 hsm).1, (by
    intro g_
    obtain ⟨k, hk, hq⟩ := hq
    rcases hq with ⟨b, e, d, e2, kp⟩ | ⟨b, e, e4⟩
    · obtain ⟨h1, h2, h3⟩ := hx.1
      have hA : rzKp S0 S := hI.1
      have g : rkTa S0 S_p (rzN (rzCut (S0 411)) (S0 412 1) (rzN (rzCut (S0 411)) (S0 412 1) (rzN (rzCut (S0 411)) (S0 412 1) (S0 412 2)))) := ⟨by rw [e2, hA.1, hA.2.1, h1], (hsm 412 7 (by decide) (by decide) (by decide +kernel)).trans h2, rkPs_sm h3 hsm (by decide +kernel)⟩
      exact ⟨g, hx.2⟩
    · exfalso
      have := Option.some.inj e
      omega)⟩, (g_.2 S_p r l_ u_ hq I1 hsm).2⟩⟩
theorem rxsRPCK_7 {X : (Nat → Int → Int) → Prop} {S0 : Nat → Int → Int} {ws : List Int} (hP : rxPRPCK S0 ws) : rx_obK X S0 rxCRPCK.2.2.1 rxC90.2.2.1 (rxIRPCK S0 ws) (rxmRPCK S0 ws) 7 8 rxzRPCK_7 rxzRPCK_8 [.inr (3, (0, 412)), .inr (3, (0, 524))] (some 9) rxPTKW rxPSTKW := by
  intro S r hinv hXS I0 hin hs_ hf_
  have b_ := bx_bds_sat hs_
  have f_ := bx_fcl_ok hs_.1 hf_
  obtain ⟨⟨l8, u8⟩, -⟩ := b_
  have g := rxkRPCK_7 hP hin I0 hinv l8 u8
  have ea : List.map (bx_num r) [.inr (3, (0, 412)), .inr (3, (0, 524))] = [412, 524] := by
    simp only [List.map_cons, List.map_nil, bx_xv_ok hs_.1]
    rfl
  rw [ea]
  refine ⟨g.1, fun S_p w r_p hPS hX_p I1 hsm hr hw hs_p => ?_⟩
  have hw := hw _ rfl
  subst hw
  have b_p := hs_p.2.2 9 _ _ rfl
  have g2 := g.2 S_p (r_p 9) b_p.1 b_p.2 hPS I1 hsm
  show rxIRPCK_8 S0 ws S_p (r_p 8) (r_p 9) ∧ rxmRPCK_8 S0 ws S_p (r_p 8) (r_p 9) < _
  rw [hr 8 (by decide)]
  exact g2
theorem rxkRPCK_9 {S0 : Nat → Int → Int} {ws : List Int} {S : Nat → Int → Int} {st : Int} (hP : rxPRPCK S0 ws) (hin : bx_same rxL (bx_mdl rxCRPCK.2.2.1) S0 S) (I0 : bx_Inv rxL S) (hinv : rxIRPCK_9 S0 ws S st) (l8 : 0 ≤ st) (u8 : st ≤ 6) : rxPPLH S [412] ∧ ∀ (S_p : Nat → Int → Int) (pl : Int), (-2147483648) ≤ pl → pl ≤ 6 → rxPSPLH S [412] S_p (some pl) → bx_Inv rxL S_p → bx_same rxL (bx_mdl rxC91.2.2.1) S S_p → rxIRPCK_10 S0 ws S_p st pl ∧ rxmRPCK_10 S0 ws S_p st pl < rxmRPCK_9 S0 ws S st := by
  obtain ⟨hI, hx⟩ := hinv
  have g_ := rxkRPC_9 hP hin I0 hI l8 u8
  exact ⟨g_.1, fun S_p pl l_ u_ hq I1 hsm => ⟨⟨(g_.2 S_p pl l_ u_ hq I1 hsm).1, (by
    have e := hq.1
    subst e
    exact hx)⟩, (g_.2 S_p pl l_ u_ hq I1 hsm).2⟩⟩
theorem rxsRPCK_9 {X : (Nat → Int → Int) → Prop} {S0 : Nat → Int → Int} {ws : List Int} (hP : rxPRPCK S0 ws) : rx_obK X S0 rxCRPCK.2.2.1 rxC91.2.2.1 (rxIRPCK S0 ws) (rxmRPCK S0 ws) 9 10 rxzRPCK_9 rxzRPCK_10 [.inr (3, (0, 412))] (some 9) rxPPLH rxPSPLH := by
  intro S r hinv hXS I0 hin hs_ hf_
  have b_ := bx_bds_sat hs_
  have f_ := bx_fcl_ok hs_.1 hf_
  obtain ⟨⟨l8, u8⟩, -⟩ := b_
  have g := rxkRPCK_9 hP hin I0 hinv l8 u8
  have ea : List.map (bx_num r) [.inr (3, (0, 412))] = [412] := by
    simp only [List.map_cons, List.map_nil, bx_xv_ok hs_.1]
    rfl
  rw [ea]
  refine ⟨g.1, fun S_p w r_p hPS hX_p I1 hsm hr hw hs_p => ?_⟩
  have hw := hw _ rfl
  subst hw
  have b_p := hs_p.2.2 9 _ _ rfl
  have g2 := g.2 S_p (r_p 9) b_p.1 b_p.2 hPS I1 hsm
  show rxIRPCK_10 S0 ws S_p (r_p 8) (r_p 9) ∧ rxmRPCK_10 S0 ws S_p (r_p 8) (r_p 9) < _
  rw [hr 8 (by decide)]
  exact g2
theorem rxkRPCK_11 {S0 : Nat → Int → Int} {ws : List Int} {S : Nat → Int → Int} {st cu : Int} (hP : rxPRPCK S0 ws) (hin : bx_same rxL (bx_mdl rxCRPCK.2.2.1) S0 S) (I0 : bx_Inv rxL S) (hinv : rxIRPCK_11 S0 ws S st cu) (l8 : 0 ≤ st) (u8 : st ≤ 6) (l9 : 0 ≤ cu) (u9 : cu ≤ 6) : rxPAD S [412] ∧ ∀ (S_p : Nat → Int → Int), rxPSAD S [412] S_p none → bx_Inv rxL S_p → bx_same rxL (bx_mdl rxC84.2.2.1) S S_p → rxIRPCK_12 S0 ws S_p st cu ∧ rxmRPCK_12 S0 ws S_p st cu < rxmRPCK_11 S0 ws S st cu := by
  obtain ⟨hI, hx⟩ := hinv
  have g_ := rxkRPC_11 hP hin I0 hI l8 u8 l9 u9
  exact ⟨g_.1, fun S_p hq I1 hsm => ⟨⟨(g_.2 S_p hq I1 hsm).1, (by
    exact ⟨rkTa_ad hx.1 hI.1.1 hI.1.2.1 hsm (by decide +kernel) (by decide +kernel) hq.2.1, hx.2⟩)⟩, (g_.2 S_p hq I1 hsm).2⟩⟩
theorem rxsRPCK_11 {X : (Nat → Int → Int) → Prop} {S0 : Nat → Int → Int} {ws : List Int} (hP : rxPRPCK S0 ws) : rx_obK X S0 rxCRPCK.2.2.1 rxC84.2.2.1 (rxIRPCK S0 ws) (rxmRPCK S0 ws) 11 12 rxzRPCK_11 rxzRPCK_12 [.inr (3, (0, 412))] none rxPAD rxPSAD := by
  intro S r hinv hXS I0 hin hs_ hf_
  have b_ := bx_bds_sat hs_
  have f_ := bx_fcl_ok hs_.1 hf_
  obtain ⟨⟨l8, u8⟩, ⟨l9, u9⟩, -⟩ := b_
  have g := rxkRPCK_11 hP hin I0 hinv l8 u8 l9 u9
  have ea : List.map (bx_num r) [.inr (3, (0, 412))] = [412] := by
    simp only [List.map_cons, List.map_nil, bx_xv_ok hs_.1]
    rfl
  rw [ea]
  refine ⟨g.1, fun S_p w r_p hPS hX_p I1 hsm hr hw hs_p => ?_⟩
  have hw : w = none := hPS.1
  subst hw
  have g2 := g.2 S_p hPS I1 hsm
  show rxIRPCK_12 S0 ws S_p (r_p 8) (r_p 9) ∧ rxmRPCK_12 S0 ws S_p (r_p 8) (r_p 9) < _
  rw [hr 8 (by decide), hr 9 (by decide)]
  exact g2
theorem rxkRPCK_13 {S0 : Nat → Int → Int} {ws : List Int} {S : Nat → Int → Int} {st cu : Int} (hP : rxPRPCK S0 ws) (hin : bx_same rxL (bx_mdl rxCRPCK.2.2.1) S0 S) (I0 : bx_Inv rxL S) (hinv : rxIRPCK_13 S0 ws S st cu) (l8 : 0 ≤ st) (u8 : st ≤ 6) (l9 : 0 ≤ cu) (u9 : cu ≤ 6) : rxPIWX S [412, 531] ∧ ∀ (S_p : Nat → Int → Int) (r : Int), 0 ≤ r → r ≤ 1 → rxPSIWX S [412, 531] S_p (some r) → bx_Inv rxL S_p → bx_same rxL (bx_mdl rxC59.2.2.1) S S_p → rxIRPCK_14 S0 ws S_p st cu r ∧ rxmRPCK_14 S0 ws S_p st cu r < rxmRPCK_13 S0 ws S st cu := by
  obtain ⟨hI, hx⟩ := hinv
  have g_ := rxkRPC_13 hP hin I0 hI l8 u8 l9 u9
  exact ⟨g_.1, fun S_p r l_ u_ hq I1 hsm => ⟨⟨(g_.2 S_p r l_ u_ hq I1 hsm).1, (by
    have e_ := hq.1
    subst e_
    exact hx)⟩, (g_.2 S_p r l_ u_ hq I1 hsm).2⟩⟩
theorem rxsRPCK_13 {X : (Nat → Int → Int) → Prop} {S0 : Nat → Int → Int} {ws : List Int} (hP : rxPRPCK S0 ws) : rx_obK X S0 rxCRPCK.2.2.1 rxC59.2.2.1 (rxIRPCK S0 ws) (rxmRPCK S0 ws) 13 14 rxzRPCK_13 rxzRPCK_14 [.inr (3, (0, 412)), .inr (3, (0, 531))] (some 10) rxPIWX rxPSIWX := by
  intro S r hinv hXS I0 hin hs_ hf_
  have b_ := bx_bds_sat hs_
  have f_ := bx_fcl_ok hs_.1 hf_
  obtain ⟨⟨l8, u8⟩, ⟨l9, u9⟩, -⟩ := b_
  have g := rxkRPCK_13 hP hin I0 hinv l8 u8 l9 u9
  have ea : List.map (bx_num r) [.inr (3, (0, 412)), .inr (3, (0, 531))] = [412, 531] := by
    simp only [List.map_cons, List.map_nil, bx_xv_ok hs_.1]
    rfl
  rw [ea]
  refine ⟨g.1, fun S_p w r_p hPS hX_p I1 hsm hr hw hs_p => ?_⟩
  have hw := hw _ rfl
  subst hw
  have b_p := hs_p.2.2 10 _ _ rfl
  have g2 := g.2 S_p (r_p 10) b_p.1 b_p.2 hPS I1 hsm
  show rxIRPCK_14 S0 ws S_p (r_p 8) (r_p 9) (r_p 10) ∧ rxmRPCK_14 S0 ws S_p (r_p 8) (r_p 9) (r_p 10) < _
  rw [hr 8 (by decide), hr 9 (by decide)]
  exact g2
theorem rxkRPCK_15 {S0 : Nat → Int → Int} {ws : List Int} {S : Nat → Int → Int} {st cu hu : Int} (hP : rxPRPCK S0 ws) (hin : bx_same rxL (bx_mdl rxCRPCK.2.2.1) S0 S) (I0 : bx_Inv rxL S) (hinv : rxIRPCK_15 S0 ws S st cu hu) (l8 : 0 ≤ st) (u8 : st ≤ 6) (l9 : 0 ≤ cu) (u9 : cu ≤ 6) (l10 : 0 ≤ hu) (u10 : hu ≤ 1) : rxPIWX S [412, 541] ∧ ∀ (S_p : Nat → Int → Int) (r : Int), 0 ≤ r → r ≤ 1 → rxPSIWX S [412, 541] S_p (some r) → bx_Inv rxL S_p → bx_same rxL (bx_mdl rxC59.2.2.1) S S_p → rxIRPCK_16 S0 ws S_p st cu hu r ∧ rxmRPCK_16 S0 ws S_p st cu hu r < rxmRPCK_15 S0 ws S st cu hu := by
  obtain ⟨hI, hx⟩ := hinv
  have g_ := rxkRPC_15 hP hin I0 hI l8 u8 l9 u9 l10 u10
  exact ⟨g_.1, fun S_p r l_ u_ hq I1 hsm => ⟨⟨(g_.2 S_p r l_ u_ hq I1 hsm).1, (by
    have e_ := hq.1
    subst e_
    exact hx)⟩, (g_.2 S_p r l_ u_ hq I1 hsm).2⟩⟩
theorem rxsRPCK_15 {X : (Nat → Int → Int) → Prop} {S0 : Nat → Int → Int} {ws : List Int} (hP : rxPRPCK S0 ws) : rx_obK X S0 rxCRPCK.2.2.1 rxC59.2.2.1 (rxIRPCK S0 ws) (rxmRPCK S0 ws) 15 16 rxzRPCK_15 rxzRPCK_16 [.inr (3, (0, 412)), .inr (3, (0, 541))] (some 11) rxPIWX rxPSIWX := by
  intro S r hinv hXS I0 hin hs_ hf_
  have b_ := bx_bds_sat hs_
  have f_ := bx_fcl_ok hs_.1 hf_
  obtain ⟨⟨l8, u8⟩, ⟨l9, u9⟩, ⟨l10, u10⟩, -⟩ := b_
  have g := rxkRPCK_15 hP hin I0 hinv l8 u8 l9 u9 l10 u10
  have ea : List.map (bx_num r) [.inr (3, (0, 412)), .inr (3, (0, 541))] = [412, 541] := by
    simp only [List.map_cons, List.map_nil, bx_xv_ok hs_.1]
    rfl
  rw [ea]
  refine ⟨g.1, fun S_p w r_p hPS hX_p I1 hsm hr hw hs_p => ?_⟩
  have hw := hw _ rfl
  subst hw
  have b_p := hs_p.2.2 11 _ _ rfl
  have g2 := g.2 S_p (r_p 11) b_p.1 b_p.2 hPS I1 hsm
  show rxIRPCK_16 S0 ws S_p (r_p 8) (r_p 9) (r_p 10) (r_p 11) ∧ rxmRPCK_16 S0 ws S_p (r_p 8) (r_p 9) (r_p 10) (r_p 11) < _
  rw [hr 8 (by decide), hr 9 (by decide), hr 10 (by decide)]
  exact g2
theorem rxkRPCK_17 {S0 : Nat → Int → Int} {ws : List Int} {S : Nat → Int → Int} {st cu hu : Int} (hP : rxPRPCK S0 ws) (hin : bx_same rxL (bx_mdl rxCRPCK.2.2.1) S0 S) (I0 : bx_Inv rxL S) (hinv : rxIRPCK_17 S0 ws S st cu hu) (l8 : 0 ≤ st) (u8 : st ≤ 6) (l9 : 0 ≤ cu) (u9 : cu ≤ 6) (l10 : 0 ≤ hu) (u10 : hu ≤ 1) : rxPAD S [412] ∧ ∀ (S_p : Nat → Int → Int), rxPSAD S [412] S_p none → bx_Inv rxL S_p → bx_same rxL (bx_mdl rxC84.2.2.1) S S_p → rxIRPCK_18 S0 ws S_p st cu hu ∧ rxmRPCK_18 S0 ws S_p st cu hu < rxmRPCK_17 S0 ws S st cu hu := by
  obtain ⟨hI, hx⟩ := hinv
  have g_ := rxkRPC_17 hP hin I0 hI l8 u8 l9 u9 l10 u10
  exact ⟨g_.1, fun S_p hq I1 hsm => ⟨⟨(g_.2 S_p hq I1 hsm).1, (by
    exact ⟨rkTa_ad hx.1 hI.1.1 hI.1.2.1 hsm (by decide +kernel) (by decide +kernel) hq.2.1, hx.2⟩)⟩, (g_.2 S_p hq I1 hsm).2⟩⟩
theorem rxsRPCK_17 {X : (Nat → Int → Int) → Prop} {S0 : Nat → Int → Int} {ws : List Int} (hP : rxPRPCK S0 ws) : rx_obK X S0 rxCRPCK.2.2.1 rxC84.2.2.1 (rxIRPCK S0 ws) (rxmRPCK S0 ws) 17 18 rxzRPCK_17 rxzRPCK_18 [.inr (3, (0, 412))] none rxPAD rxPSAD := by
  intro S r hinv hXS I0 hin hs_ hf_
  have b_ := bx_bds_sat hs_
  have f_ := bx_fcl_ok hs_.1 hf_
  obtain ⟨⟨l8, u8⟩, ⟨l9, u9⟩, ⟨l10, u10⟩, -⟩ := b_
  have g := rxkRPCK_17 hP hin I0 hinv l8 u8 l9 u9 l10 u10
  have ea : List.map (bx_num r) [.inr (3, (0, 412))] = [412] := by
    simp only [List.map_cons, List.map_nil, bx_xv_ok hs_.1]
    rfl
  rw [ea]
  refine ⟨g.1, fun S_p w r_p hPS hX_p I1 hsm hr hw hs_p => ?_⟩
  have hw : w = none := hPS.1
  subst hw
  have g2 := g.2 S_p hPS I1 hsm
  show rxIRPCK_18 S0 ws S_p (r_p 8) (r_p 9) (r_p 10) ∧ rxmRPCK_18 S0 ws S_p (r_p 8) (r_p 9) (r_p 10) < _
  rw [hr 8 (by decide), hr 9 (by decide), hr 10 (by decide)]
  exact g2
theorem rxkRPCK_19 {S0 : Nat → Int → Int} {ws : List Int} {S : Nat → Int → Int} {st cu hu ki : Int} (hP : rxPRPCK S0 ws) (hin : bx_same rxL (bx_mdl rxCRPCK.2.2.1) S0 S) (I0 : bx_Inv rxL S) (hinv : rxIRPCK_19 S0 ws S st cu hu ki) (l8 : 0 ≤ st) (u8 : st ≤ 6) (l9 : 0 ≤ cu) (u9 : cu ≤ 6) (l10 : 0 ≤ hu) (u10 : hu ≤ 1) (l11 : 0 ≤ ki) (u11 : ki ≤ 4) : rxPOCDK S [427, ki, st, cu] ∧ ∀ (S_p : Nat → Int → Int), rxPSOCDK S [427, ki, st, cu] S_p none → bx_Inv rxL S_p → bx_same rxL (bx_mdl rxCOCDK.2.2.1) S S_p → rxIRPCK_20 S0 ws S_p st cu hu ki ∧ rxmRPCK_20 S0 ws S_p st cu hu ki < rxmRPCK_19 S0 ws S st cu hu ki := by
  obtain ⟨hI, hx⟩ := hinv
  have g_ := rxkRPC_19 hP hin I0 hI l8 u8 l9 u9 l10 u10 l11 u11
  exact ⟨g_.1, fun S_p hq I1 hsm => ⟨⟨(g_.2 S_p hq.2.1 I1 hsm).1, (by
    refine ⟨fun hp => ?_, hx.2.1, hx.2.2.1, hx.2.2.2.1, hx.2.2.2.2⟩
    obtain ⟨-, -, pg, ki2, st2, cu2, hw2, h⟩ := hq
    have e0 : (427 : Int) = pg := Option.some.inj (congrArg (fun l : List Int => l[0]?) hw2)
    have e1 : ki = ki2 := Option.some.inj (congrArg (fun l : List Int => l[1]?) hw2)
    have e2 : st = st2 := Option.some.inj (congrArg (fun l : List Int => l[2]?) hw2)
    have e3 : cu = cu2 := Option.some.inj (congrArg (fun l : List Int => l[3]?) hw2)
    subst e0
    subst e1
    subst e2
    subst e3
    have b1 := (rzN_b (T := (rzCut (S0 411))) (n := (S0 412 1)) (f := (S0 412 2))).1
    have b2 := (rzN_b (T := (rzCut (S0 411))) (n := (S0 412 1)) (f := (rzN (rzCut (S0 411)) (S0 412 1) (S0 412 2)))).1
    have b3 := (rzN_b (T := (rzCut (S0 411))) (n := (S0 412 1)) (f := (rzN (rzCut (S0 411)) (S0 412 1) (rzN (rzCut (S0 411)) (S0 412 1) (S0 412 2))))).1
    have b4 := (rzN_b (T := (rzCut (S0 411))) (n := (S0 412 1)) (f := (rzN (rzCut (S0 411)) (S0 412 1) (rzN (rzCut (S0 411)) (S0 412 1) (rzN (rzCut (S0 411)) (S0 412 1) (S0 412 2)))))).1
    have b5 := (rzN_b (T := (rzCut (S0 411))) (n := (S0 412 1)) (f := (rzN (rzCut (S0 411)) (S0 412 1) (rzN (rzCut (S0 411)) (S0 412 1) (rzN (rzCut (S0 411)) (S0 412 1) (rzN (rzCut (S0 411)) (S0 412 1) (S0 412 2))))))).1
    exact rkCw_oc hp hx.1 (by omega) (h rfl))⟩, (g_.2 S_p hq.2.1 I1 hsm).2⟩⟩
theorem rxsRPCK_19 {X : (Nat → Int → Int) → Prop} {S0 : Nat → Int → Int} {ws : List Int} (hP : rxPRPCK S0 ws) : rx_obK X S0 rxCRPCK.2.2.1 rxCOCDK.2.2.1 (rxIRPCK S0 ws) (rxmRPCK S0 ws) 19 20 rxzRPCK_19 rxzRPCK_20 [.inr (3, (0, 427)), .inr (0, (11, 0)), .inr (0, (8, 0)), .inr (0, (9, 0))] none rxPOCDK rxPSOCDK := by
  intro S r hinv hXS I0 hin hs_ hf_
  have b_ := bx_bds_sat hs_
  have f_ := bx_fcl_ok hs_.1 hf_
  obtain ⟨⟨l8, u8⟩, ⟨l9, u9⟩, ⟨l10, u10⟩, ⟨l11, u11⟩, -⟩ := b_
  have g := rxkRPCK_19 hP hin I0 hinv l8 u8 l9 u9 l10 u10 l11 u11
  have ea : List.map (bx_num r) [.inr (3, (0, 427)), .inr (0, (11, 0)), .inr (0, (8, 0)), .inr (0, (9, 0))] = [427, (r 11), (r 8), (r 9)] := by
    simp only [List.map_cons, List.map_nil, bx_xv_ok hs_.1]
    rfl
  rw [ea]
  refine ⟨g.1, fun S_p w r_p hPS hX_p I1 hsm hr hw hs_p => ?_⟩
  have hw : w = none := hPS.1
  subst hw
  have g2 := g.2 S_p hPS I1 hsm
  show rxIRPCK_20 S0 ws S_p (r_p 8) (r_p 9) (r_p 10) (r_p 11) ∧ rxmRPCK_20 S0 ws S_p (r_p 8) (r_p 9) (r_p 10) (r_p 11) < _
  rw [hr 8 (by decide), hr 9 (by decide), hr 10 (by decide), hr 11 (by decide)]
  exact g2
theorem rxkRPCK_21 {S0 : Nat → Int → Int} {ws : List Int} {S : Nat → Int → Int} {st cu hu sa : Int} (hP : rxPRPCK S0 ws) (hin : bx_same rxL (bx_mdl rxCRPCK.2.2.1) S0 S) (I0 : bx_Inv rxL S) (hinv : rxIRPCK_21 S0 ws S st cu hu sa) (l8 : 0 ≤ st) (u8 : st ≤ 6) (l9 : 0 ≤ cu) (u9 : cu ≤ 6) (l10 : 0 ≤ hu) (u10 : hu ≤ 1) (l11 : 0 ≤ sa) (u11 : sa ≤ 1522) : rxPREDK S [412, sa, 0] ∧ ∀ (S_p : Nat → Int → Int) (res : Int), 0 ≤ res → res ≤ 1 → rxPSREDK S [412, sa, 0] S_p (some res) → bx_Inv rxL S_p → bx_same rxL (bx_mdl rxCREDK.2.2.1) S S_p → rxIRPCK_22 S0 ws S_p st cu hu sa res ∧ rxmRPCK_22 S0 ws S_p st cu hu sa res < rxmRPCK_21 S0 ws S st cu hu sa := by
  obtain ⟨hI, hx⟩ := hinv
  have g_ := rxkRPC_21 hP hin I0 hI l8 u8 l9 u9 l10 u10 l11 u11
  exact ⟨g_.1, fun S_p res l_ u_ hq I1 hsm => ⟨⟨(g_.2 S_p res l_ u_ hq.1 I1 hsm).1, (by
    intro g_
    obtain ⟨h1, h2, h3, hh, hb, hlt⟩ := hx
    refine ⟨fun hp => ?_, h2, h3, hh, hb, hlt⟩
    obtain ⟨q0, sa2, sg2, hw2, h⟩ := hq
    have e1 : sa = sa2 := Option.some.inj (congrArg (fun l : List Int => l[1]?) hw2)
    have e2 : (0 : Int) = sg2 := Option.some.inj (congrArg (fun l : List Int => l[2]?) hw2)
    subst e1
    subst e2
    obtain ⟨⟨hc, e2, e7, e0, hpp⟩, hsa⟩ := h1 hp
    have hA : rzAt (rzPH (rzCut (S0 411)) (S0 412 1) (rzWs S0) (S0 412 2) (S0 412 7)) S0 S (fun f lf => rzThen (rzEx (rzCut (S0 411)) (S0 412 1) (rzWs S0) 0 f lf) (rzPG (rzCut (S0 411)) (S0 412 1) (rzWs S0))) := hI
    have p6 := hp.2.2.2.2.2
    have b1 := (rzN_b (T := (rzCut (S0 411))) (n := (S0 412 1)) (f := (S0 412 2))).1
    have b2 := (rzN_b (T := (rzCut (S0 411))) (n := (S0 412 1)) (f := (rzN (rzCut (S0 411)) (S0 412 1) (S0 412 2)))).1
    have b3 := (rzN_b (T := (rzCut (S0 411))) (n := (S0 412 1)) (f := (rzN (rzCut (S0 411)) (S0 412 1) (rzN (rzCut (S0 411)) (S0 412 1) (S0 412 2))))).1
    have b4 := (rzN_b (T := (rzCut (S0 411))) (n := (S0 412 1)) (f := (rzN (rzCut (S0 411)) (S0 412 1) (rzN (rzCut (S0 411)) (S0 412 1) (rzN (rzCut (S0 411)) (S0 412 1) (S0 412 2)))))).1
    obtain ⟨d, d1, d2, -⟩ := rkCw_e hp hc hsm (by decide +kernel) (Or.inl hsa) (by omega) (h (by rw [g_]))
    rw [hA.1.1, hA.1.2.1, hA.1.ws, e2, e7] at d1
    obtain ⟨sa3, sg3, hw3, q0⟩ := q0
    have e9 : (0 : Int) = sg3 := Option.some.inj (congrArg (fun l : List Int => l[2]?) hw3)
    subst e9
    have d2 := d2 hsa
    rcases q0 with ⟨-, r, r1, r2, r3, r4, r5, r6⟩ | ⟨r0, -⟩
    · rw [hA.1.1, hA.1.2.1, hA.1.ws, e2, e7] at r1
      exact ⟨d, r, d1, r1, r5, r6, d2⟩
    · exfalso
      have := Option.some.inj r0
      omega)⟩, (g_.2 S_p res l_ u_ hq.1 I1 hsm).2⟩⟩
theorem rxsRPCK_21 {X : (Nat → Int → Int) → Prop} {S0 : Nat → Int → Int} {ws : List Int} (hP : rxPRPCK S0 ws) : rx_obK X S0 rxCRPCK.2.2.1 rxCREDK.2.2.1 (rxIRPCK S0 ws) (rxmRPCK S0 ws) 21 22 rxzRPCK_21 rxzRPCK_22 [.inr (3, (0, 412)), .inr (3, (11, 0)), .inr (0, (0, 0))] (some 12) rxPREDK rxPSREDK := by
  intro S r hinv hXS I0 hin hs_ hf_
  have b_ := bx_bds_sat hs_
  have f_ := bx_fcl_ok hs_.1 hf_
  obtain ⟨⟨l8, u8⟩, ⟨l9, u9⟩, ⟨l10, u10⟩, ⟨l11, u11⟩, -⟩ := b_
  have g := rxkRPCK_21 hP hin I0 hinv l8 u8 l9 u9 l10 u10 l11 u11
  have ea : List.map (bx_num r) [.inr (3, (0, 412)), .inr (3, (11, 0)), .inr (0, (0, 0))] = [412, (r 11), 0] := by
    simp only [List.map_cons, List.map_nil, bx_xv_ok hs_.1]
    rfl
  rw [ea]
  refine ⟨g.1, fun S_p w r_p hPS hX_p I1 hsm hr hw hs_p => ?_⟩
  have hw := hw _ rfl
  subst hw
  have b_p := hs_p.2.2 12 _ _ rfl
  have g2 := g.2 S_p (r_p 12) b_p.1 b_p.2 hPS I1 hsm
  show rxIRPCK_22 S0 ws S_p (r_p 8) (r_p 9) (r_p 10) (r_p 11) (r_p 12) ∧ rxmRPCK_22 S0 ws S_p (r_p 8) (r_p 9) (r_p 10) (r_p 11) (r_p 12) < _
  rw [hr 8 (by decide), hr 9 (by decide), hr 10 (by decide), hr 11 (by decide)]
  exact g2
theorem rxkRPCK_23 {S0 : Nat → Int → Int} {ws : List Int} {S : Nat → Int → Int} {st cu hu : Int} (hP : rxPRPCK S0 ws) (hin : bx_same rxL (bx_mdl rxCRPCK.2.2.1) S0 S) (I0 : bx_Inv rxL S) (hinv : rxIRPCK_23 S0 ws S st cu hu) (l8 : 0 ≤ st) (u8 : st ≤ 6) (l9 : 0 ≤ cu) (u9 : cu ≤ 6) (l10 : 0 ≤ hu) (u10 : hu ≤ 1) : rxPIWX S [412, 529] ∧ ∀ (S_p : Nat → Int → Int) (r : Int), 0 ≤ r → r ≤ 1 → rxPSIWX S [412, 529] S_p (some r) → bx_Inv rxL S_p → bx_same rxL (bx_mdl rxC59.2.2.1) S S_p → rxIRPCK_24 S0 ws S_p st cu hu r ∧ rxmRPCK_24 S0 ws S_p st cu hu r < rxmRPCK_23 S0 ws S st cu hu := by
  obtain ⟨hI, hx⟩ := hinv
  have g_ := rxkRPC_23 hP hin I0 hI l8 u8 l9 u9 l10 u10
  exact ⟨g_.1, fun S_p r l_ u_ hq I1 hsm => ⟨⟨(g_.2 S_p r l_ u_ hq I1 hsm).1, (by
    have e_ := hq.1
    subst e_
    exact hx)⟩, (g_.2 S_p r l_ u_ hq I1 hsm).2⟩⟩
theorem rxsRPCK_23 {X : (Nat → Int → Int) → Prop} {S0 : Nat → Int → Int} {ws : List Int} (hP : rxPRPCK S0 ws) : rx_obK X S0 rxCRPCK.2.2.1 rxC59.2.2.1 (rxIRPCK S0 ws) (rxmRPCK S0 ws) 23 24 rxzRPCK_23 rxzRPCK_24 [.inr (3, (0, 412)), .inr (3, (0, 529))] (some 11) rxPIWX rxPSIWX := by
  intro S r hinv hXS I0 hin hs_ hf_
  have b_ := bx_bds_sat hs_
  have f_ := bx_fcl_ok hs_.1 hf_
  obtain ⟨⟨l8, u8⟩, ⟨l9, u9⟩, ⟨l10, u10⟩, -⟩ := b_
  have g := rxkRPCK_23 hP hin I0 hinv l8 u8 l9 u9 l10 u10
  have ea : List.map (bx_num r) [.inr (3, (0, 412)), .inr (3, (0, 529))] = [412, 529] := by
    simp only [List.map_cons, List.map_nil, bx_xv_ok hs_.1]
    rfl
  rw [ea]
  refine ⟨g.1, fun S_p w r_p hPS hX_p I1 hsm hr hw hs_p => ?_⟩
  have hw := hw _ rfl
  subst hw
  have b_p := hs_p.2.2 11 _ _ rfl
  have g2 := g.2 S_p (r_p 11) b_p.1 b_p.2 hPS I1 hsm
  show rxIRPCK_24 S0 ws S_p (r_p 8) (r_p 9) (r_p 10) (r_p 11) ∧ rxmRPCK_24 S0 ws S_p (r_p 8) (r_p 9) (r_p 10) (r_p 11) < _
  rw [hr 8 (by decide), hr 9 (by decide), hr 10 (by decide)]
  exact g2
theorem rxkRPCK_25 {S0 : Nat → Int → Int} {ws : List Int} {S : Nat → Int → Int} {st cu hu : Int} (hP : rxPRPCK S0 ws) (hin : bx_same rxL (bx_mdl rxCRPCK.2.2.1) S0 S) (I0 : bx_Inv rxL S) (hinv : rxIRPCK_25 S0 ws S st cu hu) (l8 : 0 ≤ st) (u8 : st ≤ 6) (l9 : 0 ≤ cu) (u9 : cu ≤ 6) (l10 : 0 ≤ hu) (u10 : hu ≤ 1) : rxPAD S [412] ∧ ∀ (S_p : Nat → Int → Int), rxPSAD S [412] S_p none → bx_Inv rxL S_p → bx_same rxL (bx_mdl rxC84.2.2.1) S S_p → rxIRPCK_26 S0 ws S_p st cu hu ∧ rxmRPCK_26 S0 ws S_p st cu hu < rxmRPCK_25 S0 ws S st cu hu := by
  obtain ⟨hI, hx⟩ := hinv
  have g_ := rxkRPC_25 hP hin I0 hI l8 u8 l9 u9 l10 u10
  exact ⟨g_.1, fun S_p hq I1 hsm => ⟨⟨(g_.2 S_p hq I1 hsm).1, (by
    refine ⟨fun hp => ?_, hx.2⟩
    obtain ⟨d, r, d1, r1, r2, r3, r4, b1⟩ := hx.1 hp
    have hA := hI.1
    have e2 : S_p 412 2 = (rzN (rzCut (S0 411)) (S0 412 1) r.2.1) := by
      rw [hq.2.1, hA.2.1.1, r2, hA.1.1, hA.1.2.1]
      rfl
    have b2 := (rzN_b (T := (rzCut (S0 411))) (n := (S0 412 1)) (f := r.2.1)).1
    obtain ⟨c1, c2⟩ := rkCw_sm hp r4 hsm (by decide +kernel) I0 (by omega)
    have c3 := rzN_ao b1 (by decide)
    have eN : ((rzW_go.length : Nat) : Int) = 2 := rfl
    have c4 := r4.2.2.1
    exact ⟨d, r, d1, r1, e2, (hsm 412 7 (by decide) (by decide) (by decide +kernel)).trans r3, c1, b1, by omega⟩)⟩, (g_.2 S_p hq I1 hsm).2⟩⟩
theorem rxsRPCK_25 {X : (Nat → Int → Int) → Prop} {S0 : Nat → Int → Int} {ws : List Int} (hP : rxPRPCK S0 ws) : rx_obK X S0 rxCRPCK.2.2.1 rxC84.2.2.1 (rxIRPCK S0 ws) (rxmRPCK S0 ws) 25 26 rxzRPCK_25 rxzRPCK_26 [.inr (3, (0, 412))] none rxPAD rxPSAD := by
  intro S r hinv hXS I0 hin hs_ hf_
  have b_ := bx_bds_sat hs_
  have f_ := bx_fcl_ok hs_.1 hf_
  obtain ⟨⟨l8, u8⟩, ⟨l9, u9⟩, ⟨l10, u10⟩, -⟩ := b_
  have g := rxkRPCK_25 hP hin I0 hinv l8 u8 l9 u9 l10 u10
  have ea : List.map (bx_num r) [.inr (3, (0, 412))] = [412] := by
    simp only [List.map_cons, List.map_nil, bx_xv_ok hs_.1]
    rfl
  rw [ea]
  refine ⟨g.1, fun S_p w r_p hPS hX_p I1 hsm hr hw hs_p => ?_⟩
  have hw : w = none := hPS.1
  subst hw
  have g2 := g.2 S_p hPS I1 hsm
  show rxIRPCK_26 S0 ws S_p (r_p 8) (r_p 9) (r_p 10) ∧ rxmRPCK_26 S0 ws S_p (r_p 8) (r_p 9) (r_p 10) < _
  rw [hr 8 (by decide), hr 9 (by decide), hr 10 (by decide)]
  exact g2
theorem rxkRPCK_27 {S0 : Nat → Int → Int} {ws : List Int} {S : Nat → Int → Int} {st cu hu sa : Int} (hP : rxPRPCK S0 ws) (hin : bx_same rxL (bx_mdl rxCRPCK.2.2.1) S0 S) (I0 : bx_Inv rxL S) (hinv : rxIRPCK_27 S0 ws S st cu hu sa) (l8 : 0 ≤ st) (u8 : st ≤ 6) (l9 : 0 ≤ cu) (u9 : cu ≤ 6) (l10 : 0 ≤ hu) (u10 : hu ≤ 1) (l11 : 0 ≤ sa) (u11 : sa ≤ 1522) : rxPREDK S [412, sa, 0] ∧ ∀ (S_p : Nat → Int → Int) (res : Int), 0 ≤ res → res ≤ 1 → rxPSREDK S [412, sa, 0] S_p (some res) → bx_Inv rxL S_p → bx_same rxL (bx_mdl rxCREDK.2.2.1) S S_p → rxIRPCK_28 S0 ws S_p st cu hu sa res ∧ rxmRPCK_28 S0 ws S_p st cu hu sa res < rxmRPCK_27 S0 ws S st cu hu sa := by
  obtain ⟨hI, hx⟩ := hinv
  have g_ := rxkRPC_27 hP hin I0 hI l8 u8 l9 u9 l10 u10 l11 u11
  exact ⟨g_.1, fun S_p res l_ u_ hq I1 hsm => ⟨⟨(g_.2 S_p res l_ u_ hq.1 I1 hsm).1, (by
    intro g_ hp
    obtain ⟨-, sa2, sg2, hw2, h⟩ := hq
    have e1 : sa = sa2 := Option.some.inj (congrArg (fun l : List Int => l[1]?) hw2)
    have e2 : (0 : Int) = sg2 := Option.some.inj (congrArg (fun l : List Int => l[2]?) hw2)
    subst e1
    subst e2
    obtain ⟨hx1, h2, h3, hh, hb, hlt⟩ := hx
    obtain ⟨d, r, d1, r1, r2, r3, r4, b1, hz, hsa⟩ := hx1 hp
    have hA : rzAt (rzPH (rzCut (S0 411)) (S0 412 1) (rzWs S0) (S0 412 2) (S0 412 7)) S0 S (rzEx (rzCut (S0 411)) (S0 412 1) (rzWs S0) 0) := hI
    obtain ⟨d', k1, -, k2⟩ := rkCw_e hp r4 hsm (by decide +kernel) (Or.inr hsa) hz (h (by rw [g_]))
    rw [hA.1.1, hA.1.2.1, hA.1.ws, r2, r3] at k1
    have k2 := k2 hsa
    exact ⟨_, ⟨_, _, _, _, rfl, rfl, rfl, rfl, rzAlt_n hb ⟨d, r, some d', d1, r1, rzAlt_y b1 ⟨d', k1, rfl⟩, rfl⟩⟩, by rw [← h2, ← h3]; exact k2⟩)⟩, (g_.2 S_p res l_ u_ hq.1 I1 hsm).2⟩⟩
theorem rxsRPCK_27 {X : (Nat → Int → Int) → Prop} {S0 : Nat → Int → Int} {ws : List Int} (hP : rxPRPCK S0 ws) : rx_obK X S0 rxCRPCK.2.2.1 rxCREDK.2.2.1 (rxIRPCK S0 ws) (rxmRPCK S0 ws) 27 28 rxzRPCK_27 rxzRPCK_28 [.inr (3, (0, 412)), .inr (3, (11, 0)), .inr (0, (0, 0))] (some 12) rxPREDK rxPSREDK := by
  intro S r hinv hXS I0 hin hs_ hf_
  have b_ := bx_bds_sat hs_
  have f_ := bx_fcl_ok hs_.1 hf_
  obtain ⟨⟨l8, u8⟩, ⟨l9, u9⟩, ⟨l10, u10⟩, ⟨l11, u11⟩, -⟩ := b_
  have g := rxkRPCK_27 hP hin I0 hinv l8 u8 l9 u9 l10 u10 l11 u11
  have ea : List.map (bx_num r) [.inr (3, (0, 412)), .inr (3, (11, 0)), .inr (0, (0, 0))] = [412, (r 11), 0] := by
    simp only [List.map_cons, List.map_nil, bx_xv_ok hs_.1]
    rfl
  rw [ea]
  refine ⟨g.1, fun S_p w r_p hPS hX_p I1 hsm hr hw hs_p => ?_⟩
  have hw := hw _ rfl
  subst hw
  have b_p := hs_p.2.2 12 _ _ rfl
  have g2 := g.2 S_p (r_p 12) b_p.1 b_p.2 hPS I1 hsm
  show rxIRPCK_28 S0 ws S_p (r_p 8) (r_p 9) (r_p 10) (r_p 11) (r_p 12) ∧ rxmRPCK_28 S0 ws S_p (r_p 8) (r_p 9) (r_p 10) (r_p 11) (r_p 12) < _
  rw [hr 8 (by decide), hr 9 (by decide), hr 10 (by decide), hr 11 (by decide)]
  exact g2
theorem rxcRPCK_0_0 {S0 : Nat → Int → Int} {ws : List Int} {S : Nat → Int → Int} (hP : rxPRPCK S0 ws) (hin : bx_same rxL (bx_mdl rxCRPCK.2.2.1) S0 S) (I0 : bx_Inv rxL S) (hinv : rxIRPCK_0 S0 ws S)  : (True) ∧ (True) ∧ rxIRPCK_1 S0 ws S ∧ rxmRPCK_1 S0 ws S < rxmRPCK_0 S0 ws S := by
  obtain ⟨hI, hx⟩ := hinv
  obtain ⟨a_, b_, c_, d_⟩ := rxcRPC_0_0 hP hin I0 hI
  exact ⟨a_, b_, ⟨c_, (by
    obtain ⟨e, -⟩ := hI
    subst e
    exact rkTa_rf)⟩, d_⟩
theorem rxgRPCK_0_0 {X : (Nat → Int → Int) → Prop} {S0 : Nat → Int → Int} {ws : List Int} (hP : rxPRPCK S0 ws) : bx_obC rxL X S0 rxCRPCK.2.2.1 (rxIRPCK S0 ws) (rxmRPCK S0 ws) 0 rxzRPCK_0 rxoRPCK_0_0 := by
  intro S S_p r r_p hinv hX hin hsm_ hseg
  obtain ⟨I0, I1, h0_, hr_, b_, f_, d_⟩ := bx_cl (evs := []) (fvs := []) hseg (by decide +kernel) (by decide +kernel)
  have hinv : rxIRPCK_0 S0 ws S := hinv
  have w_ := d_
  subst w_
  have g := rxcRPCK_0_0 hP hin I0 hinv 
  refine ⟨bx_narP_ok (l := []) g.1, bx_nfP_ok h0_ (fvs := []) (by decide +kernel) g.2.1, ?_, ?_⟩
  · show rxIRPCK_1 S0 ws S_p
    exact g.2.2.1
  · show rxmRPCK_1 S0 ws S_p < rxmRPCK_0 S0 ws S_p
    exact g.2.2.2
theorem rxcRPCK_2_0 {S0 : Nat → Int → Int} {ws : List Int} {S : Nat → Int → Int} {r : Int} (hP : rxPRPCK S0 ws) (hin : bx_same rxL (bx_mdl rxCRPCK.2.2.1) S0 S) (I0 : bx_Inv rxL S) (hinv : rxIRPCK_2 S0 ws S r) (l8 : 1 ≤ r) (u8 : r ≤ 1) (f0 : r ≠ 0) : (True) ∧ (True) ∧ rxIRPCK_3 S0 ws S ∧ rxmRPCK_3 S0 ws S < rxmRPCK_2 S0 ws S r := by
  obtain ⟨hI, hx⟩ := hinv
  obtain ⟨a_, b_, c_, d_⟩ := rxcRPC_2_0 hP hin I0 hI l8 u8 f0
  exact ⟨a_, b_, ⟨c_, (by
    exact hx (by omega))⟩, d_⟩
theorem rxgRPCK_2_0 {X : (Nat → Int → Int) → Prop} {S0 : Nat → Int → Int} {ws : List Int} (hP : rxPRPCK S0 ws) : bx_obC rxL X S0 rxCRPCK.2.2.1 (rxIRPCK S0 ws) (rxmRPCK S0 ws) 2 rxzRPCK_2 rxoRPCK_2_0 := by
  intro S S_p r r_p hinv hX hin hsm_ hseg
  obtain ⟨I0, I1, h0_, hr_, b_, f_, d_⟩ := bx_cl (evs := []) (fvs := [(3, (8, 0), (0, 0), (0, 0))]) hseg (by decide +kernel) (by decide +kernel)
  have hinv : rxIRPCK_2 S0 ws S (r 8) := hinv
  rw [← hr_ 8 (by decide)] at hinv
  obtain ⟨⟨l8, u8⟩, -⟩ := b_
  obtain ⟨f0, -⟩ := f_
  have w_ := d_
  subst w_
  have g := rxcRPCK_2_0 hP hin I0 hinv l8 u8 f0
  refine ⟨bx_narP_ok (l := []) g.1, bx_nfP_ok h0_ (fvs := []) (by decide +kernel) g.2.1, ?_, ?_⟩
  · show rxIRPCK_3 S0 ws S_p
    exact g.2.2.1
  · show rxmRPCK_3 S0 ws S_p < rxmRPCK_2 S0 ws S_p (r 8)
    rw [← hr_ 8 (by decide)]
    exact g.2.2.2
theorem rxdRPCK_2_0 {S0 : Nat → Int → Int} {ws : List Int} {S : Nat → Int → Int} {r : Int} (hP : rxPRPCK S0 ws) (hin : bx_same rxL (bx_mdl rxCRPCK.2.2.1) S0 S) (hin2 : bx_same rxL (bx_mdl rxCRPCK.2.2.1) S S) (I0 : bx_Inv rxL S) (I1 : bx_Inv rxL S) (hinv : rxIRPCK_2 S0 ws S r) (l8 : 0 ≤ r) (u8 : r ≤ 0) : (True) ∧ rxPSRPCK S0 ws S (some 0) := by
  obtain ⟨hI, hx⟩ := hinv
  obtain ⟨a_, c_⟩ := rxdRPC_2_0 hP hin hin2 I0 I1 hI l8 u8
  exact ⟨a_, c_, (fun g => absurd (Option.some.inj g) (by decide))⟩
theorem rxfRPCK_2_0 {X : (Nat → Int → Int) → Prop} {S0 : Nat → Int → Int} {ws : List Int} (hP : rxPRPCK S0 ws) : bx_obE rxL X S0 rxCRPCK.2.2.1 (rxIRPCK S0 ws) (rxPSRPCK S0 ws) 2 rxzRPCK_2 rxeRPCK_2_0 := by
  intro S S_p r r_p hinv hX hin hsm_ hseg
  obtain ⟨I0, I1, h0_, hr_, b_, f_, d_⟩ := bx_cl (evs := []) (fvs := []) hseg (by decide +kernel) (by decide +kernel)
  have hinv : rxIRPCK_2 S0 ws S (r 8) := hinv
  rw [← hr_ 8 (by decide)] at hinv
  obtain ⟨⟨l8, u8⟩, -⟩ := b_
  have w_ := d_
  subst w_
  have g := rxdRPCK_2_0 hP hin hsm_ I0 I1 hinv l8 u8
  refine ⟨bx_narP_ok (l := []) g.1, ?_⟩
  show rxPSRPCK S0 ws S_p (some (bx_num r_p (.inr (0, (0, 0)))))
  rw [bx_xv_ok h0_]
  exact g.2
theorem rxcRPCK_4_0 {S0 : Nat → Int → Int} {ws : List Int} {S : Nat → Int → Int} {pl : Int} (hP : rxPRPCK S0 ws) (hin : bx_same rxL (bx_mdl rxCRPCK.2.2.1) S0 S) (I0 : bx_Inv rxL S) (hinv : rxIRPCK_4 S0 ws S pl) (l8 : 0 ≤ pl) (u8 : pl ≤ 6) : (True) ∧ (True) ∧ rxIRPCK_5 S0 ws S pl ∧ rxmRPCK_5 S0 ws S pl < rxmRPCK_4 S0 ws S pl := by
  obtain ⟨hI, hx⟩ := hinv
  obtain ⟨a_, b_, c_, d_⟩ := rxcRPC_4_0 hP hin I0 hI l8 u8
  exact ⟨a_, b_, ⟨c_, (by
    have q := hI.2
    rw [hx.1] at q
    exact ⟨hx, q⟩)⟩, d_⟩
theorem rxgRPCK_4_0 {X : (Nat → Int → Int) → Prop} {S0 : Nat → Int → Int} {ws : List Int} (hP : rxPRPCK S0 ws) : bx_obC rxL X S0 rxCRPCK.2.2.1 (rxIRPCK S0 ws) (rxmRPCK S0 ws) 4 rxzRPCK_4 rxoRPCK_4_0 := by
  intro S S_p r r_p hinv hX hin hsm_ hseg
  obtain ⟨I0, I1, h0_, hr_, b_, f_, d_⟩ := bx_cl (evs := []) (fvs := []) hseg (by decide +kernel) (by decide +kernel)
  have hinv : rxIRPCK_4 S0 ws S (r 8) := hinv
  rw [← hr_ 8 (by decide)] at hinv
  obtain ⟨⟨l8, u8⟩, -⟩ := b_
  have w_ := d_
  subst w_
  have g := rxcRPCK_4_0 hP hin I0 hinv l8 u8
  refine ⟨bx_narP_ok (l := []) g.1, bx_nfP_ok h0_ (fvs := []) (by decide +kernel) g.2.1, ?_, ?_⟩
  · show rxIRPCK_5 S0 ws S_p (bx_val [(0, 0), (0, 0), (0, 0), (0, 0), (0, 0), (0, 0), (0, 0), (0, 0), (8, 0)] r_p 8)
    rw [bx_val_x (n := 8) (e := (8, 0)) h0_ rfl]
    exact g.2.2.1
  · show rxmRPCK_5 S0 ws S_p (bx_val [(0, 0), (0, 0), (0, 0), (0, 0), (0, 0), (0, 0), (0, 0), (0, 0), (8, 0)] r_p 8) < rxmRPCK_4 S0 ws S_p (r 8)
    rw [bx_val_x (n := 8) (e := (8, 0)) h0_ rfl, ← hr_ 8 (by decide)]
    exact g.2.2.2
theorem rxdRPCK_4_0 {S0 : Nat → Int → Int} {ws : List Int} {S : Nat → Int → Int} {pl x9 : Int} (hP : rxPRPCK S0 ws) (hin : bx_same rxL (bx_mdl rxCRPCK.2.2.1) S0 S) (hin2 : bx_same rxL (bx_mdl rxCRPCK.2.2.1) S (bx_up S 412 4 x9)) (I0 : bx_Inv rxL S) (I1 : bx_Inv rxL (bx_up S 412 4 x9)) (hinv : rxIRPCK_4 S0 ws S pl) (l8 : (-2147483648) ≤ pl) (u8 : pl ≤ (-1)) (l9 : 0 ≤ x9) (u9 : x9 ≤ 400) (e1 : S 412 2 = x9) : (True) ∧ rxPSRPCK S0 ws (bx_up S 412 4 x9) (some 0) := by
  obtain ⟨hI, hx⟩ := hinv
  obtain ⟨a_, c_⟩ := rxdRPC_4_0 hP hin hin2 I0 I1 hI l8 u8 l9 u9 e1
  exact ⟨a_, c_, (fun g => absurd (Option.some.inj g) (by decide))⟩
theorem rxfRPCK_4_0 {X : (Nat → Int → Int) → Prop} {S0 : Nat → Int → Int} {ws : List Int} (hP : rxPRPCK S0 ws) : bx_obE rxL X S0 rxCRPCK.2.2.1 (rxIRPCK S0 ws) (rxPSRPCK S0 ws) 4 rxzRPCK_4 rxeRPCK_4_0 := by
  intro S S_p r r_p hinv hX hin hsm_ hseg
  obtain ⟨I0, I1, h0_, hr_, b_, f_, d_⟩ := bx_cl (evs := [(1, (0, 412), (0, 4), .inr (0, (9, 0))), (0, (0, 412), (0, 2), .inr (0, (9, 0)))]) (fvs := []) hseg (by decide +kernel) (by decide +kernel)
  have hinv : rxIRPCK_4 S0 ws S (r 8) := hinv
  rw [← hr_ 8 (by decide)] at hinv
  obtain ⟨⟨l8, u8⟩, ⟨l9, u9⟩, -⟩ := b_
  obtain ⟨T0, ⟨e1, w_⟩, w0⟩ := d_
  subst w0
  subst w_
  have g := rxdRPCK_4_0 hP hin hsm_ I0 I1 hinv l8 u8 l9 u9 e1
  refine ⟨bx_narP_ok (l := []) g.1, ?_⟩
  show rxPSRPCK S0 ws (bx_up T0 412 (4) (r_p 9)) (some (bx_num r_p (.inr (0, (0, 0)))))
  rw [bx_xv_ok h0_]
  exact g.2
theorem rxcRPCK_6_0 {S0 : Nat → Int → Int} {ws : List Int} {S : Nat → Int → Int} {st : Int} (hP : rxPRPCK S0 ws) (hin : bx_same rxL (bx_mdl rxCRPCK.2.2.1) S0 S) (I0 : bx_Inv rxL S) (hinv : rxIRPCK_6 S0 ws S st) (l8 : 0 ≤ st) (u8 : st ≤ 6) : (True) ∧ (True) ∧ rxIRPCK_7 S0 ws S st ∧ rxmRPCK_7 S0 ws S st < rxmRPCK_6 S0 ws S st := by
  obtain ⟨hI, hx⟩ := hinv
  obtain ⟨a_, b_, c_, d_⟩ := rxcRPC_6_0 hP hin I0 hI l8 u8
  exact ⟨a_, b_, ⟨c_, hx⟩, d_⟩
theorem rxgRPCK_6_0 {X : (Nat → Int → Int) → Prop} {S0 : Nat → Int → Int} {ws : List Int} (hP : rxPRPCK S0 ws) : bx_obC rxL X S0 rxCRPCK.2.2.1 (rxIRPCK S0 ws) (rxmRPCK S0 ws) 6 rxzRPCK_6 rxoRPCK_6_0 := by
  intro S S_p r r_p hinv hX hin hsm_ hseg
  obtain ⟨I0, I1, h0_, hr_, b_, f_, d_⟩ := bx_cl (evs := []) (fvs := []) hseg (by decide +kernel) (by decide +kernel)
  have hinv : rxIRPCK_6 S0 ws S (r 8) := hinv
  rw [← hr_ 8 (by decide)] at hinv
  obtain ⟨⟨l8, u8⟩, -⟩ := b_
  have w_ := d_
  subst w_
  have g := rxcRPCK_6_0 hP hin I0 hinv l8 u8
  refine ⟨bx_narP_ok (l := []) g.1, bx_nfP_ok h0_ (fvs := []) (by decide +kernel) g.2.1, ?_, ?_⟩
  · show rxIRPCK_7 S0 ws S_p (bx_val [(0, 0), (0, 0), (0, 0), (0, 0), (0, 0), (0, 0), (0, 0), (0, 0), (8, 0)] r_p 8)
    rw [bx_val_x (n := 8) (e := (8, 0)) h0_ rfl]
    exact g.2.2.1
  · show rxmRPCK_7 S0 ws S_p (bx_val [(0, 0), (0, 0), (0, 0), (0, 0), (0, 0), (0, 0), (0, 0), (0, 0), (8, 0)] r_p 8) < rxmRPCK_6 S0 ws S_p (r 8)
    rw [bx_val_x (n := 8) (e := (8, 0)) h0_ rfl, ← hr_ 8 (by decide)]
    exact g.2.2.2
theorem rxcRPCK_8_0 {S0 : Nat → Int → Int} {ws : List Int} {S : Nat → Int → Int} {st r : Int} (hP : rxPRPCK S0 ws) (hin : bx_same rxL (bx_mdl rxCRPCK.2.2.1) S0 S) (I0 : bx_Inv rxL S) (hinv : rxIRPCK_8 S0 ws S st r) (l8 : 0 ≤ st) (u8 : st ≤ 6) (l9 : 1 ≤ r) (u9 : r ≤ 1) (f0 : r ≠ 0) : (True) ∧ (True) ∧ rxIRPCK_9 S0 ws S st ∧ rxmRPCK_9 S0 ws S st < rxmRPCK_8 S0 ws S st r := by
  obtain ⟨hI, hx⟩ := hinv
  obtain ⟨a_, b_, c_, d_⟩ := rxcRPC_8_0 hP hin I0 hI l8 u8 l9 u9 f0
  exact ⟨a_, b_, ⟨c_, (by
    exact hx (by omega))⟩, d_⟩
theorem rxgRPCK_8_0 {X : (Nat → Int → Int) → Prop} {S0 : Nat → Int → Int} {ws : List Int} (hP : rxPRPCK S0 ws) : bx_obC rxL X S0 rxCRPCK.2.2.1 (rxIRPCK S0 ws) (rxmRPCK S0 ws) 8 rxzRPCK_8 rxoRPCK_8_0 := by
  intro S S_p r r_p hinv hX hin hsm_ hseg
  obtain ⟨I0, I1, h0_, hr_, b_, f_, d_⟩ := bx_cl (evs := []) (fvs := [(3, (9, 0), (0, 0), (0, 0))]) hseg (by decide +kernel) (by decide +kernel)
  have hinv : rxIRPCK_8 S0 ws S (r 8) (r 9) := hinv
  rw [← hr_ 8 (by decide), ← hr_ 9 (by decide)] at hinv
  obtain ⟨⟨l8, u8⟩, ⟨l9, u9⟩, -⟩ := b_
  obtain ⟨f0, -⟩ := f_
  have w_ := d_
  subst w_
  have g := rxcRPCK_8_0 hP hin I0 hinv l8 u8 l9 u9 f0
  refine ⟨bx_narP_ok (l := []) g.1, bx_nfP_ok h0_ (fvs := []) (by decide +kernel) g.2.1, ?_, ?_⟩
  · show rxIRPCK_9 S0 ws S_p (bx_val [(0, 0), (0, 0), (0, 0), (0, 0), (0, 0), (0, 0), (0, 0), (0, 0), (8, 0)] r_p 8)
    rw [bx_val_x (n := 8) (e := (8, 0)) h0_ rfl]
    exact g.2.2.1
  · show rxmRPCK_9 S0 ws S_p (bx_val [(0, 0), (0, 0), (0, 0), (0, 0), (0, 0), (0, 0), (0, 0), (0, 0), (8, 0)] r_p 8) < rxmRPCK_8 S0 ws S_p (r 8) (r 9)
    rw [bx_val_x (n := 8) (e := (8, 0)) h0_ rfl, ← hr_ 8 (by decide), ← hr_ 9 (by decide)]
    exact g.2.2.2
theorem rxdRPCK_8_0 {S0 : Nat → Int → Int} {ws : List Int} {S : Nat → Int → Int} {st r : Int} (hP : rxPRPCK S0 ws) (hin : bx_same rxL (bx_mdl rxCRPCK.2.2.1) S0 S) (hin2 : bx_same rxL (bx_mdl rxCRPCK.2.2.1) S S) (I0 : bx_Inv rxL S) (I1 : bx_Inv rxL S) (hinv : rxIRPCK_8 S0 ws S st r) (l8 : 0 ≤ st) (u8 : st ≤ 6) (l9 : 0 ≤ r) (u9 : r ≤ 0) : (True) ∧ rxPSRPCK S0 ws S (some 0) := by
  obtain ⟨hI, hx⟩ := hinv
  obtain ⟨a_, c_⟩ := rxdRPC_8_0 hP hin hin2 I0 I1 hI l8 u8 l9 u9
  exact ⟨a_, c_, (fun g => absurd (Option.some.inj g) (by decide))⟩
theorem rxfRPCK_8_0 {X : (Nat → Int → Int) → Prop} {S0 : Nat → Int → Int} {ws : List Int} (hP : rxPRPCK S0 ws) : bx_obE rxL X S0 rxCRPCK.2.2.1 (rxIRPCK S0 ws) (rxPSRPCK S0 ws) 8 rxzRPCK_8 rxeRPCK_8_0 := by
  intro S S_p r r_p hinv hX hin hsm_ hseg
  obtain ⟨I0, I1, h0_, hr_, b_, f_, d_⟩ := bx_cl (evs := []) (fvs := []) hseg (by decide +kernel) (by decide +kernel)
  have hinv : rxIRPCK_8 S0 ws S (r 8) (r 9) := hinv
  rw [← hr_ 8 (by decide), ← hr_ 9 (by decide)] at hinv
  obtain ⟨⟨l8, u8⟩, ⟨l9, u9⟩, -⟩ := b_
  have w_ := d_
  subst w_
  have g := rxdRPCK_8_0 hP hin hsm_ I0 I1 hinv l8 u8 l9 u9
  refine ⟨bx_narP_ok (l := []) g.1, ?_⟩
  show rxPSRPCK S0 ws S_p (some (bx_num r_p (.inr (0, (0, 0)))))
  rw [bx_xv_ok h0_]
  exact g.2
theorem rxcRPCK_10_0 {S0 : Nat → Int → Int} {ws : List Int} {S : Nat → Int → Int} {st pl : Int} (hP : rxPRPCK S0 ws) (hin : bx_same rxL (bx_mdl rxCRPCK.2.2.1) S0 S) (I0 : bx_Inv rxL S) (hinv : rxIRPCK_10 S0 ws S st pl) (l8 : 0 ≤ st) (u8 : st ≤ 6) (l9 : 0 ≤ pl) (u9 : pl ≤ 6) : (True) ∧ (True) ∧ rxIRPCK_11 S0 ws S st pl ∧ rxmRPCK_11 S0 ws S st pl < rxmRPCK_10 S0 ws S st pl := by
  obtain ⟨hI, hx⟩ := hinv
  obtain ⟨a_, b_, c_, d_⟩ := rxcRPC_10_0 hP hin I0 hI l8 u8 l9 u9
  exact ⟨a_, b_, ⟨c_, (by
    have q := hI.2
    rw [hx.1.1] at q
    exact ⟨hx.1, hx.2, q⟩)⟩, d_⟩
theorem rxgRPCK_10_0 {X : (Nat → Int → Int) → Prop} {S0 : Nat → Int → Int} {ws : List Int} (hP : rxPRPCK S0 ws) : bx_obC rxL X S0 rxCRPCK.2.2.1 (rxIRPCK S0 ws) (rxmRPCK S0 ws) 10 rxzRPCK_10 rxoRPCK_10_0 := by
  intro S S_p r r_p hinv hX hin hsm_ hseg
  obtain ⟨I0, I1, h0_, hr_, b_, f_, d_⟩ := bx_cl (evs := []) (fvs := []) hseg (by decide +kernel) (by decide +kernel)
  have hinv : rxIRPCK_10 S0 ws S (r 8) (r 9) := hinv
  rw [← hr_ 8 (by decide), ← hr_ 9 (by decide)] at hinv
  obtain ⟨⟨l8, u8⟩, ⟨l9, u9⟩, -⟩ := b_
  have w_ := d_
  subst w_
  have g := rxcRPCK_10_0 hP hin I0 hinv l8 u8 l9 u9
  refine ⟨bx_narP_ok (l := []) g.1, bx_nfP_ok h0_ (fvs := []) (by decide +kernel) g.2.1, ?_, ?_⟩
  · show rxIRPCK_11 S0 ws S_p (bx_val [(0, 0), (0, 0), (0, 0), (0, 0), (0, 0), (0, 0), (0, 0), (0, 0), (8, 0), (9, 0)] r_p 8) (bx_val [(0, 0), (0, 0), (0, 0), (0, 0), (0, 0), (0, 0), (0, 0), (0, 0), (8, 0), (9, 0)] r_p 9)
    rw [bx_val_x (n := 8) (e := (8, 0)) h0_ rfl, bx_val_x (n := 9) (e := (9, 0)) h0_ rfl]
    exact g.2.2.1
  · show rxmRPCK_11 S0 ws S_p (bx_val [(0, 0), (0, 0), (0, 0), (0, 0), (0, 0), (0, 0), (0, 0), (0, 0), (8, 0), (9, 0)] r_p 8) (bx_val [(0, 0), (0, 0), (0, 0), (0, 0), (0, 0), (0, 0), (0, 0), (0, 0), (8, 0), (9, 0)] r_p 9) < rxmRPCK_10 S0 ws S_p (r 8) (r 9)
    rw [bx_val_x (n := 8) (e := (8, 0)) h0_ rfl, bx_val_x (n := 9) (e := (9, 0)) h0_ rfl, ← hr_ 8 (by decide), ← hr_ 9 (by decide)]
    exact g.2.2.2
theorem rxdRPCK_10_0 {S0 : Nat → Int → Int} {ws : List Int} {S : Nat → Int → Int} {st pl x10 : Int} (hP : rxPRPCK S0 ws) (hin : bx_same rxL (bx_mdl rxCRPCK.2.2.1) S0 S) (hin2 : bx_same rxL (bx_mdl rxCRPCK.2.2.1) S (bx_up S 412 4 x10)) (I0 : bx_Inv rxL S) (I1 : bx_Inv rxL (bx_up S 412 4 x10)) (hinv : rxIRPCK_10 S0 ws S st pl) (l8 : 0 ≤ st) (u8 : st ≤ 6) (l9 : (-2147483648) ≤ pl) (u9 : pl ≤ (-1)) (l10 : 0 ≤ x10) (u10 : x10 ≤ 400) (e1 : S 412 2 = x10) : (True) ∧ rxPSRPCK S0 ws (bx_up S 412 4 x10) (some 0) := by
  obtain ⟨hI, hx⟩ := hinv
  obtain ⟨a_, c_⟩ := rxdRPC_10_0 hP hin hin2 I0 I1 hI l8 u8 l9 u9 l10 u10 e1
  exact ⟨a_, c_, (fun g => absurd (Option.some.inj g) (by decide))⟩
theorem rxfRPCK_10_0 {X : (Nat → Int → Int) → Prop} {S0 : Nat → Int → Int} {ws : List Int} (hP : rxPRPCK S0 ws) : bx_obE rxL X S0 rxCRPCK.2.2.1 (rxIRPCK S0 ws) (rxPSRPCK S0 ws) 10 rxzRPCK_10 rxeRPCK_10_0 := by
  intro S S_p r r_p hinv hX hin hsm_ hseg
  obtain ⟨I0, I1, h0_, hr_, b_, f_, d_⟩ := bx_cl (evs := [(1, (0, 412), (0, 4), .inr (0, (10, 0))), (0, (0, 412), (0, 2), .inr (0, (10, 0)))]) (fvs := []) hseg (by decide +kernel) (by decide +kernel)
  have hinv : rxIRPCK_10 S0 ws S (r 8) (r 9) := hinv
  rw [← hr_ 8 (by decide), ← hr_ 9 (by decide)] at hinv
  obtain ⟨⟨l8, u8⟩, ⟨l9, u9⟩, ⟨l10, u10⟩, -⟩ := b_
  obtain ⟨T0, ⟨e1, w_⟩, w0⟩ := d_
  subst w0
  subst w_
  have g := rxdRPCK_10_0 hP hin hsm_ I0 I1 hinv l8 u8 l9 u9 l10 u10 e1
  refine ⟨bx_narP_ok (l := []) g.1, ?_⟩
  show rxPSRPCK S0 ws (bx_up T0 412 (4) (r_p 10)) (some (bx_num r_p (.inr (0, (0, 0)))))
  rw [bx_xv_ok h0_]
  exact g.2
theorem rxcRPCK_12_0 {S0 : Nat → Int → Int} {ws : List Int} {S : Nat → Int → Int} {st cu : Int} (hP : rxPRPCK S0 ws) (hin : bx_same rxL (bx_mdl rxCRPCK.2.2.1) S0 S) (I0 : bx_Inv rxL S) (hinv : rxIRPCK_12 S0 ws S st cu) (l8 : 0 ≤ st) (u8 : st ≤ 6) (l9 : 0 ≤ cu) (u9 : cu ≤ 6) : (True) ∧ (True) ∧ rxIRPCK_13 S0 ws S st cu ∧ rxmRPCK_13 S0 ws S st cu < rxmRPCK_12 S0 ws S st cu := by
  obtain ⟨hI, hx⟩ := hinv
  obtain ⟨a_, b_, c_, d_⟩ := rxcRPC_12_0 hP hin I0 hI l8 u8 l9 u9
  exact ⟨a_, b_, ⟨c_, hx⟩, d_⟩
theorem rxgRPCK_12_0 {X : (Nat → Int → Int) → Prop} {S0 : Nat → Int → Int} {ws : List Int} (hP : rxPRPCK S0 ws) : bx_obC rxL X S0 rxCRPCK.2.2.1 (rxIRPCK S0 ws) (rxmRPCK S0 ws) 12 rxzRPCK_12 rxoRPCK_12_0 := by
  intro S S_p r r_p hinv hX hin hsm_ hseg
  obtain ⟨I0, I1, h0_, hr_, b_, f_, d_⟩ := bx_cl (evs := []) (fvs := []) hseg (by decide +kernel) (by decide +kernel)
  have hinv : rxIRPCK_12 S0 ws S (r 8) (r 9) := hinv
  rw [← hr_ 8 (by decide), ← hr_ 9 (by decide)] at hinv
  obtain ⟨⟨l8, u8⟩, ⟨l9, u9⟩, -⟩ := b_
  have w_ := d_
  subst w_
  have g := rxcRPCK_12_0 hP hin I0 hinv l8 u8 l9 u9
  refine ⟨bx_narP_ok (l := []) g.1, bx_nfP_ok h0_ (fvs := []) (by decide +kernel) g.2.1, ?_, ?_⟩
  · show rxIRPCK_13 S0 ws S_p (bx_val [(0, 0), (0, 0), (0, 0), (0, 0), (0, 0), (0, 0), (0, 0), (0, 0), (8, 0), (9, 0)] r_p 8) (bx_val [(0, 0), (0, 0), (0, 0), (0, 0), (0, 0), (0, 0), (0, 0), (0, 0), (8, 0), (9, 0)] r_p 9)
    rw [bx_val_x (n := 8) (e := (8, 0)) h0_ rfl, bx_val_x (n := 9) (e := (9, 0)) h0_ rfl]
    exact g.2.2.1
  · show rxmRPCK_13 S0 ws S_p (bx_val [(0, 0), (0, 0), (0, 0), (0, 0), (0, 0), (0, 0), (0, 0), (0, 0), (8, 0), (9, 0)] r_p 8) (bx_val [(0, 0), (0, 0), (0, 0), (0, 0), (0, 0), (0, 0), (0, 0), (0, 0), (8, 0), (9, 0)] r_p 9) < rxmRPCK_12 S0 ws S_p (r 8) (r 9)
    rw [bx_val_x (n := 8) (e := (8, 0)) h0_ rfl, bx_val_x (n := 9) (e := (9, 0)) h0_ rfl, ← hr_ 8 (by decide), ← hr_ 9 (by decide)]
    exact g.2.2.2
theorem rxcRPCK_14_0 {S0 : Nat → Int → Int} {ws : List Int} {S : Nat → Int → Int} {st cu r : Int} (hP : rxPRPCK S0 ws) (hin : bx_same rxL (bx_mdl rxCRPCK.2.2.1) S0 S) (I0 : bx_Inv rxL S) (hinv : rxIRPCK_14 S0 ws S st cu r) (l8 : 0 ≤ st) (u8 : st ≤ 6) (l9 : 0 ≤ cu) (u9 : cu ≤ 6) (l10 : 0 ≤ r) (u10 : r ≤ 0) : (True) ∧ (True) ∧ rxIRPCK_15 S0 ws S st cu r ∧ rxmRPCK_15 S0 ws S st cu r < rxmRPCK_14 S0 ws S st cu r := by
  obtain ⟨hI, hx⟩ := hinv
  obtain ⟨a_, b_, c_, d_⟩ := rxcRPC_14_0 hP hin I0 hI l8 u8 l9 u9 l10 u10
  exact ⟨a_, b_, ⟨c_, (by
    obtain ⟨hA, hr⟩ := hI
    rw [hA.1.1, hA.1.2.1] at hr
    have b1 : rzIs (rzCut (S0 411)) (S0 412 1) rzW_hush (S 412 2) = false := by
      cases hb : rzIs (rzCut (S0 411)) (S0 412 1) rzW_hush (S 412 2) with
      | false => rfl
      | true =>
        rw [hb, if_pos rfl] at hr
        omega
    exact hx)⟩, d_⟩
theorem rxgRPCK_14_0 {X : (Nat → Int → Int) → Prop} {S0 : Nat → Int → Int} {ws : List Int} (hP : rxPRPCK S0 ws) : bx_obC rxL X S0 rxCRPCK.2.2.1 (rxIRPCK S0 ws) (rxmRPCK S0 ws) 14 rxzRPCK_14 rxoRPCK_14_0 := by
  intro S S_p r r_p hinv hX hin hsm_ hseg
  obtain ⟨I0, I1, h0_, hr_, b_, f_, d_⟩ := bx_cl (evs := []) (fvs := []) hseg (by decide +kernel) (by decide +kernel)
  have hinv : rxIRPCK_14 S0 ws S (r 8) (r 9) (r 10) := hinv
  rw [← hr_ 8 (by decide), ← hr_ 9 (by decide), ← hr_ 10 (by decide)] at hinv
  obtain ⟨⟨l8, u8⟩, ⟨l9, u9⟩, ⟨l10, u10⟩, -⟩ := b_
  have w_ := d_
  subst w_
  have g := rxcRPCK_14_0 hP hin I0 hinv l8 u8 l9 u9 l10 u10
  refine ⟨bx_narP_ok (l := []) g.1, bx_nfP_ok h0_ (fvs := []) (by decide +kernel) g.2.1, ?_, ?_⟩
  · show rxIRPCK_15 S0 ws S_p (bx_val [(0, 0), (0, 0), (0, 0), (0, 0), (0, 0), (0, 0), (0, 0), (0, 0), (8, 0), (9, 0), (10, 0)] r_p 8) (bx_val [(0, 0), (0, 0), (0, 0), (0, 0), (0, 0), (0, 0), (0, 0), (0, 0), (8, 0), (9, 0), (10, 0)] r_p 9) (bx_val [(0, 0), (0, 0), (0, 0), (0, 0), (0, 0), (0, 0), (0, 0), (0, 0), (8, 0), (9, 0), (10, 0)] r_p 10)
    rw [bx_val_x (n := 8) (e := (8, 0)) h0_ rfl, bx_val_x (n := 9) (e := (9, 0)) h0_ rfl, bx_val_x (n := 10) (e := (10, 0)) h0_ rfl]
    exact g.2.2.1
  · show rxmRPCK_15 S0 ws S_p (bx_val [(0, 0), (0, 0), (0, 0), (0, 0), (0, 0), (0, 0), (0, 0), (0, 0), (8, 0), (9, 0), (10, 0)] r_p 8) (bx_val [(0, 0), (0, 0), (0, 0), (0, 0), (0, 0), (0, 0), (0, 0), (0, 0), (8, 0), (9, 0), (10, 0)] r_p 9) (bx_val [(0, 0), (0, 0), (0, 0), (0, 0), (0, 0), (0, 0), (0, 0), (0, 0), (8, 0), (9, 0), (10, 0)] r_p 10) < rxmRPCK_14 S0 ws S_p (r 8) (r 9) (r 10)
    rw [bx_val_x (n := 8) (e := (8, 0)) h0_ rfl, bx_val_x (n := 9) (e := (9, 0)) h0_ rfl, bx_val_x (n := 10) (e := (10, 0)) h0_ rfl, ← hr_ 8 (by decide), ← hr_ 9 (by decide), ← hr_ 10 (by decide)]
    exact g.2.2.2
theorem rxcRPCK_14_1 {S0 : Nat → Int → Int} {ws : List Int} {S : Nat → Int → Int} {st cu r : Int} (hP : rxPRPCK S0 ws) (hin : bx_same rxL (bx_mdl rxCRPCK.2.2.1) S0 S) (I0 : bx_Inv rxL S) (hinv : rxIRPCK_14 S0 ws S st cu r) (l8 : 0 ≤ st) (u8 : st ≤ 6) (l9 : 0 ≤ cu) (u9 : cu ≤ 6) (l10 : 1 ≤ r) (u10 : r ≤ 1) (f0 : r ≠ 0) : (True) ∧ (True) ∧ rxIRPCK_17 S0 ws S st cu r ∧ rxmRPCK_17 S0 ws S st cu r < rxmRPCK_14 S0 ws S st cu r := by
  obtain ⟨hI, hx⟩ := hinv
  obtain ⟨a_, b_, c_, d_⟩ := rxcRPC_14_1 hP hin I0 hI l8 u8 l9 u9 l10 u10 f0
  exact ⟨a_, b_, ⟨c_, (by
    obtain ⟨hA, hr⟩ := hI
    rw [hA.1.1, hA.1.2.1] at hr
    have b1 : rzIs (rzCut (S0 411)) (S0 412 1) rzW_hush (S 412 2) = true := by
      cases hb : rzIs (rzCut (S0 411)) (S0 412 1) rzW_hush (S 412 2) with
      | true => rfl
      | false =>
        rw [hb, if_neg (by decide)] at hr
        omega
    rw [hx.1.1] at b1
    exact ⟨hx.1, hx.2.1, hx.2.2, Or.inl ⟨by omega, b1⟩, (rzN_b (T := (rzCut (S0 411))) (n := (S0 412 1)) (f := (rzN (rzCut (S0 411)) (S0 412 1) (rzN (rzCut (S0 411)) (S0 412 1) (rzN (rzCut (S0 411)) (S0 412 1) (rzN (rzCut (S0 411)) (S0 412 1) (S0 412 2))))))).2.2 (rzIs_lt (by decide) b1)⟩)⟩, d_⟩
theorem rxgRPCK_14_1 {X : (Nat → Int → Int) → Prop} {S0 : Nat → Int → Int} {ws : List Int} (hP : rxPRPCK S0 ws) : bx_obC rxL X S0 rxCRPCK.2.2.1 (rxIRPCK S0 ws) (rxmRPCK S0 ws) 14 rxzRPCK_14 rxoRPCK_14_1 := by
  intro S S_p r r_p hinv hX hin hsm_ hseg
  obtain ⟨I0, I1, h0_, hr_, b_, f_, d_⟩ := bx_cl (evs := []) (fvs := [(3, (10, 0), (0, 0), (0, 0))]) hseg (by decide +kernel) (by decide +kernel)
  have hinv : rxIRPCK_14 S0 ws S (r 8) (r 9) (r 10) := hinv
  rw [← hr_ 8 (by decide), ← hr_ 9 (by decide), ← hr_ 10 (by decide)] at hinv
  obtain ⟨⟨l8, u8⟩, ⟨l9, u9⟩, ⟨l10, u10⟩, -⟩ := b_
  obtain ⟨f0, -⟩ := f_
  have w_ := d_
  subst w_
  have g := rxcRPCK_14_1 hP hin I0 hinv l8 u8 l9 u9 l10 u10 f0
  refine ⟨bx_narP_ok (l := []) g.1, bx_nfP_ok h0_ (fvs := []) (by decide +kernel) g.2.1, ?_, ?_⟩
  · show rxIRPCK_17 S0 ws S_p (bx_val [(0, 0), (0, 0), (0, 0), (0, 0), (0, 0), (0, 0), (0, 0), (0, 0), (8, 0), (9, 0), (10, 0)] r_p 8) (bx_val [(0, 0), (0, 0), (0, 0), (0, 0), (0, 0), (0, 0), (0, 0), (0, 0), (8, 0), (9, 0), (10, 0)] r_p 9) (bx_val [(0, 0), (0, 0), (0, 0), (0, 0), (0, 0), (0, 0), (0, 0), (0, 0), (8, 0), (9, 0), (10, 0)] r_p 10)
    rw [bx_val_x (n := 8) (e := (8, 0)) h0_ rfl, bx_val_x (n := 9) (e := (9, 0)) h0_ rfl, bx_val_x (n := 10) (e := (10, 0)) h0_ rfl]
    exact g.2.2.1
  · show rxmRPCK_17 S0 ws S_p (bx_val [(0, 0), (0, 0), (0, 0), (0, 0), (0, 0), (0, 0), (0, 0), (0, 0), (8, 0), (9, 0), (10, 0)] r_p 8) (bx_val [(0, 0), (0, 0), (0, 0), (0, 0), (0, 0), (0, 0), (0, 0), (0, 0), (8, 0), (9, 0), (10, 0)] r_p 9) (bx_val [(0, 0), (0, 0), (0, 0), (0, 0), (0, 0), (0, 0), (0, 0), (0, 0), (8, 0), (9, 0), (10, 0)] r_p 10) < rxmRPCK_14 S0 ws S_p (r 8) (r 9) (r 10)
    rw [bx_val_x (n := 8) (e := (8, 0)) h0_ rfl, bx_val_x (n := 9) (e := (9, 0)) h0_ rfl, bx_val_x (n := 10) (e := (10, 0)) h0_ rfl, ← hr_ 8 (by decide), ← hr_ 9 (by decide), ← hr_ 10 (by decide)]
    exact g.2.2.2
theorem rxcRPCK_16_0 {S0 : Nat → Int → Int} {ws : List Int} {S : Nat → Int → Int} {st cu hu r : Int} (hP : rxPRPCK S0 ws) (hin : bx_same rxL (bx_mdl rxCRPCK.2.2.1) S0 S) (I0 : bx_Inv rxL S) (hinv : rxIRPCK_16 S0 ws S st cu hu r) (l8 : 0 ≤ st) (u8 : st ≤ 6) (l9 : 0 ≤ cu) (u9 : cu ≤ 6) (l10 : 0 ≤ hu) (u10 : hu ≤ 1) (l11 : 1 ≤ r) (u11 : r ≤ 1) (f0 : r ≠ 0) : (True) ∧ (True) ∧ rxIRPCK_17 S0 ws S st cu hu ∧ rxmRPCK_17 S0 ws S st cu hu < rxmRPCK_16 S0 ws S st cu hu r := by
  obtain ⟨hI, hx⟩ := hinv
  obtain ⟨a_, b_, c_, d_⟩ := rxcRPC_16_0 hP hin I0 hI l8 u8 l9 u9 l10 u10 l11 u11 f0
  exact ⟨a_, b_, ⟨c_, (by
    obtain ⟨hA, h0, h1, hr⟩ := hI
    rw [hA.1.1, hA.1.2.1] at hr
    have b1 : rzIs (rzCut (S0 411)) (S0 412 1) rzW_say (S 412 2) = true := by
      cases hb : rzIs (rzCut (S0 411)) (S0 412 1) rzW_say (S 412 2) with
      | true => rfl
      | false =>
        rw [hb, if_neg (by decide)] at hr
        omega
    rw [hx.1.1] at b1 h1
    exact ⟨hx.1, hx.2.1, hx.2.2, Or.inr ⟨h0, h1⟩, (rzN_b (T := (rzCut (S0 411))) (n := (S0 412 1)) (f := (rzN (rzCut (S0 411)) (S0 412 1) (rzN (rzCut (S0 411)) (S0 412 1) (rzN (rzCut (S0 411)) (S0 412 1) (rzN (rzCut (S0 411)) (S0 412 1) (S0 412 2))))))).2.2 (rzIs_lt (by decide) b1)⟩)⟩, d_⟩
theorem rxgRPCK_16_0 {X : (Nat → Int → Int) → Prop} {S0 : Nat → Int → Int} {ws : List Int} (hP : rxPRPCK S0 ws) : bx_obC rxL X S0 rxCRPCK.2.2.1 (rxIRPCK S0 ws) (rxmRPCK S0 ws) 16 rxzRPCK_16 rxoRPCK_16_0 := by
  intro S S_p r r_p hinv hX hin hsm_ hseg
  obtain ⟨I0, I1, h0_, hr_, b_, f_, d_⟩ := bx_cl (evs := []) (fvs := [(3, (11, 0), (0, 0), (0, 0))]) hseg (by decide +kernel) (by decide +kernel)
  have hinv : rxIRPCK_16 S0 ws S (r 8) (r 9) (r 10) (r 11) := hinv
  rw [← hr_ 8 (by decide), ← hr_ 9 (by decide), ← hr_ 10 (by decide), ← hr_ 11 (by decide)] at hinv
  obtain ⟨⟨l8, u8⟩, ⟨l9, u9⟩, ⟨l10, u10⟩, ⟨l11, u11⟩, -⟩ := b_
  obtain ⟨f0, -⟩ := f_
  have w_ := d_
  subst w_
  have g := rxcRPCK_16_0 hP hin I0 hinv l8 u8 l9 u9 l10 u10 l11 u11 f0
  refine ⟨bx_narP_ok (l := []) g.1, bx_nfP_ok h0_ (fvs := []) (by decide +kernel) g.2.1, ?_, ?_⟩
  · show rxIRPCK_17 S0 ws S_p (bx_val [(0, 0), (0, 0), (0, 0), (0, 0), (0, 0), (0, 0), (0, 0), (0, 0), (8, 0), (9, 0), (10, 0)] r_p 8) (bx_val [(0, 0), (0, 0), (0, 0), (0, 0), (0, 0), (0, 0), (0, 0), (0, 0), (8, 0), (9, 0), (10, 0)] r_p 9) (bx_val [(0, 0), (0, 0), (0, 0), (0, 0), (0, 0), (0, 0), (0, 0), (0, 0), (8, 0), (9, 0), (10, 0)] r_p 10)
    rw [bx_val_x (n := 8) (e := (8, 0)) h0_ rfl, bx_val_x (n := 9) (e := (9, 0)) h0_ rfl, bx_val_x (n := 10) (e := (10, 0)) h0_ rfl]
    exact g.2.2.1
  · show rxmRPCK_17 S0 ws S_p (bx_val [(0, 0), (0, 0), (0, 0), (0, 0), (0, 0), (0, 0), (0, 0), (0, 0), (8, 0), (9, 0), (10, 0)] r_p 8) (bx_val [(0, 0), (0, 0), (0, 0), (0, 0), (0, 0), (0, 0), (0, 0), (0, 0), (8, 0), (9, 0), (10, 0)] r_p 9) (bx_val [(0, 0), (0, 0), (0, 0), (0, 0), (0, 0), (0, 0), (0, 0), (0, 0), (8, 0), (9, 0), (10, 0)] r_p 10) < rxmRPCK_16 S0 ws S_p (r 8) (r 9) (r 10) (r 11)
    rw [bx_val_x (n := 8) (e := (8, 0)) h0_ rfl, bx_val_x (n := 9) (e := (9, 0)) h0_ rfl, bx_val_x (n := 10) (e := (10, 0)) h0_ rfl, ← hr_ 8 (by decide), ← hr_ 9 (by decide), ← hr_ 10 (by decide), ← hr_ 11 (by decide)]
    exact g.2.2.2
theorem rxdRPCK_16_0 {S0 : Nat → Int → Int} {ws : List Int} {S : Nat → Int → Int} {st cu hu r x12 : Int} (hP : rxPRPCK S0 ws) (hin : bx_same rxL (bx_mdl rxCRPCK.2.2.1) S0 S) (hin2 : bx_same rxL (bx_mdl rxCRPCK.2.2.1) S (bx_up S 412 4 x12)) (I0 : bx_Inv rxL S) (I1 : bx_Inv rxL (bx_up S 412 4 x12)) (hinv : rxIRPCK_16 S0 ws S st cu hu r) (l8 : 0 ≤ st) (u8 : st ≤ 6) (l9 : 0 ≤ cu) (u9 : cu ≤ 6) (l10 : 0 ≤ hu) (u10 : hu ≤ 1) (l11 : 0 ≤ r) (u11 : r ≤ 0) (l12 : 0 ≤ x12) (u12 : x12 ≤ 400) (e1 : S 412 2 = x12) : (True) ∧ rxPSRPCK S0 ws (bx_up S 412 4 x12) (some 0) := by
  obtain ⟨hI, hx⟩ := hinv
  obtain ⟨a_, c_⟩ := rxdRPC_16_0 hP hin hin2 I0 I1 hI l8 u8 l9 u9 l10 u10 l11 u11 l12 u12 e1
  exact ⟨a_, c_, (fun g => absurd (Option.some.inj g) (by decide))⟩
theorem rxfRPCK_16_0 {X : (Nat → Int → Int) → Prop} {S0 : Nat → Int → Int} {ws : List Int} (hP : rxPRPCK S0 ws) : bx_obE rxL X S0 rxCRPCK.2.2.1 (rxIRPCK S0 ws) (rxPSRPCK S0 ws) 16 rxzRPCK_16 rxeRPCK_16_0 := by
  intro S S_p r r_p hinv hX hin hsm_ hseg
  obtain ⟨I0, I1, h0_, hr_, b_, f_, d_⟩ := bx_cl (evs := [(1, (0, 412), (0, 4), .inr (0, (12, 0))), (0, (0, 412), (0, 2), .inr (0, (12, 0)))]) (fvs := []) hseg (by decide +kernel) (by decide +kernel)
  have hinv : rxIRPCK_16 S0 ws S (r 8) (r 9) (r 10) (r 11) := hinv
  rw [← hr_ 8 (by decide), ← hr_ 9 (by decide), ← hr_ 10 (by decide), ← hr_ 11 (by decide)] at hinv
  obtain ⟨⟨l8, u8⟩, ⟨l9, u9⟩, ⟨l10, u10⟩, ⟨l11, u11⟩, ⟨l12, u12⟩, -⟩ := b_
  obtain ⟨T0, ⟨e1, w_⟩, w0⟩ := d_
  subst w0
  subst w_
  have g := rxdRPCK_16_0 hP hin hsm_ I0 I1 hinv l8 u8 l9 u9 l10 u10 l11 u11 l12 u12 e1
  refine ⟨bx_narP_ok (l := []) g.1, ?_⟩
  show rxPSRPCK S0 ws (bx_up T0 412 (4) (r_p 12)) (some (bx_num r_p (.inr (0, (0, 0)))))
  rw [bx_xv_ok h0_]
  exact g.2
theorem rxcRPCK_18_0 {S0 : Nat → Int → Int} {ws : List Int} {S : Nat → Int → Int} {st cu hu : Int} (hP : rxPRPCK S0 ws) (hin : bx_same rxL (bx_mdl rxCRPCK.2.2.1) S0 S) (I0 : bx_Inv rxL S) (hinv : rxIRPCK_18 S0 ws S st cu hu) (l8 : 0 ≤ st) (u8 : st ≤ 6) (l9 : 0 ≤ cu) (u9 : cu ≤ 6) (l10 : 1 ≤ hu) (u10 : hu ≤ 1) (f0 : hu ≠ 0) : (True) ∧ (True) ∧ rxIRPCK_19 S0 ws S st cu hu 4 ∧ rxmRPCK_19 S0 ws S st cu hu 4 < rxmRPCK_18 S0 ws S st cu hu := by
  obtain ⟨hI, hx⟩ := hinv
  obtain ⟨a_, b_, c_, d_⟩ := rxcRPC_18_0 hP hin I0 hI l8 u8 l9 u9 l10 u10 f0
  exact ⟨a_, b_, ⟨c_, (by
    refine ⟨hx.1, hx.2.1, hx.2.2.1, hx.2.2.2, ?_⟩
    (repeat' split) <;> omega)⟩, d_⟩
theorem rxgRPCK_18_0 {X : (Nat → Int → Int) → Prop} {S0 : Nat → Int → Int} {ws : List Int} (hP : rxPRPCK S0 ws) : bx_obC rxL X S0 rxCRPCK.2.2.1 (rxIRPCK S0 ws) (rxmRPCK S0 ws) 18 rxzRPCK_18 rxoRPCK_18_0 := by
  intro S S_p r r_p hinv hX hin hsm_ hseg
  obtain ⟨I0, I1, h0_, hr_, b_, f_, d_⟩ := bx_cl (evs := []) (fvs := [(3, (10, 0), (0, 0), (0, 0))]) hseg (by decide +kernel) (by decide +kernel)
  have hinv : rxIRPCK_18 S0 ws S (r 8) (r 9) (r 10) := hinv
  rw [← hr_ 8 (by decide), ← hr_ 9 (by decide), ← hr_ 10 (by decide)] at hinv
  obtain ⟨⟨l8, u8⟩, ⟨l9, u9⟩, ⟨l10, u10⟩, -⟩ := b_
  obtain ⟨f0, -⟩ := f_
  have w_ := d_
  subst w_
  have g := rxcRPCK_18_0 hP hin I0 hinv l8 u8 l9 u9 l10 u10 f0
  refine ⟨bx_narP_ok (l := []) g.1, bx_nfP_ok h0_ (fvs := []) (by decide +kernel) g.2.1, ?_, ?_⟩
  · show rxIRPCK_19 S0 ws S_p (bx_val [(0, 0), (0, 0), (0, 0), (0, 0), (0, 0), (0, 0), (0, 0), (0, 0), (8, 0), (9, 0), (10, 0), (0, 4)] r_p 8) (bx_val [(0, 0), (0, 0), (0, 0), (0, 0), (0, 0), (0, 0), (0, 0), (0, 0), (8, 0), (9, 0), (10, 0), (0, 4)] r_p 9) (bx_val [(0, 0), (0, 0), (0, 0), (0, 0), (0, 0), (0, 0), (0, 0), (0, 0), (8, 0), (9, 0), (10, 0), (0, 4)] r_p 10) (bx_val [(0, 0), (0, 0), (0, 0), (0, 0), (0, 0), (0, 0), (0, 0), (0, 0), (8, 0), (9, 0), (10, 0), (0, 4)] r_p 11)
    rw [bx_val_x (n := 8) (e := (8, 0)) h0_ rfl, bx_val_x (n := 9) (e := (9, 0)) h0_ rfl, bx_val_x (n := 10) (e := (10, 0)) h0_ rfl, bx_val_x (n := 11) (e := (0, 4)) h0_ rfl]
    exact g.2.2.1
  · show rxmRPCK_19 S0 ws S_p (bx_val [(0, 0), (0, 0), (0, 0), (0, 0), (0, 0), (0, 0), (0, 0), (0, 0), (8, 0), (9, 0), (10, 0), (0, 4)] r_p 8) (bx_val [(0, 0), (0, 0), (0, 0), (0, 0), (0, 0), (0, 0), (0, 0), (0, 0), (8, 0), (9, 0), (10, 0), (0, 4)] r_p 9) (bx_val [(0, 0), (0, 0), (0, 0), (0, 0), (0, 0), (0, 0), (0, 0), (0, 0), (8, 0), (9, 0), (10, 0), (0, 4)] r_p 10) (bx_val [(0, 0), (0, 0), (0, 0), (0, 0), (0, 0), (0, 0), (0, 0), (0, 0), (8, 0), (9, 0), (10, 0), (0, 4)] r_p 11) < rxmRPCK_18 S0 ws S_p (r 8) (r 9) (r 10)
    rw [bx_val_x (n := 8) (e := (8, 0)) h0_ rfl, bx_val_x (n := 9) (e := (9, 0)) h0_ rfl, bx_val_x (n := 10) (e := (10, 0)) h0_ rfl, bx_val_x (n := 11) (e := (0, 4)) h0_ rfl, ← hr_ 8 (by decide), ← hr_ 9 (by decide), ← hr_ 10 (by decide)]
    exact g.2.2.2
theorem rxcRPCK_18_1 {S0 : Nat → Int → Int} {ws : List Int} {S : Nat → Int → Int} {st cu hu : Int} (hP : rxPRPCK S0 ws) (hin : bx_same rxL (bx_mdl rxCRPCK.2.2.1) S0 S) (I0 : bx_Inv rxL S) (hinv : rxIRPCK_18 S0 ws S st cu hu) (l8 : 0 ≤ st) (u8 : st ≤ 6) (l9 : 0 ≤ cu) (u9 : cu ≤ 6) (l10 : 0 ≤ hu) (u10 : hu ≤ 0) : (True) ∧ (True) ∧ rxIRPCK_19 S0 ws S st cu hu 3 ∧ rxmRPCK_19 S0 ws S st cu hu 3 < rxmRPCK_18 S0 ws S st cu hu := by
  obtain ⟨hI, hx⟩ := hinv
  obtain ⟨a_, b_, c_, d_⟩ := rxcRPC_18_1 hP hin I0 hI l8 u8 l9 u9 l10 u10
  exact ⟨a_, b_, ⟨c_, (by
    refine ⟨hx.1, hx.2.1, hx.2.2.1, hx.2.2.2, ?_⟩
    (repeat' split) <;> omega)⟩, d_⟩
theorem rxgRPCK_18_1 {X : (Nat → Int → Int) → Prop} {S0 : Nat → Int → Int} {ws : List Int} (hP : rxPRPCK S0 ws) : bx_obC rxL X S0 rxCRPCK.2.2.1 (rxIRPCK S0 ws) (rxmRPCK S0 ws) 18 rxzRPCK_18 rxoRPCK_18_1 := by
  intro S S_p r r_p hinv hX hin hsm_ hseg
  obtain ⟨I0, I1, h0_, hr_, b_, f_, d_⟩ := bx_cl (evs := []) (fvs := []) hseg (by decide +kernel) (by decide +kernel)
  have hinv : rxIRPCK_18 S0 ws S (r 8) (r 9) (r 10) := hinv
  rw [← hr_ 8 (by decide), ← hr_ 9 (by decide), ← hr_ 10 (by decide)] at hinv
  obtain ⟨⟨l8, u8⟩, ⟨l9, u9⟩, ⟨l10, u10⟩, -⟩ := b_
  have w_ := d_
  subst w_
  have g := rxcRPCK_18_1 hP hin I0 hinv l8 u8 l9 u9 l10 u10
  refine ⟨bx_narP_ok (l := []) g.1, bx_nfP_ok h0_ (fvs := []) (by decide +kernel) g.2.1, ?_, ?_⟩
  · show rxIRPCK_19 S0 ws S_p (bx_val [(0, 0), (0, 0), (0, 0), (0, 0), (0, 0), (0, 0), (0, 0), (0, 0), (8, 0), (9, 0), (10, 0), (0, 3)] r_p 8) (bx_val [(0, 0), (0, 0), (0, 0), (0, 0), (0, 0), (0, 0), (0, 0), (0, 0), (8, 0), (9, 0), (10, 0), (0, 3)] r_p 9) (bx_val [(0, 0), (0, 0), (0, 0), (0, 0), (0, 0), (0, 0), (0, 0), (0, 0), (8, 0), (9, 0), (10, 0), (0, 3)] r_p 10) (bx_val [(0, 0), (0, 0), (0, 0), (0, 0), (0, 0), (0, 0), (0, 0), (0, 0), (8, 0), (9, 0), (10, 0), (0, 3)] r_p 11)
    rw [bx_val_x (n := 8) (e := (8, 0)) h0_ rfl, bx_val_x (n := 9) (e := (9, 0)) h0_ rfl, bx_val_x (n := 10) (e := (10, 0)) h0_ rfl, bx_val_x (n := 11) (e := (0, 3)) h0_ rfl]
    exact g.2.2.1
  · show rxmRPCK_19 S0 ws S_p (bx_val [(0, 0), (0, 0), (0, 0), (0, 0), (0, 0), (0, 0), (0, 0), (0, 0), (8, 0), (9, 0), (10, 0), (0, 3)] r_p 8) (bx_val [(0, 0), (0, 0), (0, 0), (0, 0), (0, 0), (0, 0), (0, 0), (0, 0), (8, 0), (9, 0), (10, 0), (0, 3)] r_p 9) (bx_val [(0, 0), (0, 0), (0, 0), (0, 0), (0, 0), (0, 0), (0, 0), (0, 0), (8, 0), (9, 0), (10, 0), (0, 3)] r_p 10) (bx_val [(0, 0), (0, 0), (0, 0), (0, 0), (0, 0), (0, 0), (0, 0), (0, 0), (8, 0), (9, 0), (10, 0), (0, 3)] r_p 11) < rxmRPCK_18 S0 ws S_p (r 8) (r 9) (r 10)
    rw [bx_val_x (n := 8) (e := (8, 0)) h0_ rfl, bx_val_x (n := 9) (e := (9, 0)) h0_ rfl, bx_val_x (n := 10) (e := (10, 0)) h0_ rfl, bx_val_x (n := 11) (e := (0, 3)) h0_ rfl, ← hr_ 8 (by decide), ← hr_ 9 (by decide), ← hr_ 10 (by decide)]
    exact g.2.2.2
theorem rxcRPCK_20_0 {S0 : Nat → Int → Int} {ws : List Int} {S : Nat → Int → Int} {st cu hu ki x12 : Int} (hP : rxPRPCK S0 ws) (hin : bx_same rxL (bx_mdl rxCRPCK.2.2.1) S0 S) (I0 : bx_Inv rxL S) (hinv : rxIRPCK_20 S0 ws S st cu hu ki) (l8 : 0 ≤ st) (u8 : st ≤ 6) (l9 : 0 ≤ cu) (u9 : cu ≤ 6) (l10 : 0 ≤ hu) (u10 : hu ≤ 0) (l11 : 0 ≤ ki) (u11 : ki ≤ 4) (l12 : 0 ≤ x12) (u12 : x12 ≤ 1522) (e0 : S 427 8 = x12) : (True) ∧ (True) ∧ rxIRPCK_21 S0 ws S st cu hu x12 ∧ rxmRPCK_21 S0 ws S st cu hu x12 < rxmRPCK_20 S0 ws S st cu hu ki := by
  obtain ⟨hI, hx⟩ := hinv
  obtain ⟨a_, b_, c_, d_⟩ := rxcRPC_20_0 hP hin I0 hI l8 u8 l9 u9 l10 u10 l11 u11 l12 u12 e0
  exact ⟨a_, b_, ⟨c_, (by
    obtain ⟨h1, h2, h3, ⟨h4, h5⟩, h6⟩ := hx
    have hh : hu = 0 := by omega
    have k3 : ki = 3 := by
      rw [h6, if_neg (show ¬ hu = 1 by omega)]
    subst k3
    exact ⟨fun hp => ⟨h1 hp, e0.symm.trans (h1 hp).2.2.2.2.1⟩, h2, h3, hh, h4.elim (fun z => by omega) fun z => z.2, h5⟩)⟩, d_⟩
theorem rxgRPCK_20_0 {X : (Nat → Int → Int) → Prop} {S0 : Nat → Int → Int} {ws : List Int} (hP : rxPRPCK S0 ws) : bx_obC rxL X S0 rxCRPCK.2.2.1 (rxIRPCK S0 ws) (rxmRPCK S0 ws) 20 rxzRPCK_20 rxoRPCK_20_0 := by
  intro S S_p r r_p hinv hX hin hsm_ hseg
  obtain ⟨I0, I1, h0_, hr_, b_, f_, d_⟩ := bx_cl (evs := [(0, (0, 427), (0, 8), .inr (3, (12, 0)))]) (fvs := []) hseg (by decide +kernel) (by decide +kernel)
  have hinv : rxIRPCK_20 S0 ws S (r 8) (r 9) (r 10) (r 11) := hinv
  rw [← hr_ 8 (by decide), ← hr_ 9 (by decide), ← hr_ 10 (by decide), ← hr_ 11 (by decide)] at hinv
  obtain ⟨⟨l8, u8⟩, ⟨l9, u9⟩, ⟨l10, u10⟩, ⟨l11, u11⟩, ⟨l12, u12⟩, -⟩ := b_
  obtain ⟨e0, w_⟩ := d_
  subst w_
  have g := rxcRPCK_20_0 hP hin I0 hinv l8 u8 l9 u9 l10 u10 l11 u11 l12 u12 e0
  refine ⟨bx_narP_ok (l := []) g.1, bx_nfP_ok h0_ (fvs := []) (by decide +kernel) g.2.1, ?_, ?_⟩
  · show rxIRPCK_21 S0 ws S_p (bx_val [(0, 0), (0, 0), (0, 0), (0, 0), (0, 0), (0, 0), (0, 0), (0, 0), (8, 0), (9, 0), (10, 0), (12, 0)] r_p 8) (bx_val [(0, 0), (0, 0), (0, 0), (0, 0), (0, 0), (0, 0), (0, 0), (0, 0), (8, 0), (9, 0), (10, 0), (12, 0)] r_p 9) (bx_val [(0, 0), (0, 0), (0, 0), (0, 0), (0, 0), (0, 0), (0, 0), (0, 0), (8, 0), (9, 0), (10, 0), (12, 0)] r_p 10) (bx_val [(0, 0), (0, 0), (0, 0), (0, 0), (0, 0), (0, 0), (0, 0), (0, 0), (8, 0), (9, 0), (10, 0), (12, 0)] r_p 11)
    rw [bx_val_x (n := 8) (e := (8, 0)) h0_ rfl, bx_val_x (n := 9) (e := (9, 0)) h0_ rfl, bx_val_x (n := 10) (e := (10, 0)) h0_ rfl, bx_val_x (n := 11) (e := (12, 0)) h0_ rfl]
    exact g.2.2.1
  · show rxmRPCK_21 S0 ws S_p (bx_val [(0, 0), (0, 0), (0, 0), (0, 0), (0, 0), (0, 0), (0, 0), (0, 0), (8, 0), (9, 0), (10, 0), (12, 0)] r_p 8) (bx_val [(0, 0), (0, 0), (0, 0), (0, 0), (0, 0), (0, 0), (0, 0), (0, 0), (8, 0), (9, 0), (10, 0), (12, 0)] r_p 9) (bx_val [(0, 0), (0, 0), (0, 0), (0, 0), (0, 0), (0, 0), (0, 0), (0, 0), (8, 0), (9, 0), (10, 0), (12, 0)] r_p 10) (bx_val [(0, 0), (0, 0), (0, 0), (0, 0), (0, 0), (0, 0), (0, 0), (0, 0), (8, 0), (9, 0), (10, 0), (12, 0)] r_p 11) < rxmRPCK_20 S0 ws S_p (r 8) (r 9) (r 10) (r 11)
    rw [bx_val_x (n := 8) (e := (8, 0)) h0_ rfl, bx_val_x (n := 9) (e := (9, 0)) h0_ rfl, bx_val_x (n := 10) (e := (10, 0)) h0_ rfl, bx_val_x (n := 11) (e := (12, 0)) h0_ rfl, ← hr_ 8 (by decide), ← hr_ 9 (by decide), ← hr_ 10 (by decide), ← hr_ 11 (by decide)]
    exact g.2.2.2
theorem rxdRPCK_20_0 {S0 : Nat → Int → Int} {ws : List Int} {S : Nat → Int → Int} {st cu hu ki : Int} (hP : rxPRPCK S0 ws) (hin : bx_same rxL (bx_mdl rxCRPCK.2.2.1) S0 S) (hin2 : bx_same rxL (bx_mdl rxCRPCK.2.2.1) S S) (I0 : bx_Inv rxL S) (I1 : bx_Inv rxL S) (hinv : rxIRPCK_20 S0 ws S st cu hu ki) (l8 : 0 ≤ st) (u8 : st ≤ 6) (l9 : 0 ≤ cu) (u9 : cu ≤ 6) (l10 : 1 ≤ hu) (u10 : hu ≤ 1) (l11 : 0 ≤ ki) (u11 : ki ≤ 4) (f0 : hu ≠ 0) : (True) ∧ rxPSRPCK S0 ws S (some 1) := by
  obtain ⟨hI, hx⟩ := hinv
  obtain ⟨a_, c_⟩ := rxdRPC_20_0 hP hin hin2 I0 I1 hI l8 u8 l9 u9 l10 u10 l11 u11 f0
  exact ⟨a_, c_, (by
    intro g_ hp
    obtain ⟨hc, e2, e7, e0, hpp⟩ := hx.1 hp
    obtain ⟨-, h2, h3, ⟨h4, h5⟩, h6⟩ := hx
    rcases h4 with ⟨z, y⟩ | ⟨z, y⟩
    · rw [h6, if_pos z] at hc
      exact ⟨_, ⟨_, _, _, _, rfl, rfl, rfl, rfl, rzAlt_y y rfl⟩, by rw [← h2, ← h3]; exact hc⟩
    · exfalso
      omega)⟩
theorem rxfRPCK_20_0 {X : (Nat → Int → Int) → Prop} {S0 : Nat → Int → Int} {ws : List Int} (hP : rxPRPCK S0 ws) : bx_obE rxL X S0 rxCRPCK.2.2.1 (rxIRPCK S0 ws) (rxPSRPCK S0 ws) 20 rxzRPCK_20 rxeRPCK_20_0 := by
  intro S S_p r r_p hinv hX hin hsm_ hseg
  obtain ⟨I0, I1, h0_, hr_, b_, f_, d_⟩ := bx_cl (evs := []) (fvs := [(3, (10, 0), (0, 0), (0, 0))]) hseg (by decide +kernel) (by decide +kernel)
  have hinv : rxIRPCK_20 S0 ws S (r 8) (r 9) (r 10) (r 11) := hinv
  rw [← hr_ 8 (by decide), ← hr_ 9 (by decide), ← hr_ 10 (by decide), ← hr_ 11 (by decide)] at hinv
  obtain ⟨⟨l8, u8⟩, ⟨l9, u9⟩, ⟨l10, u10⟩, ⟨l11, u11⟩, -⟩ := b_
  obtain ⟨f0, -⟩ := f_
  have w_ := d_
  subst w_
  have g := rxdRPCK_20_0 hP hin hsm_ I0 I1 hinv l8 u8 l9 u9 l10 u10 l11 u11 f0
  refine ⟨bx_narP_ok (l := []) g.1, ?_⟩
  show rxPSRPCK S0 ws S_p (some (bx_num r_p (.inr (0, (0, 1)))))
  rw [bx_xv_ok h0_]
  exact g.2
theorem rxcRPCK_22_0 {S0 : Nat → Int → Int} {ws : List Int} {S : Nat → Int → Int} {st cu hu sa res : Int} (hP : rxPRPCK S0 ws) (hin : bx_same rxL (bx_mdl rxCRPCK.2.2.1) S0 S) (I0 : bx_Inv rxL S) (hinv : rxIRPCK_22 S0 ws S st cu hu sa res) (l8 : 0 ≤ st) (u8 : st ≤ 6) (l9 : 0 ≤ cu) (u9 : cu ≤ 6) (l10 : 0 ≤ hu) (u10 : hu ≤ 1) (l11 : 0 ≤ sa) (u11 : sa ≤ 1522) (l12 : 1 ≤ res) (u12 : res ≤ 1) (f0 : res ≠ 0) : (True) ∧ (True) ∧ rxIRPCK_23 S0 ws S st cu hu ∧ rxmRPCK_23 S0 ws S st cu hu < rxmRPCK_22 S0 ws S st cu hu sa res := by
  obtain ⟨hI, hx⟩ := hinv
  obtain ⟨a_, b_, c_, d_⟩ := rxcRPC_22_0 hP hin I0 hI l8 u8 l9 u9 l10 u10 l11 u11 l12 u12 f0
  exact ⟨a_, b_, ⟨c_, (by
    exact hx (by omega))⟩, d_⟩
theorem rxgRPCK_22_0 {X : (Nat → Int → Int) → Prop} {S0 : Nat → Int → Int} {ws : List Int} (hP : rxPRPCK S0 ws) : bx_obC rxL X S0 rxCRPCK.2.2.1 (rxIRPCK S0 ws) (rxmRPCK S0 ws) 22 rxzRPCK_22 rxoRPCK_22_0 := by
  intro S S_p r r_p hinv hX hin hsm_ hseg
  obtain ⟨I0, I1, h0_, hr_, b_, f_, d_⟩ := bx_cl (evs := []) (fvs := [(3, (12, 0), (0, 0), (0, 0))]) hseg (by decide +kernel) (by decide +kernel)
  have hinv : rxIRPCK_22 S0 ws S (r 8) (r 9) (r 10) (r 11) (r 12) := hinv
  rw [← hr_ 8 (by decide), ← hr_ 9 (by decide), ← hr_ 10 (by decide), ← hr_ 11 (by decide), ← hr_ 12 (by decide)] at hinv
  obtain ⟨⟨l8, u8⟩, ⟨l9, u9⟩, ⟨l10, u10⟩, ⟨l11, u11⟩, ⟨l12, u12⟩, -⟩ := b_
  obtain ⟨f0, -⟩ := f_
  have w_ := d_
  subst w_
  have g := rxcRPCK_22_0 hP hin I0 hinv l8 u8 l9 u9 l10 u10 l11 u11 l12 u12 f0
  refine ⟨bx_narP_ok (l := []) g.1, bx_nfP_ok h0_ (fvs := []) (by decide +kernel) g.2.1, ?_, ?_⟩
  · show rxIRPCK_23 S0 ws S_p (bx_val [(0, 0), (0, 0), (0, 0), (0, 0), (0, 0), (0, 0), (0, 0), (0, 0), (8, 0), (9, 0), (10, 0)] r_p 8) (bx_val [(0, 0), (0, 0), (0, 0), (0, 0), (0, 0), (0, 0), (0, 0), (0, 0), (8, 0), (9, 0), (10, 0)] r_p 9) (bx_val [(0, 0), (0, 0), (0, 0), (0, 0), (0, 0), (0, 0), (0, 0), (0, 0), (8, 0), (9, 0), (10, 0)] r_p 10)
    rw [bx_val_x (n := 8) (e := (8, 0)) h0_ rfl, bx_val_x (n := 9) (e := (9, 0)) h0_ rfl, bx_val_x (n := 10) (e := (10, 0)) h0_ rfl]
    exact g.2.2.1
  · show rxmRPCK_23 S0 ws S_p (bx_val [(0, 0), (0, 0), (0, 0), (0, 0), (0, 0), (0, 0), (0, 0), (0, 0), (8, 0), (9, 0), (10, 0)] r_p 8) (bx_val [(0, 0), (0, 0), (0, 0), (0, 0), (0, 0), (0, 0), (0, 0), (0, 0), (8, 0), (9, 0), (10, 0)] r_p 9) (bx_val [(0, 0), (0, 0), (0, 0), (0, 0), (0, 0), (0, 0), (0, 0), (0, 0), (8, 0), (9, 0), (10, 0)] r_p 10) < rxmRPCK_22 S0 ws S_p (r 8) (r 9) (r 10) (r 11) (r 12)
    rw [bx_val_x (n := 8) (e := (8, 0)) h0_ rfl, bx_val_x (n := 9) (e := (9, 0)) h0_ rfl, bx_val_x (n := 10) (e := (10, 0)) h0_ rfl, ← hr_ 8 (by decide), ← hr_ 9 (by decide), ← hr_ 10 (by decide), ← hr_ 11 (by decide), ← hr_ 12 (by decide)]
    exact g.2.2.2
theorem rxdRPCK_22_0 {S0 : Nat → Int → Int} {ws : List Int} {S : Nat → Int → Int} {st cu hu sa res : Int} (hP : rxPRPCK S0 ws) (hin : bx_same rxL (bx_mdl rxCRPCK.2.2.1) S0 S) (hin2 : bx_same rxL (bx_mdl rxCRPCK.2.2.1) S S) (I0 : bx_Inv rxL S) (I1 : bx_Inv rxL S) (hinv : rxIRPCK_22 S0 ws S st cu hu sa res) (l8 : 0 ≤ st) (u8 : st ≤ 6) (l9 : 0 ≤ cu) (u9 : cu ≤ 6) (l10 : 0 ≤ hu) (u10 : hu ≤ 1) (l11 : 0 ≤ sa) (u11 : sa ≤ 1522) (l12 : 0 ≤ res) (u12 : res ≤ 0) : (True) ∧ rxPSRPCK S0 ws S (some 0) := by
  obtain ⟨hI, hx⟩ := hinv
  obtain ⟨a_, c_⟩ := rxdRPC_22_0 hP hin hin2 I0 I1 hI l8 u8 l9 u9 l10 u10 l11 u11 l12 u12
  exact ⟨a_, c_, (fun g => absurd (Option.some.inj g) (by decide))⟩
theorem rxfRPCK_22_0 {X : (Nat → Int → Int) → Prop} {S0 : Nat → Int → Int} {ws : List Int} (hP : rxPRPCK S0 ws) : bx_obE rxL X S0 rxCRPCK.2.2.1 (rxIRPCK S0 ws) (rxPSRPCK S0 ws) 22 rxzRPCK_22 rxeRPCK_22_0 := by
  intro S S_p r r_p hinv hX hin hsm_ hseg
  obtain ⟨I0, I1, h0_, hr_, b_, f_, d_⟩ := bx_cl (evs := []) (fvs := []) hseg (by decide +kernel) (by decide +kernel)
  have hinv : rxIRPCK_22 S0 ws S (r 8) (r 9) (r 10) (r 11) (r 12) := hinv
  rw [← hr_ 8 (by decide), ← hr_ 9 (by decide), ← hr_ 10 (by decide), ← hr_ 11 (by decide), ← hr_ 12 (by decide)] at hinv
  obtain ⟨⟨l8, u8⟩, ⟨l9, u9⟩, ⟨l10, u10⟩, ⟨l11, u11⟩, ⟨l12, u12⟩, -⟩ := b_
  have w_ := d_
  subst w_
  have g := rxdRPCK_22_0 hP hin hsm_ I0 I1 hinv l8 u8 l9 u9 l10 u10 l11 u11 l12 u12
  refine ⟨bx_narP_ok (l := []) g.1, ?_⟩
  show rxPSRPCK S0 ws S_p (some (bx_num r_p (.inr (0, (0, 0)))))
  rw [bx_xv_ok h0_]
  exact g.2
theorem rxcRPCK_24_0 {S0 : Nat → Int → Int} {ws : List Int} {S : Nat → Int → Int} {st cu hu r : Int} (hP : rxPRPCK S0 ws) (hin : bx_same rxL (bx_mdl rxCRPCK.2.2.1) S0 S) (I0 : bx_Inv rxL S) (hinv : rxIRPCK_24 S0 ws S st cu hu r) (l8 : 0 ≤ st) (u8 : st ≤ 6) (l9 : 0 ≤ cu) (u9 : cu ≤ 6) (l10 : 0 ≤ hu) (u10 : hu ≤ 1) (l11 : 1 ≤ r) (u11 : r ≤ 1) (f0 : r ≠ 0) : (True) ∧ (True) ∧ rxIRPCK_25 S0 ws S st cu hu ∧ rxmRPCK_25 S0 ws S st cu hu < rxmRPCK_24 S0 ws S st cu hu r := by
  obtain ⟨hI, hx⟩ := hinv
  obtain ⟨a_, b_, c_, d_⟩ := rxcRPC_24_0 hP hin I0 hI l8 u8 l9 u9 l10 u10 l11 u11 f0
  exact ⟨a_, b_, ⟨c_, (by
    obtain ⟨hA, hr⟩ := hI
    rw [hA.1.1, hA.1.2.1] at hr
    have b1 : rzIs (rzCut (S0 411)) (S0 412 1) rzW_go (S 412 2) = true := by
      cases hb : rzIs (rzCut (S0 411)) (S0 412 1) rzW_go (S 412 2) with
      | true => rfl
      | false =>
        rw [hb, if_neg (by decide)] at hr
        omega
    refine ⟨fun hp => ?_, hx.2⟩
    obtain ⟨d, r, d1, r1, r2, r3, r4⟩ := hx.1 hp
    rw [r2] at b1
    exact ⟨d, r, d1, r1, r2, r3, r4, b1⟩)⟩, d_⟩
theorem rxgRPCK_24_0 {X : (Nat → Int → Int) → Prop} {S0 : Nat → Int → Int} {ws : List Int} (hP : rxPRPCK S0 ws) : bx_obC rxL X S0 rxCRPCK.2.2.1 (rxIRPCK S0 ws) (rxmRPCK S0 ws) 24 rxzRPCK_24 rxoRPCK_24_0 := by
  intro S S_p r r_p hinv hX hin hsm_ hseg
  obtain ⟨I0, I1, h0_, hr_, b_, f_, d_⟩ := bx_cl (evs := []) (fvs := [(3, (11, 0), (0, 0), (0, 0))]) hseg (by decide +kernel) (by decide +kernel)
  have hinv : rxIRPCK_24 S0 ws S (r 8) (r 9) (r 10) (r 11) := hinv
  rw [← hr_ 8 (by decide), ← hr_ 9 (by decide), ← hr_ 10 (by decide), ← hr_ 11 (by decide)] at hinv
  obtain ⟨⟨l8, u8⟩, ⟨l9, u9⟩, ⟨l10, u10⟩, ⟨l11, u11⟩, -⟩ := b_
  obtain ⟨f0, -⟩ := f_
  have w_ := d_
  subst w_
  have g := rxcRPCK_24_0 hP hin I0 hinv l8 u8 l9 u9 l10 u10 l11 u11 f0
  refine ⟨bx_narP_ok (l := []) g.1, bx_nfP_ok h0_ (fvs := []) (by decide +kernel) g.2.1, ?_, ?_⟩
  · show rxIRPCK_25 S0 ws S_p (bx_val [(0, 0), (0, 0), (0, 0), (0, 0), (0, 0), (0, 0), (0, 0), (0, 0), (8, 0), (9, 0), (10, 0)] r_p 8) (bx_val [(0, 0), (0, 0), (0, 0), (0, 0), (0, 0), (0, 0), (0, 0), (0, 0), (8, 0), (9, 0), (10, 0)] r_p 9) (bx_val [(0, 0), (0, 0), (0, 0), (0, 0), (0, 0), (0, 0), (0, 0), (0, 0), (8, 0), (9, 0), (10, 0)] r_p 10)
    rw [bx_val_x (n := 8) (e := (8, 0)) h0_ rfl, bx_val_x (n := 9) (e := (9, 0)) h0_ rfl, bx_val_x (n := 10) (e := (10, 0)) h0_ rfl]
    exact g.2.2.1
  · show rxmRPCK_25 S0 ws S_p (bx_val [(0, 0), (0, 0), (0, 0), (0, 0), (0, 0), (0, 0), (0, 0), (0, 0), (8, 0), (9, 0), (10, 0)] r_p 8) (bx_val [(0, 0), (0, 0), (0, 0), (0, 0), (0, 0), (0, 0), (0, 0), (0, 0), (8, 0), (9, 0), (10, 0)] r_p 9) (bx_val [(0, 0), (0, 0), (0, 0), (0, 0), (0, 0), (0, 0), (0, 0), (0, 0), (8, 0), (9, 0), (10, 0)] r_p 10) < rxmRPCK_24 S0 ws S_p (r 8) (r 9) (r 10) (r 11)
    rw [bx_val_x (n := 8) (e := (8, 0)) h0_ rfl, bx_val_x (n := 9) (e := (9, 0)) h0_ rfl, bx_val_x (n := 10) (e := (10, 0)) h0_ rfl, ← hr_ 8 (by decide), ← hr_ 9 (by decide), ← hr_ 10 (by decide), ← hr_ 11 (by decide)]
    exact g.2.2.2
theorem rxdRPCK_24_0 {S0 : Nat → Int → Int} {ws : List Int} {S : Nat → Int → Int} {st cu hu r : Int} (hP : rxPRPCK S0 ws) (hin : bx_same rxL (bx_mdl rxCRPCK.2.2.1) S0 S) (hin2 : bx_same rxL (bx_mdl rxCRPCK.2.2.1) S S) (I0 : bx_Inv rxL S) (I1 : bx_Inv rxL S) (hinv : rxIRPCK_24 S0 ws S st cu hu r) (l8 : 0 ≤ st) (u8 : st ≤ 6) (l9 : 0 ≤ cu) (u9 : cu ≤ 6) (l10 : 0 ≤ hu) (u10 : hu ≤ 1) (l11 : 0 ≤ r) (u11 : r ≤ 0) : (True) ∧ rxPSRPCK S0 ws S (some 1) := by
  obtain ⟨hI, hx⟩ := hinv
  obtain ⟨a_, c_⟩ := rxdRPC_24_0 hP hin hin2 I0 I1 hI l8 u8 l9 u9 l10 u10 l11 u11
  exact ⟨a_, c_, (by
    obtain ⟨hA, hr⟩ := hI
    rw [hA.1.1, hA.1.2.1] at hr
    have b1 : rzIs (rzCut (S0 411)) (S0 412 1) rzW_go (S 412 2) = false := by
      cases hb : rzIs (rzCut (S0 411)) (S0 412 1) rzW_go (S 412 2) with
      | false => rfl
      | true =>
        rw [hb, if_pos rfl] at hr
        omega
    intro g_ hp
    obtain ⟨hx1, h2, h3, hh, hb, hlt⟩ := hx
    obtain ⟨d, r_p, d1, r1, r2, r3, r4⟩ := hx1 hp
    rw [r2] at b1
    exact ⟨_, ⟨_, _, _, _, rfl, rfl, rfl, rfl, rzAlt_n hb ⟨d, r_p, none, d1, r1, rzAlt_n b1 rfl, rfl⟩⟩, by rw [← h2, ← h3]; exact r4⟩)⟩
theorem rxfRPCK_24_0 {X : (Nat → Int → Int) → Prop} {S0 : Nat → Int → Int} {ws : List Int} (hP : rxPRPCK S0 ws) : bx_obE rxL X S0 rxCRPCK.2.2.1 (rxIRPCK S0 ws) (rxPSRPCK S0 ws) 24 rxzRPCK_24 rxeRPCK_24_0 := by
  intro S S_p r r_p hinv hX hin hsm_ hseg
  obtain ⟨I0, I1, h0_, hr_, b_, f_, d_⟩ := bx_cl (evs := []) (fvs := []) hseg (by decide +kernel) (by decide +kernel)
  have hinv : rxIRPCK_24 S0 ws S (r 8) (r 9) (r 10) (r 11) := hinv
  rw [← hr_ 8 (by decide), ← hr_ 9 (by decide), ← hr_ 10 (by decide), ← hr_ 11 (by decide)] at hinv
  obtain ⟨⟨l8, u8⟩, ⟨l9, u9⟩, ⟨l10, u10⟩, ⟨l11, u11⟩, -⟩ := b_
  have w_ := d_
  subst w_
  have g := rxdRPCK_24_0 hP hin hsm_ I0 I1 hinv l8 u8 l9 u9 l10 u10 l11 u11
  refine ⟨bx_narP_ok (l := []) g.1, ?_⟩
  show rxPSRPCK S0 ws S_p (some (bx_num r_p (.inr (0, (0, 1)))))
  rw [bx_xv_ok h0_]
  exact g.2
theorem rxcRPCK_26_0 {S0 : Nat → Int → Int} {ws : List Int} {S : Nat → Int → Int} {st cu hu x11 : Int} (hP : rxPRPCK S0 ws) (hin : bx_same rxL (bx_mdl rxCRPCK.2.2.1) S0 S) (I0 : bx_Inv rxL S) (hinv : rxIRPCK_26 S0 ws S st cu hu) (l8 : 0 ≤ st) (u8 : st ≤ 6) (l9 : 0 ≤ cu) (u9 : cu ≤ 6) (l10 : 0 ≤ hu) (u10 : hu ≤ 1) (l11 : 0 ≤ x11) (u11 : x11 ≤ 1522) (e0 : S 427 9 = x11) : (True) ∧ (True) ∧ rxIRPCK_27 S0 ws S st cu hu x11 ∧ rxmRPCK_27 S0 ws S st cu hu x11 < rxmRPCK_26 S0 ws S st cu hu := by
  obtain ⟨hI, hx⟩ := hinv
  obtain ⟨a_, b_, c_, d_⟩ := rxcRPC_26_0 hP hin I0 hI l8 u8 l9 u9 l10 u10 l11 u11 e0
  exact ⟨a_, b_, ⟨c_, (by
    refine ⟨fun hp => ?_, hx.2⟩
    obtain ⟨d, r, d1, r1, r2, r3, r4, b1, hz⟩ := hx.1 hp
    exact ⟨d, r, d1, r1, r2, r3, r4, b1, hz, e0.symm.trans r4.2.2.2.2.2.1.2.1⟩)⟩, d_⟩
theorem rxgRPCK_26_0 {X : (Nat → Int → Int) → Prop} {S0 : Nat → Int → Int} {ws : List Int} (hP : rxPRPCK S0 ws) : bx_obC rxL X S0 rxCRPCK.2.2.1 (rxIRPCK S0 ws) (rxmRPCK S0 ws) 26 rxzRPCK_26 rxoRPCK_26_0 := by
  intro S S_p r r_p hinv hX hin hsm_ hseg
  obtain ⟨I0, I1, h0_, hr_, b_, f_, d_⟩ := bx_cl (evs := [(0, (0, 427), (0, 9), .inr (3, (11, 0)))]) (fvs := []) hseg (by decide +kernel) (by decide +kernel)
  have hinv : rxIRPCK_26 S0 ws S (r 8) (r 9) (r 10) := hinv
  rw [← hr_ 8 (by decide), ← hr_ 9 (by decide), ← hr_ 10 (by decide)] at hinv
  obtain ⟨⟨l8, u8⟩, ⟨l9, u9⟩, ⟨l10, u10⟩, ⟨l11, u11⟩, -⟩ := b_
  obtain ⟨e0, w_⟩ := d_
  subst w_
  have g := rxcRPCK_26_0 hP hin I0 hinv l8 u8 l9 u9 l10 u10 l11 u11 e0
  refine ⟨bx_narP_ok (l := []) g.1, bx_nfP_ok h0_ (fvs := []) (by decide +kernel) g.2.1, ?_, ?_⟩
  · show rxIRPCK_27 S0 ws S_p (bx_val [(0, 0), (0, 0), (0, 0), (0, 0), (0, 0), (0, 0), (0, 0), (0, 0), (8, 0), (9, 0), (10, 0), (11, 0)] r_p 8) (bx_val [(0, 0), (0, 0), (0, 0), (0, 0), (0, 0), (0, 0), (0, 0), (0, 0), (8, 0), (9, 0), (10, 0), (11, 0)] r_p 9) (bx_val [(0, 0), (0, 0), (0, 0), (0, 0), (0, 0), (0, 0), (0, 0), (0, 0), (8, 0), (9, 0), (10, 0), (11, 0)] r_p 10) (bx_val [(0, 0), (0, 0), (0, 0), (0, 0), (0, 0), (0, 0), (0, 0), (0, 0), (8, 0), (9, 0), (10, 0), (11, 0)] r_p 11)
    rw [bx_val_x (n := 8) (e := (8, 0)) h0_ rfl, bx_val_x (n := 9) (e := (9, 0)) h0_ rfl, bx_val_x (n := 10) (e := (10, 0)) h0_ rfl, bx_val_x (n := 11) (e := (11, 0)) h0_ rfl]
    exact g.2.2.1
  · show rxmRPCK_27 S0 ws S_p (bx_val [(0, 0), (0, 0), (0, 0), (0, 0), (0, 0), (0, 0), (0, 0), (0, 0), (8, 0), (9, 0), (10, 0), (11, 0)] r_p 8) (bx_val [(0, 0), (0, 0), (0, 0), (0, 0), (0, 0), (0, 0), (0, 0), (0, 0), (8, 0), (9, 0), (10, 0), (11, 0)] r_p 9) (bx_val [(0, 0), (0, 0), (0, 0), (0, 0), (0, 0), (0, 0), (0, 0), (0, 0), (8, 0), (9, 0), (10, 0), (11, 0)] r_p 10) (bx_val [(0, 0), (0, 0), (0, 0), (0, 0), (0, 0), (0, 0), (0, 0), (0, 0), (8, 0), (9, 0), (10, 0), (11, 0)] r_p 11) < rxmRPCK_26 S0 ws S_p (r 8) (r 9) (r 10)
    rw [bx_val_x (n := 8) (e := (8, 0)) h0_ rfl, bx_val_x (n := 9) (e := (9, 0)) h0_ rfl, bx_val_x (n := 10) (e := (10, 0)) h0_ rfl, bx_val_x (n := 11) (e := (11, 0)) h0_ rfl, ← hr_ 8 (by decide), ← hr_ 9 (by decide), ← hr_ 10 (by decide)]
    exact g.2.2.2
theorem rxdRPCK_28_0 {S0 : Nat → Int → Int} {ws : List Int} {S : Nat → Int → Int} {st cu hu sa res : Int} (hP : rxPRPCK S0 ws) (hin : bx_same rxL (bx_mdl rxCRPCK.2.2.1) S0 S) (hin2 : bx_same rxL (bx_mdl rxCRPCK.2.2.1) S S) (I0 : bx_Inv rxL S) (I1 : bx_Inv rxL S) (hinv : rxIRPCK_28 S0 ws S st cu hu sa res) (l8 : 0 ≤ st) (u8 : st ≤ 6) (l9 : 0 ≤ cu) (u9 : cu ≤ 6) (l10 : 0 ≤ hu) (u10 : hu ≤ 1) (l11 : 0 ≤ sa) (u11 : sa ≤ 1522) (l12 : 0 ≤ res) (u12 : res ≤ 1) : (True) ∧ rxPSRPCK S0 ws S (some res) := by
  obtain ⟨hI, hx⟩ := hinv
  obtain ⟨a_, c_⟩ := rxdRPC_28_0 hP hin hin2 I0 I1 hI l8 u8 l9 u9 l10 u10 l11 u11 l12 u12
  exact ⟨a_, c_, (by
    first
    | exact fun g => hx (Option.some.inj g)
    | exact fun _ => hx (by omega)
    | exact fun g => absurd (Option.some.inj g) (by decide))⟩
theorem rxfRPCK_28_0 {X : (Nat → Int → Int) → Prop} {S0 : Nat → Int → Int} {ws : List Int} (hP : rxPRPCK S0 ws) : bx_obE rxL X S0 rxCRPCK.2.2.1 (rxIRPCK S0 ws) (rxPSRPCK S0 ws) 28 rxzRPCK_28 rxeRPCK_28_0 := by
  intro S S_p r r_p hinv hX hin hsm_ hseg
  obtain ⟨I0, I1, h0_, hr_, b_, f_, d_⟩ := bx_cl (evs := []) (fvs := []) hseg (by decide +kernel) (by decide +kernel)
  have hinv : rxIRPCK_28 S0 ws S (r 8) (r 9) (r 10) (r 11) (r 12) := hinv
  rw [← hr_ 8 (by decide), ← hr_ 9 (by decide), ← hr_ 10 (by decide), ← hr_ 11 (by decide), ← hr_ 12 (by decide)] at hinv
  obtain ⟨⟨l8, u8⟩, ⟨l9, u9⟩, ⟨l10, u10⟩, ⟨l11, u11⟩, ⟨l12, u12⟩, -⟩ := b_
  have w_ := d_
  subst w_
  have g := rxdRPCK_28_0 hP hin hsm_ I0 I1 hinv l8 u8 l9 u9 l10 u10 l11 u11 l12 u12
  refine ⟨bx_narP_ok (l := []) g.1, ?_⟩
  show rxPSRPCK S0 ws S_p (some (bx_num r_p (.inr (0, (12, 0)))))
  rw [bx_xv_ok h0_]
  exact g.2
theorem rxgCRPCK {X : (Nat → Int → Int) → Prop} {S0 : Nat → Int → Int} {ws : List Int} (hP : rxPRPCK S0 ws) : bx_allI (fun i q => rxURPCK q = true ∨ bx_allP (fun o => bx_obC rxL X S0 rxCRPCK.2.2.1 (rxIRPCK S0 ws) (rxmRPCK S0 ws) i q.1 o) q.2.1) 0 rxYRPCK := ⟨Or.inr ⟨rxgRPCK_0_0 hP, trivial⟩, Or.inl rfl, Or.inr ⟨rxgRPCK_2_0 hP, trivial⟩, Or.inl rfl, Or.inr ⟨rxgRPCK_4_0 hP, trivial⟩, Or.inl rfl, Or.inr ⟨rxgRPCK_6_0 hP, trivial⟩, Or.inl rfl, Or.inr ⟨rxgRPCK_8_0 hP, trivial⟩, Or.inl rfl, Or.inr ⟨rxgRPCK_10_0 hP, trivial⟩, Or.inl rfl, Or.inr ⟨rxgRPCK_12_0 hP, trivial⟩, Or.inl rfl, Or.inr ⟨rxgRPCK_14_0 hP, rxgRPCK_14_1 hP, trivial⟩, Or.inl rfl, Or.inr ⟨rxgRPCK_16_0 hP, trivial⟩, Or.inl rfl, Or.inr ⟨rxgRPCK_18_0 hP, rxgRPCK_18_1 hP, trivial⟩, Or.inl rfl, Or.inr ⟨rxgRPCK_20_0 hP, trivial⟩, Or.inl rfl, Or.inr ⟨rxgRPCK_22_0 hP, trivial⟩, Or.inl rfl, Or.inr ⟨rxgRPCK_24_0 hP, trivial⟩, Or.inl rfl, Or.inr ⟨rxgRPCK_26_0 hP, trivial⟩, Or.inl rfl, Or.inr trivial, trivial⟩
theorem rxgERPCK {X : (Nat → Int → Int) → Prop} {S0 : Nat → Int → Int} {ws : List Int} (hP : rxPRPCK S0 ws) : bx_allI (fun i q => rxURPCK q = true ∨ bx_allP (fun E => bx_obE rxL X S0 rxCRPCK.2.2.1 (rxIRPCK S0 ws) (rxPSRPCK S0 ws) i q.1 E) q.2.2) 0 rxYRPCK := ⟨Or.inr trivial, Or.inl rfl, Or.inr ⟨rxfRPCK_2_0 hP, trivial⟩, Or.inl rfl, Or.inr ⟨rxfRPCK_4_0 hP, trivial⟩, Or.inl rfl, Or.inr trivial, Or.inl rfl, Or.inr ⟨rxfRPCK_8_0 hP, trivial⟩, Or.inl rfl, Or.inr ⟨rxfRPCK_10_0 hP, trivial⟩, Or.inl rfl, Or.inr trivial, Or.inl rfl, Or.inr trivial, Or.inl rfl, Or.inr ⟨rxfRPCK_16_0 hP, trivial⟩, Or.inl rfl, Or.inr trivial, Or.inl rfl, Or.inr ⟨rxfRPCK_20_0 hP, trivial⟩, Or.inl rfl, Or.inr ⟨rxfRPCK_22_0 hP, trivial⟩, Or.inl rfl, Or.inr ⟨rxfRPCK_24_0 hP, trivial⟩, Or.inl rfl, Or.inr trivial, Or.inl rfl, Or.inr ⟨rxfRPCK_28_0 hP, trivial⟩, trivial⟩
theorem rxuRPCK {PX : State → Prop} {Dg : va_G} {A : Nat → Prop} {ad xa : Nat → Nat} {l : Launch} {X : (Nat → Int → Int) → Prop} (hPX : rx_PXOK rxNW A PX) (hX : ∀ S S1 : Nat → Int → Int, X S → bx_same rxL (bx_mdl rxCRPCK.2.2.1) S S1 → X S1) (hQTKW : bx_ConP rxG rxNW rxAO PX Dg rxL X vwCl A ad l rxM90 rxC90 rxPTKW rxPSTKW) (hQPLH : bx_ConP rxG rxNW rxAO PX Dg rxL X vwCl A ad l rxM91 rxC91 rxPPLH rxPSPLH) (hQAD : bx_ConP rxG rxNW rxAO PX Dg rxL X vwCl A ad l rxM84 rxC84 rxPAD rxPSAD) (hQIWX : bx_ConP rxG rxNW rxAO PX Dg rxL X vwCl A ad l rxM59 rxC59 rxPIWX rxPSIWX) (hQOCDK : bx_ConP rxG rxNW rxAO PX Dg rxL X vwCl A ad l rxM60 rxCOCDK rxPOCDK rxPSOCDK) (hQREDK : bx_ConP rxG rxNW rxAO PX Dg rxL X vwCl A ad l rxM61 rxCREDK rxPREDK rxPSREDK) {S0 : Nat → Int → Int} {ws : List Int} (hP : rxPRPCK S0 ws) : ∀ (i : Nat) (q : bx_HE), rxYRPCK[i]? = some q → rxURPCK q = true → ∀ {p : Program} {e : Env} {R : Room} {s : State} {m : MethodId} {args : Array Value} {below : List Frame} {meth : Method} {c : Code} {Q : State → Prop} {H0 : Heap}, rx_Fr rxG rxNW rxAO PX p s m args meth c rxM85 → (∀ q, H0.size ≤ q → A q) → H0 = s.heap → rxM85.2.2.2.2.2.2.1 ≤ R.cells → rxM85.2.2.2.2.2.2.2 ≤ R.slots → rxCRPCK.2.2.2.1 ≤ R.frames → rxCRPCK.2.2.2.1 * 40 ≤ R.locals → bx_Step p l e R s m args below meth c Q Dg rxL X vwCl A xa H0 ad rxM85 rxYRPCK (rxIRPCK S0 ws) (rxmRPCK S0 ws) S0 rxCRPCK.2.2.1 i q := by
  intro i q hq hus p e R s m args below meth c Q H0 hF hA hH0 hmc hms hd hdl
  match i, hq with
  | 0, hq =>
    cases hq
    exact absurd (show false = true from hus) Bool.false_ne_true
  | 1, hq =>
    cases hq
    exact rx_stepC (ins := .invokevirtual 88) (len := 3) (i_p := 2) (M_p := rxM90) (d := rxCRPCK.2.2.2.1) (as := [.inr (3, (0, 412)), .inr (3, (0, 533))]) (t := []) (ct := rxC90) hPX hF rfl hA hH0 hmc hms hd hdl (by decide +kernel) rfl rfl (by decide +kernel) (by decide +kernel) hQTKW (by decide +kernel) rfl (Or.inr ⟨_, _, _, 1, rfl, rfl, by omega, rfl, rfl, rfl⟩) (rxsRPCK_1 hP)
  | 2, hq =>
    cases hq
    exact absurd (show false = true from hus) Bool.false_ne_true
  | 3, hq =>
    cases hq
    exact rx_stepC (ins := .invokevirtual 92) (len := 3) (i_p := 4) (M_p := rxM91) (d := rxCRPCK.2.2.2.1) (as := [.inr (3, (0, 412))]) (t := []) (ct := rxC91) hPX hF rfl hA hH0 hmc hms hd hdl (by decide +kernel) rfl rfl (by decide +kernel) (by decide +kernel) hQPLH (by decide +kernel) rfl (Or.inr ⟨_, _, _, 1, rfl, rfl, by omega, rfl, rfl, rfl⟩) (rxsRPCK_3 hP)
  | 4, hq =>
    cases hq
    exact absurd (show false = true from hus) Bool.false_ne_true
  | 5, hq =>
    cases hq
    exact rx_stepC (ins := .invokevirtual 66) (len := 3) (i_p := 6) (M_p := rxM84) (d := rxCRPCK.2.2.2.1) (as := [.inr (3, (0, 412))]) (t := []) (ct := rxC84) hPX hF rfl hA hH0 hmc hms hd hdl (by decide +kernel) rfl rfl (by decide +kernel) (by decide +kernel) hQAD (by decide +kernel) rfl (Or.inl ⟨rfl, rfl, rfl⟩) (rxsRPCK_5 hP)
  | 6, hq =>
    cases hq
    exact absurd (show false = true from hus) Bool.false_ne_true
  | 7, hq =>
    cases hq
    exact rx_stepC (ins := .invokevirtual 88) (len := 3) (i_p := 8) (M_p := rxM90) (d := rxCRPCK.2.2.2.1) (as := [.inr (3, (0, 412)), .inr (3, (0, 524))]) (t := []) (ct := rxC90) hPX hF rfl hA hH0 hmc hms hd hdl (by decide +kernel) rfl rfl (by decide +kernel) (by decide +kernel) hQTKW (by decide +kernel) rfl (Or.inr ⟨_, _, _, 1, rfl, rfl, by omega, rfl, rfl, rfl⟩) (rxsRPCK_7 hP)
  | 8, hq =>
    cases hq
    exact absurd (show false = true from hus) Bool.false_ne_true
  | 9, hq =>
    cases hq
    exact rx_stepC (ins := .invokevirtual 92) (len := 3) (i_p := 10) (M_p := rxM91) (d := rxCRPCK.2.2.2.1) (as := [.inr (3, (0, 412))]) (t := []) (ct := rxC91) hPX hF rfl hA hH0 hmc hms hd hdl (by decide +kernel) rfl rfl (by decide +kernel) (by decide +kernel) hQPLH (by decide +kernel) rfl (Or.inr ⟨_, _, _, 1, rfl, rfl, by omega, rfl, rfl, rfl⟩) (rxsRPCK_9 hP)
  | 10, hq =>
    cases hq
    exact absurd (show false = true from hus) Bool.false_ne_true
  | 11, hq =>
    cases hq
    exact rx_stepC (ins := .invokevirtual 66) (len := 3) (i_p := 12) (M_p := rxM84) (d := rxCRPCK.2.2.2.1) (as := [.inr (3, (0, 412))]) (t := []) (ct := rxC84) hPX hF rfl hA hH0 hmc hms hd hdl (by decide +kernel) rfl rfl (by decide +kernel) (by decide +kernel) hQAD (by decide +kernel) rfl (Or.inl ⟨rfl, rfl, rfl⟩) (rxsRPCK_11 hP)
  | 12, hq =>
    cases hq
    exact absurd (show false = true from hus) Bool.false_ne_true
  | 13, hq =>
    cases hq
    exact rx_stepC (ins := .invokevirtual 100) (len := 3) (i_p := 14) (M_p := rxM59) (d := rxCRPCK.2.2.2.1) (as := [.inr (3, (0, 412)), .inr (3, (0, 531))]) (t := []) (ct := rxC59) hPX hF rfl hA hH0 hmc hms hd hdl (by decide +kernel) rfl rfl (by decide +kernel) (by decide +kernel) hQIWX (by decide +kernel) rfl (Or.inr ⟨_, _, _, 1, rfl, rfl, by omega, rfl, rfl, rfl⟩) (rxsRPCK_13 hP)
  | 14, hq =>
    cases hq
    exact absurd (show false = true from hus) Bool.false_ne_true
  | 15, hq =>
    cases hq
    exact rx_stepC (ins := .invokevirtual 100) (len := 3) (i_p := 16) (M_p := rxM59) (d := rxCRPCK.2.2.2.1) (as := [.inr (3, (0, 412)), .inr (3, (0, 541))]) (t := []) (ct := rxC59) hPX hF rfl hA hH0 hmc hms hd hdl (by decide +kernel) rfl rfl (by decide +kernel) (by decide +kernel) hQIWX (by decide +kernel) rfl (Or.inr ⟨_, _, _, 1, rfl, rfl, by omega, rfl, rfl, rfl⟩) (rxsRPCK_15 hP)
  | 16, hq =>
    cases hq
    exact absurd (show false = true from hus) Bool.false_ne_true
  | 17, hq =>
    cases hq
    exact rx_stepC (ins := .invokevirtual 66) (len := 3) (i_p := 18) (M_p := rxM84) (d := rxCRPCK.2.2.2.1) (as := [.inr (3, (0, 412))]) (t := []) (ct := rxC84) hPX hF rfl hA hH0 hmc hms hd hdl (by decide +kernel) rfl rfl (by decide +kernel) (by decide +kernel) hQAD (by decide +kernel) rfl (Or.inl ⟨rfl, rfl, rfl⟩) (rxsRPCK_17 hP)
  | 18, hq =>
    cases hq
    exact absurd (show false = true from hus) Bool.false_ne_true
  | 19, hq =>
    cases hq
    exact rx_stepC (ins := .invokevirtual 105) (len := 3) (i_p := 20) (M_p := rxM60) (d := rxCRPCK.2.2.2.1) (as := [.inr (3, (0, 427)), .inr (0, (11, 0)), .inr (0, (8, 0)), .inr (0, (9, 0))]) (t := []) (ct := rxCOCDK) hPX hF rfl hA hH0 hmc hms hd hdl (by decide +kernel) rfl rfl (by decide +kernel) (by decide +kernel) hQOCDK (by decide +kernel) rfl (Or.inl ⟨rfl, rfl, rfl⟩) (rxsRPCK_19 hP)
  | 20, hq =>
    cases hq
    exact absurd (show false = true from hus) Bool.false_ne_true
  | 21, hq =>
    cases hq
    exact rx_stepC (ins := .invokevirtual 112) (len := 3) (i_p := 22) (M_p := rxM61) (d := rxCRPCK.2.2.2.1) (as := [.inr (3, (0, 412)), .inr (3, (11, 0)), .inr (0, (0, 0))]) (t := []) (ct := rxCREDK) hPX hF rfl hA hH0 hmc hms hd hdl (by decide +kernel) rfl rfl (by decide +kernel) (by decide +kernel) hQREDK (by decide +kernel) rfl (Or.inr ⟨_, _, _, 1, rfl, rfl, by omega, rfl, rfl, rfl⟩) (rxsRPCK_21 hP)
  | 22, hq =>
    cases hq
    exact absurd (show false = true from hus) Bool.false_ne_true
  | 23, hq =>
    cases hq
    exact rx_stepC (ins := .invokevirtual 100) (len := 3) (i_p := 24) (M_p := rxM59) (d := rxCRPCK.2.2.2.1) (as := [.inr (3, (0, 412)), .inr (3, (0, 529))]) (t := []) (ct := rxC59) hPX hF rfl hA hH0 hmc hms hd hdl (by decide +kernel) rfl rfl (by decide +kernel) (by decide +kernel) hQIWX (by decide +kernel) rfl (Or.inr ⟨_, _, _, 1, rfl, rfl, by omega, rfl, rfl, rfl⟩) (rxsRPCK_23 hP)
  | 24, hq =>
    cases hq
    exact absurd (show false = true from hus) Bool.false_ne_true
  | 25, hq =>
    cases hq
    exact rx_stepC (ins := .invokevirtual 66) (len := 3) (i_p := 26) (M_p := rxM84) (d := rxCRPCK.2.2.2.1) (as := [.inr (3, (0, 412))]) (t := []) (ct := rxC84) hPX hF rfl hA hH0 hmc hms hd hdl (by decide +kernel) rfl rfl (by decide +kernel) (by decide +kernel) hQAD (by decide +kernel) rfl (Or.inl ⟨rfl, rfl, rfl⟩) (rxsRPCK_25 hP)
  | 26, hq =>
    cases hq
    exact absurd (show false = true from hus) Bool.false_ne_true
  | 27, hq =>
    cases hq
    exact rx_stepC (ins := .invokevirtual 112) (len := 3) (i_p := 28) (M_p := rxM61) (d := rxCRPCK.2.2.2.1) (as := [.inr (3, (0, 412)), .inr (3, (11, 0)), .inr (0, (0, 0))]) (t := []) (ct := rxCREDK) hPX hF rfl hA hH0 hmc hms hd hdl (by decide +kernel) rfl rfl (by decide +kernel) (by decide +kernel) hQREDK (by decide +kernel) rfl (Or.inr ⟨_, _, _, 1, rfl, rfl, by omega, rfl, rfl, rfl⟩) (rxsRPCK_27 hP)
  | 28, hq =>
    cases hq
    exact absurd (show false = true from hus) Bool.false_ne_true
  | n + 29, hq => cases hq
theorem rxQRPCK {PX : State → Prop} {Dg : va_G} {A : Nat → Prop} {ad xa : Nat → Nat} {l : Launch} {X : (Nat → Int → Int) → Prop} (hPX : rx_PXOK rxNW A PX) (hsl : ∀ s : State, PX s → ∀ o idx n : Nat, rxSl o idx = some n → ∃ tx : String, vk_R (rxNm o) idx tx (ad n) s)
    (hX : ∀ S S_p : Nat → Int → Int, X S → bx_same rxL (bx_mdl rxCRPCK.2.2.1) S S_p → X S_p)
    (ih : ∀ (j2 : Nat) (ct2 : bx_Ct) (M2 : rx_Mt), ct2 ∈ rxCnE j2 → ct2.2.2.2.1 + 1 ≤ rxCRPCK.2.2.2.1 → rxT.2.2.2.2.2 j2 = some M2 → bx_Con rxG rxNW rxAO PX Dg rxL X vwCl A ad l M2 ct2) (hQTKW : bx_ConP rxG rxNW rxAO PX Dg rxL X vwCl A ad l rxM90 rxC90 rxPTKW rxPSTKW) (hQPLH : bx_ConP rxG rxNW rxAO PX Dg rxL X vwCl A ad l rxM91 rxC91 rxPPLH rxPSPLH) (hQAD : bx_ConP rxG rxNW rxAO PX Dg rxL X vwCl A ad l rxM84 rxC84 rxPAD rxPSAD) (hQIWX : bx_ConP rxG rxNW rxAO PX Dg rxL X vwCl A ad l rxM59 rxC59 rxPIWX rxPSIWX) (hQOCDK : bx_ConP rxG rxNW rxAO PX Dg rxL X vwCl A ad l rxM60 rxCOCDK rxPOCDK rxPSOCDK) (hQREDK : bx_ConP rxG rxNW rxAO PX Dg rxL X vwCl A ad l rxM61 rxCREDK rxPREDK rxPSREDK) : bx_ConP rxG rxNW rxAO PX Dg rxL X vwCl A ad l rxM85 rxCRPCK rxPRPCK rxPSRPCK :=
  rxQof (xa := xa) (Cn := rxCnE) (f := 30000) (j := 85) (tab := rxYRPCK) (us := rxURPCK) hPX hsl hX ih rfl rxYcRPCK rxIRPCK rxmRPCK
    (fun S0 ws r I0 I ht0 ht as he he1 hX0 hI0 hP hs ha => by
      have e := he.symm.trans (show bx_ent0 rxNP rxCRPCK.1 bx_I0 [] = some ([(0, 0), (0, 0), (0, 0), (0, 0), (0, 0), (0, 0), (0, 0), (0, 0)], [], [.inr (3, (0, 412))]) from rfl)
      cases e
      subst ha
      have h0 : r 0 = 0 := hs.1
      show rxIRPCK_0 S0 _ S0
      refine ⟨⟨rfl, ?_⟩, trivial⟩
      simp only [List.map_cons, List.map_nil, bx_xv_ok h0]
      rfl)
    (fun S0 ws hP => rxuRPCK (xa := xa) hPX hX hQTKW hQPLH hQAD hQIWX hQOCDK hQREDK hP) (fun S0 ws hP => rxgCRPCK hP) (fun S0 ws hP => rxgERPCK hP)
