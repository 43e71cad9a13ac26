noncomputable def rxCRPCK : bx_Ct := ([(3, (1, 412, 0))], some (0, (0, 0, 1)), [(6, 0), (6, 4), (7, 2), (7, 3), (7, 4), (7, 7), (7, 8), (7, 10), (1021, 0), (1022, 0), (1024, 0), (1025, 0), (1026, 0), (1027, 0), (1034, 0), (1035, 0), (1036, 0)], 8, [(412, 0, 3, (1, 411, 0)), (412, 6, 3, (1, 427, 0))])
noncomputable def rxIRPCK_0 (S0 : Nat → Int → Int) (ws : List Int) (S : Nat → Int → Int) : Prop := rxIRPC_0 S0 ws S ∧ True
noncomputable def rxmRPCK_0 (S0 : Nat → Int → Int) (ws : List Int) (S : Nat → Int → Int) : Nat := rxmRPC_0 S0 ws S
noncomputable def rxIRPCK_1 (S0 : Nat → Int → Int) (ws : List Int) (S : Nat → Int → Int) : Prop := rxIRPC_1 S0 ws S ∧ rkTa S0 S (S0 412 2)
noncomputable def rxmRPCK_1 (S0 : Nat → Int → Int) (ws : List Int) (S : Nat → Int → Int) : Nat := rxmRPC_1 S0 ws S
noncomputable def rxIRPCK_2 (S0 : Nat → Int → Int) (ws : List Int) (S : Nat → Int → Int) (r : Int) : Prop := rxIRPC_2 S0 ws S r ∧ (r = 1 → rkTa S0 S (rzN (rzCut (S0 411)) (S0 412 1) (S0 412 2)))
noncomputable def rxmRPCK_2 (S0 : Nat → Int → Int) (ws : List Int) (S : Nat → Int → Int) (r : Int) : Nat := rxmRPC_2 S0 ws S r
noncomputable def rxIRPCK_3 (S0 : Nat → Int → Int) (ws : List Int) (S : Nat → Int → Int) : Prop := rxIRPC_3 S0 ws S ∧ rkTa S0 S (rzN (rzCut (S0 411)) (S0 412 1) (S0 412 2))
noncomputable def rxmRPCK_3 (S0 : Nat → Int → Int) (ws : List Int) (S : Nat → Int → Int) : Nat := rxmRPC_3 S0 ws S
noncomputable def rxIRPCK_4 (S0 : Nat → Int → Int) (ws : List Int) (S : Nat → Int → Int) (pl : Int) : Prop := rxIRPC_4 S0 ws S pl ∧ rkTa S0 S (rzN (rzCut (S0 411)) (S0 412 1) (S0 412 2))
noncomputable def rxmRPCK_4 (S0 : Nat → Int → Int) (ws : List Int) (S : Nat → Int → Int) (pl : Int) : Nat := rxmRPC_4 S0 ws S pl
noncomputable def rxIRPCK_5 (S0 : Nat → Int → Int) (ws : List Int) (S : Nat → Int → Int) (st : Int) : Prop := rxIRPC_5 S0 ws S st ∧ rkTa S0 S (rzN (rzCut (S0 411)) (S0 412 1) (S0 412 2)) ∧ st = rzPv (rzCut (S0 411)) (S0 412 1) (rzN (rzCut (S0 411)) (S0 412 1) (S0 412 2))
noncomputable def rxmRPCK_5 (S0 : Nat → Int → Int) (ws : List Int) (S : Nat → Int → Int) (st : Int) : Nat := rxmRPC_5 S0 ws S st
noncomputable def rxIRPCK_6 (S0 : Nat → Int → Int) (ws : List Int) (S : Nat → Int → Int) (st : Int) : Prop := rxIRPC_6 S0 ws S st ∧ rkTa S0 S (rzN (rzCut (S0 411)) (S0 412 1) (rzN (rzCut (S0 411)) (S0 412 1) (S0 412 2))) ∧ st = rzPv (rzCut (S0 411)) (S0 412 1) (rzN (rzCut (S0 411)) (S0 412 1) (S0 412 2))
noncomputable def rxmRPCK_6 (S0 : Nat → Int → Int) (ws : List Int) (S : Nat → Int → Int) (st : Int) : Nat := rxmRPC_6 S0 ws S st
noncomputable def rxIRPCK_7 (S0 : Nat → Int → Int) (ws : List Int) (S : Nat → Int → Int) (st : Int) : Prop := rxIRPC_7 S0 ws S st ∧ rkTa S0 S (rzN (rzCut (S0 411)) (S0 412 1) (rzN (rzCut (S0 411)) (S0 412 1) (S0 412 2))) ∧ st = rzPv (rzCut (S0 411)) (S0 412 1) (rzN (rzCut (S0 411)) (S0 412 1) (S0 412 2))
noncomputable def rxmRPCK_7 (S0 : Nat → Int → Int) (ws : List Int) (S : Nat → Int → Int) (st : Int) : Nat := rxmRPC_7 S0 ws S st
noncomputable def rxIRPCK_8 (S0 : Nat → Int → Int) (ws : List Int) (S : Nat → Int → Int) (st r : Int) : Prop := rxIRPC_8 S0 ws S st r ∧ (r = 1 → rkTa S0 S (rzN (rzCut (S0 411)) (S0 412 1) (rzN (rzCut (S0 411)) (S0 412 1) (rzN (rzCut (S0 411)) (S0 412 1) (S0 412 2)))) ∧ st = rzPv (rzCut (S0 411)) (S0 412 1) (rzN (rzCut (S0 411)) (S0 412 1) (S0 412 2)))
noncomputable def rxmRPCK_8 (S0 : Nat → Int → Int) (ws : List Int) (S : Nat → Int → Int) (st r : Int) : Nat := rxmRPC_8 S0 ws S st r
noncomputable def rxIRPCK_9 (S0 : Nat → Int → Int) (ws : List Int) (S : Nat → Int → Int) (st : Int) : Prop := rxIRPC_9 S0 ws S st ∧ rkTa S0 S (rzN (rzCut (S0 411)) (S0 412 1) (rzN (rzCut (S0 411)) (S0 412 1) (rzN (rzCut (S0 411)) (S0 412 1) (S0 412 2)))) ∧ st = rzPv (rzCut (S0 411)) (S0 412 1) (rzN (rzCut (S0 411)) (S0 412 1) (S0 412 2))
noncomputable def rxmRPCK_9 (S0 : Nat → Int → Int) (ws : List Int) (S : Nat → Int → Int) (st : Int) : Nat := rxmRPC_9 S0 ws S st
noncomputable def rxIRPCK_10 (S0 : Nat → Int → Int) (ws : List Int) (S : Nat → Int → Int) (st pl : Int) : Prop := rxIRPC_10 S0 ws S st pl ∧ rkTa S0 S (rzN (rzCut (S0 411)) (S0 412 1) (rzN (rzCut (S0 411)) (S0 412 1) (rzN (rzCut (S0 411)) (S0 412 1) (S0 412 2)))) ∧ st = rzPv (rzCut (S0 411)) (S0 412 1) (rzN (rzCut (S0 411)) (S0 412 1) (S0 412 2))
noncomputable def rxmRPCK_10 (S0 : Nat → Int → Int) (ws : List Int) (S : Nat → Int → Int) (st pl : Int) : Nat := rxmRPC_10 S0 ws S st pl
noncomputable def rxIRPCK_11 (S0 : Nat → Int → Int) (ws : List Int) (S : Nat → Int → Int) (st cu : Int) : Prop := rxIRPC_11 S0 ws S st cu ∧ rkTa S0 S (rzN (rzCut (S0 411)) (S0 412 1) (rzN (rzCut (S0 411)) (S0 412 1) (rzN (rzCut (S0 411)) (S0 412 1) (S0 412 2)))) ∧ st = rzPv (rzCut (S0 411)) (S0 412 1) (rzN (rzCut (S0 411)) (S0 412 1) (S0 412 2)) ∧ cu = rzPv (rzCut (S0 411)) (S0 412 1) (rzN (rzCut (S0 411)) (S0 412 1) (rzN (rzCut (S0 411)) (S0 412 1) (rzN (rzCut (S0 411)) (S0 412 1) (S0 412 2))))
noncomputable def rxmRPCK_11 (S0 : Nat → Int → Int) (ws : List Int) (S : Nat → Int → Int) (st cu : Int) : Nat := rxmRPC_11 S0 ws S st cu
noncomputable def rxIRPCK_12 (S0 : Nat → Int → Int) (ws : List Int) (S : Nat → Int → Int) (st cu : Int) : Prop := rxIRPC_12 S0 ws S st cu ∧ rkTa S0 S (rzN (rzCut (S0 411)) (S0 412 1) (rzN (rzCut (S0 411)) (S0 412 1) (rzN (rzCut (S0 411)) (S0 412 1) (rzN (rzCut (S0 411)) (S0 412 1) (S0 412 2))))) ∧ st = rzPv (rzCut (S0 411)) (S0 412 1) (rzN (rzCut (S0 411)) (S0 412 1) (S0 412 2)) ∧ cu = rzPv (rzCut (S0 411)) (S0 412 1) (rzN (rzCut (S0 411)) (S0 412 1) (rzN (rzCut (S0 411)) (S0 412 1) (rzN (rzCut (S0 411)) (S0 412 1) (S0 412 2))))
noncomputable def rxmRPCK_12 (S0 : Nat → Int → Int) (ws : List Int) (S : Nat → Int → Int) (st cu : Int) : Nat := rxmRPC_12 S0 ws S st cu
noncomputable def rxIRPCK_13 (S0 : Nat → Int → Int) (ws : List Int) (S : Nat → Int → Int) (st cu : Int) : Prop := rxIRPC_13 S0 ws S st cu ∧ rkTa S0 S (rzN (rzCut (S0 411)) (S0 412 1) (rzN (rzCut (S0 411)) (S0 412 1) (rzN (rzCut (S0 411)) (S0 412 1) (rzN (rzCut (S0 411)) (S0 412 1) (S0 412 2))))) ∧ st = rzPv (rzCut (S0 411)) (S0 412 1) (rzN (rzCut (S0 411)) (S0 412 1) (S0 412 2)) ∧ cu = rzPv (rzCut (S0 411)) (S0 412 1) (rzN (rzCut (S0 411)) (S0 412 1) (rzN (rzCut (S0 411)) (S0 412 1) (rzN (rzCut (S0 411)) (S0 412 1) (S0 412 2))))
noncomputable def rxmRPCK_13 (S0 : Nat → Int → Int) (ws : List Int) (S : Nat → Int → Int) (st cu : Int) : Nat := rxmRPC_13 S0 ws S st cu
noncomputable def rxIRPCK_14 (S0 : Nat → Int → Int) (ws : List Int) (S : Nat → Int → Int) (st cu r : Int) : Prop := rxIRPC_14 S0 ws S st cu r ∧ rkTa S0 S (rzN (rzCut (S0 411)) (S0 412 1) (rzN (rzCut (S0 411)) (S0 412 1) (rzN (rzCut (S0 411)) (S0 412 1) (rzN (rzCut (S0 411)) (S0 412 1) (S0 412 2))))) ∧ st = rzPv (rzCut (S0 411)) (S0 412 1) (rzN (rzCut (S0 411)) (S0 412 1) (S0 412 2)) ∧ cu = rzPv (rzCut (S0 411)) (S0 412 1) (rzN (rzCut (S0 411)) (S0 412 1) (rzN (rzCut (S0 411)) (S0 412 1) (rzN (rzCut (S0 411)) (S0 412 1) (S0 412 2))))
noncomputable def rxmRPCK_14 (S0 : Nat → Int → Int) (ws : List Int) (S : Nat → Int → Int) (st cu r : Int) : Nat := rxmRPC_14 S0 ws S st cu r
noncomputable def rxIRPCK_15 (S0 : Nat → Int → Int) (ws : List Int) (S : Nat → Int → Int) (st cu hu : Int) : Prop := rxIRPC_15 S0 ws S st cu hu ∧ rkTa S0 S (rzN (rzCut (S0 411)) (S0 412 1) (rzN (rzCut (S0 411)) (S0 412 1) (rzN (rzCut (S0 411)) (S0 412 1) (rzN (rzCut (S0 411)) (S0 412 1) (S0 412 2))))) ∧ st = rzPv (rzCut (S0 411)) (S0 412 1) (rzN (rzCut (S0 411)) (S0 412 1) (S0 412 2)) ∧ cu = rzPv (rzCut (S0 411)) (S0 412 1) (rzN (rzCut (S0 411)) (S0 412 1) (rzN (rzCut (S0 411)) (S0 412 1) (rzN (rzCut (S0 411)) (S0 412 1) (S0 412 2))))
noncomputable def rxmRPCK_15 (S0 : Nat → Int → Int) (ws : List Int) (S : Nat → Int → Int) (st cu hu : Int) : Nat := rxmRPC_15 S0 ws S st cu hu
noncomputable def rxIRPCK_16 (S0 : Nat → Int → Int) (ws : List Int) (S : Nat → Int → Int) (st cu hu r : Int) : Prop := rxIRPC_16 S0 ws S st cu hu r ∧ rkTa S0 S (rzN (rzCut (S0 411)) (S0 412 1) (rzN (rzCut (S0 411)) (S0 412 1) (rzN (rzCut (S0 411)) (S0 412 1) (rzN (rzCut (S0 411)) (S0 412 1) (S0 412 2))))) ∧ st = rzPv (rzCut (S0 411)) (S0 412 1) (rzN (rzCut (S0 411)) (S0 412 1) (S0 412 2)) ∧ cu = rzPv (rzCut (S0 411)) (S0 412 1) (rzN (rzCut (S0 411)) (S0 412 1) (rzN (rzCut (S0 411)) (S0 412 1) (rzN (rzCut (S0 411)) (S0 412 1) (S0 412 2))))
noncomputable def rxmRPCK_16 (S0 : Nat → Int → Int) (ws : List Int) (S : Nat → Int → Int) (st cu hu r : Int) : Nat := rxmRPC_16 S0 ws S st cu hu r
noncomputable def rxIRPCK_17 (S0 : Nat → Int → Int) (ws : List Int) (S : Nat → Int → Int) (st cu hu : Int) : Prop := rxIRPC_17 S0 ws S st cu hu ∧ rkTa S0 S (rzN (rzCut (S0 411)) (S0 412 1) (rzN (rzCut (S0 411)) (S0 412 1) (rzN (rzCut (S0 411)) (S0 412 1) (rzN (rzCut (S0 411)) (S0 412 1) (S0 412 2))))) ∧ st = rzPv (rzCut (S0 411)) (S0 412 1) (rzN (rzCut (S0 411)) (S0 412 1) (S0 412 2)) ∧ cu = rzPv (rzCut (S0 411)) (S0 412 1) (rzN (rzCut (S0 411)) (S0 412 1) (rzN (rzCut (S0 411)) (S0 412 1) (rzN (rzCut (S0 411)) (S0 412 1) (S0 412 2)))) ∧ ((hu = 1 ∧ rzIs (rzCut (S0 411)) (S0 412 1) rzW_hush (rzN (rzCut (S0 411)) (S0 412 1) (rzN (rzCut (S0 411)) (S0 412 1) (rzN (rzCut (S0 411)) (S0 412 1) (rzN (rzCut (S0 411)) (S0 412 1) (S0 412 2))))) = true) ∨ (hu = 0 ∧ rzIs (rzCut (S0 411)) (S0 412 1) rzW_hush (rzN (rzCut (S0 411)) (S0 412 1) (rzN (rzCut (S0 411)) (S0 412 1) (rzN (rzCut (S0 411)) (S0 412 1) (rzN (rzCut (S0 411)) (S0 412 1) (S0 412 2))))) = false)) ∧ (rzN (rzCut (S0 411)) (S0 412 1) (rzN (rzCut (S0 411)) (S0 412 1) (rzN (rzCut (S0 411)) (S0 412 1) (rzN (rzCut (S0 411)) (S0 412 1) (S0 412 2))))) < (rzN (rzCut (S0 411)) (S0 412 1) (rzN (rzCut (S0 411)) (S0 412 1) (rzN (rzCut (S0 411)) (S0 412 1) (rzN (rzCut (S0 411)) (S0 412 1) (rzN (rzCut (S0 411)) (S0 412 1) (S0 412 2))))))
noncomputable def rxmRPCK_17 (S0 : Nat → Int → Int) (ws : List Int) (S : Nat → Int → Int) (st cu hu : Int) : Nat := rxmRPC_17 S0 ws S st cu hu
noncomputable def rxIRPCK_18 (S0 : Nat → Int → Int) (ws : List Int) (S : Nat → Int → Int) (st cu hu : Int) : Prop := rxIRPC_18 S0 ws S st cu hu ∧ rkTa S0 S (rzN (rzCut (S0 411)) (S0 412 1) (rzN (rzCut (S0 411)) (S0 412 1) (rzN (rzCut (S0 411)) (S0 412 1) (rzN (rzCut (S0 411)) (S0 412 1) (rzN (rzCut (S0 411)) (S0 412 1) (S0 412 2)))))) ∧ st = rzPv (rzCut (S0 411)) (S0 412 1) (rzN (rzCut (S0 411)) (S0 412 1) (S0 412 2)) ∧ cu = rzPv (rzCut (S0 411)) (S0 412 1) (rzN (rzCut (S0 411)) (S0 412 1) (rzN (rzCut (S0 411)) (S0 412 1) (rzN (rzCut (S0 411)) (S0 412 1) (S0 412 2)))) ∧ ((hu = 1 ∧ rzIs (rzCut (S0 411)) (S0 412 1) rzW_hush (rzN (rzCut (S0 411)) (S0 412 1) (rzN (rzCut (S0 411)) (S0 412 1) (rzN (rzCut (S0 411)) (S0 412 1) (rzN (rzCut (S0 411)) (S0 412 1) (S0 412 2))))) = true) ∨ (hu = 0 ∧ rzIs (rzCut (S0 411)) (S0 412 1) rzW_hush (rzN (rzCut (S0 411)) (S0 412 1) (rzN (rzCut (S0 411)) (S0 412 1) (rzN (rzCut (S0 411)) (S0 412 1) (rzN (rzCut (S0 411)) (S0 412 1) (S0 412 2))))) = false)) ∧ (rzN (rzCut (S0 411)) (S0 412 1) (rzN (rzCut (S0 411)) (S0 412 1) (rzN (rzCut (S0 411)) (S0 412 1) (rzN (rzCut (S0 411)) (S0 412 1) (S0 412 2))))) < (rzN (rzCut (S0 411)) (S0 412 1) (rzN (rzCut (S0 411)) (S0 412 1) (rzN (rzCut (S0 411)) (S0 412 1) (rzN (rzCut (S0 411)) (S0 412 1) (rzN (rzCut (S0 411)) (S0 412 1) (S0 412 2))))))
noncomputable def rxmRPCK_18 (S0 : Nat → Int → Int) (ws : List Int) (S : Nat → Int → Int) (st cu hu : Int) : Nat := rxmRPC_18 S0 ws S st cu hu
noncomputable def rxIRPCK_19 (S0 : Nat → Int → Int) (ws : List Int) (S : Nat → Int → Int) (st cu hu ki : Int) : Prop := rxIRPC_19 S0 ws S st cu hu ki ∧ rkTa S0 S (rzN (rzCut (S0 411)) (S0 412 1) (rzN (rzCut (S0 411)) (S0 412 1) (rzN (rzCut (S0 411)) (S0 412 1) (rzN (rzCut (S0 411)) (S0 412 1) (rzN (rzCut (S0 411)) (S0 412 1) (S0 412 2)))))) ∧ st = rzPv (rzCut (S0 411)) (S0 412 1) (rzN (rzCut (S0 411)) (S0 412 1) (S0 412 2)) ∧ cu = rzPv (rzCut (S0 411)) (S0 412 1) (rzN (rzCut (S0 411)) (S0 412 1) (rzN (rzCut (S0 411)) (S0 412 1) (rzN (rzCut (S0 411)) (S0 412 1) (S0 412 2)))) ∧ (((hu = 1 ∧ rzIs (rzCut (S0 411)) (S0 412 1) rzW_hush (rzN (rzCut (S0 411)) (S0 412 1) (rzN (rzCut (S0 411)) (S0 412 1) (rzN (rzCut (S0 411)) (S0 412 1) (rzN (rzCut (S0 411)) (S0 412 1) (S0 412 2))))) = true) ∨ (hu = 0 ∧ rzIs (rzCut (S0 411)) (S0 412 1) rzW_hush (rzN (rzCut (S0 411)) (S0 412 1) (rzN (rzCut (S0 411)) (S0 412 1) (rzN (rzCut (S0 411)) (S0 412 1) (rzN (rzCut (S0 411)) (S0 412 1) (S0 412 2))))) = false)) ∧ (rzN (rzCut (S0 411)) (S0 412 1) (rzN (rzCut (S0 411)) (S0 412 1) (rzN (rzCut (S0 411)) (S0 412 1) (rzN (rzCut (S0 411)) (S0 412 1) (S0 412 2))))) < (rzN (rzCut (S0 411)) (S0 412 1) (rzN (rzCut (S0 411)) (S0 412 1) (rzN (rzCut (S0 411)) (S0 412 1) (rzN (rzCut (S0 411)) (S0 412 1) (rzN (rzCut (S0 411)) (S0 412 1) (S0 412 2))))))) ∧ ki = (if hu = 1 then 4 else 3)
noncomputable def rxmRPCK_19 (S0 : Nat → Int → Int) (ws : List Int) (S : Nat → Int → Int) (st cu hu ki : Int) : Nat := rxmRPC_19 S0 ws S st cu hu ki
noncomputable def rxIRPCK_20 (S0 : Nat → Int → Int) (ws : List Int) (S : Nat → Int → Int) (st cu hu ki : Int) : Prop := rxIRPC_20 S0 ws S st cu hu ki ∧ (rkPr S0 → rkCw S0 S (ki, st, cu, none, none, none) ∧ S 412 2 = (rzN (rzCut (S0 411)) (S0 412 1) (rzN (rzCut (S0 411)) (S0 412 1) (rzN (rzCut (S0 411)) (S0 412 1) (rzN (rzCut (S0 411)) (S0 412 1) (rzN (rzCut (S0 411)) (S0 412 1) (S0 412 2)))))) ∧ S 412 7 = S0 412 7 ∧ S 427 0 = S0 427 0 ∧ rkPp S) ∧ st = rzPv (rzCut (S0 411)) (S0 412 1) (rzN (rzCut (S0 411)) (S0 412 1) (S0 412 2)) ∧ cu = rzPv (rzCut (S0 411)) (S0 412 1) (rzN (rzCut (S0 411)) (S0 412 1) (rzN (rzCut (S0 411)) (S0 412 1) (rzN (rzCut (S0 411)) (S0 412 1) (S0 412 2)))) ∧ (((hu = 1 ∧ rzIs (rzCut (S0 411)) (S0 412 1) rzW_hush (rzN (rzCut (S0 411)) (S0 412 1) (rzN (rzCut (S0 411)) (S0 412 1) (rzN (rzCut (S0 411)) (S0 412 1) (rzN (rzCut (S0 411)) (S0 412 1) (S0 412 2))))) = true) ∨ (hu = 0 ∧ rzIs (rzCut (S0 411)) (S0 412 1) rzW_hush (rzN (rzCut (S0 411)) (S0 412 1) (rzN (rzCut (S0 411)) (S0 412 1) (rzN (rzCut (S0 411)) (S0 412 1) (rzN (rzCut (S0 411)) (S0 412 1) (S0 412 2))))) = false)) ∧ (rzN (rzCut (S0 411)) (S0 412 1) (rzN (rzCut (S0 411)) (S0 412 1) (rzN (rzCut (S0 411)) (S0 412 1) (rzN (rzCut (S0 411)) (S0 412 1) (S0 412 2))))) < (rzN (rzCut (S0 411)) (S0 412 1) (rzN (rzCut (S0 411)) (S0 412 1) (rzN (rzCut (S0 411)) (S0 412 1) (rzN (rzCut (S0 411)) (S0 412 1) (rzN (rzCut (S0 411)) (S0 412 1) (S0 412 2))))))) ∧ ki = (if hu = 1 then 4 else 3)
noncomputable def rxmRPCK_20 (S0 : Nat → Int → Int) (ws : List Int) (S : Nat → Int → Int) (st cu hu ki : Int) : Nat := rxmRPC_20 S0 ws S st cu hu ki
noncomputable def rxIRPCK_21 (S0 : Nat → Int → Int) (ws : List Int) (S : Nat → Int → Int) (st cu hu sa : Int) : Prop := rxIRPC_21 S0 ws S st cu hu sa ∧ (rkPr S0 → (rkCw S0 S (3, st, cu, none, none, none) ∧ S 412 2 = (rzN (rzCut (S0 411)) (S0 412 1) (rzN (rzCut (S0 411)) (S0 412 1) (rzN (rzCut (S0 411)) (S0 412 1) (rzN (rzCut (S0 411)) (S0 412 1) (rzN (rzCut (S0 411)) (S0 412 1) (S0 412 2)))))) ∧ S 412 7 = S0 412 7 ∧ S 427 0 = S0 427 0 ∧ rkPp S) ∧ sa = 434) ∧ st = rzPv (rzCut (S0 411)) (S0 412 1) (rzN (rzCut (S0 411)) (S0 412 1) (S0 412 2)) ∧ cu = rzPv (rzCut (S0 411)) (S0 412 1) (rzN (rzCut (S0 411)) (S0 412 1) (rzN (rzCut (S0 411)) (S0 412 1) (rzN (rzCut (S0 411)) (S0 412 1) (S0 412 2)))) ∧ (hu = 0 ∧ rzIs (rzCut (S0 411)) (S0 412 1) rzW_hush (rzN (rzCut (S0 411)) (S0 412 1) (rzN (rzCut (S0 411)) (S0 412 1) (rzN (rzCut (S0 411)) (S0 412 1) (rzN (rzCut (S0 411)) (S0 412 1) (S0 412 2))))) = false ∧ (rzN (rzCut (S0 411)) (S0 412 1) (rzN (rzCut (S0 411)) (S0 412 1) (rzN (rzCut (S0 411)) (S0 412 1) (rzN (rzCut (S0 411)) (S0 412 1) (S0 412 2))))) < (rzN (rzCut (S0 411)) (S0 412 1) (rzN (rzCut (S0 411)) (S0 412 1) (rzN (rzCut (S0 411)) (S0 412 1) (rzN (rzCut (S0 411)) (S0 412 1) (rzN (rzCut (S0 411)) (S0 412 1) (S0 412 2)))))))
noncomputable def rxmRPCK_21 (S0 : Nat → Int → Int) (ws : List Int) (S : Nat → Int → Int) (st cu hu sa : Int) : Nat := rxmRPC_21 S0 ws S st cu hu sa
noncomputable def rxIRPCK_22 (S0 : Nat → Int → Int) (ws : List Int) (S : Nat → Int → Int) (st cu hu sa res : Int) : Prop := rxIRPC_22 S0 ws S st cu hu sa res ∧ (res = 1 → (rkPr S0 → ∃ (d : rkC) (r : rzR), rkEx (rzCut (S0 411)) (S0 412 1) (rzWs S0) 0 (rzN (rzCut (S0 411)) (S0 412 1) (rzN (rzCut (S0 411)) (S0 412 1) (rzN (rzCut (S0 411)) (S0 412 1) (rzN (rzCut (S0 411)) (S0 412 1) (rzN (rzCut (S0 411)) (S0 412 1) (S0 412 2)))))) (S0 412 7) d ∧ rzEx (rzCut (S0 411)) (S0 412 1) (rzWs S0) 0 (rzN (rzCut (S0 411)) (S0 412 1) (rzN (rzCut (S0 411)) (S0 412 1) (rzN (rzCut (S0 411)) (S0 412 1) (rzN (rzCut (S0 411)) (S0 412 1) (rzN (rzCut (S0 411)) (S0 412 1) (S0 412 2)))))) (S0 412 7) r ∧ S 412 2 = r.2.1 ∧ S 412 7 = r.2.2 ∧ rkCw S0 S (3, st, cu, some d, none, none)) ∧ st = rzPv (rzCut (S0 411)) (S0 412 1) (rzN (rzCut (S0 411)) (S0 412 1) (S0 412 2)) ∧ cu = rzPv (rzCut (S0 411)) (S0 412 1) (rzN (rzCut (S0 411)) (S0 412 1) (rzN (rzCut (S0 411)) (S0 412 1) (rzN (rzCut (S0 411)) (S0 412 1) (S0 412 2)))) ∧ hu = 0 ∧ rzIs (rzCut (S0 411)) (S0 412 1) rzW_hush (rzN (rzCut (S0 411)) (S0 412 1) (rzN (rzCut (S0 411)) (S0 412 1) (rzN (rzCut (S0 411)) (S0 412 1) (rzN (rzCut (S0 411)) (S0 412 1) (S0 412 2))))) = false ∧ (rzN (rzCut (S0 411)) (S0 412 1) (rzN (rzCut (S0 411)) (S0 412 1) (rzN (rzCut (S0 411)) (S0 412 1) (rzN (rzCut (S0 411)) (S0 412 1) (S0 412 2))))) < (rzN (rzCut (S0 411)) (S0 412 1) (rzN (rzCut (S0 411)) (S0 412 1) (rzN (rzCut (S0 411)) (S0 412 1) (rzN (rzCut (S0 411)) (S0 412 1) (rzN (rzCut (S0 411)) (S0 412 1) (S0 412 2)))))))
noncomputable def rxmRPCK_22 (S0 : Nat → Int → Int) (ws : List Int) (S : Nat → Int → Int) (st cu hu sa res : Int) : Nat := rxmRPC_22 S0 ws S st cu hu sa res
noncomputable def rxIRPCK_23 (S0 : Nat → Int → Int) (ws : List Int) (S : Nat → Int → Int) (st cu hu : Int) : Prop := rxIRPC_23 S0 ws S st cu hu ∧ (rkPr S0 → ∃ (d : rkC) (r : rzR), rkEx (rzCut (S0 411)) (S0 412 1) (rzWs S0) 0 (rzN (rzCut (S0 411)) (S0 412 1) (rzN (rzCut (S0 411)) (S0 412 1) (rzN (rzCut (S0 411)) (S0 412 1) (rzN (rzCut (S0 411)) (S0 412 1) (rzN (rzCut (S0 411)) (S0 412 1) (S0 412 2)))))) (S0 412 7) d ∧ rzEx (rzCut (S0 411)) (S0 412 1) (rzWs S0) 0 (rzN (rzCut (S0 411)) (S0 412 1) (rzN (rzCut (S0 411)) (S0 412 1) (rzN (rzCut (S0 411)) (S0 412 1) (rzN (rzCut (S0 411)) (S0 412 1) (rzN (rzCut (S0 411)) (S0 412 1) (S0 412 2)))))) (S0 412 7) r ∧ S 412 2 = r.2.1 ∧ S 412 7 = r.2.2 ∧ rkCw S0 S (3, st, cu, some d, none, none)) ∧ st = rzPv (rzCut (S0 411)) (S0 412 1) (rzN (rzCut (S0 411)) (S0 412 1) (S0 412 2)) ∧ cu = rzPv (rzCut (S0 411)) (S0 412 1) (rzN (rzCut (S0 411)) (S0 412 1) (rzN (rzCut (S0 411)) (S0 412 1) (rzN (rzCut (S0 411)) (S0 412 1) (S0 412 2)))) ∧ hu = 0 ∧ rzIs (rzCut (S0 411)) (S0 412 1) rzW_hush (rzN (rzCut (S0 411)) (S0 412 1) (rzN (rzCut (S0 411)) (S0 412 1) (rzN (rzCut (S0 411)) (S0 412 1) (rzN (rzCut (S0 411)) (S0 412 1) (S0 412 2))))) = false ∧ (rzN (rzCut (S0 411)) (S0 412 1) (rzN (rzCut (S0 411)) (S0 412 1) (rzN (rzCut (S0 411)) (S0 412 1) (rzN (rzCut (S0 411)) (S0 412 1) (S0 412 2))))) < (rzN (rzCut (S0 411)) (S0 412 1) (rzN (rzCut (S0 411)) (S0 412 1) (rzN (rzCut (S0 411)) (S0 412 1) (rzN (rzCut (S0 411)) (S0 412 1) (rzN (rzCut (S0 411)) (S0 412 1) (S0 412 2))))))
noncomputable def rxmRPCK_23 (S0 : Nat → Int → Int) (ws : List Int) (S : Nat → Int → Int) (st cu hu : Int) : Nat := rxmRPC_23 S0 ws S st cu hu
noncomputable def rxIRPCK_24 (S0 : Nat → Int → Int) (ws : List Int) (S : Nat → Int → Int) (st cu hu r : Int) : Prop := rxIRPC_24 S0 ws S st cu hu r ∧ (rkPr S0 → ∃ (d : rkC) (r : rzR), rkEx (rzCut (S0 411)) (S0 412 1) (rzWs S0) 0 (rzN (rzCut (S0 411)) (S0 412 1) (rzN (rzCut (S0 411)) (S0 412 1) (rzN (rzCut (S0 411)) (S0 412 1) (rzN (rzCut (S0 411)) (S0 412 1) (rzN (rzCut (S0 411)) (S0 412 1) (S0 412 2)))))) (S0 412 7) d ∧ rzEx (rzCut (S0 411)) (S0 412 1) (rzWs S0) 0 (rzN (rzCut (S0 411)) (S0 412 1) (rzN (rzCut (S0 411)) (S0 412 1) (rzN (rzCut (S0 411)) (S0 412 1) (rzN (rzCut (S0 411)) (S0 412 1) (rzN (rzCut (S0 411)) (S0 412 1) (S0 412 2)))))) (S0 412 7) r ∧ S 412 2 = r.2.1 ∧ S 412 7 = r.2.2 ∧ rkCw S0 S (3, st, cu, some d, none, none)) ∧ st = rzPv (rzCut (S0 411)) (S0 412 1) (rzN (rzCut (S0 411)) (S0 412 1) (S0 412 2)) ∧ cu = rzPv (rzCut (S0 411)) (S0 412 1) (rzN (rzCut (S0 411)) (S0 412 1) (rzN (rzCut (S0 411)) (S0 412 1) (rzN (rzCut (S0 411)) (S0 412 1) (S0 412 2)))) ∧ hu = 0 ∧ rzIs (rzCut (S0 411)) (S0 412 1) rzW_hush (rzN (rzCut (S0 411)) (S0 412 1) (rzN (rzCut (S0 411)) (S0 412 1) (rzN (rzCut (S0 411)) (S0 412 1) (rzN (rzCut (S0 411)) (S0 412 1) (S0 412 2))))) = false ∧ (rzN (rzCut (S0 411)) (S0 412 1) (rzN (rzCut (S0 411)) (S0 412 1) (rzN (rzCut (S0 411)) (S0 412 1) (rzN (rzCut (S0 411)) (S0 412 1) (S0 412 2))))) < (rzN (rzCut (S0 411)) (S0 412 1) (rzN (rzCut (S0 411)) (S0 412 1) (rzN (rzCut (S0 411)) (S0 412 1) (rzN (rzCut (S0 411)) (S0 412 1) (rzN (rzCut (S0 411)) (S0 412 1) (S0 412 2))))))
noncomputable def rxmRPCK_24 (S0 : Nat → Int → Int) (ws : List Int) (S : Nat → Int → Int) (st cu hu r : Int) : Nat := rxmRPC_24 S0 ws S st cu hu r
noncomputable def rxIRPCK_25 (S0 : Nat → Int → Int) (ws : List Int) (S : Nat → Int → Int) (st cu hu : Int) : Prop := rxIRPC_25 S0 ws S st cu hu ∧ (rkPr S0 → ∃ (d : rkC) (r : rzR), rkEx (rzCut (S0 411)) (S0 412 1) (rzWs S0) 0 (rzN (rzCut (S0 411)) (S0 412 1) (rzN (rzCut (S0 411)) (S0 412 1) (rzN (rzCut (S0 411)) (S0 412 1) (rzN (rzCut (S0 411)) (S0 412 1) (rzN (rzCut (S0 411)) (S0 412 1) (S0 412 2)))))) (S0 412 7) d ∧ rzEx (rzCut (S0 411)) (S0 412 1) (rzWs S0) 0 (rzN (rzCut (S0 411)) (S0 412 1) (rzN (rzCut (S0 411)) (S0 412 1) (rzN (rzCut (S0 411)) (S0 412 1) (rzN (rzCut (S0 411)) (S0 412 1) (rzN (rzCut (S0 411)) (S0 412 1) (S0 412 2)))))) (S0 412 7) r ∧ S 412 2 = r.2.1 ∧ S 412 7 = r.2.2 ∧ rkCw S0 S (3, st, cu, some d, none, none) ∧ rzIs (rzCut (S0 411)) (S0 412 1) rzW_go r.2.1 = true) ∧ st = rzPv (rzCut (S0 411)) (S0 412 1) (rzN (rzCut (S0 411)) (S0 412 1) (S0 412 2)) ∧ cu = rzPv (rzCut (S0 411)) (S0 412 1) (rzN (rzCut (S0 411)) (S0 412 1) (rzN (rzCut (S0 411)) (S0 412 1) (rzN (rzCut (S0 411)) (S0 412 1) (S0 412 2)))) ∧ hu = 0 ∧ rzIs (rzCut (S0 411)) (S0 412 1) rzW_hush (rzN (rzCut (S0 411)) (S0 412 1) (rzN (rzCut (S0 411)) (S0 412 1) (rzN (rzCut (S0 411)) (S0 412 1) (rzN (rzCut (S0 411)) (S0 412 1) (S0 412 2))))) = false ∧ (rzN (rzCut (S0 411)) (S0 412 1) (rzN (rzCut (S0 411)) (S0 412 1) (rzN (rzCut (S0 411)) (S0 412 1) (rzN (rzCut (S0 411)) (S0 412 1) (S0 412 2))))) < (rzN (rzCut (S0 411)) (S0 412 1) (rzN (rzCut (S0 411)) (S0 412 1) (rzN (rzCut (S0 411)) (S0 412 1) (rzN (rzCut (S0 411)) (S0 412 1) (rzN (rzCut (S0 411)) (S0 412 1) (S0 412 2))))))
noncomputable def rxmRPCK_25 (S0 : Nat → Int → Int) (ws : List Int) (S : Nat → Int → Int) (st cu hu : Int) : Nat := rxmRPC_25 S0 ws S st cu hu
noncomputable def rxIRPCK_26 (S0 : Nat → Int → Int) (ws : List Int) (S : Nat → Int → Int) (st cu hu : Int) : Prop := rxIRPC_26 S0 ws S st cu hu ∧ (rkPr S0 → ∃ (d : rkC) (r : rzR), rkEx (rzCut (S0 411)) (S0 412 1) (rzWs S0) 0 (rzN (rzCut (S0 411)) (S0 412 1) (rzN (rzCut (S0 411)) (S0 412 1) (rzN (rzCut (S0 411)) (S0 412 1) (rzN (rzCut (S0 411)) (S0 412 1) (rzN (rzCut (S0 411)) (S0 412 1) (S0 412 2)))))) (S0 412 7) d ∧ rzEx (rzCut (S0 411)) (S0 412 1) (rzWs S0) 0 (rzN (rzCut (S0 411)) (S0 412 1) (rzN (rzCut (S0 411)) (S0 412 1) (rzN (rzCut (S0 411)) (S0 412 1) (rzN (rzCut (S0 411)) (S0 412 1) (rzN (rzCut (S0 411)) (S0 412 1) (S0 412 2)))))) (S0 412 7) r ∧ S 412 2 = (rzN (rzCut (S0 411)) (S0 412 1) r.2.1) ∧ S 412 7 = r.2.2 ∧ rkCw S0 S (3, st, cu, some d, none, none) ∧ rzIs (rzCut (S0 411)) (S0 412 1) rzW_go r.2.1 = true ∧ S 427 0 + 1 ≤ S 412 2) ∧ st = rzPv (rzCut (S0 411)) (S0 412 1) (rzN (rzCut (S0 411)) (S0 412 1) (S0 412 2)) ∧ cu = rzPv (rzCut (S0 411)) (S0 412 1) (rzN (rzCut (S0 411)) (S0 412 1) (rzN (rzCut (S0 411)) (S0 412 1) (rzN (rzCut (S0 411)) (S0 412 1) (S0 412 2)))) ∧ hu = 0 ∧ rzIs (rzCut (S0 411)) (S0 412 1) rzW_hush (rzN (rzCut (S0 411)) (S0 412 1) (rzN (rzCut (S0 411)) (S0 412 1) (rzN (rzCut (S0 411)) (S0 412 1) (rzN (rzCut (S0 411)) (S0 412 1) (S0 412 2))))) = false ∧ (rzN (rzCut (S0 411)) (S0 412 1) (rzN (rzCut (S0 411)) (S0 412 1) (rzN (rzCut (S0 411)) (S0 412 1) (rzN (rzCut (S0 411)) (S0 412 1) (S0 412 2))))) < (rzN (rzCut (S0 411)) (S0 412 1) (rzN (rzCut (S0 411)) (S0 412 1) (rzN (rzCut (S0 411)) (S0 412 1) (rzN (rzCut (S0 411)) (S0 412 1) (rzN (rzCut (S0 411)) (S0 412 1) (S0 412 2))))))
noncomputable def rxmRPCK_26 (S0 : Nat → Int → Int) (ws : List Int) (S : Nat → Int → Int) (st cu hu : Int) : Nat := rxmRPC_26 S0 ws S st cu hu
noncomputable def rxIRPCK_27 (S0 : Nat → Int → Int) (ws : List Int) (S : Nat → Int → Int) (st cu hu sa : Int) : Prop := rxIRPC_27 S0 ws S st cu hu sa ∧ (rkPr S0 → ∃ (d : rkC) (r : rzR), rkEx (rzCut (S0 411)) (S0 412 1) (rzWs S0) 0 (rzN (rzCut (S0 411)) (S0 412 1) (rzN (rzCut (S0 411)) (S0 412 1) (rzN (rzCut (S0 411)) (S0 412 1) (rzN (rzCut (S0 411)) (S0 412 1) (rzN (rzCut (S0 411)) (S0 412 1) (S0 412 2)))))) (S0 412 7) d ∧ rzEx (rzCut (S0 411)) (S0 412 1) (rzWs S0) 0 (rzN (rzCut (S0 411)) (S0 412 1) (rzN (rzCut (S0 411)) (S0 412 1) (rzN (rzCut (S0 411)) (S0 412 1) (rzN (rzCut (S0 411)) (S0 412 1) (rzN (rzCut (S0 411)) (S0 412 1) (S0 412 2)))))) (S0 412 7) r ∧ S 412 2 = (rzN (rzCut (S0 411)) (S0 412 1) r.2.1) ∧ S 412 7 = r.2.2 ∧ rkCw S0 S (3, st, cu, some d, none, none) ∧ rzIs (rzCut (S0 411)) (S0 412 1) rzW_go r.2.1 = true ∧ S 427 0 + 1 ≤ S 412 2 ∧ sa = 435) ∧ st = rzPv (rzCut (S0 411)) (S0 412 1) (rzN (rzCut (S0 411)) (S0 412 1) (S0 412 2)) ∧ cu = rzPv (rzCut (S0 411)) (S0 412 1) (rzN (rzCut (S0 411)) (S0 412 1) (rzN (rzCut (S0 411)) (S0 412 1) (rzN (rzCut (S0 411)) (S0 412 1) (S0 412 2)))) ∧ hu = 0 ∧ rzIs (rzCut (S0 411)) (S0 412 1) rzW_hush (rzN (rzCut (S0 411)) (S0 412 1) (rzN (rzCut (S0 411)) (S0 412 1) (rzN (rzCut (S0 411)) (S0 412 1) (rzN (rzCut (S0 411)) (S0 412 1) (S0 412 2))))) = false ∧ (rzN (rzCut (S0 411)) (S0 412 1) (rzN (rzCut (S0 411)) (S0 412 1) (rzN (rzCut (S0 411)) (S0 412 1) (rzN (rzCut (S0 411)) (S0 412 1) (S0 412 2))))) < (rzN (rzCut (S0 411)) (S0 412 1) (rzN (rzCut (S0 411)) (S0 412 1) (rzN (rzCut (S0 411)) (S0 412 1) (rzN (rzCut (S0 411)) (S0 412 1) (rzN (rzCut (S0 411)) (S0 412 1) (S0 412 2))))))
noncomputable def rxmRPCK_27 (S0 : Nat → Int → Int) (ws : List Int) (S : Nat → Int → Int) (st cu hu sa : Int) : Nat := rxmRPC_27 S0 ws S st cu hu sa
noncomputable def rxIRPCK_28 (S0 : Nat → Int → Int) (ws : List Int) (S : Nat → Int → Int) (st cu hu sa res : Int) : Prop := rxIRPC_28 S0 ws S st cu hu sa res ∧ (res = 1 → rkHo (rkPH (rzCut (S0 411)) (S0 412 1) (rzWs S0) (S0 412 2) (S0 412 7)) S0 S)
noncomputable def rxmRPCK_28 (S0 : Nat → Int → Int) (ws : List Int) (S : Nat → Int → Int) (st cu hu sa res : Int) : Nat := rxmRPC_28 S0 ws S st cu hu sa res
noncomputable def rxPRPCK (S0 : Nat → Int → Int) (ws : List Int) : Prop := rxPRPC S0 ws
noncomputable def rxPSRPCK (S0 : Nat → Int → Int) (ws : List Int) (S : Nat → Int → Int) (w : Option Int) : Prop := rxPSRPC S0 ws S w ∧ (w = some 1 → rkHo (rkPH (rzCut (S0 411)) (S0 412 1) (rzWs S0) (S0 412 2) (S0 412 7)) S0 S)
theorem rxkRPCK_1 {S0 : Nat → Int → Int} {ws : List Int} {S : Nat → Int → Int} (hP : rxPRPCK S0 ws) (hin : bx_same rxL (bx_mdl rxCRPCK.2.2.1) S0 S) (I0 : bx_Inv rxL S) (hinv : rxIRPCK_1 S0 ws S)  : rxPTKW S [412, 533] ∧ ∀ (S_p : Nat → Int → Int) (r : Int), 0 ≤ r → r ≤ 1 → rxPSTKW S [412, 533] S_p (some r) → bx_Inv rxL S_p → bx_same rxL (bx_mdl rxC90.2.2.1) S S_p → rxIRPCK_2 S0 ws S_p r ∧ rxmRPCK_2 S0 ws S_p r < rxmRPCK_1 S0 ws S := by
  obtain ⟨hI, hx⟩ := hinv
  have g_ := rxkRPC_1 hP hin I0 hI
  exact ⟨g_.1, fun S_p r l_ u_ hq I1 hsm => ⟨⟨(g_.2 S_p r l_ u_ hq I1 hsm).1, (by
    intro g_
    obtain ⟨k, hk, hq⟩ := hq
    rcases hq with ⟨b, e, d, e2, kp⟩ | ⟨b, e, e4⟩
    · obtain ⟨h1, h2, h3⟩ := hx
      have hA : rzKp S0 S := hI.1
      have g : rkTa S0 S_p (rzN (rzCut (S0 411)) (S0 412 1) (S0 412 2)) := ⟨by rw [e2, hA.1, hA.2.1, h1], (hsm 412 7 (by decide) (by decide) (by decide +kernel)).trans h2, rkPs_sm h3 hsm (by decide +kernel)⟩
      exact g
    · exfalso
      have := Option.some.inj e
      omega)⟩, (g_.2 S_p r l_ u_ hq I1 hsm).2⟩⟩
theorem rxkRPCK_3 {S0 : Nat → Int → Int} {ws : List Int} {S : Nat → Int → Int} (hP : rxPRPCK S0 ws) (hin : bx_same rxL (bx_mdl rxCRPCK.2.2.1) S0 S) (I0 : bx_Inv rxL S) (hinv : rxIRPCK_3 S0 ws S)  : rxPPLH S [412] ∧ ∀ (S_p : Nat → Int → Int) (pl : Int), (-2147483648) ≤ pl → pl ≤ 6 → rxPSPLH S [412] S_p (some pl) → bx_Inv rxL S_p → bx_same rxL (bx_mdl rxC91.2.2.1) S S_p → rxIRPCK_4 S0 ws S_p pl ∧ rxmRPCK_4 S0 ws S_p pl < rxmRPCK_3 S0 ws S := by
  obtain ⟨hI, hx⟩ := hinv
  have g_ := rxkRPC_3 hP hin I0 hI
  exact ⟨g_.1, fun S_p pl l_ u_ hq I1 hsm => ⟨⟨(g_.2 S_p pl l_ u_ hq I1 hsm).1, (by
    have e := hq.1
    subst e
    exact hx)⟩, (g_.2 S_p pl l_ u_ hq I1 hsm).2⟩⟩
theorem rxkRPCK_5 {S0 : Nat → Int → Int} {ws : List Int} {S : Nat → Int → Int} {st : Int} (hP : rxPRPCK S0 ws) (hin : bx_same rxL (bx_mdl rxCRPCK.2.2.1) S0 S) (I0 : bx_Inv rxL S) (hinv : rxIRPCK_5 S0 ws S st) (l8 : 0 ≤ st) (u8 : st ≤ 6) : rxPAD S [412] ∧ ∀ (S_p : Nat → Int → Int), rxPSAD S [412] S_p none → bx_Inv rxL S_p → bx_same rxL (bx_mdl rxC84.2.2.1) S S_p → rxIRPCK_6 S0 ws S_p st ∧ rxmRPCK_6 S0 ws S_p st < rxmRPCK_5 S0 ws S st := by
  obtain ⟨hI, hx⟩ := hinv
  have g_ := rxkRPC_5 hP hin I0 hI l8 u8
  exact ⟨g_.1, fun S_p hq I1 hsm => ⟨⟨(g_.2 S_p hq I1 hsm).1, (by
    exact ⟨rkTa_ad hx.1 hI.1.1 hI.1.2.1 hsm (by decide +kernel) (by decide +kernel) hq.2.1, hx.2⟩)⟩, (g_.2 S_p hq I1 hsm).2⟩⟩
theorem rxkRPCK_7 {S0 : Nat → Int → Int} {ws : List Int} {S : Nat → Int → Int} {st : Int} (hP : rxPRPCK S0 ws) (hin : bx_same rxL (bx_mdl rxCRPCK.2.2.1) S0 S) (I0 : bx_Inv rxL S) (hinv : rxIRPCK_7 S0 ws S st) (l8 : 0 ≤ st) (u8 : st ≤ 6) : rxPTKW S [412, 524] ∧ ∀ (S_p : Nat → Int → Int) (r : Int), 0 ≤ r → r ≤ 1 → rxPSTKW S [412, 524] S_p (some r) → bx_Inv rxL S_p → bx_same rxL (bx_mdl rxC90.2.2.1) S S_p → rxIRPCK_8 S0 ws S_p st r ∧ rxmRPCK_8 S0 ws S_p st r < rxmRPCK_7 S0 ws S st := by
  obtain ⟨hI, hx⟩ := hinv
  have g_ := rxkRPC_7 hP hin I0 hI l8 u8
  exact ⟨g_.1, fun S_p r l_ u_ hq I1 hsm => ⟨⟨(g_.2 S_p r l_ u_ hq I1 hsm).1, (by
    intro g_
    obtain ⟨k, hk, hq⟩ := hq
    rcases hq with ⟨b, e, d, e2, kp⟩ | ⟨b, e, e4⟩
    · obtain ⟨h1, h2, h3⟩ := hx.1
      have hA : rzKp S0 S := hI.1
      have g : rkTa S0 S_p (rzN (rzCut (S0 411)) (S0 412 1) (rzN (rzCut (S0 411)) (S0 412 1) (rzN (rzCut (S0 411)) (S0 412 1) (S0 412 2)))) := ⟨by rw [e2, hA.1, hA.2.1, h1], (hsm 412 7 (by decide) (by decide) (by decide +kernel)).trans h2, rkPs_sm h3 hsm (by decide +kernel)⟩
      exact ⟨g, hx.2⟩
    · exfalso
      have := Option.some.inj e
      omega)⟩, (g_.2 S_p r l_ u_ hq I1 hsm).2⟩⟩
theorem rxkRPCK_9 {S0 : Nat → Int → Int} {ws : List Int} {S : Nat → Int → Int} {st : Int} (hP : rxPRPCK S0 ws) (hin : bx_same rxL (bx_mdl rxCRPCK.2.2.1) S0 S) (I0 : bx_Inv rxL S) (hinv : rxIRPCK_9 S0 ws S st) (l8 : 0 ≤ st) (u8 : st ≤ 6) : rxPPLH S [412] ∧ ∀ (S_p : Nat → Int → Int) (pl : Int), (-2147483648) ≤ pl → pl ≤ 6 → rxPSPLH S [412] S_p (some pl) → bx_Inv rxL S_p → bx_same rxL (bx_mdl rxC91.2.2.1) S S_p → rxIRPCK_10 S0 ws S_p st pl ∧ rxmRPCK_10 S0 ws S_p st pl < rxmRPCK_9 S0 ws S st := by
  obtain ⟨hI, hx⟩ := hinv
  have g_ := rxkRPC_9 hP hin I0 hI l8 u8
  exact ⟨g_.1, fun S_p pl l_ u_ hq I1 hsm => ⟨⟨(g_.2 S_p pl l_ u_ hq I1 hsm).1, (by
    have e := hq.1
    subst e
    exact hx)⟩, (g_.2 S_p pl l_ u_ hq I1 hsm).2⟩⟩
theorem rxkRPCK_11 {S0 : Nat → Int → Int} {ws : List Int} {S : Nat → Int → Int} {st cu : Int} (hP : rxPRPCK S0 ws) (hin : bx_same rxL (bx_mdl rxCRPCK.2.2.1) S0 S) (I0 : bx_Inv rxL S) (hinv : rxIRPCK_11 S0 ws S st cu) (l8 : 0 ≤ st) (u8 : st ≤ 6) (l9 : 0 ≤ cu) (u9 : cu ≤ 6) : rxPAD S [412] ∧ ∀ (S_p : Nat → Int → Int), rxPSAD S [412] S_p none → bx_Inv rxL S_p → bx_same rxL (bx_mdl rxC84.2.2.1) S S_p → rxIRPCK_12 S0 ws S_p st cu ∧ rxmRPCK_12 S0 ws S_p st cu < rxmRPCK_11 S0 ws S st cu := by
  obtain ⟨hI, hx⟩ := hinv
  have g_ := rxkRPC_11 hP hin I0 hI l8 u8 l9 u9
  exact ⟨g_.1, fun S_p hq I1 hsm => ⟨⟨(g_.2 S_p hq I1 hsm).1, (by
    exact ⟨rkTa_ad hx.1 hI.1.1 hI.1.2.1 hsm (by decide +kernel) (by decide +kernel) hq.2.1, hx.2⟩)⟩, (g_.2 S_p hq I1 hsm).2⟩⟩
theorem rxkRPCK_13 {S0 : Nat → Int → Int} {ws : List Int} {S : Nat → Int → Int} {st cu : Int} (hP : rxPRPCK S0 ws) (hin : bx_same rxL (bx_mdl rxCRPCK.2.2.1) S0 S) (I0 : bx_Inv rxL S) (hinv : rxIRPCK_13 S0 ws S st cu) (l8 : 0 ≤ st) (u8 : st ≤ 6) (l9 : 0 ≤ cu) (u9 : cu ≤ 6) : rxPIWX S [412, 531] ∧ ∀ (S_p : Nat → Int → Int) (r : Int), 0 ≤ r → r ≤ 1 → rxPSIWX S [412, 531] S_p (some r) → bx_Inv rxL S_p → bx_same rxL (bx_mdl rxC59.2.2.1) S S_p → rxIRPCK_14 S0 ws S_p st cu r ∧ rxmRPCK_14 S0 ws S_p st cu r < rxmRPCK_13 S0 ws S st cu := by
  obtain ⟨hI, hx⟩ := hinv
  have g_ := rxkRPC_13 hP hin I0 hI l8 u8 l9 u9
  exact ⟨g_.1, fun S_p r l_ u_ hq I1 hsm => ⟨⟨(g_.2 S_p r l_ u_ hq I1 hsm).1, (by
    have e_ := hq.1
    subst e_
    exact hx)⟩, (g_.2 S_p r l_ u_ hq I1 hsm).2⟩⟩
theorem rxkRPCK_15 {S0 : Nat → Int → Int} {ws : List Int} {S : Nat → Int → Int} {st cu hu : Int} (hP : rxPRPCK S0 ws) (hin : bx_same rxL (bx_mdl rxCRPCK.2.2.1) S0 S) (I0 : bx_Inv rxL S) (hinv : rxIRPCK_15 S0 ws S st cu hu) (l8 : 0 ≤ st) (u8 : st ≤ 6) (l9 : 0 ≤ cu) (u9 : cu ≤ 6) (l10 : 0 ≤ hu) (u10 : hu ≤ 1) : rxPIWX S [412, 541] ∧ ∀ (S_p : Nat → Int → Int) (r : Int), 0 ≤ r → r ≤ 1 → rxPSIWX S [412, 541] S_p (some r) → bx_Inv rxL S_p → bx_same rxL (bx_mdl rxC59.2.2.1) S S_p → rxIRPCK_16 S0 ws S_p st cu hu r ∧ rxmRPCK_16 S0 ws S_p st cu hu r < rxmRPCK_15 S0 ws S st cu hu := by
  obtain ⟨hI, hx⟩ := hinv
  have g_ := rxkRPC_15 hP hin I0 hI l8 u8 l9 u9 l10 u10
  exact ⟨g_.1, fun S_p r l_ u_ hq I1 hsm => ⟨⟨(g_.2 S_p r l_ u_ hq I1 hsm).1, (by
    have e_ := hq.1
    subst e_
    exact hx)⟩, (g_.2 S_p r l_ u_ hq I1 hsm).2⟩⟩
theorem rxkRPCK_17 {S0 : Nat → Int → Int} {ws : List Int} {S : Nat → Int → Int} {st cu hu : Int} (hP : rxPRPCK S0 ws) (hin : bx_same rxL (bx_mdl rxCRPCK.2.2.1) S0 S) (I0 : bx_Inv rxL S) (hinv : rxIRPCK_17 S0 ws S st cu hu) (l8 : 0 ≤ st) (u8 : st ≤ 6) (l9 : 0 ≤ cu) (u9 : cu ≤ 6) (l10 : 0 ≤ hu) (u10 : hu ≤ 1) : rxPAD S [412] ∧ ∀ (S_p : Nat → Int → Int), rxPSAD S [412] S_p none → bx_Inv rxL S_p → bx_same rxL (bx_mdl rxC84.2.2.1) S S_p → rxIRPCK_18 S0 ws S_p st cu hu ∧ rxmRPCK_18 S0 ws S_p st cu hu < rxmRPCK_17 S0 ws S st cu hu := by
  obtain ⟨hI, hx⟩ := hinv
  have g_ := rxkRPC_17 hP hin I0 hI l8 u8 l9 u9 l10 u10
  exact ⟨g_.1, fun S_p hq I1 hsm => ⟨⟨(g_.2 S_p hq I1 hsm).1, (by
    exact ⟨rkTa_ad hx.1 hI.1.1 hI.1.2.1 hsm (by decide +kernel) (by decide +kernel) hq.2.1, hx.2⟩)⟩, (g_.2 S_p hq I1 hsm).2⟩⟩
theorem rxkRPCK_19 {S0 : Nat → Int → Int} {ws : List Int} {S : Nat → Int → Int} {st cu hu ki : Int} (hP : rxPRPCK S0 ws) (hin : bx_same rxL (bx_mdl rxCRPCK.2.2.1) S0 S) (I0 : bx_Inv rxL S) (hinv : rxIRPCK_19 S0 ws S st cu hu ki) (l8 : 0 ≤ st) (u8 : st ≤ 6) (l9 : 0 ≤ cu) (u9 : cu ≤ 6) (l10 : 0 ≤ hu) (u10 : hu ≤ 1) (l11 : 0 ≤ ki) (u11 : ki ≤ 4) : rxPOCDK S [427, ki, st, cu] ∧ ∀ (S_p : Nat → Int → Int), rxPSOCDK S [427, ki, st, cu] S_p none → bx_Inv rxL S_p → bx_same rxL (bx_mdl rxCOCDK.2.2.1) S S_p → rxIRPCK_20 S0 ws S_p st cu hu ki ∧ rxmRPCK_20 S0 ws S_p st cu hu ki < rxmRPCK_19 S0 ws S st cu hu ki := by
  obtain ⟨hI, hx⟩ := hinv
  have g_ := rxkRPC_19 hP hin I0 hI l8 u8 l9 u9 l10 u10 l11 u11
  exact ⟨g_.1, fun S_p hq I1 hsm => ⟨⟨(g_.2 S_p hq.2.1 I1 hsm).1, (by
    refine ⟨fun hp => ?_, hx.2.1, hx.2.2.1, hx.2.2.2.1, hx.2.2.2.2⟩
    obtain ⟨-, -, pg, ki2, st2, cu2, hw2, h⟩ := hq
    have e0 : (427 : Int) = pg := Option.some.inj (congrArg (fun l : List Int => l[0]?) hw2)
    have e1 : ki = ki2 := Option.some.inj (congrArg (fun l : List Int => l[1]?) hw2)
    have e2 : st = st2 := Option.some.inj (congrArg (fun l : List Int => l[2]?) hw2)
    have e3 : cu = cu2 := Option.some.inj (congrArg (fun l : List Int => l[3]?) hw2)
    subst e0
    subst e1
    subst e2
    subst e3
    have b1 := (rzN_b (T := (rzCut (S0 411))) (n := (S0 412 1)) (f := (S0 412 2))).1
    have b2 := (rzN_b (T := (rzCut (S0 411))) (n := (S0 412 1)) (f := (rzN (rzCut (S0 411)) (S0 412 1) (S0 412 2)))).1
    have b3 := (rzN_b (T := (rzCut (S0 411))) (n := (S0 412 1)) (f := (rzN (rzCut (S0 411)) (S0 412 1) (rzN (rzCut (S0 411)) (S0 412 1) (S0 412 2))))).1
    have b4 := (rzN_b (T := (rzCut (S0 411))) (n := (S0 412 1)) (f := (rzN (rzCut (S0 411)) (S0 412 1) (rzN (rzCut (S0 411)) (S0 412 1) (rzN (rzCut (S0 411)) (S0 412 1) (S0 412 2)))))).1
    have b5 := (rzN_b (T := (rzCut (S0 411))) (n := (S0 412 1)) (f := (rzN (rzCut (S0 411)) (S0 412 1) (rzN (rzCut (S0 411)) (S0 412 1) (rzN (rzCut (S0 411)) (S0 412 1) (rzN (rzCut (S0 411)) (S0 412 1) (S0 412 2))))))).1
    exact rkCw_oc hp hx.1 (by omega) (h rfl))⟩, (g_.2 S_p hq.2.1 I1 hsm).2⟩⟩
theorem rxkRPCK_21 {S0 : Nat → Int → Int} {ws : List Int} {S : Nat → Int → Int} {st cu hu sa : Int} (hP : rxPRPCK S0 ws) (hin : bx_same rxL (bx_mdl rxCRPCK.2.2.1) S0 S) (I0 : bx_Inv rxL S) (hinv : rxIRPCK_21 S0 ws S st cu hu sa) (l8 : 0 ≤ st) (u8 : st ≤ 6) (l9 : 0 ≤ cu) (u9 : cu ≤ 6) (l10 : 0 ≤ hu) (u10 : hu ≤ 1) (l11 : 0 ≤ sa) (u11 : sa ≤ 1522) : rxPREDK S [412, sa, 0] ∧ ∀ (S_p : Nat → Int → Int) (res : Int), 0 ≤ res → res ≤ 1 → rxPSREDK S [412, sa, 0] S_p (some res) → bx_Inv rxL S_p → bx_same rxL (bx_mdl rxCREDK.2.2.1) S S_p → rxIRPCK_22 S0 ws S_p st cu hu sa res ∧ rxmRPCK_22 S0 ws S_p st cu hu sa res < rxmRPCK_21 S0 ws S st cu hu sa := by
  obtain ⟨hI, hx⟩ := hinv
  have g_ := rxkRPC_21 hP hin I0 hI l8 u8 l9 u9 l10 u10 l11 u11
  exact ⟨g_.1, fun S_p res l_ u_ hq I1 hsm => ⟨⟨(g_.2 S_p res l_ u_ hq.1 I1 hsm).1, (by
    intro g_
    obtain ⟨h1, h2, h3, hh, hb, hlt⟩ := hx
    refine ⟨fun hp => ?_, h2, h3, hh, hb, hlt⟩
    obtain ⟨q0, sa2, sg2, hw2, h⟩ := hq
    have e1 : sa = sa2 := Option.some.inj (congrArg (fun l : List Int => l[1]?) hw2)
    have e2 : (0 : Int) = sg2 := Option.some.inj (congrArg (fun l : List Int => l[2]?) hw2)
    subst e1
    subst e2
    obtain ⟨⟨hc, e2, e7, e0, hpp⟩, hsa⟩ := h1 hp
    have hA : rzAt (rzPH (rzCut (S0 411)) (S0 412 1) (rzWs S0) (S0 412 2) (S0 412 7)) S0 S (fun f lf => rzThen (rzEx (rzCut (S0 411)) (S0 412 1) (rzWs S0) 0 f lf) (rzPG (rzCut (S0 411)) (S0 412 1) (rzWs S0))) := hI
    have p6 := hp.2.2.2.2.2
    have b1 := (rzN_b (T := (rzCut (S0 411))) (n := (S0 412 1)) (f := (S0 412 2))).1
    have b2 := (rzN_b (T := (rzCut (S0 411))) (n := (S0 412 1)) (f := (rzN (rzCut (S0 411)) (S0 412 1) (S0 412 2)))).1
    have b3 := (rzN_b (T := (rzCut (S0 411))) (n := (S0 412 1)) (f := (rzN (rzCut (S0 411)) (S0 412 1) (rzN (rzCut (S0 411)) (S0 412 1) (S0 412 2))))).1
    have b4 := (rzN_b (T := (rzCut (S0 411))) (n := (S0 412 1)) (f := (rzN (rzCut (S0 411)) (S0 412 1) (rzN (rzCut (S0 411)) (S0 412 1) (rzN (rzCut (S0 411)) (S0 412 1) (S0 412 2)))))).1
    obtain ⟨d, d1, d2, -⟩ := rkCw_e hp hc hsm (by decide +kernel) (Or.inl hsa) (by omega) (h (by rw [g_]))
    rw [hA.1.1, hA.1.2.1, hA.1.ws, e2, e7] at d1
    obtain ⟨sa3, sg3, hw3, q0⟩ := q0
    have e9 : (0 : Int) = sg3 := Option.some.inj (congrArg (fun l : List Int => l[2]?) hw3)
    subst e9
    have d2 := d2 hsa
    rcases q0 with ⟨-, r, r1, r2, r3, r4, r5, r6⟩ | ⟨r0, -⟩
    · rw [hA.1.1, hA.1.2.1, hA.1.ws, e2, e7] at r1
      exact ⟨d, r, d1, r1, r5, r6, d2⟩
    · exfalso
      have := Option.some.inj r0
      omega)⟩, (g_.2 S_p res l_ u_ hq.1 I1 hsm).2⟩⟩
theorem rxkRPCK_23 {S0 : Nat → Int → Int} {ws : List Int} {S : Nat → Int → Int} {st cu hu : Int} (hP : rxPRPCK S0 ws) (hin : bx_same rxL (bx_mdl rxCRPCK.2.2.1) S0 S) (I0 : bx_Inv rxL S) (hinv : rxIRPCK_23 S0 ws S st cu hu) (l8 : 0 ≤ st) (u8 : st ≤ 6) (l9 : 0 ≤ cu) (u9 : cu ≤ 6) (l10 : 0 ≤ hu) (u10 : hu ≤ 1) : rxPIWX S [412, 529] ∧ ∀ (S_p : Nat → Int → Int) (r : Int), 0 ≤ r → r ≤ 1 → rxPSIWX S [412, 529] S_p (some r) → bx_Inv rxL S_p → bx_same rxL (bx_mdl rxC59.2.2.1) S S_p → rxIRPCK_24 S0 ws S_p st cu hu r ∧ rxmRPCK_24 S0 ws S_p st cu hu r < rxmRPCK_23 S0 ws S st cu hu := by
  obtain ⟨hI, hx⟩ := hinv
  have g_ := rxkRPC_23 hP hin I0 hI l8 u8 l9 u9 l10 u10
  exact ⟨g_.1, fun S_p r l_ u_ hq I1 hsm => ⟨⟨(g_.2 S_p r l_ u_ hq I1 hsm).1, (by
    have e_ := hq.1
    subst e_
    exact hx)⟩, (g_.2 S_p r l_ u_ hq I1 hsm).2⟩⟩
theorem rxkRPCK_25 {S0 : Nat → Int → Int} {ws : List Int} {S : Nat → Int → Int} {st cu hu : Int} (hP : rxPRPCK S0 ws) (hin : bx_same rxL (bx_mdl rxCRPCK.2.2.1) S0 S) (I0 : bx_Inv rxL S) (hinv : rxIRPCK_25 S0 ws S st cu hu) (l8 : 0 ≤ st) (u8 : st ≤ 6) (l9 : 0 ≤ cu) (u9 : cu ≤ 6) (l10 : 0 ≤ hu) (u10 : hu ≤ 1) : rxPAD S [412] ∧ ∀ (S_p : Nat → Int → Int), rxPSAD S [412] S_p none → bx_Inv rxL S_p → bx_same rxL (bx_mdl rxC84.2.2.1) S S_p → rxIRPCK_26 S0 ws S_p st cu hu ∧ rxmRPCK_26 S0 ws S_p st cu hu < rxmRPCK_25 S0 ws S st cu hu := by
  obtain ⟨hI, hx⟩ := hinv
  have g_ := rxkRPC_25 hP hin I0 hI l8 u8 l9 u9 l10 u10
  exact ⟨g_.1, fun S_p hq I1 hsm => ⟨⟨(g_.2 S_p hq I1 hsm).1, (by
    refine ⟨fun hp => ?_, hx.2⟩
    obtain ⟨d, r, d1, r1, r2, r3, r4, b1⟩ := hx.1 hp
    have hA := hI.1
    have e2 : S_p 412 2 = (rzN (rzCut (S0 411)) (S0 412 1) r.2.1) := by
      rw [hq.2.1, hA.2.1.1, r2, hA.1.1, hA.1.2.1]
      rfl
    have b2 := (rzN_b (T := (rzCut (S0 411))) (n := (S0 412 1)) (f := r.2.1)).1
    obtain ⟨c1, c2⟩ := rkCw_sm hp r4 hsm (by decide +kernel) I0 (by omega)
    have c3 := rzN_ao b1 (by decide)
    have eN : ((rzW_go.length : Nat) : Int) = 2 := rfl
    have c4 := r4.2.2.1
    exact ⟨d, r, d1, r1, e2, (hsm 412 7 (by decide) (by decide) (by decide +kernel)).trans r3, c1, b1, by omega⟩)⟩, (g_.2 S_p hq I1 hsm).2⟩⟩
theorem rxkRPCK_27 {S0 : Nat → Int → Int} {ws : List Int} {S : Nat → Int → Int} {st cu hu sa : Int} (hP : rxPRPCK S0 ws) (hin : bx_same rxL (bx_mdl rxCRPCK.2.2.1) S0 S) (I0 : bx_Inv rxL S) (hinv : rxIRPCK_27 S0 ws S st cu hu sa) (l8 : 0 ≤ st) (u8 : st ≤ 6) (l9 : 0 ≤ cu) (u9 : cu ≤ 6) (l10 : 0 ≤ hu) (u10 : hu ≤ 1) (l11 : 0 ≤ sa) (u11 : sa ≤ 1522) : rxPREDK S [412, sa, 0] ∧ ∀ (S_p : Nat → Int → Int) (res : Int), 0 ≤ res → res ≤ 1 → rxPSREDK S [412, sa, 0] S_p (some res) → bx_Inv rxL S_p → bx_same rxL (bx_mdl rxCREDK.2.2.1) S S_p → rxIRPCK_28 S0 ws S_p st cu hu sa res ∧ rxmRPCK_28 S0 ws S_p st cu hu sa res < rxmRPCK_27 S0 ws S st cu hu sa := by
  obtain ⟨hI, hx⟩ := hinv
  have g_ := rxkRPC_27 hP hin I0 hI l8 u8 l9 u9 l10 u10 l11 u11
  exact ⟨g_.1, fun S_p res l_ u_ hq I1 hsm => ⟨⟨(g_.2 S_p res l_ u_ hq.1 I1 hsm).1, (by
    intro g_ hp
    obtain ⟨-, sa2, sg2, hw2, h⟩ := hq
    have e1 : sa = sa2 := Option.some.inj (congrArg (fun l : List Int => l[1]?) hw2)
    have e2 : (0 : Int) = sg2 := Option.some.inj (congrArg (fun l : List Int => l[2]?) hw2)
    subst e1
    subst e2
    obtain ⟨hx1, h2, h3, hh, hb, hlt⟩ := hx
    obtain ⟨d, r, d1, r1, r2, r3, r4, b1, hz, hsa⟩ := hx1 hp
    have hA : rzAt (rzPH (rzCut (S0 411)) (S0 412 1) (rzWs S0) (S0 412 2) (S0 412 7)) S0 S (rzEx (rzCut (S0 411)) (S0 412 1) (rzWs S0) 0) := hI
    obtain ⟨d_p, k1, -, k2⟩ := rkCw_e hp r4 hsm (by decide +kernel) (Or.inr hsa) hz (h (by rw [g_]))
    rw [hA.1.1, hA.1.2.1, hA.1.ws, r2, r3] at k1
    have k2 := k2 hsa
    exact ⟨_, ⟨_, _, _, _, rfl, rfl, rfl, rfl, rzAlt_n hb ⟨d, r, some d_p, d1, r1, rzAlt_y b1 ⟨d_p, k1, rfl⟩, rfl⟩⟩, by rw [← h2, ← h3]; exact k2⟩)⟩, (g_.2 S_p res l_ u_ hq.1 I1 hsm).2⟩⟩
theorem rxcRPCK_0_0 {S0 : Nat → Int → Int} {ws : List Int} {S : Nat → Int → Int} (hP : rxPRPCK S0 ws) (hin : bx_same rxL (bx_mdl rxCRPCK.2.2.1) S0 S) (I0 : bx_Inv rxL S) (hinv : rxIRPCK_0 S0 ws S)  : (True) ∧ (True) ∧ rxIRPCK_1 S0 ws S ∧ rxmRPCK_1 S0 ws S < rxmRPCK_0 S0 ws S := by
  obtain ⟨hI, hx⟩ := hinv
  obtain ⟨a_, b_, c_, d_⟩ := rxcRPC_0_0 hP hin I0 hI
  exact ⟨a_, b_, ⟨c_, (by
    obtain ⟨e, -⟩ := hI
    subst e
    exact rkTa_rf)⟩, d_⟩
theorem rxcRPCK_2_0 {S0 : Nat → Int → Int} {ws : List Int} {S : Nat → Int → Int} {r : Int} (hP : rxPRPCK S0 ws) (hin : bx_same rxL (bx_mdl rxCRPCK.2.2.1) S0 S) (I0 : bx_Inv rxL S) (hinv : rxIRPCK_2 S0 ws S r) (l8 : 1 ≤ r) (u8 : r ≤ 1) (f0 : r ≠ 0) : (True) ∧ (True) ∧ rxIRPCK_3 S0 ws S ∧ rxmRPCK_3 S0 ws S < rxmRPCK_2 S0 ws S r := by
  obtain ⟨hI, hx⟩ := hinv
  obtain ⟨a_, b_, c_, d_⟩ := rxcRPC_2_0 hP hin I0 hI l8 u8 f0
  exact ⟨a_, b_, ⟨c_, (by
    exact hx (by omega))⟩, d_⟩
theorem rxdRPCK_2_0 {S0 : Nat → Int → Int} {ws : List Int} {S : Nat → Int → Int} {r : Int} (hP : rxPRPCK S0 ws) (hin : bx_same rxL (bx_mdl rxCRPCK.2.2.1) S0 S) (hin2 : bx_same rxL (bx_mdl rxCRPCK.2.2.1) S S) (I0 : bx_Inv rxL S) (I1 : bx_Inv rxL S) (hinv : rxIRPCK_2 S0 ws S r) (l8 : 0 ≤ r) (u8 : r ≤ 0) : (True) ∧ rxPSRPCK S0 ws S (some 0) := by
  obtain ⟨hI, hx⟩ := hinv
  obtain ⟨a_, c_⟩ := rxdRPC_2_0 hP hin hin2 I0 I1 hI l8 u8
  exact ⟨a_, c_, (fun g => absurd (Option.some.inj g) (by decide))⟩
theorem rxcRPCK_4_0 {S0 : Nat → Int → Int} {ws : List Int} {S : Nat → Int → Int} {pl : Int} (hP : rxPRPCK S0 ws) (hin : bx_same rxL (bx_mdl rxCRPCK.2.2.1) S0 S) (I0 : bx_Inv rxL S) (hinv : rxIRPCK_4 S0 ws S pl) (l8 : 0 ≤ pl) (u8 : pl ≤ 6) : (True) ∧ (True) ∧ rxIRPCK_5 S0 ws S pl ∧ rxmRPCK_5 S0 ws S pl < rxmRPCK_4 S0 ws S pl := by
  obtain ⟨hI, hx⟩ := hinv
  obtain ⟨a_, b_, c_, d_⟩ := rxcRPC_4_0 hP hin I0 hI l8 u8
  exact ⟨a_, b_, ⟨c_, (by
    have q := hI.2
    rw [hx.1] at q
    exact ⟨hx, q⟩)⟩, d_⟩
theorem rxdRPCK_4_0 {S0 : Nat → Int → Int} {ws : List Int} {S : Nat → Int → Int} {pl x9 : Int} (hP : rxPRPCK S0 ws) (hin : bx_same rxL (bx_mdl rxCRPCK.2.2.1) S0 S) (hin2 : bx_same rxL (bx_mdl rxCRPCK.2.2.1) S (bx_up S 412 4 x9)) (I0 : bx_Inv rxL S) (I1 : bx_Inv rxL (bx_up S 412 4 x9)) (hinv : rxIRPCK_4 S0 ws S pl) (l8 : (-2147483648) ≤ pl) (u8 : pl ≤ (-1)) (l9 : 0 ≤ x9) (u9 : x9 ≤ 400) (e1 : S 412 2 = x9) : (True) ∧ rxPSRPCK S0 ws (bx_up S 412 4 x9) (some 0) := by
  obtain ⟨hI, hx⟩ := hinv
  obtain ⟨a_, c_⟩ := rxdRPC_4_0 hP hin hin2 I0 I1 hI l8 u8 l9 u9 e1
  exact ⟨a_, c_, (fun g => absurd (Option.some.inj g) (by decide))⟩
theorem rxcRPCK_6_0 {S0 : Nat → Int → Int} {ws : List Int} {S : Nat → Int → Int} {st : Int} (hP : rxPRPCK S0 ws) (hin : bx_same rxL (bx_mdl rxCRPCK.2.2.1) S0 S) (I0 : bx_Inv rxL S) (hinv : rxIRPCK_6 S0 ws S st) (l8 : 0 ≤ st) (u8 : st ≤ 6) : (True) ∧ (True) ∧ rxIRPCK_7 S0 ws S st ∧ rxmRPCK_7 S0 ws S st < rxmRPCK_6 S0 ws S st := by
  obtain ⟨hI, hx⟩ := hinv
  obtain ⟨a_, b_, c_, d_⟩ := rxcRPC_6_0 hP hin I0 hI l8 u8
  exact ⟨a_, b_, ⟨c_, hx⟩, d_⟩
theorem rxcRPCK_8_0 {S0 : Nat → Int → Int} {ws : List Int} {S : Nat → Int → Int} {st r : Int} (hP : rxPRPCK S0 ws) (hin : bx_same rxL (bx_mdl rxCRPCK.2.2.1) S0 S) (I0 : bx_Inv rxL S) (hinv : rxIRPCK_8 S0 ws S st r) (l8 : 0 ≤ st) (u8 : st ≤ 6) (l9 : 1 ≤ r) (u9 : r ≤ 1) (f0 : r ≠ 0) : (True) ∧ (True) ∧ rxIRPCK_9 S0 ws S st ∧ rxmRPCK_9 S0 ws S st < rxmRPCK_8 S0 ws S st r := by
  obtain ⟨hI, hx⟩ := hinv
  obtain ⟨a_, b_, c_, d_⟩ := rxcRPC_8_0 hP hin I0 hI l8 u8 l9 u9 f0
  exact ⟨a_, b_, ⟨c_, (by
    exact hx (by omega))⟩, d_⟩
theorem rxdRPCK_8_0 {S0 : Nat → Int → Int} {ws : List Int} {S : Nat → Int → Int} {st r : Int} (hP : rxPRPCK S0 ws) (hin : bx_same rxL (bx_mdl rxCRPCK.2.2.1) S0 S) (hin2 : bx_same rxL (bx_mdl rxCRPCK.2.2.1) S S) (I0 : bx_Inv rxL S) (I1 : bx_Inv rxL S) (hinv : rxIRPCK_8 S0 ws S st r) (l8 : 0 ≤ st) (u8 : st ≤ 6) (l9 : 0 ≤ r) (u9 : r ≤ 0) : (True) ∧ rxPSRPCK S0 ws S (some 0) := by
  obtain ⟨hI, hx⟩ := hinv
  obtain ⟨a_, c_⟩ := rxdRPC_8_0 hP hin hin2 I0 I1 hI l8 u8 l9 u9
  exact ⟨a_, c_, (fun g => absurd (Option.some.inj g) (by decide))⟩
theorem rxcRPCK_10_0 {S0 : Nat → Int → Int} {ws : List Int} {S : Nat → Int → Int} {st pl : Int} (hP : rxPRPCK S0 ws) (hin : bx_same rxL (bx_mdl rxCRPCK.2.2.1) S0 S) (I0 : bx_Inv rxL S) (hinv : rxIRPCK_10 S0 ws S st pl) (l8 : 0 ≤ st) (u8 : st ≤ 6) (l9 : 0 ≤ pl) (u9 : pl ≤ 6) : (True) ∧ (True) ∧ rxIRPCK_11 S0 ws S st pl ∧ rxmRPCK_11 S0 ws S st pl < rxmRPCK_10 S0 ws S st pl := by
  obtain ⟨hI, hx⟩ := hinv
  obtain ⟨a_, b_, c_, d_⟩ := rxcRPC_10_0 hP hin I0 hI l8 u8 l9 u9
  exact ⟨a_, b_, ⟨c_, (by
    have q := hI.2
    rw [hx.1.1] at q
    exact ⟨hx.1, hx.2, q⟩)⟩, d_⟩
theorem rxdRPCK_10_0 {S0 : Nat → Int → Int} {ws : List Int} {S : Nat → Int → Int} {st pl x10 : Int} (hP : rxPRPCK S0 ws) (hin : bx_same rxL (bx_mdl rxCRPCK.2.2.1) S0 S) (hin2 : bx_same rxL (bx_mdl rxCRPCK.2.2.1) S (bx_up S 412 4 x10)) (I0 : bx_Inv rxL S) (I1 : bx_Inv rxL (bx_up S 412 4 x10)) (hinv : rxIRPCK_10 S0 ws S st pl) (l8 : 0 ≤ st) (u8 : st ≤ 6) (l9 : (-2147483648) ≤ pl) (u9 : pl ≤ (-1)) (l10 : 0 ≤ x10) (u10 : x10 ≤ 400) (e1 : S 412 2 = x10) : (True) ∧ rxPSRPCK S0 ws (bx_up S 412 4 x10) (some 0) := by
  obtain ⟨hI, hx⟩ := hinv
  obtain ⟨a_, c_⟩ := rxdRPC_10_0 hP hin hin2 I0 I1 hI l8 u8 l9 u9 l10 u10 e1
  exact ⟨a_, c_, (fun g => absurd (Option.some.inj g) (by decide))⟩
theorem rxcRPCK_12_0 {S0 : Nat → Int → Int} {ws : List Int} {S : Nat → Int → Int} {st cu : Int} (hP : rxPRPCK S0 ws) (hin : bx_same rxL (bx_mdl rxCRPCK.2.2.1) S0 S) (I0 : bx_Inv rxL S) (hinv : rxIRPCK_12 S0 ws S st cu) (l8 : 0 ≤ st) (u8 : st ≤ 6) (l9 : 0 ≤ cu) (u9 : cu ≤ 6) : (True) ∧ (True) ∧ rxIRPCK_13 S0 ws S st cu ∧ rxmRPCK_13 S0 ws S st cu < rxmRPCK_12 S0 ws S st cu := by
  obtain ⟨hI, hx⟩ := hinv
  obtain ⟨a_, b_, c_, d_⟩ := rxcRPC_12_0 hP hin I0 hI l8 u8 l9 u9
  exact ⟨a_, b_, ⟨c_, hx⟩, d_⟩
theorem rxcRPCK_14_0 {S0 : Nat → Int → Int} {ws : List Int} {S : Nat → Int → Int} {st cu r : Int} (hP : rxPRPCK S0 ws) (hin : bx_same rxL (bx_mdl rxCRPCK.2.2.1) S0 S) (I0 : bx_Inv rxL S) (hinv : rxIRPCK_14 S0 ws S st cu r) (l8 : 0 ≤ st) (u8 : st ≤ 6) (l9 : 0 ≤ cu) (u9 : cu ≤ 6) (l10 : 0 ≤ r) (u10 : r ≤ 0) : (True) ∧ (True) ∧ rxIRPCK_15 S0 ws S st cu r ∧ rxmRPCK_15 S0 ws S st cu r < rxmRPCK_14 S0 ws S st cu r := by
  obtain ⟨hI, hx⟩ := hinv
  obtain ⟨a_, b_, c_, d_⟩ := rxcRPC_14_0 hP hin I0 hI l8 u8 l9 u9 l10 u10
  exact ⟨a_, b_, ⟨c_, (by
    obtain ⟨hA, hr⟩ := hI
    rw [hA.1.1, hA.1.2.1] at hr
    have b1 : rzIs (rzCut (S0 411)) (S0 412 1) rzW_hush (S 412 2) = false := by
      cases hb : rzIs (rzCut (S0 411)) (S0 412 1) rzW_hush (S 412 2) with
      | false => rfl
      | true =>
        rw [hb, if_pos rfl] at hr
        omega
    exact hx)⟩, d_⟩
theorem rxcRPCK_14_1 {S0 : Nat → Int → Int} {ws : List Int} {S : Nat → Int → Int} {st cu r : Int} (hP : rxPRPCK S0 ws) (hin : bx_same rxL (bx_mdl rxCRPCK.2.2.1) S0 S) (I0 : bx_Inv rxL S) (hinv : rxIRPCK_14 S0 ws S st cu r) (l8 : 0 ≤ st) (u8 : st ≤ 6) (l9 : 0 ≤ cu) (u9 : cu ≤ 6) (l10 : 1 ≤ r) (u10 : r ≤ 1) (f0 : r ≠ 0) : (True) ∧ (True) ∧ rxIRPCK_17 S0 ws S st cu r ∧ rxmRPCK_17 S0 ws S st cu r < rxmRPCK_14 S0 ws S st cu r := by
  obtain ⟨hI, hx⟩ := hinv
  obtain ⟨a_, b_, c_, d_⟩ := rxcRPC_14_1 hP hin I0 hI l8 u8 l9 u9 l10 u10 f0
  exact ⟨a_, b_, ⟨c_, (by
    obtain ⟨hA, hr⟩ := hI
    rw [hA.1.1, hA.1.2.1] at hr
    have b1 : rzIs (rzCut (S0 411)) (S0 412 1) rzW_hush (S 412 2) = true := by
      cases hb : rzIs (rzCut (S0 411)) (S0 412 1) rzW_hush (S 412 2) with
      | true => rfl
      | false =>
        rw [hb, if_neg (by decide)] at hr
        omega
    rw [hx.1.1] at b1
    exact ⟨hx.1, hx.2.1, hx.2.2, Or.inl ⟨by omega, b1⟩, (rzN_b (T := (rzCut (S0 411))) (n := (S0 412 1)) (f := (rzN (rzCut (S0 411)) (S0 412 1) (rzN (rzCut (S0 411)) (S0 412 1) (rzN (rzCut (S0 411)) (S0 412 1) (rzN (rzCut (S0 411)) (S0 412 1) (S0 412 2))))))).2.2 (rzIs_lt (by decide) b1)⟩)⟩, d_⟩
theorem rxcRPCK_16_0 {S0 : Nat → Int → Int} {ws : List Int} {S : Nat → Int → Int} {st cu hu r : Int} (hP : rxPRPCK S0 ws) (hin : bx_same rxL (bx_mdl rxCRPCK.2.2.1) S0 S) (I0 : bx_Inv rxL S) (hinv : rxIRPCK_16 S0 ws S st cu hu r) (l8 : 0 ≤ st) (u8 : st ≤ 6) (l9 : 0 ≤ cu) (u9 : cu ≤ 6) (l10 : 0 ≤ hu) (u10 : hu ≤ 1) (l11 : 1 ≤ r) (u11 : r ≤ 1) (f0 : r ≠ 0) : (True) ∧ (True) ∧ rxIRPCK_17 S0 ws S st cu hu ∧ rxmRPCK_17 S0 ws S st cu hu < rxmRPCK_16 S0 ws S st cu hu r := by
  obtain ⟨hI, hx⟩ := hinv
  obtain ⟨a_, b_, c_, d_⟩ := rxcRPC_16_0 hP hin I0 hI l8 u8 l9 u9 l10 u10 l11 u11 f0
  exact ⟨a_, b_, ⟨c_, (by
    obtain ⟨hA, h0, h1, hr⟩ := hI
    rw [hA.1.1, hA.1.2.1] at hr
    have b1 : rzIs (rzCut (S0 411)) (S0 412 1) rzW_say (S 412 2) = true := by
      cases hb : rzIs (rzCut (S0 411)) (S0 412 1) rzW_say (S 412 2) with
      | true => rfl
      | false =>
        rw [hb, if_neg (by decide)] at hr
        omega
    rw [hx.1.1] at b1 h1
    exact ⟨hx.1, hx.2.1, hx.2.2, Or.inr ⟨h0, h1⟩, (rzN_b (T := (rzCut (S0 411))) (n := (S0 412 1)) (f := (rzN (rzCut (S0 411)) (S0 412 1) (rzN (rzCut (S0 411)) (S0 412 1) (rzN (rzCut (S0 411)) (S0 412 1) (rzN (rzCut (S0 411)) (S0 412 1) (S0 412 2))))))).2.2 (rzIs_lt (by decide) b1)⟩)⟩, d_⟩
theorem rxdRPCK_16_0 {S0 : Nat → Int → Int} {ws : List Int} {S : Nat → Int → Int} {st cu hu r x12 : Int} (hP : rxPRPCK S0 ws) (hin : bx_same rxL (bx_mdl rxCRPCK.2.2.1) S0 S) (hin2 : bx_same rxL (bx_mdl rxCRPCK.2.2.1) S (bx_up S 412 4 x12)) (I0 : bx_Inv rxL S) (I1 : bx_Inv rxL (bx_up S 412 4 x12)) (hinv : rxIRPCK_16 S0 ws S st cu hu r) (l8 : 0 ≤ st) (u8 : st ≤ 6) (l9 : 0 ≤ cu) (u9 : cu ≤ 6) (l10 : 0 ≤ hu) (u10 : hu ≤ 1) (l11 : 0 ≤ r) (u11 : r ≤ 0) (l12 : 0 ≤ x12) (u12 : x12 ≤ 400) (e1 : S 412 2 = x12) : (True) ∧ rxPSRPCK S0 ws (bx_up S 412 4 x12) (some 0) := by
  obtain ⟨hI, hx⟩ := hinv
  obtain ⟨a_, c_⟩ := rxdRPC_16_0 hP hin hin2 I0 I1 hI l8 u8 l9 u9 l10 u10 l11 u11 l12 u12 e1
  exact ⟨a_, c_, (fun g => absurd (Option.some.inj g) (by decide))⟩
theorem rxcRPCK_18_0 {S0 : Nat → Int → Int} {ws : List Int} {S : Nat → Int → Int} {st cu hu : Int} (hP : rxPRPCK S0 ws) (hin : bx_same rxL (bx_mdl rxCRPCK.2.2.1) S0 S) (I0 : bx_Inv rxL S) (hinv : rxIRPCK_18 S0 ws S st cu hu) (l8 : 0 ≤ st) (u8 : st ≤ 6) (l9 : 0 ≤ cu) (u9 : cu ≤ 6) (l10 : 1 ≤ hu) (u10 : hu ≤ 1) (f0 : hu ≠ 0) : (True) ∧ (True) ∧ rxIRPCK_19 S0 ws S st cu hu 4 ∧ rxmRPCK_19 S0 ws S st cu hu 4 < rxmRPCK_18 S0 ws S st cu hu := by
  obtain ⟨hI, hx⟩ := hinv
  obtain ⟨a_, b_, c_, d_⟩ := rxcRPC_18_0 hP hin I0 hI l8 u8 l9 u9 l10 u10 f0
  exact ⟨a_, b_, ⟨c_, (by
    refine ⟨hx.1, hx.2.1, hx.2.2.1, hx.2.2.2, ?_⟩
    (repeat' split) <;> omega)⟩, d_⟩
theorem rxcRPCK_18_1 {S0 : Nat → Int → Int} {ws : List Int} {S : Nat → Int → Int} {st cu hu : Int} (hP : rxPRPCK S0 ws) (hin : bx_same rxL (bx_mdl rxCRPCK.2.2.1) S0 S) (I0 : bx_Inv rxL S) (hinv : rxIRPCK_18 S0 ws S st cu hu) (l8 : 0 ≤ st) (u8 : st ≤ 6) (l9 : 0 ≤ cu) (u9 : cu ≤ 6) (l10 : 0 ≤ hu) (u10 : hu ≤ 0) : (True) ∧ (True) ∧ rxIRPCK_19 S0 ws S st cu hu 3 ∧ rxmRPCK_19 S0 ws S st cu hu 3 < rxmRPCK_18 S0 ws S st cu hu := by
  obtain ⟨hI, hx⟩ := hinv
  obtain ⟨a_, b_, c_, d_⟩ := rxcRPC_18_1 hP hin I0 hI l8 u8 l9 u9 l10 u10
  exact ⟨a_, b_, ⟨c_, (by
    refine ⟨hx.1, hx.2.1, hx.2.2.1, hx.2.2.2, ?_⟩
    (repeat' split) <;> omega)⟩, d_⟩
theorem rxcRPCK_20_0 {S0 : Nat → Int → Int} {ws : List Int} {S : Nat → Int → Int} {st cu hu ki x12 : Int} (hP : rxPRPCK S0 ws) (hin : bx_same rxL (bx_mdl rxCRPCK.2.2.1) S0 S) (I0 : bx_Inv rxL S) (hinv : rxIRPCK_20 S0 ws S st cu hu ki) (l8 : 0 ≤ st) (u8 : st ≤ 6) (l9 : 0 ≤ cu) (u9 : cu ≤ 6) (l10 : 0 ≤ hu) (u10 : hu ≤ 0) (l11 : 0 ≤ ki) (u11 : ki ≤ 4) (l12 : 0 ≤ x12) (u12 : x12 ≤ 1522) (e0 : S 427 8 = x12) : (True) ∧ (True) ∧ rxIRPCK_21 S0 ws S st cu hu x12 ∧ rxmRPCK_21 S0 ws S st cu hu x12 < rxmRPCK_20 S0 ws S st cu hu ki := by
  obtain ⟨hI, hx⟩ := hinv
  obtain ⟨a_, b_, c_, d_⟩ := rxcRPC_20_0 hP hin I0 hI l8 u8 l9 u9 l10 u10 l11 u11 l12 u12 e0
  exact ⟨a_, b_, ⟨c_, (by
    obtain ⟨h1, h2, h3, ⟨h4, h5⟩, h6⟩ := hx
    have hh : hu = 0 := by omega
    have k3 : ki = 3 := by
      rw [h6, if_neg (show ¬ hu = 1 by omega)]
    subst k3
    exact ⟨fun hp => ⟨h1 hp, e0.symm.trans (h1 hp).2.2.2.2.1⟩, h2, h3, hh, h4.elim (fun z => by omega) fun z => z.2, h5⟩)⟩, d_⟩
theorem rxdRPCK_20_0 {S0 : Nat → Int → Int} {ws : List Int} {S : Nat → Int → Int} {st cu hu ki : Int} (hP : rxPRPCK S0 ws) (hin : bx_same rxL (bx_mdl rxCRPCK.2.2.1) S0 S) (hin2 : bx_same rxL (bx_mdl rxCRPCK.2.2.1) S S) (I0 : bx_Inv rxL S) (I1 : bx_Inv rxL S) (hinv : rxIRPCK_20 S0 ws S st cu hu ki) (l8 : 0 ≤ st) (u8 : st ≤ 6) (l9 : 0 ≤ cu) (u9 : cu ≤ 6) (l10 : 1 ≤ hu) (u10 : hu ≤ 1) (l11 : 0 ≤ ki) (u11 : ki ≤ 4) (f0 : hu ≠ 0) : (True) ∧ rxPSRPCK S0 ws S (some 1) := by
  obtain ⟨hI, hx⟩ := hinv
  obtain ⟨a_, c_⟩ := rxdRPC_20_0 hP hin hin2 I0 I1 hI l8 u8 l9 u9 l10 u10 l11 u11 f0
  exact ⟨a_, c_, (by
    intro g_ hp
    obtain ⟨hc, e2, e7, e0, hpp⟩ := hx.1 hp
    obtain ⟨-, h2, h3, ⟨h4, h5⟩, h6⟩ := hx
    rcases h4 with ⟨z, y⟩ | ⟨z, y⟩
    · rw [h6, if_pos z] at hc
      exact ⟨_, ⟨_, _, _, _, rfl, rfl, rfl, rfl, rzAlt_y y rfl⟩, by rw [← h2, ← h3]; exact hc⟩
    · exfalso
      omega)⟩
theorem rxcRPCK_22_0 {S0 : Nat → Int → Int} {ws : List Int} {S : Nat → Int → Int} {st cu hu sa res : Int} (hP : rxPRPCK S0 ws) (hin : bx_same rxL (bx_mdl rxCRPCK.2.2.1) S0 S) (I0 : bx_Inv rxL S) (hinv : rxIRPCK_22 S0 ws S st cu hu sa res) (l8 : 0 ≤ st) (u8 : st ≤ 6) (l9 : 0 ≤ cu) (u9 : cu ≤ 6) (l10 : 0 ≤ hu) (u10 : hu ≤ 1) (l11 : 0 ≤ sa) (u11 : sa ≤ 1522) (l12 : 1 ≤ res) (u12 : res ≤ 1) (f0 : res ≠ 0) : (True) ∧ (True) ∧ rxIRPCK_23 S0 ws S st cu hu ∧ rxmRPCK_23 S0 ws S st cu hu < rxmRPCK_22 S0 ws S st cu hu sa res := by
  obtain ⟨hI, hx⟩ := hinv
  obtain ⟨a_, b_, c_, d_⟩ := rxcRPC_22_0 hP hin I0 hI l8 u8 l9 u9 l10 u10 l11 u11 l12 u12 f0
  exact ⟨a_, b_, ⟨c_, (by
    exact hx (by omega))⟩, d_⟩
theorem rxdRPCK_22_0 {S0 : Nat → Int → Int} {ws : List Int} {S : Nat → Int → Int} {st cu hu sa res : Int} (hP : rxPRPCK S0 ws) (hin : bx_same rxL (bx_mdl rxCRPCK.2.2.1) S0 S) (hin2 : bx_same rxL (bx_mdl rxCRPCK.2.2.1) S S) (I0 : bx_Inv rxL S) (I1 : bx_Inv rxL S) (hinv : rxIRPCK_22 S0 ws S st cu hu sa res) (l8 : 0 ≤ st) (u8 : st ≤ 6) (l9 : 0 ≤ cu) (u9 : cu ≤ 6) (l10 : 0 ≤ hu) (u10 : hu ≤ 1) (l11 : 0 ≤ sa) (u11 : sa ≤ 1522) (l12 : 0 ≤ res) (u12 : res ≤ 0) : (True) ∧ rxPSRPCK S0 ws S (some 0) := by
  obtain ⟨hI, hx⟩ := hinv
  obtain ⟨a_, c_⟩ := rxdRPC_22_0 hP hin hin2 I0 I1 hI l8 u8 l9 u9 l10 u10 l11 u11 l12 u12
  exact ⟨a_, c_, (fun g => absurd (Option.some.inj g) (by decide))⟩
theorem rxcRPCK_24_0 {S0 : Nat → Int → Int} {ws : List Int} {S : Nat → Int → Int} {st cu hu r : Int} (hP : rxPRPCK S0 ws) (hin : bx_same rxL (bx_mdl rxCRPCK.2.2.1) S0 S) (I0 : bx_Inv rxL S) (hinv : rxIRPCK_24 S0 ws S st cu hu r) (l8 : 0 ≤ st) (u8 : st ≤ 6) (l9 : 0 ≤ cu) (u9 : cu ≤ 6) (l10 : 0 ≤ hu) (u10 : hu ≤ 1) (l11 : 1 ≤ r) (u11 : r ≤ 1) (f0 : r ≠ 0) : (True) ∧ (True) ∧ rxIRPCK_25 S0 ws S st cu hu ∧ rxmRPCK_25 S0 ws S st cu hu < rxmRPCK_24 S0 ws S st cu hu r := by
  obtain ⟨hI, hx⟩ := hinv
  obtain ⟨a_, b_, c_, d_⟩ := rxcRPC_24_0 hP hin I0 hI l8 u8 l9 u9 l10 u10 l11 u11 f0
  exact ⟨a_, b_, ⟨c_, (by
    obtain ⟨hA, hr⟩ := hI
    rw [hA.1.1, hA.1.2.1] at hr
    have b1 : rzIs (rzCut (S0 411)) (S0 412 1) rzW_go (S 412 2) = true := by
      cases hb : rzIs (rzCut (S0 411)) (S0 412 1) rzW_go (S 412 2) with
      | true => rfl
      | false =>
        rw [hb, if_neg (by decide)] at hr
        omega
    refine ⟨fun hp => ?_, hx.2⟩
    obtain ⟨d, r, d1, r1, r2, r3, r4⟩ := hx.1 hp
    rw [r2] at b1
    exact ⟨d, r, d1, r1, r2, r3, r4, b1⟩)⟩, d_⟩
theorem rxdRPCK_24_0 {S0 : Nat → Int → Int} {ws : List Int} {S : Nat → Int → Int} {st cu hu r : Int} (hP : rxPRPCK S0 ws) (hin : bx_same rxL (bx_mdl rxCRPCK.2.2.1) S0 S) (hin2 : bx_same rxL (bx_mdl rxCRPCK.2.2.1) S S) (I0 : bx_Inv rxL S) (I1 : bx_Inv rxL S) (hinv : rxIRPCK_24 S0 ws S st cu hu r) (l8 : 0 ≤ st) (u8 : st ≤ 6) (l9 : 0 ≤ cu) (u9 : cu ≤ 6) (l10 : 0 ≤ hu) (u10 : hu ≤ 1) (l11 : 0 ≤ r) (u11 : r ≤ 0) : (True) ∧ rxPSRPCK S0 ws S (some 1) := by
  obtain ⟨hI, hx⟩ := hinv
  obtain ⟨a_, c_⟩ := rxdRPC_24_0 hP hin hin2 I0 I1 hI l8 u8 l9 u9 l10 u10 l11 u11
  exact ⟨a_, c_, (by
    obtain ⟨hA, hr⟩ := hI
    rw [hA.1.1, hA.1.2.1] at hr
    have b1 : rzIs (rzCut (S0 411)) (S0 412 1) rzW_go (S 412 2) = false := by
      cases hb : rzIs (rzCut (S0 411)) (S0 412 1) rzW_go (S 412 2) with
      | false => rfl
      | true =>
        rw [hb, if_pos rfl] at hr
        omega
    intro g_ hp
    obtain ⟨hx1, h2, h3, hh, hb, hlt⟩ := hx
    obtain ⟨d, r_p, d1, r1, r2, r3, r4⟩ := hx1 hp
    rw [r2] at b1
    exact ⟨_, ⟨_, _, _, _, rfl, rfl, rfl, rfl, rzAlt_n hb ⟨d, r_p, none, d1, r1, rzAlt_n b1 rfl, rfl⟩⟩, by rw [← h2, ← h3]; exact r4⟩)⟩
theorem rxcRPCK_26_0 {S0 : Nat → Int → Int} {ws : List Int} {S : Nat → Int → Int} {st cu hu x11 : Int} (hP : rxPRPCK S0 ws) (hin : bx_same rxL (bx_mdl rxCRPCK.2.2.1) S0 S) (I0 : bx_Inv rxL S) (hinv : rxIRPCK_26 S0 ws S st cu hu) (l8 : 0 ≤ st) (u8 : st ≤ 6) (l9 : 0 ≤ cu) (u9 : cu ≤ 6) (l10 : 0 ≤ hu) (u10 : hu ≤ 1) (l11 : 0 ≤ x11) (u11 : x11 ≤ 1522) (e0 : S 427 9 = x11) : (True) ∧ (True) ∧ rxIRPCK_27 S0 ws S st cu hu x11 ∧ rxmRPCK_27 S0 ws S st cu hu x11 < rxmRPCK_26 S0 ws S st cu hu := by
  obtain ⟨hI, hx⟩ := hinv
  obtain ⟨a_, b_, c_, d_⟩ := rxcRPC_26_0 hP hin I0 hI l8 u8 l9 u9 l10 u10 l11 u11 e0
  exact ⟨a_, b_, ⟨c_, (by
    refine ⟨fun hp => ?_, hx.2⟩
    obtain ⟨d, r, d1, r1, r2, r3, r4, b1, hz⟩ := hx.1 hp
    exact ⟨d, r, d1, r1, r2, r3, r4, b1, hz, e0.symm.trans r4.2.2.2.2.2.1.2.1⟩)⟩, d_⟩
theorem rxdRPCK_28_0 {S0 : Nat → Int → Int} {ws : List Int} {S : Nat → Int → Int} {st cu hu sa res : Int} (hP : rxPRPCK S0 ws) (hin : bx_same rxL (bx_mdl rxCRPCK.2.2.1) S0 S) (hin2 : bx_same rxL (bx_mdl rxCRPCK.2.2.1) S S) (I0 : bx_Inv rxL S) (I1 : bx_Inv rxL S) (hinv : rxIRPCK_28 S0 ws S st cu hu sa res) (l8 : 0 ≤ st) (u8 : st ≤ 6) (l9 : 0 ≤ cu) (u9 : cu ≤ 6) (l10 : 0 ≤ hu) (u10 : hu ≤ 1) (l11 : 0 ≤ sa) (u11 : sa ≤ 1522) (l12 : 0 ≤ res) (u12 : res ≤ 1) : (True) ∧ rxPSRPCK S0 ws S (some res) := by
  obtain ⟨hI, hx⟩ := hinv
  obtain ⟨a_, c_⟩ := rxdRPC_28_0 hP hin hin2 I0 I1 hI l8 u8 l9 u9 l10 u10 l11 u11 l12 u12
  exact ⟨a_, c_, (by
    first
    | exact fun g => hx (Option.some.inj g)
    | exact fun _ => hx (by omega)
    | exact fun g => absurd (Option.some.inj g) (by decide))⟩