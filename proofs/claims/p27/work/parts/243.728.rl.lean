noncomputable def rxCRLK : bx_Ct := ([(3, (1, 480, 0))], none, [(12, 9), (12, 10), (12, 11), (12, 12), (12, 13), (12, 14), (12, 16), (12, 18), (12, 21), (12, 24), (12, 25), (1067, 0), (1068, 0), (1069, 0), (1070, 0), (1071, 0)], 7, [])
noncomputable def rxIRLK_0 (S0 : Nat → Int → Int) (ws : List Int) (S : Nat → Int → Int) : Prop := rxIRLW_0 S0 ws S ∧ True
noncomputable def rxmRLK_0 (S0 : Nat → Int → Int) (ws : List Int) (S : Nat → Int → Int) : Nat := rxmRLW_0 S0 ws S
noncomputable def rxzRLK_0 : rx_Z := ([(0, 0), (0, 0), (0, 0), (0, 0), (0, 0), (0, 0), (0, 0), (0, 0)], [], [], 0, 0, 0, [(0, .inr (3, (0, 480)))], [])
noncomputable def rxIRLK_1 (S0 : Nat → Int → Int) (ws : List Int) (S : Nat → Int → Int) (which : Int) : Prop := rxIRLW_1 S0 ws S which ∧ True
noncomputable def rxmRLK_1 (S0 : Nat → Int → Int) (ws : List Int) (S : Nat → Int → Int) (which : Int) : Nat := rxmRLW_1 S0 ws S which
noncomputable def rxzRLK_1 : rx_Z := ([(0, 0), (0, 0), (0, 0), (0, 0), (0, 0), (0, 0), (0, 0), (0, 0), ((-1), 2)], [], [], 0, 0, 44, [(0, .inr (3, (0, 480))), (1, .inr (0, (8, 0)))], [])
noncomputable def rxIRLK_2 (S0 : Nat → Int → Int) (ws : List Int) (S : Nat → Int → Int) (which is : Int) : Prop := rxIRLW_2 S0 ws S which is ∧ True
noncomputable def rxmRLK_2 (S0 : Nat → Int → Int) (ws : List Int) (S : Nat → Int → Int) (which is : Int) : Nat := rxmRLW_2 S0 ws S which is
noncomputable def rxzRLK_2 : rx_Z := ([(0, 0), (0, 0), (0, 0), (0, 0), (0, 0), (0, 0), (0, 0), (0, 0), ((-1), 2), (0, 1)], [], [], 0, 0, 64, [(0, .inr (3, (0, 480))), (1, .inr (0, (8, 0)))], [.inr (0, (9, 0)), .inr (3, (0, 480))])
noncomputable def rxIRLK_3 (S0 : Nat → Int → Int) (ws : List Int) (S : Nat → Int → Int) (which is : Int) : Prop := rxIRLW_3 S0 ws S which is ∧ (rzCk S0 → rzDq S0 → rzWr S0 = rzLn_ → S 480 14 = 0 → rkWh S0 which ∧ rkL3 S0 S)
noncomputable def rxmRLK_3 (S0 : Nat → Int → Int) (ws : List Int) (S : Nat → Int → Int) (which is : Int) : Nat := rxmRLW_3 S0 ws S which is
noncomputable def rxzRLK_3 : rx_Z := ([(0, 0), (0, 0), (0, 0), (0, 0), (0, 0), (0, 0), (0, 0), (0, 0), ((-1), 2), (0, 1)], [], [], 0, 0, 67, [(0, .inr (3, (0, 480))), (1, .inr (0, (8, 0)))], [])
noncomputable def rxIRLK_4 (S0 : Nat → Int → Int) (ws : List Int) (S : Nat → Int → Int) (which nc : Int) : Prop := rxIRLW_4 S0 ws S which nc ∧ (rzCk S0 → rzDq S0 → rzWr S0 = rzLn_ → S 480 14 = 0 → rkWh S0 which ∧ rkL3 S0 S)
noncomputable def rxmRLK_4 (S0 : Nat → Int → Int) (ws : List Int) (S : Nat → Int → Int) (which nc : Int) : Nat := rxmRLW_4 S0 ws S which nc
noncomputable def rxzRLK_4 : rx_Z := ([(0, 0), (0, 0), (0, 0), (0, 0), (0, 0), (0, 0), (0, 0), (0, 0), (0, 2), (0, 11)], [], [], 0, 0, 81, [(0, .inr (3, (0, 480))), (1, .inr (0, (8, 0)))], [.inr (0, (9, 0)), .inr (0, (0, 8))])
noncomputable def rxIRLK_5 (S0 : Nat → Int → Int) (ws : List Int) (S : Nat → Int → Int) (which base i : Int) : Prop := rxIRLW_5 S0 ws S which base i ∧ (rzCk S0 → rzDq S0 → rzWr S0 = rzLn_ → S 480 14 = 0 → rkWh S0 which ∧ rkL3 S0 S)
noncomputable def rxmRLK_5 (S0 : Nat → Int → Int) (ws : List Int) (S : Nat → Int → Int) (which base i : Int) : Nat := rxmRLW_5 S0 ws S which base i
noncomputable def rxzRLK_5 : rx_Z := ([(0, 0), (0, 0), (0, 0), (0, 0), (0, 0), (0, 0), (0, 0), (0, 0), (0, 2), (0, 88), (0, 8)], [], [], 0, 0, 85, [(0, .inr (3, (0, 480))), (1, .inr (0, (8, 0))), (2, .inr (0, (9, 0))), (3, .inr (0, (10, 0)))], [])
noncomputable def rxIRLK_6 (S0 : Nat → Int → Int) (ws : List Int) (S : Nat → Int → Int) (which base i a zz : Int) : Prop := rxIRLW_6 S0 ws S which base i a zz ∧ (rzCk S0 → rzDq S0 → rzWr S0 = rzLn_ → S 480 14 = 0 → rkWh S0 which ∧ rkL3 S0 S)
noncomputable def rxmRLK_6 (S0 : Nat → Int → Int) (ws : List Int) (S : Nat → Int → Int) (which base i a zz : Int) : Nat := rxmRLW_6 S0 ws S which base i a zz
noncomputable def rxzRLK_6 : rx_Z := ([(0, 0), (0, 0), (0, 0), (0, 0), (0, 0), (0, 0), (0, 0), (0, 0), (0, 2), (0, 88), (0, 7), (0, 95), (0, 0)], [], [], 0, 0, 99, [(0, .inr (3, (0, 480))), (1, .inr (0, (8, 0))), (2, .inr (0, (9, 0))), (3, .inr (0, (10, 0)))], [.inr (0, (12, 0)), .inr (0, (11, 0)), .inr (3, (0, 486))])
noncomputable def rxIRLK_7 (S0 : Nat → Int → Int) (ws : List Int) (S : Nat → Int → Int) (which base i a zz : Int) : Prop := rxIRLW_7 S0 ws S which base i a zz ∧ (rzCk S0 → rzDq S0 → rzWr S0 = rzLn_ → S 480 14 = 0 → rkWh S0 which ∧ rkL3 S0 S)
noncomputable def rxmRLK_7 (S0 : Nat → Int → Int) (ws : List Int) (S : Nat → Int → Int) (which base i a zz : Int) : Nat := rxmRLW_7 S0 ws S which base i a zz
noncomputable def rxzRLK_7 : rx_Z := ([(0, 0), (0, 0), (0, 0), (0, 0), (0, 0), (0, 0), (0, 0), (0, 0), (0, 2), (0, 88), (0, 7), (0, 95), (0, 0)], [], [], 0, 0, 100, [(0, .inr (3, (0, 480))), (1, .inr (0, (8, 0))), (2, .inr (0, (9, 0))), (3, .inr (0, (10, 0)))], [])
noncomputable def rxIRLK_8 (S0 : Nat → Int → Int) (ws : List Int) (S : Nat → Int → Int) (which base a v : Int) : Prop := rxIRLW_8 S0 ws S which base a v ∧ (rzCk S0 → rzDq S0 → rzWr S0 = rzLn_ → S 480 14 = 0 → rkWh S0 which ∧ rkL3 S0 S ∧ v = which)
noncomputable def rxmRLK_8 (S0 : Nat → Int → Int) (ws : List Int) (S : Nat → Int → Int) (which base a v : Int) : Nat := rxmRLW_8 S0 ws S which base a v
noncomputable def rxzRLK_8 : rx_Z := ([(0, 0), (0, 0), (0, 0), (0, 0), (0, 0), (0, 0), (0, 0), (0, 0), (0, 2), (0, 88), (0, 88), (0, 2)], [], [], 0, 0, 112, [(0, .inr (3, (0, 480))), (1, .inr (0, (8, 0))), (2, .inr (0, (9, 0)))], [.inr (0, (11, 0)), .inr (0, (10, 0)), .inr (3, (0, 486))])
noncomputable def rxIRLK_9 (S0 : Nat → Int → Int) (ws : List Int) (S : Nat → Int → Int) (which base a v : Int) : Prop := rxIRLW_9 S0 ws S which base a v ∧ (rzCk S0 → rzDq S0 → rzWr S0 = rzLn_ → S 480 14 = 0 → rkWh S0 which ∧ rkL3 S0 S ∧ S 486 base = which)
noncomputable def rxmRLK_9 (S0 : Nat → Int → Int) (ws : List Int) (S : Nat → Int → Int) (which base a v : Int) : Nat := rxmRLW_9 S0 ws S which base a v
noncomputable def rxzRLK_9 : rx_Z := ([(0, 0), (0, 0), (0, 0), (0, 0), (0, 0), (0, 0), (0, 0), (0, 0), (0, 2), (0, 88), (0, 88), (0, 2)], [], [], 0, 0, 113, [(0, .inr (3, (0, 480))), (1, .inr (0, (8, 0))), (2, .inr (0, (9, 0)))], [])
noncomputable def rxIRLK_10 (S0 : Nat → Int → Int) (ws : List Int) (S : Nat → Int → Int) (which base nc : Int) : Prop := rxIRLW_10 S0 ws S which base nc ∧ (rzCk S0 → rzDq S0 → rzWr S0 = rzLn_ → S 480 14 = 0 → rkWh S0 which ∧ rkL3 S0 S ∧ S 486 base = which)
noncomputable def rxmRLK_10 (S0 : Nat → Int → Int) (ws : List Int) (S : Nat → Int → Int) (which base nc : Int) : Nat := rxmRLW_10 S0 ws S which base nc
noncomputable def rxzRLK_10 : rx_Z := ([(0, 0), (0, 0), (0, 0), (0, 0), (0, 0), (0, 0), (0, 0), (0, 0), (0, 2), (0, 88), (0, 11)], [], [], 0, 0, 118, [(0, .inr (3, (0, 480))), (1, .inr (0, (8, 0))), (2, .inr (0, (9, 0)))], [.inr (0, (10, 0)), .inr (3, (0, 480))])
noncomputable def rxIRLK_11 (S0 : Nat → Int → Int) (ws : List Int) (S : Nat → Int → Int) (which base a v : Int) : Prop := rxIRLW_11 S0 ws S which base a v ∧ (rzCk S0 → rzDq S0 → rzWr S0 = rzLn_ → S 480 14 = 0 → rkWh S0 which ∧ rkL3 S0 S ∧ S 486 base = which)
noncomputable def rxmRLK_11 (S0 : Nat → Int → Int) (ws : List Int) (S : Nat → Int → Int) (which base a v : Int) : Nat := rxmRLW_11 S0 ws S which base a v
noncomputable def rxzRLK_11 : rx_Z := ([(0, 0), (0, 0), (0, 0), (0, 0), (0, 0), (0, 0), (0, 0), (0, 0), (0, 2), (0, 88), (3, 91), (0, 400)], [], [], 0, 0, 134, [(0, .inr (3, (0, 480))), (1, .inr (0, (8, 0))), (2, .inr (0, (9, 0)))], [.inr (0, (11, 0)), .inr (0, (10, 0)), .inr (3, (0, 486))])
noncomputable def rxIRLK_12 (S0 : Nat → Int → Int) (ws : List Int) (S : Nat → Int → Int) (which base a v : Int) : Prop := rxIRLW_12 S0 ws S which base a v ∧ (rzCk S0 → rzDq S0 → rzWr S0 = rzLn_ → S 480 14 = 0 → rkWh S0 which ∧ rkL3 S0 S ∧ S 486 base = which)
noncomputable def rxmRLK_12 (S0 : Nat → Int → Int) (ws : List Int) (S : Nat → Int → Int) (which base a v : Int) : Nat := rxmRLW_12 S0 ws S which base a v
noncomputable def rxzRLK_12 : rx_Z := ([(0, 0), (0, 0), (0, 0), (0, 0), (0, 0), (0, 0), (0, 0), (0, 0), (0, 2), (0, 88), (3, 91), (0, 400)], [], [], 0, 0, 135, [(0, .inr (3, (0, 480))), (1, .inr (0, (8, 0))), (2, .inr (0, (9, 0)))], [])
noncomputable def rxIRLK_13 (S0 : Nat → Int → Int) (ws : List Int) (S : Nat → Int → Int) (base : Int) : Prop := rxIRLW_13 S0 ws S base ∧ (rzCk S0 → rzDq S0 → rzWr S0 = rzLn_ → S 480 14 = 0 → rkWh S0 (S 486 base) ∧ S 486 base ≠ 2 ∧ rkL3 S0 S)
noncomputable def rxmRLK_13 (S0 : Nat → Int → Int) (ws : List Int) (S : Nat → Int → Int) (base : Int) : Nat := rxmRLW_13 S0 ws S base
noncomputable def rxzRLK_13 : rx_Z := ([(0, 0), (0, 0), (0, 0), (0, 0), (0, 0), (0, 0), (0, 0), (0, 0), (0, 88)], [], [], 0, 0, 142, [(0, .inr (3, (0, 480))), (2, .inr (0, (8, 0)))], [.inr (0, (0, 0)), .inr (3, (0, 480))])
noncomputable def rxIRLK_14 (S0 : Nat → Int → Int) (ws : List Int) (S : Nat → Int → Int) (base : Int) : Prop := rxIRLW_14 S0 ws S base ∧ (rzCk S0 → rzDq S0 → rzWr S0 = rzLn_ → S 480 14 = 0 → rkL4 S0 S base)
noncomputable def rxmRLK_14 (S0 : Nat → Int → Int) (ws : List Int) (S : Nat → Int → Int) (base : Int) : Nat := rxmRLW_14 S0 ws S base
noncomputable def rxzRLK_14 : rx_Z := ([(0, 0), (0, 0), (0, 0), (0, 0), (0, 0), (0, 0), (0, 0), (0, 0), (0, 88)], [], [], 0, 0, 145, [(0, .inr (3, (0, 480))), (2, .inr (0, (8, 0)))], [])
noncomputable def rxIRLK_15 (S0 : Nat → Int → Int) (ws : List Int) (S : Nat → Int → Int) (base a v : Int) : Prop := rxIRLW_15 S0 ws S base a v ∧ (rzCk S0 → rzDq S0 → rzWr S0 = rzLn_ → S 480 14 = 0 → rkL4 S0 S base)
noncomputable def rxmRLK_15 (S0 : Nat → Int → Int) (ws : List Int) (S : Nat → Int → Int) (base a v : Int) : Nat := rxmRLW_15 S0 ws S base a v
noncomputable def rxzRLK_15 : rx_Z := ([(0, 0), (0, 0), (0, 0), (0, 0), (0, 0), (0, 0), (0, 0), (0, 0), (0, 88), (4, 92), (0, 400)], [], [], 0, 0, 156, [(0, .inr (3, (0, 480))), (2, .inr (0, (8, 0)))], [.inr (0, (10, 0)), .inr (0, (9, 0)), .inr (3, (0, 486))])
noncomputable def rxIRLK_16 (S0 : Nat → Int → Int) (ws : List Int) (S : Nat → Int → Int) (base a v : Int) : Prop := rxIRLW_16 S0 ws S base a v ∧ (rzCk S0 → rzDq S0 → rzWr S0 = rzLn_ → S 480 14 = 0 → rkL4 S0 S base)
noncomputable def rxmRLK_16 (S0 : Nat → Int → Int) (ws : List Int) (S : Nat → Int → Int) (base a v : Int) : Nat := rxmRLW_16 S0 ws S base a v
noncomputable def rxzRLK_16 : rx_Z := ([(0, 0), (0, 0), (0, 0), (0, 0), (0, 0), (0, 0), (0, 0), (0, 0), (0, 88), (4, 92), (0, 400)], [], [], 0, 0, 157, [(0, .inr (3, (0, 480))), (2, .inr (0, (8, 0)))], [])
noncomputable def rxIRLK_17 (S0 : Nat → Int → Int) (ws : List Int) (S : Nat → Int → Int) (base a v : Int) : Prop := rxIRLW_17 S0 ws S base a v ∧ (rzCk S0 → rzDq S0 → rzWr S0 = rzLn_ → S 480 14 = 0 → rkL4 S0 S base)
noncomputable def rxmRLK_17 (S0 : Nat → Int → Int) (ws : List Int) (S : Nat → Int → Int) (base a v : Int) : Nat := rxmRLW_17 S0 ws S base a v
noncomputable def rxzRLK_17 : rx_Z := ([(0, 0), (0, 0), (0, 0), (0, 0), (0, 0), (0, 0), (0, 0), (0, 0), (0, 88), (5, 93), (0, 400)], [], [], 0, 0, 168, [(0, .inr (3, (0, 480))), (2, .inr (0, (8, 0)))], [.inr (0, (10, 0)), .inr (0, (9, 0)), .inr (3, (0, 486))])
noncomputable def rxIRLK_18 (S0 : Nat → Int → Int) (ws : List Int) (S : Nat → Int → Int) (base a v : Int) : Prop := rxIRLW_18 S0 ws S base a v ∧ (rzCk S0 → rzDq S0 → rzWr S0 = rzLn_ → S 480 14 = 0 → rkL4 S0 S base)
noncomputable def rxmRLK_18 (S0 : Nat → Int → Int) (ws : List Int) (S : Nat → Int → Int) (base a v : Int) : Nat := rxmRLW_18 S0 ws S base a v
noncomputable def rxzRLK_18 : rx_Z := ([(0, 0), (0, 0), (0, 0), (0, 0), (0, 0), (0, 0), (0, 0), (0, 0), (0, 88), (5, 93), (0, 400)], [], [], 0, 0, 169, [(0, .inr (3, (0, 480))), (2, .inr (0, (8, 0)))], [])
noncomputable def rxIRLK_19 (S0 : Nat → Int → Int) (ws : List Int) (S : Nat → Int → Int) (base : Int) : Prop := rxIRLW_19 S0 ws S base ∧ (rzCk S0 → rzDq S0 → rzWr S0 = rzLn_ → S 480 14 = 0 → rkL4 S0 S base)
noncomputable def rxmRLK_19 (S0 : Nat → Int → Int) (ws : List Int) (S : Nat → Int → Int) (base : Int) : Nat := rxmRLW_19 S0 ws S base
noncomputable def rxzRLK_19 : rx_Z := ([(0, 0), (0, 0), (0, 0), (0, 0), (0, 0), (0, 0), (0, 0), (0, 0), (0, 88)], [], [], 0, 0, 187, [(0, .inr (3, (0, 480))), (2, .inr (0, (8, 0)))], [.inr (3, (0, 480))])
noncomputable def rxIRLK_20 (S0 : Nat → Int → Int) (ws : List Int) (S : Nat → Int → Int) (base : Int) : Prop := rxIRLW_20 S0 ws S base ∧ (rzCk S0 → rzDq S0 → rzWr S0 = rzLn_ → S 480 14 = 0 → rkL5 S0 S base)
noncomputable def rxmRLK_20 (S0 : Nat → Int → Int) (ws : List Int) (S : Nat → Int → Int) (base : Int) : Nat := rxmRLW_20 S0 ws S base
noncomputable def rxzRLK_20 : rx_Z := ([(0, 0), (0, 0), (0, 0), (0, 0), (0, 0), (0, 0), (0, 0), (0, 0), (0, 88)], [], [], 0, 0, 190, [(0, .inr (3, (0, 480))), (2, .inr (0, (8, 0)))], [])
noncomputable def rxIRLK_21 (S0 : Nat → Int → Int) (ws : List Int) (S : Nat → Int → Int) (base : Int) : Prop := rxIRLW_21 S0 ws S base ∧ (rzCk S0 → rzDq S0 → rzWr S0 = rzLn_ → S 480 14 = 0 → rkL5 S0 S base)
noncomputable def rxmRLK_21 (S0 : Nat → Int → Int) (ws : List Int) (S : Nat → Int → Int) (base : Int) : Nat := rxmRLW_21 S0 ws S base
noncomputable def rxzRLK_21 : rx_Z := ([(0, 0), (0, 0), (0, 0), (0, 0), (0, 0), (0, 0), (0, 0), (0, 0), (0, 88)], [], [], 0, 0, 192, [(0, .inr (3, (0, 480))), (2, .inr (0, (8, 0)))], [.inr (0, (0, 1)), .inr (3, (0, 480))])
noncomputable def rxIRLK_22 (S0 : Nat → Int → Int) (ws : List Int) (S : Nat → Int → Int) (base : Int) : Prop := rxIRLW_22 S0 ws S base ∧ (rzCk S0 → rzDq S0 → rzWr S0 = rzLn_ → S 480 14 = 0 → rkL6 S0 S base)
noncomputable def rxmRLK_22 (S0 : Nat → Int → Int) (ws : List Int) (S : Nat → Int → Int) (base : Int) : Nat := rxmRLW_22 S0 ws S base
noncomputable def rxzRLK_22 : rx_Z := ([(0, 0), (0, 0), (0, 0), (0, 0), (0, 0), (0, 0), (0, 0), (0, 0), (0, 88)], [], [], 0, 0, 195, [(0, .inr (3, (0, 480))), (2, .inr (0, (8, 0)))], [])
noncomputable def rxIRLK_23 (S0 : Nat → Int → Int) (ws : List Int) (S : Nat → Int → Int) (base a v : Int) : Prop := rxIRLW_23 S0 ws S base a v ∧ (rzCk S0 → rzDq S0 → rzWr S0 = rzLn_ → S 480 14 = 0 → rkL6 S0 S base)
noncomputable def rxmRLK_23 (S0 : Nat → Int → Int) (ws : List Int) (S : Nat → Int → Int) (base a v : Int) : Nat := rxmRLW_23 S0 ws S base a v
noncomputable def rxzRLK_23 : rx_Z := ([(0, 0), (0, 0), (0, 0), (0, 0), (0, 0), (0, 0), (0, 0), (0, 0), (0, 88), (6, 94), (0, 400)], [], [], 0, 0, 207, [(0, .inr (3, (0, 480))), (2, .inr (0, (8, 0)))], [.inr (0, (10, 0)), .inr (0, (9, 0)), .inr (3, (0, 486))])
noncomputable def rxIRLK_24 (S0 : Nat → Int → Int) (ws : List Int) (S : Nat → Int → Int) (base a v : Int) : Prop := rxIRLW_24 S0 ws S base a v ∧ (rzCk S0 → rzDq S0 → rzWr S0 = rzLn_ → S 480 14 = 0 → rkL7 S0 S)
noncomputable def rxmRLK_24 (S0 : Nat → Int → Int) (ws : List Int) (S : Nat → Int → Int) (base a v : Int) : Nat := rxmRLW_24 S0 ws S base a v
noncomputable def rxzRLK_24 : rx_Z := ([(0, 0), (0, 0), (0, 0), (0, 0), (0, 0), (0, 0), (0, 0), (0, 0), (0, 88), (6, 94), (0, 400)], [], [], 0, 0, 208, [(0, .inr (3, (0, 480))), (2, .inr (0, (8, 0)))], [])
noncomputable def rxoRLK_0_0 : bx_HO := (([(0, 0), (0, 0), (0, 0), (0, 0), (0, 0), (0, 0), (0, 0), (0, 0), (0, 3)], [(3, (8, 0), (0, 1)), (3, (8, 0), (0, 1)), (3, (8, 0), (0, 1))], [(((0, 0), 1851192626986356799632114105031551009123054124018230966928539648000000), .inr (0, (8, 0))), (((0, 480), 11), .inr (0, (8, 0)))], 0, 0, 44, [(1, .inr (0, (0, (-1)))), (0, .inr (3, (0, 480)))], []), [], [], [(0, 0), (0, 0), (0, 0), (0, 0), (0, 0), (0, 0), (0, 0), (0, 0), (0, (-1))], 1)
noncomputable def rxoRLK_0_1 : bx_HO := (([(0, 0), (0, 0), (0, 0), (0, 0), (0, 0), (0, 0), (0, 0), (0, 0), (1, 1), ((-9223372036854775808), 9223372036854775807)], [(3, (9, 0), (0, 67155)), (3, (9, 0), (0, 8902227)), (3, (9, 0), (0, 20325907))], [(((0, 0), 1851192626986356799832820811818326617396875588472066220482363392000000), .inr (1, (9, 0))), (((0, 480), 12), .inr (1, (9, 0))), (((0, 0), 1851192626986356799632114105031551009123054124018230966928539648000000), .inr (0, (8, 0))), (((0, 480), 11), .inr (0, (8, 0)))], 0, 0, 44, [(1, .inr (0, (0, (-1)))), (0, .inr (3, (0, 480)))], []), [], [], [(0, 0), (0, 0), (0, 0), (0, 0), (0, 0), (0, 0), (0, 0), (0, 0), (0, (-1))], 1)
noncomputable def rxoRLK_0_2 : bx_HO := (([(0, 0), (0, 0), (0, 0), (0, 0), (0, 0), (0, 0), (0, 0), (0, 0), (1, 1), (67155, 67155)], [(3, (9, 0), (0, 8902227)), (3, (9, 0), (0, 20325907))], [(((0, 0), 1851192626986356799832820811818326617396875588472066220482363392000000), .inr (1, (9, 0))), (((0, 480), 12), .inr (1, (9, 0))), (((0, 0), 1851192626986356799632114105031551009123054124018230966928539648000000), .inr (0, (8, 0))), (((0, 480), 11), .inr (0, (8, 0)))], 0, 0, 44, [(1, .inr (0, (0, 2))), (0, .inr (3, (0, 480)))], []), [], [], [(0, 0), (0, 0), (0, 0), (0, 0), (0, 0), (0, 0), (0, 0), (0, 0), (0, 2)], 1)
noncomputable def rxoRLK_0_3 : bx_HO := (([(0, 0), (0, 0), (0, 0), (0, 0), (0, 0), (0, 0), (0, 0), (0, 0), (1, 1), (8902227, 8902227)], [(3, (9, 0), (0, 20325907))], [(((0, 0), 1851192626986356799832820811818326617396875588472066220482363392000000), .inr (1, (9, 0))), (((0, 480), 12), .inr (1, (9, 0))), (((0, 0), 1851192626986356799632114105031551009123054124018230966928539648000000), .inr (0, (8, 0))), (((0, 480), 11), .inr (0, (8, 0)))], 0, 0, 44, [(1, .inr (0, (0, 1))), (0, .inr (3, (0, 480)))], []), [], [], [(0, 0), (0, 0), (0, 0), (0, 0), (0, 0), (0, 0), (0, 0), (0, 0), (0, 1)], 1)
noncomputable def rxoRLK_0_4 : bx_HO := (([(0, 0), (0, 0), (0, 0), (0, 0), (0, 0), (0, 0), (0, 0), (0, 0), (1, 1), (20325907, 20325907)], [], [(((0, 0), 1851192626986356799832820811818326617396875588472066220482363392000000), .inr (1, (9, 0))), (((0, 480), 12), .inr (1, (9, 0))), (((0, 0), 1851192626986356799632114105031551009123054124018230966928539648000000), .inr (0, (8, 0))), (((0, 480), 11), .inr (0, (8, 0)))], 0, 0, 44, [(1, .inr (0, (0, 0))), (0, .inr (3, (0, 480)))], []), [], [], [(0, 0), (0, 0), (0, 0), (0, 0), (0, 0), (0, 0), (0, 0), (0, 0), (0, 0)], 1)
noncomputable def rxoRLK_1_0 : bx_HO := (([(0, 0), (0, 0), (0, 0), (0, 0), (0, 0), (0, 0), (0, 0), (0, 0), (0, 2), (0, 11)], [(3, (8, 0), (0, (-1)))], [(((0, 0), 1851192626986356800635647638965429050492161446287407234697658368000000), .inr (0, (9, 0))), (((0, 480), 16), .inr (0, (9, 0)))], 0, 0, 64, [(0, .inr (3, (0, 480))), (1, .inr (0, (8, 0)))], [.inr (0, (0, 1)), .inr (3, (0, 480))]), [], [], [(0, 0), (0, 0), (0, 0), (0, 0), (0, 0), (0, 0), (0, 0), (0, 0), (8, 0), (0, 1)], 2)
noncomputable def rxoRLK_1_1 : bx_HO := (([(0, 0), (0, 0), (0, 0), (0, 0), (0, 0), (0, 0), (0, 0), (0, 0), (0, 2), (12, 12)], [(3, (8, 0), (0, (-1)))], [(((0, 0), 1851192626986356800635647638965429050492161446287407234697658368000000), .inr (0, (9, 0))), (((0, 480), 16), .inr (0, (9, 0)))], 0, 0, 64, [(0, .inr (3, (0, 480))), (1, .inr (0, (8, 0)))], [.inr (0, (0, 0)), .inr (3, (0, 480))]), [], [], [(0, 0), (0, 0), (0, 0), (0, 0), (0, 0), (0, 0), (0, 0), (0, 0), (8, 0), (0, 0)], 2)
noncomputable def rxoRLK_1_2 : bx_HO := (([(0, 0), (0, 0), (0, 0), (0, 0), (0, 0), (0, 0), (0, 0), (0, 0), ((-1), (-1))], [], [], 0, 0, 64, [(0, .inr (3, (0, 480))), (1, .inr (0, (8, 0)))], [.inr (0, (0, 0)), .inr (3, (0, 480))]), [], [], [(0, 0), (0, 0), (0, 0), (0, 0), (0, 0), (0, 0), (0, 0), (0, 0), (8, 0), (0, 0)], 2)
noncomputable def rxoRLK_3_0 : bx_HO := (([(0, 0), (0, 0), (0, 0), (0, 0), (0, 0), (0, 0), (0, 0), (0, 0), ((-1), 2), (0, 1), (0, 0), (0, 12)], [], [(((0, 0), 1851192626986356800635647638965429050492161446287407234697658368000000), .inr (0, (11, 0))), (((0, 480), 16), .inr (0, (11, 0))), (((0, 0), 1851192626986356800234234225391877833944518517379736727590010880000000), .inr (0, (10, 0))), (((0, 480), 14), .inr (0, (10, 0)))], 0, 0, 81, [(0, .inr (3, (0, 480))), (1, .inr (0, (8, 0)))], [.inr (0, (11, 0)), .inr (0, (0, 8))]), [(8, 0, 2), (11, 0, 11)], [], [(0, 0), (0, 0), (0, 0), (0, 0), (0, 0), (0, 0), (0, 0), (0, 0), (8, 0), (11, 0)], 4)
noncomputable def rxeRLK_3_0 : rx_End × List (Nat × Int × Int) := (([(0, 0), (0, 0), (0, 0), (0, 0), (0, 0), (0, 0), (0, 0), (0, 0), ((-1), 2), (0, 1), (1, 1)], [(3, (10, 0), (0, 0))], [(((0, 0), 1851192626986356800234234225391877833944518517379736727590010880000000), .inr (0, (10, 0))), (((0, 480), 14), .inr (0, (10, 0)))], none), [])
noncomputable def rxoRLK_4_0 : bx_HO := (([(0, 0), (0, 0), (0, 0), (0, 0), (0, 0), (0, 0), (0, 0), (0, 0), (0, 2), (0, 11), (0, 88)], [(12, (10, 0), (9, 0))], [], 0, 0, 85, [(3, .inr (0, (0, 0))), (2, .inr (0, (10, 0))), (0, .inr (3, (0, 480))), (1, .inr (0, (8, 0)))], []), [], [], [(0, 0), (0, 0), (0, 0), (0, 0), (0, 0), (0, 0), (0, 0), (0, 0), (8, 0), (10, 0), (0, 0)], 5)
noncomputable def rxoRLK_5_0 : bx_HO := (([(0, 0), (0, 0), (0, 0), (0, 0), (0, 0), (0, 0), (0, 0), (0, 0), (0, 2), (0, 88), (0, 7), (0, 95)], [(604462909807314587353098000000, (11, 0), (9, 0))], [(((0, 480), 17), .inr (3, (0, 486)))], 0, 0, 99, [(0, .inr (3, (0, 480))), (1, .inr (0, (8, 0))), (2, .inr (0, (9, 0))), (3, .inr (0, (10, 0)))], [.inr (0, (0, 0)), .inr (0, (11, 0)), .inr (3, (0, 486))]), [], [], [(0, 0), (0, 0), (0, 0), (0, 0), (0, 0), (0, 0), (0, 0), (0, 0), (8, 0), (9, 0), (10, 0), (11, 0), (0, 0)], 6)
noncomputable def rxoRLK_5_1 : bx_HO := (([(0, 0), (0, 0), (0, 0), (0, 0), (0, 0), (0, 0), (0, 0), (0, 0), (0, 2), (0, 88), (8, 8)], [], [(((0, 480), 17), .inr (3, (0, 486)))], 0, 0, 112, [(0, .inr (3, (0, 480))), (1, .inr (0, (8, 0))), (2, .inr (0, (9, 0))), (3, .inr (0, (10, 0)))], [.inr (0, (8, 0)), .inr (0, (9, 0)), .inr (3, (0, 486))]), [], [], [(0, 0), (0, 0), (0, 0), (0, 0), (0, 0), (0, 0), (0, 0), (0, 0), (8, 0), (9, 0), (9, 0), (8, 0)], 8)
noncomputable def rxoRLK_7_0 : bx_HO := (([(0, 0), (0, 0), (0, 0), (0, 0), (0, 0), (0, 0), (0, 0), (0, 0), (0, 2), (0, 88), (0, 7), (0, 95), (0, 0)], [], [], 0, 0, 85, [(3, .inr (0, (10, 1))), (0, .inr (3, (0, 480))), (1, .inr (0, (8, 0))), (2, .inr (0, (9, 0)))], []), [], [], [(0, 0), (0, 0), (0, 0), (0, 0), (0, 0), (0, 0), (0, 0), (0, 0), (8, 0), (9, 0), (10, 1)], 5)
noncomputable def rxoRLK_9_0 : bx_HO := (([(0, 0), (0, 0), (0, 0), (0, 0), (0, 0), (0, 0), (0, 0), (0, 0), (0, 2), (0, 88), (0, 88), (0, 2), (0, 12)], [], [(((0, 0), 1851192626986356800635647638965429050492161446287407234697658368000000), .inr (0, (12, 0))), (((0, 480), 16), .inr (0, (12, 0)))], 0, 0, 118, [(0, .inr (3, (0, 480))), (1, .inr (0, (8, 0))), (2, .inr (0, (9, 0)))], [.inr (0, (12, 0)), .inr (3, (0, 480))]), [(12, 0, 11)], [], [(0, 0), (0, 0), (0, 0), (0, 0), (0, 0), (0, 0), (0, 0), (0, 0), (8, 0), (9, 0), (12, 0)], 10)
noncomputable def rxoRLK_10_0 : bx_HO := (([(0, 0), (0, 0), (0, 0), (0, 0), (0, 0), (0, 0), (0, 0), (0, 0), (0, 2), (0, 88), (0, 11), (0, 400)], [], [(((0, 0), 1851192626986356801037061052538980267039804375195077741805305856000000), .inr (0, (11, 0))), (((0, 480), 18), .inr (0, (11, 0))), (((0, 480), 17), .inr (3, (0, 486))), (((0, 0), 1851192626986356800635647638965429050492161446287407234697658371000000), .inr (0, (10, 1))), (((0, 480), 16), .inr (0, (10, 1)))], 0, 0, 134, [(0, .inr (3, (0, 480))), (1, .inr (0, (8, 0))), (2, .inr (0, (9, 0)))], [.inr (0, (11, 0)), .inr (0, (9, 3)), .inr (3, (0, 486))]), [], [], [(0, 0), (0, 0), (0, 0), (0, 0), (0, 0), (0, 0), (0, 0), (0, 0), (8, 0), (9, 0), (9, 3), (11, 0)], 11)
noncomputable def rxoRLK_12_0 : bx_HO := (([(0, 0), (0, 0), (0, 0), (0, 0), (0, 0), (0, 0), (0, 0), (0, 0), (0, 1), (0, 88), (3, 91), (0, 400)], [(3, (8, 0), (0, 2))], [], 0, 0, 142, [(0, .inr (3, (0, 480))), (1, .inr (0, (8, 0))), (2, .inr (0, (9, 0)))], [.inr (0, (0, 0)), .inr (3, (0, 480))]), [], [], [(0, 0), (0, 0), (0, 0), (0, 0), (0, 0), (0, 0), (0, 0), (0, 0), (9, 0)], 13)
noncomputable def rxoRLK_12_1 : bx_HO := (([(0, 0), (0, 0), (0, 0), (0, 0), (0, 0), (0, 0), (0, 0), (0, 0), (2, 2), (0, 88), (3, 91), (0, 400), (0, 400)], [], [(((0, 0), 1851192626986356801037061052538980267039804375195077741805305856000000), .inr (0, (12, 0))), (((0, 480), 18), .inr (0, (12, 0))), (((0, 480), 17), .inr (3, (0, 486)))], 0, 0, 156, [(0, .inr (3, (0, 480))), (1, .inr (0, (8, 0))), (2, .inr (0, (9, 0)))], [.inr (0, (12, 0)), .inr (0, (9, 4)), .inr (3, (0, 486))]), [], [], [(0, 0), (0, 0), (0, 0), (0, 0), (0, 0), (0, 0), (0, 0), (0, 0), (9, 0), (9, 4), (12, 0)], 15)
noncomputable def rxoRLK_14_0 : bx_HO := (([(0, 0), (0, 0), (0, 0), (0, 0), (0, 0), (0, 0), (0, 0), (0, 0), (0, 88), (0, 400)], [], [(((0, 0), 1851192626986356801037061052538980267039804375195077741805305856000000), .inr (0, (9, 0))), (((0, 480), 18), .inr (0, (9, 0))), (((0, 480), 17), .inr (3, (0, 486)))], 0, 0, 156, [(0, .inr (3, (0, 480))), (2, .inr (0, (8, 0)))], [.inr (0, (9, 0)), .inr (0, (8, 4)), .inr (3, (0, 486))]), [], [], [(0, 0), (0, 0), (0, 0), (0, 0), (0, 0), (0, 0), (0, 0), (0, 0), (8, 0), (8, 4), (9, 0)], 15)
noncomputable def rxoRLK_16_0 : bx_HO := (([(0, 0), (0, 0), (0, 0), (0, 0), (0, 0), (0, 0), (0, 0), (0, 0), (0, 88), (4, 92), (0, 400), (0, 400)], [], [(((0, 0), 1851192626986356801037061052538980267039804375195077741805305856000000), .inr (0, (11, 0))), (((0, 480), 18), .inr (0, (11, 0))), (((0, 480), 17), .inr (3, (0, 486)))], 0, 0, 168, [(0, .inr (3, (0, 480))), (2, .inr (0, (8, 0)))], [.inr (0, (11, 0)), .inr (0, (8, 5)), .inr (3, (0, 486))]), [], [], [(0, 0), (0, 0), (0, 0), (0, 0), (0, 0), (0, 0), (0, 0), (0, 0), (8, 0), (8, 5), (11, 0)], 17)
noncomputable def rxoRLK_18_0 : bx_HO := (([(0, 0), (0, 0), (0, 0), (0, 0), (0, 0), (0, 0), (0, 0), (0, 0), (0, 88), (5, 93), (0, 400), (0, 0), (0, 3), (0, 400)], [(3, (12, 0), (0, 1))], [(((0, 0), 1851192626986356801037061052538980267039804375195077741805305856000000), .inr (0, (13, 0))), (((0, 480), 18), .inr (0, (13, 0))), (((0, 480), 17), .inr (3, (0, 486))), (((0, 0), 1851192626986356799632114105031551009123054124018230966928539648000000), .inr (0, (12, 0))), (((0, 480), 11), .inr (0, (12, 0))), (((0, 0), 1851192626986356800234234225391877833944518517379736727590010880000000), .inr (0, (11, 0))), (((0, 480), 14), .inr (0, (11, 0)))], 0, 0, 207, [(0, .inr (3, (0, 480))), (2, .inr (0, (8, 0)))], [.inr (0, (13, 0)), .inr (0, (8, 6)), .inr (3, (0, 486))]), [], [], [(0, 0), (0, 0), (0, 0), (0, 0), (0, 0), (0, 0), (0, 0), (0, 0), (8, 0), (8, 6), (13, 0)], 23)
noncomputable def rxoRLK_18_1 : bx_HO := (([(0, 0), (0, 0), (0, 0), (0, 0), (0, 0), (0, 0), (0, 0), (0, 0), (0, 88), (5, 93), (0, 400), (0, 0), (1, 1), ((-9223372036854775808), 9223372036854775807), (0, 400)], [(3, (13, 0), (0, 294))], [(((0, 0), 1851192626986356801037061052538980267039804375195077741805305856000000), .inr (0, (14, 0))), (((0, 480), 18), .inr (0, (14, 0))), (((0, 480), 17), .inr (3, (0, 486))), (((0, 0), 1851192626986356799832820811818326617396875588472066220482363392000000), .inr (1, (13, 0))), (((0, 480), 12), .inr (1, (13, 0))), (((0, 0), 1851192626986356799632114105031551009123054124018230966928539648000000), .inr (0, (12, 0))), (((0, 480), 11), .inr (0, (12, 0))), (((0, 0), 1851192626986356800234234225391877833944518517379736727590010880000000), .inr (0, (11, 0))), (((0, 480), 14), .inr (0, (11, 0)))], 0, 0, 207, [(0, .inr (3, (0, 480))), (2, .inr (0, (8, 0)))], [.inr (0, (14, 0)), .inr (0, (8, 6)), .inr (3, (0, 486))]), [], [], [(0, 0), (0, 0), (0, 0), (0, 0), (0, 0), (0, 0), (0, 0), (0, 0), (8, 0), (8, 6), (14, 0)], 23)
noncomputable def rxoRLK_18_2 : bx_HO := (([(0, 0), (0, 0), (0, 0), (0, 0), (0, 0), (0, 0), (0, 0), (0, 0), (0, 88), (5, 93), (0, 400), (0, 0), (1, 1), (294, 294)], [], [(((0, 0), 1851192626986356799832820811818326617396875588472066220482363392000000), .inr (1, (13, 0))), (((0, 480), 12), .inr (1, (13, 0))), (((0, 0), 1851192626986356799632114105031551009123054124018230966928539648000000), .inr (0, (12, 0))), (((0, 480), 11), .inr (0, (12, 0))), (((0, 0), 1851192626986356800234234225391877833944518517379736727590010880000000), .inr (0, (11, 0))), (((0, 480), 14), .inr (0, (11, 0)))], 0, 0, 187, [(0, .inr (3, (0, 480))), (2, .inr (0, (8, 0)))], [.inr (3, (0, 480))]), [], [], [(0, 0), (0, 0), (0, 0), (0, 0), (0, 0), (0, 0), (0, 0), (0, 0), (8, 0)], 19)
noncomputable def rxoRLK_18_3 : bx_HO := (([(0, 0), (0, 0), (0, 0), (0, 0), (0, 0), (0, 0), (0, 0), (0, 0), (0, 88), (5, 93), (0, 400), (1, 1), (0, 400)], [(3, (11, 0), (0, 0))], [(((0, 0), 1851192626986356801037061052538980267039804375195077741805305856000000), .inr (0, (12, 0))), (((0, 480), 18), .inr (0, (12, 0))), (((0, 480), 17), .inr (3, (0, 486))), (((0, 0), 1851192626986356800234234225391877833944518517379736727590010880000000), .inr (0, (11, 0))), (((0, 480), 14), .inr (0, (11, 0)))], 0, 0, 207, [(0, .inr (3, (0, 480))), (2, .inr (0, (8, 0)))], [.inr (0, (12, 0)), .inr (0, (8, 6)), .inr (3, (0, 486))]), [], [], [(0, 0), (0, 0), (0, 0), (0, 0), (0, 0), (0, 0), (0, 0), (0, 0), (8, 0), (8, 6), (12, 0)], 23)
noncomputable def rxoRLK_20_0 : bx_HO := (([(0, 0), (0, 0), (0, 0), (0, 0), (0, 0), (0, 0), (0, 0), (0, 0), (0, 88)], [], [], 0, 0, 192, [(0, .inr (3, (0, 480))), (2, .inr (0, (8, 0)))], [.inr (0, (0, 1)), .inr (3, (0, 480))]), [], [], [(0, 0), (0, 0), (0, 0), (0, 0), (0, 0), (0, 0), (0, 0), (0, 0), (8, 0)], 21)
noncomputable def rxoRLK_22_0 : bx_HO := (([(0, 0), (0, 0), (0, 0), (0, 0), (0, 0), (0, 0), (0, 0), (0, 0), (0, 88), (0, 400)], [], [(((0, 0), 1851192626986356801037061052538980267039804375195077741805305856000000), .inr (0, (9, 0))), (((0, 480), 18), .inr (0, (9, 0))), (((0, 480), 17), .inr (3, (0, 486)))], 0, 0, 207, [(0, .inr (3, (0, 480))), (2, .inr (0, (8, 0)))], [.inr (0, (9, 0)), .inr (0, (8, 6)), .inr (3, (0, 486))]), [], [], [(0, 0), (0, 0), (0, 0), (0, 0), (0, 0), (0, 0), (0, 0), (0, 0), (8, 0), (8, 6), (9, 0)], 23)
noncomputable def rxeRLK_24_0 : rx_End × List (Nat × Int × Int) := (([(0, 0), (0, 0), (0, 0), (0, 0), (0, 0), (0, 0), (0, 0), (0, 0), (0, 88), (6, 94), (0, 400)], [], [], none), [])
noncomputable def rxYRLK : List bx_HE := [(rxzRLK_0, [rxoRLK_0_0, rxoRLK_0_1, rxoRLK_0_2, rxoRLK_0_3, rxoRLK_0_4], []), (rxzRLK_1, [rxoRLK_1_0, rxoRLK_1_1, rxoRLK_1_2], []), (rxzRLK_2, [], []), (rxzRLK_3, [rxoRLK_3_0], [rxeRLK_3_0]), (rxzRLK_4, [rxoRLK_4_0], []), (rxzRLK_5, [rxoRLK_5_0, rxoRLK_5_1], []), (rxzRLK_6, [], []), (rxzRLK_7, [rxoRLK_7_0], []), (rxzRLK_8, [], []), (rxzRLK_9, [rxoRLK_9_0], []), (rxzRLK_10, [rxoRLK_10_0], []), (rxzRLK_11, [], []), (rxzRLK_12, [rxoRLK_12_0, rxoRLK_12_1], []), (rxzRLK_13, [], []), (rxzRLK_14, [rxoRLK_14_0], []), (rxzRLK_15, [], []), (rxzRLK_16, [rxoRLK_16_0], []), (rxzRLK_17, [], []), (rxzRLK_18, [rxoRLK_18_0, rxoRLK_18_1, rxoRLK_18_2, rxoRLK_18_3], []), (rxzRLK_19, [], []), (rxzRLK_20, [rxoRLK_20_0], []), (rxzRLK_21, [], []), (rxzRLK_22, [rxoRLK_22_0], []), (rxzRLK_23, [], []), (rxzRLK_24, [], [rxeRLK_24_0])]
noncomputable def rxURLK (q : bx_HE) : Bool := Nat.beq (rx_zpc q.1) 64 || Nat.beq (rx_zpc q.1) 99 || Nat.beq (rx_zpc q.1) 112 || Nat.beq (rx_zpc q.1) 134 || Nat.beq (rx_zpc q.1) 142 || Nat.beq (rx_zpc q.1) 156 || Nat.beq (rx_zpc q.1) 168 || Nat.beq (rx_zpc q.1) 187 || Nat.beq (rx_zpc q.1) 192 || Nat.beq (rx_zpc q.1) 207
noncomputable def rxYBRLK : bx_B := (rxV, rxNP, rxDmf, bx_mdH rxCRLK.2.2.1)
set_option maxRecDepth 100000 in
theorem rxYcRLK : bx_chkH rxYBRLK rxM284 rxCRLK rxYRLK (rxURLK, fun cut z => rx_ex2 (rxCT rxYBRLK rxCnE) cut 30000 rxCRLK.2.2.2.1 284 z) = true := by decide +kernel
noncomputable def rxIRLK (S0 : Nat → Int → Int) (ws : List Int) (i : Nat) : bx_SP := fun S r => match i with | 0 => rxIRLK_0 S0 ws S | 1 => rxIRLK_1 S0 ws S (r 8) | 2 => rxIRLK_2 S0 ws S (r 8) (r 9) | 3 => rxIRLK_3 S0 ws S (r 8) (r 9) | 4 => rxIRLK_4 S0 ws S (r 8) (r 9) | 5 => rxIRLK_5 S0 ws S (r 8) (r 9) (r 10) | 6 => rxIRLK_6 S0 ws S (r 8) (r 9) (r 10) (r 11) (r 12) | 7 => rxIRLK_7 S0 ws S (r 8) (r 9) (r 10) (r 11) (r 12) | 8 => rxIRLK_8 S0 ws S (r 8) (r 9) (r 10) (r 11) | 9 => rxIRLK_9 S0 ws S (r 8) (r 9) (r 10) (r 11) | 10 => rxIRLK_10 S0 ws S (r 8) (r 9) (r 10) | 11 => rxIRLK_11 S0 ws S (r 8) (r 9) (r 10) (r 11) | 12 => rxIRLK_12 S0 ws S (r 8) (r 9) (r 10) (r 11) | 13 => rxIRLK_13 S0 ws S (r 8) | 14 => rxIRLK_14 S0 ws S (r 8) | 15 => rxIRLK_15 S0 ws S (r 8) (r 9) (r 10) | 16 => rxIRLK_16 S0 ws S (r 8) (r 9) (r 10) | 17 => rxIRLK_17 S0 ws S (r 8) (r 9) (r 10) | 18 => rxIRLK_18 S0 ws S (r 8) (r 9) (r 10) | 19 => rxIRLK_19 S0 ws S (r 8) | 20 => rxIRLK_20 S0 ws S (r 8) | 21 => rxIRLK_21 S0 ws S (r 8) | 22 => rxIRLK_22 S0 ws S (r 8) | 23 => rxIRLK_23 S0 ws S (r 8) (r 9) (r 10) | 24 => rxIRLK_24 S0 ws S (r 8) (r 9) (r 10) | _ => False
noncomputable def rxmRLK (S0 : Nat → Int → Int) (ws : List Int) (i : Nat) (S : Nat → Int → Int) (r : Nat → Int) : Nat := match i with | 0 => rxmRLK_0 S0 ws S | 1 => rxmRLK_1 S0 ws S (r 8) | 2 => rxmRLK_2 S0 ws S (r 8) (r 9) | 3 => rxmRLK_3 S0 ws S (r 8) (r 9) | 4 => rxmRLK_4 S0 ws S (r 8) (r 9) | 5 => rxmRLK_5 S0 ws S (r 8) (r 9) (r 10) | 6 => rxmRLK_6 S0 ws S (r 8) (r 9) (r 10) (r 11) (r 12) | 7 => rxmRLK_7 S0 ws S (r 8) (r 9) (r 10) (r 11) (r 12) | 8 => rxmRLK_8 S0 ws S (r 8) (r 9) (r 10) (r 11) | 9 => rxmRLK_9 S0 ws S (r 8) (r 9) (r 10) (r 11) | 10 => rxmRLK_10 S0 ws S (r 8) (r 9) (r 10) | 11 => rxmRLK_11 S0 ws S (r 8) (r 9) (r 10) (r 11) | 12 => rxmRLK_12 S0 ws S (r 8) (r 9) (r 10) (r 11) | 13 => rxmRLK_13 S0 ws S (r 8) | 14 => rxmRLK_14 S0 ws S (r 8) | 15 => rxmRLK_15 S0 ws S (r 8) (r 9) (r 10) | 16 => rxmRLK_16 S0 ws S (r 8) (r 9) (r 10) | 17 => rxmRLK_17 S0 ws S (r 8) (r 9) (r 10) | 18 => rxmRLK_18 S0 ws S (r 8) (r 9) (r 10) | 19 => rxmRLK_19 S0 ws S (r 8) | 20 => rxmRLK_20 S0 ws S (r 8) | 21 => rxmRLK_21 S0 ws S (r 8) | 22 => rxmRLK_22 S0 ws S (r 8) | 23 => rxmRLK_23 S0 ws S (r 8) (r 9) (r 10) | 24 => rxmRLK_24 S0 ws S (r 8) (r 9) (r 10) | _ => 0
noncomputable def rxPRLK (S0 : Nat → Int → Int) (ws : List Int) : Prop := rxPRLW S0 ws
noncomputable def rxPSRLK (S0 : Nat → Int → Int) (ws : List Int) (S : Nat → Int → Int) (w : Option Int) : Prop := w = none ∧ rxPSRLW S0 ws S w ∧ (rzCk S0 → rzDq S0 → rzWr S0 = rzLn_ → S 480 14 = 0 → rkL7 S0 S)
theorem rxkRLK_2 {S0 : Nat → Int → Int} {ws : List Int} {S : Nat → Int → Int} {which is : Int} (hP : rxPRLK S0 ws) (hin : bx_same rxL (bx_mdl rxCRLK.2.2.1) S0 S) (I0 : bx_Inv rxL S) (hinv : rxIRLK_2 S0 ws S which is) (l8 : (-1) ≤ which) (u8 : which ≤ 2) (l9 : 0 ≤ is) (u9 : is ≤ 1) : rxPMUW S [480, is] ∧ ∀ (S_p : Nat → Int → Int), rxPSMUW S [480, is] S_p none → bx_Inv rxL S_p → bx_same rxL (bx_mdl rxCMUW.2.2.1) S S_p → rxIRLK_3 S0 ws S_p which is ∧ rxmRLK_3 S0 ws S_p which is < rxmRLK_2 S0 ws S which is := by
  obtain ⟨hI, hx⟩ := hinv
  have g_ := rxkRLW_2 hP hin I0 hI l8 u8 l9 u9
  exact ⟨g_.1, fun S_p hq I1 hsm => ⟨⟨(g_.2 S_p hq I1 hsm).1, (by
    intro c hD hW z
    have e := hI.1.1
    have b18 := I0 480 18 (by decide) (by decide)
    have b18 : 0 ≤ S 480 18 ∧ S 480 18 ≤ 400 := b18
    subst e
    obtain ⟨hw, hi⟩ := hI.2
    have hw := hw hD
    have h14 := hP.2.1
    obtain ⟨-, -, is2, hw2, hc⟩ := hq.2.1
    have he : is = is2 := Option.some.inj (congrArg (fun l : List Int => l[1]?) hw2)
    have nw := (hq.2.2.1 h14 hD).1 z
    refine ⟨?_, nw.2.2, hsm 480 21 (by decide) (by decide) (by decide +kernel), hsm 480 18 (by decide) (by decide) (by decide +kernel), fun i x y => rkFm_sm hsm (by decide +kernel) i x (by omega)⟩
    rcases hw with v | v | v | v
    · exact Or.inl v
    · exact Or.inr (Or.inl v)
    · exact Or.inr (Or.inr v)
    · exfalso
      omega)⟩, (g_.2 S_p hq I1 hsm).2⟩⟩
theorem rxsRLK_2 {X : (Nat → Int → Int) → Prop} {S0 : Nat → Int → Int} {ws : List Int} (hP : rxPRLK S0 ws) : rx_obK X S0 rxCRLK.2.2.1 rxCMUW.2.2.1 (rxIRLK S0 ws) (rxmRLK S0 ws) 2 3 rxzRLK_2 rxzRLK_3 [.inr (3, (0, 480)), .inr (0, (9, 0))] none rxPMUW rxPSMUW := by
  intro S r hinv hXS I0 hin hs_ hf_
  have b_ := bx_bds_sat hs_
  have f_ := bx_fcl_ok hs_.1 hf_
  obtain ⟨⟨l8, u8⟩, ⟨l9, u9⟩, -⟩ := b_
  have g := rxkRLK_2 hP hin I0 hinv l8 u8 l9 u9
  have ea : List.map (bx_num r) [.inr (3, (0, 480)), .inr (0, (9, 0))] = [480, (r 9)] := by
    simp only [List.map_cons, List.map_nil, bx_xv_ok hs_.1]
    rfl
  rw [ea]
  refine ⟨g.1, fun S_p w r_p hPS hX_p I1 hsm hr hw hs_p => ?_⟩
  have hw : w = none := hPS.1
  subst hw
  have g2 := g.2 S_p hPS I1 hsm
  show rxIRLK_3 S0 ws S_p (r_p 8) (r_p 9) ∧ rxmRLK_3 S0 ws S_p (r_p 8) (r_p 9) < _
  rw [hr 8 (by decide), hr 9 (by decide)]
  exact g2
theorem rxtRLK_6 {S0 : Nat → Int → Int} {ws : List Int} {S : Nat → Int → Int} {which base i a zz : Int} (hP : rxPRLK S0 ws) (hin : bx_same rxL (bx_mdl rxCRLK.2.2.1) S0 S) (I0 : bx_Inv rxL S) (hinv : rxIRLK_6 S0 ws S which base i a zz) (l8 : 0 ≤ which) (u8 : which ≤ 2) (l9 : 0 ≤ base) (u9 : base ≤ 88) (l10 : 0 ≤ i) (u10 : i ≤ 7) (l11 : 0 ≤ a) (u11 : a ≤ 95) (l12 : 0 ≤ zz) (u12 : zz ≤ 0) : bx_okT rxL (rxL.2.2.1 486 a) zz ∧ rxIRLK_7 S0 ws (bx_up S 486 a zz) which base i a zz ∧ rxmRLK_7 S0 ws (bx_up S 486 a zz) which base i a zz < rxmRLK_6 S0 ws S which base i a zz := by
  obtain ⟨hI, hx⟩ := hinv
  obtain ⟨a_, c_, d_⟩ := rxtRLW_6 hP hin I0 hI l8 u8 l9 u9 l10 u10 l11 u11 l12 u12
  exact ⟨a_, ⟨c_, (by
    intro c hD hW z
    obtain ⟨h1, h2⟩ := hx c hD hW (show S 480 14 = 0 from ((bx_up_ne (by omega))).symm.trans z)
    exact ⟨h1, (rkL3_ne h2 ((bx_up_ne (by omega))) ((bx_up_ne (by omega))) ((bx_up_ne (by omega))) (fun i => ⟨(bx_up_ne (by omega)), (bx_up_ne (by omega))⟩))⟩)⟩, d_⟩
theorem rxsRLK_6 {X : (Nat → Int → Int) → Prop} {S0 : Nat → Int → Int} {ws : List Int} (hP : rxPRLK S0 ws) (hX : ∀ S S1 : Nat → Int → Int, X S → bx_same rxL (bx_mdl rxCRLK.2.2.1) S S1 → X S1) : rx_obS X S0 rxCRLK.2.2.1 (rxIRLK S0 ws) (rxmRLK S0 ws) 6 7 rxzRLK_6 486 11 12 := by
  intro S r hinv hXS I0 hin hs_ hf_
  have b_ := bx_bds_sat hs_
  have f_ := bx_fcl_ok hs_.1 hf_
  obtain ⟨⟨l8, u8⟩, ⟨l9, u9⟩, ⟨l10, u10⟩, ⟨l11, u11⟩, ⟨l12, u12⟩, -⟩ := b_
  have g := rxtRLK_6 hP hin I0 hinv l8 u8 l9 u9 l10 u10 l11 u11 l12 u12
  exact ⟨g.1, g.2.1, g.2.2, hX _ _ hXS (rx_same_upR (fun _ _ _ _ _ => rfl) (tc := 0) (n := 96) (g := 67) rfl (by decide +kernel) l11 u11), rx_same_upR hin (tc := 0) (n := 96) (g := 67) rfl (by decide +kernel) l11 u11⟩
theorem rxtRLK_8 {S0 : Nat → Int → Int} {ws : List Int} {S : Nat → Int → Int} {which base a v : Int} (hP : rxPRLK S0 ws) (hin : bx_same rxL (bx_mdl rxCRLK.2.2.1) S0 S) (I0 : bx_Inv rxL S) (hinv : rxIRLK_8 S0 ws S which base a v) (l8 : 0 ≤ which) (u8 : which ≤ 2) (l9 : 0 ≤ base) (u9 : base ≤ 88) (l10 : 0 ≤ a) (u10 : a ≤ 88) (l11 : 0 ≤ v) (u11 : v ≤ 2) : bx_okT rxL (rxL.2.2.1 486 a) v ∧ rxIRLK_9 S0 ws (bx_up S 486 a v) which base a v ∧ rxmRLK_9 S0 ws (bx_up S 486 a v) which base a v < rxmRLK_8 S0 ws S which base a v := by
  obtain ⟨hI, hx⟩ := hinv
  obtain ⟨a_, c_, d_⟩ := rxtRLW_8 hP hin I0 hI l8 u8 l9 u9 l10 u10 l11 u11
  exact ⟨a_, ⟨c_, (by
    intro c hD hW z
    obtain ⟨h1, h2, h3⟩ := hx c hD hW (show S 480 14 = 0 from ((bx_up_ne (by omega))).symm.trans z)
    have ha := hI.1.2
    exact ⟨h1, (rkL3_ne h2 ((bx_up_ne (by omega))) ((bx_up_ne (by omega))) ((bx_up_ne (by omega))) (fun i => ⟨(bx_up_ne (by omega)), (bx_up_ne (by omega))⟩)), by rw [ha]; exact bx_up_at.trans h3⟩)⟩, d_⟩
theorem rxsRLK_8 {X : (Nat → Int → Int) → Prop} {S0 : Nat → Int → Int} {ws : List Int} (hP : rxPRLK S0 ws) (hX : ∀ S S1 : Nat → Int → Int, X S → bx_same rxL (bx_mdl rxCRLK.2.2.1) S S1 → X S1) : rx_obS X S0 rxCRLK.2.2.1 (rxIRLK S0 ws) (rxmRLK S0 ws) 8 9 rxzRLK_8 486 10 11 := by
  intro S r hinv hXS I0 hin hs_ hf_
  have b_ := bx_bds_sat hs_
  have f_ := bx_fcl_ok hs_.1 hf_
  obtain ⟨⟨l8, u8⟩, ⟨l9, u9⟩, ⟨l10, u10⟩, ⟨l11, u11⟩, -⟩ := b_
  have g := rxtRLK_8 hP hin I0 hinv l8 u8 l9 u9 l10 u10 l11 u11
  exact ⟨g.1, g.2.1, g.2.2, hX _ _ hXS (rx_same_upR (fun _ _ _ _ _ => rfl) (tc := 0) (n := 96) (g := 67) rfl (by decide +kernel) l10 u10), rx_same_upR hin (tc := 0) (n := 96) (g := 67) rfl (by decide +kernel) l10 u10⟩
theorem rxtRLK_11 {S0 : Nat → Int → Int} {ws : List Int} {S : Nat → Int → Int} {which base a v : Int} (hP : rxPRLK S0 ws) (hin : bx_same rxL (bx_mdl rxCRLK.2.2.1) S0 S) (I0 : bx_Inv rxL S) (hinv : rxIRLK_11 S0 ws S which base a v) (l8 : 0 ≤ which) (u8 : which ≤ 2) (l9 : 0 ≤ base) (u9 : base ≤ 88) (l10 : 3 ≤ a) (u10 : a ≤ 91) (l11 : 0 ≤ v) (u11 : v ≤ 400) : bx_okT rxL (rxL.2.2.1 486 a) v ∧ rxIRLK_12 S0 ws (bx_up S 486 a v) which base a v ∧ rxmRLK_12 S0 ws (bx_up S 486 a v) which base a v < rxmRLK_11 S0 ws S which base a v := by
  obtain ⟨hI, hx⟩ := hinv
  obtain ⟨a_, c_, d_⟩ := rxtRLW_11 hP hin I0 hI l8 u8 l9 u9 l10 u10 l11 u11
  exact ⟨a_, ⟨c_, (by
    intro c hD hW z
    obtain ⟨h1, h2, h3⟩ := hx c hD hW (show S 480 14 = 0 from ((bx_up_ne (by omega))).symm.trans z)
    have ha := hI.1.1
    exact ⟨h1, (rkL3_ne h2 ((bx_up_ne (by omega))) ((bx_up_ne (by omega))) ((bx_up_ne (by omega))) (fun i => ⟨(bx_up_ne (by omega)), (bx_up_ne (by omega))⟩)), ((bx_up_ne (by omega))).trans h3⟩)⟩, d_⟩
theorem rxsRLK_11 {X : (Nat → Int → Int) → Prop} {S0 : Nat → Int → Int} {ws : List Int} (hP : rxPRLK S0 ws) (hX : ∀ S S1 : Nat → Int → Int, X S → bx_same rxL (bx_mdl rxCRLK.2.2.1) S S1 → X S1) : rx_obS X S0 rxCRLK.2.2.1 (rxIRLK S0 ws) (rxmRLK S0 ws) 11 12 rxzRLK_11 486 10 11 := by
  intro S r hinv hXS I0 hin hs_ hf_
  have b_ := bx_bds_sat hs_
  have f_ := bx_fcl_ok hs_.1 hf_
  obtain ⟨⟨l8, u8⟩, ⟨l9, u9⟩, ⟨l10, u10⟩, ⟨l11, u11⟩, -⟩ := b_
  have g := rxtRLK_11 hP hin I0 hinv l8 u8 l9 u9 l10 u10 l11 u11
  exact ⟨g.1, g.2.1, g.2.2, hX _ _ hXS (rx_same_upR (fun _ _ _ _ _ => rfl) (tc := 0) (n := 96) (g := 67) rfl (by decide +kernel) l10 u10), rx_same_upR hin (tc := 0) (n := 96) (g := 67) rfl (by decide +kernel) l10 u10⟩
theorem rxkRLK_13 {S0 : Nat → Int → Int} {ws : List Int} {S : Nat → Int → Int} {base : Int} (hP : rxPRLK S0 ws) (hin : bx_same rxL (bx_mdl rxCRLK.2.2.1) S0 S) (I0 : bx_Inv rxL S) (hinv : rxIRLK_13 S0 ws S base) (l8 : 0 ≤ base) (u8 : base ≤ 88) : rxPREXK S [480, 0] ∧ ∀ (S_p : Nat → Int → Int), rxPSREXK S [480, 0] S_p none → bx_Inv rxL S_p → bx_same rxL (bx_mdl rxCREXK.2.2.1) S S_p → rxIRLK_14 S0 ws S_p base ∧ rxmRLK_14 S0 ws S_p base < rxmRLK_13 S0 ws S base := by
  obtain ⟨hI, hx⟩ := hinv
  have g_ := rxkRLW_13 hP hin I0 hI l8 u8
  exact ⟨g_.1, fun S_p hq I1 hsm => ⟨⟨(g_.2 S_p hq.2.1 I1 hsm).1, (by
    intro c hD hW z
    have z14 := hI.2.1
    obtain ⟨h1, h2, h3⟩ := hx c hD hW z14
    obtain ⟨kr, dq, -⟩ := (hI.2.2 c hD hW).1 z14
    obtain ⟨-, -, y3, y4, y5, -⟩ := hI.1.1
    have ck := kr.2.2.2.2 c
    exact rkL4_ex hW kr h3 h1 h2 (hq.2.1.2.2 0 rfl ck dq) (hq.2.2 0 rfl ck dq) z (rx_sameR hsm (p := 486) (tc := 0) (n := 96) (g := 67) (j := base) rfl (by omega) (by decide +kernel) (by decide +kernel) (by omega) (by omega)))⟩, (g_.2 S_p hq.2.1 I1 hsm).2⟩⟩
theorem rxsRLK_13 {X : (Nat → Int → Int) → Prop} {S0 : Nat → Int → Int} {ws : List Int} (hP : rxPRLK S0 ws) : rx_obK X S0 rxCRLK.2.2.1 rxCREXK.2.2.1 (rxIRLK S0 ws) (rxmRLK S0 ws) 13 14 rxzRLK_13 rxzRLK_14 [.inr (3, (0, 480)), .inr (0, (0, 0))] none rxPREXK rxPSREXK := by
  intro S r hinv hXS I0 hin hs_ hf_
  have b_ := bx_bds_sat hs_
  have f_ := bx_fcl_ok hs_.1 hf_
  obtain ⟨⟨l8, u8⟩, -⟩ := b_
  have g := rxkRLK_13 hP hin I0 hinv l8 u8
  have ea : List.map (bx_num r) [.inr (3, (0, 480)), .inr (0, (0, 0))] = [480, 0] := by
    simp only [List.map_cons, List.map_nil, bx_xv_ok hs_.1]
    rfl
  rw [ea]
  refine ⟨g.1, fun S_p w r_p hPS hX_p I1 hsm hr hw hs_p => ?_⟩
  have hw : w = none := hPS.1
  subst hw
  have g2 := g.2 S_p hPS I1 hsm
  show rxIRLK_14 S0 ws S_p (r_p 8) ∧ rxmRLK_14 S0 ws S_p (r_p 8) < _
  rw [hr 8 (by decide)]
  exact g2
theorem rxtRLK_15 {S0 : Nat → Int → Int} {ws : List Int} {S : Nat → Int → Int} {base a v : Int} (hP : rxPRLK S0 ws) (hin : bx_same rxL (bx_mdl rxCRLK.2.2.1) S0 S) (I0 : bx_Inv rxL S) (hinv : rxIRLK_15 S0 ws S base a v) (l8 : 0 ≤ base) (u8 : base ≤ 88) (l9 : 4 ≤ a) (u9 : a ≤ 92) (l10 : 0 ≤ v) (u10 : v ≤ 400) : bx_okT rxL (rxL.2.2.1 486 a) v ∧ rxIRLK_16 S0 ws (bx_up S 486 a v) base a v ∧ rxmRLK_16 S0 ws (bx_up S 486 a v) base a v < rxmRLK_15 S0 ws S base a v := by
  obtain ⟨hI, hx⟩ := hinv
  obtain ⟨a_, c_, d_⟩ := rxtRLW_15 hP hin I0 hI l8 u8 l9 u9 l10 u10
  exact ⟨a_, ⟨c_, (by
    intro c hD hW z
    have ha := hI.1.2.1
    exact (rkL4_ne (hx c hD hW (show S 480 14 = 0 from ((bx_up_ne (by omega))).symm.trans z)) ((bx_up_ne (by omega))) ((bx_up_ne (by omega))) ((bx_up_ne (by omega))) ((bx_up_ne (by omega))) (fun i => ⟨(bx_up_ne (by omega)), (bx_up_ne (by omega))⟩)))⟩, d_⟩
theorem rxsRLK_15 {X : (Nat → Int → Int) → Prop} {S0 : Nat → Int → Int} {ws : List Int} (hP : rxPRLK S0 ws) (hX : ∀ S S1 : Nat → Int → Int, X S → bx_same rxL (bx_mdl rxCRLK.2.2.1) S S1 → X S1) : rx_obS X S0 rxCRLK.2.2.1 (rxIRLK S0 ws) (rxmRLK S0 ws) 15 16 rxzRLK_15 486 9 10 := by
  intro S r hinv hXS I0 hin hs_ hf_
  have b_ := bx_bds_sat hs_
  have f_ := bx_fcl_ok hs_.1 hf_
  obtain ⟨⟨l8, u8⟩, ⟨l9, u9⟩, ⟨l10, u10⟩, -⟩ := b_
  have g := rxtRLK_15 hP hin I0 hinv l8 u8 l9 u9 l10 u10
  exact ⟨g.1, g.2.1, g.2.2, hX _ _ hXS (rx_same_upR (fun _ _ _ _ _ => rfl) (tc := 0) (n := 96) (g := 67) rfl (by decide +kernel) l9 u9), rx_same_upR hin (tc := 0) (n := 96) (g := 67) rfl (by decide +kernel) l9 u9⟩
theorem rxtRLK_17 {S0 : Nat → Int → Int} {ws : List Int} {S : Nat → Int → Int} {base a v : Int} (hP : rxPRLK S0 ws) (hin : bx_same rxL (bx_mdl rxCRLK.2.2.1) S0 S) (I0 : bx_Inv rxL S) (hinv : rxIRLK_17 S0 ws S base a v) (l8 : 0 ≤ base) (u8 : base ≤ 88) (l9 : 5 ≤ a) (u9 : a ≤ 93) (l10 : 0 ≤ v) (u10 : v ≤ 400) : bx_okT rxL (rxL.2.2.1 486 a) v ∧ rxIRLK_18 S0 ws (bx_up S 486 a v) base a v ∧ rxmRLK_18 S0 ws (bx_up S 486 a v) base a v < rxmRLK_17 S0 ws S base a v := by
  obtain ⟨hI, hx⟩ := hinv
  obtain ⟨a_, c_, d_⟩ := rxtRLW_17 hP hin I0 hI l8 u8 l9 u9 l10 u10
  exact ⟨a_, ⟨c_, (by
    intro c hD hW z
    have ha := hI.1.2.2.1
    exact (rkL4_ne (hx c hD hW (show S 480 14 = 0 from ((bx_up_ne (by omega))).symm.trans z)) ((bx_up_ne (by omega))) ((bx_up_ne (by omega))) ((bx_up_ne (by omega))) ((bx_up_ne (by omega))) (fun i => ⟨(bx_up_ne (by omega)), (bx_up_ne (by omega))⟩)))⟩, d_⟩
theorem rxsRLK_17 {X : (Nat → Int → Int) → Prop} {S0 : Nat → Int → Int} {ws : List Int} (hP : rxPRLK S0 ws) (hX : ∀ S S1 : Nat → Int → Int, X S → bx_same rxL (bx_mdl rxCRLK.2.2.1) S S1 → X S1) : rx_obS X S0 rxCRLK.2.2.1 (rxIRLK S0 ws) (rxmRLK S0 ws) 17 18 rxzRLK_17 486 9 10 := by
  intro S r hinv hXS I0 hin hs_ hf_
  have b_ := bx_bds_sat hs_
  have f_ := bx_fcl_ok hs_.1 hf_
  obtain ⟨⟨l8, u8⟩, ⟨l9, u9⟩, ⟨l10, u10⟩, -⟩ := b_
  have g := rxtRLK_17 hP hin I0 hinv l8 u8 l9 u9 l10 u10
  exact ⟨g.1, g.2.1, g.2.2, hX _ _ hXS (rx_same_upR (fun _ _ _ _ _ => rfl) (tc := 0) (n := 96) (g := 67) rfl (by decide +kernel) l9 u9), rx_same_upR hin (tc := 0) (n := 96) (g := 67) rfl (by decide +kernel) l9 u9⟩
theorem rxkRLK_19 {S0 : Nat → Int → Int} {ws : List Int} {S : Nat → Int → Int} {base : Int} (hP : rxPRLK S0 ws) (hin : bx_same rxL (bx_mdl rxCRLK.2.2.1) S0 S) (I0 : bx_Inv rxL S) (hinv : rxIRLK_19 S0 ws S base) (l8 : 0 ≤ base) (u8 : base ≤ 88) : rxPNXX S [480] ∧ ∀ (S_p : Nat → Int → Int), rxPSNXX S [480] S_p none → bx_Inv rxL S_p → bx_same rxL (bx_mdl rxCNXX.2.2.1) S S_p → rxIRLK_20 S0 ws S_p base ∧ rxmRLK_20 S0 ws S_p base < rxmRLK_19 S0 ws S base := by
  obtain ⟨hI, hx⟩ := hinv
  have g_ := rxkRLW_19 hP hin I0 hI l8 u8
  exact ⟨g_.1, fun S_p hq I1 hsm => ⟨⟨(g_.2 S_p hq I1 hsm).1, (by
    intro c hD hW z
    have z14 := hI.1.1
    obtain ⟨kr, dq, -⟩ := (hI.2.1 c hD hW).1 z14
    obtain ⟨m, ⟨y1, y2, y3, y4, y5, y6, y7, y8, y9, y10⟩, em⟩ := hI.1.2
    obtain ⟨g1, -⟩ := y10 z14
    have b18 := I0 480 18 (by decide) (by decide)
    have b18 : 0 ≤ S 480 18 ∧ S 480 18 ≤ 400 := b18
    have nw := rzNw_nx dq (rzKr_of hsm (by decide +kernel)) hq.2.2.1 hq.2.2.2
    exact rkL5_of (hx c hD hW z14) kr (hI.2.2 dq) nw.2.2 (hsm 480 21 (by decide) (by decide) (by decide +kernel)) (hsm 480 18 (by decide) (by decide) (by decide +kernel)) b18.2 (rx_sameR hsm (p := 486) (tc := 0) (n := 96) (g := 67) (j := base) rfl (by omega) (by decide +kernel) (by decide +kernel) (by omega) (by omega)) (rkFm_sm hsm (by decide +kernel)) (by omega))⟩, (g_.2 S_p hq I1 hsm).2⟩⟩
theorem rxsRLK_19 {X : (Nat → Int → Int) → Prop} {S0 : Nat → Int → Int} {ws : List Int} (hP : rxPRLK S0 ws) : rx_obK X S0 rxCRLK.2.2.1 rxCNXX.2.2.1 (rxIRLK S0 ws) (rxmRLK S0 ws) 19 20 rxzRLK_19 rxzRLK_20 [.inr (3, (0, 480))] none rxPNXX rxPSNXX := by
  intro S r hinv hXS I0 hin hs_ hf_
  have b_ := bx_bds_sat hs_
  have f_ := bx_fcl_ok hs_.1 hf_
  obtain ⟨⟨l8, u8⟩, -⟩ := b_
  have g := rxkRLK_19 hP hin I0 hinv l8 u8
  have ea : List.map (bx_num r) [.inr (3, (0, 480))] = [480] := by
    simp only [List.map_cons, List.map_nil, bx_xv_ok hs_.1]
    rfl
  rw [ea]
  refine ⟨g.1, fun S_p w r_p hPS hX_p I1 hsm hr hw hs_p => ?_⟩
  have hw : w = none := hPS.1
  subst hw
  have g2 := g.2 S_p hPS I1 hsm
  show rxIRLK_20 S0 ws S_p (r_p 8) ∧ rxmRLK_20 S0 ws S_p (r_p 8) < _
  rw [hr 8 (by decide)]
  exact g2
theorem rxkRLK_21 {S0 : Nat → Int → Int} {ws : List Int} {S : Nat → Int → Int} {base : Int} (hP : rxPRLK S0 ws) (hin : bx_same rxL (bx_mdl rxCRLK.2.2.1) S0 S) (I0 : bx_Inv rxL S) (hinv : rxIRLK_21 S0 ws S base) (l8 : 0 ≤ base) (u8 : base ≤ 88) : rxPREXK S [480, 1] ∧ ∀ (S_p : Nat → Int → Int), rxPSREXK S [480, 1] S_p none → bx_Inv rxL S_p → bx_same rxL (bx_mdl rxCREXK.2.2.1) S S_p → rxIRLK_22 S0 ws S_p base ∧ rxmRLK_22 S0 ws S_p base < rxmRLK_21 S0 ws S base := by
  obtain ⟨hI, hx⟩ := hinv
  have g_ := rxkRLW_21 hP hin I0 hI l8 u8
  exact ⟨g_.1, fun S_p hq I1 hsm => ⟨⟨(g_.2 S_p hq.2.1 I1 hsm).1, (by
    intro c hD hW z
    have z14 := hI.1.1
    obtain ⟨kr, dq, -⟩ := (hI.2 c hD hW).1 z14
    obtain ⟨m, ⟨y1, y2, y3, y4, y5, y6, y7, y8, y9, y10⟩, em⟩ := hI.1.2
    obtain ⟨g1, -⟩ := y10 z14
    exact rkL6_ex hW kr (hx c hD hW z14) y7 y8 y9 em g1 (hq.2.2 1 rfl (kr.2.2.2.2 c) dq) z fun j hj => (rx_sameR hsm (p := 486) (tc := 0) (n := 96) (g := 67) (j := j) rfl (by omega) (by decide +kernel) (by decide +kernel) (by omega) (by omega)))⟩, (g_.2 S_p hq.2.1 I1 hsm).2⟩⟩
theorem rxsRLK_21 {X : (Nat → Int → Int) → Prop} {S0 : Nat → Int → Int} {ws : List Int} (hP : rxPRLK S0 ws) : rx_obK X S0 rxCRLK.2.2.1 rxCREXK.2.2.1 (rxIRLK S0 ws) (rxmRLK S0 ws) 21 22 rxzRLK_21 rxzRLK_22 [.inr (3, (0, 480)), .inr (0, (0, 1))] none rxPREXK rxPSREXK := by
  intro S r hinv hXS I0 hin hs_ hf_
  have b_ := bx_bds_sat hs_
  have f_ := bx_fcl_ok hs_.1 hf_
  obtain ⟨⟨l8, u8⟩, -⟩ := b_
  have g := rxkRLK_21 hP hin I0 hinv l8 u8
  have ea : List.map (bx_num r) [.inr (3, (0, 480)), .inr (0, (0, 1))] = [480, 1] := by
    simp only [List.map_cons, List.map_nil, bx_xv_ok hs_.1]
    rfl
  rw [ea]
  refine ⟨g.1, fun S_p w r_p hPS hX_p I1 hsm hr hw hs_p => ?_⟩
  have hw : w = none := hPS.1
  subst hw
  have g2 := g.2 S_p hPS I1 hsm
  show rxIRLK_22 S0 ws S_p (r_p 8) ∧ rxmRLK_22 S0 ws S_p (r_p 8) < _
  rw [hr 8 (by decide)]
  exact g2
theorem rxtRLK_23 {S0 : Nat → Int → Int} {ws : List Int} {S : Nat → Int → Int} {base a v : Int} (hP : rxPRLK S0 ws) (hin : bx_same rxL (bx_mdl rxCRLK.2.2.1) S0 S) (I0 : bx_Inv rxL S) (hinv : rxIRLK_23 S0 ws S base a v) (l8 : 0 ≤ base) (u8 : base ≤ 88) (l9 : 6 ≤ a) (u9 : a ≤ 94) (l10 : 0 ≤ v) (u10 : v ≤ 400) : bx_okT rxL (rxL.2.2.1 486 a) v ∧ rxIRLK_24 S0 ws (bx_up S 486 a v) base a v ∧ rxmRLK_24 S0 ws (bx_up S 486 a v) base a v < rxmRLK_23 S0 ws S base a v := by
  obtain ⟨hI, hx⟩ := hinv
  obtain ⟨a_, c_, d_⟩ := rxtRLW_23 hP hin I0 hI l8 u8 l9 u9 l10 u10
  exact ⟨a_, ⟨c_, (by
    intro c hD hW z
    obtain ⟨ha, hv, m, ⟨y1, y2, y3, y4, y5, y6, y7, y8, y9, y10⟩⟩ := hI.1
    subst ha
    subst hv
    exact rkL7_of (hx c hD hW (show S 480 14 = 0 from ((bx_up_ne (by omega))).symm.trans z)) y3 y6)⟩, d_⟩
theorem rxsRLK_23 {X : (Nat → Int → Int) → Prop} {S0 : Nat → Int → Int} {ws : List Int} (hP : rxPRLK S0 ws) (hX : ∀ S S1 : Nat → Int → Int, X S → bx_same rxL (bx_mdl rxCRLK.2.2.1) S S1 → X S1) : rx_obS X S0 rxCRLK.2.2.1 (rxIRLK S0 ws) (rxmRLK S0 ws) 23 24 rxzRLK_23 486 9 10 := by
  intro S r hinv hXS I0 hin hs_ hf_
  have b_ := bx_bds_sat hs_
  have f_ := bx_fcl_ok hs_.1 hf_
  obtain ⟨⟨l8, u8⟩, ⟨l9, u9⟩, ⟨l10, u10⟩, -⟩ := b_
  have g := rxtRLK_23 hP hin I0 hinv l8 u8 l9 u9 l10 u10
  exact ⟨g.1, g.2.1, g.2.2, hX _ _ hXS (rx_same_upR (fun _ _ _ _ _ => rfl) (tc := 0) (n := 96) (g := 67) rfl (by decide +kernel) l9 u9), rx_same_upR hin (tc := 0) (n := 96) (g := 67) rfl (by decide +kernel) l9 u9⟩
theorem rxcRLK_0_0 {S0 : Nat → Int → Int} {ws : List Int} {S : Nat → Int → Int} {x8 : Int} (hP : rxPRLK S0 ws) (hin : bx_same rxL (bx_mdl rxCRLK.2.2.1) S0 S) (I0 : bx_Inv rxL S) (hinv : rxIRLK_0 S0 ws S) (l8 : 0 ≤ x8) (u8 : x8 ≤ 3) (f0 : x8 ≠ 1) (f1 : x8 ≠ 1) (f2 : x8 ≠ 1) (e0 : S 480 11 = x8) : (True) ∧ (True) ∧ rxIRLK_1 S0 ws S ((-1)) ∧ rxmRLK_1 S0 ws S ((-1)) < rxmRLK_0 S0 ws S := by
  obtain ⟨hI, hx⟩ := hinv
  obtain ⟨a_, b_, c_, d_⟩ := rxcRLW_0_0 hP hin I0 hI l8 u8 f0 f1 f2 e0
  exact ⟨a_, b_, ⟨c_, trivial⟩, d_⟩
theorem rxgRLK_0_0 {X : (Nat → Int → Int) → Prop} {S0 : Nat → Int → Int} {ws : List Int} (hP : rxPRLK S0 ws) : bx_obC rxL X S0 rxCRLK.2.2.1 (rxIRLK S0 ws) (rxmRLK S0 ws) 0 rxzRLK_0 rxoRLK_0_0 := by
  intro S S_p r r_p hinv hX hin hsm_ hseg
  obtain ⟨I0, I1, h0_, hr_, b_, f_, d_⟩ := bx_cl (evs := [(0, (0, 480), (0, 11), .inr (0, (8, 0)))]) (fvs := [(3, (8, 0), (0, 1), (0, 0)), (3, (8, 0), (0, 1), (0, 0)), (3, (8, 0), (0, 1), (0, 0))]) hseg (by decide +kernel) (by decide +kernel)
  have hinv : rxIRLK_0 S0 ws S := hinv
  obtain ⟨⟨l8, u8⟩, -⟩ := b_
  obtain ⟨f0, f1, f2, -⟩ := f_
  obtain ⟨e0, w_⟩ := d_
  subst w_
  have g := rxcRLK_0_0 hP hin I0 hinv l8 u8 f0 f1 f2 e0
  refine ⟨bx_narP_ok (l := []) g.1, bx_nfP_ok h0_ (fvs := []) (by decide +kernel) g.2.1, ?_, ?_⟩
  · show rxIRLK_1 S0 ws S_p (bx_val [(0, 0), (0, 0), (0, 0), (0, 0), (0, 0), (0, 0), (0, 0), (0, 0), (0, (-1))] r_p 8)
    rw [bx_val_x (n := 8) (e := (0, (-1))) h0_ rfl]
    exact g.2.2.1
  · show rxmRLK_1 S0 ws S_p (bx_val [(0, 0), (0, 0), (0, 0), (0, 0), (0, 0), (0, 0), (0, 0), (0, 0), (0, (-1))] r_p 8) < rxmRLK_0 S0 ws S_p
    rw [bx_val_x (n := 8) (e := (0, (-1))) h0_ rfl]
    exact g.2.2.2
theorem rxcRLK_0_1 {S0 : Nat → Int → Int} {ws : List Int} {S : Nat → Int → Int} {x8 x9 : Int} (hP : rxPRLK S0 ws) (hin : bx_same rxL (bx_mdl rxCRLK.2.2.1) S0 S) (I0 : bx_Inv rxL S) (hinv : rxIRLK_0 S0 ws S) (l8 : 1 ≤ x8) (u8 : x8 ≤ 1) (l9 : (-9223372036854775808) ≤ x9) (u9 : x9 ≤ 9223372036854775807) (f0 : x9 ≠ 67155) (f1 : x9 ≠ 8902227) (f2 : x9 ≠ 20325907) (e1 : S 480 11 = x8) (e0 : S 480 12 = x9) : (True) ∧ (True) ∧ rxIRLK_1 S0 ws S ((-1)) ∧ rxmRLK_1 S0 ws S ((-1)) < rxmRLK_0 S0 ws S := by
  obtain ⟨hI, hx⟩ := hinv
  obtain ⟨a_, b_, c_, d_⟩ := rxcRLW_0_1 hP hin I0 hI l8 u8 l9 u9 f0 f1 f2 e1 e0
  exact ⟨a_, b_, ⟨c_, trivial⟩, d_⟩
theorem rxgRLK_0_1 {X : (Nat → Int → Int) → Prop} {S0 : Nat → Int → Int} {ws : List Int} (hP : rxPRLK S0 ws) : bx_obC rxL X S0 rxCRLK.2.2.1 (rxIRLK S0 ws) (rxmRLK S0 ws) 0 rxzRLK_0 rxoRLK_0_1 := by
  intro S S_p r r_p hinv hX hin hsm_ hseg
  obtain ⟨I0, I1, h0_, hr_, b_, f_, d_⟩ := bx_cl (evs := [(0, (0, 480), (0, 12), .inr (1, (9, 0))), (0, (0, 480), (0, 11), .inr (0, (8, 0)))]) (fvs := [(3, (9, 0), (0, 67155), (0, 0)), (3, (9, 0), (0, 8902227), (0, 0)), (3, (9, 0), (0, 20325907), (0, 0))]) hseg (by decide +kernel) (by decide +kernel)
  have hinv : rxIRLK_0 S0 ws S := hinv
  obtain ⟨⟨l8, u8⟩, ⟨l9, u9⟩, -⟩ := b_
  obtain ⟨f0, f1, f2, -⟩ := f_
  obtain ⟨e0, ⟨e1, w_⟩⟩ := d_
  subst w_
  have g := rxcRLK_0_1 hP hin I0 hinv l8 u8 l9 u9 f0 f1 f2 e1 e0
  refine ⟨bx_narP_ok (l := []) g.1, bx_nfP_ok h0_ (fvs := []) (by decide +kernel) g.2.1, ?_, ?_⟩
  · show rxIRLK_1 S0 ws S_p (bx_val [(0, 0), (0, 0), (0, 0), (0, 0), (0, 0), (0, 0), (0, 0), (0, 0), (0, (-1))] r_p 8)
    rw [bx_val_x (n := 8) (e := (0, (-1))) h0_ rfl]
    exact g.2.2.1
  · show rxmRLK_1 S0 ws S_p (bx_val [(0, 0), (0, 0), (0, 0), (0, 0), (0, 0), (0, 0), (0, 0), (0, 0), (0, (-1))] r_p 8) < rxmRLK_0 S0 ws S_p
    rw [bx_val_x (n := 8) (e := (0, (-1))) h0_ rfl]
    exact g.2.2.2
theorem rxcRLK_0_2 {S0 : Nat → Int → Int} {ws : List Int} {S : Nat → Int → Int} {x8 x9 : Int} (hP : rxPRLK S0 ws) (hin : bx_same rxL (bx_mdl rxCRLK.2.2.1) S0 S) (I0 : bx_Inv rxL S) (hinv : rxIRLK_0 S0 ws S) (l8 : 1 ≤ x8) (u8 : x8 ≤ 1) (l9 : 67155 ≤ x9) (u9 : x9 ≤ 67155) (f0 : x9 ≠ 8902227) (f1 : x9 ≠ 20325907) (e1 : S 480 11 = x8) (e0 : S 480 12 = x9) : (True) ∧ (True) ∧ rxIRLK_1 S0 ws S 2 ∧ rxmRLK_1 S0 ws S 2 < rxmRLK_0 S0 ws S := by
  obtain ⟨hI, hx⟩ := hinv
  obtain ⟨a_, b_, c_, d_⟩ := rxcRLW_0_2 hP hin I0 hI l8 u8 l9 u9 f0 f1 e1 e0
  exact ⟨a_, b_, ⟨c_, trivial⟩, d_⟩
theorem rxgRLK_0_2 {X : (Nat → Int → Int) → Prop} {S0 : Nat → Int → Int} {ws : List Int} (hP : rxPRLK S0 ws) : bx_obC rxL X S0 rxCRLK.2.2.1 (rxIRLK S0 ws) (rxmRLK S0 ws) 0 rxzRLK_0 rxoRLK_0_2 := by
  intro S S_p r r_p hinv hX hin hsm_ hseg
  obtain ⟨I0, I1, h0_, hr_, b_, f_, d_⟩ := bx_cl (evs := [(0, (0, 480), (0, 12), .inr (1, (9, 0))), (0, (0, 480), (0, 11), .inr (0, (8, 0)))]) (fvs := [(3, (9, 0), (0, 8902227), (0, 0)), (3, (9, 0), (0, 20325907), (0, 0))]) hseg (by decide +kernel) (by decide +kernel)
  have hinv : rxIRLK_0 S0 ws S := hinv
  obtain ⟨⟨l8, u8⟩, ⟨l9, u9⟩, -⟩ := b_
  obtain ⟨f0, f1, -⟩ := f_
  obtain ⟨e0, ⟨e1, w_⟩⟩ := d_
  subst w_
  have g := rxcRLK_0_2 hP hin I0 hinv l8 u8 l9 u9 f0 f1 e1 e0
  refine ⟨bx_narP_ok (l := []) g.1, bx_nfP_ok h0_ (fvs := []) (by decide +kernel) g.2.1, ?_, ?_⟩
  · show rxIRLK_1 S0 ws S_p (bx_val [(0, 0), (0, 0), (0, 0), (0, 0), (0, 0), (0, 0), (0, 0), (0, 0), (0, 2)] r_p 8)
    rw [bx_val_x (n := 8) (e := (0, 2)) h0_ rfl]
    exact g.2.2.1
  · show rxmRLK_1 S0 ws S_p (bx_val [(0, 0), (0, 0), (0, 0), (0, 0), (0, 0), (0, 0), (0, 0), (0, 0), (0, 2)] r_p 8) < rxmRLK_0 S0 ws S_p
    rw [bx_val_x (n := 8) (e := (0, 2)) h0_ rfl]
    exact g.2.2.2
theorem rxcRLK_0_3 {S0 : Nat → Int → Int} {ws : List Int} {S : Nat → Int → Int} {x8 x9 : Int} (hP : rxPRLK S0 ws) (hin : bx_same rxL (bx_mdl rxCRLK.2.2.1) S0 S) (I0 : bx_Inv rxL S) (hinv : rxIRLK_0 S0 ws S) (l8 : 1 ≤ x8) (u8 : x8 ≤ 1) (l9 : 8902227 ≤ x9) (u9 : x9 ≤ 8902227) (f0 : x9 ≠ 20325907) (e1 : S 480 11 = x8) (e0 : S 480 12 = x9) : (True) ∧ (True) ∧ rxIRLK_1 S0 ws S 1 ∧ rxmRLK_1 S0 ws S 1 < rxmRLK_0 S0 ws S := by
  obtain ⟨hI, hx⟩ := hinv
  obtain ⟨a_, b_, c_, d_⟩ := rxcRLW_0_3 hP hin I0 hI l8 u8 l9 u9 f0 e1 e0
  exact ⟨a_, b_, ⟨c_, trivial⟩, d_⟩
theorem rxgRLK_0_3 {X : (Nat → Int → Int) → Prop} {S0 : Nat → Int → Int} {ws : List Int} (hP : rxPRLK S0 ws) : bx_obC rxL X S0 rxCRLK.2.2.1 (rxIRLK S0 ws) (rxmRLK S0 ws) 0 rxzRLK_0 rxoRLK_0_3 := by
  intro S S_p r r_p hinv hX hin hsm_ hseg
  obtain ⟨I0, I1, h0_, hr_, b_, f_, d_⟩ := bx_cl (evs := [(0, (0, 480), (0, 12), .inr (1, (9, 0))), (0, (0, 480), (0, 11), .inr (0, (8, 0)))]) (fvs := [(3, (9, 0), (0, 20325907), (0, 0))]) hseg (by decide +kernel) (by decide +kernel)
  have hinv : rxIRLK_0 S0 ws S := hinv
  obtain ⟨⟨l8, u8⟩, ⟨l9, u9⟩, -⟩ := b_
  obtain ⟨f0, -⟩ := f_
  obtain ⟨e0, ⟨e1, w_⟩⟩ := d_
  subst w_
  have g := rxcRLK_0_3 hP hin I0 hinv l8 u8 l9 u9 f0 e1 e0
  refine ⟨bx_narP_ok (l := []) g.1, bx_nfP_ok h0_ (fvs := []) (by decide +kernel) g.2.1, ?_, ?_⟩
  · show rxIRLK_1 S0 ws S_p (bx_val [(0, 0), (0, 0), (0, 0), (0, 0), (0, 0), (0, 0), (0, 0), (0, 0), (0, 1)] r_p 8)
    rw [bx_val_x (n := 8) (e := (0, 1)) h0_ rfl]
    exact g.2.2.1
  · show rxmRLK_1 S0 ws S_p (bx_val [(0, 0), (0, 0), (0, 0), (0, 0), (0, 0), (0, 0), (0, 0), (0, 0), (0, 1)] r_p 8) < rxmRLK_0 S0 ws S_p
    rw [bx_val_x (n := 8) (e := (0, 1)) h0_ rfl]
    exact g.2.2.2
theorem rxcRLK_0_4 {S0 : Nat → Int → Int} {ws : List Int} {S : Nat → Int → Int} {x8 x9 : Int} (hP : rxPRLK S0 ws) (hin : bx_same rxL (bx_mdl rxCRLK.2.2.1) S0 S) (I0 : bx_Inv rxL S) (hinv : rxIRLK_0 S0 ws S) (l8 : 1 ≤ x8) (u8 : x8 ≤ 1) (l9 : 20325907 ≤ x9) (u9 : x9 ≤ 20325907) (e1 : S 480 11 = x8) (e0 : S 480 12 = x9) : (True) ∧ (True) ∧ rxIRLK_1 S0 ws S 0 ∧ rxmRLK_1 S0 ws S 0 < rxmRLK_0 S0 ws S := by
  obtain ⟨hI, hx⟩ := hinv
  obtain ⟨a_, b_, c_, d_⟩ := rxcRLW_0_4 hP hin I0 hI l8 u8 l9 u9 e1 e0
  exact ⟨a_, b_, ⟨c_, trivial⟩, d_⟩
theorem rxgRLK_0_4 {X : (Nat → Int → Int) → Prop} {S0 : Nat → Int → Int} {ws : List Int} (hP : rxPRLK S0 ws) : bx_obC rxL X S0 rxCRLK.2.2.1 (rxIRLK S0 ws) (rxmRLK S0 ws) 0 rxzRLK_0 rxoRLK_0_4 := by
  intro S S_p r r_p hinv hX hin hsm_ hseg
  obtain ⟨I0, I1, h0_, hr_, b_, f_, d_⟩ := bx_cl (evs := [(0, (0, 480), (0, 12), .inr (1, (9, 0))), (0, (0, 480), (0, 11), .inr (0, (8, 0)))]) (fvs := []) hseg (by decide +kernel) (by decide +kernel)
  have hinv : rxIRLK_0 S0 ws S := hinv
  obtain ⟨⟨l8, u8⟩, ⟨l9, u9⟩, -⟩ := b_
  obtain ⟨e0, ⟨e1, w_⟩⟩ := d_
  subst w_
  have g := rxcRLK_0_4 hP hin I0 hinv l8 u8 l9 u9 e1 e0
  refine ⟨bx_narP_ok (l := []) g.1, bx_nfP_ok h0_ (fvs := []) (by decide +kernel) g.2.1, ?_, ?_⟩
  · show rxIRLK_1 S0 ws S_p (bx_val [(0, 0), (0, 0), (0, 0), (0, 0), (0, 0), (0, 0), (0, 0), (0, 0), (0, 0)] r_p 8)
    rw [bx_val_x (n := 8) (e := (0, 0)) h0_ rfl]
    exact g.2.2.1
  · show rxmRLK_1 S0 ws S_p (bx_val [(0, 0), (0, 0), (0, 0), (0, 0), (0, 0), (0, 0), (0, 0), (0, 0), (0, 0)] r_p 8) < rxmRLK_0 S0 ws S_p
    rw [bx_val_x (n := 8) (e := (0, 0)) h0_ rfl]
    exact g.2.2.2
theorem rxcRLK_1_0 {S0 : Nat → Int → Int} {ws : List Int} {S : Nat → Int → Int} {which x9 : Int} (hP : rxPRLK S0 ws) (hin : bx_same rxL (bx_mdl rxCRLK.2.2.1) S0 S) (I0 : bx_Inv rxL S) (hinv : rxIRLK_1 S0 ws S which) (l8 : 0 ≤ which) (u8 : which ≤ 2) (l9 : 0 ≤ x9) (u9 : x9 ≤ 11) (f0 : which ≠ (-1)) (e0 : S 480 16 = x9) : (True) ∧ (True) ∧ rxIRLK_2 S0 ws S which 1 ∧ rxmRLK_2 S0 ws S which 1 < rxmRLK_1 S0 ws S which := by
  obtain ⟨hI, hx⟩ := hinv
  obtain ⟨a_, b_, c_, d_⟩ := rxcRLW_1_0 hP hin I0 hI l8 u8 l9 u9 f0 e0
  exact ⟨a_, b_, ⟨c_, trivial⟩, d_⟩
theorem rxgRLK_1_0 {X : (Nat → Int → Int) → Prop} {S0 : Nat → Int → Int} {ws : List Int} (hP : rxPRLK S0 ws) : bx_obC rxL X S0 rxCRLK.2.2.1 (rxIRLK S0 ws) (rxmRLK S0 ws) 1 rxzRLK_1 rxoRLK_1_0 := by
  intro S S_p r r_p hinv hX hin hsm_ hseg
  obtain ⟨I0, I1, h0_, hr_, b_, f_, d_⟩ := bx_cl (evs := [(0, (0, 480), (0, 16), .inr (0, (9, 0)))]) (fvs := [(3, (8, 0), (0, (-1)), (0, 0))]) hseg (by decide +kernel) (by decide +kernel)
  have hinv : rxIRLK_1 S0 ws S (r 8) := hinv
  rw [← hr_ 8 (by decide)] at hinv
  obtain ⟨⟨l8, u8⟩, ⟨l9, u9⟩, -⟩ := b_
  obtain ⟨f0, -⟩ := f_
  obtain ⟨e0, w_⟩ := d_
  subst w_
  have g := rxcRLK_1_0 hP hin I0 hinv l8 u8 l9 u9 f0 e0
  refine ⟨bx_narP_ok (l := []) g.1, bx_nfP_ok h0_ (fvs := []) (by decide +kernel) g.2.1, ?_, ?_⟩
  · show rxIRLK_2 S0 ws S_p (bx_val [(0, 0), (0, 0), (0, 0), (0, 0), (0, 0), (0, 0), (0, 0), (0, 0), (8, 0), (0, 1)] r_p 8) (bx_val [(0, 0), (0, 0), (0, 0), (0, 0), (0, 0), (0, 0), (0, 0), (0, 0), (8, 0), (0, 1)] r_p 9)
    rw [bx_val_x (n := 8) (e := (8, 0)) h0_ rfl, bx_val_x (n := 9) (e := (0, 1)) h0_ rfl]
    exact g.2.2.1
  · show rxmRLK_2 S0 ws S_p (bx_val [(0, 0), (0, 0), (0, 0), (0, 0), (0, 0), (0, 0), (0, 0), (0, 0), (8, 0), (0, 1)] r_p 8) (bx_val [(0, 0), (0, 0), (0, 0), (0, 0), (0, 0), (0, 0), (0, 0), (0, 0), (8, 0), (0, 1)] r_p 9) < rxmRLK_1 S0 ws S_p (r 8)
    rw [bx_val_x (n := 8) (e := (8, 0)) h0_ rfl, bx_val_x (n := 9) (e := (0, 1)) h0_ rfl, ← hr_ 8 (by decide)]
    exact g.2.2.2
theorem rxcRLK_1_1 {S0 : Nat → Int → Int} {ws : List Int} {S : Nat → Int → Int} {which x9 : Int} (hP : rxPRLK S0 ws) (hin : bx_same rxL (bx_mdl rxCRLK.2.2.1) S0 S) (I0 : bx_Inv rxL S) (hinv : rxIRLK_1 S0 ws S which) (l8 : 0 ≤ which) (u8 : which ≤ 2) (l9 : 12 ≤ x9) (u9 : x9 ≤ 12) (f0 : which ≠ (-1)) (e0 : S 480 16 = x9) : (True) ∧ (True) ∧ rxIRLK_2 S0 ws S which 0 ∧ rxmRLK_2 S0 ws S which 0 < rxmRLK_1 S0 ws S which := by
  obtain ⟨hI, hx⟩ := hinv
  obtain ⟨a_, b_, c_, d_⟩ := rxcRLW_1_1 hP hin I0 hI l8 u8 l9 u9 f0 e0
  exact ⟨a_, b_, ⟨c_, trivial⟩, d_⟩
theorem rxgRLK_1_1 {X : (Nat → Int → Int) → Prop} {S0 : Nat → Int → Int} {ws : List Int} (hP : rxPRLK S0 ws) : bx_obC rxL X S0 rxCRLK.2.2.1 (rxIRLK S0 ws) (rxmRLK S0 ws) 1 rxzRLK_1 rxoRLK_1_1 := by
  intro S S_p r r_p hinv hX hin hsm_ hseg
  obtain ⟨I0, I1, h0_, hr_, b_, f_, d_⟩ := bx_cl (evs := [(0, (0, 480), (0, 16), .inr (0, (9, 0)))]) (fvs := [(3, (8, 0), (0, (-1)), (0, 0))]) hseg (by decide +kernel) (by decide +kernel)
  have hinv : rxIRLK_1 S0 ws S (r 8) := hinv
  rw [← hr_ 8 (by decide)] at hinv
  obtain ⟨⟨l8, u8⟩, ⟨l9, u9⟩, -⟩ := b_
  obtain ⟨f0, -⟩ := f_
  obtain ⟨e0, w_⟩ := d_
  subst w_
  have g := rxcRLK_1_1 hP hin I0 hinv l8 u8 l9 u9 f0 e0
  refine ⟨bx_narP_ok (l := []) g.1, bx_nfP_ok h0_ (fvs := []) (by decide +kernel) g.2.1, ?_, ?_⟩
  · show rxIRLK_2 S0 ws S_p (bx_val [(0, 0), (0, 0), (0, 0), (0, 0), (0, 0), (0, 0), (0, 0), (0, 0), (8, 0), (0, 0)] r_p 8) (bx_val [(0, 0), (0, 0), (0, 0), (0, 0), (0, 0), (0, 0), (0, 0), (0, 0), (8, 0), (0, 0)] r_p 9)
    rw [bx_val_x (n := 8) (e := (8, 0)) h0_ rfl, bx_val_x (n := 9) (e := (0, 0)) h0_ rfl]
    exact g.2.2.1
  · show rxmRLK_2 S0 ws S_p (bx_val [(0, 0), (0, 0), (0, 0), (0, 0), (0, 0), (0, 0), (0, 0), (0, 0), (8, 0), (0, 0)] r_p 8) (bx_val [(0, 0), (0, 0), (0, 0), (0, 0), (0, 0), (0, 0), (0, 0), (0, 0), (8, 0), (0, 0)] r_p 9) < rxmRLK_1 S0 ws S_p (r 8)
    rw [bx_val_x (n := 8) (e := (8, 0)) h0_ rfl, bx_val_x (n := 9) (e := (0, 0)) h0_ rfl, ← hr_ 8 (by decide)]
    exact g.2.2.2
theorem rxcRLK_1_2 {S0 : Nat → Int → Int} {ws : List Int} {S : Nat → Int → Int} {which : Int} (hP : rxPRLK S0 ws) (hin : bx_same rxL (bx_mdl rxCRLK.2.2.1) S0 S) (I0 : bx_Inv rxL S) (hinv : rxIRLK_1 S0 ws S which) (l8 : (-1) ≤ which) (u8 : which ≤ (-1)) : (True) ∧ (True) ∧ rxIRLK_2 S0 ws S which 0 ∧ rxmRLK_2 S0 ws S which 0 < rxmRLK_1 S0 ws S which := by
  obtain ⟨hI, hx⟩ := hinv
  obtain ⟨a_, b_, c_, d_⟩ := rxcRLW_1_2 hP hin I0 hI l8 u8
  exact ⟨a_, b_, ⟨c_, trivial⟩, d_⟩
theorem rxgRLK_1_2 {X : (Nat → Int → Int) → Prop} {S0 : Nat → Int → Int} {ws : List Int} (hP : rxPRLK S0 ws) : bx_obC rxL X S0 rxCRLK.2.2.1 (rxIRLK S0 ws) (rxmRLK S0 ws) 1 rxzRLK_1 rxoRLK_1_2 := by
  intro S S_p r r_p hinv hX hin hsm_ hseg
  obtain ⟨I0, I1, h0_, hr_, b_, f_, d_⟩ := bx_cl (evs := []) (fvs := []) hseg (by decide +kernel) (by decide +kernel)
  have hinv : rxIRLK_1 S0 ws S (r 8) := hinv
  rw [← hr_ 8 (by decide)] at hinv
  obtain ⟨⟨l8, u8⟩, -⟩ := b_
  have w_ := d_
  subst w_
  have g := rxcRLK_1_2 hP hin I0 hinv l8 u8
  refine ⟨bx_narP_ok (l := []) g.1, bx_nfP_ok h0_ (fvs := []) (by decide +kernel) g.2.1, ?_, ?_⟩
  · show rxIRLK_2 S0 ws S_p (bx_val [(0, 0), (0, 0), (0, 0), (0, 0), (0, 0), (0, 0), (0, 0), (0, 0), (8, 0), (0, 0)] r_p 8) (bx_val [(0, 0), (0, 0), (0, 0), (0, 0), (0, 0), (0, 0), (0, 0), (0, 0), (8, 0), (0, 0)] r_p 9)
    rw [bx_val_x (n := 8) (e := (8, 0)) h0_ rfl, bx_val_x (n := 9) (e := (0, 0)) h0_ rfl]
    exact g.2.2.1
  · show rxmRLK_2 S0 ws S_p (bx_val [(0, 0), (0, 0), (0, 0), (0, 0), (0, 0), (0, 0), (0, 0), (0, 0), (8, 0), (0, 0)] r_p 8) (bx_val [(0, 0), (0, 0), (0, 0), (0, 0), (0, 0), (0, 0), (0, 0), (0, 0), (8, 0), (0, 0)] r_p 9) < rxmRLK_1 S0 ws S_p (r 8)
    rw [bx_val_x (n := 8) (e := (8, 0)) h0_ rfl, bx_val_x (n := 9) (e := (0, 0)) h0_ rfl, ← hr_ 8 (by decide)]
    exact g.2.2.2
theorem rxcRLK_3_0 {S0 : Nat → Int → Int} {ws : List Int} {S : Nat → Int → Int} {which is x10 x11 : Int} (hP : rxPRLK S0 ws) (hin : bx_same rxL (bx_mdl rxCRLK.2.2.1) S0 S) (I0 : bx_Inv rxL S) (hinv : rxIRLK_3 S0 ws S which is) (l8 : (-1) ≤ which) (u8 : which ≤ 2) (l9 : 0 ≤ is) (u9 : is ≤ 1) (l10 : 0 ≤ x10) (u10 : x10 ≤ 0) (l11 : 0 ≤ x11) (u11 : x11 ≤ 12) (e1 : S 480 14 = x10) (e0 : S 480 16 = x11) : ((0 ≤ which ∧ which ≤ 2) ∧ (0 ≤ x11 ∧ x11 ≤ 11) ∧ True) ∧ (True) ∧ rxIRLK_4 S0 ws S which x11 ∧ rxmRLK_4 S0 ws S which x11 < rxmRLK_3 S0 ws S which is := by
  obtain ⟨hI, hx⟩ := hinv
  obtain ⟨a_, b_, c_, d_⟩ := rxcRLW_3_0 hP hin I0 hI l8 u8 l9 u9 l10 u10 l11 u11 e1 e0
  exact ⟨a_, b_, ⟨c_, hx⟩, d_⟩
theorem rxgRLK_3_0 {X : (Nat → Int → Int) → Prop} {S0 : Nat → Int → Int} {ws : List Int} (hP : rxPRLK S0 ws) : bx_obC rxL X S0 rxCRLK.2.2.1 (rxIRLK S0 ws) (rxmRLK S0 ws) 3 rxzRLK_3 rxoRLK_3_0 := by
  intro S S_p r r_p hinv hX hin hsm_ hseg
  obtain ⟨I0, I1, h0_, hr_, b_, f_, d_⟩ := bx_cl (evs := [(0, (0, 480), (0, 16), .inr (0, (11, 0))), (0, (0, 480), (0, 14), .inr (0, (10, 0)))]) (fvs := []) hseg (by decide +kernel) (by decide +kernel)
  have hinv : rxIRLK_3 S0 ws S (r 8) (r 9) := hinv
  rw [← hr_ 8 (by decide), ← hr_ 9 (by decide)] at hinv
  obtain ⟨⟨l8, u8⟩, ⟨l9, u9⟩, ⟨l10, u10⟩, ⟨l11, u11⟩, -⟩ := b_
  obtain ⟨e0, ⟨e1, w_⟩⟩ := d_
  subst w_
  have g := rxcRLK_3_0 hP hin I0 hinv l8 u8 l9 u9 l10 u10 l11 u11 e1 e0
  refine ⟨bx_narP_ok (l := [(8, 0, 2), (11, 0, 11)]) g.1, bx_nfP_ok h0_ (fvs := []) (by decide +kernel) g.2.1, ?_, ?_⟩
  · show rxIRLK_4 S0 ws S_p (bx_val [(0, 0), (0, 0), (0, 0), (0, 0), (0, 0), (0, 0), (0, 0), (0, 0), (8, 0), (11, 0)] r_p 8) (bx_val [(0, 0), (0, 0), (0, 0), (0, 0), (0, 0), (0, 0), (0, 0), (0, 0), (8, 0), (11, 0)] r_p 9)
    rw [bx_val_x (n := 8) (e := (8, 0)) h0_ rfl, bx_val_x (n := 9) (e := (11, 0)) h0_ rfl]
    exact g.2.2.1
  · show rxmRLK_4 S0 ws S_p (bx_val [(0, 0), (0, 0), (0, 0), (0, 0), (0, 0), (0, 0), (0, 0), (0, 0), (8, 0), (11, 0)] r_p 8) (bx_val [(0, 0), (0, 0), (0, 0), (0, 0), (0, 0), (0, 0), (0, 0), (0, 0), (8, 0), (11, 0)] r_p 9) < rxmRLK_3 S0 ws S_p (r 8) (r 9)
    rw [bx_val_x (n := 8) (e := (8, 0)) h0_ rfl, bx_val_x (n := 9) (e := (11, 0)) h0_ rfl, ← hr_ 8 (by decide), ← hr_ 9 (by decide)]
    exact g.2.2.2
theorem rxdRLK_3_0 {S0 : Nat → Int → Int} {ws : List Int} {S : Nat → Int → Int} {which is x10 : Int} (hP : rxPRLK S0 ws) (hin : bx_same rxL (bx_mdl rxCRLK.2.2.1) S0 S) (hin2 : bx_same rxL (bx_mdl rxCRLK.2.2.1) S S) (I0 : bx_Inv rxL S) (I1 : bx_Inv rxL S) (hinv : rxIRLK_3 S0 ws S which is) (l8 : (-1) ≤ which) (u8 : which ≤ 2) (l9 : 0 ≤ is) (u9 : is ≤ 1) (l10 : 1 ≤ x10) (u10 : x10 ≤ 1) (f0 : x10 ≠ 0) (e0 : S 480 14 = x10) : (True) ∧ rxPSRLK S0 ws S none := by
  obtain ⟨hI, hx⟩ := hinv
  obtain ⟨a_, c_⟩ := rxdRLW_3_0 hP hin hin2 I0 I1 hI l8 u8 l9 u9 l10 u10 f0 e0
  exact ⟨a_, rfl, c_, (by
    intro c hD hW z
    exact absurd z (by omega))⟩
theorem rxfRLK_3_0 {X : (Nat → Int → Int) → Prop} {S0 : Nat → Int → Int} {ws : List Int} (hP : rxPRLK S0 ws) : bx_obE rxL X S0 rxCRLK.2.2.1 (rxIRLK S0 ws) (rxPSRLK S0 ws) 3 rxzRLK_3 rxeRLK_3_0 := by
  intro S S_p r r_p hinv hX hin hsm_ hseg
  obtain ⟨I0, I1, h0_, hr_, b_, f_, d_⟩ := bx_cl (evs := [(0, (0, 480), (0, 14), .inr (0, (10, 0)))]) (fvs := [(3, (10, 0), (0, 0), (0, 0))]) hseg (by decide +kernel) (by decide +kernel)
  have hinv : rxIRLK_3 S0 ws S (r 8) (r 9) := hinv
  rw [← hr_ 8 (by decide), ← hr_ 9 (by decide)] at hinv
  obtain ⟨⟨l8, u8⟩, ⟨l9, u9⟩, ⟨l10, u10⟩, -⟩ := b_
  obtain ⟨f0, -⟩ := f_
  obtain ⟨e0, w_⟩ := d_
  subst w_
  have g := rxdRLK_3_0 hP hin hsm_ I0 I1 hinv l8 u8 l9 u9 l10 u10 f0 e0
  refine ⟨bx_narP_ok (l := []) g.1, ?_⟩
  exact g.2
theorem rxcRLK_4_0 {S0 : Nat → Int → Int} {ws : List Int} {S : Nat → Int → Int} {which nc x10 : Int} (hP : rxPRLK S0 ws) (hin : bx_same rxL (bx_mdl rxCRLK.2.2.1) S0 S) (I0 : bx_Inv rxL S) (hinv : rxIRLK_4 S0 ws S which nc) (l8 : 0 ≤ which) (u8 : which ≤ 2) (l9 : 0 ≤ nc) (u9 : nc ≤ 11) (l10 : 0 ≤ x10) (u10 : x10 ≤ 88) (f0 : x10 = 8 * (nc)) : (True) ∧ (True) ∧ rxIRLK_5 S0 ws S which x10 0 ∧ rxmRLK_5 S0 ws S which x10 0 < rxmRLK_4 S0 ws S which nc := by
  obtain ⟨hI, hx⟩ := hinv
  obtain ⟨a_, b_, c_, d_⟩ := rxcRLW_4_0 hP hin I0 hI l8 u8 l9 u9 l10 u10 f0
  exact ⟨a_, b_, ⟨c_, hx⟩, d_⟩
theorem rxgRLK_4_0 {X : (Nat → Int → Int) → Prop} {S0 : Nat → Int → Int} {ws : List Int} (hP : rxPRLK S0 ws) : bx_obC rxL X S0 rxCRLK.2.2.1 (rxIRLK S0 ws) (rxmRLK S0 ws) 4 rxzRLK_4 rxoRLK_4_0 := by
  intro S S_p r r_p hinv hX hin hsm_ hseg
  obtain ⟨I0, I1, h0_, hr_, b_, f_, d_⟩ := bx_cl (evs := []) (fvs := [(4, (10, 0), (9, 0), (0, 8))]) hseg (by decide +kernel) (by decide +kernel)
  have hinv : rxIRLK_4 S0 ws S (r 8) (r 9) := hinv
  rw [← hr_ 8 (by decide), ← hr_ 9 (by decide)] at hinv
  obtain ⟨⟨l8, u8⟩, ⟨l9, u9⟩, ⟨l10, u10⟩, -⟩ := b_
  obtain ⟨f0, -⟩ := f_
  have w_ := d_
  subst w_
  have g := rxcRLK_4_0 hP hin I0 hinv l8 u8 l9 u9 l10 u10 f0
  refine ⟨bx_narP_ok (l := []) g.1, bx_nfP_ok h0_ (fvs := []) (by decide +kernel) g.2.1, ?_, ?_⟩
  · show rxIRLK_5 S0 ws S_p (bx_val [(0, 0), (0, 0), (0, 0), (0, 0), (0, 0), (0, 0), (0, 0), (0, 0), (8, 0), (10, 0), (0, 0)] r_p 8) (bx_val [(0, 0), (0, 0), (0, 0), (0, 0), (0, 0), (0, 0), (0, 0), (0, 0), (8, 0), (10, 0), (0, 0)] r_p 9) (bx_val [(0, 0), (0, 0), (0, 0), (0, 0), (0, 0), (0, 0), (0, 0), (0, 0), (8, 0), (10, 0), (0, 0)] r_p 10)
    rw [bx_val_x (n := 8) (e := (8, 0)) h0_ rfl, bx_val_x (n := 9) (e := (10, 0)) h0_ rfl, bx_val_x (n := 10) (e := (0, 0)) h0_ rfl]
    exact g.2.2.1
  · show rxmRLK_5 S0 ws S_p (bx_val [(0, 0), (0, 0), (0, 0), (0, 0), (0, 0), (0, 0), (0, 0), (0, 0), (8, 0), (10, 0), (0, 0)] r_p 8) (bx_val [(0, 0), (0, 0), (0, 0), (0, 0), (0, 0), (0, 0), (0, 0), (0, 0), (8, 0), (10, 0), (0, 0)] r_p 9) (bx_val [(0, 0), (0, 0), (0, 0), (0, 0), (0, 0), (0, 0), (0, 0), (0, 0), (8, 0), (10, 0), (0, 0)] r_p 10) < rxmRLK_4 S0 ws S_p (r 8) (r 9)
    rw [bx_val_x (n := 8) (e := (8, 0)) h0_ rfl, bx_val_x (n := 9) (e := (10, 0)) h0_ rfl, bx_val_x (n := 10) (e := (0, 0)) h0_ rfl, ← hr_ 8 (by decide), ← hr_ 9 (by decide)]
    exact g.2.2.2
theorem rxcRLK_5_0 {S0 : Nat → Int → Int} {ws : List Int} {S : Nat → Int → Int} {which base i x11 : Int} (hP : rxPRLK S0 ws) (hin : bx_same rxL (bx_mdl rxCRLK.2.2.1) S0 S) (I0 : bx_Inv rxL S) (hinv : rxIRLK_5 S0 ws S which base i) (l8 : 0 ≤ which) (u8 : which ≤ 2) (l9 : 0 ≤ base) (u9 : base ≤ 88) (l10 : 0 ≤ i) (u10 : i ≤ 7) (l11 : 0 ≤ x11) (u11 : x11 ≤ 95) (f0 : x11 = base + i) : (True) ∧ (True) ∧ rxIRLK_6 S0 ws S which base i x11 0 ∧ rxmRLK_6 S0 ws S which base i x11 0 < rxmRLK_5 S0 ws S which base i := by
  obtain ⟨hI, hx⟩ := hinv
  obtain ⟨a_, b_, c_, d_⟩ := rxcRLW_5_0 hP hin I0 hI l8 u8 l9 u9 l10 u10 l11 u11 f0
  exact ⟨a_, b_, ⟨c_, hx⟩, d_⟩
theorem rxgRLK_5_0 {X : (Nat → Int → Int) → Prop} {S0 : Nat → Int → Int} {ws : List Int} (hP : rxPRLK S0 ws) : bx_obC rxL X S0 rxCRLK.2.2.1 (rxIRLK S0 ws) (rxmRLK S0 ws) 5 rxzRLK_5 rxoRLK_5_0 := by
  intro S S_p r r_p hinv hX hin hsm_ hseg
  obtain ⟨I0, I1, h0_, hr_, b_, f_, d_⟩ := bx_cl (evs := []) (fvs := [(5, (11, 0), (9, 0), (10, 0))]) hseg (by decide +kernel) (by decide +kernel)
  have hinv : rxIRLK_5 S0 ws S (r 8) (r 9) (r 10) := hinv
  rw [← hr_ 8 (by decide), ← hr_ 9 (by decide), ← hr_ 10 (by decide)] at hinv
  obtain ⟨⟨l8, u8⟩, ⟨l9, u9⟩, ⟨l10, u10⟩, ⟨l11, u11⟩, -⟩ := b_
  obtain ⟨f0, -⟩ := f_
  have w_ := d_
  subst w_
  have g := rxcRLK_5_0 hP hin I0 hinv l8 u8 l9 u9 l10 u10 l11 u11 f0
  refine ⟨bx_narP_ok (l := []) g.1, bx_nfP_ok h0_ (fvs := []) (by decide +kernel) g.2.1, ?_, ?_⟩
  · show rxIRLK_6 S0 ws S_p (bx_val [(0, 0), (0, 0), (0, 0), (0, 0), (0, 0), (0, 0), (0, 0), (0, 0), (8, 0), (9, 0), (10, 0), (11, 0), (0, 0)] r_p 8) (bx_val [(0, 0), (0, 0), (0, 0), (0, 0), (0, 0), (0, 0), (0, 0), (0, 0), (8, 0), (9, 0), (10, 0), (11, 0), (0, 0)] r_p 9) (bx_val [(0, 0), (0, 0), (0, 0), (0, 0), (0, 0), (0, 0), (0, 0), (0, 0), (8, 0), (9, 0), (10, 0), (11, 0), (0, 0)] r_p 10) (bx_val [(0, 0), (0, 0), (0, 0), (0, 0), (0, 0), (0, 0), (0, 0), (0, 0), (8, 0), (9, 0), (10, 0), (11, 0), (0, 0)] r_p 11) (bx_val [(0, 0), (0, 0), (0, 0), (0, 0), (0, 0), (0, 0), (0, 0), (0, 0), (8, 0), (9, 0), (10, 0), (11, 0), (0, 0)] r_p 12)
    rw [bx_val_x (n := 8) (e := (8, 0)) h0_ rfl, bx_val_x (n := 9) (e := (9, 0)) h0_ rfl, bx_val_x (n := 10) (e := (10, 0)) h0_ rfl, bx_val_x (n := 11) (e := (11, 0)) h0_ rfl, bx_val_x (n := 12) (e := (0, 0)) h0_ rfl]
    exact g.2.2.1
  · show rxmRLK_6 S0 ws S_p (bx_val [(0, 0), (0, 0), (0, 0), (0, 0), (0, 0), (0, 0), (0, 0), (0, 0), (8, 0), (9, 0), (10, 0), (11, 0), (0, 0)] r_p 8) (bx_val [(0, 0), (0, 0), (0, 0), (0, 0), (0, 0), (0, 0), (0, 0), (0, 0), (8, 0), (9, 0), (10, 0), (11, 0), (0, 0)] r_p 9) (bx_val [(0, 0), (0, 0), (0, 0), (0, 0), (0, 0), (0, 0), (0, 0), (0, 0), (8, 0), (9, 0), (10, 0), (11, 0), (0, 0)] r_p 10) (bx_val [(0, 0), (0, 0), (0, 0), (0, 0), (0, 0), (0, 0), (0, 0), (0, 0), (8, 0), (9, 0), (10, 0), (11, 0), (0, 0)] r_p 11) (bx_val [(0, 0), (0, 0), (0, 0), (0, 0), (0, 0), (0, 0), (0, 0), (0, 0), (8, 0), (9, 0), (10, 0), (11, 0), (0, 0)] r_p 12) < rxmRLK_5 S0 ws S_p (r 8) (r 9) (r 10)
    rw [bx_val_x (n := 8) (e := (8, 0)) h0_ rfl, bx_val_x (n := 9) (e := (9, 0)) h0_ rfl, bx_val_x (n := 10) (e := (10, 0)) h0_ rfl, bx_val_x (n := 11) (e := (11, 0)) h0_ rfl, bx_val_x (n := 12) (e := (0, 0)) h0_ rfl, ← hr_ 8 (by decide), ← hr_ 9 (by decide), ← hr_ 10 (by decide)]
    exact g.2.2.2
theorem rxcRLK_5_1 {S0 : Nat → Int → Int} {ws : List Int} {S : Nat → Int → Int} {which base i : Int} (hP : rxPRLK S0 ws) (hin : bx_same rxL (bx_mdl rxCRLK.2.2.1) S0 S) (I0 : bx_Inv rxL S) (hinv : rxIRLK_5 S0 ws S which base i) (l8 : 0 ≤ which) (u8 : which ≤ 2) (l9 : 0 ≤ base) (u9 : base ≤ 88) (l10 : 8 ≤ i) (u10 : i ≤ 8) : (True) ∧ (True) ∧ rxIRLK_8 S0 ws S which base base which ∧ rxmRLK_8 S0 ws S which base base which < rxmRLK_5 S0 ws S which base i := by
  obtain ⟨hI, hx⟩ := hinv
  obtain ⟨a_, b_, c_, d_⟩ := rxcRLW_5_1 hP hin I0 hI l8 u8 l9 u9 l10 u10
  exact ⟨a_, b_, ⟨c_, (by
    intro c hD hW z
    obtain ⟨h1, h2⟩ := hx c hD hW z
    exact ⟨h1, h2, rfl⟩)⟩, d_⟩
theorem rxgRLK_5_1 {X : (Nat → Int → Int) → Prop} {S0 : Nat → Int → Int} {ws : List Int} (hP : rxPRLK S0 ws) : bx_obC rxL X S0 rxCRLK.2.2.1 (rxIRLK S0 ws) (rxmRLK S0 ws) 5 rxzRLK_5 rxoRLK_5_1 := by
  intro S S_p r r_p hinv hX hin hsm_ hseg
  obtain ⟨I0, I1, h0_, hr_, b_, f_, d_⟩ := bx_cl (evs := []) (fvs := []) hseg (by decide +kernel) (by decide +kernel)
  have hinv : rxIRLK_5 S0 ws S (r 8) (r 9) (r 10) := hinv
  rw [← hr_ 8 (by decide), ← hr_ 9 (by decide), ← hr_ 10 (by decide)] at hinv
  obtain ⟨⟨l8, u8⟩, ⟨l9, u9⟩, ⟨l10, u10⟩, -⟩ := b_
  have w_ := d_
  subst w_
  have g := rxcRLK_5_1 hP hin I0 hinv l8 u8 l9 u9 l10 u10
  refine ⟨bx_narP_ok (l := []) g.1, bx_nfP_ok h0_ (fvs := []) (by decide +kernel) g.2.1, ?_, ?_⟩
  · show rxIRLK_8 S0 ws S_p (bx_val [(0, 0), (0, 0), (0, 0), (0, 0), (0, 0), (0, 0), (0, 0), (0, 0), (8, 0), (9, 0), (9, 0), (8, 0)] r_p 8) (bx_val [(0, 0), (0, 0), (0, 0), (0, 0), (0, 0), (0, 0), (0, 0), (0, 0), (8, 0), (9, 0), (9, 0), (8, 0)] r_p 9) (bx_val [(0, 0), (0, 0), (0, 0), (0, 0), (0, 0), (0, 0), (0, 0), (0, 0), (8, 0), (9, 0), (9, 0), (8, 0)] r_p 10) (bx_val [(0, 0), (0, 0), (0, 0), (0, 0), (0, 0), (0, 0), (0, 0), (0, 0), (8, 0), (9, 0), (9, 0), (8, 0)] r_p 11)
    rw [bx_val_x (n := 8) (e := (8, 0)) h0_ rfl, bx_val_x (n := 9) (e := (9, 0)) h0_ rfl, bx_val_x (n := 10) (e := (9, 0)) h0_ rfl, bx_val_x (n := 11) (e := (8, 0)) h0_ rfl]
    exact g.2.2.1
  · show rxmRLK_8 S0 ws S_p (bx_val [(0, 0), (0, 0), (0, 0), (0, 0), (0, 0), (0, 0), (0, 0), (0, 0), (8, 0), (9, 0), (9, 0), (8, 0)] r_p 8) (bx_val [(0, 0), (0, 0), (0, 0), (0, 0), (0, 0), (0, 0), (0, 0), (0, 0), (8, 0), (9, 0), (9, 0), (8, 0)] r_p 9) (bx_val [(0, 0), (0, 0), (0, 0), (0, 0), (0, 0), (0, 0), (0, 0), (0, 0), (8, 0), (9, 0), (9, 0), (8, 0)] r_p 10) (bx_val [(0, 0), (0, 0), (0, 0), (0, 0), (0, 0), (0, 0), (0, 0), (0, 0), (8, 0), (9, 0), (9, 0), (8, 0)] r_p 11) < rxmRLK_5 S0 ws S_p (r 8) (r 9) (r 10)
    rw [bx_val_x (n := 8) (e := (8, 0)) h0_ rfl, bx_val_x (n := 9) (e := (9, 0)) h0_ rfl, bx_val_x (n := 10) (e := (9, 0)) h0_ rfl, bx_val_x (n := 11) (e := (8, 0)) h0_ rfl, ← hr_ 8 (by decide), ← hr_ 9 (by decide), ← hr_ 10 (by decide)]
    exact g.2.2.2
theorem rxcRLK_7_0 {S0 : Nat → Int → Int} {ws : List Int} {S : Nat → Int → Int} {which base i a zz : Int} (hP : rxPRLK S0 ws) (hin : bx_same rxL (bx_mdl rxCRLK.2.2.1) S0 S) (I0 : bx_Inv rxL S) (hinv : rxIRLK_7 S0 ws S which base i a zz) (l8 : 0 ≤ which) (u8 : which ≤ 2) (l9 : 0 ≤ base) (u9 : base ≤ 88) (l10 : 0 ≤ i) (u10 : i ≤ 7) (l11 : 0 ≤ a) (u11 : a ≤ 95) (l12 : 0 ≤ zz) (u12 : zz ≤ 0) : (True) ∧ (True) ∧ rxIRLK_5 S0 ws S which base (i + 1) ∧ rxmRLK_5 S0 ws S which base (i + 1) < rxmRLK_7 S0 ws S which base i a zz := by
  obtain ⟨hI, hx⟩ := hinv
  obtain ⟨a_, b_, c_, d_⟩ := rxcRLW_7_0 hP hin I0 hI l8 u8 l9 u9 l10 u10 l11 u11 l12 u12
  exact ⟨a_, b_, ⟨c_, hx⟩, d_⟩
theorem rxgRLK_7_0 {X : (Nat → Int → Int) → Prop} {S0 : Nat → Int → Int} {ws : List Int} (hP : rxPRLK S0 ws) : bx_obC rxL X S0 rxCRLK.2.2.1 (rxIRLK S0 ws) (rxmRLK S0 ws) 7 rxzRLK_7 rxoRLK_7_0 := by
  intro S S_p r r_p hinv hX hin hsm_ hseg
  obtain ⟨I0, I1, h0_, hr_, b_, f_, d_⟩ := bx_cl (evs := []) (fvs := []) hseg (by decide +kernel) (by decide +kernel)
  have hinv : rxIRLK_7 S0 ws S (r 8) (r 9) (r 10) (r 11) (r 12) := hinv
  rw [← hr_ 8 (by decide), ← hr_ 9 (by decide), ← hr_ 10 (by decide), ← hr_ 11 (by decide), ← hr_ 12 (by decide)] at hinv
  obtain ⟨⟨l8, u8⟩, ⟨l9, u9⟩, ⟨l10, u10⟩, ⟨l11, u11⟩, ⟨l12, u12⟩, -⟩ := b_
  have w_ := d_
  subst w_
  have g := rxcRLK_7_0 hP hin I0 hinv l8 u8 l9 u9 l10 u10 l11 u11 l12 u12
  refine ⟨bx_narP_ok (l := []) g.1, bx_nfP_ok h0_ (fvs := []) (by decide +kernel) g.2.1, ?_, ?_⟩
  · show rxIRLK_5 S0 ws S_p (bx_val [(0, 0), (0, 0), (0, 0), (0, 0), (0, 0), (0, 0), (0, 0), (0, 0), (8, 0), (9, 0), (10, 1)] r_p 8) (bx_val [(0, 0), (0, 0), (0, 0), (0, 0), (0, 0), (0, 0), (0, 0), (0, 0), (8, 0), (9, 0), (10, 1)] r_p 9) (bx_val [(0, 0), (0, 0), (0, 0), (0, 0), (0, 0), (0, 0), (0, 0), (0, 0), (8, 0), (9, 0), (10, 1)] r_p 10)
    rw [bx_val_x (n := 8) (e := (8, 0)) h0_ rfl, bx_val_x (n := 9) (e := (9, 0)) h0_ rfl, bx_val_x (n := 10) (e := (10, 1)) h0_ rfl]
    exact g.2.2.1
  · show rxmRLK_5 S0 ws S_p (bx_val [(0, 0), (0, 0), (0, 0), (0, 0), (0, 0), (0, 0), (0, 0), (0, 0), (8, 0), (9, 0), (10, 1)] r_p 8) (bx_val [(0, 0), (0, 0), (0, 0), (0, 0), (0, 0), (0, 0), (0, 0), (0, 0), (8, 0), (9, 0), (10, 1)] r_p 9) (bx_val [(0, 0), (0, 0), (0, 0), (0, 0), (0, 0), (0, 0), (0, 0), (0, 0), (8, 0), (9, 0), (10, 1)] r_p 10) < rxmRLK_7 S0 ws S_p (r 8) (r 9) (r 10) (r 11) (r 12)
    rw [bx_val_x (n := 8) (e := (8, 0)) h0_ rfl, bx_val_x (n := 9) (e := (9, 0)) h0_ rfl, bx_val_x (n := 10) (e := (10, 1)) h0_ rfl, ← hr_ 8 (by decide), ← hr_ 9 (by decide), ← hr_ 10 (by decide), ← hr_ 11 (by decide), ← hr_ 12 (by decide)]
    exact g.2.2.2
theorem rxcRLK_9_0 {S0 : Nat → Int → Int} {ws : List Int} {S : Nat → Int → Int} {which base a v x12 : Int} (hP : rxPRLK S0 ws) (hin : bx_same rxL (bx_mdl rxCRLK.2.2.1) S0 S) (I0 : bx_Inv rxL S) (hinv : rxIRLK_9 S0 ws S which base a v) (l8 : 0 ≤ which) (u8 : which ≤ 2) (l9 : 0 ≤ base) (u9 : base ≤ 88) (l10 : 0 ≤ a) (u10 : a ≤ 88) (l11 : 0 ≤ v) (u11 : v ≤ 2) (l12 : 0 ≤ x12) (u12 : x12 ≤ 12) (e0 : S 480 16 = x12) : ((0 ≤ x12 ∧ x12 ≤ 11) ∧ True) ∧ (True) ∧ rxIRLK_10 S0 ws S which base x12 ∧ rxmRLK_10 S0 ws S which base x12 < rxmRLK_9 S0 ws S which base a v := by
  obtain ⟨hI, hx⟩ := hinv
  obtain ⟨a_, b_, c_, d_⟩ := rxcRLW_9_0 hP hin I0 hI l8 u8 l9 u9 l10 u10 l11 u11 l12 u12 e0
  exact ⟨a_, b_, ⟨c_, hx⟩, d_⟩
theorem rxgRLK_9_0 {X : (Nat → Int → Int) → Prop} {S0 : Nat → Int → Int} {ws : List Int} (hP : rxPRLK S0 ws) : bx_obC rxL X S0 rxCRLK.2.2.1 (rxIRLK S0 ws) (rxmRLK S0 ws) 9 rxzRLK_9 rxoRLK_9_0 := by
  intro S S_p r r_p hinv hX hin hsm_ hseg
  obtain ⟨I0, I1, h0_, hr_, b_, f_, d_⟩ := bx_cl (evs := [(0, (0, 480), (0, 16), .inr (0, (12, 0)))]) (fvs := []) hseg (by decide +kernel) (by decide +kernel)
  have hinv : rxIRLK_9 S0 ws S (r 8) (r 9) (r 10) (r 11) := hinv
  rw [← hr_ 8 (by decide), ← hr_ 9 (by decide), ← hr_ 10 (by decide), ← hr_ 11 (by decide)] at hinv
  obtain ⟨⟨l8, u8⟩, ⟨l9, u9⟩, ⟨l10, u10⟩, ⟨l11, u11⟩, ⟨l12, u12⟩, -⟩ := b_
  obtain ⟨e0, w_⟩ := d_
  subst w_
  have g := rxcRLK_9_0 hP hin I0 hinv l8 u8 l9 u9 l10 u10 l11 u11 l12 u12 e0
  refine ⟨bx_narP_ok (l := [(12, 0, 11)]) g.1, bx_nfP_ok h0_ (fvs := []) (by decide +kernel) g.2.1, ?_, ?_⟩
  · show rxIRLK_10 S0 ws S_p (bx_val [(0, 0), (0, 0), (0, 0), (0, 0), (0, 0), (0, 0), (0, 0), (0, 0), (8, 0), (9, 0), (12, 0)] r_p 8) (bx_val [(0, 0), (0, 0), (0, 0), (0, 0), (0, 0), (0, 0), (0, 0), (0, 0), (8, 0), (9, 0), (12, 0)] r_p 9) (bx_val [(0, 0), (0, 0), (0, 0), (0, 0), (0, 0), (0, 0), (0, 0), (0, 0), (8, 0), (9, 0), (12, 0)] r_p 10)
    rw [bx_val_x (n := 8) (e := (8, 0)) h0_ rfl, bx_val_x (n := 9) (e := (9, 0)) h0_ rfl, bx_val_x (n := 10) (e := (12, 0)) h0_ rfl]
    exact g.2.2.1
  · show rxmRLK_10 S0 ws S_p (bx_val [(0, 0), (0, 0), (0, 0), (0, 0), (0, 0), (0, 0), (0, 0), (0, 0), (8, 0), (9, 0), (12, 0)] r_p 8) (bx_val [(0, 0), (0, 0), (0, 0), (0, 0), (0, 0), (0, 0), (0, 0), (0, 0), (8, 0), (9, 0), (12, 0)] r_p 9) (bx_val [(0, 0), (0, 0), (0, 0), (0, 0), (0, 0), (0, 0), (0, 0), (0, 0), (8, 0), (9, 0), (12, 0)] r_p 10) < rxmRLK_9 S0 ws S_p (r 8) (r 9) (r 10) (r 11)
    rw [bx_val_x (n := 8) (e := (8, 0)) h0_ rfl, bx_val_x (n := 9) (e := (9, 0)) h0_ rfl, bx_val_x (n := 10) (e := (12, 0)) h0_ rfl, ← hr_ 8 (by decide), ← hr_ 9 (by decide), ← hr_ 10 (by decide), ← hr_ 11 (by decide)]
    exact g.2.2.2
theorem rxcRLK_10_0 {S0 : Nat → Int → Int} {ws : List Int} {S : Nat → Int → Int} {which base nc x11 : Int} (hP : rxPRLK S0 ws) (hin : bx_same rxL (bx_mdl rxCRLK.2.2.1) S0 S) (I0 : bx_Inv rxL S) (hinv : rxIRLK_10 S0 ws S which base nc) (l8 : 0 ≤ which) (u8 : which ≤ 2) (l9 : 0 ≤ base) (u9 : base ≤ 88) (l10 : 0 ≤ nc) (u10 : nc ≤ 11) (l11 : 0 ≤ x11) (u11 : x11 ≤ 400) (e0 : (bx_up S 480 16 (nc + 1)) 480 18 = x11) : (True) ∧ (True) ∧ rxIRLK_11 S0 ws (bx_up S 480 16 (nc + 1)) which base (base + 3) x11 ∧ rxmRLK_11 S0 ws (bx_up S 480 16 (nc + 1)) which base (base + 3) x11 < rxmRLK_10 S0 ws S which base nc := by
  obtain ⟨hI, hx⟩ := hinv
  obtain ⟨a_, b_, c_, d_⟩ := rxcRLW_10_0 hP hin I0 hI l8 u8 l9 u9 l10 u10 l11 u11 e0
  exact ⟨a_, b_, ⟨c_, (by
    intro c hD hW z
    obtain ⟨h1, h2, h3⟩ := hx c hD hW (show S 480 14 = 0 from ((bx_up_ne (by omega))).symm.trans z)
    exact ⟨h1, (rkL3_ne h2 ((bx_up_ne (by omega))) ((bx_up_ne (by omega))) ((bx_up_ne (by omega))) (fun i => ⟨(bx_up_ne (by omega)), (bx_up_ne (by omega))⟩)), ((bx_up_ne (by omega))).trans h3⟩)⟩, d_⟩
theorem rxgRLK_10_0 {X : (Nat → Int → Int) → Prop} {S0 : Nat → Int → Int} {ws : List Int} (hP : rxPRLK S0 ws) : bx_obC rxL X S0 rxCRLK.2.2.1 (rxIRLK S0 ws) (rxmRLK S0 ws) 10 rxzRLK_10 rxoRLK_10_0 := by
  intro S S_p r r_p hinv hX hin hsm_ hseg
  obtain ⟨I0, I1, h0_, hr_, b_, f_, d_⟩ := bx_cl (evs := [(0, (0, 480), (0, 18), .inr (0, (11, 0))), (1, (0, 480), (0, 16), .inr (0, (10, 1)))]) (fvs := []) hseg (by decide +kernel) (by decide +kernel)
  have hinv : rxIRLK_10 S0 ws S (r 8) (r 9) (r 10) := hinv
  rw [← hr_ 8 (by decide), ← hr_ 9 (by decide), ← hr_ 10 (by decide)] at hinv
  obtain ⟨⟨l8, u8⟩, ⟨l9, u9⟩, ⟨l10, u10⟩, ⟨l11, u11⟩, -⟩ := b_
  obtain ⟨e0, ⟨T1, w_, w1⟩⟩ := d_
  subst w1
  subst w_
  have g := rxcRLK_10_0 hP hin I0 hinv l8 u8 l9 u9 l10 u10 l11 u11 e0
  refine ⟨bx_narP_ok (l := []) g.1, bx_nfP_ok h0_ (fvs := []) (by decide +kernel) g.2.1, ?_, ?_⟩
  · show rxIRLK_11 S0 ws (bx_up T1 480 (16) (r_p 10 + 1)) (bx_val [(0, 0), (0, 0), (0, 0), (0, 0), (0, 0), (0, 0), (0, 0), (0, 0), (8, 0), (9, 0), (9, 3), (11, 0)] r_p 8) (bx_val [(0, 0), (0, 0), (0, 0), (0, 0), (0, 0), (0, 0), (0, 0), (0, 0), (8, 0), (9, 0), (9, 3), (11, 0)] r_p 9) (bx_val [(0, 0), (0, 0), (0, 0), (0, 0), (0, 0), (0, 0), (0, 0), (0, 0), (8, 0), (9, 0), (9, 3), (11, 0)] r_p 10) (bx_val [(0, 0), (0, 0), (0, 0), (0, 0), (0, 0), (0, 0), (0, 0), (0, 0), (8, 0), (9, 0), (9, 3), (11, 0)] r_p 11)
    rw [bx_val_x (n := 8) (e := (8, 0)) h0_ rfl, bx_val_x (n := 9) (e := (9, 0)) h0_ rfl, bx_val_x (n := 10) (e := (9, 3)) h0_ rfl, bx_val_x (n := 11) (e := (11, 0)) h0_ rfl]
    exact g.2.2.1
  · show rxmRLK_11 S0 ws (bx_up T1 480 (16) (r_p 10 + 1)) (bx_val [(0, 0), (0, 0), (0, 0), (0, 0), (0, 0), (0, 0), (0, 0), (0, 0), (8, 0), (9, 0), (9, 3), (11, 0)] r_p 8) (bx_val [(0, 0), (0, 0), (0, 0), (0, 0), (0, 0), (0, 0), (0, 0), (0, 0), (8, 0), (9, 0), (9, 3), (11, 0)] r_p 9) (bx_val [(0, 0), (0, 0), (0, 0), (0, 0), (0, 0), (0, 0), (0, 0), (0, 0), (8, 0), (9, 0), (9, 3), (11, 0)] r_p 10) (bx_val [(0, 0), (0, 0), (0, 0), (0, 0), (0, 0), (0, 0), (0, 0), (0, 0), (8, 0), (9, 0), (9, 3), (11, 0)] r_p 11) < rxmRLK_10 S0 ws T1 (r 8) (r 9) (r 10)
    rw [bx_val_x (n := 8) (e := (8, 0)) h0_ rfl, bx_val_x (n := 9) (e := (9, 0)) h0_ rfl, bx_val_x (n := 10) (e := (9, 3)) h0_ rfl, bx_val_x (n := 11) (e := (11, 0)) h0_ rfl, ← hr_ 8 (by decide), ← hr_ 9 (by decide), ← hr_ 10 (by decide)]
    exact g.2.2.2
theorem rxcRLK_12_0 {S0 : Nat → Int → Int} {ws : List Int} {S : Nat → Int → Int} {which base a v : Int} (hP : rxPRLK S0 ws) (hin : bx_same rxL (bx_mdl rxCRLK.2.2.1) S0 S) (I0 : bx_Inv rxL S) (hinv : rxIRLK_12 S0 ws S which base a v) (l8 : 0 ≤ which) (u8 : which ≤ 1) (l9 : 0 ≤ base) (u9 : base ≤ 88) (l10 : 3 ≤ a) (u10 : a ≤ 91) (l11 : 0 ≤ v) (u11 : v ≤ 400) (f0 : which ≠ 2) : (True) ∧ (True) ∧ rxIRLK_13 S0 ws S base ∧ rxmRLK_13 S0 ws S base < rxmRLK_12 S0 ws S which base a v := by
  obtain ⟨hI, hx⟩ := hinv
  obtain ⟨a_, b_, c_, d_⟩ := rxcRLW_12_0 hP hin I0 hI l8 u8 l9 u9 l10 u10 l11 u11 f0
  exact ⟨a_, b_, ⟨c_, (by
    intro c hD hW z
    obtain ⟨h1, h2, h3⟩ := hx c hD hW z
    exact ⟨by rw [h3]; exact h1, by omega, h2⟩)⟩, d_⟩
theorem rxgRLK_12_0 {X : (Nat → Int → Int) → Prop} {S0 : Nat → Int → Int} {ws : List Int} (hP : rxPRLK S0 ws) : bx_obC rxL X S0 rxCRLK.2.2.1 (rxIRLK S0 ws) (rxmRLK S0 ws) 12 rxzRLK_12 rxoRLK_12_0 := by
  intro S S_p r r_p hinv hX hin hsm_ hseg
  obtain ⟨I0, I1, h0_, hr_, b_, f_, d_⟩ := bx_cl (evs := []) (fvs := [(3, (8, 0), (0, 2), (0, 0))]) hseg (by decide +kernel) (by decide +kernel)
  have hinv : rxIRLK_12 S0 ws S (r 8) (r 9) (r 10) (r 11) := hinv
  rw [← hr_ 8 (by decide), ← hr_ 9 (by decide), ← hr_ 10 (by decide), ← hr_ 11 (by decide)] at hinv
  obtain ⟨⟨l8, u8⟩, ⟨l9, u9⟩, ⟨l10, u10⟩, ⟨l11, u11⟩, -⟩ := b_
  obtain ⟨f0, -⟩ := f_
  have w_ := d_
  subst w_
  have g := rxcRLK_12_0 hP hin I0 hinv l8 u8 l9 u9 l10 u10 l11 u11 f0
  refine ⟨bx_narP_ok (l := []) g.1, bx_nfP_ok h0_ (fvs := []) (by decide +kernel) g.2.1, ?_, ?_⟩
  · show rxIRLK_13 S0 ws S_p (bx_val [(0, 0), (0, 0), (0, 0), (0, 0), (0, 0), (0, 0), (0, 0), (0, 0), (9, 0)] r_p 8)
    rw [bx_val_x (n := 8) (e := (9, 0)) h0_ rfl]
    exact g.2.2.1
  · show rxmRLK_13 S0 ws S_p (bx_val [(0, 0), (0, 0), (0, 0), (0, 0), (0, 0), (0, 0), (0, 0), (0, 0), (9, 0)] r_p 8) < rxmRLK_12 S0 ws S_p (r 8) (r 9) (r 10) (r 11)
    rw [bx_val_x (n := 8) (e := (9, 0)) h0_ rfl, ← hr_ 8 (by decide), ← hr_ 9 (by decide), ← hr_ 10 (by decide), ← hr_ 11 (by decide)]
    exact g.2.2.2
theorem rxcRLK_12_1 {S0 : Nat → Int → Int} {ws : List Int} {S : Nat → Int → Int} {which base a v x12 : Int} (hP : rxPRLK S0 ws) (hin : bx_same rxL (bx_mdl rxCRLK.2.2.1) S0 S) (I0 : bx_Inv rxL S) (hinv : rxIRLK_12 S0 ws S which base a v) (l8 : 2 ≤ which) (u8 : which ≤ 2) (l9 : 0 ≤ base) (u9 : base ≤ 88) (l10 : 3 ≤ a) (u10 : a ≤ 91) (l11 : 0 ≤ v) (u11 : v ≤ 400) (l12 : 0 ≤ x12) (u12 : x12 ≤ 400) (e0 : S 480 18 = x12) : (True) ∧ (True) ∧ rxIRLK_15 S0 ws S base (base + 4) x12 ∧ rxmRLK_15 S0 ws S base (base + 4) x12 < rxmRLK_12 S0 ws S which base a v := by
  obtain ⟨hI, hx⟩ := hinv
  obtain ⟨a_, b_, c_, d_⟩ := rxcRLW_12_1 hP hin I0 hI l8 u8 l9 u9 l10 u10 l11 u11 l12 u12 e0
  exact ⟨a_, b_, ⟨c_, (by
    intro c hD hW z
    obtain ⟨h1, h2, h3⟩ := hx c hD hW z
    exact rkL4_bars h2 (by rw [h3]; exact h1) (by omega))⟩, d_⟩
theorem rxgRLK_12_1 {X : (Nat → Int → Int) → Prop} {S0 : Nat → Int → Int} {ws : List Int} (hP : rxPRLK S0 ws) : bx_obC rxL X S0 rxCRLK.2.2.1 (rxIRLK S0 ws) (rxmRLK S0 ws) 12 rxzRLK_12 rxoRLK_12_1 := by
  intro S S_p r r_p hinv hX hin hsm_ hseg
  obtain ⟨I0, I1, h0_, hr_, b_, f_, d_⟩ := bx_cl (evs := [(0, (0, 480), (0, 18), .inr (0, (12, 0)))]) (fvs := []) hseg (by decide +kernel) (by decide +kernel)
  have hinv : rxIRLK_12 S0 ws S (r 8) (r 9) (r 10) (r 11) := hinv
  rw [← hr_ 8 (by decide), ← hr_ 9 (by decide), ← hr_ 10 (by decide), ← hr_ 11 (by decide)] at hinv
  obtain ⟨⟨l8, u8⟩, ⟨l9, u9⟩, ⟨l10, u10⟩, ⟨l11, u11⟩, ⟨l12, u12⟩, -⟩ := b_
  obtain ⟨e0, w_⟩ := d_
  subst w_
  have g := rxcRLK_12_1 hP hin I0 hinv l8 u8 l9 u9 l10 u10 l11 u11 l12 u12 e0
  refine ⟨bx_narP_ok (l := []) g.1, bx_nfP_ok h0_ (fvs := []) (by decide +kernel) g.2.1, ?_, ?_⟩
  · show rxIRLK_15 S0 ws S_p (bx_val [(0, 0), (0, 0), (0, 0), (0, 0), (0, 0), (0, 0), (0, 0), (0, 0), (9, 0), (9, 4), (12, 0)] r_p 8) (bx_val [(0, 0), (0, 0), (0, 0), (0, 0), (0, 0), (0, 0), (0, 0), (0, 0), (9, 0), (9, 4), (12, 0)] r_p 9) (bx_val [(0, 0), (0, 0), (0, 0), (0, 0), (0, 0), (0, 0), (0, 0), (0, 0), (9, 0), (9, 4), (12, 0)] r_p 10)
    rw [bx_val_x (n := 8) (e := (9, 0)) h0_ rfl, bx_val_x (n := 9) (e := (9, 4)) h0_ rfl, bx_val_x (n := 10) (e := (12, 0)) h0_ rfl]
    exact g.2.2.1
  · show rxmRLK_15 S0 ws S_p (bx_val [(0, 0), (0, 0), (0, 0), (0, 0), (0, 0), (0, 0), (0, 0), (0, 0), (9, 0), (9, 4), (12, 0)] r_p 8) (bx_val [(0, 0), (0, 0), (0, 0), (0, 0), (0, 0), (0, 0), (0, 0), (0, 0), (9, 0), (9, 4), (12, 0)] r_p 9) (bx_val [(0, 0), (0, 0), (0, 0), (0, 0), (0, 0), (0, 0), (0, 0), (0, 0), (9, 0), (9, 4), (12, 0)] r_p 10) < rxmRLK_12 S0 ws S_p (r 8) (r 9) (r 10) (r 11)
    rw [bx_val_x (n := 8) (e := (9, 0)) h0_ rfl, bx_val_x (n := 9) (e := (9, 4)) h0_ rfl, bx_val_x (n := 10) (e := (12, 0)) h0_ rfl, ← hr_ 8 (by decide), ← hr_ 9 (by decide), ← hr_ 10 (by decide), ← hr_ 11 (by decide)]
    exact g.2.2.2
theorem rxcRLK_14_0 {S0 : Nat → Int → Int} {ws : List Int} {S : Nat → Int → Int} {base x9 : Int} (hP : rxPRLK S0 ws) (hin : bx_same rxL (bx_mdl rxCRLK.2.2.1) S0 S) (I0 : bx_Inv rxL S) (hinv : rxIRLK_14 S0 ws S base) (l8 : 0 ≤ base) (u8 : base ≤ 88) (l9 : 0 ≤ x9) (u9 : x9 ≤ 400) (e0 : S 480 18 = x9) : (True) ∧ (True) ∧ rxIRLK_15 S0 ws S base (base + 4) x9 ∧ rxmRLK_15 S0 ws S base (base + 4) x9 < rxmRLK_14 S0 ws S base := by
  obtain ⟨hI, hx⟩ := hinv
  obtain ⟨a_, b_, c_, d_⟩ := rxcRLW_14_0 hP hin I0 hI l8 u8 l9 u9 e0
  exact ⟨a_, b_, ⟨c_, hx⟩, d_⟩
theorem rxgRLK_14_0 {X : (Nat → Int → Int) → Prop} {S0 : Nat → Int → Int} {ws : List Int} (hP : rxPRLK S0 ws) : bx_obC rxL X S0 rxCRLK.2.2.1 (rxIRLK S0 ws) (rxmRLK S0 ws) 14 rxzRLK_14 rxoRLK_14_0 := by
  intro S S_p r r_p hinv hX hin hsm_ hseg
  obtain ⟨I0, I1, h0_, hr_, b_, f_, d_⟩ := bx_cl (evs := [(0, (0, 480), (0, 18), .inr (0, (9, 0)))]) (fvs := []) hseg (by decide +kernel) (by decide +kernel)
  have hinv : rxIRLK_14 S0 ws S (r 8) := hinv
  rw [← hr_ 8 (by decide)] at hinv
  obtain ⟨⟨l8, u8⟩, ⟨l9, u9⟩, -⟩ := b_
  obtain ⟨e0, w_⟩ := d_
  subst w_
  have g := rxcRLK_14_0 hP hin I0 hinv l8 u8 l9 u9 e0
  refine ⟨bx_narP_ok (l := []) g.1, bx_nfP_ok h0_ (fvs := []) (by decide +kernel) g.2.1, ?_, ?_⟩
  · show rxIRLK_15 S0 ws S_p (bx_val [(0, 0), (0, 0), (0, 0), (0, 0), (0, 0), (0, 0), (0, 0), (0, 0), (8, 0), (8, 4), (9, 0)] r_p 8) (bx_val [(0, 0), (0, 0), (0, 0), (0, 0), (0, 0), (0, 0), (0, 0), (0, 0), (8, 0), (8, 4), (9, 0)] r_p 9) (bx_val [(0, 0), (0, 0), (0, 0), (0, 0), (0, 0), (0, 0), (0, 0), (0, 0), (8, 0), (8, 4), (9, 0)] r_p 10)
    rw [bx_val_x (n := 8) (e := (8, 0)) h0_ rfl, bx_val_x (n := 9) (e := (8, 4)) h0_ rfl, bx_val_x (n := 10) (e := (9, 0)) h0_ rfl]
    exact g.2.2.1
  · show rxmRLK_15 S0 ws S_p (bx_val [(0, 0), (0, 0), (0, 0), (0, 0), (0, 0), (0, 0), (0, 0), (0, 0), (8, 0), (8, 4), (9, 0)] r_p 8) (bx_val [(0, 0), (0, 0), (0, 0), (0, 0), (0, 0), (0, 0), (0, 0), (0, 0), (8, 0), (8, 4), (9, 0)] r_p 9) (bx_val [(0, 0), (0, 0), (0, 0), (0, 0), (0, 0), (0, 0), (0, 0), (0, 0), (8, 0), (8, 4), (9, 0)] r_p 10) < rxmRLK_14 S0 ws S_p (r 8)
    rw [bx_val_x (n := 8) (e := (8, 0)) h0_ rfl, bx_val_x (n := 9) (e := (8, 4)) h0_ rfl, bx_val_x (n := 10) (e := (9, 0)) h0_ rfl, ← hr_ 8 (by decide)]
    exact g.2.2.2
theorem rxcRLK_16_0 {S0 : Nat → Int → Int} {ws : List Int} {S : Nat → Int → Int} {base a v x11 : Int} (hP : rxPRLK S0 ws) (hin : bx_same rxL (bx_mdl rxCRLK.2.2.1) S0 S) (I0 : bx_Inv rxL S) (hinv : rxIRLK_16 S0 ws S base a v) (l8 : 0 ≤ base) (u8 : base ≤ 88) (l9 : 4 ≤ a) (u9 : a ≤ 92) (l10 : 0 ≤ v) (u10 : v ≤ 400) (l11 : 0 ≤ x11) (u11 : x11 ≤ 400) (e0 : S 480 18 = x11) : (True) ∧ (True) ∧ rxIRLK_17 S0 ws S base (base + 5) x11 ∧ rxmRLK_17 S0 ws S base (base + 5) x11 < rxmRLK_16 S0 ws S base a v := by
  obtain ⟨hI, hx⟩ := hinv
  obtain ⟨a_, b_, c_, d_⟩ := rxcRLW_16_0 hP hin I0 hI l8 u8 l9 u9 l10 u10 l11 u11 e0
  exact ⟨a_, b_, ⟨c_, hx⟩, d_⟩
theorem rxgRLK_16_0 {X : (Nat → Int → Int) → Prop} {S0 : Nat → Int → Int} {ws : List Int} (hP : rxPRLK S0 ws) : bx_obC rxL X S0 rxCRLK.2.2.1 (rxIRLK S0 ws) (rxmRLK S0 ws) 16 rxzRLK_16 rxoRLK_16_0 := by
  intro S S_p r r_p hinv hX hin hsm_ hseg
  obtain ⟨I0, I1, h0_, hr_, b_, f_, d_⟩ := bx_cl (evs := [(0, (0, 480), (0, 18), .inr (0, (11, 0)))]) (fvs := []) hseg (by decide +kernel) (by decide +kernel)
  have hinv : rxIRLK_16 S0 ws S (r 8) (r 9) (r 10) := hinv
  rw [← hr_ 8 (by decide), ← hr_ 9 (by decide), ← hr_ 10 (by decide)] at hinv
  obtain ⟨⟨l8, u8⟩, ⟨l9, u9⟩, ⟨l10, u10⟩, ⟨l11, u11⟩, -⟩ := b_
  obtain ⟨e0, w_⟩ := d_
  subst w_
  have g := rxcRLK_16_0 hP hin I0 hinv l8 u8 l9 u9 l10 u10 l11 u11 e0
  refine ⟨bx_narP_ok (l := []) g.1, bx_nfP_ok h0_ (fvs := []) (by decide +kernel) g.2.1, ?_, ?_⟩
  · show rxIRLK_17 S0 ws S_p (bx_val [(0, 0), (0, 0), (0, 0), (0, 0), (0, 0), (0, 0), (0, 0), (0, 0), (8, 0), (8, 5), (11, 0)] r_p 8) (bx_val [(0, 0), (0, 0), (0, 0), (0, 0), (0, 0), (0, 0), (0, 0), (0, 0), (8, 0), (8, 5), (11, 0)] r_p 9) (bx_val [(0, 0), (0, 0), (0, 0), (0, 0), (0, 0), (0, 0), (0, 0), (0, 0), (8, 0), (8, 5), (11, 0)] r_p 10)
    rw [bx_val_x (n := 8) (e := (8, 0)) h0_ rfl, bx_val_x (n := 9) (e := (8, 5)) h0_ rfl, bx_val_x (n := 10) (e := (11, 0)) h0_ rfl]
    exact g.2.2.1
  · show rxmRLK_17 S0 ws S_p (bx_val [(0, 0), (0, 0), (0, 0), (0, 0), (0, 0), (0, 0), (0, 0), (0, 0), (8, 0), (8, 5), (11, 0)] r_p 8) (bx_val [(0, 0), (0, 0), (0, 0), (0, 0), (0, 0), (0, 0), (0, 0), (0, 0), (8, 0), (8, 5), (11, 0)] r_p 9) (bx_val [(0, 0), (0, 0), (0, 0), (0, 0), (0, 0), (0, 0), (0, 0), (0, 0), (8, 0), (8, 5), (11, 0)] r_p 10) < rxmRLK_16 S0 ws S_p (r 8) (r 9) (r 10)
    rw [bx_val_x (n := 8) (e := (8, 0)) h0_ rfl, bx_val_x (n := 9) (e := (8, 5)) h0_ rfl, bx_val_x (n := 10) (e := (11, 0)) h0_ rfl, ← hr_ 8 (by decide), ← hr_ 9 (by decide), ← hr_ 10 (by decide)]
    exact g.2.2.2
theorem rxcRLK_18_0 {S0 : Nat → Int → Int} {ws : List Int} {S : Nat → Int → Int} {base a v x11 x12 x13 : Int} (hP : rxPRLK S0 ws) (hin : bx_same rxL (bx_mdl rxCRLK.2.2.1) S0 S) (I0 : bx_Inv rxL S) (hinv : rxIRLK_18 S0 ws S base a v) (l8 : 0 ≤ base) (u8 : base ≤ 88) (l9 : 5 ≤ a) (u9 : a ≤ 93) (l10 : 0 ≤ v) (u10 : v ≤ 400) (l11 : 0 ≤ x11) (u11 : x11 ≤ 0) (l12 : 0 ≤ x12) (u12 : x12 ≤ 3) (l13 : 0 ≤ x13) (u13 : x13 ≤ 400) (f0 : x12 ≠ 1) (e2 : S 480 14 = x11) (e1 : S 480 11 = x12) (e0 : S 480 18 = x13) : (True) ∧ (True) ∧ rxIRLK_23 S0 ws S base (base + 6) x13 ∧ rxmRLK_23 S0 ws S base (base + 6) x13 < rxmRLK_18 S0 ws S base a v := by
  obtain ⟨hI, hx⟩ := hinv
  obtain ⟨a_, b_, c_, d_⟩ := rxcRLW_18_0 hP hin I0 hI l8 u8 l9 u9 l10 u10 l11 u11 l12 u12 l13 u13 f0 e2 e1 e0
  exact ⟨a_, b_, ⟨c_, (by
    intro c hD hW z
    obtain ⟨kr, dq, -⟩ := (hI.2 c hD hW).1 z
    have q := rzDq_no dq (w := rzW_if) (v := 294) (by decide) (by decide) (by omega)
    rw [kr.1, kr.2.1] at q
    obtain ⟨m, ⟨y1, y2, y3, y4, y5, y6, y7, y8, y9, y10⟩, em⟩ := hI.1
    exact rkL6_no (hx c hD hW z) q y7 y8 y9 em)⟩, d_⟩
theorem rxgRLK_18_0 {X : (Nat → Int → Int) → Prop} {S0 : Nat → Int → Int} {ws : List Int} (hP : rxPRLK S0 ws) : bx_obC rxL X S0 rxCRLK.2.2.1 (rxIRLK S0 ws) (rxmRLK S0 ws) 18 rxzRLK_18 rxoRLK_18_0 := by
  intro S S_p r r_p hinv hX hin hsm_ hseg
  obtain ⟨I0, I1, h0_, hr_, b_, f_, d_⟩ := bx_cl (evs := [(0, (0, 480), (0, 18), .inr (0, (13, 0))), (0, (0, 480), (0, 11), .inr (0, (12, 0))), (0, (0, 480), (0, 14), .inr (0, (11, 0)))]) (fvs := [(3, (12, 0), (0, 1), (0, 0))]) hseg (by decide +kernel) (by decide +kernel)
  have hinv : rxIRLK_18 S0 ws S (r 8) (r 9) (r 10) := hinv
  rw [← hr_ 8 (by decide), ← hr_ 9 (by decide), ← hr_ 10 (by decide)] at hinv
  obtain ⟨⟨l8, u8⟩, ⟨l9, u9⟩, ⟨l10, u10⟩, ⟨l11, u11⟩, ⟨l12, u12⟩, ⟨l13, u13⟩, -⟩ := b_
  obtain ⟨f0, -⟩ := f_
  obtain ⟨e0, ⟨e1, ⟨e2, w_⟩⟩⟩ := d_
  subst w_
  have g := rxcRLK_18_0 hP hin I0 hinv l8 u8 l9 u9 l10 u10 l11 u11 l12 u12 l13 u13 f0 e2 e1 e0
  refine ⟨bx_narP_ok (l := []) g.1, bx_nfP_ok h0_ (fvs := []) (by decide +kernel) g.2.1, ?_, ?_⟩
  · show rxIRLK_23 S0 ws S_p (bx_val [(0, 0), (0, 0), (0, 0), (0, 0), (0, 0), (0, 0), (0, 0), (0, 0), (8, 0), (8, 6), (13, 0)] r_p 8) (bx_val [(0, 0), (0, 0), (0, 0), (0, 0), (0, 0), (0, 0), (0, 0), (0, 0), (8, 0), (8, 6), (13, 0)] r_p 9) (bx_val [(0, 0), (0, 0), (0, 0), (0, 0), (0, 0), (0, 0), (0, 0), (0, 0), (8, 0), (8, 6), (13, 0)] r_p 10)
    rw [bx_val_x (n := 8) (e := (8, 0)) h0_ rfl, bx_val_x (n := 9) (e := (8, 6)) h0_ rfl, bx_val_x (n := 10) (e := (13, 0)) h0_ rfl]
    exact g.2.2.1
  · show rxmRLK_23 S0 ws S_p (bx_val [(0, 0), (0, 0), (0, 0), (0, 0), (0, 0), (0, 0), (0, 0), (0, 0), (8, 0), (8, 6), (13, 0)] r_p 8) (bx_val [(0, 0), (0, 0), (0, 0), (0, 0), (0, 0), (0, 0), (0, 0), (0, 0), (8, 0), (8, 6), (13, 0)] r_p 9) (bx_val [(0, 0), (0, 0), (0, 0), (0, 0), (0, 0), (0, 0), (0, 0), (0, 0), (8, 0), (8, 6), (13, 0)] r_p 10) < rxmRLK_18 S0 ws S_p (r 8) (r 9) (r 10)
    rw [bx_val_x (n := 8) (e := (8, 0)) h0_ rfl, bx_val_x (n := 9) (e := (8, 6)) h0_ rfl, bx_val_x (n := 10) (e := (13, 0)) h0_ rfl, ← hr_ 8 (by decide), ← hr_ 9 (by decide), ← hr_ 10 (by decide)]
    exact g.2.2.2
theorem rxcRLK_18_1 {S0 : Nat → Int → Int} {ws : List Int} {S : Nat → Int → Int} {base a v x11 x12 x13 x14 : Int} (hP : rxPRLK S0 ws) (hin : bx_same rxL (bx_mdl rxCRLK.2.2.1) S0 S) (I0 : bx_Inv rxL S) (hinv : rxIRLK_18 S0 ws S base a v) (l8 : 0 ≤ base) (u8 : base ≤ 88) (l9 : 5 ≤ a) (u9 : a ≤ 93) (l10 : 0 ≤ v) (u10 : v ≤ 400) (l11 : 0 ≤ x11) (u11 : x11 ≤ 0) (l12 : 1 ≤ x12) (u12 : x12 ≤ 1) (l13 : (-9223372036854775808) ≤ x13) (u13 : x13 ≤ 9223372036854775807) (l14 : 0 ≤ x14) (u14 : x14 ≤ 400) (f0 : x13 ≠ 294) (e3 : S 480 14 = x11) (e2 : S 480 11 = x12) (e1 : S 480 12 = x13) (e0 : S 480 18 = x14) : (True) ∧ (True) ∧ rxIRLK_23 S0 ws S base (base + 6) x14 ∧ rxmRLK_23 S0 ws S base (base + 6) x14 < rxmRLK_18 S0 ws S base a v := by
  obtain ⟨hI, hx⟩ := hinv
  obtain ⟨a_, b_, c_, d_⟩ := rxcRLW_18_1 hP hin I0 hI l8 u8 l9 u9 l10 u10 l11 u11 l12 u12 l13 u13 l14 u14 f0 e3 e2 e1 e0
  exact ⟨a_, b_, ⟨c_, (by
    intro c hD hW z
    obtain ⟨kr, dq, -⟩ := (hI.2 c hD hW).1 z
    have q := rzDq_no dq (w := rzW_if) (v := 294) (by decide) (by decide) (by omega)
    rw [kr.1, kr.2.1] at q
    obtain ⟨m, ⟨y1, y2, y3, y4, y5, y6, y7, y8, y9, y10⟩, em⟩ := hI.1
    exact rkL6_no (hx c hD hW z) q y7 y8 y9 em)⟩, d_⟩
theorem rxgRLK_18_1 {X : (Nat → Int → Int) → Prop} {S0 : Nat → Int → Int} {ws : List Int} (hP : rxPRLK S0 ws) : bx_obC rxL X S0 rxCRLK.2.2.1 (rxIRLK S0 ws) (rxmRLK S0 ws) 18 rxzRLK_18 rxoRLK_18_1 := by
  intro S S_p r r_p hinv hX hin hsm_ hseg
  obtain ⟨I0, I1, h0_, hr_, b_, f_, d_⟩ := bx_cl (evs := [(0, (0, 480), (0, 18), .inr (0, (14, 0))), (0, (0, 480), (0, 12), .inr (1, (13, 0))), (0, (0, 480), (0, 11), .inr (0, (12, 0))), (0, (0, 480), (0, 14), .inr (0, (11, 0)))]) (fvs := [(3, (13, 0), (0, 294), (0, 0))]) hseg (by decide +kernel) (by decide +kernel)
  have hinv : rxIRLK_18 S0 ws S (r 8) (r 9) (r 10) := hinv
  rw [← hr_ 8 (by decide), ← hr_ 9 (by decide), ← hr_ 10 (by decide)] at hinv
  obtain ⟨⟨l8, u8⟩, ⟨l9, u9⟩, ⟨l10, u10⟩, ⟨l11, u11⟩, ⟨l12, u12⟩, ⟨l13, u13⟩, ⟨l14, u14⟩, -⟩ := b_
  obtain ⟨f0, -⟩ := f_
  obtain ⟨e0, ⟨e1, ⟨e2, ⟨e3, w_⟩⟩⟩⟩ := d_
  subst w_
  have g := rxcRLK_18_1 hP hin I0 hinv l8 u8 l9 u9 l10 u10 l11 u11 l12 u12 l13 u13 l14 u14 f0 e3 e2 e1 e0
  refine ⟨bx_narP_ok (l := []) g.1, bx_nfP_ok h0_ (fvs := []) (by decide +kernel) g.2.1, ?_, ?_⟩
  · show rxIRLK_23 S0 ws S_p (bx_val [(0, 0), (0, 0), (0, 0), (0, 0), (0, 0), (0, 0), (0, 0), (0, 0), (8, 0), (8, 6), (14, 0)] r_p 8) (bx_val [(0, 0), (0, 0), (0, 0), (0, 0), (0, 0), (0, 0), (0, 0), (0, 0), (8, 0), (8, 6), (14, 0)] r_p 9) (bx_val [(0, 0), (0, 0), (0, 0), (0, 0), (0, 0), (0, 0), (0, 0), (0, 0), (8, 0), (8, 6), (14, 0)] r_p 10)
    rw [bx_val_x (n := 8) (e := (8, 0)) h0_ rfl, bx_val_x (n := 9) (e := (8, 6)) h0_ rfl, bx_val_x (n := 10) (e := (14, 0)) h0_ rfl]
    exact g.2.2.1
  · show rxmRLK_23 S0 ws S_p (bx_val [(0, 0), (0, 0), (0, 0), (0, 0), (0, 0), (0, 0), (0, 0), (0, 0), (8, 0), (8, 6), (14, 0)] r_p 8) (bx_val [(0, 0), (0, 0), (0, 0), (0, 0), (0, 0), (0, 0), (0, 0), (0, 0), (8, 0), (8, 6), (14, 0)] r_p 9) (bx_val [(0, 0), (0, 0), (0, 0), (0, 0), (0, 0), (0, 0), (0, 0), (0, 0), (8, 0), (8, 6), (14, 0)] r_p 10) < rxmRLK_18 S0 ws S_p (r 8) (r 9) (r 10)
    rw [bx_val_x (n := 8) (e := (8, 0)) h0_ rfl, bx_val_x (n := 9) (e := (8, 6)) h0_ rfl, bx_val_x (n := 10) (e := (14, 0)) h0_ rfl, ← hr_ 8 (by decide), ← hr_ 9 (by decide), ← hr_ 10 (by decide)]
    exact g.2.2.2
theorem rxcRLK_18_2 {S0 : Nat → Int → Int} {ws : List Int} {S : Nat → Int → Int} {base a v x11 x12 x13 : Int} (hP : rxPRLK S0 ws) (hin : bx_same rxL (bx_mdl rxCRLK.2.2.1) S0 S) (I0 : bx_Inv rxL S) (hinv : rxIRLK_18 S0 ws S base a v) (l8 : 0 ≤ base) (u8 : base ≤ 88) (l9 : 5 ≤ a) (u9 : a ≤ 93) (l10 : 0 ≤ v) (u10 : v ≤ 400) (l11 : 0 ≤ x11) (u11 : x11 ≤ 0) (l12 : 1 ≤ x12) (u12 : x12 ≤ 1) (l13 : 294 ≤ x13) (u13 : x13 ≤ 294) (e2 : S 480 14 = x11) (e1 : S 480 11 = x12) (e0 : S 480 12 = x13) : (True) ∧ (True) ∧ rxIRLK_19 S0 ws S base ∧ rxmRLK_19 S0 ws S base < rxmRLK_18 S0 ws S base a v := by
  obtain ⟨hI, hx⟩ := hinv
  obtain ⟨a_, b_, c_, d_⟩ := rxcRLW_18_2 hP hin I0 hI l8 u8 l9 u9 l10 u10 l11 u11 l12 u12 l13 u13 e2 e1 e0
  exact ⟨a_, b_, ⟨c_, hx⟩, d_⟩
theorem rxgRLK_18_2 {X : (Nat → Int → Int) → Prop} {S0 : Nat → Int → Int} {ws : List Int} (hP : rxPRLK S0 ws) : bx_obC rxL X S0 rxCRLK.2.2.1 (rxIRLK S0 ws) (rxmRLK S0 ws) 18 rxzRLK_18 rxoRLK_18_2 := by
  intro S S_p r r_p hinv hX hin hsm_ hseg
  obtain ⟨I0, I1, h0_, hr_, b_, f_, d_⟩ := bx_cl (evs := [(0, (0, 480), (0, 12), .inr (1, (13, 0))), (0, (0, 480), (0, 11), .inr (0, (12, 0))), (0, (0, 480), (0, 14), .inr (0, (11, 0)))]) (fvs := []) hseg (by decide +kernel) (by decide +kernel)
  have hinv : rxIRLK_18 S0 ws S (r 8) (r 9) (r 10) := hinv
  rw [← hr_ 8 (by decide), ← hr_ 9 (by decide), ← hr_ 10 (by decide)] at hinv
  obtain ⟨⟨l8, u8⟩, ⟨l9, u9⟩, ⟨l10, u10⟩, ⟨l11, u11⟩, ⟨l12, u12⟩, ⟨l13, u13⟩, -⟩ := b_
  obtain ⟨e0, ⟨e1, ⟨e2, w_⟩⟩⟩ := d_
  subst w_
  have g := rxcRLK_18_2 hP hin I0 hinv l8 u8 l9 u9 l10 u10 l11 u11 l12 u12 l13 u13 e2 e1 e0
  refine ⟨bx_narP_ok (l := []) g.1, bx_nfP_ok h0_ (fvs := []) (by decide +kernel) g.2.1, ?_, ?_⟩
  · show rxIRLK_19 S0 ws S_p (bx_val [(0, 0), (0, 0), (0, 0), (0, 0), (0, 0), (0, 0), (0, 0), (0, 0), (8, 0)] r_p 8)
    rw [bx_val_x (n := 8) (e := (8, 0)) h0_ rfl]
    exact g.2.2.1
  · show rxmRLK_19 S0 ws S_p (bx_val [(0, 0), (0, 0), (0, 0), (0, 0), (0, 0), (0, 0), (0, 0), (0, 0), (8, 0)] r_p 8) < rxmRLK_18 S0 ws S_p (r 8) (r 9) (r 10)
    rw [bx_val_x (n := 8) (e := (8, 0)) h0_ rfl, ← hr_ 8 (by decide), ← hr_ 9 (by decide), ← hr_ 10 (by decide)]
    exact g.2.2.2
theorem rxcRLK_18_3 {S0 : Nat → Int → Int} {ws : List Int} {S : Nat → Int → Int} {base a v x11 x12 : Int} (hP : rxPRLK S0 ws) (hin : bx_same rxL (bx_mdl rxCRLK.2.2.1) S0 S) (I0 : bx_Inv rxL S) (hinv : rxIRLK_18 S0 ws S base a v) (l8 : 0 ≤ base) (u8 : base ≤ 88) (l9 : 5 ≤ a) (u9 : a ≤ 93) (l10 : 0 ≤ v) (u10 : v ≤ 400) (l11 : 1 ≤ x11) (u11 : x11 ≤ 1) (l12 : 0 ≤ x12) (u12 : x12 ≤ 400) (f0 : x11 ≠ 0) (e1 : S 480 14 = x11) (e0 : S 480 18 = x12) : (True) ∧ (True) ∧ rxIRLK_23 S0 ws S base (base + 6) x12 ∧ rxmRLK_23 S0 ws S base (base + 6) x12 < rxmRLK_18 S0 ws S base a v := by
  obtain ⟨hI, hx⟩ := hinv
  obtain ⟨a_, b_, c_, d_⟩ := rxcRLW_18_3 hP hin I0 hI l8 u8 l9 u9 l10 u10 l11 u11 l12 u12 f0 e1 e0
  exact ⟨a_, b_, ⟨c_, (by
    intro c hD hW z
    exact absurd z (by omega))⟩, d_⟩
theorem rxgRLK_18_3 {X : (Nat → Int → Int) → Prop} {S0 : Nat → Int → Int} {ws : List Int} (hP : rxPRLK S0 ws) : bx_obC rxL X S0 rxCRLK.2.2.1 (rxIRLK S0 ws) (rxmRLK S0 ws) 18 rxzRLK_18 rxoRLK_18_3 := by
  intro S S_p r r_p hinv hX hin hsm_ hseg
  obtain ⟨I0, I1, h0_, hr_, b_, f_, d_⟩ := bx_cl (evs := [(0, (0, 480), (0, 18), .inr (0, (12, 0))), (0, (0, 480), (0, 14), .inr (0, (11, 0)))]) (fvs := [(3, (11, 0), (0, 0), (0, 0))]) hseg (by decide +kernel) (by decide +kernel)
  have hinv : rxIRLK_18 S0 ws S (r 8) (r 9) (r 10) := hinv
  rw [← hr_ 8 (by decide), ← hr_ 9 (by decide), ← hr_ 10 (by decide)] at hinv
  obtain ⟨⟨l8, u8⟩, ⟨l9, u9⟩, ⟨l10, u10⟩, ⟨l11, u11⟩, ⟨l12, u12⟩, -⟩ := b_
  obtain ⟨f0, -⟩ := f_
  obtain ⟨e0, ⟨e1, w_⟩⟩ := d_
  subst w_
  have g := rxcRLK_18_3 hP hin I0 hinv l8 u8 l9 u9 l10 u10 l11 u11 l12 u12 f0 e1 e0
  refine ⟨bx_narP_ok (l := []) g.1, bx_nfP_ok h0_ (fvs := []) (by decide +kernel) g.2.1, ?_, ?_⟩
  · show rxIRLK_23 S0 ws S_p (bx_val [(0, 0), (0, 0), (0, 0), (0, 0), (0, 0), (0, 0), (0, 0), (0, 0), (8, 0), (8, 6), (12, 0)] r_p 8) (bx_val [(0, 0), (0, 0), (0, 0), (0, 0), (0, 0), (0, 0), (0, 0), (0, 0), (8, 0), (8, 6), (12, 0)] r_p 9) (bx_val [(0, 0), (0, 0), (0, 0), (0, 0), (0, 0), (0, 0), (0, 0), (0, 0), (8, 0), (8, 6), (12, 0)] r_p 10)
    rw [bx_val_x (n := 8) (e := (8, 0)) h0_ rfl, bx_val_x (n := 9) (e := (8, 6)) h0_ rfl, bx_val_x (n := 10) (e := (12, 0)) h0_ rfl]
    exact g.2.2.1
  · show rxmRLK_23 S0 ws S_p (bx_val [(0, 0), (0, 0), (0, 0), (0, 0), (0, 0), (0, 0), (0, 0), (0, 0), (8, 0), (8, 6), (12, 0)] r_p 8) (bx_val [(0, 0), (0, 0), (0, 0), (0, 0), (0, 0), (0, 0), (0, 0), (0, 0), (8, 0), (8, 6), (12, 0)] r_p 9) (bx_val [(0, 0), (0, 0), (0, 0), (0, 0), (0, 0), (0, 0), (0, 0), (0, 0), (8, 0), (8, 6), (12, 0)] r_p 10) < rxmRLK_18 S0 ws S_p (r 8) (r 9) (r 10)
    rw [bx_val_x (n := 8) (e := (8, 0)) h0_ rfl, bx_val_x (n := 9) (e := (8, 6)) h0_ rfl, bx_val_x (n := 10) (e := (12, 0)) h0_ rfl, ← hr_ 8 (by decide), ← hr_ 9 (by decide), ← hr_ 10 (by decide)]
    exact g.2.2.2
theorem rxcRLK_20_0 {S0 : Nat → Int → Int} {ws : List Int} {S : Nat → Int → Int} {base : Int} (hP : rxPRLK S0 ws) (hin : bx_same rxL (bx_mdl rxCRLK.2.2.1) S0 S) (I0 : bx_Inv rxL S) (hinv : rxIRLK_20 S0 ws S base) (l8 : 0 ≤ base) (u8 : base ≤ 88) : (True) ∧ (True) ∧ rxIRLK_21 S0 ws S base ∧ rxmRLK_21 S0 ws S base < rxmRLK_20 S0 ws S base := by
  obtain ⟨hI, hx⟩ := hinv
  obtain ⟨a_, b_, c_, d_⟩ := rxcRLW_20_0 hP hin I0 hI l8 u8
  exact ⟨a_, b_, ⟨c_, hx⟩, d_⟩
theorem rxgRLK_20_0 {X : (Nat → Int → Int) → Prop} {S0 : Nat → Int → Int} {ws : List Int} (hP : rxPRLK S0 ws) : bx_obC rxL X S0 rxCRLK.2.2.1 (rxIRLK S0 ws) (rxmRLK S0 ws) 20 rxzRLK_20 rxoRLK_20_0 := by
  intro S S_p r r_p hinv hX hin hsm_ hseg
  obtain ⟨I0, I1, h0_, hr_, b_, f_, d_⟩ := bx_cl (evs := []) (fvs := []) hseg (by decide +kernel) (by decide +kernel)
  have hinv : rxIRLK_20 S0 ws S (r 8) := hinv
  rw [← hr_ 8 (by decide)] at hinv
  obtain ⟨⟨l8, u8⟩, -⟩ := b_
  have w_ := d_
  subst w_
  have g := rxcRLK_20_0 hP hin I0 hinv l8 u8
  refine ⟨bx_narP_ok (l := []) g.1, bx_nfP_ok h0_ (fvs := []) (by decide +kernel) g.2.1, ?_, ?_⟩
  · show rxIRLK_21 S0 ws S_p (bx_val [(0, 0), (0, 0), (0, 0), (0, 0), (0, 0), (0, 0), (0, 0), (0, 0), (8, 0)] r_p 8)
    rw [bx_val_x (n := 8) (e := (8, 0)) h0_ rfl]
    exact g.2.2.1
  · show rxmRLK_21 S0 ws S_p (bx_val [(0, 0), (0, 0), (0, 0), (0, 0), (0, 0), (0, 0), (0, 0), (0, 0), (8, 0)] r_p 8) < rxmRLK_20 S0 ws S_p (r 8)
    rw [bx_val_x (n := 8) (e := (8, 0)) h0_ rfl, ← hr_ 8 (by decide)]
    exact g.2.2.2
theorem rxcRLK_22_0 {S0 : Nat → Int → Int} {ws : List Int} {S : Nat → Int → Int} {base x9 : Int} (hP : rxPRLK S0 ws) (hin : bx_same rxL (bx_mdl rxCRLK.2.2.1) S0 S) (I0 : bx_Inv rxL S) (hinv : rxIRLK_22 S0 ws S base) (l8 : 0 ≤ base) (u8 : base ≤ 88) (l9 : 0 ≤ x9) (u9 : x9 ≤ 400) (e0 : S 480 18 = x9) : (True) ∧ (True) ∧ rxIRLK_23 S0 ws S base (base + 6) x9 ∧ rxmRLK_23 S0 ws S base (base + 6) x9 < rxmRLK_22 S0 ws S base := by
  obtain ⟨hI, hx⟩ := hinv
  obtain ⟨a_, b_, c_, d_⟩ := rxcRLW_22_0 hP hin I0 hI l8 u8 l9 u9 e0
  exact ⟨a_, b_, ⟨c_, hx⟩, d_⟩
theorem rxgRLK_22_0 {X : (Nat → Int → Int) → Prop} {S0 : Nat → Int → Int} {ws : List Int} (hP : rxPRLK S0 ws) : bx_obC rxL X S0 rxCRLK.2.2.1 (rxIRLK S0 ws) (rxmRLK S0 ws) 22 rxzRLK_22 rxoRLK_22_0 := by
  intro S S_p r r_p hinv hX hin hsm_ hseg
  obtain ⟨I0, I1, h0_, hr_, b_, f_, d_⟩ := bx_cl (evs := [(0, (0, 480), (0, 18), .inr (0, (9, 0)))]) (fvs := []) hseg (by decide +kernel) (by decide +kernel)
  have hinv : rxIRLK_22 S0 ws S (r 8) := hinv
  rw [← hr_ 8 (by decide)] at hinv
  obtain ⟨⟨l8, u8⟩, ⟨l9, u9⟩, -⟩ := b_
  obtain ⟨e0, w_⟩ := d_
  subst w_
  have g := rxcRLK_22_0 hP hin I0 hinv l8 u8 l9 u9 e0
  refine ⟨bx_narP_ok (l := []) g.1, bx_nfP_ok h0_ (fvs := []) (by decide +kernel) g.2.1, ?_, ?_⟩
  · show rxIRLK_23 S0 ws S_p (bx_val [(0, 0), (0, 0), (0, 0), (0, 0), (0, 0), (0, 0), (0, 0), (0, 0), (8, 0), (8, 6), (9, 0)] r_p 8) (bx_val [(0, 0), (0, 0), (0, 0), (0, 0), (0, 0), (0, 0), (0, 0), (0, 0), (8, 0), (8, 6), (9, 0)] r_p 9) (bx_val [(0, 0), (0, 0), (0, 0), (0, 0), (0, 0), (0, 0), (0, 0), (0, 0), (8, 0), (8, 6), (9, 0)] r_p 10)
    rw [bx_val_x (n := 8) (e := (8, 0)) h0_ rfl, bx_val_x (n := 9) (e := (8, 6)) h0_ rfl, bx_val_x (n := 10) (e := (9, 0)) h0_ rfl]
    exact g.2.2.1
  · show rxmRLK_23 S0 ws S_p (bx_val [(0, 0), (0, 0), (0, 0), (0, 0), (0, 0), (0, 0), (0, 0), (0, 0), (8, 0), (8, 6), (9, 0)] r_p 8) (bx_val [(0, 0), (0, 0), (0, 0), (0, 0), (0, 0), (0, 0), (0, 0), (0, 0), (8, 0), (8, 6), (9, 0)] r_p 9) (bx_val [(0, 0), (0, 0), (0, 0), (0, 0), (0, 0), (0, 0), (0, 0), (0, 0), (8, 0), (8, 6), (9, 0)] r_p 10) < rxmRLK_22 S0 ws S_p (r 8)
    rw [bx_val_x (n := 8) (e := (8, 0)) h0_ rfl, bx_val_x (n := 9) (e := (8, 6)) h0_ rfl, bx_val_x (n := 10) (e := (9, 0)) h0_ rfl, ← hr_ 8 (by decide)]
    exact g.2.2.2
theorem rxdRLK_24_0 {S0 : Nat → Int → Int} {ws : List Int} {S : Nat → Int → Int} {base a v : Int} (hP : rxPRLK S0 ws) (hin : bx_same rxL (bx_mdl rxCRLK.2.2.1) S0 S) (hin2 : bx_same rxL (bx_mdl rxCRLK.2.2.1) S S) (I0 : bx_Inv rxL S) (I1 : bx_Inv rxL S) (hinv : rxIRLK_24 S0 ws S base a v) (l8 : 0 ≤ base) (u8 : base ≤ 88) (l9 : 6 ≤ a) (u9 : a ≤ 94) (l10 : 0 ≤ v) (u10 : v ≤ 400) : (True) ∧ rxPSRLK S0 ws S none := by
  obtain ⟨hI, hx⟩ := hinv
  obtain ⟨a_, c_⟩ := rxdRLW_24_0 hP hin hin2 I0 I1 hI l8 u8 l9 u9 l10 u10
  exact ⟨a_, rfl, c_, hx⟩
theorem rxfRLK_24_0 {X : (Nat → Int → Int) → Prop} {S0 : Nat → Int → Int} {ws : List Int} (hP : rxPRLK S0 ws) : bx_obE rxL X S0 rxCRLK.2.2.1 (rxIRLK S0 ws) (rxPSRLK S0 ws) 24 rxzRLK_24 rxeRLK_24_0 := by
  intro S S_p r r_p hinv hX hin hsm_ hseg
  obtain ⟨I0, I1, h0_, hr_, b_, f_, d_⟩ := bx_cl (evs := []) (fvs := []) hseg (by decide +kernel) (by decide +kernel)
  have hinv : rxIRLK_24 S0 ws S (r 8) (r 9) (r 10) := hinv
  rw [← hr_ 8 (by decide), ← hr_ 9 (by decide), ← hr_ 10 (by decide)] at hinv
  obtain ⟨⟨l8, u8⟩, ⟨l9, u9⟩, ⟨l10, u10⟩, -⟩ := b_
  have w_ := d_
  subst w_
  have g := rxdRLK_24_0 hP hin hsm_ I0 I1 hinv l8 u8 l9 u9 l10 u10
  refine ⟨bx_narP_ok (l := []) g.1, ?_⟩
  exact g.2
theorem rxgCRLK {X : (Nat → Int → Int) → Prop} {S0 : Nat → Int → Int} {ws : List Int} (hP : rxPRLK S0 ws) : bx_allI (fun i q => rxURLK q = true ∨ bx_allP (fun o => bx_obC rxL X S0 rxCRLK.2.2.1 (rxIRLK S0 ws) (rxmRLK S0 ws) i q.1 o) q.2.1) 0 rxYRLK := ⟨Or.inr ⟨rxgRLK_0_0 hP, rxgRLK_0_1 hP, rxgRLK_0_2 hP, rxgRLK_0_3 hP, rxgRLK_0_4 hP, trivial⟩, Or.inr ⟨rxgRLK_1_0 hP, rxgRLK_1_1 hP, rxgRLK_1_2 hP, trivial⟩, Or.inl rfl, Or.inr ⟨rxgRLK_3_0 hP, trivial⟩, Or.inr ⟨rxgRLK_4_0 hP, trivial⟩, Or.inr ⟨rxgRLK_5_0 hP, rxgRLK_5_1 hP, trivial⟩, Or.inl rfl, Or.inr ⟨rxgRLK_7_0 hP, trivial⟩, Or.inl rfl, Or.inr ⟨rxgRLK_9_0 hP, trivial⟩, Or.inr ⟨rxgRLK_10_0 hP, trivial⟩, Or.inl rfl, Or.inr ⟨rxgRLK_12_0 hP, rxgRLK_12_1 hP, trivial⟩, Or.inl rfl, Or.inr ⟨rxgRLK_14_0 hP, trivial⟩, Or.inl rfl, Or.inr ⟨rxgRLK_16_0 hP, trivial⟩, Or.inl rfl, Or.inr ⟨rxgRLK_18_0 hP, rxgRLK_18_1 hP, rxgRLK_18_2 hP, rxgRLK_18_3 hP, trivial⟩, Or.inl rfl, Or.inr ⟨rxgRLK_20_0 hP, trivial⟩, Or.inl rfl, Or.inr ⟨rxgRLK_22_0 hP, trivial⟩, Or.inl rfl, Or.inr trivial, trivial⟩
theorem rxgERLK {X : (Nat → Int → Int) → Prop} {S0 : Nat → Int → Int} {ws : List Int} (hP : rxPRLK S0 ws) : bx_allI (fun i q => rxURLK q = true ∨ bx_allP (fun E => bx_obE rxL X S0 rxCRLK.2.2.1 (rxIRLK S0 ws) (rxPSRLK S0 ws) i q.1 E) q.2.2) 0 rxYRLK := ⟨Or.inr trivial, Or.inr trivial, Or.inl rfl, Or.inr ⟨rxfRLK_3_0 hP, trivial⟩, Or.inr trivial, Or.inr trivial, Or.inl rfl, Or.inr trivial, Or.inl rfl, Or.inr trivial, Or.inr trivial, Or.inl rfl, Or.inr trivial, Or.inl rfl, Or.inr trivial, Or.inl rfl, Or.inr trivial, Or.inl rfl, Or.inr trivial, Or.inl rfl, Or.inr trivial, Or.inl rfl, Or.inr trivial, Or.inl rfl, Or.inr ⟨rxfRLK_24_0 hP, trivial⟩, trivial⟩
theorem rxuRLK {PX : State → Prop} {Dg : va_G} {A : Nat → Prop} {ad xa : Nat → Nat} {l : Launch} {X : (Nat → Int → Int) → Prop} (hPX : rx_PXOK rxNW A PX) (hX : ∀ S S1 : Nat → Int → Int, X S → bx_same rxL (bx_mdl rxCRLK.2.2.1) S S1 → X S1) (hQMUW : bx_ConP rxG rxNW rxAO PX Dg rxL X vwCl A ad l rxM265 rxCMUW rxPMUW rxPSMUW) (hQREXK : bx_ConP rxG rxNW rxAO PX Dg rxL X vwCl A ad l rxM282 rxCREXK rxPREXK rxPSREXK) (hQNXX : bx_ConP rxG rxNW rxAO PX Dg rxL X vwCl A ad l rxM264 rxCNXX rxPNXX rxPSNXX) {S0 : Nat → Int → Int} {ws : List Int} (hP : rxPRLK S0 ws) : ∀ (i : Nat) (q : bx_HE), rxYRLK[i]? = some q → rxURLK q = true → ∀ {p : Program} {e : Env} {R : Room} {s : State} {m : MethodId} {args : Array Value} {below : List Frame} {meth : Method} {c : Code} {Q : State → Prop} {H0 : Heap}, rx_Fr rxG rxNW rxAO PX p s m args meth c rxM284 → (∀ q, H0.size ≤ q → A q) → H0 = s.heap → rxM284.2.2.2.2.2.2.1 ≤ R.cells → rxM284.2.2.2.2.2.2.2 ≤ R.slots → rxCRLK.2.2.2.1 ≤ R.frames → rxCRLK.2.2.2.1 * 40 ≤ R.locals → bx_Step p l e R s m args below meth c Q Dg rxL X vwCl A xa H0 ad rxM284 rxYRLK (rxIRLK S0 ws) (rxmRLK S0 ws) S0 rxCRLK.2.2.1 i q := by
  intro i q hq hus p e R s m args below meth c Q H0 hF hA hH0 hmc hms hd hdl
  match i, hq with
  | 0, hq =>
    cases hq
    exact absurd (show false = true from hus) Bool.false_ne_true
  | 1, hq =>
    cases hq
    exact absurd (show false = true from hus) Bool.false_ne_true
  | 2, hq =>
    cases hq
    exact rx_stepC (ins := .invokevirtual 284) (len := 3) (i_p := 3) (M_p := rxM265) (d := rxCRLK.2.2.2.1) (as := [.inr (3, (0, 480)), .inr (0, (9, 0))]) (t := []) (ct := rxCMUW) hPX hF rfl hA hH0 hmc hms hd hdl (by decide +kernel) rfl rfl (by decide +kernel) (by decide +kernel) hQMUW (by decide +kernel) rfl (Or.inl ⟨rfl, rfl, rfl⟩) (rxsRLK_2 hP)
  | 3, hq =>
    cases hq
    exact absurd (show false = true from hus) Bool.false_ne_true
  | 4, hq =>
    cases hq
    exact absurd (show false = true from hus) Bool.false_ne_true
  | 5, hq =>
    cases hq
    exact absurd (show false = true from hus) Bool.false_ne_true
  | 6, hq =>
    cases hq
    exact rx_stepS (i_p := 7) (pl := 486) (a := 11) (b := 12) (n := 96) (g := 67) (lo := 0) (hi := 95) (ty := (0, 0, 0)) (t := []) hF (by decide +kernel) rfl rfl rfl rfl (by omega) (by omega) (by decide +kernel) rfl rfl (rxsRLK_6 hP hX)
  | 7, hq =>
    cases hq
    exact absurd (show false = true from hus) Bool.false_ne_true
  | 8, hq =>
    cases hq
    exact rx_stepS (i_p := 9) (pl := 486) (a := 10) (b := 11) (n := 96) (g := 67) (lo := 0) (hi := 88) (ty := (0, 0, 2)) (t := []) hF (by decide +kernel) rfl rfl rfl rfl (by omega) (by omega) (by decide +kernel) rfl rfl (rxsRLK_8 hP hX)
  | 9, hq =>
    cases hq
    exact absurd (show false = true from hus) Bool.false_ne_true
  | 10, hq =>
    cases hq
    exact absurd (show false = true from hus) Bool.false_ne_true
  | 11, hq =>
    cases hq
    exact rx_stepS (i_p := 12) (pl := 486) (a := 10) (b := 11) (n := 96) (g := 67) (lo := 3) (hi := 91) (ty := (0, 0, 400)) (t := []) hF (by decide +kernel) rfl rfl rfl rfl (by omega) (by omega) (by decide +kernel) rfl rfl (rxsRLK_11 hP hX)
  | 12, hq =>
    cases hq
    exact absurd (show false = true from hus) Bool.false_ne_true
  | 13, hq =>
    cases hq
    exact rx_stepC (ins := .invokevirtual 383) (len := 3) (i_p := 14) (M_p := rxM282) (d := rxCRLK.2.2.2.1) (as := [.inr (3, (0, 480)), .inr (0, (0, 0))]) (t := []) (ct := rxCREXK) hPX hF rfl hA hH0 hmc hms hd hdl (by decide +kernel) rfl rfl (by decide +kernel) (by decide +kernel) hQREXK (by decide +kernel) rfl (Or.inl ⟨rfl, rfl, rfl⟩) (rxsRLK_13 hP)
  | 14, hq =>
    cases hq
    exact absurd (show false = true from hus) Bool.false_ne_true
  | 15, hq =>
    cases hq
    exact rx_stepS (i_p := 16) (pl := 486) (a := 9) (b := 10) (n := 96) (g := 67) (lo := 4) (hi := 92) (ty := (0, 0, 400)) (t := []) hF (by decide +kernel) rfl rfl rfl rfl (by omega) (by omega) (by decide +kernel) rfl rfl (rxsRLK_15 hP hX)
  | 16, hq =>
    cases hq
    exact absurd (show false = true from hus) Bool.false_ne_true
  | 17, hq =>
    cases hq
    exact rx_stepS (i_p := 18) (pl := 486) (a := 9) (b := 10) (n := 96) (g := 67) (lo := 5) (hi := 93) (ty := (0, 0, 400)) (t := []) hF (by decide +kernel) rfl rfl rfl rfl (by omega) (by omega) (by decide +kernel) rfl rfl (rxsRLK_17 hP hX)
  | 18, hq =>
    cases hq
    exact absurd (show false = true from hus) Bool.false_ne_true
  | 19, hq =>
    cases hq
    exact rx_stepC (ins := .invokevirtual 253) (len := 3) (i_p := 20) (M_p := rxM264) (d := rxCRLK.2.2.2.1) (as := [.inr (3, (0, 480))]) (t := []) (ct := rxCNXX) hPX hF rfl hA hH0 hmc hms hd hdl (by decide +kernel) rfl rfl (by decide +kernel) (by decide +kernel) hQNXX (by decide +kernel) rfl (Or.inl ⟨rfl, rfl, rfl⟩) (rxsRLK_19 hP)
  | 20, hq =>
    cases hq
    exact absurd (show false = true from hus) Bool.false_ne_true
  | 21, hq =>
    cases hq
    exact rx_stepC (ins := .invokevirtual 383) (len := 3) (i_p := 22) (M_p := rxM282) (d := rxCRLK.2.2.2.1) (as := [.inr (3, (0, 480)), .inr (0, (0, 1))]) (t := []) (ct := rxCREXK) hPX hF rfl hA hH0 hmc hms hd hdl (by decide +kernel) rfl rfl (by decide +kernel) (by decide +kernel) hQREXK (by decide +kernel) rfl (Or.inl ⟨rfl, rfl, rfl⟩) (rxsRLK_21 hP)
  | 22, hq =>
    cases hq
    exact absurd (show false = true from hus) Bool.false_ne_true
  | 23, hq =>
    cases hq
    exact rx_stepS (i_p := 24) (pl := 486) (a := 9) (b := 10) (n := 96) (g := 67) (lo := 6) (hi := 94) (ty := (0, 0, 400)) (t := []) hF (by decide +kernel) rfl rfl rfl rfl (by omega) (by omega) (by decide +kernel) rfl rfl (rxsRLK_23 hP hX)
  | 24, hq =>
    cases hq
    exact absurd (show false = true from hus) Bool.false_ne_true
  | n + 25, hq => cases hq
theorem rxQRLK {PX : State → Prop} {Dg : va_G} {A : Nat → Prop} {ad xa : Nat → Nat} {l : Launch} {X : (Nat → Int → Int) → Prop} (hPX : rx_PXOK rxNW A PX) (hsl : ∀ s : State, PX s → ∀ o idx n : Nat, rxSl o idx = some n → ∃ tx : String, vk_R (rxNm o) idx tx (ad n) s)
    (hX : ∀ S S_p : Nat → Int → Int, X S → bx_same rxL (bx_mdl rxCRLK.2.2.1) S S_p → X S_p)
    (ih : ∀ (j2 : Nat) (ct2 : bx_Ct) (M2 : rx_Mt), ct2 ∈ rxCnE j2 → ct2.2.2.2.1 + 1 ≤ rxCRLK.2.2.2.1 → rxT.2.2.2.2.2 j2 = some M2 → bx_Con rxG rxNW rxAO PX Dg rxL X vwCl A ad l M2 ct2) (hQMUW : bx_ConP rxG rxNW rxAO PX Dg rxL X vwCl A ad l rxM265 rxCMUW rxPMUW rxPSMUW) (hQREXK : bx_ConP rxG rxNW rxAO PX Dg rxL X vwCl A ad l rxM282 rxCREXK rxPREXK rxPSREXK) (hQNXX : bx_ConP rxG rxNW rxAO PX Dg rxL X vwCl A ad l rxM264 rxCNXX rxPNXX rxPSNXX) : bx_ConP rxG rxNW rxAO PX Dg rxL X vwCl A ad l rxM284 rxCRLK rxPRLK rxPSRLK :=
  rxQof (xa := xa) (Cn := rxCnE) (f := 30000) (j := 284) (tab := rxYRLK) (us := rxURLK) hPX hsl hX ih rfl rxYcRLK rxIRLK rxmRLK
    (fun S0 ws r I0 I ht0 ht as he he1 hX0 hI0 hP hs ha => by
      have e := he.symm.trans (show bx_ent0 rxNP rxCRLK.1 bx_I0 [] = some ([(0, 0), (0, 0), (0, 0), (0, 0), (0, 0), (0, 0), (0, 0), (0, 0)], [], [.inr (3, (0, 480))]) from rfl)
      cases e
      subst ha
      have h0 : r 0 = 0 := hs.1
      show rxIRLK_0 S0 _ S0
      refine ⟨⟨⟨rfl, ?_⟩, trivial⟩, trivial⟩
      simp only [List.map_cons, List.map_nil, bx_xv_ok h0]
      rfl)
    (fun S0 ws hP => rxuRLK (xa := xa) hPX hX hQMUW hQREXK hQNXX hP) (fun S0 ws hP => rxgCRLK hP) (fun S0 ws hP => rxgERLK hP)
