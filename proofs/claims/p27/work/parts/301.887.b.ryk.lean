noncomputable def rxCRYK : bx_Ct := ([(3, (1, 480, 0))], none, [(12, 9), (12, 10), (12, 11), (12, 12), (12, 13), (12, 14), (12, 16), (12, 18), (12, 21), (12, 24), (12, 25), (1068, 0), (1069, 0), (1070, 0), (1071, 0), (1077, 0)], 7, [])
noncomputable def rxIRYK_0 (S0 : Nat → Int → Int) (ws : List Int) (S : Nat → Int → Int) : Prop := rxIRYW_0 S0 ws S ∧ True
noncomputable def rxmRYK_0 (S0 : Nat → Int → Int) (ws : List Int) (S : Nat → Int → Int) : Nat := rxmRYW_0 S0 ws S
noncomputable def rxzRYK_0 : rx_Z := ([(0, 0), (0, 0), (0, 0), (0, 0), (0, 0), (0, 0), (0, 0), (0, 0)], [], [], 0, 0, 0, [(0, .inr (3, (0, 480)))], [])
noncomputable def rxIRYK_1 (S0 : Nat → Int → Int) (ws : List Int) (S : Nat → Int → Int) (is : Int) : Prop := rxIRYW_1 S0 ws S is ∧ True
noncomputable def rxmRYK_1 (S0 : Nat → Int → Int) (ws : List Int) (S : Nat → Int → Int) (is : Int) : Nat := rxmRYW_1 S0 ws S is
noncomputable def rxzRYK_1 : rx_Z := ([(0, 0), (0, 0), (0, 0), (0, 0), (0, 0), (0, 0), (0, 0), (0, 0), (0, 1)], [], [], 0, 0, 25, [(0, .inr (3, (0, 480)))], [.inr (0, (8, 0)), .inr (3, (0, 480))])
noncomputable def rxIRYK_2 (S0 : Nat → Int → Int) (ws : List Int) (S : Nat → Int → Int) (is : Int) : Prop := rxIRYW_2 S0 ws S is ∧ (rzCk S0 → rzDq S0 → rzWr S0 = rzPn → S 480 14 = 0 → rjY1 S0 (S 480 9) (S 480 21) (S 480 18) (S 487) (S 488) 0 0 0 0 0)
noncomputable def rxmRYK_2 (S0 : Nat → Int → Int) (ws : List Int) (S : Nat → Int → Int) (is : Int) : Nat := rxmRYW_2 S0 ws S is
noncomputable def rxzRYK_2 : rx_Z := ([(0, 0), (0, 0), (0, 0), (0, 0), (0, 0), (0, 0), (0, 0), (0, 0), (0, 1)], [], [], 0, 0, 28, [(0, .inr (3, (0, 480)))], [])
noncomputable def rxIRYK_3 (S0 : Nat → Int → Int) (ws : List Int) (S : Nat → Int → Int) (nc : Int) : Prop := rxIRYW_3 S0 ws S nc ∧ (rzCk S0 → rzDq S0 → rzWr S0 = rzPn → S 480 14 = 0 → rjY1 S0 (S 480 9) (S 480 21) (S 480 18) (S 487) (S 488) 0 0 0 0 0)
noncomputable def rxmRYK_3 (S0 : Nat → Int → Int) (ws : List Int) (S : Nat → Int → Int) (nc : Int) : Nat := rxmRYW_3 S0 ws S nc
noncomputable def rxzRYK_3 : rx_Z := ([(0, 0), (0, 0), (0, 0), (0, 0), (0, 0), (0, 0), (0, 0), (0, 0), (0, 11)], [], [], 0, 0, 42, [(0, .inr (3, (0, 480)))], [.inr (0, (8, 0)), .inr (0, (0, 10))])
noncomputable def rxIRYK_4 (S0 : Nat → Int → Int) (ws : List Int) (S : Nat → Int → Int) (base nc : Int) : Prop := rxIRYW_4 S0 ws S base nc ∧ (rzCk S0 → rzDq S0 → rzWr S0 = rzPn → S 480 14 = 0 → rjY1 S0 (S 480 9) (S 480 21) (S 480 18) (S 487) (S 488) 0 0 0 0 0)
noncomputable def rxmRYK_4 (S0 : Nat → Int → Int) (ws : List Int) (S : Nat → Int → Int) (base nc : Int) : Nat := rxmRYW_4 S0 ws S base nc
noncomputable def rxzRYK_4 : rx_Z := ([(0, 0), (0, 0), (0, 0), (0, 0), (0, 0), (0, 0), (0, 0), (0, 0), (0, 110), (0, 11)], [], [], 0, 0, 49, [(0, .inr (3, (0, 480))), (1, .inr (0, (8, 0)))], [.inr (0, (9, 0)), .inr (3, (0, 480))])
noncomputable def rxIRYK_5 (S0 : Nat → Int → Int) (ws : List Int) (S : Nat → Int → Int) (base a : Int) : Prop := rxIRYW_5 S0 ws S base a ∧ (rzCk S0 → rzDq S0 → rzWr S0 = rzPn → S 480 14 = 0 → rjY1 S0 (S 480 9) (S 480 21) (S 480 18) (S 487) (S 488) 0 0 0 0 0)
noncomputable def rxmRYK_5 (S0 : Nat → Int → Int) (ws : List Int) (S : Nat → Int → Int) (base a : Int) : Nat := rxmRYW_5 S0 ws S base a
noncomputable def rxzRYK_5 : rx_Z := ([(0, 0), (0, 0), (0, 0), (0, 0), (0, 0), (0, 0), (0, 0), (0, 0), (0, 110), (0, 110)], [], [], 0, 0, 60, [(0, .inr (3, (0, 480))), (1, .inr (0, (8, 0)))], [.inr (3, (0, 480)), .inr (0, (9, 0)), .inr (3, (0, 496))])
noncomputable def rxIRYK_6 (S0 : Nat → Int → Int) (ws : List Int) (S : Nat → Int → Int) (base a v : Int) : Prop := rxIRYW_6 S0 ws S base a v ∧ (rzCk S0 → rzDq S0 → rzWr S0 = rzPn → S 480 14 = 0 → rjY2 S0 (S 480 9) (S 480 21) (S 480 18) (S 487) (S 488) v 0 0 0 0)
noncomputable def rxmRYK_6 (S0 : Nat → Int → Int) (ws : List Int) (S : Nat → Int → Int) (base a v : Int) : Nat := rxmRYW_6 S0 ws S base a v
noncomputable def rxzRYK_6 : rx_Z := ([(0, 0), (0, 0), (0, 0), (0, 0), (0, 0), (0, 0), (0, 0), (0, 0), (0, 110), (0, 110), ((-2147483648), 2147483647)], [], [], 0, 0, 63, [(0, .inr (3, (0, 480))), (1, .inr (0, (8, 0)))], [.inr (0, (10, 0)), .inr (0, (9, 0)), .inr (3, (0, 496))])
noncomputable def rxIRYK_7 (S0 : Nat → Int → Int) (ws : List Int) (S : Nat → Int → Int) (base a v : Int) : Prop := rxIRYW_7 S0 ws S base a v ∧ (rzCk S0 → rzDq S0 → rzWr S0 = rzPn → S 480 14 = 0 → rjY2 S0 (S 480 9) (S 480 21) (S 480 18) (S 487) (S 488) (S 496 base) 0 0 0 0)
noncomputable def rxmRYK_7 (S0 : Nat → Int → Int) (ws : List Int) (S : Nat → Int → Int) (base a v : Int) : Nat := rxmRYW_7 S0 ws S base a v
noncomputable def rxzRYK_7 : rx_Z := ([(0, 0), (0, 0), (0, 0), (0, 0), (0, 0), (0, 0), (0, 0), (0, 0), (0, 110), (0, 110), ((-2147483648), 2147483647)], [], [], 0, 0, 64, [(0, .inr (3, (0, 480))), (1, .inr (0, (8, 0)))], [])
noncomputable def rxIRYK_8 (S0 : Nat → Int → Int) (ws : List Int) (S : Nat → Int → Int) (base : Int) : Prop := rxIRYW_8 S0 ws S base ∧ (rzCk S0 → rzDq S0 → rzWr S0 = rzPn → S 480 14 = 0 → rjY2 S0 (S 480 9) (S 480 21) (S 480 18) (S 487) (S 488) (S 496 base) 0 0 0 0)
noncomputable def rxmRYK_8 (S0 : Nat → Int → Int) (ws : List Int) (S : Nat → Int → Int) (base : Int) : Nat := rxmRYW_8 S0 ws S base
noncomputable def rxzRYK_8 : rx_Z := ([(0, 0), (0, 0), (0, 0), (0, 0), (0, 0), (0, 0), (0, 0), (0, 0), (0, 110)], [], [], 0, 0, 69, [(0, .inr (3, (0, 480))), (1, .inr (0, (8, 0)))], [.inr (1, (0, 52)), .inr (3, (0, 480)), .inr (3, (0, 480))])
noncomputable def rxIRYK_9 (S0 : Nat → Int → Int) (ws : List Int) (S : Nat → Int → Int) (base is : Int) : Prop := rxIRYW_9 S0 ws S base is ∧ (rzCk S0 → rzDq S0 → rzWr S0 = rzPn → S 480 14 = 0 → rjY2 S0 (S 480 9) (S 480 21) (S 480 18) (S 487) (S 488) (S 496 base) 0 0 0 0)
noncomputable def rxmRYK_9 (S0 : Nat → Int → Int) (ws : List Int) (S : Nat → Int → Int) (base is : Int) : Nat := rxmRYW_9 S0 ws S base is
noncomputable def rxzRYK_9 : rx_Z := ([(0, 0), (0, 0), (0, 0), (0, 0), (0, 0), (0, 0), (0, 0), (0, 0), (0, 110), (0, 1)], [], [], 0, 0, 72, [(0, .inr (3, (0, 480))), (1, .inr (0, (8, 0)))], [.inr (0, (9, 0)), .inr (3, (0, 480))])
noncomputable def rxIRYK_10 (S0 : Nat → Int → Int) (ws : List Int) (S : Nat → Int → Int) (base is : Int) : Prop := rxIRYW_10 S0 ws S base is ∧ (rzCk S0 → rzDq S0 → rzWr S0 = rzPn → S 480 14 = 0 → rjY3 S0 (S 480 9) (S 480 21) (S 480 18) (S 487) (S 488) (S 496 base) 0 0 0 0)
noncomputable def rxmRYK_10 (S0 : Nat → Int → Int) (ws : List Int) (S : Nat → Int → Int) (base is : Int) : Nat := rxmRYW_10 S0 ws S base is
noncomputable def rxzRYK_10 : rx_Z := ([(0, 0), (0, 0), (0, 0), (0, 0), (0, 0), (0, 0), (0, 0), (0, 0), (0, 110), (0, 1)], [], [], 0, 0, 75, [(0, .inr (3, (0, 480))), (1, .inr (0, (8, 0)))], [])
noncomputable def rxIRYK_11 (S0 : Nat → Int → Int) (ws : List Int) (S : Nat → Int → Int) (base a : Int) : Prop := rxIRYW_11 S0 ws S base a ∧ (rzCk S0 → rzDq S0 → rzWr S0 = rzPn → S 480 14 = 0 → rjY3 S0 (S 480 9) (S 480 21) (S 480 18) (S 487) (S 488) (S 496 base) 0 0 0 0)
noncomputable def rxmRYK_11 (S0 : Nat → Int → Int) (ws : List Int) (S : Nat → Int → Int) (base a : Int) : Nat := rxmRYW_11 S0 ws S base a
noncomputable def rxzRYK_11 : rx_Z := ([(0, 0), (0, 0), (0, 0), (0, 0), (0, 0), (0, 0), (0, 0), (0, 0), (0, 110), (1, 111)], [], [], 0, 0, 94, [(0, .inr (3, (0, 480))), (1, .inr (0, (8, 0)))], [.inr (3, (0, 480)), .inr (0, (9, 0)), .inr (3, (0, 496))])
noncomputable def rxIRYK_12 (S0 : Nat → Int → Int) (ws : List Int) (S : Nat → Int → Int) (base a v : Int) : Prop := rxIRYW_12 S0 ws S base a v ∧ (rzCk S0 → rzDq S0 → rzWr S0 = rzPn → S 480 14 = 0 → rjY4 S0 (S 480 9) (S 480 21) (S 480 18) (S 487) (S 488) (S 496 base) v 0 0 0)
noncomputable def rxmRYK_12 (S0 : Nat → Int → Int) (ws : List Int) (S : Nat → Int → Int) (base a v : Int) : Nat := rxmRYW_12 S0 ws S base a v
noncomputable def rxzRYK_12 : rx_Z := ([(0, 0), (0, 0), (0, 0), (0, 0), (0, 0), (0, 0), (0, 0), (0, 0), (0, 110), (1, 111), ((-2147483648), 2147483647)], [], [], 0, 0, 97, [(0, .inr (3, (0, 480))), (1, .inr (0, (8, 0)))], [.inr (0, (10, 0)), .inr (0, (9, 0)), .inr (3, (0, 496))])
noncomputable def rxIRYK_13 (S0 : Nat → Int → Int) (ws : List Int) (S : Nat → Int → Int) (base a v : Int) : Prop := rxIRYW_13 S0 ws S base a v ∧ (rzCk S0 → rzDq S0 → rzWr S0 = rzPn → S 480 14 = 0 → rjY4 S0 (S 480 9) (S 480 21) (S 480 18) (S 487) (S 488) (S 496 base) (S 496 (base + 1)) 0 0 0)
noncomputable def rxmRYK_13 (S0 : Nat → Int → Int) (ws : List Int) (S : Nat → Int → Int) (base a v : Int) : Nat := rxmRYW_13 S0 ws S base a v
noncomputable def rxzRYK_13 : rx_Z := ([(0, 0), (0, 0), (0, 0), (0, 0), (0, 0), (0, 0), (0, 0), (0, 0), (0, 110), (1, 111), ((-2147483648), 2147483647)], [], [], 0, 0, 98, [(0, .inr (3, (0, 480))), (1, .inr (0, (8, 0)))], [])
noncomputable def rxIRYK_14 (S0 : Nat → Int → Int) (ws : List Int) (S : Nat → Int → Int) (base a v : Int) : Prop := rxIRYW_14 S0 ws S base a v ∧ (rzCk S0 → rzDq S0 → rzWr S0 = rzPn → S 480 14 = 0 → rjY4 S0 (S 480 9) (S 480 21) (S 480 18) (S 487) (S 488) (S 496 base) v 0 0 0)
noncomputable def rxmRYK_14 (S0 : Nat → Int → Int) (ws : List Int) (S : Nat → Int → Int) (base a v : Int) : Nat := rxmRYW_14 S0 ws S base a v
noncomputable def rxzRYK_14 : rx_Z := ([(0, 0), (0, 0), (0, 0), (0, 0), (0, 0), (0, 0), (0, 0), (0, 0), (0, 110), (1, 111), (0, 0)], [], [], 0, 0, 97, [(0, .inr (3, (0, 480))), (1, .inr (0, (8, 0)))], [.inr (0, (10, 0)), .inr (0, (9, 0)), .inr (3, (0, 496))])
noncomputable def rxIRYK_15 (S0 : Nat → Int → Int) (ws : List Int) (S : Nat → Int → Int) (base a v : Int) : Prop := rxIRYW_15 S0 ws S base a v ∧ (rzCk S0 → rzDq S0 → rzWr S0 = rzPn → S 480 14 = 0 → rjY4 S0 (S 480 9) (S 480 21) (S 480 18) (S 487) (S 488) (S 496 base) (S 496 (base + 1)) 0 0 0)
noncomputable def rxmRYK_15 (S0 : Nat → Int → Int) (ws : List Int) (S : Nat → Int → Int) (base a v : Int) : Nat := rxmRYW_15 S0 ws S base a v
noncomputable def rxzRYK_15 : rx_Z := ([(0, 0), (0, 0), (0, 0), (0, 0), (0, 0), (0, 0), (0, 0), (0, 0), (0, 110), (1, 111), (0, 0)], [], [], 0, 0, 98, [(0, .inr (3, (0, 480))), (1, .inr (0, (8, 0)))], [])
noncomputable def rxIRYK_16 (S0 : Nat → Int → Int) (ws : List Int) (S : Nat → Int → Int) (base dd is : Int) : Prop := rxIRYW_16 S0 ws S base dd is ∧ (rzCk S0 → rzDq S0 → rzWr S0 = rzPn → S 480 14 = 0 → rjY4 S0 (S 480 9) (S 480 21) (S 480 18) (S 487) (S 488) (S 496 base) (S 496 (base + 1)) 0 0 0)
noncomputable def rxmRYK_16 (S0 : Nat → Int → Int) (ws : List Int) (S : Nat → Int → Int) (base dd is : Int) : Nat := rxmRYW_16 S0 ws S base dd is
noncomputable def rxzRYK_16 : rx_Z := ([(0, 0), (0, 0), (0, 0), (0, 0), (0, 0), (0, 0), (0, 0), (0, 0), (0, 110), (0, 1), (0, 1)], [], [], 0, 0, 126, [(0, .inr (3, (0, 480))), (1, .inr (0, (8, 0))), (2, .inr (0, (9, 0)))], [.inr (0, (10, 0)), .inr (3, (0, 480))])
noncomputable def rxIRYK_17 (S0 : Nat → Int → Int) (ws : List Int) (S : Nat → Int → Int) (base dd is : Int) : Prop := rxIRYW_17 S0 ws S base dd is ∧ (rzCk S0 → rzDq S0 → rzWr S0 = rzPn → S 480 14 = 0 → rjY5 S0 (S 480 9) (S 480 21) (S 480 18) (S 487) (S 488) (S 496 base) (S 496 (base + 1)) dd 0 0)
noncomputable def rxmRYK_17 (S0 : Nat → Int → Int) (ws : List Int) (S : Nat → Int → Int) (base dd is : Int) : Nat := rxmRYW_17 S0 ws S base dd is
noncomputable def rxzRYK_17 : rx_Z := ([(0, 0), (0, 0), (0, 0), (0, 0), (0, 0), (0, 0), (0, 0), (0, 0), (0, 110), (0, 1), (0, 1)], [], [], 0, 0, 129, [(0, .inr (3, (0, 480))), (1, .inr (0, (8, 0))), (2, .inr (0, (9, 0)))], [])
noncomputable def rxIRYK_18 (S0 : Nat → Int → Int) (ws : List Int) (S : Nat → Int → Int) (base dd a v : Int) : Prop := rxIRYW_18 S0 ws S base dd a v ∧ (rzCk S0 → rzDq S0 → rzWr S0 = rzPn → S 480 14 = 0 → (rjY5 S0 (S 480 9) (S 480 21) (S 480 18) (S 487) (S 488) (S 496 base) (S 496 (base + 1)) dd 0 0 ∧ v = dd))
noncomputable def rxmRYK_18 (S0 : Nat → Int → Int) (ws : List Int) (S : Nat → Int → Int) (base dd a v : Int) : Nat := rxmRYW_18 S0 ws S base dd a v
noncomputable def rxzRYK_18 : rx_Z := ([(0, 0), (0, 0), (0, 0), (0, 0), (0, 0), (0, 0), (0, 0), (0, 0), (0, 110), (0, 1), (2, 112), (0, 1)], [], [], 0, 0, 145, [(0, .inr (3, (0, 480))), (1, .inr (0, (8, 0))), (2, .inr (0, (9, 0)))], [.inr (0, (11, 0)), .inr (0, (10, 0)), .inr (3, (0, 496))])
noncomputable def rxIRYK_19 (S0 : Nat → Int → Int) (ws : List Int) (S : Nat → Int → Int) (base dd a v : Int) : Prop := rxIRYW_19 S0 ws S base dd a v ∧ (rzCk S0 → rzDq S0 → rzWr S0 = rzPn → S 480 14 = 0 → (rjY5 S0 (S 480 9) (S 480 21) (S 480 18) (S 487) (S 488) (S 496 base) (S 496 (base + 1)) dd 0 0 ∧ S 496 (base + 2) = dd))
noncomputable def rxmRYK_19 (S0 : Nat → Int → Int) (ws : List Int) (S : Nat → Int → Int) (base dd a v : Int) : Nat := rxmRYW_19 S0 ws S base dd a v
noncomputable def rxzRYK_19 : rx_Z := ([(0, 0), (0, 0), (0, 0), (0, 0), (0, 0), (0, 0), (0, 0), (0, 0), (0, 110), (0, 1), (2, 112), (0, 1)], [], [], 0, 0, 146, [(0, .inr (3, (0, 480))), (1, .inr (0, (8, 0))), (2, .inr (0, (9, 0)))], [])
noncomputable def rxIRYK_20 (S0 : Nat → Int → Int) (ws : List Int) (S : Nat → Int → Int) (base dd a v : Int) : Prop := rxIRYW_20 S0 ws S base dd a v ∧ (rzCk S0 → rzDq S0 → rzWr S0 = rzPn → S 480 14 = 0 → (rjY5 S0 (S 480 9) (S 480 21) (S 480 18) (S 487) (S 488) (S 496 base) (S 496 (base + 1)) dd 0 0 ∧ S 496 (base + 2) = dd))
noncomputable def rxmRYK_20 (S0 : Nat → Int → Int) (ws : List Int) (S : Nat → Int → Int) (base dd a v : Int) : Nat := rxmRYW_20 S0 ws S base dd a v
noncomputable def rxzRYK_20 : rx_Z := ([(0, 0), (0, 0), (0, 0), (0, 0), (0, 0), (0, 0), (0, 0), (0, 0), (0, 110), (0, 1), (3, 113), (0, 400)], [], [], 0, 0, 157, [(0, .inr (3, (0, 480))), (1, .inr (0, (8, 0))), (2, .inr (0, (9, 0)))], [.inr (0, (11, 0)), .inr (0, (10, 0)), .inr (3, (0, 496))])
noncomputable def rxIRYK_21 (S0 : Nat → Int → Int) (ws : List Int) (S : Nat → Int → Int) (base dd a v : Int) : Prop := rxIRYW_21 S0 ws S base dd a v ∧ (rzCk S0 → rzDq S0 → rzWr S0 = rzPn → S 480 14 = 0 → (rjY5 S0 (S 480 9) (S 480 21) (S 480 18) (S 487) (S 488) (S 496 base) (S 496 (base + 1)) dd 0 0 ∧ S 496 (base + 2) = dd ∧ S 496 (base + 3) = S0 480 18))
noncomputable def rxmRYK_21 (S0 : Nat → Int → Int) (ws : List Int) (S : Nat → Int → Int) (base dd a v : Int) : Nat := rxmRYW_21 S0 ws S base dd a v
noncomputable def rxzRYK_21 : rx_Z := ([(0, 0), (0, 0), (0, 0), (0, 0), (0, 0), (0, 0), (0, 0), (0, 0), (0, 110), (0, 1), (3, 113), (0, 400)], [], [], 0, 0, 158, [(0, .inr (3, (0, 480))), (1, .inr (0, (8, 0))), (2, .inr (0, (9, 0)))], [])
noncomputable def rxIRYK_22 (S0 : Nat → Int → Int) (ws : List Int) (S : Nat → Int → Int) (base dd : Int) : Prop := rxIRYW_22 S0 ws S base dd ∧ (rzCk S0 → rzDq S0 → rzWr S0 = rzPn → S 480 14 = 0 → (rjY5 S0 (S 480 9) (S 480 21) (S 480 18) (S 487) (S 488) (S 496 base) (S 496 (base + 1)) dd 0 0 ∧ S 496 (base + 2) = dd ∧ S 496 (base + 3) = S0 480 18))
noncomputable def rxmRYK_22 (S0 : Nat → Int → Int) (ws : List Int) (S : Nat → Int → Int) (base dd : Int) : Nat := rxmRYW_22 S0 ws S base dd
noncomputable def rxzRYK_22 : rx_Z := ([(0, 0), (0, 0), (0, 0), (0, 0), (0, 0), (0, 0), (0, 0), (0, 0), (0, 110), (0, 1)], [], [], 0, 0, 171, [(0, .inr (3, (0, 480))), (1, .inr (0, (8, 0))), (2, .inr (0, (9, 0)))], [.inr (0, (0, 0)), .inr (3, (0, 480))])
noncomputable def rxIRYK_23 (S0 : Nat → Int → Int) (ws : List Int) (S : Nat → Int → Int) (base dd : Int) : Prop := rxIRYW_23 S0 ws S base dd ∧ (rzCk S0 → rzDq S0 → rzWr S0 = rzPn → S 480 14 = 0 → (rjY6 S0 (S 480 9) (S 480 21) (S 480 18) (S 487) (S 488) (S 496 base) (S 496 (base + 1)) dd 0 0 ∧ S 496 (base + 2) = dd ∧ S 496 (base + 3) = S0 480 18))
noncomputable def rxmRYK_23 (S0 : Nat → Int → Int) (ws : List Int) (S : Nat → Int → Int) (base dd : Int) : Nat := rxmRYW_23 S0 ws S base dd
noncomputable def rxzRYK_23 : rx_Z := ([(0, 0), (0, 0), (0, 0), (0, 0), (0, 0), (0, 0), (0, 0), (0, 0), (0, 110), (0, 1)], [], [], 0, 0, 174, [(0, .inr (3, (0, 480))), (1, .inr (0, (8, 0))), (2, .inr (0, (9, 0)))], [])
noncomputable def rxIRYK_24 (S0 : Nat → Int → Int) (ws : List Int) (S : Nat → Int → Int) (base dd a v : Int) : Prop := rxIRYW_24 S0 ws S base dd a v ∧ (rzCk S0 → rzDq S0 → rzWr S0 = rzPn → S 480 14 = 0 → (rjY6 S0 (S 480 9) (S 480 21) (S 480 18) (S 487) (S 488) (S 496 base) (S 496 (base + 1)) dd 0 0 ∧ S 496 (base + 2) = dd ∧ S 496 (base + 3) = S0 480 18))
noncomputable def rxmRYK_24 (S0 : Nat → Int → Int) (ws : List Int) (S : Nat → Int → Int) (base dd a v : Int) : Nat := rxmRYW_24 S0 ws S base dd a v
noncomputable def rxzRYK_24 : rx_Z := ([(0, 0), (0, 0), (0, 0), (0, 0), (0, 0), (0, 0), (0, 0), (0, 0), (0, 110), (0, 1), (4, 114), (0, 400)], [], [], 0, 0, 185, [(0, .inr (3, (0, 480))), (1, .inr (0, (8, 0))), (2, .inr (0, (9, 0)))], [.inr (0, (11, 0)), .inr (0, (10, 0)), .inr (3, (0, 496))])
noncomputable def rxIRYK_25 (S0 : Nat → Int → Int) (ws : List Int) (S : Nat → Int → Int) (base dd a v : Int) : Prop := rxIRYW_25 S0 ws S base dd a v ∧ (rzCk S0 → rzDq S0 → rzWr S0 = rzPn → S 480 14 = 0 → (rjY6 S0 (S 480 9) (S 480 21) (S 480 18) (S 487) (S 488) (S 496 base) (S 496 (base + 1)) dd 0 0 ∧ S 496 (base + 2) = dd ∧ S 496 (base + 3) = S0 480 18))
noncomputable def rxmRYK_25 (S0 : Nat → Int → Int) (ws : List Int) (S : Nat → Int → Int) (base dd a v : Int) : Nat := rxmRYW_25 S0 ws S base dd a v
noncomputable def rxzRYK_25 : rx_Z := ([(0, 0), (0, 0), (0, 0), (0, 0), (0, 0), (0, 0), (0, 0), (0, 0), (0, 110), (0, 1), (4, 114), (0, 400)], [], [], 0, 0, 186, [(0, .inr (3, (0, 480))), (1, .inr (0, (8, 0))), (2, .inr (0, (9, 0)))], [])
noncomputable def rxIRYK_26 (S0 : Nat → Int → Int) (ws : List Int) (S : Nat → Int → Int) (base dd : Int) : Prop := rxIRYW_26 S0 ws S base dd ∧ (rzCk S0 → rzDq S0 → rzWr S0 = rzPn → S 480 14 = 0 → (rjY6 S0 (S 480 9) (S 480 21) (S 480 18) (S 487) (S 488) (S 496 base) (S 496 (base + 1)) dd 0 0 ∧ S 496 (base + 2) = dd ∧ S 496 (base + 3) = S0 480 18))
noncomputable def rxmRYK_26 (S0 : Nat → Int → Int) (ws : List Int) (S : Nat → Int → Int) (base dd : Int) : Nat := rxmRYW_26 S0 ws S base dd
noncomputable def rxzRYK_26 : rx_Z := ([(0, 0), (0, 0), (0, 0), (0, 0), (0, 0), (0, 0), (0, 0), (0, 0), (0, 110), (0, 1)], [], [], 0, 0, 208, [(0, .inr (3, (0, 480))), (1, .inr (0, (8, 0))), (2, .inr (0, (9, 0)))], [.inr (3, (0, 480))])
noncomputable def rxIRYK_27 (S0 : Nat → Int → Int) (ws : List Int) (S : Nat → Int → Int) (base dd : Int) : Prop := rxIRYW_27 S0 ws S base dd ∧ (rzCk S0 → rzDq S0 → rzWr S0 = rzPn → S 480 14 = 0 → (rjY7 S0 (S 480 9) (S 480 21) (S 480 18) (S 487) (S 488) (S 496 base) (S 496 (base + 1)) dd 0 0 ∧ S 496 (base + 2) = dd ∧ S 496 (base + 3) = S0 480 18))
noncomputable def rxmRYK_27 (S0 : Nat → Int → Int) (ws : List Int) (S : Nat → Int → Int) (base dd : Int) : Nat := rxmRYW_27 S0 ws S base dd
noncomputable def rxzRYK_27 : rx_Z := ([(0, 0), (0, 0), (0, 0), (0, 0), (0, 0), (0, 0), (0, 0), (0, 0), (0, 110), (0, 1)], [], [], 0, 0, 211, [(0, .inr (3, (0, 480))), (1, .inr (0, (8, 0))), (2, .inr (0, (9, 0)))], [])
noncomputable def rxIRYK_28 (S0 : Nat → Int → Int) (ws : List Int) (S : Nat → Int → Int) (base dd : Int) : Prop := rxIRYW_28 S0 ws S base dd ∧ (rzCk S0 → rzDq S0 → rzWr S0 = rzPn → S 480 14 = 0 → (rjY7 S0 (S 480 9) (S 480 21) (S 480 18) (S 487) (S 488) (S 496 base) (S 496 (base + 1)) dd 0 0 ∧ S 496 (base + 2) = dd ∧ S 496 (base + 3) = S0 480 18))
noncomputable def rxmRYK_28 (S0 : Nat → Int → Int) (ws : List Int) (S : Nat → Int → Int) (base dd : Int) : Nat := rxmRYW_28 S0 ws S base dd
noncomputable def rxzRYK_28 : rx_Z := ([(0, 0), (0, 0), (0, 0), (0, 0), (0, 0), (0, 0), (0, 0), (0, 0), (0, 110), (0, 1)], [], [], 0, 0, 213, [(0, .inr (3, (0, 480))), (1, .inr (0, (8, 0))), (2, .inr (0, (9, 0)))], [.inr (0, (0, 0)), .inr (3, (0, 480))])
noncomputable def rxIRYK_29 (S0 : Nat → Int → Int) (ws : List Int) (S : Nat → Int → Int) (base dd : Int) : Prop := rxIRYW_29 S0 ws S base dd ∧ (rzCk S0 → rzDq S0 → rzWr S0 = rzPn → S 480 14 = 0 → (rjYH S0 (S 480 9) (S 480 21) (S 480 18) (S 487) (S 488) (S 496 base) (S 496 (base + 1)) dd (S 496 (base + 4)) 0 ∧ S 496 (base + 2) = dd ∧ S 496 (base + 3) = S0 480 18))
noncomputable def rxmRYK_29 (S0 : Nat → Int → Int) (ws : List Int) (S : Nat → Int → Int) (base dd : Int) : Nat := rxmRYW_29 S0 ws S base dd
noncomputable def rxzRYK_29 : rx_Z := ([(0, 0), (0, 0), (0, 0), (0, 0), (0, 0), (0, 0), (0, 0), (0, 0), (0, 110), (0, 1)], [], [], 0, 0, 216, [(0, .inr (3, (0, 480))), (1, .inr (0, (8, 0))), (2, .inr (0, (9, 0)))], [])
noncomputable def rxIRYK_30 (S0 : Nat → Int → Int) (ws : List Int) (S : Nat → Int → Int) (base dd a v : Int) : Prop := rxIRYW_30 S0 ws S base dd a v ∧ (rzCk S0 → rzDq S0 → rzWr S0 = rzPn → S 480 14 = 0 → (rjYH S0 (S 480 9) (S 480 21) (S 480 18) (S 487) (S 488) (S 496 base) (S 496 (base + 1)) dd (S 496 (base + 4)) 0 ∧ S 496 (base + 2) = dd ∧ S 496 (base + 3) = S0 480 18))
noncomputable def rxmRYK_30 (S0 : Nat → Int → Int) (ws : List Int) (S : Nat → Int → Int) (base dd a v : Int) : Nat := rxmRYW_30 S0 ws S base dd a v
noncomputable def rxzRYK_30 : rx_Z := ([(0, 0), (0, 0), (0, 0), (0, 0), (0, 0), (0, 0), (0, 0), (0, 0), (0, 110), (0, 1), (5, 115), (0, 400)], [], [], 0, 0, 227, [(0, .inr (3, (0, 480))), (1, .inr (0, (8, 0))), (2, .inr (0, (9, 0)))], [.inr (0, (11, 0)), .inr (0, (10, 0)), .inr (3, (0, 496))])
noncomputable def rxIRYK_31 (S0 : Nat → Int → Int) (ws : List Int) (S : Nat → Int → Int) (base dd a v : Int) : Prop := rxIRYW_31 S0 ws S base dd a v ∧ (rzCk S0 → rzDq S0 → rzWr S0 = rzPn → S 480 14 = 0 → (rjYH S0 (S 480 9) (S 480 21) (S 480 18) (S 487) (S 488) (S 496 base) (S 496 (base + 1)) dd (S 496 (base + 4)) 0 ∧ S 496 (base + 2) = dd ∧ S 496 (base + 3) = S0 480 18))
noncomputable def rxmRYK_31 (S0 : Nat → Int → Int) (ws : List Int) (S : Nat → Int → Int) (base dd a v : Int) : Nat := rxmRYW_31 S0 ws S base dd a v
noncomputable def rxzRYK_31 : rx_Z := ([(0, 0), (0, 0), (0, 0), (0, 0), (0, 0), (0, 0), (0, 0), (0, 0), (0, 110), (0, 1), (5, 115), (0, 400)], [], [], 0, 0, 228, [(0, .inr (3, (0, 480))), (1, .inr (0, (8, 0))), (2, .inr (0, (9, 0)))], [])
noncomputable def rxIRYK_32 (S0 : Nat → Int → Int) (ws : List Int) (S : Nat → Int → Int) (base dd : Int) : Prop := rxIRYW_32 S0 ws S base dd ∧ (rzCk S0 → rzDq S0 → rzWr S0 = rzPn → S 480 14 = 0 → (rjYH S0 (S 480 9) (S 480 21) (S 480 18) (S 487) (S 488) (S 496 base) (S 496 (base + 1)) dd (S 496 (base + 4)) 0 ∧ S 496 (base + 2) = dd ∧ S 496 (base + 3) = S0 480 18))
noncomputable def rxmRYK_32 (S0 : Nat → Int → Int) (ws : List Int) (S : Nat → Int → Int) (base dd : Int) : Nat := rxmRYW_32 S0 ws S base dd
noncomputable def rxzRYK_32 : rx_Z := ([(0, 0), (0, 0), (0, 0), (0, 0), (0, 0), (0, 0), (0, 0), (0, 0), (0, 110), (0, 1)], [], [], 0, 0, 246, [(0, .inr (3, (0, 480))), (1, .inr (0, (8, 0))), (2, .inr (0, (9, 0)))], [.inr (3, (0, 480))])
noncomputable def rxIRYK_33 (S0 : Nat → Int → Int) (ws : List Int) (S : Nat → Int → Int) (base dd : Int) : Prop := rxIRYW_33 S0 ws S base dd ∧ (rzCk S0 → rzDq S0 → rzWr S0 = rzPn → S 480 14 = 0 → (rjYI S0 (S 480 9) (S 480 21) (S 480 18) (S 487) (S 488) (S 496 base) (S 496 (base + 1)) dd (S 496 (base + 4)) 0 ∧ S 496 (base + 2) = dd ∧ S 496 (base + 3) = S0 480 18))
noncomputable def rxmRYK_33 (S0 : Nat → Int → Int) (ws : List Int) (S : Nat → Int → Int) (base dd : Int) : Nat := rxmRYW_33 S0 ws S base dd
noncomputable def rxzRYK_33 : rx_Z := ([(0, 0), (0, 0), (0, 0), (0, 0), (0, 0), (0, 0), (0, 0), (0, 0), (0, 110), (0, 1)], [], [], 0, 0, 249, [(0, .inr (3, (0, 480))), (1, .inr (0, (8, 0))), (2, .inr (0, (9, 0)))], [])
noncomputable def rxIRYK_34 (S0 : Nat → Int → Int) (ws : List Int) (S : Nat → Int → Int) (base dd : Int) : Prop := rxIRYW_34 S0 ws S base dd ∧ (rzCk S0 → rzDq S0 → rzWr S0 = rzPn → S 480 14 = 0 → (rjYI S0 (S 480 9) (S 480 21) (S 480 18) (S 487) (S 488) (S 496 base) (S 496 (base + 1)) dd (S 496 (base + 4)) 0 ∧ S 496 (base + 2) = dd ∧ S 496 (base + 3) = S0 480 18))
noncomputable def rxmRYK_34 (S0 : Nat → Int → Int) (ws : List Int) (S : Nat → Int → Int) (base dd : Int) : Nat := rxmRYW_34 S0 ws S base dd
noncomputable def rxzRYK_34 : rx_Z := ([(0, 0), (0, 0), (0, 0), (0, 0), (0, 0), (0, 0), (0, 0), (0, 0), (0, 110), (0, 1)], [], [], 0, 0, 251, [(0, .inr (3, (0, 480))), (1, .inr (0, (8, 0))), (2, .inr (0, (9, 0)))], [.inr (0, (0, 1)), .inr (3, (0, 480))])
noncomputable def rxIRYK_35 (S0 : Nat → Int → Int) (ws : List Int) (S : Nat → Int → Int) (base dd : Int) : Prop := rxIRYW_35 S0 ws S base dd ∧ (rzCk S0 → rzDq S0 → rzWr S0 = rzPn → S 480 14 = 0 → (rjYJ S0 (S 480 9) (S 480 21) (S 480 18) (S 487) (S 488) (S 496 base) (S 496 (base + 1)) dd (S 496 (base + 4)) (S 496 (base + 5)) ∧ S 496 (base + 2) = dd ∧ S 496 (base + 3) = S0 480 18))
noncomputable def rxmRYK_35 (S0 : Nat → Int → Int) (ws : List Int) (S : Nat → Int → Int) (base dd : Int) : Nat := rxmRYW_35 S0 ws S base dd
noncomputable def rxzRYK_35 : rx_Z := ([(0, 0), (0, 0), (0, 0), (0, 0), (0, 0), (0, 0), (0, 0), (0, 0), (0, 110), (0, 1)], [], [], 0, 0, 254, [(0, .inr (3, (0, 480))), (1, .inr (0, (8, 0))), (2, .inr (0, (9, 0)))], [])
noncomputable def rxIRYK_36 (S0 : Nat → Int → Int) (ws : List Int) (S : Nat → Int → Int) (base dd a v : Int) : Prop := rxIRYW_36 S0 ws S base dd a v ∧ (rzCk S0 → rzDq S0 → rzWr S0 = rzPn → S 480 14 = 0 → (rjYJ S0 (S 480 9) (S 480 21) (S 480 18) (S 487) (S 488) (S 496 base) (S 496 (base + 1)) dd (S 496 (base + 4)) (S 496 (base + 5)) ∧ S 496 (base + 2) = dd ∧ S 496 (base + 3) = S0 480 18))
noncomputable def rxmRYK_36 (S0 : Nat → Int → Int) (ws : List Int) (S : Nat → Int → Int) (base dd a v : Int) : Nat := rxmRYW_36 S0 ws S base dd a v
noncomputable def rxzRYK_36 : rx_Z := ([(0, 0), (0, 0), (0, 0), (0, 0), (0, 0), (0, 0), (0, 0), (0, 0), (0, 110), (0, 1), (6, 116), (0, 400)], [], [], 0, 0, 266, [(0, .inr (3, (0, 480))), (1, .inr (0, (8, 0))), (2, .inr (0, (9, 0)))], [.inr (0, (11, 0)), .inr (0, (10, 0)), .inr (3, (0, 496))])
noncomputable def rxIRYK_37 (S0 : Nat → Int → Int) (ws : List Int) (S : Nat → Int → Int) (base dd a v : Int) : Prop := rxIRYW_37 S0 ws S base dd a v ∧ (rzCk S0 → rzDq S0 → rzWr S0 = rzPn → S 480 14 = 0 → rjYZ S0 S)
noncomputable def rxmRYK_37 (S0 : Nat → Int → Int) (ws : List Int) (S : Nat → Int → Int) (base dd a v : Int) : Nat := rxmRYW_37 S0 ws S base dd a v
noncomputable def rxzRYK_37 : rx_Z := ([(0, 0), (0, 0), (0, 0), (0, 0), (0, 0), (0, 0), (0, 0), (0, 0), (0, 110), (0, 1), (6, 116), (0, 400)], [], [], 0, 0, 267, [(0, .inr (3, (0, 480))), (1, .inr (0, (8, 0))), (2, .inr (0, (9, 0)))], [])
noncomputable def rxoRYK_0_0 : bx_HO := (([(0, 0), (0, 0), (0, 0), (0, 0), (0, 0), (0, 0), (0, 0), (0, 0), (0, 3)], [(3, (8, 0), (0, 1))], [(((0, 0), 1851192626986356799632114105031551009123054124018230966928539648000000), .inr (0, (8, 0))), (((0, 480), 11), .inr (0, (8, 0)))], 0, 0, 25, [(0, .inr (3, (0, 480)))], [.inr (0, (0, 0)), .inr (3, (0, 480))]), [], [], [(0, 0), (0, 0), (0, 0), (0, 0), (0, 0), (0, 0), (0, 0), (0, 0), (0, 0)], 1)
noncomputable def rxoRYK_0_1 : bx_HO := (([(0, 0), (0, 0), (0, 0), (0, 0), (0, 0), (0, 0), (0, 0), (0, 0), (1, 1), ((-9223372036854775808), 9223372036854775807)], [(3, (9, 0), (0, 302))], [(((0, 0), 1851192626986356799832820811818326617396875588472066220482363392000000), .inr (1, (9, 0))), (((0, 480), 12), .inr (1, (9, 0))), (((0, 0), 1851192626986356799632114105031551009123054124018230966928539648000000), .inr (0, (8, 0))), (((0, 480), 11), .inr (0, (8, 0)))], 0, 0, 25, [(0, .inr (3, (0, 480)))], [.inr (0, (0, 0)), .inr (3, (0, 480))]), [], [], [(0, 0), (0, 0), (0, 0), (0, 0), (0, 0), (0, 0), (0, 0), (0, 0), (0, 0)], 1)
noncomputable def rxoRYK_0_2 : bx_HO := (([(0, 0), (0, 0), (0, 0), (0, 0), (0, 0), (0, 0), (0, 0), (0, 0), (1, 1), (302, 302), (0, 11)], [], [(((0, 0), 1851192626986356800635647638965429050492161446287407234697658368000000), .inr (0, (10, 0))), (((0, 480), 16), .inr (0, (10, 0))), (((0, 0), 1851192626986356799832820811818326617396875588472066220482363392000000), .inr (1, (9, 0))), (((0, 480), 12), .inr (1, (9, 0))), (((0, 0), 1851192626986356799632114105031551009123054124018230966928539648000000), .inr (0, (8, 0))), (((0, 480), 11), .inr (0, (8, 0)))], 0, 0, 25, [(0, .inr (3, (0, 480)))], [.inr (0, (0, 1)), .inr (3, (0, 480))]), [], [], [(0, 0), (0, 0), (0, 0), (0, 0), (0, 0), (0, 0), (0, 0), (0, 0), (0, 1)], 1)
noncomputable def rxoRYK_0_3 : bx_HO := (([(0, 0), (0, 0), (0, 0), (0, 0), (0, 0), (0, 0), (0, 0), (0, 0), (1, 1), (302, 302), (12, 12)], [], [(((0, 0), 1851192626986356800635647638965429050492161446287407234697658368000000), .inr (0, (10, 0))), (((0, 480), 16), .inr (0, (10, 0))), (((0, 0), 1851192626986356799832820811818326617396875588472066220482363392000000), .inr (1, (9, 0))), (((0, 480), 12), .inr (1, (9, 0))), (((0, 0), 1851192626986356799632114105031551009123054124018230966928539648000000), .inr (0, (8, 0))), (((0, 480), 11), .inr (0, (8, 0)))], 0, 0, 25, [(0, .inr (3, (0, 480)))], [.inr (0, (0, 0)), .inr (3, (0, 480))]), [], [], [(0, 0), (0, 0), (0, 0), (0, 0), (0, 0), (0, 0), (0, 0), (0, 0), (0, 0)], 1)
noncomputable def rxoRYK_2_0 : bx_HO := (([(0, 0), (0, 0), (0, 0), (0, 0), (0, 0), (0, 0), (0, 0), (0, 0), (0, 1), (0, 0), (0, 12)], [], [(((0, 0), 1851192626986356800635647638965429050492161446287407234697658368000000), .inr (0, (10, 0))), (((0, 480), 16), .inr (0, (10, 0))), (((0, 0), 1851192626986356800234234225391877833944518517379736727590010880000000), .inr (0, (9, 0))), (((0, 480), 14), .inr (0, (9, 0)))], 0, 0, 42, [(0, .inr (3, (0, 480)))], [.inr (0, (10, 0)), .inr (0, (0, 10))]), [(10, 0, 11)], [], [(0, 0), (0, 0), (0, 0), (0, 0), (0, 0), (0, 0), (0, 0), (0, 0), (10, 0)], 3)
noncomputable def rxeRYK_2_0 : rx_End × List (Nat × Int × Int) := (([(0, 0), (0, 0), (0, 0), (0, 0), (0, 0), (0, 0), (0, 0), (0, 0), (0, 1), (1, 1)], [(3, (9, 0), (0, 0))], [(((0, 0), 1851192626986356800234234225391877833944518517379736727590010880000000), .inr (0, (9, 0))), (((0, 480), 14), .inr (0, (9, 0)))], none), [])
noncomputable def rxoRYK_3_0 : bx_HO := (([(0, 0), (0, 0), (0, 0), (0, 0), (0, 0), (0, 0), (0, 0), (0, 0), (0, 11), (0, 110), (0, 12)], [(14, (9, 0), (8, 0))], [(((0, 0), 1851192626986356800635647638965429050492161446287407234697658368000000), .inr (0, (10, 0))), (((0, 480), 16), .inr (0, (10, 0)))], 0, 0, 49, [(1, .inr (0, (9, 0))), (0, .inr (3, (0, 480)))], [.inr (0, (10, 0)), .inr (3, (0, 480))]), [(10, 0, 11)], [], [(0, 0), (0, 0), (0, 0), (0, 0), (0, 0), (0, 0), (0, 0), (0, 0), (9, 0), (10, 0)], 4)
noncomputable def rxoRYK_4_0 : bx_HO := (([(0, 0), (0, 0), (0, 0), (0, 0), (0, 0), (0, 0), (0, 0), (0, 0), (0, 110), (0, 11)], [], [(((0, 480), 35), .inr (3, (0, 496))), (((0, 0), 1851192626986356800635647638965429050492161446287407234697658371000000), .inr (0, (9, 1))), (((0, 480), 16), .inr (0, (9, 1)))], 0, 0, 60, [(0, .inr (3, (0, 480))), (1, .inr (0, (8, 0)))], [.inr (3, (0, 480)), .inr (0, (8, 0)), .inr (3, (0, 496))]), [], [], [(0, 0), (0, 0), (0, 0), (0, 0), (0, 0), (0, 0), (0, 0), (0, 0), (8, 0), (8, 0)], 5)
noncomputable def rxoRYK_7_0 : bx_HO := (([(0, 0), (0, 0), (0, 0), (0, 0), (0, 0), (0, 0), (0, 0), (0, 0), (0, 110), (0, 110), ((-2147483648), 2147483647)], [], [], 0, 0, 69, [(0, .inr (3, (0, 480))), (1, .inr (0, (8, 0)))], [.inr (1, (0, 52)), .inr (3, (0, 480)), .inr (3, (0, 480))]), [], [], [(0, 0), (0, 0), (0, 0), (0, 0), (0, 0), (0, 0), (0, 0), (0, 0), (8, 0)], 8)
noncomputable def rxoRYK_10_0 : bx_HO := (([(0, 0), (0, 0), (0, 0), (0, 0), (0, 0), (0, 0), (0, 0), (0, 0), (0, 110), (0, 1), (1, 1)], [(3, (10, 0), (0, 0))], [(((0, 0), 1851192626986356800234234225391877833944518517379736727590010880000000), .inr (0, (10, 0))), (((0, 480), 14), .inr (0, (10, 0))), (((0, 480), 35), .inr (3, (0, 496)))], 0, 0, 97, [(0, .inr (3, (0, 480))), (1, .inr (0, (8, 0)))], [.inr (0, (0, 0)), .inr (0, (8, 1)), .inr (3, (0, 496))]), [], [], [(0, 0), (0, 0), (0, 0), (0, 0), (0, 0), (0, 0), (0, 0), (0, 0), (8, 0), (8, 1), (0, 0)], 14)
noncomputable def rxoRYK_10_1 : bx_HO := (([(0, 0), (0, 0), (0, 0), (0, 0), (0, 0), (0, 0), (0, 0), (0, 0), (0, 110), (0, 1), (0, 0)], [], [(((0, 0), 1851192626986356800234234225391877833944518517379736727590010880000000), .inr (0, (10, 0))), (((0, 480), 14), .inr (0, (10, 0))), (((0, 480), 35), .inr (3, (0, 496)))], 0, 0, 94, [(0, .inr (3, (0, 480))), (1, .inr (0, (8, 0)))], [.inr (3, (0, 480)), .inr (0, (8, 1)), .inr (3, (0, 496))]), [], [], [(0, 0), (0, 0), (0, 0), (0, 0), (0, 0), (0, 0), (0, 0), (0, 0), (8, 0), (8, 1)], 11)
noncomputable def rxoRYK_13_0 : bx_HO := (([(0, 0), (0, 0), (0, 0), (0, 0), (0, 0), (0, 0), (0, 0), (0, 0), (0, 110), (1, 111), ((-2147483648), 2147483647), (0, 3)], [(3, (11, 0), (0, 1)), (3, (11, 0), (0, 1))], [(((0, 0), 1851192626986356799632114105031551009123054124018230966928539648000000), .inr (0, (11, 0))), (((0, 480), 11), .inr (0, (11, 0)))], 0, 0, 126, [(2, .inr (0, (0, 0))), (0, .inr (3, (0, 480))), (1, .inr (0, (8, 0)))], [.inr (0, (0, 0)), .inr (3, (0, 480))]), [], [], [(0, 0), (0, 0), (0, 0), (0, 0), (0, 0), (0, 0), (0, 0), (0, 0), (8, 0), (0, 0), (0, 0)], 16)
noncomputable def rxoRYK_13_1 : bx_HO := (([(0, 0), (0, 0), (0, 0), (0, 0), (0, 0), (0, 0), (0, 0), (0, 0), (0, 110), (1, 111), ((-2147483648), 2147483647), (1, 1), ((-9223372036854775808), 9223372036854775807)], [(3, (12, 0), (0, 19513)), (3, (12, 0), (0, 284264))], [(((0, 0), 1851192626986356799832820811818326617396875588472066220482363392000000), .inr (1, (12, 0))), (((0, 480), 12), .inr (1, (12, 0))), (((0, 0), 1851192626986356799632114105031551009123054124018230966928539648000000), .inr (0, (11, 0))), (((0, 480), 11), .inr (0, (11, 0)))], 0, 0, 126, [(2, .inr (0, (0, 0))), (0, .inr (3, (0, 480))), (1, .inr (0, (8, 0)))], [.inr (0, (0, 0)), .inr (3, (0, 480))]), [], [], [(0, 0), (0, 0), (0, 0), (0, 0), (0, 0), (0, 0), (0, 0), (0, 0), (8, 0), (0, 0), (0, 0)], 16)
noncomputable def rxoRYK_13_2 : bx_HO := (([(0, 0), (0, 0), (0, 0), (0, 0), (0, 0), (0, 0), (0, 0), (0, 0), (0, 110), (1, 111), ((-2147483648), 2147483647), (1, 1), (19513, 19513)], [(3, (12, 0), (0, 284264))], [(((0, 0), 1851192626986356799832820811818326617396875588472066220482363392000000), .inr (1, (12, 0))), (((0, 480), 12), .inr (1, (12, 0))), (((0, 0), 1851192626986356799632114105031551009123054124018230966928539648000000), .inr (0, (11, 0))), (((0, 480), 11), .inr (0, (11, 0)))], 0, 0, 126, [(2, .inr (0, (0, 0))), (0, .inr (3, (0, 480))), (1, .inr (0, (8, 0)))], [.inr (0, (0, 1)), .inr (3, (0, 480))]), [], [], [(0, 0), (0, 0), (0, 0), (0, 0), (0, 0), (0, 0), (0, 0), (0, 0), (8, 0), (0, 0), (0, 1)], 16)
noncomputable def rxoRYK_13_3 : bx_HO := (([(0, 0), (0, 0), (0, 0), (0, 0), (0, 0), (0, 0), (0, 0), (0, 0), (0, 110), (1, 111), ((-2147483648), 2147483647), (1, 1), (284264, 284264)], [], [(((0, 0), 1851192626986356799832820811818326617396875588472066220482363392000000), .inr (1, (12, 0))), (((0, 480), 12), .inr (1, (12, 0))), (((0, 0), 1851192626986356799632114105031551009123054124018230966928539648000000), .inr (0, (11, 0))), (((0, 480), 11), .inr (0, (11, 0)))], 0, 0, 126, [(2, .inr (0, (0, 1))), (0, .inr (3, (0, 480))), (1, .inr (0, (8, 0)))], [.inr (0, (0, 1)), .inr (3, (0, 480))]), [], [], [(0, 0), (0, 0), (0, 0), (0, 0), (0, 0), (0, 0), (0, 0), (0, 0), (8, 0), (0, 1), (0, 1)], 16)
noncomputable def rxoRYK_15_0 : bx_HO := (([(0, 0), (0, 0), (0, 0), (0, 0), (0, 0), (0, 0), (0, 0), (0, 0), (0, 110), (1, 111), (0, 0), (0, 3)], [(3, (11, 0), (0, 1)), (3, (11, 0), (0, 1))], [(((0, 0), 1851192626986356799632114105031551009123054124018230966928539648000000), .inr (0, (11, 0))), (((0, 480), 11), .inr (0, (11, 0)))], 0, 0, 126, [(2, .inr (0, (0, 0))), (0, .inr (3, (0, 480))), (1, .inr (0, (8, 0)))], [.inr (0, (0, 0)), .inr (3, (0, 480))]), [], [], [(0, 0), (0, 0), (0, 0), (0, 0), (0, 0), (0, 0), (0, 0), (0, 0), (8, 0), (0, 0), (0, 0)], 16)
noncomputable def rxoRYK_15_1 : bx_HO := (([(0, 0), (0, 0), (0, 0), (0, 0), (0, 0), (0, 0), (0, 0), (0, 0), (0, 110), (1, 111), (0, 0), (1, 1), ((-9223372036854775808), 9223372036854775807)], [(3, (12, 0), (0, 19513)), (3, (12, 0), (0, 284264))], [(((0, 0), 1851192626986356799832820811818326617396875588472066220482363392000000), .inr (1, (12, 0))), (((0, 480), 12), .inr (1, (12, 0))), (((0, 0), 1851192626986356799632114105031551009123054124018230966928539648000000), .inr (0, (11, 0))), (((0, 480), 11), .inr (0, (11, 0)))], 0, 0, 126, [(2, .inr (0, (0, 0))), (0, .inr (3, (0, 480))), (1, .inr (0, (8, 0)))], [.inr (0, (0, 0)), .inr (3, (0, 480))]), [], [], [(0, 0), (0, 0), (0, 0), (0, 0), (0, 0), (0, 0), (0, 0), (0, 0), (8, 0), (0, 0), (0, 0)], 16)
noncomputable def rxoRYK_15_2 : bx_HO := (([(0, 0), (0, 0), (0, 0), (0, 0), (0, 0), (0, 0), (0, 0), (0, 0), (0, 110), (1, 111), (0, 0), (1, 1), (19513, 19513)], [(3, (12, 0), (0, 284264))], [(((0, 0), 1851192626986356799832820811818326617396875588472066220482363392000000), .inr (1, (12, 0))), (((0, 480), 12), .inr (1, (12, 0))), (((0, 0), 1851192626986356799632114105031551009123054124018230966928539648000000), .inr (0, (11, 0))), (((0, 480), 11), .inr (0, (11, 0)))], 0, 0, 126, [(2, .inr (0, (0, 0))), (0, .inr (3, (0, 480))), (1, .inr (0, (8, 0)))], [.inr (0, (0, 1)), .inr (3, (0, 480))]), [], [], [(0, 0), (0, 0), (0, 0), (0, 0), (0, 0), (0, 0), (0, 0), (0, 0), (8, 0), (0, 0), (0, 1)], 16)
noncomputable def rxoRYK_15_3 : bx_HO := (([(0, 0), (0, 0), (0, 0), (0, 0), (0, 0), (0, 0), (0, 0), (0, 0), (0, 110), (1, 111), (0, 0), (1, 1), (284264, 284264)], [], [(((0, 0), 1851192626986356799832820811818326617396875588472066220482363392000000), .inr (1, (12, 0))), (((0, 480), 12), .inr (1, (12, 0))), (((0, 0), 1851192626986356799632114105031551009123054124018230966928539648000000), .inr (0, (11, 0))), (((0, 480), 11), .inr (0, (11, 0)))], 0, 0, 126, [(2, .inr (0, (0, 1))), (0, .inr (3, (0, 480))), (1, .inr (0, (8, 0)))], [.inr (0, (0, 1)), .inr (3, (0, 480))]), [], [], [(0, 0), (0, 0), (0, 0), (0, 0), (0, 0), (0, 0), (0, 0), (0, 0), (8, 0), (0, 1), (0, 1)], 16)
noncomputable def rxoRYK_17_0 : bx_HO := (([(0, 0), (0, 0), (0, 0), (0, 0), (0, 0), (0, 0), (0, 0), (0, 0), (0, 110), (1, 1), (0, 1)], [(3, (9, 0), (0, 0))], [(((0, 480), 35), .inr (3, (0, 496)))], 0, 0, 145, [(0, .inr (3, (0, 480))), (1, .inr (0, (8, 0))), (2, .inr (0, (9, 0)))], [.inr (0, (0, 1)), .inr (0, (8, 2)), .inr (3, (0, 496))]), [], [], [(0, 0), (0, 0), (0, 0), (0, 0), (0, 0), (0, 0), (0, 0), (0, 0), (8, 0), (9, 0), (8, 2), (0, 1)], 18)
noncomputable def rxoRYK_17_1 : bx_HO := (([(0, 0), (0, 0), (0, 0), (0, 0), (0, 0), (0, 0), (0, 0), (0, 0), (0, 110), (0, 0), (0, 1)], [], [(((0, 480), 35), .inr (3, (0, 496)))], 0, 0, 145, [(0, .inr (3, (0, 480))), (1, .inr (0, (8, 0))), (2, .inr (0, (9, 0)))], [.inr (0, (0, 0)), .inr (0, (8, 2)), .inr (3, (0, 496))]), [], [], [(0, 0), (0, 0), (0, 0), (0, 0), (0, 0), (0, 0), (0, 0), (0, 0), (8, 0), (9, 0), (8, 2), (0, 0)], 18)
noncomputable def rxoRYK_19_0 : bx_HO := (([(0, 0), (0, 0), (0, 0), (0, 0), (0, 0), (0, 0), (0, 0), (0, 0), (0, 110), (0, 1), (2, 112), (0, 1), (0, 400)], [], [(((0, 0), 1851192626986356801037061052538980267039804375195077741805305856000000), .inr (0, (12, 0))), (((0, 480), 18), .inr (0, (12, 0))), (((0, 480), 35), .inr (3, (0, 496)))], 0, 0, 157, [(0, .inr (3, (0, 480))), (1, .inr (0, (8, 0))), (2, .inr (0, (9, 0)))], [.inr (0, (12, 0)), .inr (0, (8, 3)), .inr (3, (0, 496))]), [], [], [(0, 0), (0, 0), (0, 0), (0, 0), (0, 0), (0, 0), (0, 0), (0, 0), (8, 0), (9, 0), (8, 3), (12, 0)], 20)
noncomputable def rxoRYK_21_0 : bx_HO := (([(0, 0), (0, 0), (0, 0), (0, 0), (0, 0), (0, 0), (0, 0), (0, 0), (0, 110), (0, 0), (3, 113), (0, 400), (0, 0)], [], [(((0, 0), 1851192626986356800234234225391877833944518517379736727590010880000000), .inr (0, (12, 0))), (((0, 480), 14), .inr (0, (12, 0)))], 0, 0, 171, [(0, .inr (3, (0, 480))), (1, .inr (0, (8, 0))), (2, .inr (0, (9, 0)))], [.inr (0, (0, 0)), .inr (3, (0, 480))]), [], [], [(0, 0), (0, 0), (0, 0), (0, 0), (0, 0), (0, 0), (0, 0), (0, 0), (8, 0), (9, 0)], 22)
noncomputable def rxoRYK_21_1 : bx_HO := (([(0, 0), (0, 0), (0, 0), (0, 0), (0, 0), (0, 0), (0, 0), (0, 0), (0, 110), (1, 1), (3, 113), (0, 400), (0, 0), (0, 400)], [(3, (9, 0), (0, 0))], [(((0, 0), 1851192626986356801037061052538980267039804375195077741805305856000000), .inr (0, (13, 0))), (((0, 480), 18), .inr (0, (13, 0))), (((0, 480), 35), .inr (3, (0, 496))), (((0, 0), 1851192626986356800234234225391877833944518517379736727590010880000000), .inr (0, (12, 0))), (((0, 480), 14), .inr (0, (12, 0)))], 0, 0, 185, [(0, .inr (3, (0, 480))), (1, .inr (0, (8, 0))), (2, .inr (0, (9, 0)))], [.inr (0, (13, 0)), .inr (0, (8, 4)), .inr (3, (0, 496))]), [], [], [(0, 0), (0, 0), (0, 0), (0, 0), (0, 0), (0, 0), (0, 0), (0, 0), (8, 0), (9, 0), (8, 4), (13, 0)], 24)
noncomputable def rxoRYK_21_2 : bx_HO := (([(0, 0), (0, 0), (0, 0), (0, 0), (0, 0), (0, 0), (0, 0), (0, 0), (0, 110), (0, 1), (3, 113), (0, 400), (1, 1), (0, 400)], [(3, (12, 0), (0, 0))], [(((0, 0), 1851192626986356801037061052538980267039804375195077741805305856000000), .inr (0, (13, 0))), (((0, 480), 18), .inr (0, (13, 0))), (((0, 480), 35), .inr (3, (0, 496))), (((0, 0), 1851192626986356800234234225391877833944518517379736727590010880000000), .inr (0, (12, 0))), (((0, 480), 14), .inr (0, (12, 0)))], 0, 0, 185, [(0, .inr (3, (0, 480))), (1, .inr (0, (8, 0))), (2, .inr (0, (9, 0)))], [.inr (0, (13, 0)), .inr (0, (8, 4)), .inr (3, (0, 496))]), [], [], [(0, 0), (0, 0), (0, 0), (0, 0), (0, 0), (0, 0), (0, 0), (0, 0), (8, 0), (9, 0), (8, 4), (13, 0)], 24)
noncomputable def rxoRYK_23_0 : bx_HO := (([(0, 0), (0, 0), (0, 0), (0, 0), (0, 0), (0, 0), (0, 0), (0, 0), (0, 110), (0, 1), (0, 400)], [], [(((0, 0), 1851192626986356801037061052538980267039804375195077741805305856000000), .inr (0, (10, 0))), (((0, 480), 18), .inr (0, (10, 0))), (((0, 480), 35), .inr (3, (0, 496)))], 0, 0, 185, [(0, .inr (3, (0, 480))), (1, .inr (0, (8, 0))), (2, .inr (0, (9, 0)))], [.inr (0, (10, 0)), .inr (0, (8, 4)), .inr (3, (0, 496))]), [], [], [(0, 0), (0, 0), (0, 0), (0, 0), (0, 0), (0, 0), (0, 0), (0, 0), (8, 0), (9, 0), (8, 4), (10, 0)], 24)
noncomputable def rxoRYK_25_0 : bx_HO := (([(0, 0), (0, 0), (0, 0), (0, 0), (0, 0), (0, 0), (0, 0), (0, 0), (0, 110), (0, 0), (4, 114), (0, 400), (0, 0), (0, 3), (0, 400)], [(3, (13, 0), (0, 1))], [(((0, 0), 1851192626986356801037061052538980267039804375195077741805305856000000), .inr (0, (14, 0))), (((0, 480), 18), .inr (0, (14, 0))), (((0, 480), 35), .inr (3, (0, 496))), (((0, 0), 1851192626986356799632114105031551009123054124018230966928539648000000), .inr (0, (13, 0))), (((0, 480), 11), .inr (0, (13, 0))), (((0, 0), 1851192626986356800234234225391877833944518517379736727590010880000000), .inr (0, (12, 0))), (((0, 480), 14), .inr (0, (12, 0)))], 0, 0, 227, [(0, .inr (3, (0, 480))), (1, .inr (0, (8, 0))), (2, .inr (0, (9, 0)))], [.inr (0, (14, 0)), .inr (0, (8, 5)), .inr (3, (0, 496))]), [], [], [(0, 0), (0, 0), (0, 0), (0, 0), (0, 0), (0, 0), (0, 0), (0, 0), (8, 0), (9, 0), (8, 5), (14, 0)], 30)
noncomputable def rxoRYK_25_1 : bx_HO := (([(0, 0), (0, 0), (0, 0), (0, 0), (0, 0), (0, 0), (0, 0), (0, 0), (0, 110), (0, 0), (4, 114), (0, 400), (0, 0), (1, 1), ((-9223372036854775808), 9223372036854775807), (0, 400)], [(3, (14, 0), (0, 239))], [(((0, 0), 1851192626986356801037061052538980267039804375195077741805305856000000), .inr (0, (15, 0))), (((0, 480), 18), .inr (0, (15, 0))), (((0, 480), 35), .inr (3, (0, 496))), (((0, 0), 1851192626986356799832820811818326617396875588472066220482363392000000), .inr (1, (14, 0))), (((0, 480), 12), .inr (1, (14, 0))), (((0, 0), 1851192626986356799632114105031551009123054124018230966928539648000000), .inr (0, (13, 0))), (((0, 480), 11), .inr (0, (13, 0))), (((0, 0), 1851192626986356800234234225391877833944518517379736727590010880000000), .inr (0, (12, 0))), (((0, 480), 14), .inr (0, (12, 0)))], 0, 0, 227, [(0, .inr (3, (0, 480))), (1, .inr (0, (8, 0))), (2, .inr (0, (9, 0)))], [.inr (0, (15, 0)), .inr (0, (8, 5)), .inr (3, (0, 496))]), [], [], [(0, 0), (0, 0), (0, 0), (0, 0), (0, 0), (0, 0), (0, 0), (0, 0), (8, 0), (9, 0), (8, 5), (15, 0)], 30)
noncomputable def rxoRYK_25_2 : bx_HO := (([(0, 0), (0, 0), (0, 0), (0, 0), (0, 0), (0, 0), (0, 0), (0, 0), (0, 110), (0, 0), (4, 114), (0, 400), (0, 0), (1, 1), (239, 239)], [], [(((0, 0), 1851192626986356799832820811818326617396875588472066220482363392000000), .inr (1, (14, 0))), (((0, 480), 12), .inr (1, (14, 0))), (((0, 0), 1851192626986356799632114105031551009123054124018230966928539648000000), .inr (0, (13, 0))), (((0, 480), 11), .inr (0, (13, 0))), (((0, 0), 1851192626986356800234234225391877833944518517379736727590010880000000), .inr (0, (12, 0))), (((0, 480), 14), .inr (0, (12, 0)))], 0, 0, 208, [(0, .inr (3, (0, 480))), (1, .inr (0, (8, 0))), (2, .inr (0, (9, 0)))], [.inr (3, (0, 480))]), [], [], [(0, 0), (0, 0), (0, 0), (0, 0), (0, 0), (0, 0), (0, 0), (0, 0), (8, 0), (9, 0)], 26)
noncomputable def rxoRYK_25_3 : bx_HO := (([(0, 0), (0, 0), (0, 0), (0, 0), (0, 0), (0, 0), (0, 0), (0, 0), (0, 110), (1, 1), (4, 114), (0, 400), (0, 0), (0, 400)], [(3, (9, 0), (0, 0))], [(((0, 0), 1851192626986356801037061052538980267039804375195077741805305856000000), .inr (0, (13, 0))), (((0, 480), 18), .inr (0, (13, 0))), (((0, 480), 35), .inr (3, (0, 496))), (((0, 0), 1851192626986356800234234225391877833944518517379736727590010880000000), .inr (0, (12, 0))), (((0, 480), 14), .inr (0, (12, 0)))], 0, 0, 227, [(0, .inr (3, (0, 480))), (1, .inr (0, (8, 0))), (2, .inr (0, (9, 0)))], [.inr (0, (13, 0)), .inr (0, (8, 5)), .inr (3, (0, 496))]), [], [], [(0, 0), (0, 0), (0, 0), (0, 0), (0, 0), (0, 0), (0, 0), (0, 0), (8, 0), (9, 0), (8, 5), (13, 0)], 30)
noncomputable def rxoRYK_25_4 : bx_HO := (([(0, 0), (0, 0), (0, 0), (0, 0), (0, 0), (0, 0), (0, 0), (0, 0), (0, 110), (0, 1), (4, 114), (0, 400), (1, 1), (0, 400)], [(3, (12, 0), (0, 0))], [(((0, 0), 1851192626986356801037061052538980267039804375195077741805305856000000), .inr (0, (13, 0))), (((0, 480), 18), .inr (0, (13, 0))), (((0, 480), 35), .inr (3, (0, 496))), (((0, 0), 1851192626986356800234234225391877833944518517379736727590010880000000), .inr (0, (12, 0))), (((0, 480), 14), .inr (0, (12, 0)))], 0, 0, 227, [(0, .inr (3, (0, 480))), (1, .inr (0, (8, 0))), (2, .inr (0, (9, 0)))], [.inr (0, (13, 0)), .inr (0, (8, 5)), .inr (3, (0, 496))]), [], [], [(0, 0), (0, 0), (0, 0), (0, 0), (0, 0), (0, 0), (0, 0), (0, 0), (8, 0), (9, 0), (8, 5), (13, 0)], 30)
noncomputable def rxoRYK_27_0 : bx_HO := (([(0, 0), (0, 0), (0, 0), (0, 0), (0, 0), (0, 0), (0, 0), (0, 0), (0, 110), (0, 1)], [], [], 0, 0, 213, [(0, .inr (3, (0, 480))), (1, .inr (0, (8, 0))), (2, .inr (0, (9, 0)))], [.inr (0, (0, 0)), .inr (3, (0, 480))]), [], [], [(0, 0), (0, 0), (0, 0), (0, 0), (0, 0), (0, 0), (0, 0), (0, 0), (8, 0), (9, 0)], 28)
noncomputable def rxoRYK_29_0 : bx_HO := (([(0, 0), (0, 0), (0, 0), (0, 0), (0, 0), (0, 0), (0, 0), (0, 0), (0, 110), (0, 1), (0, 400)], [], [(((0, 0), 1851192626986356801037061052538980267039804375195077741805305856000000), .inr (0, (10, 0))), (((0, 480), 18), .inr (0, (10, 0))), (((0, 480), 35), .inr (3, (0, 496)))], 0, 0, 227, [(0, .inr (3, (0, 480))), (1, .inr (0, (8, 0))), (2, .inr (0, (9, 0)))], [.inr (0, (10, 0)), .inr (0, (8, 5)), .inr (3, (0, 496))]), [], [], [(0, 0), (0, 0), (0, 0), (0, 0), (0, 0), (0, 0), (0, 0), (0, 0), (8, 0), (9, 0), (8, 5), (10, 0)], 30)
noncomputable def rxoRYK_31_0 : bx_HO := (([(0, 0), (0, 0), (0, 0), (0, 0), (0, 0), (0, 0), (0, 0), (0, 0), (0, 110), (0, 1), (5, 115), (0, 400), (0, 0), (0, 3), (0, 400)], [(3, (13, 0), (0, 1))], [(((0, 0), 1851192626986356801037061052538980267039804375195077741805305856000000), .inr (0, (14, 0))), (((0, 480), 18), .inr (0, (14, 0))), (((0, 480), 35), .inr (3, (0, 496))), (((0, 0), 1851192626986356799632114105031551009123054124018230966928539648000000), .inr (0, (13, 0))), (((0, 480), 11), .inr (0, (13, 0))), (((0, 0), 1851192626986356800234234225391877833944518517379736727590010880000000), .inr (0, (12, 0))), (((0, 480), 14), .inr (0, (12, 0)))], 0, 0, 266, [(0, .inr (3, (0, 480))), (1, .inr (0, (8, 0))), (2, .inr (0, (9, 0)))], [.inr (0, (14, 0)), .inr (0, (8, 6)), .inr (3, (0, 496))]), [], [], [(0, 0), (0, 0), (0, 0), (0, 0), (0, 0), (0, 0), (0, 0), (0, 0), (8, 0), (9, 0), (8, 6), (14, 0)], 36)
noncomputable def rxoRYK_31_1 : bx_HO := (([(0, 0), (0, 0), (0, 0), (0, 0), (0, 0), (0, 0), (0, 0), (0, 0), (0, 110), (0, 1), (5, 115), (0, 400), (0, 0), (1, 1), ((-9223372036854775808), 9223372036854775807), (0, 400)], [(3, (14, 0), (0, 294))], [(((0, 0), 1851192626986356801037061052538980267039804375195077741805305856000000), .inr (0, (15, 0))), (((0, 480), 18), .inr (0, (15, 0))), (((0, 480), 35), .inr (3, (0, 496))), (((0, 0), 1851192626986356799832820811818326617396875588472066220482363392000000), .inr (1, (14, 0))), (((0, 480), 12), .inr (1, (14, 0))), (((0, 0), 1851192626986356799632114105031551009123054124018230966928539648000000), .inr (0, (13, 0))), (((0, 480), 11), .inr (0, (13, 0))), (((0, 0), 1851192626986356800234234225391877833944518517379736727590010880000000), .inr (0, (12, 0))), (((0, 480), 14), .inr (0, (12, 0)))], 0, 0, 266, [(0, .inr (3, (0, 480))), (1, .inr (0, (8, 0))), (2, .inr (0, (9, 0)))], [.inr (0, (15, 0)), .inr (0, (8, 6)), .inr (3, (0, 496))]), [], [], [(0, 0), (0, 0), (0, 0), (0, 0), (0, 0), (0, 0), (0, 0), (0, 0), (8, 0), (9, 0), (8, 6), (15, 0)], 36)
noncomputable def rxoRYK_31_2 : bx_HO := (([(0, 0), (0, 0), (0, 0), (0, 0), (0, 0), (0, 0), (0, 0), (0, 0), (0, 110), (0, 1), (5, 115), (0, 400), (0, 0), (1, 1), (294, 294)], [], [(((0, 0), 1851192626986356799832820811818326617396875588472066220482363392000000), .inr (1, (14, 0))), (((0, 480), 12), .inr (1, (14, 0))), (((0, 0), 1851192626986356799632114105031551009123054124018230966928539648000000), .inr (0, (13, 0))), (((0, 480), 11), .inr (0, (13, 0))), (((0, 0), 1851192626986356800234234225391877833944518517379736727590010880000000), .inr (0, (12, 0))), (((0, 480), 14), .inr (0, (12, 0)))], 0, 0, 246, [(0, .inr (3, (0, 480))), (1, .inr (0, (8, 0))), (2, .inr (0, (9, 0)))], [.inr (3, (0, 480))]), [], [], [(0, 0), (0, 0), (0, 0), (0, 0), (0, 0), (0, 0), (0, 0), (0, 0), (8, 0), (9, 0)], 32)
noncomputable def rxoRYK_31_3 : bx_HO := (([(0, 0), (0, 0), (0, 0), (0, 0), (0, 0), (0, 0), (0, 0), (0, 0), (0, 110), (0, 1), (5, 115), (0, 400), (1, 1), (0, 400)], [(3, (12, 0), (0, 0))], [(((0, 0), 1851192626986356801037061052538980267039804375195077741805305856000000), .inr (0, (13, 0))), (((0, 480), 18), .inr (0, (13, 0))), (((0, 480), 35), .inr (3, (0, 496))), (((0, 0), 1851192626986356800234234225391877833944518517379736727590010880000000), .inr (0, (12, 0))), (((0, 480), 14), .inr (0, (12, 0)))], 0, 0, 266, [(0, .inr (3, (0, 480))), (1, .inr (0, (8, 0))), (2, .inr (0, (9, 0)))], [.inr (0, (13, 0)), .inr (0, (8, 6)), .inr (3, (0, 496))]), [], [], [(0, 0), (0, 0), (0, 0), (0, 0), (0, 0), (0, 0), (0, 0), (0, 0), (8, 0), (9, 0), (8, 6), (13, 0)], 36)
noncomputable def rxoRYK_33_0 : bx_HO := (([(0, 0), (0, 0), (0, 0), (0, 0), (0, 0), (0, 0), (0, 0), (0, 0), (0, 110), (0, 1)], [], [], 0, 0, 251, [(0, .inr (3, (0, 480))), (1, .inr (0, (8, 0))), (2, .inr (0, (9, 0)))], [.inr (0, (0, 1)), .inr (3, (0, 480))]), [], [], [(0, 0), (0, 0), (0, 0), (0, 0), (0, 0), (0, 0), (0, 0), (0, 0), (8, 0), (9, 0)], 34)
noncomputable def rxoRYK_35_0 : bx_HO := (([(0, 0), (0, 0), (0, 0), (0, 0), (0, 0), (0, 0), (0, 0), (0, 0), (0, 110), (0, 1), (0, 400)], [], [(((0, 0), 1851192626986356801037061052538980267039804375195077741805305856000000), .inr (0, (10, 0))), (((0, 480), 18), .inr (0, (10, 0))), (((0, 480), 35), .inr (3, (0, 496)))], 0, 0, 266, [(0, .inr (3, (0, 480))), (1, .inr (0, (8, 0))), (2, .inr (0, (9, 0)))], [.inr (0, (10, 0)), .inr (0, (8, 6)), .inr (3, (0, 496))]), [], [], [(0, 0), (0, 0), (0, 0), (0, 0), (0, 0), (0, 0), (0, 0), (0, 0), (8, 0), (9, 0), (8, 6), (10, 0)], 36)
noncomputable def rxeRYK_37_0 : rx_End × List (Nat × Int × Int) := (([(0, 0), (0, 0), (0, 0), (0, 0), (0, 0), (0, 0), (0, 0), (0, 0), (0, 110), (0, 1), (6, 116), (0, 400)], [], [], none), [])
noncomputable def rxYRYK : List bx_HE := [(rxzRYK_0, [rxoRYK_0_0, rxoRYK_0_1, rxoRYK_0_2, rxoRYK_0_3], []), (rxzRYK_1, [], []), (rxzRYK_2, [rxoRYK_2_0], [rxeRYK_2_0]), (rxzRYK_3, [rxoRYK_3_0], []), (rxzRYK_4, [rxoRYK_4_0], []), (rxzRYK_5, [], []), (rxzRYK_6, [], []), (rxzRYK_7, [rxoRYK_7_0], []), (rxzRYK_8, [], []), (rxzRYK_9, [], []), (rxzRYK_10, [rxoRYK_10_0, rxoRYK_10_1], []), (rxzRYK_11, [], []), (rxzRYK_12, [], []), (rxzRYK_13, [rxoRYK_13_0, rxoRYK_13_1, rxoRYK_13_2, rxoRYK_13_3], []), (rxzRYK_14, [], []), (rxzRYK_15, [rxoRYK_15_0, rxoRYK_15_1, rxoRYK_15_2, rxoRYK_15_3], []), (rxzRYK_16, [], []), (rxzRYK_17, [rxoRYK_17_0, rxoRYK_17_1], []), (rxzRYK_18, [], []), (rxzRYK_19, [rxoRYK_19_0], []), (rxzRYK_20, [], []), (rxzRYK_21, [rxoRYK_21_0, rxoRYK_21_1, rxoRYK_21_2], []), (rxzRYK_22, [], []), (rxzRYK_23, [rxoRYK_23_0], []), (rxzRYK_24, [], []), (rxzRYK_25, [rxoRYK_25_0, rxoRYK_25_1, rxoRYK_25_2, rxoRYK_25_3, rxoRYK_25_4], []), (rxzRYK_26, [], []), (rxzRYK_27, [rxoRYK_27_0], []), (rxzRYK_28, [], []), (rxzRYK_29, [rxoRYK_29_0], []), (rxzRYK_30, [], []), (rxzRYK_31, [rxoRYK_31_0, rxoRYK_31_1, rxoRYK_31_2, rxoRYK_31_3], []), (rxzRYK_32, [], []), (rxzRYK_33, [rxoRYK_33_0], []), (rxzRYK_34, [], []), (rxzRYK_35, [rxoRYK_35_0], []), (rxzRYK_36, [], []), (rxzRYK_37, [], [rxeRYK_37_0])]
noncomputable def rxURYK (q : bx_HE) : Bool := Nat.beq (rx_zpc q.1) 25 || Nat.beq (rx_zpc q.1) 60 || Nat.beq (rx_zpc q.1) 63 || Nat.beq (rx_zpc q.1) 69 || Nat.beq (rx_zpc q.1) 72 || Nat.beq (rx_zpc q.1) 94 || Nat.beq (rx_zpc q.1) 97 || Nat.beq (rx_zpc q.1) 97 || Nat.beq (rx_zpc q.1) 126 || Nat.beq (rx_zpc q.1) 145 || Nat.beq (rx_zpc q.1) 157 || Nat.beq (rx_zpc q.1) 171 || Nat.beq (rx_zpc q.1) 185 || Nat.beq (rx_zpc q.1) 208 || Nat.beq (rx_zpc q.1) 213 || Nat.beq (rx_zpc q.1) 227 || Nat.beq (rx_zpc q.1) 246 || Nat.beq (rx_zpc q.1) 251 || Nat.beq (rx_zpc q.1) 266
noncomputable def rxYBRYK : bx_B := (rxV, rxNP, rxDmf, bx_mdH rxCRYK.2.2.1)
set_option maxRecDepth 100000 in
theorem rxYcRYK : bx_chkH rxYBRYK rxM295 rxCRYK rxYRYK (rxURYK, fun cut z => rx_ex2 (rxCT rxYBRYK rxCnE) cut 30000 rxCRYK.2.2.2.1 295 z) = true := by decide +kernel
noncomputable def rxIRYK (S0 : Nat → Int → Int) (ws : List Int) (i : Nat) : bx_SP := fun S r => match i with | 0 => rxIRYK_0 S0 ws S | 1 => rxIRYK_1 S0 ws S (r 8) | 2 => rxIRYK_2 S0 ws S (r 8) | 3 => rxIRYK_3 S0 ws S (r 8) | 4 => rxIRYK_4 S0 ws S (r 8) (r 9) | 5 => rxIRYK_5 S0 ws S (r 8) (r 9) | 6 => rxIRYK_6 S0 ws S (r 8) (r 9) (r 10) | 7 => rxIRYK_7 S0 ws S (r 8) (r 9) (r 10) | 8 => rxIRYK_8 S0 ws S (r 8) | 9 => rxIRYK_9 S0 ws S (r 8) (r 9) | 10 => rxIRYK_10 S0 ws S (r 8) (r 9) | 11 => rxIRYK_11 S0 ws S (r 8) (r 9) | 12 => rxIRYK_12 S0 ws S (r 8) (r 9) (r 10) | 13 => rxIRYK_13 S0 ws S (r 8) (r 9) (r 10) | 14 => rxIRYK_14 S0 ws S (r 8) (r 9) (r 10) | 15 => rxIRYK_15 S0 ws S (r 8) (r 9) (r 10) | 16 => rxIRYK_16 S0 ws S (r 8) (r 9) (r 10) | 17 => rxIRYK_17 S0 ws S (r 8) (r 9) (r 10) | 18 => rxIRYK_18 S0 ws S (r 8) (r 9) (r 10) (r 11) | 19 => rxIRYK_19 S0 ws S (r 8) (r 9) (r 10) (r 11) | 20 => rxIRYK_20 S0 ws S (r 8) (r 9) (r 10) (r 11) | 21 => rxIRYK_21 S0 ws S (r 8) (r 9) (r 10) (r 11) | 22 => rxIRYK_22 S0 ws S (r 8) (r 9) | 23 => rxIRYK_23 S0 ws S (r 8) (r 9) | 24 => rxIRYK_24 S0 ws S (r 8) (r 9) (r 10) (r 11) | 25 => rxIRYK_25 S0 ws S (r 8) (r 9) (r 10) (r 11) | 26 => rxIRYK_26 S0 ws S (r 8) (r 9) | 27 => rxIRYK_27 S0 ws S (r 8) (r 9) | 28 => rxIRYK_28 S0 ws S (r 8) (r 9) | 29 => rxIRYK_29 S0 ws S (r 8) (r 9) | 30 => rxIRYK_30 S0 ws S (r 8) (r 9) (r 10) (r 11) | 31 => rxIRYK_31 S0 ws S (r 8) (r 9) (r 10) (r 11) | 32 => rxIRYK_32 S0 ws S (r 8) (r 9) | 33 => rxIRYK_33 S0 ws S (r 8) (r 9) | 34 => rxIRYK_34 S0 ws S (r 8) (r 9) | 35 => rxIRYK_35 S0 ws S (r 8) (r 9) | 36 => rxIRYK_36 S0 ws S (r 8) (r 9) (r 10) (r 11) | 37 => rxIRYK_37 S0 ws S (r 8) (r 9) (r 10) (r 11) | _ => False
noncomputable def rxmRYK (S0 : Nat → Int → Int) (ws : List Int) (i : Nat) (S : Nat → Int → Int) (r : Nat → Int) : Nat := match i with | 0 => rxmRYK_0 S0 ws S | 1 => rxmRYK_1 S0 ws S (r 8) | 2 => rxmRYK_2 S0 ws S (r 8) | 3 => rxmRYK_3 S0 ws S (r 8) | 4 => rxmRYK_4 S0 ws S (r 8) (r 9) | 5 => rxmRYK_5 S0 ws S (r 8) (r 9) | 6 => rxmRYK_6 S0 ws S (r 8) (r 9) (r 10) | 7 => rxmRYK_7 S0 ws S (r 8) (r 9) (r 10) | 8 => rxmRYK_8 S0 ws S (r 8) | 9 => rxmRYK_9 S0 ws S (r 8) (r 9) | 10 => rxmRYK_10 S0 ws S (r 8) (r 9) | 11 => rxmRYK_11 S0 ws S (r 8) (r 9) | 12 => rxmRYK_12 S0 ws S (r 8) (r 9) (r 10) | 13 => rxmRYK_13 S0 ws S (r 8) (r 9) (r 10) | 14 => rxmRYK_14 S0 ws S (r 8) (r 9) (r 10) | 15 => rxmRYK_15 S0 ws S (r 8) (r 9) (r 10) | 16 => rxmRYK_16 S0 ws S (r 8) (r 9) (r 10) | 17 => rxmRYK_17 S0 ws S (r 8) (r 9) (r 10) | 18 => rxmRYK_18 S0 ws S (r 8) (r 9) (r 10) (r 11) | 19 => rxmRYK_19 S0 ws S (r 8) (r 9) (r 10) (r 11) | 20 => rxmRYK_20 S0 ws S (r 8) (r 9) (r 10) (r 11) | 21 => rxmRYK_21 S0 ws S (r 8) (r 9) (r 10) (r 11) | 22 => rxmRYK_22 S0 ws S (r 8) (r 9) | 23 => rxmRYK_23 S0 ws S (r 8) (r 9) | 24 => rxmRYK_24 S0 ws S (r 8) (r 9) (r 10) (r 11) | 25 => rxmRYK_25 S0 ws S (r 8) (r 9) (r 10) (r 11) | 26 => rxmRYK_26 S0 ws S (r 8) (r 9) | 27 => rxmRYK_27 S0 ws S (r 8) (r 9) | 28 => rxmRYK_28 S0 ws S (r 8) (r 9) | 29 => rxmRYK_29 S0 ws S (r 8) (r 9) | 30 => rxmRYK_30 S0 ws S (r 8) (r 9) (r 10) (r 11) | 31 => rxmRYK_31 S0 ws S (r 8) (r 9) (r 10) (r 11) | 32 => rxmRYK_32 S0 ws S (r 8) (r 9) | 33 => rxmRYK_33 S0 ws S (r 8) (r 9) | 34 => rxmRYK_34 S0 ws S (r 8) (r 9) | 35 => rxmRYK_35 S0 ws S (r 8) (r 9) | 36 => rxmRYK_36 S0 ws S (r 8) (r 9) (r 10) (r 11) | 37 => rxmRYK_37 S0 ws S (r 8) (r 9) (r 10) (r 11) | _ => 0
noncomputable def rxPRYK (S0 : Nat → Int → Int) (ws : List Int) : Prop := rxPRYW S0 ws
noncomputable def rxPSRYK (S0 : Nat → Int → Int) (ws : List Int) (S : Nat → Int → Int) (w : Option Int) : Prop := w = none ∧ rxPSRYW S0 ws S w ∧ (rzCk S0 → rzDq S0 → rzWr S0 = rzPn → S 480 14 = 0 → rjYZ S0 S)
theorem rxkRYK_1 {S0 : Nat → Int → Int} {ws : List Int} {S : Nat → Int → Int} {is : Int} (hP : rxPRYK S0 ws) (hin : bx_same rxL (bx_mdl rxCRYK.2.2.1) S0 S) (I0 : bx_Inv rxL S) (hinv : rxIRYK_1 S0 ws S is) (l8 : 0 ≤ is) (u8 : is ≤ 1) : rxPMUW S [480, is] ∧ ∀ (S_p : Nat → Int → Int), rxPSMUW S [480, is] S_p none → bx_Inv rxL S_p → bx_same rxL (bx_mdl rxCMUW.2.2.1) S S_p → rxIRYK_2 S0 ws S_p is ∧ rxmRYK_2 S0 ws S_p is < rxmRYK_1 S0 ws S is := by
  obtain ⟨hI, hx⟩ := hinv
  have g_ := rxkRYW_1 hP hin I0 hI l8 u8
  exact ⟨g_.1, fun S_p hq I1 hsm => ⟨⟨(g_.2 S_p hq I1 hsm).1, (by
    intro c hD hW z
    have e := hI.1.1
    have b18 : 0 ≤ S 480 18 ∧ S 480 18 ≤ 400 := I0 480 18 (by decide) (by decide)
    subst e
    have hi := hI.2 hD
    have h14 := hP.2.1
    obtain ⟨-, -, is2, hw2, hc⟩ := hq.2.1
    have he : is = is2 := Option.some.inj (congrArg (fun l : List Int => l[1]?) hw2)
    have nw := (hq.2.2.1 h14 hD).1 z
    have hin : rzIs (rzCut (S 485)) (S 480 8) rzW_in (S 480 9) = true := by
      rcases hi with v | v
      · exact v.2.2
      · exfalso
        omega
    exact ⟨hin, nw.2.2, ⟨(hsm 480 21 (by decide) (by decide) (by decide +kernel)), (hsm 480 18 (by decide) (by decide) (by decide +kernel)), fun i x y => rkFm_sm hsm (by decide +kernel) i x (by omega)⟩, rfl, rfl, rfl, rfl, rfl⟩)⟩, (g_.2 S_p hq I1 hsm).2⟩⟩
theorem rxsRYK_1 {X : (Nat → Int → Int) → Prop} {S0 : Nat → Int → Int} {ws : List Int} (hP : rxPRYK S0 ws) : rx_obK X S0 rxCRYK.2.2.1 rxCMUW.2.2.1 (rxIRYK S0 ws) (rxmRYK S0 ws) 1 2 rxzRYK_1 rxzRYK_2 [.inr (3, (0, 480)), .inr (0, (8, 0))] none rxPMUW rxPSMUW := by
  intro S r hinv hXS I0 hin hs_ hf_
  have b_ := bx_bds_sat hs_
  have f_ := bx_fcl_ok hs_.1 hf_
  obtain ⟨⟨l8, u8⟩, -⟩ := b_
  have g := rxkRYK_1 hP hin I0 hinv l8 u8
  have ea : List.map (bx_num r) [.inr (3, (0, 480)), .inr (0, (8, 0))] = [480, (r 8)] := by
    simp only [List.map_cons, List.map_nil, bx_xv_ok hs_.1]
    rfl
  rw [ea]
  refine ⟨g.1, fun S_p w r_p hPS hX_p I1 hsm hr hw hs_p => ?_⟩
  have hw : w = none := hPS.1
  subst hw
  have g2 := g.2 S_p hPS I1 hsm
  show rxIRYK_2 S0 ws S_p (r_p 8) ∧ rxmRYK_2 S0 ws S_p (r_p 8) < _
  rw [hr 8 (by decide)]
  exact g2
theorem rxkRYK_5 {S0 : Nat → Int → Int} {ws : List Int} {S : Nat → Int → Int} {base a : Int} (hP : rxPRYK S0 ws) (hin : bx_same rxL (bx_mdl rxCRYK.2.2.1) S0 S) (I0 : bx_Inv rxL S) (hinv : rxIRYK_5 S0 ws S base a) (l8 : 0 ≤ base) (u8 : base ≤ 110) (l9 : 0 ≤ a) (u9 : a ≤ 110) : rxPRPLK S [480] ∧ ∀ (S_p : Nat → Int → Int) (v : Int), (-2147483648) ≤ v → v ≤ 2147483647 → rxPSRPLK S [480] S_p (some v) → bx_Inv rxL S_p → bx_same rxL (bx_mdl rxCRPLK.2.2.1) S S_p → rxIRYK_6 S0 ws S_p base a v ∧ rxmRYK_6 S0 ws S_p base a v < rxmRYK_5 S0 ws S base a := by
  obtain ⟨hI, hx⟩ := hinv
  have g_ := rxkRYW_5 hP hin I0 hI l8 u8 l9 u9
  exact ⟨g_.1, fun S_p v l_ u_ hq I1 hsm => ⟨⟨(g_.2 S_p v l_ u_ hq.1 I1 hsm).1, (by
    intro c hD hW z
    have b0 : S0 480 18 ≤ 400 := hP.2.2.2
    have bs : 0 ≤ S 480 18 ∧ S 480 18 ≤ 400 := I0 480 18 (by decide) (by decide)
    have z14 : S 480 14 = 0 := hI.2.1
    obtain ⟨kr, dq, -⟩ := (hI.2.2 c hD hW).1 z14
    obtain ⟨p, nw⟩ := (hq.1.2 dq z14).1 z
    have h1 := hx c hD hW z14
    exact rjY2_of h1 kr p nw.2.2 (hsm 480 21 (by decide) (by decide) (by decide +kernel)) (hsm 480 18 (by decide) (by decide) (by decide +kernel)) (Option.some.inj (hq.2 dq z14 z)) (fun i x y => rkFm_sm hsm (by decide +kernel) i x y) b0)⟩, (g_.2 S_p v l_ u_ hq.1 I1 hsm).2⟩⟩
theorem rxsRYK_5 {X : (Nat → Int → Int) → Prop} {S0 : Nat → Int → Int} {ws : List Int} (hP : rxPRYK S0 ws) : rx_obK X S0 rxCRYK.2.2.1 rxCRPLK.2.2.1 (rxIRYK S0 ws) (rxmRYK S0 ws) 5 6 rxzRYK_5 rxzRYK_6 [.inr (3, (0, 480))] (some 10) rxPRPLK rxPSRPLK := by
  intro S r hinv hXS I0 hin hs_ hf_
  have b_ := bx_bds_sat hs_
  have f_ := bx_fcl_ok hs_.1 hf_
  obtain ⟨⟨l8, u8⟩, ⟨l9, u9⟩, -⟩ := b_
  have g := rxkRYK_5 hP hin I0 hinv l8 u8 l9 u9
  have ea : List.map (bx_num r) [.inr (3, (0, 480))] = [480] := by
    simp only [List.map_cons, List.map_nil, bx_xv_ok hs_.1]
    rfl
  rw [ea]
  refine ⟨g.1, fun S_p w r_p hPS hX_p I1 hsm hr hw hs_p => ?_⟩
  have hw := hw _ rfl
  subst hw
  have b_p := hs_p.2.2 10 _ _ rfl
  have g2 := g.2 S_p (r_p 10) b_p.1 b_p.2 hPS I1 hsm
  show rxIRYK_6 S0 ws S_p (r_p 8) (r_p 9) (r_p 10) ∧ rxmRYK_6 S0 ws S_p (r_p 8) (r_p 9) (r_p 10) < _
  rw [hr 8 (by decide), hr 9 (by decide)]
  exact g2
theorem rxtRYK_6 {S0 : Nat → Int → Int} {ws : List Int} {S : Nat → Int → Int} {base a v : Int} (hP : rxPRYK S0 ws) (hin : bx_same rxL (bx_mdl rxCRYK.2.2.1) S0 S) (I0 : bx_Inv rxL S) (hinv : rxIRYK_6 S0 ws S base a v) (l8 : 0 ≤ base) (u8 : base ≤ 110) (l9 : 0 ≤ a) (u9 : a ≤ 110) (l10 : (-2147483648) ≤ v) (u10 : v ≤ 2147483647) : bx_okT rxL (rxL.2.2.1 496 a) v ∧ rxIRYK_7 S0 ws (bx_up S 496 a v) base a v ∧ rxmRYK_7 S0 ws (bx_up S 496 a v) base a v < rxmRYK_6 S0 ws S base a v := by
  obtain ⟨hI, hx⟩ := hinv
  obtain ⟨a_, c_, d_⟩ := rxtRYW_6 hP hin I0 hI l8 u8 l9 u9 l10 u10
  exact ⟨a_, ⟨c_, (by
    intro c hD hW z
    have ha := hI.1.2
    subst ha
    exact rj_tr (F := rjY2 S0) (hx c hD hW (show S 480 14 = 0 from ((bx_up_ne (by omega))).symm.trans z)) ((bx_up_ne (by omega))) ((bx_up_ne (by omega))) ((bx_up_ne (by omega))) (funext fun _ => (bx_up_ne (by omega))) (funext fun _ => (bx_up_ne (by omega))) (bx_up_at) (rfl) (rfl) (rfl) (rfl))⟩, d_⟩
theorem rxsRYK_6 {X : (Nat → Int → Int) → Prop} {S0 : Nat → Int → Int} {ws : List Int} (hP : rxPRYK S0 ws) (hX : ∀ S S1 : Nat → Int → Int, X S → bx_same rxL (bx_mdl rxCRYK.2.2.1) S S1 → X S1) : rx_obS X S0 rxCRYK.2.2.1 (rxIRYK S0 ws) (rxmRYK S0 ws) 6 7 rxzRYK_6 496 9 10 := by
  intro S r hinv hXS I0 hin hs_ hf_
  have b_ := bx_bds_sat hs_
  have f_ := bx_fcl_ok hs_.1 hf_
  obtain ⟨⟨l8, u8⟩, ⟨l9, u9⟩, ⟨l10, u10⟩, -⟩ := b_
  have g := rxtRYK_6 hP hin I0 hinv l8 u8 l9 u9 l10 u10
  exact ⟨g.1, g.2.1, g.2.2, hX _ _ hXS (rx_same_upR (fun _ _ _ _ _ => rfl) (tc := 0) (n := 120) (g := 77) rfl (by decide +kernel) l9 u9), rx_same_upR hin (tc := 0) (n := 120) (g := 77) rfl (by decide +kernel) l9 u9⟩
theorem rxkRYK_8 {S0 : Nat → Int → Int} {ws : List Int} {S : Nat → Int → Int} {base : Int} (hP : rxPRYK S0 ws) (hin : bx_same rxL (bx_mdl rxCRYK.2.2.1) S0 S) (I0 : bx_Inv rxL S) (hinv : rxIRYK_8 S0 ws S base) (l8 : 0 ≤ base) (u8 : base ≤ 110) : rxPIWW S [480, 52] ∧ ∀ (S_p : Nat → Int → Int) (is : Int), 0 ≤ is → is ≤ 1 → rxPSIWW S [480, 52] S_p (some is) → bx_Inv rxL S_p → bx_same rxL (bx_mdl rxCIWW.2.2.1) S S_p → rxIRYK_9 S0 ws S_p base is ∧ rxmRYK_9 S0 ws S_p base is < rxmRYK_8 S0 ws S base := by
  obtain ⟨hI, hx⟩ := hinv
  have g_ := rxkRYW_8 hP hin I0 hI l8 u8
  exact ⟨g_.1, fun S_p is l_ u_ hq I1 hsm => ⟨⟨(g_.2 S_p is l_ u_ hq I1 hsm).1, (by
    obtain ⟨e2, -⟩ := hq.1
    subst e2
    exact hx)⟩, (g_.2 S_p is l_ u_ hq I1 hsm).2⟩⟩
theorem rxsRYK_8 {X : (Nat → Int → Int) → Prop} {S0 : Nat → Int → Int} {ws : List Int} (hP : rxPRYK S0 ws) : rx_obK X S0 rxCRYK.2.2.1 rxCIWW.2.2.1 (rxIRYK S0 ws) (rxmRYK S0 ws) 8 9 rxzRYK_8 rxzRYK_9 [.inr (3, (0, 480)), .inr (1, (0, 52))] (some 9) rxPIWW rxPSIWW := by
  intro S r hinv hXS I0 hin hs_ hf_
  have b_ := bx_bds_sat hs_
  have f_ := bx_fcl_ok hs_.1 hf_
  obtain ⟨⟨l8, u8⟩, -⟩ := b_
  have g := rxkRYK_8 hP hin I0 hinv l8 u8
  have ea : List.map (bx_num r) [.inr (3, (0, 480)), .inr (1, (0, 52))] = [480, 52] := by
    simp only [List.map_cons, List.map_nil, bx_xv_ok hs_.1]
    rfl
  rw [ea]
  refine ⟨g.1, fun S_p w r_p hPS hX_p I1 hsm hr hw hs_p => ?_⟩
  have hw := hw _ rfl
  subst hw
  have b_p := hs_p.2.2 9 _ _ rfl
  have g2 := g.2 S_p (r_p 9) b_p.1 b_p.2 hPS I1 hsm
  show rxIRYK_9 S0 ws S_p (r_p 8) (r_p 9) ∧ rxmRYK_9 S0 ws S_p (r_p 8) (r_p 9) < _
  rw [hr 8 (by decide)]
  exact g2
theorem rxkRYK_9 {S0 : Nat → Int → Int} {ws : List Int} {S : Nat → Int → Int} {base is : Int} (hP : rxPRYK S0 ws) (hin : bx_same rxL (bx_mdl rxCRYK.2.2.1) S0 S) (I0 : bx_Inv rxL S) (hinv : rxIRYK_9 S0 ws S base is) (l8 : 0 ≤ base) (u8 : base ≤ 110) (l9 : 0 ≤ is) (u9 : is ≤ 1) : rxPMUW S [480, is] ∧ ∀ (S_p : Nat → Int → Int), rxPSMUW S [480, is] S_p none → bx_Inv rxL S_p → bx_same rxL (bx_mdl rxCMUW.2.2.1) S S_p → rxIRYK_10 S0 ws S_p base is ∧ rxmRYK_10 S0 ws S_p base is < rxmRYK_9 S0 ws S base is := by
  obtain ⟨hI, hx⟩ := hinv
  have g_ := rxkRYW_9 hP hin I0 hI l8 u8 l9 u9
  exact ⟨g_.1, fun S_p hq I1 hsm => ⟨⟨(g_.2 S_p hq I1 hsm).1, (by
    intro c hD hW z
    have b0 : S0 480 18 ≤ 400 := hP.2.2.2
    have bs : 0 ≤ S 480 18 ∧ S 480 18 ≤ 400 := I0 480 18 (by decide) (by decide)
    have hi := hI.2.2
    obtain ⟨-, -, is2, hw2, hc⟩ := hq.2.1
    have he : is = is2 := Option.some.inj (congrArg (fun l : List Int => l[1]?) hw2)
    by_cases z14 : S 480 14 = 0
    · obtain ⟨kr, dq, -⟩ := (hI.2.1 c hD hW).1 z14
      have nw := (hq.2.2.1 z14 dq).1 z
      have h1 := hx c hD hW z14
      have p : rzIs (rzCut (S 485)) (S 480 8) rzW_at (S 480 9) = true := by
        rcases hi dq with v | v
        · exact v.2
        · exfalso
          omega
      have pg : rxPgx S0 S base := hI.1.1
      obtain ⟨-, -, eb, b16, b16b, -⟩ := pg
      have q0 : S_p 496 base = S 496 base := (rx_sameR hsm (p := 496) (tc := 0) (n := 120) (g := 77) (j := base) rfl (by omega) (by decide +kernel) (by decide +kernel) (by omega) (by omega))
      rw [q0]
      exact rjY3_of h1 kr p nw.2.2 (hsm 480 21 (by decide) (by decide) (by decide +kernel)) (hsm 480 18 (by decide) (by decide) (by decide +kernel)) (fun i x y => rkFm_sm hsm (by decide +kernel) i x y) b0
    · exact absurd z (hq.2.2.2 z14).1)⟩, (g_.2 S_p hq I1 hsm).2⟩⟩
theorem rxsRYK_9 {X : (Nat → Int → Int) → Prop} {S0 : Nat → Int → Int} {ws : List Int} (hP : rxPRYK S0 ws) : rx_obK X S0 rxCRYK.2.2.1 rxCMUW.2.2.1 (rxIRYK S0 ws) (rxmRYK S0 ws) 9 10 rxzRYK_9 rxzRYK_10 [.inr (3, (0, 480)), .inr (0, (9, 0))] none rxPMUW rxPSMUW := by
  intro S r hinv hXS I0 hin hs_ hf_
  have b_ := bx_bds_sat hs_
  have f_ := bx_fcl_ok hs_.1 hf_
  obtain ⟨⟨l8, u8⟩, ⟨l9, u9⟩, -⟩ := b_
  have g := rxkRYK_9 hP hin I0 hinv l8 u8 l9 u9
  have ea : List.map (bx_num r) [.inr (3, (0, 480)), .inr (0, (9, 0))] = [480, (r 9)] := by
    simp only [List.map_cons, List.map_nil, bx_xv_ok hs_.1]
    rfl
  rw [ea]
  refine ⟨g.1, fun S_p w r_p hPS hX_p I1 hsm hr hw hs_p => ?_⟩
  have hw : w = none := hPS.1
  subst hw
  have g2 := g.2 S_p hPS I1 hsm
  show rxIRYK_10 S0 ws S_p (r_p 8) (r_p 9) ∧ rxmRYK_10 S0 ws S_p (r_p 8) (r_p 9) < _
  rw [hr 8 (by decide), hr 9 (by decide)]
  exact g2
theorem rxkRYK_11 {S0 : Nat → Int → Int} {ws : List Int} {S : Nat → Int → Int} {base a : Int} (hP : rxPRYK S0 ws) (hin : bx_same rxL (bx_mdl rxCRYK.2.2.1) S0 S) (I0 : bx_Inv rxL S) (hinv : rxIRYK_11 S0 ws S base a) (l8 : 0 ≤ base) (u8 : base ≤ 110) (l9 : 1 ≤ a) (u9 : a ≤ 111) : rxPRPLK S [480] ∧ ∀ (S_p : Nat → Int → Int) (v : Int), (-2147483648) ≤ v → v ≤ 2147483647 → rxPSRPLK S [480] S_p (some v) → bx_Inv rxL S_p → bx_same rxL (bx_mdl rxCRPLK.2.2.1) S S_p → rxIRYK_12 S0 ws S_p base a v ∧ rxmRYK_12 S0 ws S_p base a v < rxmRYK_11 S0 ws S base a := by
  obtain ⟨hI, hx⟩ := hinv
  have g_ := rxkRYW_11 hP hin I0 hI l8 u8 l9 u9
  exact ⟨g_.1, fun S_p v l_ u_ hq I1 hsm => ⟨⟨(g_.2 S_p v l_ u_ hq.1 I1 hsm).1, (by
    intro c hD hW z
    have b0 : S0 480 18 ≤ 400 := hP.2.2.2
    have bs : 0 ≤ S 480 18 ∧ S 480 18 ≤ 400 := I0 480 18 (by decide) (by decide)
    have z14 : S 480 14 = 0 := hI.2.1
    obtain ⟨kr, dq, -⟩ := (hI.2.2 c hD hW).1 z14
    obtain ⟨p, nw⟩ := (hq.1.2 dq z14).1 z
    have h1 := hx c hD hW z14
    have pg : rxPgx S0 S base := hI.1.1.1
    obtain ⟨-, -, eb, b16, b16b, -⟩ := pg
    have q0 : S_p 496 base = S 496 base := (rx_sameR hsm (p := 496) (tc := 0) (n := 120) (g := 77) (j := base) rfl (by omega) (by decide +kernel) (by decide +kernel) (by omega) (by omega))
    rw [q0]
    exact rjY4_of h1 kr p nw.2.2 (hsm 480 21 (by decide) (by decide) (by decide +kernel)) (hsm 480 18 (by decide) (by decide) (by decide +kernel)) (Option.some.inj (hq.2 dq z14 z)) (fun i x y => rkFm_sm hsm (by decide +kernel) i x y) b0)⟩, (g_.2 S_p v l_ u_ hq.1 I1 hsm).2⟩⟩
theorem rxsRYK_11 {X : (Nat → Int → Int) → Prop} {S0 : Nat → Int → Int} {ws : List Int} (hP : rxPRYK S0 ws) : rx_obK X S0 rxCRYK.2.2.1 rxCRPLK.2.2.1 (rxIRYK S0 ws) (rxmRYK S0 ws) 11 12 rxzRYK_11 rxzRYK_12 [.inr (3, (0, 480))] (some 10) rxPRPLK rxPSRPLK := by
  intro S r hinv hXS I0 hin hs_ hf_
  have b_ := bx_bds_sat hs_
  have f_ := bx_fcl_ok hs_.1 hf_
  obtain ⟨⟨l8, u8⟩, ⟨l9, u9⟩, -⟩ := b_
  have g := rxkRYK_11 hP hin I0 hinv l8 u8 l9 u9
  have ea : List.map (bx_num r) [.inr (3, (0, 480))] = [480] := by
    simp only [List.map_cons, List.map_nil, bx_xv_ok hs_.1]
    rfl
  rw [ea]
  refine ⟨g.1, fun S_p w r_p hPS hX_p I1 hsm hr hw hs_p => ?_⟩
  have hw := hw _ rfl
  subst hw
  have b_p := hs_p.2.2 10 _ _ rfl
  have g2 := g.2 S_p (r_p 10) b_p.1 b_p.2 hPS I1 hsm
  show rxIRYK_12 S0 ws S_p (r_p 8) (r_p 9) (r_p 10) ∧ rxmRYK_12 S0 ws S_p (r_p 8) (r_p 9) (r_p 10) < _
  rw [hr 8 (by decide), hr 9 (by decide)]
  exact g2
theorem rxtRYK_12 {S0 : Nat → Int → Int} {ws : List Int} {S : Nat → Int → Int} {base a v : Int} (hP : rxPRYK S0 ws) (hin : bx_same rxL (bx_mdl rxCRYK.2.2.1) S0 S) (I0 : bx_Inv rxL S) (hinv : rxIRYK_12 S0 ws S base a v) (l8 : 0 ≤ base) (u8 : base ≤ 110) (l9 : 1 ≤ a) (u9 : a ≤ 111) (l10 : (-2147483648) ≤ v) (u10 : v ≤ 2147483647) : bx_okT rxL (rxL.2.2.1 496 a) v ∧ rxIRYK_13 S0 ws (bx_up S 496 a v) base a v ∧ rxmRYK_13 S0 ws (bx_up S 496 a v) base a v < rxmRYK_12 S0 ws S base a v := by
  obtain ⟨hI, hx⟩ := hinv
  obtain ⟨a_, c_, d_⟩ := rxtRYW_12 hP hin I0 hI l8 u8 l9 u9 l10 u10
  exact ⟨a_, ⟨c_, (by
    intro c hD hW z
    have ha := hI.1.2
    subst ha
    exact rj_tr (F := rjY4 S0) (hx c hD hW (show S 480 14 = 0 from ((bx_up_ne (by omega))).symm.trans z)) ((bx_up_ne (by omega))) ((bx_up_ne (by omega))) ((bx_up_ne (by omega))) (funext fun _ => (bx_up_ne (by omega))) (funext fun _ => (bx_up_ne (by omega))) ((bx_up_ne (by omega))) (bx_up_at) (rfl) (rfl) (rfl))⟩, d_⟩
theorem rxsRYK_12 {X : (Nat → Int → Int) → Prop} {S0 : Nat → Int → Int} {ws : List Int} (hP : rxPRYK S0 ws) (hX : ∀ S S1 : Nat → Int → Int, X S → bx_same rxL (bx_mdl rxCRYK.2.2.1) S S1 → X S1) : rx_obS X S0 rxCRYK.2.2.1 (rxIRYK S0 ws) (rxmRYK S0 ws) 12 13 rxzRYK_12 496 9 10 := by
  intro S r hinv hXS I0 hin hs_ hf_
  have b_ := bx_bds_sat hs_
  have f_ := bx_fcl_ok hs_.1 hf_
  obtain ⟨⟨l8, u8⟩, ⟨l9, u9⟩, ⟨l10, u10⟩, -⟩ := b_
  have g := rxtRYK_12 hP hin I0 hinv l8 u8 l9 u9 l10 u10
  exact ⟨g.1, g.2.1, g.2.2, hX _ _ hXS (rx_same_upR (fun _ _ _ _ _ => rfl) (tc := 0) (n := 120) (g := 77) rfl (by decide +kernel) l9 u9), rx_same_upR hin (tc := 0) (n := 120) (g := 77) rfl (by decide +kernel) l9 u9⟩
theorem rxtRYK_14 {S0 : Nat → Int → Int} {ws : List Int} {S : Nat → Int → Int} {base a v : Int} (hP : rxPRYK S0 ws) (hin : bx_same rxL (bx_mdl rxCRYK.2.2.1) S0 S) (I0 : bx_Inv rxL S) (hinv : rxIRYK_14 S0 ws S base a v) (l8 : 0 ≤ base) (u8 : base ≤ 110) (l9 : 1 ≤ a) (u9 : a ≤ 111) (l10 : 0 ≤ v) (u10 : v ≤ 0) : bx_okT rxL (rxL.2.2.1 496 a) v ∧ rxIRYK_15 S0 ws (bx_up S 496 a v) base a v ∧ rxmRYK_15 S0 ws (bx_up S 496 a v) base a v < rxmRYK_14 S0 ws S base a v := by
  obtain ⟨hI, hx⟩ := hinv
  obtain ⟨a_, c_, d_⟩ := rxtRYW_14 hP hin I0 hI l8 u8 l9 u9 l10 u10
  exact ⟨a_, ⟨c_, (by
    intro c hD hW z
    have ha := hI.1.2
    subst ha
    exact rj_tr (F := rjY4 S0) (hx c hD hW (show S 480 14 = 0 from ((bx_up_ne (by omega))).symm.trans z)) ((bx_up_ne (by omega))) ((bx_up_ne (by omega))) ((bx_up_ne (by omega))) (funext fun _ => (bx_up_ne (by omega))) (funext fun _ => (bx_up_ne (by omega))) ((bx_up_ne (by omega))) (bx_up_at) (rfl) (rfl) (rfl))⟩, d_⟩
theorem rxsRYK_14 {X : (Nat → Int → Int) → Prop} {S0 : Nat → Int → Int} {ws : List Int} (hP : rxPRYK S0 ws) (hX : ∀ S S1 : Nat → Int → Int, X S → bx_same rxL (bx_mdl rxCRYK.2.2.1) S S1 → X S1) : rx_obS X S0 rxCRYK.2.2.1 (rxIRYK S0 ws) (rxmRYK S0 ws) 14 15 rxzRYK_14 496 9 10 := by
  intro S r hinv hXS I0 hin hs_ hf_
  have b_ := bx_bds_sat hs_
  have f_ := bx_fcl_ok hs_.1 hf_
  obtain ⟨⟨l8, u8⟩, ⟨l9, u9⟩, ⟨l10, u10⟩, -⟩ := b_
  have g := rxtRYK_14 hP hin I0 hinv l8 u8 l9 u9 l10 u10
  exact ⟨g.1, g.2.1, g.2.2, hX _ _ hXS (rx_same_upR (fun _ _ _ _ _ => rfl) (tc := 0) (n := 120) (g := 77) rfl (by decide +kernel) l9 u9), rx_same_upR hin (tc := 0) (n := 120) (g := 77) rfl (by decide +kernel) l9 u9⟩
theorem rxkRYK_16 {S0 : Nat → Int → Int} {ws : List Int} {S : Nat → Int → Int} {base dd is : Int} (hP : rxPRYK S0 ws) (hin : bx_same rxL (bx_mdl rxCRYK.2.2.1) S0 S) (I0 : bx_Inv rxL S) (hinv : rxIRYK_16 S0 ws S base dd is) (l8 : 0 ≤ base) (u8 : base ≤ 110) (l9 : 0 ≤ dd) (u9 : dd ≤ 1) (l10 : 0 ≤ is) (u10 : is ≤ 1) : rxPMUW S [480, is] ∧ ∀ (S_p : Nat → Int → Int), rxPSMUW S [480, is] S_p none → bx_Inv rxL S_p → bx_same rxL (bx_mdl rxCMUW.2.2.1) S S_p → rxIRYK_17 S0 ws S_p base dd is ∧ rxmRYK_17 S0 ws S_p base dd is < rxmRYK_16 S0 ws S base dd is := by
  obtain ⟨hI, hx⟩ := hinv
  have g_ := rxkRYW_16 hP hin I0 hI l8 u8 l9 u9 l10 u10
  exact ⟨g_.1, fun S_p hq I1 hsm => ⟨⟨(g_.2 S_p hq I1 hsm).1, (by
    intro c hD hW z
    have b0 : S0 480 18 ≤ 400 := hP.2.2.2
    have bs : 0 ≤ S 480 18 ∧ S 480 18 ≤ 400 := I0 480 18 (by decide) (by decide)
    have hi := hI.2.2
    obtain ⟨-, -, is2, hw2, hc⟩ := hq.2.1
    have he : is = is2 := Option.some.inj (congrArg (fun l : List Int => l[1]?) hw2)
    by_cases z14 : S 480 14 = 0
    · obtain ⟨kr, dq, -⟩ := (hI.2.1 c hD hW).1 z14
      have nw := (hq.2.2.1 z14 dq).1 z
      have h1 := hx c hD hW z14
      have p : (dd = 1 ∧ rzIs (rzCut (S 485)) (S 480 8) rzW_hush (S 480 9) = true) ∨ (dd = 0 ∧ rzIs (rzCut (S 485)) (S 480 8) rzW_hush (S 480 9) = false ∧ rzIs (rzCut (S 485)) (S 480 8) rzW_say (S 480 9) = true) := by
        rcases hi dq with v | v | v
        · exact Or.inl ⟨v.1, v.2.2⟩
        · exact Or.inr ⟨v.1, v.2.2.2, v.2.2.1⟩
        · exfalso
          omega
      have pg : rxPgx S0 S base := hI.1.1
      obtain ⟨-, -, eb, b16, b16b, -⟩ := pg
      have q0 : S_p 496 base = S 496 base := (rx_sameR hsm (p := 496) (tc := 0) (n := 120) (g := 77) (j := base) rfl (by omega) (by decide +kernel) (by decide +kernel) (by omega) (by omega))
      have q1 : S_p 496 (base + 1) = S 496 (base + 1) := (rx_sameR hsm (p := 496) (tc := 0) (n := 120) (g := 77) (j := (base + 1)) rfl (by omega) (by decide +kernel) (by decide +kernel) (by omega) (by omega))
      rw [q0, q1]
      exact rjY5_of h1 kr p nw.2.2 (hsm 480 21 (by decide) (by decide) (by decide +kernel)) (hsm 480 18 (by decide) (by decide) (by decide +kernel)) (fun i x y => rkFm_sm hsm (by decide +kernel) i x y) b0
    · exact absurd z (hq.2.2.2 z14).1)⟩, (g_.2 S_p hq I1 hsm).2⟩⟩
theorem rxsRYK_16 {X : (Nat → Int → Int) → Prop} {S0 : Nat → Int → Int} {ws : List Int} (hP : rxPRYK S0 ws) : rx_obK X S0 rxCRYK.2.2.1 rxCMUW.2.2.1 (rxIRYK S0 ws) (rxmRYK S0 ws) 16 17 rxzRYK_16 rxzRYK_17 [.inr (3, (0, 480)), .inr (0, (10, 0))] none rxPMUW rxPSMUW := by
  intro S r hinv hXS I0 hin hs_ hf_
  have b_ := bx_bds_sat hs_
  have f_ := bx_fcl_ok hs_.1 hf_
  obtain ⟨⟨l8, u8⟩, ⟨l9, u9⟩, ⟨l10, u10⟩, -⟩ := b_
  have g := rxkRYK_16 hP hin I0 hinv l8 u8 l9 u9 l10 u10
  have ea : List.map (bx_num r) [.inr (3, (0, 480)), .inr (0, (10, 0))] = [480, (r 10)] := by
    simp only [List.map_cons, List.map_nil, bx_xv_ok hs_.1]
    rfl
  rw [ea]
  refine ⟨g.1, fun S_p w r_p hPS hX_p I1 hsm hr hw hs_p => ?_⟩
  have hw : w = none := hPS.1
  subst hw
  have g2 := g.2 S_p hPS I1 hsm
  show rxIRYK_17 S0 ws S_p (r_p 8) (r_p 9) (r_p 10) ∧ rxmRYK_17 S0 ws S_p (r_p 8) (r_p 9) (r_p 10) < _
  rw [hr 8 (by decide), hr 9 (by decide), hr 10 (by decide)]
  exact g2
theorem rxtRYK_18 {S0 : Nat → Int → Int} {ws : List Int} {S : Nat → Int → Int} {base dd a v : Int} (hP : rxPRYK S0 ws) (hin : bx_same rxL (bx_mdl rxCRYK.2.2.1) S0 S) (I0 : bx_Inv rxL S) (hinv : rxIRYK_18 S0 ws S base dd a v) (l8 : 0 ≤ base) (u8 : base ≤ 110) (l9 : 0 ≤ dd) (u9 : dd ≤ 1) (l10 : 2 ≤ a) (u10 : a ≤ 112) (l11 : 0 ≤ v) (u11 : v ≤ 1) : bx_okT rxL (rxL.2.2.1 496 a) v ∧ rxIRYK_19 S0 ws (bx_up S 496 a v) base dd a v ∧ rxmRYK_19 S0 ws (bx_up S 496 a v) base dd a v < rxmRYK_18 S0 ws S base dd a v := by
  obtain ⟨hI, hx⟩ := hinv
  obtain ⟨a_, c_, d_⟩ := rxtRYW_18 hP hin I0 hI l8 u8 l9 u9 l10 u10 l11 u11
  exact ⟨a_, ⟨c_, (by
    intro c hD hW z
    have ha := hI.1.2
    obtain ⟨h1, h2⟩ := hx c hD hW (show S 480 14 = 0 from ((bx_up_ne (by omega))).symm.trans z)
    subst ha
    exact ⟨rj_tr (F := rjY5 S0) h1 ((bx_up_ne (by omega))) ((bx_up_ne (by omega))) ((bx_up_ne (by omega))) (funext fun _ => (bx_up_ne (by omega))) (funext fun _ => (bx_up_ne (by omega))) ((bx_up_ne (by omega))) ((bx_up_ne (by omega))) (rfl) (rfl) (rfl), bx_up_at.trans h2⟩)⟩, d_⟩
theorem rxsRYK_18 {X : (Nat → Int → Int) → Prop} {S0 : Nat → Int → Int} {ws : List Int} (hP : rxPRYK S0 ws) (hX : ∀ S S1 : Nat → Int → Int, X S → bx_same rxL (bx_mdl rxCRYK.2.2.1) S S1 → X S1) : rx_obS X S0 rxCRYK.2.2.1 (rxIRYK S0 ws) (rxmRYK S0 ws) 18 19 rxzRYK_18 496 10 11 := by
  intro S r hinv hXS I0 hin hs_ hf_
  have b_ := bx_bds_sat hs_
  have f_ := bx_fcl_ok hs_.1 hf_
  obtain ⟨⟨l8, u8⟩, ⟨l9, u9⟩, ⟨l10, u10⟩, ⟨l11, u11⟩, -⟩ := b_
  have g := rxtRYK_18 hP hin I0 hinv l8 u8 l9 u9 l10 u10 l11 u11
  exact ⟨g.1, g.2.1, g.2.2, hX _ _ hXS (rx_same_upR (fun _ _ _ _ _ => rfl) (tc := 0) (n := 120) (g := 77) rfl (by decide +kernel) l10 u10), rx_same_upR hin (tc := 0) (n := 120) (g := 77) rfl (by decide +kernel) l10 u10⟩
theorem rxtRYK_20 {S0 : Nat → Int → Int} {ws : List Int} {S : Nat → Int → Int} {base dd a v : Int} (hP : rxPRYK S0 ws) (hin : bx_same rxL (bx_mdl rxCRYK.2.2.1) S0 S) (I0 : bx_Inv rxL S) (hinv : rxIRYK_20 S0 ws S base dd a v) (l8 : 0 ≤ base) (u8 : base ≤ 110) (l9 : 0 ≤ dd) (u9 : dd ≤ 1) (l10 : 3 ≤ a) (u10 : a ≤ 113) (l11 : 0 ≤ v) (u11 : v ≤ 400) : bx_okT rxL (rxL.2.2.1 496 a) v ∧ rxIRYK_21 S0 ws (bx_up S 496 a v) base dd a v ∧ rxmRYK_21 S0 ws (bx_up S 496 a v) base dd a v < rxmRYK_20 S0 ws S base dd a v := by
  obtain ⟨hI, hx⟩ := hinv
  obtain ⟨a_, c_, d_⟩ := rxtRYW_20 hP hin I0 hI l8 u8 l9 u9 l10 u10 l11 u11
  exact ⟨a_, ⟨c_, (by
    intro c hD hW z
    have ha := hI.1.2.1
    obtain ⟨h1, h2⟩ := hx c hD hW (show S 480 14 = 0 from ((bx_up_ne (by omega))).symm.trans z)
    have hv := hI.1.2.2
    have h18 : S 480 18 = S0 480 18 := h1.2.2.2.2.1.2.1
    refine ⟨rj_tr (F := rjY5 S0) h1 ((bx_up_ne (by omega))) ((bx_up_ne (by omega))) ((bx_up_ne (by omega))) (funext fun _ => (bx_up_ne (by omega))) (funext fun _ => (bx_up_ne (by omega))) ((bx_up_ne (by omega))) ((bx_up_ne (by omega))) (rfl) (rfl) (rfl), (bx_up_ne (by omega)).trans h2, ?_⟩
    rw [ha]
    exact bx_up_at.trans (hv.trans h18))⟩, d_⟩
theorem rxsRYK_20 {X : (Nat → Int → Int) → Prop} {S0 : Nat → Int → Int} {ws : List Int} (hP : rxPRYK S0 ws) (hX : ∀ S S1 : Nat → Int → Int, X S → bx_same rxL (bx_mdl rxCRYK.2.2.1) S S1 → X S1) : rx_obS X S0 rxCRYK.2.2.1 (rxIRYK S0 ws) (rxmRYK S0 ws) 20 21 rxzRYK_20 496 10 11 := by
  intro S r hinv hXS I0 hin hs_ hf_
  have b_ := bx_bds_sat hs_
  have f_ := bx_fcl_ok hs_.1 hf_
  obtain ⟨⟨l8, u8⟩, ⟨l9, u9⟩, ⟨l10, u10⟩, ⟨l11, u11⟩, -⟩ := b_
  have g := rxtRYK_20 hP hin I0 hinv l8 u8 l9 u9 l10 u10 l11 u11
  exact ⟨g.1, g.2.1, g.2.2, hX _ _ hXS (rx_same_upR (fun _ _ _ _ _ => rfl) (tc := 0) (n := 120) (g := 77) rfl (by decide +kernel) l10 u10), rx_same_upR hin (tc := 0) (n := 120) (g := 77) rfl (by decide +kernel) l10 u10⟩
theorem rxkRYK_22 {S0 : Nat → Int → Int} {ws : List Int} {S : Nat → Int → Int} {base dd : Int} (hP : rxPRYK S0 ws) (hin : bx_same rxL (bx_mdl rxCRYK.2.2.1) S0 S) (I0 : bx_Inv rxL S) (hinv : rxIRYK_22 S0 ws S base dd) (l8 : 0 ≤ base) (u8 : base ≤ 110) (l9 : 0 ≤ dd) (u9 : dd ≤ 1) : rxPREXK S [480, 0] ∧ ∀ (S_p : Nat → Int → Int), rxPSREXK S [480, 0] S_p none → bx_Inv rxL S_p → bx_same rxL (bx_mdl rxCREXK.2.2.1) S S_p → rxIRYK_23 S0 ws S_p base dd ∧ rxmRYK_23 S0 ws S_p base dd < rxmRYK_22 S0 ws S base dd := by
  obtain ⟨hI, hx⟩ := hinv
  have g_ := rxkRYW_22 hP hin I0 hI l8 u8 l9 u9
  exact ⟨g_.1, fun S_p hq I1 hsm => ⟨⟨(g_.2 S_p hq.2.1 I1 hsm).1, (by
    intro c hD hW z
    have b0 : S0 480 18 ≤ 400 := hP.2.2.2
    have bs : 0 ≤ S 480 18 ∧ S 480 18 ≤ 400 := I0 480 18 (by decide) (by decide)
    have z14 : S 480 14 = 0 := hI.1.1
    obtain ⟨kr, dq, -⟩ := (hI.2.2 c hD hW).1 z14
    have py := hI.1.2.1
    have pg : rxPgx S0 S base := py.1
    obtain ⟨-, -, eb, b16, b16b, -⟩ := pg
    obtain ⟨h1, h2, h3⟩ := hx c hD hW z14
    have q0 : S_p 496 base = S 496 base := (rx_sameR hsm (p := 496) (tc := 0) (n := 120) (g := 77) (j := base) rfl (by omega) (by decide +kernel) (by decide +kernel) (by omega) (by omega))
    have q1 : S_p 496 (base + 1) = S 496 (base + 1) := (rx_sameR hsm (p := 496) (tc := 0) (n := 120) (g := 77) (j := (base + 1)) rfl (by omega) (by decide +kernel) (by decide +kernel) (by omega) (by omega))
    have q2 : S_p 496 (base + 2) = S 496 (base + 2) := (rx_sameR hsm (p := 496) (tc := 0) (n := 120) (g := 77) (j := (base + 2)) rfl (by omega) (by decide +kernel) (by decide +kernel) (by omega) (by omega))
    have q3 : S_p 496 (base + 3) = S 496 (base + 3) := (rx_sameR hsm (p := 496) (tc := 0) (n := 120) (g := 77) (j := (base + 3)) rfl (by omega) (by decide +kernel) (by decide +kernel) (by omega) (by omega))
    rw [q0, q1]
    exact ⟨rjY6_ex hW kr h1 hI.2.1 (hq.2.1.2.2 0 rfl (kr.2.2.2.2 c) dq) (hq.2.2 0 rfl (kr.2.2.2.2 c) dq) z, q2.trans h2, q3.trans h3⟩)⟩, (g_.2 S_p hq.2.1 I1 hsm).2⟩⟩
theorem rxsRYK_22 {X : (Nat → Int → Int) → Prop} {S0 : Nat → Int → Int} {ws : List Int} (hP : rxPRYK S0 ws) : rx_obK X S0 rxCRYK.2.2.1 rxCREXK.2.2.1 (rxIRYK S0 ws) (rxmRYK S0 ws) 22 23 rxzRYK_22 rxzRYK_23 [.inr (3, (0, 480)), .inr (0, (0, 0))] none rxPREXK rxPSREXK := by
  intro S r hinv hXS I0 hin hs_ hf_
  have b_ := bx_bds_sat hs_
  have f_ := bx_fcl_ok hs_.1 hf_
  obtain ⟨⟨l8, u8⟩, ⟨l9, u9⟩, -⟩ := b_
  have g := rxkRYK_22 hP hin I0 hinv l8 u8 l9 u9
  have ea : List.map (bx_num r) [.inr (3, (0, 480)), .inr (0, (0, 0))] = [480, 0] := by
    simp only [List.map_cons, List.map_nil, bx_xv_ok hs_.1]
    rfl
  rw [ea]
  refine ⟨g.1, fun S_p w r_p hPS hX_p I1 hsm hr hw hs_p => ?_⟩
  have hw : w = none := hPS.1
  subst hw
  have g2 := g.2 S_p hPS I1 hsm
  show rxIRYK_23 S0 ws S_p (r_p 8) (r_p 9) ∧ rxmRYK_23 S0 ws S_p (r_p 8) (r_p 9) < _
  rw [hr 8 (by decide), hr 9 (by decide)]
  exact g2
theorem rxtRYK_24 {S0 : Nat → Int → Int} {ws : List Int} {S : Nat → Int → Int} {base dd a v : Int} (hP : rxPRYK S0 ws) (hin : bx_same rxL (bx_mdl rxCRYK.2.2.1) S0 S) (I0 : bx_Inv rxL S) (hinv : rxIRYK_24 S0 ws S base dd a v) (l8 : 0 ≤ base) (u8 : base ≤ 110) (l9 : 0 ≤ dd) (u9 : dd ≤ 1) (l10 : 4 ≤ a) (u10 : a ≤ 114) (l11 : 0 ≤ v) (u11 : v ≤ 400) : bx_okT rxL (rxL.2.2.1 496 a) v ∧ rxIRYK_25 S0 ws (bx_up S 496 a v) base dd a v ∧ rxmRYK_25 S0 ws (bx_up S 496 a v) base dd a v < rxmRYK_24 S0 ws S base dd a v := by
  obtain ⟨hI, hx⟩ := hinv
  obtain ⟨a_, c_, d_⟩ := rxtRYW_24 hP hin I0 hI l8 u8 l9 u9 l10 u10 l11 u11
  exact ⟨a_, ⟨c_, (by
    intro c hD hW z
    have ha := hI.1.1
    obtain ⟨h1, h2, h3⟩ := hx c hD hW (show S 480 14 = 0 from ((bx_up_ne (by omega))).symm.trans z)
    exact ⟨rj_tr (F := rjY6 S0) h1 ((bx_up_ne (by omega))) ((bx_up_ne (by omega))) ((bx_up_ne (by omega))) (funext fun _ => (bx_up_ne (by omega))) (funext fun _ => (bx_up_ne (by omega))) ((bx_up_ne (by omega))) ((bx_up_ne (by omega))) (rfl) (rfl) (rfl), (bx_up_ne (by omega)).trans h2, (bx_up_ne (by omega)).trans h3⟩)⟩, d_⟩
theorem rxsRYK_24 {X : (Nat → Int → Int) → Prop} {S0 : Nat → Int → Int} {ws : List Int} (hP : rxPRYK S0 ws) (hX : ∀ S S1 : Nat → Int → Int, X S → bx_same rxL (bx_mdl rxCRYK.2.2.1) S S1 → X S1) : rx_obS X S0 rxCRYK.2.2.1 (rxIRYK S0 ws) (rxmRYK S0 ws) 24 25 rxzRYK_24 496 10 11 := by
  intro S r hinv hXS I0 hin hs_ hf_
  have b_ := bx_bds_sat hs_
  have f_ := bx_fcl_ok hs_.1 hf_
  obtain ⟨⟨l8, u8⟩, ⟨l9, u9⟩, ⟨l10, u10⟩, ⟨l11, u11⟩, -⟩ := b_
  have g := rxtRYK_24 hP hin I0 hinv l8 u8 l9 u9 l10 u10 l11 u11
  exact ⟨g.1, g.2.1, g.2.2, hX _ _ hXS (rx_same_upR (fun _ _ _ _ _ => rfl) (tc := 0) (n := 120) (g := 77) rfl (by decide +kernel) l10 u10), rx_same_upR hin (tc := 0) (n := 120) (g := 77) rfl (by decide +kernel) l10 u10⟩
theorem rxkRYK_26 {S0 : Nat → Int → Int} {ws : List Int} {S : Nat → Int → Int} {base dd : Int} (hP : rxPRYK S0 ws) (hin : bx_same rxL (bx_mdl rxCRYK.2.2.1) S0 S) (I0 : bx_Inv rxL S) (hinv : rxIRYK_26 S0 ws S base dd) (l8 : 0 ≤ base) (u8 : base ≤ 110) (l9 : 0 ≤ dd) (u9 : dd ≤ 1) : rxPNXX S [480] ∧ ∀ (S_p : Nat → Int → Int), rxPSNXX S [480] S_p none → bx_Inv rxL S_p → bx_same rxL (bx_mdl rxCNXX.2.2.1) S S_p → rxIRYK_27 S0 ws S_p base dd ∧ rxmRYK_27 S0 ws S_p base dd < rxmRYK_26 S0 ws S base dd := by
  obtain ⟨hI, hx⟩ := hinv
  have g_ := rxkRYW_26 hP hin I0 hI l8 u8 l9 u9
  exact ⟨g_.1, fun S_p hq I1 hsm => ⟨⟨(g_.2 S_p hq I1 hsm).1, (by
    intro c hD hW z
    have b0 : S0 480 18 ≤ 400 := hP.2.2.2
    have bs : 0 ≤ S 480 18 ∧ S 480 18 ≤ 400 := I0 480 18 (by decide) (by decide)
    have z14 : S 480 14 = 0 := hI.1.1
    obtain ⟨kr, dq, -⟩ := (hI.2.2.1 c hD hW).1 z14
    have py := hI.1.2.1
    have pg : rxPgx S0 S base := py.1
    obtain ⟨-, -, eb, b16, b16b, -⟩ := pg
    obtain ⟨h1, h2, h3⟩ := hx c hD hW z14
    have q0 : S_p 496 base = S 496 base := (rx_sameR hsm (p := 496) (tc := 0) (n := 120) (g := 77) (j := base) rfl (by omega) (by decide +kernel) (by decide +kernel) (by omega) (by omega))
    have q1 : S_p 496 (base + 1) = S 496 (base + 1) := (rx_sameR hsm (p := 496) (tc := 0) (n := 120) (g := 77) (j := (base + 1)) rfl (by omega) (by decide +kernel) (by decide +kernel) (by omega) (by omega))
    have q2 : S_p 496 (base + 2) = S 496 (base + 2) := (rx_sameR hsm (p := 496) (tc := 0) (n := 120) (g := 77) (j := (base + 2)) rfl (by omega) (by decide +kernel) (by decide +kernel) (by omega) (by omega))
    have q3 : S_p 496 (base + 3) = S 496 (base + 3) := (rx_sameR hsm (p := 496) (tc := 0) (n := 120) (g := 77) (j := (base + 3)) rfl (by omega) (by decide +kernel) (by decide +kernel) (by omega) (by omega))
    have nw := rzNw_nx dq (rzKr_of hsm (by decide +kernel)) hq.2.2.1 hq.2.2.2
    rw [q0, q1]
    exact ⟨rjY7_of h1 hI.2.1 kr (hI.2.2.2 dq) nw.2.2 (hsm 480 21 (by decide) (by decide) (by decide +kernel)) (hsm 480 18 (by decide) (by decide) (by decide +kernel)) bs.2 (fun i x y => rkFm_sm hsm (by decide +kernel) i x y) b0, q2.trans h2, q3.trans h3⟩)⟩, (g_.2 S_p hq I1 hsm).2⟩⟩
theorem rxsRYK_26 {X : (Nat → Int → Int) → Prop} {S0 : Nat → Int → Int} {ws : List Int} (hP : rxPRYK S0 ws) : rx_obK X S0 rxCRYK.2.2.1 rxCNXX.2.2.1 (rxIRYK S0 ws) (rxmRYK S0 ws) 26 27 rxzRYK_26 rxzRYK_27 [.inr (3, (0, 480))] none rxPNXX rxPSNXX := by
  intro S r hinv hXS I0 hin hs_ hf_
  have b_ := bx_bds_sat hs_
  have f_ := bx_fcl_ok hs_.1 hf_
  obtain ⟨⟨l8, u8⟩, ⟨l9, u9⟩, -⟩ := b_
  have g := rxkRYK_26 hP hin I0 hinv l8 u8 l9 u9
  have ea : List.map (bx_num r) [.inr (3, (0, 480))] = [480] := by
    simp only [List.map_cons, List.map_nil, bx_xv_ok hs_.1]
    rfl
  rw [ea]
  refine ⟨g.1, fun S_p w r_p hPS hX_p I1 hsm hr hw hs_p => ?_⟩
  have hw : w = none := hPS.1
  subst hw
  have g2 := g.2 S_p hPS I1 hsm
  show rxIRYK_27 S0 ws S_p (r_p 8) (r_p 9) ∧ rxmRYK_27 S0 ws S_p (r_p 8) (r_p 9) < _
  rw [hr 8 (by decide), hr 9 (by decide)]
  exact g2
theorem rxkRYK_28 {S0 : Nat → Int → Int} {ws : List Int} {S : Nat → Int → Int} {base dd : Int} (hP : rxPRYK S0 ws) (hin : bx_same rxL (bx_mdl rxCRYK.2.2.1) S0 S) (I0 : bx_Inv rxL S) (hinv : rxIRYK_28 S0 ws S base dd) (l8 : 0 ≤ base) (u8 : base ≤ 110) (l9 : 0 ≤ dd) (u9 : dd ≤ 1) : rxPREXK S [480, 0] ∧ ∀ (S_p : Nat → Int → Int), rxPSREXK S [480, 0] S_p none → bx_Inv rxL S_p → bx_same rxL (bx_mdl rxCREXK.2.2.1) S S_p → rxIRYK_29 S0 ws S_p base dd ∧ rxmRYK_29 S0 ws S_p base dd < rxmRYK_28 S0 ws S base dd := by
  obtain ⟨hI, hx⟩ := hinv
  have g_ := rxkRYW_28 hP hin I0 hI l8 u8 l9 u9
  exact ⟨g_.1, fun S_p hq I1 hsm => ⟨⟨(g_.2 S_p hq.2.1 I1 hsm).1, (by
    intro c hD hW z
    have b0 : S0 480 18 ≤ 400 := hP.2.2.2
    have bs : 0 ≤ S 480 18 ∧ S 480 18 ≤ 400 := I0 480 18 (by decide) (by decide)
    have z14 : S 480 14 = 0 := hI.1.1
    obtain ⟨kr, dq, -⟩ := (hI.2 c hD hW).1 z14
    have py := hI.1.2.1
    have pg : rxPgx S0 S base := py.1
    obtain ⟨-, -, eb, b16, b16b, -⟩ := pg
    obtain ⟨h1, h2, h3⟩ := hx c hD hW z14
    have q0 : S_p 496 base = S 496 base := (rx_sameR hsm (p := 496) (tc := 0) (n := 120) (g := 77) (j := base) rfl (by omega) (by decide +kernel) (by decide +kernel) (by omega) (by omega))
    have q1 : S_p 496 (base + 1) = S 496 (base + 1) := (rx_sameR hsm (p := 496) (tc := 0) (n := 120) (g := 77) (j := (base + 1)) rfl (by omega) (by decide +kernel) (by decide +kernel) (by omega) (by omega))
    have q2 : S_p 496 (base + 2) = S 496 (base + 2) := (rx_sameR hsm (p := 496) (tc := 0) (n := 120) (g := 77) (j := (base + 2)) rfl (by omega) (by decide +kernel) (by decide +kernel) (by omega) (by omega))
    have q3 : S_p 496 (base + 3) = S 496 (base + 3) := (rx_sameR hsm (p := 496) (tc := 0) (n := 120) (g := 77) (j := (base + 3)) rfl (by omega) (by decide +kernel) (by decide +kernel) (by omega) (by omega))
    have q4 : S_p 496 (base + 4) = S 496 (base + 4) := (rx_sameR hsm (p := 496) (tc := 0) (n := 120) (g := 77) (j := (base + 4)) rfl (by omega) (by decide +kernel) (by decide +kernel) (by omega) (by omega))
    obtain ⟨-, p1, p2, -⟩ := py.2 z14
    have em := hI.1.2.2
    rw [q0, q1, q4]
    exact ⟨rjYH_go hW kr h1 (hq.2.1.2.2 0 rfl (kr.2.2.2.2 c) dq) (hq.2.2 0 rfl (kr.2.2.2.2 c) dq) z em (by omega), q2.trans h2, q3.trans h3⟩)⟩, (g_.2 S_p hq.2.1 I1 hsm).2⟩⟩
theorem rxsRYK_28 {X : (Nat → Int → Int) → Prop} {S0 : Nat → Int → Int} {ws : List Int} (hP : rxPRYK S0 ws) : rx_obK X S0 rxCRYK.2.2.1 rxCREXK.2.2.1 (rxIRYK S0 ws) (rxmRYK S0 ws) 28 29 rxzRYK_28 rxzRYK_29 [.inr (3, (0, 480)), .inr (0, (0, 0))] none rxPREXK rxPSREXK := by
  intro S r hinv hXS I0 hin hs_ hf_
  have b_ := bx_bds_sat hs_
  have f_ := bx_fcl_ok hs_.1 hf_
  obtain ⟨⟨l8, u8⟩, ⟨l9, u9⟩, -⟩ := b_
  have g := rxkRYK_28 hP hin I0 hinv l8 u8 l9 u9
  have ea : List.map (bx_num r) [.inr (3, (0, 480)), .inr (0, (0, 0))] = [480, 0] := by
    simp only [List.map_cons, List.map_nil, bx_xv_ok hs_.1]
    rfl
  rw [ea]
  refine ⟨g.1, fun S_p w r_p hPS hX_p I1 hsm hr hw hs_p => ?_⟩
  have hw : w = none := hPS.1
  subst hw
  have g2 := g.2 S_p hPS I1 hsm
  show rxIRYK_29 S0 ws S_p (r_p 8) (r_p 9) ∧ rxmRYK_29 S0 ws S_p (r_p 8) (r_p 9) < _
  rw [hr 8 (by decide), hr 9 (by decide)]
  exact g2
theorem rxtRYK_30 {S0 : Nat → Int → Int} {ws : List Int} {S : Nat → Int → Int} {base dd a v : Int} (hP : rxPRYK S0 ws) (hin : bx_same rxL (bx_mdl rxCRYK.2.2.1) S0 S) (I0 : bx_Inv rxL S) (hinv : rxIRYK_30 S0 ws S base dd a v) (l8 : 0 ≤ base) (u8 : base ≤ 110) (l9 : 0 ≤ dd) (u9 : dd ≤ 1) (l10 : 5 ≤ a) (u10 : a ≤ 115) (l11 : 0 ≤ v) (u11 : v ≤ 400) : bx_okT rxL (rxL.2.2.1 496 a) v ∧ rxIRYK_31 S0 ws (bx_up S 496 a v) base dd a v ∧ rxmRYK_31 S0 ws (bx_up S 496 a v) base dd a v < rxmRYK_30 S0 ws S base dd a v := by
  obtain ⟨hI, hx⟩ := hinv
  obtain ⟨a_, c_, d_⟩ := rxtRYW_30 hP hin I0 hI l8 u8 l9 u9 l10 u10 l11 u11
  exact ⟨a_, ⟨c_, (by
    intro c hD hW z
    have ha := hI.1.1
    obtain ⟨h1, h2, h3⟩ := hx c hD hW (show S 480 14 = 0 from ((bx_up_ne (by omega))).symm.trans z)
    exact ⟨rj_tr (F := rjYH S0) h1 ((bx_up_ne (by omega))) ((bx_up_ne (by omega))) ((bx_up_ne (by omega))) (funext fun _ => (bx_up_ne (by omega))) (funext fun _ => (bx_up_ne (by omega))) ((bx_up_ne (by omega))) ((bx_up_ne (by omega))) (rfl) ((bx_up_ne (by omega))) (rfl), (bx_up_ne (by omega)).trans h2, (bx_up_ne (by omega)).trans h3⟩)⟩, d_⟩
theorem rxsRYK_30 {X : (Nat → Int → Int) → Prop} {S0 : Nat → Int → Int} {ws : List Int} (hP : rxPRYK S0 ws) (hX : ∀ S S1 : Nat → Int → Int, X S → bx_same rxL (bx_mdl rxCRYK.2.2.1) S S1 → X S1) : rx_obS X S0 rxCRYK.2.2.1 (rxIRYK S0 ws) (rxmRYK S0 ws) 30 31 rxzRYK_30 496 10 11 := by
  intro S r hinv hXS I0 hin hs_ hf_
  have b_ := bx_bds_sat hs_
  have f_ := bx_fcl_ok hs_.1 hf_
  obtain ⟨⟨l8, u8⟩, ⟨l9, u9⟩, ⟨l10, u10⟩, ⟨l11, u11⟩, -⟩ := b_
  have g := rxtRYK_30 hP hin I0 hinv l8 u8 l9 u9 l10 u10 l11 u11
  exact ⟨g.1, g.2.1, g.2.2, hX _ _ hXS (rx_same_upR (fun _ _ _ _ _ => rfl) (tc := 0) (n := 120) (g := 77) rfl (by decide +kernel) l10 u10), rx_same_upR hin (tc := 0) (n := 120) (g := 77) rfl (by decide +kernel) l10 u10⟩
theorem rxkRYK_32 {S0 : Nat → Int → Int} {ws : List Int} {S : Nat → Int → Int} {base dd : Int} (hP : rxPRYK S0 ws) (hin : bx_same rxL (bx_mdl rxCRYK.2.2.1) S0 S) (I0 : bx_Inv rxL S) (hinv : rxIRYK_32 S0 ws S base dd) (l8 : 0 ≤ base) (u8 : base ≤ 110) (l9 : 0 ≤ dd) (u9 : dd ≤ 1) : rxPNXX S [480] ∧ ∀ (S_p : Nat → Int → Int), rxPSNXX S [480] S_p none → bx_Inv rxL S_p → bx_same rxL (bx_mdl rxCNXX.2.2.1) S S_p → rxIRYK_33 S0 ws S_p base dd ∧ rxmRYK_33 S0 ws S_p base dd < rxmRYK_32 S0 ws S base dd := by
  obtain ⟨hI, hx⟩ := hinv
  have g_ := rxkRYW_32 hP hin I0 hI l8 u8 l9 u9
  exact ⟨g_.1, fun S_p hq I1 hsm => ⟨⟨(g_.2 S_p hq I1 hsm).1, (by
    intro c hD hW z
    have b0 : S0 480 18 ≤ 400 := hP.2.2.2
    have bs : 0 ≤ S 480 18 ∧ S 480 18 ≤ 400 := I0 480 18 (by decide) (by decide)
    have z14 : S 480 14 = 0 := hI.1.1
    obtain ⟨kr, dq, -⟩ := (hI.2.1 c hD hW).1 z14
    have py := hI.1.2.1
    have pg : rxPgx S0 S base := py.1
    obtain ⟨-, -, eb, b16, b16b, -⟩ := pg
    obtain ⟨h1, h2, h3⟩ := hx c hD hW z14
    have q0 : S_p 496 base = S 496 base := (rx_sameR hsm (p := 496) (tc := 0) (n := 120) (g := 77) (j := base) rfl (by omega) (by decide +kernel) (by decide +kernel) (by omega) (by omega))
    have q1 : S_p 496 (base + 1) = S 496 (base + 1) := (rx_sameR hsm (p := 496) (tc := 0) (n := 120) (g := 77) (j := (base + 1)) rfl (by omega) (by decide +kernel) (by decide +kernel) (by omega) (by omega))
    have q2 : S_p 496 (base + 2) = S 496 (base + 2) := (rx_sameR hsm (p := 496) (tc := 0) (n := 120) (g := 77) (j := (base + 2)) rfl (by omega) (by decide +kernel) (by decide +kernel) (by omega) (by omega))
    have q3 : S_p 496 (base + 3) = S 496 (base + 3) := (rx_sameR hsm (p := 496) (tc := 0) (n := 120) (g := 77) (j := (base + 3)) rfl (by omega) (by decide +kernel) (by decide +kernel) (by omega) (by omega))
    have q4 : S_p 496 (base + 4) = S 496 (base + 4) := (rx_sameR hsm (p := 496) (tc := 0) (n := 120) (g := 77) (j := (base + 4)) rfl (by omega) (by decide +kernel) (by decide +kernel) (by omega) (by omega))
    have nw := rzNw_nx dq (rzKr_of hsm (by decide +kernel)) hq.2.2.1 hq.2.2.2
    obtain ⟨m1, m2, m3, -⟩ := (py.2 z14).1 4 (by omega) (by omega)
    rw [q0, q1, q4]
    exact ⟨rjYI_of h1 kr (hI.2.2 dq) nw.2.2 (hsm 480 21 (by decide) (by decide) (by decide +kernel)) (hsm 480 18 (by decide) (by decide) (by decide +kernel)) bs.2 (by omega) (fun i x y => rkFm_sm hsm (by decide +kernel) i x y) b0, q2.trans h2, q3.trans h3⟩)⟩, (g_.2 S_p hq I1 hsm).2⟩⟩
theorem rxsRYK_32 {X : (Nat → Int → Int) → Prop} {S0 : Nat → Int → Int} {ws : List Int} (hP : rxPRYK S0 ws) : rx_obK X S0 rxCRYK.2.2.1 rxCNXX.2.2.1 (rxIRYK S0 ws) (rxmRYK S0 ws) 32 33 rxzRYK_32 rxzRYK_33 [.inr (3, (0, 480))] none rxPNXX rxPSNXX := by
  intro S r hinv hXS I0 hin hs_ hf_
  have b_ := bx_bds_sat hs_
  have f_ := bx_fcl_ok hs_.1 hf_
  obtain ⟨⟨l8, u8⟩, ⟨l9, u9⟩, -⟩ := b_
  have g := rxkRYK_32 hP hin I0 hinv l8 u8 l9 u9
  have ea : List.map (bx_num r) [.inr (3, (0, 480))] = [480] := by
    simp only [List.map_cons, List.map_nil, bx_xv_ok hs_.1]
    rfl
  rw [ea]
  refine ⟨g.1, fun S_p w r_p hPS hX_p I1 hsm hr hw hs_p => ?_⟩
  have hw : w = none := hPS.1
  subst hw
  have g2 := g.2 S_p hPS I1 hsm
  show rxIRYK_33 S0 ws S_p (r_p 8) (r_p 9) ∧ rxmRYK_33 S0 ws S_p (r_p 8) (r_p 9) < _
  rw [hr 8 (by decide), hr 9 (by decide)]
  exact g2
theorem rxkRYK_34 {S0 : Nat → Int → Int} {ws : List Int} {S : Nat → Int → Int} {base dd : Int} (hP : rxPRYK S0 ws) (hin : bx_same rxL (bx_mdl rxCRYK.2.2.1) S0 S) (I0 : bx_Inv rxL S) (hinv : rxIRYK_34 S0 ws S base dd) (l8 : 0 ≤ base) (u8 : base ≤ 110) (l9 : 0 ≤ dd) (u9 : dd ≤ 1) : rxPREXK S [480, 1] ∧ ∀ (S_p : Nat → Int → Int), rxPSREXK S [480, 1] S_p none → bx_Inv rxL S_p → bx_same rxL (bx_mdl rxCREXK.2.2.1) S S_p → rxIRYK_35 S0 ws S_p base dd ∧ rxmRYK_35 S0 ws S_p base dd < rxmRYK_34 S0 ws S base dd := by
  obtain ⟨hI, hx⟩ := hinv
  have g_ := rxkRYW_34 hP hin I0 hI l8 u8 l9 u9
  exact ⟨g_.1, fun S_p hq I1 hsm => ⟨⟨(g_.2 S_p hq.2.1 I1 hsm).1, (by
    intro c hD hW z
    have b0 : S0 480 18 ≤ 400 := hP.2.2.2
    have bs : 0 ≤ S 480 18 ∧ S 480 18 ≤ 400 := I0 480 18 (by decide) (by decide)
    have z14 : S 480 14 = 0 := hI.1.1
    obtain ⟨kr, dq, -⟩ := (hI.2 c hD hW).1 z14
    have py := hI.1.2.1
    have pg : rxPgx S0 S base := py.1
    obtain ⟨-, -, eb, b16, b16b, -⟩ := pg
    obtain ⟨h1, h2, h3⟩ := hx c hD hW z14
    have q0 : S_p 496 base = S 496 base := (rx_sameR hsm (p := 496) (tc := 0) (n := 120) (g := 77) (j := base) rfl (by omega) (by decide +kernel) (by decide +kernel) (by omega) (by omega))
    have q1 : S_p 496 (base + 1) = S 496 (base + 1) := (rx_sameR hsm (p := 496) (tc := 0) (n := 120) (g := 77) (j := (base + 1)) rfl (by omega) (by decide +kernel) (by decide +kernel) (by omega) (by omega))
    have q2 : S_p 496 (base + 2) = S 496 (base + 2) := (rx_sameR hsm (p := 496) (tc := 0) (n := 120) (g := 77) (j := (base + 2)) rfl (by omega) (by decide +kernel) (by decide +kernel) (by omega) (by omega))
    have q3 : S_p 496 (base + 3) = S 496 (base + 3) := (rx_sameR hsm (p := 496) (tc := 0) (n := 120) (g := 77) (j := (base + 3)) rfl (by omega) (by decide +kernel) (by decide +kernel) (by omega) (by omega))
    have q4 : S_p 496 (base + 4) = S 496 (base + 4) := (rx_sameR hsm (p := 496) (tc := 0) (n := 120) (g := 77) (j := (base + 4)) rfl (by omega) (by decide +kernel) (by decide +kernel) (by omega) (by omega))
    have q5 : S_p 496 (base + 5) = S 496 (base + 5) := (rx_sameR hsm (p := 496) (tc := 0) (n := 120) (g := 77) (j := (base + 5)) rfl (by omega) (by decide +kernel) (by decide +kernel) (by omega) (by omega))
    obtain ⟨-, p1, p2, -⟩ := py.2 z14
    obtain ⟨m1, m2, m3, -⟩ := (py.2 z14).1 4 (by omega) (by omega)
    have ek := hI.1.2.2
    rw [q0, q1, q4, q5]
    exact ⟨rjYJ_ex hW kr h1 (hq.2.2 1 rfl (kr.2.2.2.2 c) dq) z ek (by omega) (by omega), q2.trans h2, q3.trans h3⟩)⟩, (g_.2 S_p hq.2.1 I1 hsm).2⟩⟩
theorem rxsRYK_34 {X : (Nat → Int → Int) → Prop} {S0 : Nat → Int → Int} {ws : List Int} (hP : rxPRYK S0 ws) : rx_obK X S0 rxCRYK.2.2.1 rxCREXK.2.2.1 (rxIRYK S0 ws) (rxmRYK S0 ws) 34 35 rxzRYK_34 rxzRYK_35 [.inr (3, (0, 480)), .inr (0, (0, 1))] none rxPREXK rxPSREXK := by
  intro S r hinv hXS I0 hin hs_ hf_
  have b_ := bx_bds_sat hs_
  have f_ := bx_fcl_ok hs_.1 hf_
  obtain ⟨⟨l8, u8⟩, ⟨l9, u9⟩, -⟩ := b_
  have g := rxkRYK_34 hP hin I0 hinv l8 u8 l9 u9
  have ea : List.map (bx_num r) [.inr (3, (0, 480)), .inr (0, (0, 1))] = [480, 1] := by
    simp only [List.map_cons, List.map_nil, bx_xv_ok hs_.1]
    rfl
  rw [ea]
  refine ⟨g.1, fun S_p w r_p hPS hX_p I1 hsm hr hw hs_p => ?_⟩
  have hw : w = none := hPS.1
  subst hw
  have g2 := g.2 S_p hPS I1 hsm
  show rxIRYK_35 S0 ws S_p (r_p 8) (r_p 9) ∧ rxmRYK_35 S0 ws S_p (r_p 8) (r_p 9) < _
  rw [hr 8 (by decide), hr 9 (by decide)]
  exact g2
theorem rxtRYK_36 {S0 : Nat → Int → Int} {ws : List Int} {S : Nat → Int → Int} {base dd a v : Int} (hP : rxPRYK S0 ws) (hin : bx_same rxL (bx_mdl rxCRYK.2.2.1) S0 S) (I0 : bx_Inv rxL S) (hinv : rxIRYK_36 S0 ws S base dd a v) (l8 : 0 ≤ base) (u8 : base ≤ 110) (l9 : 0 ≤ dd) (u9 : dd ≤ 1) (l10 : 6 ≤ a) (u10 : a ≤ 116) (l11 : 0 ≤ v) (u11 : v ≤ 400) : bx_okT rxL (rxL.2.2.1 496 a) v ∧ rxIRYK_37 S0 ws (bx_up S 496 a v) base dd a v ∧ rxmRYK_37 S0 ws (bx_up S 496 a v) base dd a v < rxmRYK_36 S0 ws S base dd a v := by
  obtain ⟨hI, hx⟩ := hinv
  obtain ⟨a_, c_, d_⟩ := rxtRYW_36 hP hin I0 hI l8 u8 l9 u9 l10 u10 l11 u11
  exact ⟨a_, ⟨c_, (by
    intro c hD hW z
    obtain ⟨ha, hv, py⟩ := hI.1
    subst ha
    subst hv
    obtain ⟨h1, h2, h3⟩ := hx c hD hW (show S 480 14 = 0 from ((bx_up_ne (by omega))).symm.trans z)
    exact rjYZ_of h1 h2 h3 py.1.2.2.1 py.1.2.2.2.2.2)⟩, d_⟩
theorem rxsRYK_36 {X : (Nat → Int → Int) → Prop} {S0 : Nat → Int → Int} {ws : List Int} (hP : rxPRYK S0 ws) (hX : ∀ S S1 : Nat → Int → Int, X S → bx_same rxL (bx_mdl rxCRYK.2.2.1) S S1 → X S1) : rx_obS X S0 rxCRYK.2.2.1 (rxIRYK S0 ws) (rxmRYK S0 ws) 36 37 rxzRYK_36 496 10 11 := by
  intro S r hinv hXS I0 hin hs_ hf_
  have b_ := bx_bds_sat hs_
  have f_ := bx_fcl_ok hs_.1 hf_
  obtain ⟨⟨l8, u8⟩, ⟨l9, u9⟩, ⟨l10, u10⟩, ⟨l11, u11⟩, -⟩ := b_
  have g := rxtRYK_36 hP hin I0 hinv l8 u8 l9 u9 l10 u10 l11 u11
  exact ⟨g.1, g.2.1, g.2.2, hX _ _ hXS (rx_same_upR (fun _ _ _ _ _ => rfl) (tc := 0) (n := 120) (g := 77) rfl (by decide +kernel) l10 u10), rx_same_upR hin (tc := 0) (n := 120) (g := 77) rfl (by decide +kernel) l10 u10⟩
theorem rxcRYK_0_0 {S0 : Nat → Int → Int} {ws : List Int} {S : Nat → Int → Int} {x8 : Int} (hP : rxPRYK S0 ws) (hin : bx_same rxL (bx_mdl rxCRYK.2.2.1) S0 S) (I0 : bx_Inv rxL S) (hinv : rxIRYK_0 S0 ws S) (l8 : 0 ≤ x8) (u8 : x8 ≤ 3) (f0 : x8 ≠ 1) (e0 : S 480 11 = x8) : (True) ∧ (True) ∧ rxIRYK_1 S0 ws S 0 ∧ rxmRYK_1 S0 ws S 0 < rxmRYK_0 S0 ws S := by
  obtain ⟨hI, hx⟩ := hinv
  obtain ⟨a_, b_, c_, d_⟩ := rxcRYW_0_0 hP hin I0 hI l8 u8 f0 e0
  exact ⟨a_, b_, ⟨c_, trivial⟩, d_⟩
theorem rxgRYK_0_0 {X : (Nat → Int → Int) → Prop} {S0 : Nat → Int → Int} {ws : List Int} (hP : rxPRYK S0 ws) : bx_obC rxL X S0 rxCRYK.2.2.1 (rxIRYK S0 ws) (rxmRYK S0 ws) 0 rxzRYK_0 rxoRYK_0_0 := by
  intro S S_p r r_p hinv hX hin hsm_ hseg
  obtain ⟨I0, I1, h0_, hr_, b_, f_, d_⟩ := bx_cl (evs := [(0, (0, 480), (0, 11), .inr (0, (8, 0)))]) (fvs := [(3, (8, 0), (0, 1), (0, 0))]) hseg (by decide +kernel) (by decide +kernel)
  have hinv : rxIRYK_0 S0 ws S := hinv
  obtain ⟨⟨l8, u8⟩, -⟩ := b_
  obtain ⟨f0, -⟩ := f_
  obtain ⟨e0, w_⟩ := d_
  subst w_
  have g := rxcRYK_0_0 hP hin I0 hinv l8 u8 f0 e0
  refine ⟨bx_narP_ok (l := []) g.1, bx_nfP_ok h0_ (fvs := []) (by decide +kernel) g.2.1, ?_, ?_⟩
  · show rxIRYK_1 S0 ws S_p (bx_val [(0, 0), (0, 0), (0, 0), (0, 0), (0, 0), (0, 0), (0, 0), (0, 0), (0, 0)] r_p 8)
    rw [bx_val_x (n := 8) (e := (0, 0)) h0_ rfl]
    exact g.2.2.1
  · show rxmRYK_1 S0 ws S_p (bx_val [(0, 0), (0, 0), (0, 0), (0, 0), (0, 0), (0, 0), (0, 0), (0, 0), (0, 0)] r_p 8) < rxmRYK_0 S0 ws S_p
    rw [bx_val_x (n := 8) (e := (0, 0)) h0_ rfl]
    exact g.2.2.2
theorem rxcRYK_0_1 {S0 : Nat → Int → Int} {ws : List Int} {S : Nat → Int → Int} {x8 x9 : Int} (hP : rxPRYK S0 ws) (hin : bx_same rxL (bx_mdl rxCRYK.2.2.1) S0 S) (I0 : bx_Inv rxL S) (hinv : rxIRYK_0 S0 ws S) (l8 : 1 ≤ x8) (u8 : x8 ≤ 1) (l9 : (-9223372036854775808) ≤ x9) (u9 : x9 ≤ 9223372036854775807) (f0 : x9 ≠ 302) (e1 : S 480 11 = x8) (e0 : S 480 12 = x9) : (True) ∧ (True) ∧ rxIRYK_1 S0 ws S 0 ∧ rxmRYK_1 S0 ws S 0 < rxmRYK_0 S0 ws S := by
  obtain ⟨hI, hx⟩ := hinv
  obtain ⟨a_, b_, c_, d_⟩ := rxcRYW_0_1 hP hin I0 hI l8 u8 l9 u9 f0 e1 e0
  exact ⟨a_, b_, ⟨c_, trivial⟩, d_⟩
theorem rxgRYK_0_1 {X : (Nat → Int → Int) → Prop} {S0 : Nat → Int → Int} {ws : List Int} (hP : rxPRYK S0 ws) : bx_obC rxL X S0 rxCRYK.2.2.1 (rxIRYK S0 ws) (rxmRYK S0 ws) 0 rxzRYK_0 rxoRYK_0_1 := by
  intro S S_p r r_p hinv hX hin hsm_ hseg
  obtain ⟨I0, I1, h0_, hr_, b_, f_, d_⟩ := bx_cl (evs := [(0, (0, 480), (0, 12), .inr (1, (9, 0))), (0, (0, 480), (0, 11), .inr (0, (8, 0)))]) (fvs := [(3, (9, 0), (0, 302), (0, 0))]) hseg (by decide +kernel) (by decide +kernel)
  have hinv : rxIRYK_0 S0 ws S := hinv
  obtain ⟨⟨l8, u8⟩, ⟨l9, u9⟩, -⟩ := b_
  obtain ⟨f0, -⟩ := f_
  obtain ⟨e0, ⟨e1, w_⟩⟩ := d_
  subst w_
  have g := rxcRYK_0_1 hP hin I0 hinv l8 u8 l9 u9 f0 e1 e0
  refine ⟨bx_narP_ok (l := []) g.1, bx_nfP_ok h0_ (fvs := []) (by decide +kernel) g.2.1, ?_, ?_⟩
  · show rxIRYK_1 S0 ws S_p (bx_val [(0, 0), (0, 0), (0, 0), (0, 0), (0, 0), (0, 0), (0, 0), (0, 0), (0, 0)] r_p 8)
    rw [bx_val_x (n := 8) (e := (0, 0)) h0_ rfl]
    exact g.2.2.1
  · show rxmRYK_1 S0 ws S_p (bx_val [(0, 0), (0, 0), (0, 0), (0, 0), (0, 0), (0, 0), (0, 0), (0, 0), (0, 0)] r_p 8) < rxmRYK_0 S0 ws S_p
    rw [bx_val_x (n := 8) (e := (0, 0)) h0_ rfl]
    exact g.2.2.2
theorem rxcRYK_0_2 {S0 : Nat → Int → Int} {ws : List Int} {S : Nat → Int → Int} {x8 x9 x10 : Int} (hP : rxPRYK S0 ws) (hin : bx_same rxL (bx_mdl rxCRYK.2.2.1) S0 S) (I0 : bx_Inv rxL S) (hinv : rxIRYK_0 S0 ws S) (l8 : 1 ≤ x8) (u8 : x8 ≤ 1) (l9 : 302 ≤ x9) (u9 : x9 ≤ 302) (l10 : 0 ≤ x10) (u10 : x10 ≤ 11) (e2 : S 480 11 = x8) (e1 : S 480 12 = x9) (e0 : S 480 16 = x10) : (True) ∧ (True) ∧ rxIRYK_1 S0 ws S 1 ∧ rxmRYK_1 S0 ws S 1 < rxmRYK_0 S0 ws S := by
  obtain ⟨hI, hx⟩ := hinv
  obtain ⟨a_, b_, c_, d_⟩ := rxcRYW_0_2 hP hin I0 hI l8 u8 l9 u9 l10 u10 e2 e1 e0
  exact ⟨a_, b_, ⟨c_, trivial⟩, d_⟩
theorem rxgRYK_0_2 {X : (Nat → Int → Int) → Prop} {S0 : Nat → Int → Int} {ws : List Int} (hP : rxPRYK S0 ws) : bx_obC rxL X S0 rxCRYK.2.2.1 (rxIRYK S0 ws) (rxmRYK S0 ws) 0 rxzRYK_0 rxoRYK_0_2 := by
  intro S S_p r r_p hinv hX hin hsm_ hseg
  obtain ⟨I0, I1, h0_, hr_, b_, f_, d_⟩ := bx_cl (evs := [(0, (0, 480), (0, 16), .inr (0, (10, 0))), (0, (0, 480), (0, 12), .inr (1, (9, 0))), (0, (0, 480), (0, 11), .inr (0, (8, 0)))]) (fvs := []) hseg (by decide +kernel) (by decide +kernel)
  have hinv : rxIRYK_0 S0 ws S := hinv
  obtain ⟨⟨l8, u8⟩, ⟨l9, u9⟩, ⟨l10, u10⟩, -⟩ := b_
  obtain ⟨e0, ⟨e1, ⟨e2, w_⟩⟩⟩ := d_
  subst w_
  have g := rxcRYK_0_2 hP hin I0 hinv l8 u8 l9 u9 l10 u10 e2 e1 e0
  refine ⟨bx_narP_ok (l := []) g.1, bx_nfP_ok h0_ (fvs := []) (by decide +kernel) g.2.1, ?_, ?_⟩
  · show rxIRYK_1 S0 ws S_p (bx_val [(0, 0), (0, 0), (0, 0), (0, 0), (0, 0), (0, 0), (0, 0), (0, 0), (0, 1)] r_p 8)
    rw [bx_val_x (n := 8) (e := (0, 1)) h0_ rfl]
    exact g.2.2.1
  · show rxmRYK_1 S0 ws S_p (bx_val [(0, 0), (0, 0), (0, 0), (0, 0), (0, 0), (0, 0), (0, 0), (0, 0), (0, 1)] r_p 8) < rxmRYK_0 S0 ws S_p
    rw [bx_val_x (n := 8) (e := (0, 1)) h0_ rfl]
    exact g.2.2.2
theorem rxcRYK_0_3 {S0 : Nat → Int → Int} {ws : List Int} {S : Nat → Int → Int} {x8 x9 x10 : Int} (hP : rxPRYK S0 ws) (hin : bx_same rxL (bx_mdl rxCRYK.2.2.1) S0 S) (I0 : bx_Inv rxL S) (hinv : rxIRYK_0 S0 ws S) (l8 : 1 ≤ x8) (u8 : x8 ≤ 1) (l9 : 302 ≤ x9) (u9 : x9 ≤ 302) (l10 : 12 ≤ x10) (u10 : x10 ≤ 12) (e2 : S 480 11 = x8) (e1 : S 480 12 = x9) (e0 : S 480 16 = x10) : (True) ∧ (True) ∧ rxIRYK_1 S0 ws S 0 ∧ rxmRYK_1 S0 ws S 0 < rxmRYK_0 S0 ws S := by
  obtain ⟨hI, hx⟩ := hinv
  obtain ⟨a_, b_, c_, d_⟩ := rxcRYW_0_3 hP hin I0 hI l8 u8 l9 u9 l10 u10 e2 e1 e0
  exact ⟨a_, b_, ⟨c_, trivial⟩, d_⟩
theorem rxgRYK_0_3 {X : (Nat → Int → Int) → Prop} {S0 : Nat → Int → Int} {ws : List Int} (hP : rxPRYK S0 ws) : bx_obC rxL X S0 rxCRYK.2.2.1 (rxIRYK S0 ws) (rxmRYK S0 ws) 0 rxzRYK_0 rxoRYK_0_3 := by
  intro S S_p r r_p hinv hX hin hsm_ hseg
  obtain ⟨I0, I1, h0_, hr_, b_, f_, d_⟩ := bx_cl (evs := [(0, (0, 480), (0, 16), .inr (0, (10, 0))), (0, (0, 480), (0, 12), .inr (1, (9, 0))), (0, (0, 480), (0, 11), .inr (0, (8, 0)))]) (fvs := []) hseg (by decide +kernel) (by decide +kernel)
  have hinv : rxIRYK_0 S0 ws S := hinv
  obtain ⟨⟨l8, u8⟩, ⟨l9, u9⟩, ⟨l10, u10⟩, -⟩ := b_
  obtain ⟨e0, ⟨e1, ⟨e2, w_⟩⟩⟩ := d_
  subst w_
  have g := rxcRYK_0_3 hP hin I0 hinv l8 u8 l9 u9 l10 u10 e2 e1 e0
  refine ⟨bx_narP_ok (l := []) g.1, bx_nfP_ok h0_ (fvs := []) (by decide +kernel) g.2.1, ?_, ?_⟩
  · show rxIRYK_1 S0 ws S_p (bx_val [(0, 0), (0, 0), (0, 0), (0, 0), (0, 0), (0, 0), (0, 0), (0, 0), (0, 0)] r_p 8)
    rw [bx_val_x (n := 8) (e := (0, 0)) h0_ rfl]
    exact g.2.2.1
  · show rxmRYK_1 S0 ws S_p (bx_val [(0, 0), (0, 0), (0, 0), (0, 0), (0, 0), (0, 0), (0, 0), (0, 0), (0, 0)] r_p 8) < rxmRYK_0 S0 ws S_p
    rw [bx_val_x (n := 8) (e := (0, 0)) h0_ rfl]
    exact g.2.2.2
theorem rxcRYK_2_0 {S0 : Nat → Int → Int} {ws : List Int} {S : Nat → Int → Int} {is x9 x10 : Int} (hP : rxPRYK S0 ws) (hin : bx_same rxL (bx_mdl rxCRYK.2.2.1) S0 S) (I0 : bx_Inv rxL S) (hinv : rxIRYK_2 S0 ws S is) (l8 : 0 ≤ is) (u8 : is ≤ 1) (l9 : 0 ≤ x9) (u9 : x9 ≤ 0) (l10 : 0 ≤ x10) (u10 : x10 ≤ 12) (e1 : S 480 14 = x9) (e0 : S 480 16 = x10) : ((0 ≤ x10 ∧ x10 ≤ 11) ∧ True) ∧ (True) ∧ rxIRYK_3 S0 ws S x10 ∧ rxmRYK_3 S0 ws S x10 < rxmRYK_2 S0 ws S is := by
  obtain ⟨hI, hx⟩ := hinv
  obtain ⟨a_, b_, c_, d_⟩ := rxcRYW_2_0 hP hin I0 hI l8 u8 l9 u9 l10 u10 e1 e0
  exact ⟨a_, b_, ⟨c_, hx⟩, d_⟩
theorem rxgRYK_2_0 {X : (Nat → Int → Int) → Prop} {S0 : Nat → Int → Int} {ws : List Int} (hP : rxPRYK S0 ws) : bx_obC rxL X S0 rxCRYK.2.2.1 (rxIRYK S0 ws) (rxmRYK S0 ws) 2 rxzRYK_2 rxoRYK_2_0 := by
  intro S S_p r r_p hinv hX hin hsm_ hseg
  obtain ⟨I0, I1, h0_, hr_, b_, f_, d_⟩ := bx_cl (evs := [(0, (0, 480), (0, 16), .inr (0, (10, 0))), (0, (0, 480), (0, 14), .inr (0, (9, 0)))]) (fvs := []) hseg (by decide +kernel) (by decide +kernel)
  have hinv : rxIRYK_2 S0 ws S (r 8) := hinv
  rw [← hr_ 8 (by decide)] at hinv
  obtain ⟨⟨l8, u8⟩, ⟨l9, u9⟩, ⟨l10, u10⟩, -⟩ := b_
  obtain ⟨e0, ⟨e1, w_⟩⟩ := d_
  subst w_
  have g := rxcRYK_2_0 hP hin I0 hinv l8 u8 l9 u9 l10 u10 e1 e0
  refine ⟨bx_narP_ok (l := [(10, 0, 11)]) g.1, bx_nfP_ok h0_ (fvs := []) (by decide +kernel) g.2.1, ?_, ?_⟩
  · show rxIRYK_3 S0 ws S_p (bx_val [(0, 0), (0, 0), (0, 0), (0, 0), (0, 0), (0, 0), (0, 0), (0, 0), (10, 0)] r_p 8)
    rw [bx_val_x (n := 8) (e := (10, 0)) h0_ rfl]
    exact g.2.2.1
  · show rxmRYK_3 S0 ws S_p (bx_val [(0, 0), (0, 0), (0, 0), (0, 0), (0, 0), (0, 0), (0, 0), (0, 0), (10, 0)] r_p 8) < rxmRYK_2 S0 ws S_p (r 8)
    rw [bx_val_x (n := 8) (e := (10, 0)) h0_ rfl, ← hr_ 8 (by decide)]
    exact g.2.2.2
theorem rxdRYK_2_0 {S0 : Nat → Int → Int} {ws : List Int} {S : Nat → Int → Int} {is x9 : Int} (hP : rxPRYK S0 ws) (hin : bx_same rxL (bx_mdl rxCRYK.2.2.1) S0 S) (hin2 : bx_same rxL (bx_mdl rxCRYK.2.2.1) S S) (I0 : bx_Inv rxL S) (I1 : bx_Inv rxL S) (hinv : rxIRYK_2 S0 ws S is) (l8 : 0 ≤ is) (u8 : is ≤ 1) (l9 : 1 ≤ x9) (u9 : x9 ≤ 1) (f0 : x9 ≠ 0) (e0 : S 480 14 = x9) : (True) ∧ rxPSRYK S0 ws S none := by
  obtain ⟨hI, hx⟩ := hinv
  obtain ⟨a_, c_⟩ := rxdRYW_2_0 hP hin hin2 I0 I1 hI l8 u8 l9 u9 f0 e0
  exact ⟨a_, rfl, c_, (by
    intro c hD hW z
    exact absurd z (by omega))⟩
theorem rxfRYK_2_0 {X : (Nat → Int → Int) → Prop} {S0 : Nat → Int → Int} {ws : List Int} (hP : rxPRYK S0 ws) : bx_obE rxL X S0 rxCRYK.2.2.1 (rxIRYK S0 ws) (rxPSRYK S0 ws) 2 rxzRYK_2 rxeRYK_2_0 := by
  intro S S_p r r_p hinv hX hin hsm_ hseg
  obtain ⟨I0, I1, h0_, hr_, b_, f_, d_⟩ := bx_cl (evs := [(0, (0, 480), (0, 14), .inr (0, (9, 0)))]) (fvs := [(3, (9, 0), (0, 0), (0, 0))]) hseg (by decide +kernel) (by decide +kernel)
  have hinv : rxIRYK_2 S0 ws S (r 8) := hinv
  rw [← hr_ 8 (by decide)] at hinv
  obtain ⟨⟨l8, u8⟩, ⟨l9, u9⟩, -⟩ := b_
  obtain ⟨f0, -⟩ := f_
  obtain ⟨e0, w_⟩ := d_
  subst w_
  have g := rxdRYK_2_0 hP hin hsm_ I0 I1 hinv l8 u8 l9 u9 f0 e0
  refine ⟨bx_narP_ok (l := []) g.1, ?_⟩
  exact g.2
theorem rxcRYK_3_0 {S0 : Nat → Int → Int} {ws : List Int} {S : Nat → Int → Int} {nc x9 x10 : Int} (hP : rxPRYK S0 ws) (hin : bx_same rxL (bx_mdl rxCRYK.2.2.1) S0 S) (I0 : bx_Inv rxL S) (hinv : rxIRYK_3 S0 ws S nc) (l8 : 0 ≤ nc) (u8 : nc ≤ 11) (l9 : 0 ≤ x9) (u9 : x9 ≤ 110) (l10 : 0 ≤ x10) (u10 : x10 ≤ 12) (f0 : x9 = 10 * (nc)) (e0 : S 480 16 = x10) : ((0 ≤ x10 ∧ x10 ≤ 11) ∧ True) ∧ (True) ∧ rxIRYK_4 S0 ws S x9 x10 ∧ rxmRYK_4 S0 ws S x9 x10 < rxmRYK_3 S0 ws S nc := by
  obtain ⟨hI, hx⟩ := hinv
  obtain ⟨a_, b_, c_, d_⟩ := rxcRYW_3_0 hP hin I0 hI l8 u8 l9 u9 l10 u10 f0 e0
  exact ⟨a_, b_, ⟨c_, hx⟩, d_⟩
theorem rxgRYK_3_0 {X : (Nat → Int → Int) → Prop} {S0 : Nat → Int → Int} {ws : List Int} (hP : rxPRYK S0 ws) : bx_obC rxL X S0 rxCRYK.2.2.1 (rxIRYK S0 ws) (rxmRYK S0 ws) 3 rxzRYK_3 rxoRYK_3_0 := by
  intro S S_p r r_p hinv hX hin hsm_ hseg
  obtain ⟨I0, I1, h0_, hr_, b_, f_, d_⟩ := bx_cl (evs := [(0, (0, 480), (0, 16), .inr (0, (10, 0)))]) (fvs := [(4, (9, 0), (8, 0), (0, 10))]) hseg (by decide +kernel) (by decide +kernel)
  have hinv : rxIRYK_3 S0 ws S (r 8) := hinv
  rw [← hr_ 8 (by decide)] at hinv
  obtain ⟨⟨l8, u8⟩, ⟨l9, u9⟩, ⟨l10, u10⟩, -⟩ := b_
  obtain ⟨f0, -⟩ := f_
  obtain ⟨e0, w_⟩ := d_
  subst w_
  have g := rxcRYK_3_0 hP hin I0 hinv l8 u8 l9 u9 l10 u10 f0 e0
  refine ⟨bx_narP_ok (l := [(10, 0, 11)]) g.1, bx_nfP_ok h0_ (fvs := []) (by decide +kernel) g.2.1, ?_, ?_⟩
  · show rxIRYK_4 S0 ws S_p (bx_val [(0, 0), (0, 0), (0, 0), (0, 0), (0, 0), (0, 0), (0, 0), (0, 0), (9, 0), (10, 0)] r_p 8) (bx_val [(0, 0), (0, 0), (0, 0), (0, 0), (0, 0), (0, 0), (0, 0), (0, 0), (9, 0), (10, 0)] r_p 9)
    rw [bx_val_x (n := 8) (e := (9, 0)) h0_ rfl, bx_val_x (n := 9) (e := (10, 0)) h0_ rfl]
    exact g.2.2.1
  · show rxmRYK_4 S0 ws S_p (bx_val [(0, 0), (0, 0), (0, 0), (0, 0), (0, 0), (0, 0), (0, 0), (0, 0), (9, 0), (10, 0)] r_p 8) (bx_val [(0, 0), (0, 0), (0, 0), (0, 0), (0, 0), (0, 0), (0, 0), (0, 0), (9, 0), (10, 0)] r_p 9) < rxmRYK_3 S0 ws S_p (r 8)
    rw [bx_val_x (n := 8) (e := (9, 0)) h0_ rfl, bx_val_x (n := 9) (e := (10, 0)) h0_ rfl, ← hr_ 8 (by decide)]
    exact g.2.2.2
theorem rxcRYK_4_0 {S0 : Nat → Int → Int} {ws : List Int} {S : Nat → Int → Int} {base nc : Int} (hP : rxPRYK S0 ws) (hin : bx_same rxL (bx_mdl rxCRYK.2.2.1) S0 S) (I0 : bx_Inv rxL S) (hinv : rxIRYK_4 S0 ws S base nc) (l8 : 0 ≤ base) (u8 : base ≤ 110) (l9 : 0 ≤ nc) (u9 : nc ≤ 11) : (True) ∧ (True) ∧ rxIRYK_5 S0 ws (bx_up S 480 16 (nc + 1)) base base ∧ rxmRYK_5 S0 ws (bx_up S 480 16 (nc + 1)) base base < rxmRYK_4 S0 ws S base nc := by
  obtain ⟨hI, hx⟩ := hinv
  obtain ⟨a_, b_, c_, d_⟩ := rxcRYW_4_0 hP hin I0 hI l8 u8 l9 u9
  exact ⟨a_, b_, ⟨c_, (by
    intro c hD hW z
    exact rj_tr (F := rjY1 S0) (hx c hD hW (show S 480 14 = 0 from ((bx_up_ne (by omega))).symm.trans z)) ((bx_up_ne (by omega))) ((bx_up_ne (by omega))) ((bx_up_ne (by omega))) (funext fun _ => (bx_up_ne (by omega))) (funext fun _ => (bx_up_ne (by omega))) (rfl) (rfl) (rfl) (rfl) (rfl))⟩, d_⟩
theorem rxgRYK_4_0 {X : (Nat → Int → Int) → Prop} {S0 : Nat → Int → Int} {ws : List Int} (hP : rxPRYK S0 ws) : bx_obC rxL X S0 rxCRYK.2.2.1 (rxIRYK S0 ws) (rxmRYK S0 ws) 4 rxzRYK_4 rxoRYK_4_0 := by
  intro S S_p r r_p hinv hX hin hsm_ hseg
  obtain ⟨I0, I1, h0_, hr_, b_, f_, d_⟩ := bx_cl (evs := [(1, (0, 480), (0, 16), .inr (0, (9, 1)))]) (fvs := []) hseg (by decide +kernel) (by decide +kernel)
  have hinv : rxIRYK_4 S0 ws S (r 8) (r 9) := hinv
  rw [← hr_ 8 (by decide), ← hr_ 9 (by decide)] at hinv
  obtain ⟨⟨l8, u8⟩, ⟨l9, u9⟩, -⟩ := b_
  obtain ⟨T0, w_, w0⟩ := d_
  subst w0
  subst w_
  have g := rxcRYK_4_0 hP hin I0 hinv l8 u8 l9 u9
  refine ⟨bx_narP_ok (l := []) g.1, bx_nfP_ok h0_ (fvs := []) (by decide +kernel) g.2.1, ?_, ?_⟩
  · show rxIRYK_5 S0 ws (bx_up T0 480 (16) (r_p 9 + 1)) (bx_val [(0, 0), (0, 0), (0, 0), (0, 0), (0, 0), (0, 0), (0, 0), (0, 0), (8, 0), (8, 0)] r_p 8) (bx_val [(0, 0), (0, 0), (0, 0), (0, 0), (0, 0), (0, 0), (0, 0), (0, 0), (8, 0), (8, 0)] r_p 9)
    rw [bx_val_x (n := 8) (e := (8, 0)) h0_ rfl, bx_val_x (n := 9) (e := (8, 0)) h0_ rfl]
    exact g.2.2.1
  · show rxmRYK_5 S0 ws (bx_up T0 480 (16) (r_p 9 + 1)) (bx_val [(0, 0), (0, 0), (0, 0), (0, 0), (0, 0), (0, 0), (0, 0), (0, 0), (8, 0), (8, 0)] r_p 8) (bx_val [(0, 0), (0, 0), (0, 0), (0, 0), (0, 0), (0, 0), (0, 0), (0, 0), (8, 0), (8, 0)] r_p 9) < rxmRYK_4 S0 ws T0 (r 8) (r 9)
    rw [bx_val_x (n := 8) (e := (8, 0)) h0_ rfl, bx_val_x (n := 9) (e := (8, 0)) h0_ rfl, ← hr_ 8 (by decide), ← hr_ 9 (by decide)]
    exact g.2.2.2
theorem rxcRYK_7_0 {S0 : Nat → Int → Int} {ws : List Int} {S : Nat → Int → Int} {base a v : Int} (hP : rxPRYK S0 ws) (hin : bx_same rxL (bx_mdl rxCRYK.2.2.1) S0 S) (I0 : bx_Inv rxL S) (hinv : rxIRYK_7 S0 ws S base a v) (l8 : 0 ≤ base) (u8 : base ≤ 110) (l9 : 0 ≤ a) (u9 : a ≤ 110) (l10 : (-2147483648) ≤ v) (u10 : v ≤ 2147483647) : (True) ∧ (True) ∧ rxIRYK_8 S0 ws S base ∧ rxmRYK_8 S0 ws S base < rxmRYK_7 S0 ws S base a v := by
  obtain ⟨hI, hx⟩ := hinv
  obtain ⟨a_, b_, c_, d_⟩ := rxcRYW_7_0 hP hin I0 hI l8 u8 l9 u9 l10 u10
  exact ⟨a_, b_, ⟨c_, hx⟩, d_⟩
theorem rxgRYK_7_0 {X : (Nat → Int → Int) → Prop} {S0 : Nat → Int → Int} {ws : List Int} (hP : rxPRYK S0 ws) : bx_obC rxL X S0 rxCRYK.2.2.1 (rxIRYK S0 ws) (rxmRYK S0 ws) 7 rxzRYK_7 rxoRYK_7_0 := by
  intro S S_p r r_p hinv hX hin hsm_ hseg
  obtain ⟨I0, I1, h0_, hr_, b_, f_, d_⟩ := bx_cl (evs := []) (fvs := []) hseg (by decide +kernel) (by decide +kernel)
  have hinv : rxIRYK_7 S0 ws S (r 8) (r 9) (r 10) := hinv
  rw [← hr_ 8 (by decide), ← hr_ 9 (by decide), ← hr_ 10 (by decide)] at hinv
  obtain ⟨⟨l8, u8⟩, ⟨l9, u9⟩, ⟨l10, u10⟩, -⟩ := b_
  have w_ := d_
  subst w_
  have g := rxcRYK_7_0 hP hin I0 hinv l8 u8 l9 u9 l10 u10
  refine ⟨bx_narP_ok (l := []) g.1, bx_nfP_ok h0_ (fvs := []) (by decide +kernel) g.2.1, ?_, ?_⟩
  · show rxIRYK_8 S0 ws S_p (bx_val [(0, 0), (0, 0), (0, 0), (0, 0), (0, 0), (0, 0), (0, 0), (0, 0), (8, 0)] r_p 8)
    rw [bx_val_x (n := 8) (e := (8, 0)) h0_ rfl]
    exact g.2.2.1
  · show rxmRYK_8 S0 ws S_p (bx_val [(0, 0), (0, 0), (0, 0), (0, 0), (0, 0), (0, 0), (0, 0), (0, 0), (8, 0)] r_p 8) < rxmRYK_7 S0 ws S_p (r 8) (r 9) (r 10)
    rw [bx_val_x (n := 8) (e := (8, 0)) h0_ rfl, ← hr_ 8 (by decide), ← hr_ 9 (by decide), ← hr_ 10 (by decide)]
    exact g.2.2.2
theorem rxcRYK_10_0 {S0 : Nat → Int → Int} {ws : List Int} {S : Nat → Int → Int} {base is x10 : Int} (hP : rxPRYK S0 ws) (hin : bx_same rxL (bx_mdl rxCRYK.2.2.1) S0 S) (I0 : bx_Inv rxL S) (hinv : rxIRYK_10 S0 ws S base is) (l8 : 0 ≤ base) (u8 : base ≤ 110) (l9 : 0 ≤ is) (u9 : is ≤ 1) (l10 : 1 ≤ x10) (u10 : x10 ≤ 1) (f0 : x10 ≠ 0) (e0 : S 480 14 = x10) : (True) ∧ (True) ∧ rxIRYK_14 S0 ws S base (base + 1) 0 ∧ rxmRYK_14 S0 ws S base (base + 1) 0 < rxmRYK_10 S0 ws S base is := by
  obtain ⟨hI, hx⟩ := hinv
  obtain ⟨a_, b_, c_, d_⟩ := rxcRYW_10_0 hP hin I0 hI l8 u8 l9 u9 l10 u10 f0 e0
  exact ⟨a_, b_, ⟨c_, (by
    intro c hD hW z
    exact absurd z (by omega))⟩, d_⟩
theorem rxgRYK_10_0 {X : (Nat → Int → Int) → Prop} {S0 : Nat → Int → Int} {ws : List Int} (hP : rxPRYK S0 ws) : bx_obC rxL X S0 rxCRYK.2.2.1 (rxIRYK S0 ws) (rxmRYK S0 ws) 10 rxzRYK_10 rxoRYK_10_0 := by
  intro S S_p r r_p hinv hX hin hsm_ hseg
  obtain ⟨I0, I1, h0_, hr_, b_, f_, d_⟩ := bx_cl (evs := [(0, (0, 480), (0, 14), .inr (0, (10, 0)))]) (fvs := [(3, (10, 0), (0, 0), (0, 0))]) hseg (by decide +kernel) (by decide +kernel)
  have hinv : rxIRYK_10 S0 ws S (r 8) (r 9) := hinv
  rw [← hr_ 8 (by decide), ← hr_ 9 (by decide)] at hinv
  obtain ⟨⟨l8, u8⟩, ⟨l9, u9⟩, ⟨l10, u10⟩, -⟩ := b_
  obtain ⟨f0, -⟩ := f_
  obtain ⟨e0, w_⟩ := d_
  subst w_
  have g := rxcRYK_10_0 hP hin I0 hinv l8 u8 l9 u9 l10 u10 f0 e0
  refine ⟨bx_narP_ok (l := []) g.1, bx_nfP_ok h0_ (fvs := []) (by decide +kernel) g.2.1, ?_, ?_⟩
  · show rxIRYK_14 S0 ws S_p (bx_val [(0, 0), (0, 0), (0, 0), (0, 0), (0, 0), (0, 0), (0, 0), (0, 0), (8, 0), (8, 1), (0, 0)] r_p 8) (bx_val [(0, 0), (0, 0), (0, 0), (0, 0), (0, 0), (0, 0), (0, 0), (0, 0), (8, 0), (8, 1), (0, 0)] r_p 9) (bx_val [(0, 0), (0, 0), (0, 0), (0, 0), (0, 0), (0, 0), (0, 0), (0, 0), (8, 0), (8, 1), (0, 0)] r_p 10)
    rw [bx_val_x (n := 8) (e := (8, 0)) h0_ rfl, bx_val_x (n := 9) (e := (8, 1)) h0_ rfl, bx_val_x (n := 10) (e := (0, 0)) h0_ rfl]
    exact g.2.2.1
  · show rxmRYK_14 S0 ws S_p (bx_val [(0, 0), (0, 0), (0, 0), (0, 0), (0, 0), (0, 0), (0, 0), (0, 0), (8, 0), (8, 1), (0, 0)] r_p 8) (bx_val [(0, 0), (0, 0), (0, 0), (0, 0), (0, 0), (0, 0), (0, 0), (0, 0), (8, 0), (8, 1), (0, 0)] r_p 9) (bx_val [(0, 0), (0, 0), (0, 0), (0, 0), (0, 0), (0, 0), (0, 0), (0, 0), (8, 0), (8, 1), (0, 0)] r_p 10) < rxmRYK_10 S0 ws S_p (r 8) (r 9)
    rw [bx_val_x (n := 8) (e := (8, 0)) h0_ rfl, bx_val_x (n := 9) (e := (8, 1)) h0_ rfl, bx_val_x (n := 10) (e := (0, 0)) h0_ rfl, ← hr_ 8 (by decide), ← hr_ 9 (by decide)]
    exact g.2.2.2
theorem rxcRYK_10_1 {S0 : Nat → Int → Int} {ws : List Int} {S : Nat → Int → Int} {base is x10 : Int} (hP : rxPRYK S0 ws) (hin : bx_same rxL (bx_mdl rxCRYK.2.2.1) S0 S) (I0 : bx_Inv rxL S) (hinv : rxIRYK_10 S0 ws S base is) (l8 : 0 ≤ base) (u8 : base ≤ 110) (l9 : 0 ≤ is) (u9 : is ≤ 1) (l10 : 0 ≤ x10) (u10 : x10 ≤ 0) (e0 : S 480 14 = x10) : (True) ∧ (True) ∧ rxIRYK_11 S0 ws S base (base + 1) ∧ rxmRYK_11 S0 ws S base (base + 1) < rxmRYK_10 S0 ws S base is := by
  obtain ⟨hI, hx⟩ := hinv
  obtain ⟨a_, b_, c_, d_⟩ := rxcRYW_10_1 hP hin I0 hI l8 u8 l9 u9 l10 u10 e0
  exact ⟨a_, b_, ⟨c_, hx⟩, d_⟩
theorem rxgRYK_10_1 {X : (Nat → Int → Int) → Prop} {S0 : Nat → Int → Int} {ws : List Int} (hP : rxPRYK S0 ws) : bx_obC rxL X S0 rxCRYK.2.2.1 (rxIRYK S0 ws) (rxmRYK S0 ws) 10 rxzRYK_10 rxoRYK_10_1 := by
  intro S S_p r r_p hinv hX hin hsm_ hseg
  obtain ⟨I0, I1, h0_, hr_, b_, f_, d_⟩ := bx_cl (evs := [(0, (0, 480), (0, 14), .inr (0, (10, 0)))]) (fvs := []) hseg (by decide +kernel) (by decide +kernel)
  have hinv : rxIRYK_10 S0 ws S (r 8) (r 9) := hinv
  rw [← hr_ 8 (by decide), ← hr_ 9 (by decide)] at hinv
  obtain ⟨⟨l8, u8⟩, ⟨l9, u9⟩, ⟨l10, u10⟩, -⟩ := b_
  obtain ⟨e0, w_⟩ := d_
  subst w_
  have g := rxcRYK_10_1 hP hin I0 hinv l8 u8 l9 u9 l10 u10 e0
  refine ⟨bx_narP_ok (l := []) g.1, bx_nfP_ok h0_ (fvs := []) (by decide +kernel) g.2.1, ?_, ?_⟩
  · show rxIRYK_11 S0 ws S_p (bx_val [(0, 0), (0, 0), (0, 0), (0, 0), (0, 0), (0, 0), (0, 0), (0, 0), (8, 0), (8, 1)] r_p 8) (bx_val [(0, 0), (0, 0), (0, 0), (0, 0), (0, 0), (0, 0), (0, 0), (0, 0), (8, 0), (8, 1)] r_p 9)
    rw [bx_val_x (n := 8) (e := (8, 0)) h0_ rfl, bx_val_x (n := 9) (e := (8, 1)) h0_ rfl]
    exact g.2.2.1
  · show rxmRYK_11 S0 ws S_p (bx_val [(0, 0), (0, 0), (0, 0), (0, 0), (0, 0), (0, 0), (0, 0), (0, 0), (8, 0), (8, 1)] r_p 8) (bx_val [(0, 0), (0, 0), (0, 0), (0, 0), (0, 0), (0, 0), (0, 0), (0, 0), (8, 0), (8, 1)] r_p 9) < rxmRYK_10 S0 ws S_p (r 8) (r 9)
    rw [bx_val_x (n := 8) (e := (8, 0)) h0_ rfl, bx_val_x (n := 9) (e := (8, 1)) h0_ rfl, ← hr_ 8 (by decide), ← hr_ 9 (by decide)]
    exact g.2.2.2
theorem rxcRYK_13_0 {S0 : Nat → Int → Int} {ws : List Int} {S : Nat → Int → Int} {base a v x11 : Int} (hP : rxPRYK S0 ws) (hin : bx_same rxL (bx_mdl rxCRYK.2.2.1) S0 S) (I0 : bx_Inv rxL S) (hinv : rxIRYK_13 S0 ws S base a v) (l8 : 0 ≤ base) (u8 : base ≤ 110) (l9 : 1 ≤ a) (u9 : a ≤ 111) (l10 : (-2147483648) ≤ v) (u10 : v ≤ 2147483647) (l11 : 0 ≤ x11) (u11 : x11 ≤ 3) (f0 : x11 ≠ 1) (f1 : x11 ≠ 1) (e0 : S 480 11 = x11) : (True) ∧ (True) ∧ rxIRYK_16 S0 ws S base 0 0 ∧ rxmRYK_16 S0 ws S base 0 0 < rxmRYK_13 S0 ws S base a v := by
  obtain ⟨hI, hx⟩ := hinv
  obtain ⟨a_, b_, c_, d_⟩ := rxcRYW_13_0 hP hin I0 hI l8 u8 l9 u9 l10 u10 l11 u11 f0 f1 e0
  exact ⟨a_, b_, ⟨c_, hx⟩, d_⟩
theorem rxgRYK_13_0 {X : (Nat → Int → Int) → Prop} {S0 : Nat → Int → Int} {ws : List Int} (hP : rxPRYK S0 ws) : bx_obC rxL X S0 rxCRYK.2.2.1 (rxIRYK S0 ws) (rxmRYK S0 ws) 13 rxzRYK_13 rxoRYK_13_0 := by
  intro S S_p r r_p hinv hX hin hsm_ hseg
  obtain ⟨I0, I1, h0_, hr_, b_, f_, d_⟩ := bx_cl (evs := [(0, (0, 480), (0, 11), .inr (0, (11, 0)))]) (fvs := [(3, (11, 0), (0, 1), (0, 0)), (3, (11, 0), (0, 1), (0, 0))]) hseg (by decide +kernel) (by decide +kernel)
  have hinv : rxIRYK_13 S0 ws S (r 8) (r 9) (r 10) := hinv
  rw [← hr_ 8 (by decide), ← hr_ 9 (by decide), ← hr_ 10 (by decide)] at hinv
  obtain ⟨⟨l8, u8⟩, ⟨l9, u9⟩, ⟨l10, u10⟩, ⟨l11, u11⟩, -⟩ := b_
  obtain ⟨f0, f1, -⟩ := f_
  obtain ⟨e0, w_⟩ := d_
  subst w_
  have g := rxcRYK_13_0 hP hin I0 hinv l8 u8 l9 u9 l10 u10 l11 u11 f0 f1 e0
  refine ⟨bx_narP_ok (l := []) g.1, bx_nfP_ok h0_ (fvs := []) (by decide +kernel) g.2.1, ?_, ?_⟩
  · show rxIRYK_16 S0 ws S_p (bx_val [(0, 0), (0, 0), (0, 0), (0, 0), (0, 0), (0, 0), (0, 0), (0, 0), (8, 0), (0, 0), (0, 0)] r_p 8) (bx_val [(0, 0), (0, 0), (0, 0), (0, 0), (0, 0), (0, 0), (0, 0), (0, 0), (8, 0), (0, 0), (0, 0)] r_p 9) (bx_val [(0, 0), (0, 0), (0, 0), (0, 0), (0, 0), (0, 0), (0, 0), (0, 0), (8, 0), (0, 0), (0, 0)] r_p 10)
    rw [bx_val_x (n := 8) (e := (8, 0)) h0_ rfl, bx_val_x (n := 9) (e := (0, 0)) h0_ rfl, bx_val_x (n := 10) (e := (0, 0)) h0_ rfl]
    exact g.2.2.1
  · show rxmRYK_16 S0 ws S_p (bx_val [(0, 0), (0, 0), (0, 0), (0, 0), (0, 0), (0, 0), (0, 0), (0, 0), (8, 0), (0, 0), (0, 0)] r_p 8) (bx_val [(0, 0), (0, 0), (0, 0), (0, 0), (0, 0), (0, 0), (0, 0), (0, 0), (8, 0), (0, 0), (0, 0)] r_p 9) (bx_val [(0, 0), (0, 0), (0, 0), (0, 0), (0, 0), (0, 0), (0, 0), (0, 0), (8, 0), (0, 0), (0, 0)] r_p 10) < rxmRYK_13 S0 ws S_p (r 8) (r 9) (r 10)
    rw [bx_val_x (n := 8) (e := (8, 0)) h0_ rfl, bx_val_x (n := 9) (e := (0, 0)) h0_ rfl, bx_val_x (n := 10) (e := (0, 0)) h0_ rfl, ← hr_ 8 (by decide), ← hr_ 9 (by decide), ← hr_ 10 (by decide)]
    exact g.2.2.2
theorem rxcRYK_13_1 {S0 : Nat → Int → Int} {ws : List Int} {S : Nat → Int → Int} {base a v x11 x12 : Int} (hP : rxPRYK S0 ws) (hin : bx_same rxL (bx_mdl rxCRYK.2.2.1) S0 S) (I0 : bx_Inv rxL S) (hinv : rxIRYK_13 S0 ws S base a v) (l8 : 0 ≤ base) (u8 : base ≤ 110) (l9 : 1 ≤ a) (u9 : a ≤ 111) (l10 : (-2147483648) ≤ v) (u10 : v ≤ 2147483647) (l11 : 1 ≤ x11) (u11 : x11 ≤ 1) (l12 : (-9223372036854775808) ≤ x12) (u12 : x12 ≤ 9223372036854775807) (f0 : x12 ≠ 19513) (f1 : x12 ≠ 284264) (e1 : S 480 11 = x11) (e0 : S 480 12 = x12) : (True) ∧ (True) ∧ rxIRYK_16 S0 ws S base 0 0 ∧ rxmRYK_16 S0 ws S base 0 0 < rxmRYK_13 S0 ws S base a v := by
  obtain ⟨hI, hx⟩ := hinv
  obtain ⟨a_, b_, c_, d_⟩ := rxcRYW_13_1 hP hin I0 hI l8 u8 l9 u9 l10 u10 l11 u11 l12 u12 f0 f1 e1 e0
  exact ⟨a_, b_, ⟨c_, hx⟩, d_⟩
theorem rxgRYK_13_1 {X : (Nat → Int → Int) → Prop} {S0 : Nat → Int → Int} {ws : List Int} (hP : rxPRYK S0 ws) : bx_obC rxL X S0 rxCRYK.2.2.1 (rxIRYK S0 ws) (rxmRYK S0 ws) 13 rxzRYK_13 rxoRYK_13_1 := by
  intro S S_p r r_p hinv hX hin hsm_ hseg
  obtain ⟨I0, I1, h0_, hr_, b_, f_, d_⟩ := bx_cl (evs := [(0, (0, 480), (0, 12), .inr (1, (12, 0))), (0, (0, 480), (0, 11), .inr (0, (11, 0)))]) (fvs := [(3, (12, 0), (0, 19513), (0, 0)), (3, (12, 0), (0, 284264), (0, 0))]) hseg (by decide +kernel) (by decide +kernel)
  have hinv : rxIRYK_13 S0 ws S (r 8) (r 9) (r 10) := hinv
  rw [← hr_ 8 (by decide), ← hr_ 9 (by decide), ← hr_ 10 (by decide)] at hinv
  obtain ⟨⟨l8, u8⟩, ⟨l9, u9⟩, ⟨l10, u10⟩, ⟨l11, u11⟩, ⟨l12, u12⟩, -⟩ := b_
  obtain ⟨f0, f1, -⟩ := f_
  obtain ⟨e0, ⟨e1, w_⟩⟩ := d_
  subst w_
  have g := rxcRYK_13_1 hP hin I0 hinv l8 u8 l9 u9 l10 u10 l11 u11 l12 u12 f0 f1 e1 e0
  refine ⟨bx_narP_ok (l := []) g.1, bx_nfP_ok h0_ (fvs := []) (by decide +kernel) g.2.1, ?_, ?_⟩
  · show rxIRYK_16 S0 ws S_p (bx_val [(0, 0), (0, 0), (0, 0), (0, 0), (0, 0), (0, 0), (0, 0), (0, 0), (8, 0), (0, 0), (0, 0)] r_p 8) (bx_val [(0, 0), (0, 0), (0, 0), (0, 0), (0, 0), (0, 0), (0, 0), (0, 0), (8, 0), (0, 0), (0, 0)] r_p 9) (bx_val [(0, 0), (0, 0), (0, 0), (0, 0), (0, 0), (0, 0), (0, 0), (0, 0), (8, 0), (0, 0), (0, 0)] r_p 10)
    rw [bx_val_x (n := 8) (e := (8, 0)) h0_ rfl, bx_val_x (n := 9) (e := (0, 0)) h0_ rfl, bx_val_x (n := 10) (e := (0, 0)) h0_ rfl]
    exact g.2.2.1
  · show rxmRYK_16 S0 ws S_p (bx_val [(0, 0), (0, 0), (0, 0), (0, 0), (0, 0), (0, 0), (0, 0), (0, 0), (8, 0), (0, 0), (0, 0)] r_p 8) (bx_val [(0, 0), (0, 0), (0, 0), (0, 0), (0, 0), (0, 0), (0, 0), (0, 0), (8, 0), (0, 0), (0, 0)] r_p 9) (bx_val [(0, 0), (0, 0), (0, 0), (0, 0), (0, 0), (0, 0), (0, 0), (0, 0), (8, 0), (0, 0), (0, 0)] r_p 10) < rxmRYK_13 S0 ws S_p (r 8) (r 9) (r 10)
    rw [bx_val_x (n := 8) (e := (8, 0)) h0_ rfl, bx_val_x (n := 9) (e := (0, 0)) h0_ rfl, bx_val_x (n := 10) (e := (0, 0)) h0_ rfl, ← hr_ 8 (by decide), ← hr_ 9 (by decide), ← hr_ 10 (by decide)]
    exact g.2.2.2
theorem rxcRYK_13_2 {S0 : Nat → Int → Int} {ws : List Int} {S : Nat → Int → Int} {base a v x11 x12 : Int} (hP : rxPRYK S0 ws) (hin : bx_same rxL (bx_mdl rxCRYK.2.2.1) S0 S) (I0 : bx_Inv rxL S) (hinv : rxIRYK_13 S0 ws S base a v) (l8 : 0 ≤ base) (u8 : base ≤ 110) (l9 : 1 ≤ a) (u9 : a ≤ 111) (l10 : (-2147483648) ≤ v) (u10 : v ≤ 2147483647) (l11 : 1 ≤ x11) (u11 : x11 ≤ 1) (l12 : 19513 ≤ x12) (u12 : x12 ≤ 19513) (f0 : x12 ≠ 284264) (e1 : S 480 11 = x11) (e0 : S 480 12 = x12) : (True) ∧ (True) ∧ rxIRYK_16 S0 ws S base 0 1 ∧ rxmRYK_16 S0 ws S base 0 1 < rxmRYK_13 S0 ws S base a v := by
  obtain ⟨hI, hx⟩ := hinv
  obtain ⟨a_, b_, c_, d_⟩ := rxcRYW_13_2 hP hin I0 hI l8 u8 l9 u9 l10 u10 l11 u11 l12 u12 f0 e1 e0
  exact ⟨a_, b_, ⟨c_, hx⟩, d_⟩
theorem rxgRYK_13_2 {X : (Nat → Int → Int) → Prop} {S0 : Nat → Int → Int} {ws : List Int} (hP : rxPRYK S0 ws) : bx_obC rxL X S0 rxCRYK.2.2.1 (rxIRYK S0 ws) (rxmRYK S0 ws) 13 rxzRYK_13 rxoRYK_13_2 := by
  intro S S_p r r_p hinv hX hin hsm_ hseg
  obtain ⟨I0, I1, h0_, hr_, b_, f_, d_⟩ := bx_cl (evs := [(0, (0, 480), (0, 12), .inr (1, (12, 0))), (0, (0, 480), (0, 11), .inr (0, (11, 0)))]) (fvs := [(3, (12, 0), (0, 284264), (0, 0))]) hseg (by decide +kernel) (by decide +kernel)
  have hinv : rxIRYK_13 S0 ws S (r 8) (r 9) (r 10) := hinv
  rw [← hr_ 8 (by decide), ← hr_ 9 (by decide), ← hr_ 10 (by decide)] at hinv
  obtain ⟨⟨l8, u8⟩, ⟨l9, u9⟩, ⟨l10, u10⟩, ⟨l11, u11⟩, ⟨l12, u12⟩, -⟩ := b_
  obtain ⟨f0, -⟩ := f_
  obtain ⟨e0, ⟨e1, w_⟩⟩ := d_
  subst w_
  have g := rxcRYK_13_2 hP hin I0 hinv l8 u8 l9 u9 l10 u10 l11 u11 l12 u12 f0 e1 e0
  refine ⟨bx_narP_ok (l := []) g.1, bx_nfP_ok h0_ (fvs := []) (by decide +kernel) g.2.1, ?_, ?_⟩
  · show rxIRYK_16 S0 ws S_p (bx_val [(0, 0), (0, 0), (0, 0), (0, 0), (0, 0), (0, 0), (0, 0), (0, 0), (8, 0), (0, 0), (0, 1)] r_p 8) (bx_val [(0, 0), (0, 0), (0, 0), (0, 0), (0, 0), (0, 0), (0, 0), (0, 0), (8, 0), (0, 0), (0, 1)] r_p 9) (bx_val [(0, 0), (0, 0), (0, 0), (0, 0), (0, 0), (0, 0), (0, 0), (0, 0), (8, 0), (0, 0), (0, 1)] r_p 10)
    rw [bx_val_x (n := 8) (e := (8, 0)) h0_ rfl, bx_val_x (n := 9) (e := (0, 0)) h0_ rfl, bx_val_x (n := 10) (e := (0, 1)) h0_ rfl]
    exact g.2.2.1
  · show rxmRYK_16 S0 ws S_p (bx_val [(0, 0), (0, 0), (0, 0), (0, 0), (0, 0), (0, 0), (0, 0), (0, 0), (8, 0), (0, 0), (0, 1)] r_p 8) (bx_val [(0, 0), (0, 0), (0, 0), (0, 0), (0, 0), (0, 0), (0, 0), (0, 0), (8, 0), (0, 0), (0, 1)] r_p 9) (bx_val [(0, 0), (0, 0), (0, 0), (0, 0), (0, 0), (0, 0), (0, 0), (0, 0), (8, 0), (0, 0), (0, 1)] r_p 10) < rxmRYK_13 S0 ws S_p (r 8) (r 9) (r 10)
    rw [bx_val_x (n := 8) (e := (8, 0)) h0_ rfl, bx_val_x (n := 9) (e := (0, 0)) h0_ rfl, bx_val_x (n := 10) (e := (0, 1)) h0_ rfl, ← hr_ 8 (by decide), ← hr_ 9 (by decide), ← hr_ 10 (by decide)]
    exact g.2.2.2
theorem rxcRYK_13_3 {S0 : Nat → Int → Int} {ws : List Int} {S : Nat → Int → Int} {base a v x11 x12 : Int} (hP : rxPRYK S0 ws) (hin : bx_same rxL (bx_mdl rxCRYK.2.2.1) S0 S) (I0 : bx_Inv rxL S) (hinv : rxIRYK_13 S0 ws S base a v) (l8 : 0 ≤ base) (u8 : base ≤ 110) (l9 : 1 ≤ a) (u9 : a ≤ 111) (l10 : (-2147483648) ≤ v) (u10 : v ≤ 2147483647) (l11 : 1 ≤ x11) (u11 : x11 ≤ 1) (l12 : 284264 ≤ x12) (u12 : x12 ≤ 284264) (e1 : S 480 11 = x11) (e0 : S 480 12 = x12) : (True) ∧ (True) ∧ rxIRYK_16 S0 ws S base 1 1 ∧ rxmRYK_16 S0 ws S base 1 1 < rxmRYK_13 S0 ws S base a v := by
  obtain ⟨hI, hx⟩ := hinv
  obtain ⟨a_, b_, c_, d_⟩ := rxcRYW_13_3 hP hin I0 hI l8 u8 l9 u9 l10 u10 l11 u11 l12 u12 e1 e0
  exact ⟨a_, b_, ⟨c_, hx⟩, d_⟩
theorem rxgRYK_13_3 {X : (Nat → Int → Int) → Prop} {S0 : Nat → Int → Int} {ws : List Int} (hP : rxPRYK S0 ws) : bx_obC rxL X S0 rxCRYK.2.2.1 (rxIRYK S0 ws) (rxmRYK S0 ws) 13 rxzRYK_13 rxoRYK_13_3 := by
  intro S S_p r r_p hinv hX hin hsm_ hseg
  obtain ⟨I0, I1, h0_, hr_, b_, f_, d_⟩ := bx_cl (evs := [(0, (0, 480), (0, 12), .inr (1, (12, 0))), (0, (0, 480), (0, 11), .inr (0, (11, 0)))]) (fvs := []) hseg (by decide +kernel) (by decide +kernel)
  have hinv : rxIRYK_13 S0 ws S (r 8) (r 9) (r 10) := hinv
  rw [← hr_ 8 (by decide), ← hr_ 9 (by decide), ← hr_ 10 (by decide)] at hinv
  obtain ⟨⟨l8, u8⟩, ⟨l9, u9⟩, ⟨l10, u10⟩, ⟨l11, u11⟩, ⟨l12, u12⟩, -⟩ := b_
  obtain ⟨e0, ⟨e1, w_⟩⟩ := d_
  subst w_
  have g := rxcRYK_13_3 hP hin I0 hinv l8 u8 l9 u9 l10 u10 l11 u11 l12 u12 e1 e0
  refine ⟨bx_narP_ok (l := []) g.1, bx_nfP_ok h0_ (fvs := []) (by decide +kernel) g.2.1, ?_, ?_⟩
  · show rxIRYK_16 S0 ws S_p (bx_val [(0, 0), (0, 0), (0, 0), (0, 0), (0, 0), (0, 0), (0, 0), (0, 0), (8, 0), (0, 1), (0, 1)] r_p 8) (bx_val [(0, 0), (0, 0), (0, 0), (0, 0), (0, 0), (0, 0), (0, 0), (0, 0), (8, 0), (0, 1), (0, 1)] r_p 9) (bx_val [(0, 0), (0, 0), (0, 0), (0, 0), (0, 0), (0, 0), (0, 0), (0, 0), (8, 0), (0, 1), (0, 1)] r_p 10)
    rw [bx_val_x (n := 8) (e := (8, 0)) h0_ rfl, bx_val_x (n := 9) (e := (0, 1)) h0_ rfl, bx_val_x (n := 10) (e := (0, 1)) h0_ rfl]
    exact g.2.2.1
  · show rxmRYK_16 S0 ws S_p (bx_val [(0, 0), (0, 0), (0, 0), (0, 0), (0, 0), (0, 0), (0, 0), (0, 0), (8, 0), (0, 1), (0, 1)] r_p 8) (bx_val [(0, 0), (0, 0), (0, 0), (0, 0), (0, 0), (0, 0), (0, 0), (0, 0), (8, 0), (0, 1), (0, 1)] r_p 9) (bx_val [(0, 0), (0, 0), (0, 0), (0, 0), (0, 0), (0, 0), (0, 0), (0, 0), (8, 0), (0, 1), (0, 1)] r_p 10) < rxmRYK_13 S0 ws S_p (r 8) (r 9) (r 10)
    rw [bx_val_x (n := 8) (e := (8, 0)) h0_ rfl, bx_val_x (n := 9) (e := (0, 1)) h0_ rfl, bx_val_x (n := 10) (e := (0, 1)) h0_ rfl, ← hr_ 8 (by decide), ← hr_ 9 (by decide), ← hr_ 10 (by decide)]
    exact g.2.2.2
theorem rxcRYK_15_0 {S0 : Nat → Int → Int} {ws : List Int} {S : Nat → Int → Int} {base a v x11 : Int} (hP : rxPRYK S0 ws) (hin : bx_same rxL (bx_mdl rxCRYK.2.2.1) S0 S) (I0 : bx_Inv rxL S) (hinv : rxIRYK_15 S0 ws S base a v) (l8 : 0 ≤ base) (u8 : base ≤ 110) (l9 : 1 ≤ a) (u9 : a ≤ 111) (l10 : 0 ≤ v) (u10 : v ≤ 0) (l11 : 0 ≤ x11) (u11 : x11 ≤ 3) (f0 : x11 ≠ 1) (f1 : x11 ≠ 1) (e0 : S 480 11 = x11) : (True) ∧ (True) ∧ rxIRYK_16 S0 ws S base 0 0 ∧ rxmRYK_16 S0 ws S base 0 0 < rxmRYK_15 S0 ws S base a v := by
  obtain ⟨hI, hx⟩ := hinv
  obtain ⟨a_, b_, c_, d_⟩ := rxcRYW_15_0 hP hin I0 hI l8 u8 l9 u9 l10 u10 l11 u11 f0 f1 e0
  exact ⟨a_, b_, ⟨c_, hx⟩, d_⟩
theorem rxgRYK_15_0 {X : (Nat → Int → Int) → Prop} {S0 : Nat → Int → Int} {ws : List Int} (hP : rxPRYK S0 ws) : bx_obC rxL X S0 rxCRYK.2.2.1 (rxIRYK S0 ws) (rxmRYK S0 ws) 15 rxzRYK_15 rxoRYK_15_0 := by
  intro S S_p r r_p hinv hX hin hsm_ hseg
  obtain ⟨I0, I1, h0_, hr_, b_, f_, d_⟩ := bx_cl (evs := [(0, (0, 480), (0, 11), .inr (0, (11, 0)))]) (fvs := [(3, (11, 0), (0, 1), (0, 0)), (3, (11, 0), (0, 1), (0, 0))]) hseg (by decide +kernel) (by decide +kernel)
  have hinv : rxIRYK_15 S0 ws S (r 8) (r 9) (r 10) := hinv
  rw [← hr_ 8 (by decide), ← hr_ 9 (by decide), ← hr_ 10 (by decide)] at hinv
  obtain ⟨⟨l8, u8⟩, ⟨l9, u9⟩, ⟨l10, u10⟩, ⟨l11, u11⟩, -⟩ := b_
  obtain ⟨f0, f1, -⟩ := f_
  obtain ⟨e0, w_⟩ := d_
  subst w_
  have g := rxcRYK_15_0 hP hin I0 hinv l8 u8 l9 u9 l10 u10 l11 u11 f0 f1 e0
  refine ⟨bx_narP_ok (l := []) g.1, bx_nfP_ok h0_ (fvs := []) (by decide +kernel) g.2.1, ?_, ?_⟩
  · show rxIRYK_16 S0 ws S_p (bx_val [(0, 0), (0, 0), (0, 0), (0, 0), (0, 0), (0, 0), (0, 0), (0, 0), (8, 0), (0, 0), (0, 0)] r_p 8) (bx_val [(0, 0), (0, 0), (0, 0), (0, 0), (0, 0), (0, 0), (0, 0), (0, 0), (8, 0), (0, 0), (0, 0)] r_p 9) (bx_val [(0, 0), (0, 0), (0, 0), (0, 0), (0, 0), (0, 0), (0, 0), (0, 0), (8, 0), (0, 0), (0, 0)] r_p 10)
    rw [bx_val_x (n := 8) (e := (8, 0)) h0_ rfl, bx_val_x (n := 9) (e := (0, 0)) h0_ rfl, bx_val_x (n := 10) (e := (0, 0)) h0_ rfl]
    exact g.2.2.1
  · show rxmRYK_16 S0 ws S_p (bx_val [(0, 0), (0, 0), (0, 0), (0, 0), (0, 0), (0, 0), (0, 0), (0, 0), (8, 0), (0, 0), (0, 0)] r_p 8) (bx_val [(0, 0), (0, 0), (0, 0), (0, 0), (0, 0), (0, 0), (0, 0), (0, 0), (8, 0), (0, 0), (0, 0)] r_p 9) (bx_val [(0, 0), (0, 0), (0, 0), (0, 0), (0, 0), (0, 0), (0, 0), (0, 0), (8, 0), (0, 0), (0, 0)] r_p 10) < rxmRYK_15 S0 ws S_p (r 8) (r 9) (r 10)
    rw [bx_val_x (n := 8) (e := (8, 0)) h0_ rfl, bx_val_x (n := 9) (e := (0, 0)) h0_ rfl, bx_val_x (n := 10) (e := (0, 0)) h0_ rfl, ← hr_ 8 (by decide), ← hr_ 9 (by decide), ← hr_ 10 (by decide)]
    exact g.2.2.2
theorem rxcRYK_15_1 {S0 : Nat → Int → Int} {ws : List Int} {S : Nat → Int → Int} {base a v x11 x12 : Int} (hP : rxPRYK S0 ws) (hin : bx_same rxL (bx_mdl rxCRYK.2.2.1) S0 S) (I0 : bx_Inv rxL S) (hinv : rxIRYK_15 S0 ws S base a v) (l8 : 0 ≤ base) (u8 : base ≤ 110) (l9 : 1 ≤ a) (u9 : a ≤ 111) (l10 : 0 ≤ v) (u10 : v ≤ 0) (l11 : 1 ≤ x11) (u11 : x11 ≤ 1) (l12 : (-9223372036854775808) ≤ x12) (u12 : x12 ≤ 9223372036854775807) (f0 : x12 ≠ 19513) (f1 : x12 ≠ 284264) (e1 : S 480 11 = x11) (e0 : S 480 12 = x12) : (True) ∧ (True) ∧ rxIRYK_16 S0 ws S base 0 0 ∧ rxmRYK_16 S0 ws S base 0 0 < rxmRYK_15 S0 ws S base a v := by
  obtain ⟨hI, hx⟩ := hinv
  obtain ⟨a_, b_, c_, d_⟩ := rxcRYW_15_1 hP hin I0 hI l8 u8 l9 u9 l10 u10 l11 u11 l12 u12 f0 f1 e1 e0
  exact ⟨a_, b_, ⟨c_, hx⟩, d_⟩
theorem rxgRYK_15_1 {X : (Nat → Int → Int) → Prop} {S0 : Nat → Int → Int} {ws : List Int} (hP : rxPRYK S0 ws) : bx_obC rxL X S0 rxCRYK.2.2.1 (rxIRYK S0 ws) (rxmRYK S0 ws) 15 rxzRYK_15 rxoRYK_15_1 := by
  intro S S_p r r_p hinv hX hin hsm_ hseg
  obtain ⟨I0, I1, h0_, hr_, b_, f_, d_⟩ := bx_cl (evs := [(0, (0, 480), (0, 12), .inr (1, (12, 0))), (0, (0, 480), (0, 11), .inr (0, (11, 0)))]) (fvs := [(3, (12, 0), (0, 19513), (0, 0)), (3, (12, 0), (0, 284264), (0, 0))]) hseg (by decide +kernel) (by decide +kernel)
  have hinv : rxIRYK_15 S0 ws S (r 8) (r 9) (r 10) := hinv
  rw [← hr_ 8 (by decide), ← hr_ 9 (by decide), ← hr_ 10 (by decide)] at hinv
  obtain ⟨⟨l8, u8⟩, ⟨l9, u9⟩, ⟨l10, u10⟩, ⟨l11, u11⟩, ⟨l12, u12⟩, -⟩ := b_
  obtain ⟨f0, f1, -⟩ := f_
  obtain ⟨e0, ⟨e1, w_⟩⟩ := d_
  subst w_
  have g := rxcRYK_15_1 hP hin I0 hinv l8 u8 l9 u9 l10 u10 l11 u11 l12 u12 f0 f1 e1 e0
  refine ⟨bx_narP_ok (l := []) g.1, bx_nfP_ok h0_ (fvs := []) (by decide +kernel) g.2.1, ?_, ?_⟩
  · show rxIRYK_16 S0 ws S_p (bx_val [(0, 0), (0, 0), (0, 0), (0, 0), (0, 0), (0, 0), (0, 0), (0, 0), (8, 0), (0, 0), (0, 0)] r_p 8) (bx_val [(0, 0), (0, 0), (0, 0), (0, 0), (0, 0), (0, 0), (0, 0), (0, 0), (8, 0), (0, 0), (0, 0)] r_p 9) (bx_val [(0, 0), (0, 0), (0, 0), (0, 0), (0, 0), (0, 0), (0, 0), (0, 0), (8, 0), (0, 0), (0, 0)] r_p 10)
    rw [bx_val_x (n := 8) (e := (8, 0)) h0_ rfl, bx_val_x (n := 9) (e := (0, 0)) h0_ rfl, bx_val_x (n := 10) (e := (0, 0)) h0_ rfl]
    exact g.2.2.1
  · show rxmRYK_16 S0 ws S_p (bx_val [(0, 0), (0, 0), (0, 0), (0, 0), (0, 0), (0, 0), (0, 0), (0, 0), (8, 0), (0, 0), (0, 0)] r_p 8) (bx_val [(0, 0), (0, 0), (0, 0), (0, 0), (0, 0), (0, 0), (0, 0), (0, 0), (8, 0), (0, 0), (0, 0)] r_p 9) (bx_val [(0, 0), (0, 0), (0, 0), (0, 0), (0, 0), (0, 0), (0, 0), (0, 0), (8, 0), (0, 0), (0, 0)] r_p 10) < rxmRYK_15 S0 ws S_p (r 8) (r 9) (r 10)
    rw [bx_val_x (n := 8) (e := (8, 0)) h0_ rfl, bx_val_x (n := 9) (e := (0, 0)) h0_ rfl, bx_val_x (n := 10) (e := (0, 0)) h0_ rfl, ← hr_ 8 (by decide), ← hr_ 9 (by decide), ← hr_ 10 (by decide)]
    exact g.2.2.2
theorem rxcRYK_15_2 {S0 : Nat → Int → Int} {ws : List Int} {S : Nat → Int → Int} {base a v x11 x12 : Int} (hP : rxPRYK S0 ws) (hin : bx_same rxL (bx_mdl rxCRYK.2.2.1) S0 S) (I0 : bx_Inv rxL S) (hinv : rxIRYK_15 S0 ws S base a v) (l8 : 0 ≤ base) (u8 : base ≤ 110) (l9 : 1 ≤ a) (u9 : a ≤ 111) (l10 : 0 ≤ v) (u10 : v ≤ 0) (l11 : 1 ≤ x11) (u11 : x11 ≤ 1) (l12 : 19513 ≤ x12) (u12 : x12 ≤ 19513) (f0 : x12 ≠ 284264) (e1 : S 480 11 = x11) (e0 : S 480 12 = x12) : (True) ∧ (True) ∧ rxIRYK_16 S0 ws S base 0 1 ∧ rxmRYK_16 S0 ws S base 0 1 < rxmRYK_15 S0 ws S base a v := by
  obtain ⟨hI, hx⟩ := hinv
  obtain ⟨a_, b_, c_, d_⟩ := rxcRYW_15_2 hP hin I0 hI l8 u8 l9 u9 l10 u10 l11 u11 l12 u12 f0 e1 e0
  exact ⟨a_, b_, ⟨c_, hx⟩, d_⟩
theorem rxgRYK_15_2 {X : (Nat → Int → Int) → Prop} {S0 : Nat → Int → Int} {ws : List Int} (hP : rxPRYK S0 ws) : bx_obC rxL X S0 rxCRYK.2.2.1 (rxIRYK S0 ws) (rxmRYK S0 ws) 15 rxzRYK_15 rxoRYK_15_2 := by
  intro S S_p r r_p hinv hX hin hsm_ hseg
  obtain ⟨I0, I1, h0_, hr_, b_, f_, d_⟩ := bx_cl (evs := [(0, (0, 480), (0, 12), .inr (1, (12, 0))), (0, (0, 480), (0, 11), .inr (0, (11, 0)))]) (fvs := [(3, (12, 0), (0, 284264), (0, 0))]) hseg (by decide +kernel) (by decide +kernel)
  have hinv : rxIRYK_15 S0 ws S (r 8) (r 9) (r 10) := hinv
  rw [← hr_ 8 (by decide), ← hr_ 9 (by decide), ← hr_ 10 (by decide)] at hinv
  obtain ⟨⟨l8, u8⟩, ⟨l9, u9⟩, ⟨l10, u10⟩, ⟨l11, u11⟩, ⟨l12, u12⟩, -⟩ := b_
  obtain ⟨f0, -⟩ := f_
  obtain ⟨e0, ⟨e1, w_⟩⟩ := d_
  subst w_
  have g := rxcRYK_15_2 hP hin I0 hinv l8 u8 l9 u9 l10 u10 l11 u11 l12 u12 f0 e1 e0
  refine ⟨bx_narP_ok (l := []) g.1, bx_nfP_ok h0_ (fvs := []) (by decide +kernel) g.2.1, ?_, ?_⟩
  · show rxIRYK_16 S0 ws S_p (bx_val [(0, 0), (0, 0), (0, 0), (0, 0), (0, 0), (0, 0), (0, 0), (0, 0), (8, 0), (0, 0), (0, 1)] r_p 8) (bx_val [(0, 0), (0, 0), (0, 0), (0, 0), (0, 0), (0, 0), (0, 0), (0, 0), (8, 0), (0, 0), (0, 1)] r_p 9) (bx_val [(0, 0), (0, 0), (0, 0), (0, 0), (0, 0), (0, 0), (0, 0), (0, 0), (8, 0), (0, 0), (0, 1)] r_p 10)
    rw [bx_val_x (n := 8) (e := (8, 0)) h0_ rfl, bx_val_x (n := 9) (e := (0, 0)) h0_ rfl, bx_val_x (n := 10) (e := (0, 1)) h0_ rfl]
    exact g.2.2.1
  · show rxmRYK_16 S0 ws S_p (bx_val [(0, 0), (0, 0), (0, 0), (0, 0), (0, 0), (0, 0), (0, 0), (0, 0), (8, 0), (0, 0), (0, 1)] r_p 8) (bx_val [(0, 0), (0, 0), (0, 0), (0, 0), (0, 0), (0, 0), (0, 0), (0, 0), (8, 0), (0, 0), (0, 1)] r_p 9) (bx_val [(0, 0), (0, 0), (0, 0), (0, 0), (0, 0), (0, 0), (0, 0), (0, 0), (8, 0), (0, 0), (0, 1)] r_p 10) < rxmRYK_15 S0 ws S_p (r 8) (r 9) (r 10)
    rw [bx_val_x (n := 8) (e := (8, 0)) h0_ rfl, bx_val_x (n := 9) (e := (0, 0)) h0_ rfl, bx_val_x (n := 10) (e := (0, 1)) h0_ rfl, ← hr_ 8 (by decide), ← hr_ 9 (by decide), ← hr_ 10 (by decide)]
    exact g.2.2.2
theorem rxcRYK_15_3 {S0 : Nat → Int → Int} {ws : List Int} {S : Nat → Int → Int} {base a v x11 x12 : Int} (hP : rxPRYK S0 ws) (hin : bx_same rxL (bx_mdl rxCRYK.2.2.1) S0 S) (I0 : bx_Inv rxL S) (hinv : rxIRYK_15 S0 ws S base a v) (l8 : 0 ≤ base) (u8 : base ≤ 110) (l9 : 1 ≤ a) (u9 : a ≤ 111) (l10 : 0 ≤ v) (u10 : v ≤ 0) (l11 : 1 ≤ x11) (u11 : x11 ≤ 1) (l12 : 284264 ≤ x12) (u12 : x12 ≤ 284264) (e1 : S 480 11 = x11) (e0 : S 480 12 = x12) : (True) ∧ (True) ∧ rxIRYK_16 S0 ws S base 1 1 ∧ rxmRYK_16 S0 ws S base 1 1 < rxmRYK_15 S0 ws S base a v := by
  obtain ⟨hI, hx⟩ := hinv
  obtain ⟨a_, b_, c_, d_⟩ := rxcRYW_15_3 hP hin I0 hI l8 u8 l9 u9 l10 u10 l11 u11 l12 u12 e1 e0
  exact ⟨a_, b_, ⟨c_, hx⟩, d_⟩
theorem rxgRYK_15_3 {X : (Nat → Int → Int) → Prop} {S0 : Nat → Int → Int} {ws : List Int} (hP : rxPRYK S0 ws) : bx_obC rxL X S0 rxCRYK.2.2.1 (rxIRYK S0 ws) (rxmRYK S0 ws) 15 rxzRYK_15 rxoRYK_15_3 := by
  intro S S_p r r_p hinv hX hin hsm_ hseg
  obtain ⟨I0, I1, h0_, hr_, b_, f_, d_⟩ := bx_cl (evs := [(0, (0, 480), (0, 12), .inr (1, (12, 0))), (0, (0, 480), (0, 11), .inr (0, (11, 0)))]) (fvs := []) hseg (by decide +kernel) (by decide +kernel)
  have hinv : rxIRYK_15 S0 ws S (r 8) (r 9) (r 10) := hinv
  rw [← hr_ 8 (by decide), ← hr_ 9 (by decide), ← hr_ 10 (by decide)] at hinv
  obtain ⟨⟨l8, u8⟩, ⟨l9, u9⟩, ⟨l10, u10⟩, ⟨l11, u11⟩, ⟨l12, u12⟩, -⟩ := b_
  obtain ⟨e0, ⟨e1, w_⟩⟩ := d_
  subst w_
  have g := rxcRYK_15_3 hP hin I0 hinv l8 u8 l9 u9 l10 u10 l11 u11 l12 u12 e1 e0
  refine ⟨bx_narP_ok (l := []) g.1, bx_nfP_ok h0_ (fvs := []) (by decide +kernel) g.2.1, ?_, ?_⟩
  · show rxIRYK_16 S0 ws S_p (bx_val [(0, 0), (0, 0), (0, 0), (0, 0), (0, 0), (0, 0), (0, 0), (0, 0), (8, 0), (0, 1), (0, 1)] r_p 8) (bx_val [(0, 0), (0, 0), (0, 0), (0, 0), (0, 0), (0, 0), (0, 0), (0, 0), (8, 0), (0, 1), (0, 1)] r_p 9) (bx_val [(0, 0), (0, 0), (0, 0), (0, 0), (0, 0), (0, 0), (0, 0), (0, 0), (8, 0), (0, 1), (0, 1)] r_p 10)
    rw [bx_val_x (n := 8) (e := (8, 0)) h0_ rfl, bx_val_x (n := 9) (e := (0, 1)) h0_ rfl, bx_val_x (n := 10) (e := (0, 1)) h0_ rfl]
    exact g.2.2.1
  · show rxmRYK_16 S0 ws S_p (bx_val [(0, 0), (0, 0), (0, 0), (0, 0), (0, 0), (0, 0), (0, 0), (0, 0), (8, 0), (0, 1), (0, 1)] r_p 8) (bx_val [(0, 0), (0, 0), (0, 0), (0, 0), (0, 0), (0, 0), (0, 0), (0, 0), (8, 0), (0, 1), (0, 1)] r_p 9) (bx_val [(0, 0), (0, 0), (0, 0), (0, 0), (0, 0), (0, 0), (0, 0), (0, 0), (8, 0), (0, 1), (0, 1)] r_p 10) < rxmRYK_15 S0 ws S_p (r 8) (r 9) (r 10)
    rw [bx_val_x (n := 8) (e := (8, 0)) h0_ rfl, bx_val_x (n := 9) (e := (0, 1)) h0_ rfl, bx_val_x (n := 10) (e := (0, 1)) h0_ rfl, ← hr_ 8 (by decide), ← hr_ 9 (by decide), ← hr_ 10 (by decide)]
    exact g.2.2.2
theorem rxcRYK_17_0 {S0 : Nat → Int → Int} {ws : List Int} {S : Nat → Int → Int} {base dd is : Int} (hP : rxPRYK S0 ws) (hin : bx_same rxL (bx_mdl rxCRYK.2.2.1) S0 S) (I0 : bx_Inv rxL S) (hinv : rxIRYK_17 S0 ws S base dd is) (l8 : 0 ≤ base) (u8 : base ≤ 110) (l9 : 1 ≤ dd) (u9 : dd ≤ 1) (l10 : 0 ≤ is) (u10 : is ≤ 1) (f0 : dd ≠ 0) : (True) ∧ (True) ∧ rxIRYK_18 S0 ws S base dd (base + 2) 1 ∧ rxmRYK_18 S0 ws S base dd (base + 2) 1 < rxmRYK_17 S0 ws S base dd is := by
  obtain ⟨hI, hx⟩ := hinv
  obtain ⟨a_, b_, c_, d_⟩ := rxcRYW_17_0 hP hin I0 hI l8 u8 l9 u9 l10 u10 f0
  exact ⟨a_, b_, ⟨c_, (by
    intro c hD hW z
    exact ⟨hx c hD hW z, by omega⟩)⟩, d_⟩
theorem rxgRYK_17_0 {X : (Nat → Int → Int) → Prop} {S0 : Nat → Int → Int} {ws : List Int} (hP : rxPRYK S0 ws) : bx_obC rxL X S0 rxCRYK.2.2.1 (rxIRYK S0 ws) (rxmRYK S0 ws) 17 rxzRYK_17 rxoRYK_17_0 := by
  intro S S_p r r_p hinv hX hin hsm_ hseg
  obtain ⟨I0, I1, h0_, hr_, b_, f_, d_⟩ := bx_cl (evs := []) (fvs := [(3, (9, 0), (0, 0), (0, 0))]) hseg (by decide +kernel) (by decide +kernel)
  have hinv : rxIRYK_17 S0 ws S (r 8) (r 9) (r 10) := hinv
  rw [← hr_ 8 (by decide), ← hr_ 9 (by decide), ← hr_ 10 (by decide)] at hinv
  obtain ⟨⟨l8, u8⟩, ⟨l9, u9⟩, ⟨l10, u10⟩, -⟩ := b_
  obtain ⟨f0, -⟩ := f_
  have w_ := d_
  subst w_
  have g := rxcRYK_17_0 hP hin I0 hinv l8 u8 l9 u9 l10 u10 f0
  refine ⟨bx_narP_ok (l := []) g.1, bx_nfP_ok h0_ (fvs := []) (by decide +kernel) g.2.1, ?_, ?_⟩
  · show rxIRYK_18 S0 ws S_p (bx_val [(0, 0), (0, 0), (0, 0), (0, 0), (0, 0), (0, 0), (0, 0), (0, 0), (8, 0), (9, 0), (8, 2), (0, 1)] r_p 8) (bx_val [(0, 0), (0, 0), (0, 0), (0, 0), (0, 0), (0, 0), (0, 0), (0, 0), (8, 0), (9, 0), (8, 2), (0, 1)] r_p 9) (bx_val [(0, 0), (0, 0), (0, 0), (0, 0), (0, 0), (0, 0), (0, 0), (0, 0), (8, 0), (9, 0), (8, 2), (0, 1)] r_p 10) (bx_val [(0, 0), (0, 0), (0, 0), (0, 0), (0, 0), (0, 0), (0, 0), (0, 0), (8, 0), (9, 0), (8, 2), (0, 1)] r_p 11)
    rw [bx_val_x (n := 8) (e := (8, 0)) h0_ rfl, bx_val_x (n := 9) (e := (9, 0)) h0_ rfl, bx_val_x (n := 10) (e := (8, 2)) h0_ rfl, bx_val_x (n := 11) (e := (0, 1)) h0_ rfl]
    exact g.2.2.1
  · show rxmRYK_18 S0 ws S_p (bx_val [(0, 0), (0, 0), (0, 0), (0, 0), (0, 0), (0, 0), (0, 0), (0, 0), (8, 0), (9, 0), (8, 2), (0, 1)] r_p 8) (bx_val [(0, 0), (0, 0), (0, 0), (0, 0), (0, 0), (0, 0), (0, 0), (0, 0), (8, 0), (9, 0), (8, 2), (0, 1)] r_p 9) (bx_val [(0, 0), (0, 0), (0, 0), (0, 0), (0, 0), (0, 0), (0, 0), (0, 0), (8, 0), (9, 0), (8, 2), (0, 1)] r_p 10) (bx_val [(0, 0), (0, 0), (0, 0), (0, 0), (0, 0), (0, 0), (0, 0), (0, 0), (8, 0), (9, 0), (8, 2), (0, 1)] r_p 11) < rxmRYK_17 S0 ws S_p (r 8) (r 9) (r 10)
    rw [bx_val_x (n := 8) (e := (8, 0)) h0_ rfl, bx_val_x (n := 9) (e := (9, 0)) h0_ rfl, bx_val_x (n := 10) (e := (8, 2)) h0_ rfl, bx_val_x (n := 11) (e := (0, 1)) h0_ rfl, ← hr_ 8 (by decide), ← hr_ 9 (by decide), ← hr_ 10 (by decide)]
    exact g.2.2.2
theorem rxcRYK_17_1 {S0 : Nat → Int → Int} {ws : List Int} {S : Nat → Int → Int} {base dd is : Int} (hP : rxPRYK S0 ws) (hin : bx_same rxL (bx_mdl rxCRYK.2.2.1) S0 S) (I0 : bx_Inv rxL S) (hinv : rxIRYK_17 S0 ws S base dd is) (l8 : 0 ≤ base) (u8 : base ≤ 110) (l9 : 0 ≤ dd) (u9 : dd ≤ 0) (l10 : 0 ≤ is) (u10 : is ≤ 1) : (True) ∧ (True) ∧ rxIRYK_18 S0 ws S base dd (base + 2) 0 ∧ rxmRYK_18 S0 ws S base dd (base + 2) 0 < rxmRYK_17 S0 ws S base dd is := by
  obtain ⟨hI, hx⟩ := hinv
  obtain ⟨a_, b_, c_, d_⟩ := rxcRYW_17_1 hP hin I0 hI l8 u8 l9 u9 l10 u10
  exact ⟨a_, b_, ⟨c_, (by
    intro c hD hW z
    exact ⟨hx c hD hW z, by omega⟩)⟩, d_⟩
theorem rxgRYK_17_1 {X : (Nat → Int → Int) → Prop} {S0 : Nat → Int → Int} {ws : List Int} (hP : rxPRYK S0 ws) : bx_obC rxL X S0 rxCRYK.2.2.1 (rxIRYK S0 ws) (rxmRYK S0 ws) 17 rxzRYK_17 rxoRYK_17_1 := by
  intro S S_p r r_p hinv hX hin hsm_ hseg
  obtain ⟨I0, I1, h0_, hr_, b_, f_, d_⟩ := bx_cl (evs := []) (fvs := []) hseg (by decide +kernel) (by decide +kernel)
  have hinv : rxIRYK_17 S0 ws S (r 8) (r 9) (r 10) := hinv
  rw [← hr_ 8 (by decide), ← hr_ 9 (by decide), ← hr_ 10 (by decide)] at hinv
  obtain ⟨⟨l8, u8⟩, ⟨l9, u9⟩, ⟨l10, u10⟩, -⟩ := b_
  have w_ := d_
  subst w_
  have g := rxcRYK_17_1 hP hin I0 hinv l8 u8 l9 u9 l10 u10
  refine ⟨bx_narP_ok (l := []) g.1, bx_nfP_ok h0_ (fvs := []) (by decide +kernel) g.2.1, ?_, ?_⟩
  · show rxIRYK_18 S0 ws S_p (bx_val [(0, 0), (0, 0), (0, 0), (0, 0), (0, 0), (0, 0), (0, 0), (0, 0), (8, 0), (9, 0), (8, 2), (0, 0)] r_p 8) (bx_val [(0, 0), (0, 0), (0, 0), (0, 0), (0, 0), (0, 0), (0, 0), (0, 0), (8, 0), (9, 0), (8, 2), (0, 0)] r_p 9) (bx_val [(0, 0), (0, 0), (0, 0), (0, 0), (0, 0), (0, 0), (0, 0), (0, 0), (8, 0), (9, 0), (8, 2), (0, 0)] r_p 10) (bx_val [(0, 0), (0, 0), (0, 0), (0, 0), (0, 0), (0, 0), (0, 0), (0, 0), (8, 0), (9, 0), (8, 2), (0, 0)] r_p 11)
    rw [bx_val_x (n := 8) (e := (8, 0)) h0_ rfl, bx_val_x (n := 9) (e := (9, 0)) h0_ rfl, bx_val_x (n := 10) (e := (8, 2)) h0_ rfl, bx_val_x (n := 11) (e := (0, 0)) h0_ rfl]
    exact g.2.2.1
  · show rxmRYK_18 S0 ws S_p (bx_val [(0, 0), (0, 0), (0, 0), (0, 0), (0, 0), (0, 0), (0, 0), (0, 0), (8, 0), (9, 0), (8, 2), (0, 0)] r_p 8) (bx_val [(0, 0), (0, 0), (0, 0), (0, 0), (0, 0), (0, 0), (0, 0), (0, 0), (8, 0), (9, 0), (8, 2), (0, 0)] r_p 9) (bx_val [(0, 0), (0, 0), (0, 0), (0, 0), (0, 0), (0, 0), (0, 0), (0, 0), (8, 0), (9, 0), (8, 2), (0, 0)] r_p 10) (bx_val [(0, 0), (0, 0), (0, 0), (0, 0), (0, 0), (0, 0), (0, 0), (0, 0), (8, 0), (9, 0), (8, 2), (0, 0)] r_p 11) < rxmRYK_17 S0 ws S_p (r 8) (r 9) (r 10)
    rw [bx_val_x (n := 8) (e := (8, 0)) h0_ rfl, bx_val_x (n := 9) (e := (9, 0)) h0_ rfl, bx_val_x (n := 10) (e := (8, 2)) h0_ rfl, bx_val_x (n := 11) (e := (0, 0)) h0_ rfl, ← hr_ 8 (by decide), ← hr_ 9 (by decide), ← hr_ 10 (by decide)]
    exact g.2.2.2
theorem rxcRYK_19_0 {S0 : Nat → Int → Int} {ws : List Int} {S : Nat → Int → Int} {base dd a v x12 : Int} (hP : rxPRYK S0 ws) (hin : bx_same rxL (bx_mdl rxCRYK.2.2.1) S0 S) (I0 : bx_Inv rxL S) (hinv : rxIRYK_19 S0 ws S base dd a v) (l8 : 0 ≤ base) (u8 : base ≤ 110) (l9 : 0 ≤ dd) (u9 : dd ≤ 1) (l10 : 2 ≤ a) (u10 : a ≤ 112) (l11 : 0 ≤ v) (u11 : v ≤ 1) (l12 : 0 ≤ x12) (u12 : x12 ≤ 400) (e0 : S 480 18 = x12) : (True) ∧ (True) ∧ rxIRYK_20 S0 ws S base dd (base + 3) x12 ∧ rxmRYK_20 S0 ws S base dd (base + 3) x12 < rxmRYK_19 S0 ws S base dd a v := by
  obtain ⟨hI, hx⟩ := hinv
  obtain ⟨a_, b_, c_, d_⟩ := rxcRYW_19_0 hP hin I0 hI l8 u8 l9 u9 l10 u10 l11 u11 l12 u12 e0
  exact ⟨a_, b_, ⟨c_, hx⟩, d_⟩
theorem rxgRYK_19_0 {X : (Nat → Int → Int) → Prop} {S0 : Nat → Int → Int} {ws : List Int} (hP : rxPRYK S0 ws) : bx_obC rxL X S0 rxCRYK.2.2.1 (rxIRYK S0 ws) (rxmRYK S0 ws) 19 rxzRYK_19 rxoRYK_19_0 := by
  intro S S_p r r_p hinv hX hin hsm_ hseg
  obtain ⟨I0, I1, h0_, hr_, b_, f_, d_⟩ := bx_cl (evs := [(0, (0, 480), (0, 18), .inr (0, (12, 0)))]) (fvs := []) hseg (by decide +kernel) (by decide +kernel)
  have hinv : rxIRYK_19 S0 ws S (r 8) (r 9) (r 10) (r 11) := hinv
  rw [← hr_ 8 (by decide), ← hr_ 9 (by decide), ← hr_ 10 (by decide), ← hr_ 11 (by decide)] at hinv
  obtain ⟨⟨l8, u8⟩, ⟨l9, u9⟩, ⟨l10, u10⟩, ⟨l11, u11⟩, ⟨l12, u12⟩, -⟩ := b_
  obtain ⟨e0, w_⟩ := d_
  subst w_
  have g := rxcRYK_19_0 hP hin I0 hinv l8 u8 l9 u9 l10 u10 l11 u11 l12 u12 e0
  refine ⟨bx_narP_ok (l := []) g.1, bx_nfP_ok h0_ (fvs := []) (by decide +kernel) g.2.1, ?_, ?_⟩
  · show rxIRYK_20 S0 ws S_p (bx_val [(0, 0), (0, 0), (0, 0), (0, 0), (0, 0), (0, 0), (0, 0), (0, 0), (8, 0), (9, 0), (8, 3), (12, 0)] r_p 8) (bx_val [(0, 0), (0, 0), (0, 0), (0, 0), (0, 0), (0, 0), (0, 0), (0, 0), (8, 0), (9, 0), (8, 3), (12, 0)] r_p 9) (bx_val [(0, 0), (0, 0), (0, 0), (0, 0), (0, 0), (0, 0), (0, 0), (0, 0), (8, 0), (9, 0), (8, 3), (12, 0)] r_p 10) (bx_val [(0, 0), (0, 0), (0, 0), (0, 0), (0, 0), (0, 0), (0, 0), (0, 0), (8, 0), (9, 0), (8, 3), (12, 0)] r_p 11)
    rw [bx_val_x (n := 8) (e := (8, 0)) h0_ rfl, bx_val_x (n := 9) (e := (9, 0)) h0_ rfl, bx_val_x (n := 10) (e := (8, 3)) h0_ rfl, bx_val_x (n := 11) (e := (12, 0)) h0_ rfl]
    exact g.2.2.1
  · show rxmRYK_20 S0 ws S_p (bx_val [(0, 0), (0, 0), (0, 0), (0, 0), (0, 0), (0, 0), (0, 0), (0, 0), (8, 0), (9, 0), (8, 3), (12, 0)] r_p 8) (bx_val [(0, 0), (0, 0), (0, 0), (0, 0), (0, 0), (0, 0), (0, 0), (0, 0), (8, 0), (9, 0), (8, 3), (12, 0)] r_p 9) (bx_val [(0, 0), (0, 0), (0, 0), (0, 0), (0, 0), (0, 0), (0, 0), (0, 0), (8, 0), (9, 0), (8, 3), (12, 0)] r_p 10) (bx_val [(0, 0), (0, 0), (0, 0), (0, 0), (0, 0), (0, 0), (0, 0), (0, 0), (8, 0), (9, 0), (8, 3), (12, 0)] r_p 11) < rxmRYK_19 S0 ws S_p (r 8) (r 9) (r 10) (r 11)
    rw [bx_val_x (n := 8) (e := (8, 0)) h0_ rfl, bx_val_x (n := 9) (e := (9, 0)) h0_ rfl, bx_val_x (n := 10) (e := (8, 3)) h0_ rfl, bx_val_x (n := 11) (e := (12, 0)) h0_ rfl, ← hr_ 8 (by decide), ← hr_ 9 (by decide), ← hr_ 10 (by decide), ← hr_ 11 (by decide)]
    exact g.2.2.2
theorem rxcRYK_21_0 {S0 : Nat → Int → Int} {ws : List Int} {S : Nat → Int → Int} {base dd a v x12 : Int} (hP : rxPRYK S0 ws) (hin : bx_same rxL (bx_mdl rxCRYK.2.2.1) S0 S) (I0 : bx_Inv rxL S) (hinv : rxIRYK_21 S0 ws S base dd a v) (l8 : 0 ≤ base) (u8 : base ≤ 110) (l9 : 0 ≤ dd) (u9 : dd ≤ 0) (l10 : 3 ≤ a) (u10 : a ≤ 113) (l11 : 0 ≤ v) (u11 : v ≤ 400) (l12 : 0 ≤ x12) (u12 : x12 ≤ 0) (e0 : S 480 14 = x12) : (True) ∧ (True) ∧ rxIRYK_22 S0 ws S base dd ∧ rxmRYK_22 S0 ws S base dd < rxmRYK_21 S0 ws S base dd a v := by
  obtain ⟨hI, hx⟩ := hinv
  obtain ⟨a_, b_, c_, d_⟩ := rxcRYW_21_0 hP hin I0 hI l8 u8 l9 u9 l10 u10 l11 u11 l12 u12 e0
  exact ⟨a_, b_, ⟨c_, hx⟩, d_⟩
theorem rxgRYK_21_0 {X : (Nat → Int → Int) → Prop} {S0 : Nat → Int → Int} {ws : List Int} (hP : rxPRYK S0 ws) : bx_obC rxL X S0 rxCRYK.2.2.1 (rxIRYK S0 ws) (rxmRYK S0 ws) 21 rxzRYK_21 rxoRYK_21_0 := by
  intro S S_p r r_p hinv hX hin hsm_ hseg
  obtain ⟨I0, I1, h0_, hr_, b_, f_, d_⟩ := bx_cl (evs := [(0, (0, 480), (0, 14), .inr (0, (12, 0)))]) (fvs := []) hseg (by decide +kernel) (by decide +kernel)
  have hinv : rxIRYK_21 S0 ws S (r 8) (r 9) (r 10) (r 11) := hinv
  rw [← hr_ 8 (by decide), ← hr_ 9 (by decide), ← hr_ 10 (by decide), ← hr_ 11 (by decide)] at hinv
  obtain ⟨⟨l8, u8⟩, ⟨l9, u9⟩, ⟨l10, u10⟩, ⟨l11, u11⟩, ⟨l12, u12⟩, -⟩ := b_
  obtain ⟨e0, w_⟩ := d_
  subst w_
  have g := rxcRYK_21_0 hP hin I0 hinv l8 u8 l9 u9 l10 u10 l11 u11 l12 u12 e0
  refine ⟨bx_narP_ok (l := []) g.1, bx_nfP_ok h0_ (fvs := []) (by decide +kernel) g.2.1, ?_, ?_⟩
  · show rxIRYK_22 S0 ws S_p (bx_val [(0, 0), (0, 0), (0, 0), (0, 0), (0, 0), (0, 0), (0, 0), (0, 0), (8, 0), (9, 0)] r_p 8) (bx_val [(0, 0), (0, 0), (0, 0), (0, 0), (0, 0), (0, 0), (0, 0), (0, 0), (8, 0), (9, 0)] r_p 9)
    rw [bx_val_x (n := 8) (e := (8, 0)) h0_ rfl, bx_val_x (n := 9) (e := (9, 0)) h0_ rfl]
    exact g.2.2.1
  · show rxmRYK_22 S0 ws S_p (bx_val [(0, 0), (0, 0), (0, 0), (0, 0), (0, 0), (0, 0), (0, 0), (0, 0), (8, 0), (9, 0)] r_p 8) (bx_val [(0, 0), (0, 0), (0, 0), (0, 0), (0, 0), (0, 0), (0, 0), (0, 0), (8, 0), (9, 0)] r_p 9) < rxmRYK_21 S0 ws S_p (r 8) (r 9) (r 10) (r 11)
    rw [bx_val_x (n := 8) (e := (8, 0)) h0_ rfl, bx_val_x (n := 9) (e := (9, 0)) h0_ rfl, ← hr_ 8 (by decide), ← hr_ 9 (by decide), ← hr_ 10 (by decide), ← hr_ 11 (by decide)]
    exact g.2.2.2
theorem rxcRYK_21_1 {S0 : Nat → Int → Int} {ws : List Int} {S : Nat → Int → Int} {base dd a v x12 x13 : Int} (hP : rxPRYK S0 ws) (hin : bx_same rxL (bx_mdl rxCRYK.2.2.1) S0 S) (I0 : bx_Inv rxL S) (hinv : rxIRYK_21 S0 ws S base dd a v) (l8 : 0 ≤ base) (u8 : base ≤ 110) (l9 : 1 ≤ dd) (u9 : dd ≤ 1) (l10 : 3 ≤ a) (u10 : a ≤ 113) (l11 : 0 ≤ v) (u11 : v ≤ 400) (l12 : 0 ≤ x12) (u12 : x12 ≤ 0) (l13 : 0 ≤ x13) (u13 : x13 ≤ 400) (f0 : dd ≠ 0) (e1 : S 480 14 = x12) (e0 : S 480 18 = x13) : (True) ∧ (True) ∧ rxIRYK_24 S0 ws S base dd (base + 4) x13 ∧ rxmRYK_24 S0 ws S base dd (base + 4) x13 < rxmRYK_21 S0 ws S base dd a v := by
  obtain ⟨hI, hx⟩ := hinv
  obtain ⟨a_, b_, c_, d_⟩ := rxcRYW_21_1 hP hin I0 hI l8 u8 l9 u9 l10 u10 l11 u11 l12 u12 l13 u13 f0 e1 e0
  exact ⟨a_, b_, ⟨c_, (by
    intro c hD hW z
    obtain ⟨h1, h2, h3⟩ := hx c hD hW z
    exact ⟨rjY6_h h1 (by omega), h2, h3⟩)⟩, d_⟩
theorem rxgRYK_21_1 {X : (Nat → Int → Int) → Prop} {S0 : Nat → Int → Int} {ws : List Int} (hP : rxPRYK S0 ws) : bx_obC rxL X S0 rxCRYK.2.2.1 (rxIRYK S0 ws) (rxmRYK S0 ws) 21 rxzRYK_21 rxoRYK_21_1 := by
  intro S S_p r r_p hinv hX hin hsm_ hseg
  obtain ⟨I0, I1, h0_, hr_, b_, f_, d_⟩ := bx_cl (evs := [(0, (0, 480), (0, 18), .inr (0, (13, 0))), (0, (0, 480), (0, 14), .inr (0, (12, 0)))]) (fvs := [(3, (9, 0), (0, 0), (0, 0))]) hseg (by decide +kernel) (by decide +kernel)
  have hinv : rxIRYK_21 S0 ws S (r 8) (r 9) (r 10) (r 11) := hinv
  rw [← hr_ 8 (by decide), ← hr_ 9 (by decide), ← hr_ 10 (by decide), ← hr_ 11 (by decide)] at hinv
  obtain ⟨⟨l8, u8⟩, ⟨l9, u9⟩, ⟨l10, u10⟩, ⟨l11, u11⟩, ⟨l12, u12⟩, ⟨l13, u13⟩, -⟩ := b_
  obtain ⟨f0, -⟩ := f_
  obtain ⟨e0, ⟨e1, w_⟩⟩ := d_
  subst w_
  have g := rxcRYK_21_1 hP hin I0 hinv l8 u8 l9 u9 l10 u10 l11 u11 l12 u12 l13 u13 f0 e1 e0
  refine ⟨bx_narP_ok (l := []) g.1, bx_nfP_ok h0_ (fvs := []) (by decide +kernel) g.2.1, ?_, ?_⟩
  · show rxIRYK_24 S0 ws S_p (bx_val [(0, 0), (0, 0), (0, 0), (0, 0), (0, 0), (0, 0), (0, 0), (0, 0), (8, 0), (9, 0), (8, 4), (13, 0)] r_p 8) (bx_val [(0, 0), (0, 0), (0, 0), (0, 0), (0, 0), (0, 0), (0, 0), (0, 0), (8, 0), (9, 0), (8, 4), (13, 0)] r_p 9) (bx_val [(0, 0), (0, 0), (0, 0), (0, 0), (0, 0), (0, 0), (0, 0), (0, 0), (8, 0), (9, 0), (8, 4), (13, 0)] r_p 10) (bx_val [(0, 0), (0, 0), (0, 0), (0, 0), (0, 0), (0, 0), (0, 0), (0, 0), (8, 0), (9, 0), (8, 4), (13, 0)] r_p 11)
    rw [bx_val_x (n := 8) (e := (8, 0)) h0_ rfl, bx_val_x (n := 9) (e := (9, 0)) h0_ rfl, bx_val_x (n := 10) (e := (8, 4)) h0_ rfl, bx_val_x (n := 11) (e := (13, 0)) h0_ rfl]
    exact g.2.2.1
  · show rxmRYK_24 S0 ws S_p (bx_val [(0, 0), (0, 0), (0, 0), (0, 0), (0, 0), (0, 0), (0, 0), (0, 0), (8, 0), (9, 0), (8, 4), (13, 0)] r_p 8) (bx_val [(0, 0), (0, 0), (0, 0), (0, 0), (0, 0), (0, 0), (0, 0), (0, 0), (8, 0), (9, 0), (8, 4), (13, 0)] r_p 9) (bx_val [(0, 0), (0, 0), (0, 0), (0, 0), (0, 0), (0, 0), (0, 0), (0, 0), (8, 0), (9, 0), (8, 4), (13, 0)] r_p 10) (bx_val [(0, 0), (0, 0), (0, 0), (0, 0), (0, 0), (0, 0), (0, 0), (0, 0), (8, 0), (9, 0), (8, 4), (13, 0)] r_p 11) < rxmRYK_21 S0 ws S_p (r 8) (r 9) (r 10) (r 11)
    rw [bx_val_x (n := 8) (e := (8, 0)) h0_ rfl, bx_val_x (n := 9) (e := (9, 0)) h0_ rfl, bx_val_x (n := 10) (e := (8, 4)) h0_ rfl, bx_val_x (n := 11) (e := (13, 0)) h0_ rfl, ← hr_ 8 (by decide), ← hr_ 9 (by decide), ← hr_ 10 (by decide), ← hr_ 11 (by decide)]
    exact g.2.2.2
theorem rxcRYK_21_2 {S0 : Nat → Int → Int} {ws : List Int} {S : Nat → Int → Int} {base dd a v x12 x13 : Int} (hP : rxPRYK S0 ws) (hin : bx_same rxL (bx_mdl rxCRYK.2.2.1) S0 S) (I0 : bx_Inv rxL S) (hinv : rxIRYK_21 S0 ws S base dd a v) (l8 : 0 ≤ base) (u8 : base ≤ 110) (l9 : 0 ≤ dd) (u9 : dd ≤ 1) (l10 : 3 ≤ a) (u10 : a ≤ 113) (l11 : 0 ≤ v) (u11 : v ≤ 400) (l12 : 1 ≤ x12) (u12 : x12 ≤ 1) (l13 : 0 ≤ x13) (u13 : x13 ≤ 400) (f0 : x12 ≠ 0) (e1 : S 480 14 = x12) (e0 : S 480 18 = x13) : (True) ∧ (True) ∧ rxIRYK_24 S0 ws S base dd (base + 4) x13 ∧ rxmRYK_24 S0 ws S base dd (base + 4) x13 < rxmRYK_21 S0 ws S base dd a v := by
  obtain ⟨hI, hx⟩ := hinv
  obtain ⟨a_, b_, c_, d_⟩ := rxcRYW_21_2 hP hin I0 hI l8 u8 l9 u9 l10 u10 l11 u11 l12 u12 l13 u13 f0 e1 e0
  exact ⟨a_, b_, ⟨c_, (by
    intro c hD hW z
    exact absurd z (by omega))⟩, d_⟩
theorem rxgRYK_21_2 {X : (Nat → Int → Int) → Prop} {S0 : Nat → Int → Int} {ws : List Int} (hP : rxPRYK S0 ws) : bx_obC rxL X S0 rxCRYK.2.2.1 (rxIRYK S0 ws) (rxmRYK S0 ws) 21 rxzRYK_21 rxoRYK_21_2 := by
  intro S S_p r r_p hinv hX hin hsm_ hseg
  obtain ⟨I0, I1, h0_, hr_, b_, f_, d_⟩ := bx_cl (evs := [(0, (0, 480), (0, 18), .inr (0, (13, 0))), (0, (0, 480), (0, 14), .inr (0, (12, 0)))]) (fvs := [(3, (12, 0), (0, 0), (0, 0))]) hseg (by decide +kernel) (by decide +kernel)
  have hinv : rxIRYK_21 S0 ws S (r 8) (r 9) (r 10) (r 11) := hinv
  rw [← hr_ 8 (by decide), ← hr_ 9 (by decide), ← hr_ 10 (by decide), ← hr_ 11 (by decide)] at hinv
  obtain ⟨⟨l8, u8⟩, ⟨l9, u9⟩, ⟨l10, u10⟩, ⟨l11, u11⟩, ⟨l12, u12⟩, ⟨l13, u13⟩, -⟩ := b_
  obtain ⟨f0, -⟩ := f_
  obtain ⟨e0, ⟨e1, w_⟩⟩ := d_
  subst w_
  have g := rxcRYK_21_2 hP hin I0 hinv l8 u8 l9 u9 l10 u10 l11 u11 l12 u12 l13 u13 f0 e1 e0
  refine ⟨bx_narP_ok (l := []) g.1, bx_nfP_ok h0_ (fvs := []) (by decide +kernel) g.2.1, ?_, ?_⟩
  · show rxIRYK_24 S0 ws S_p (bx_val [(0, 0), (0, 0), (0, 0), (0, 0), (0, 0), (0, 0), (0, 0), (0, 0), (8, 0), (9, 0), (8, 4), (13, 0)] r_p 8) (bx_val [(0, 0), (0, 0), (0, 0), (0, 0), (0, 0), (0, 0), (0, 0), (0, 0), (8, 0), (9, 0), (8, 4), (13, 0)] r_p 9) (bx_val [(0, 0), (0, 0), (0, 0), (0, 0), (0, 0), (0, 0), (0, 0), (0, 0), (8, 0), (9, 0), (8, 4), (13, 0)] r_p 10) (bx_val [(0, 0), (0, 0), (0, 0), (0, 0), (0, 0), (0, 0), (0, 0), (0, 0), (8, 0), (9, 0), (8, 4), (13, 0)] r_p 11)
    rw [bx_val_x (n := 8) (e := (8, 0)) h0_ rfl, bx_val_x (n := 9) (e := (9, 0)) h0_ rfl, bx_val_x (n := 10) (e := (8, 4)) h0_ rfl, bx_val_x (n := 11) (e := (13, 0)) h0_ rfl]
    exact g.2.2.1
  · show rxmRYK_24 S0 ws S_p (bx_val [(0, 0), (0, 0), (0, 0), (0, 0), (0, 0), (0, 0), (0, 0), (0, 0), (8, 0), (9, 0), (8, 4), (13, 0)] r_p 8) (bx_val [(0, 0), (0, 0), (0, 0), (0, 0), (0, 0), (0, 0), (0, 0), (0, 0), (8, 0), (9, 0), (8, 4), (13, 0)] r_p 9) (bx_val [(0, 0), (0, 0), (0, 0), (0, 0), (0, 0), (0, 0), (0, 0), (0, 0), (8, 0), (9, 0), (8, 4), (13, 0)] r_p 10) (bx_val [(0, 0), (0, 0), (0, 0), (0, 0), (0, 0), (0, 0), (0, 0), (0, 0), (8, 0), (9, 0), (8, 4), (13, 0)] r_p 11) < rxmRYK_21 S0 ws S_p (r 8) (r 9) (r 10) (r 11)
    rw [bx_val_x (n := 8) (e := (8, 0)) h0_ rfl, bx_val_x (n := 9) (e := (9, 0)) h0_ rfl, bx_val_x (n := 10) (e := (8, 4)) h0_ rfl, bx_val_x (n := 11) (e := (13, 0)) h0_ rfl, ← hr_ 8 (by decide), ← hr_ 9 (by decide), ← hr_ 10 (by decide), ← hr_ 11 (by decide)]
    exact g.2.2.2
theorem rxcRYK_23_0 {S0 : Nat → Int → Int} {ws : List Int} {S : Nat → Int → Int} {base dd x10 : Int} (hP : rxPRYK S0 ws) (hin : bx_same rxL (bx_mdl rxCRYK.2.2.1) S0 S) (I0 : bx_Inv rxL S) (hinv : rxIRYK_23 S0 ws S base dd) (l8 : 0 ≤ base) (u8 : base ≤ 110) (l9 : 0 ≤ dd) (u9 : dd ≤ 1) (l10 : 0 ≤ x10) (u10 : x10 ≤ 400) (e0 : S 480 18 = x10) : (True) ∧ (True) ∧ rxIRYK_24 S0 ws S base dd (base + 4) x10 ∧ rxmRYK_24 S0 ws S base dd (base + 4) x10 < rxmRYK_23 S0 ws S base dd := by
  obtain ⟨hI, hx⟩ := hinv
  obtain ⟨a_, b_, c_, d_⟩ := rxcRYW_23_0 hP hin I0 hI l8 u8 l9 u9 l10 u10 e0
  exact ⟨a_, b_, ⟨c_, hx⟩, d_⟩
theorem rxgRYK_23_0 {X : (Nat → Int → Int) → Prop} {S0 : Nat → Int → Int} {ws : List Int} (hP : rxPRYK S0 ws) : bx_obC rxL X S0 rxCRYK.2.2.1 (rxIRYK S0 ws) (rxmRYK S0 ws) 23 rxzRYK_23 rxoRYK_23_0 := by
  intro S S_p r r_p hinv hX hin hsm_ hseg
  obtain ⟨I0, I1, h0_, hr_, b_, f_, d_⟩ := bx_cl (evs := [(0, (0, 480), (0, 18), .inr (0, (10, 0)))]) (fvs := []) hseg (by decide +kernel) (by decide +kernel)
  have hinv : rxIRYK_23 S0 ws S (r 8) (r 9) := hinv
  rw [← hr_ 8 (by decide), ← hr_ 9 (by decide)] at hinv
  obtain ⟨⟨l8, u8⟩, ⟨l9, u9⟩, ⟨l10, u10⟩, -⟩ := b_
  obtain ⟨e0, w_⟩ := d_
  subst w_
  have g := rxcRYK_23_0 hP hin I0 hinv l8 u8 l9 u9 l10 u10 e0
  refine ⟨bx_narP_ok (l := []) g.1, bx_nfP_ok h0_ (fvs := []) (by decide +kernel) g.2.1, ?_, ?_⟩
  · show rxIRYK_24 S0 ws S_p (bx_val [(0, 0), (0, 0), (0, 0), (0, 0), (0, 0), (0, 0), (0, 0), (0, 0), (8, 0), (9, 0), (8, 4), (10, 0)] r_p 8) (bx_val [(0, 0), (0, 0), (0, 0), (0, 0), (0, 0), (0, 0), (0, 0), (0, 0), (8, 0), (9, 0), (8, 4), (10, 0)] r_p 9) (bx_val [(0, 0), (0, 0), (0, 0), (0, 0), (0, 0), (0, 0), (0, 0), (0, 0), (8, 0), (9, 0), (8, 4), (10, 0)] r_p 10) (bx_val [(0, 0), (0, 0), (0, 0), (0, 0), (0, 0), (0, 0), (0, 0), (0, 0), (8, 0), (9, 0), (8, 4), (10, 0)] r_p 11)
    rw [bx_val_x (n := 8) (e := (8, 0)) h0_ rfl, bx_val_x (n := 9) (e := (9, 0)) h0_ rfl, bx_val_x (n := 10) (e := (8, 4)) h0_ rfl, bx_val_x (n := 11) (e := (10, 0)) h0_ rfl]
    exact g.2.2.1
  · show rxmRYK_24 S0 ws S_p (bx_val [(0, 0), (0, 0), (0, 0), (0, 0), (0, 0), (0, 0), (0, 0), (0, 0), (8, 0), (9, 0), (8, 4), (10, 0)] r_p 8) (bx_val [(0, 0), (0, 0), (0, 0), (0, 0), (0, 0), (0, 0), (0, 0), (0, 0), (8, 0), (9, 0), (8, 4), (10, 0)] r_p 9) (bx_val [(0, 0), (0, 0), (0, 0), (0, 0), (0, 0), (0, 0), (0, 0), (0, 0), (8, 0), (9, 0), (8, 4), (10, 0)] r_p 10) (bx_val [(0, 0), (0, 0), (0, 0), (0, 0), (0, 0), (0, 0), (0, 0), (0, 0), (8, 0), (9, 0), (8, 4), (10, 0)] r_p 11) < rxmRYK_23 S0 ws S_p (r 8) (r 9)
    rw [bx_val_x (n := 8) (e := (8, 0)) h0_ rfl, bx_val_x (n := 9) (e := (9, 0)) h0_ rfl, bx_val_x (n := 10) (e := (8, 4)) h0_ rfl, bx_val_x (n := 11) (e := (10, 0)) h0_ rfl, ← hr_ 8 (by decide), ← hr_ 9 (by decide)]
    exact g.2.2.2
theorem rxcRYK_25_0 {S0 : Nat → Int → Int} {ws : List Int} {S : Nat → Int → Int} {base dd a v x12 x13 x14 : Int} (hP : rxPRYK S0 ws) (hin : bx_same rxL (bx_mdl rxCRYK.2.2.1) S0 S) (I0 : bx_Inv rxL S) (hinv : rxIRYK_25 S0 ws S base dd a v) (l8 : 0 ≤ base) (u8 : base ≤ 110) (l9 : 0 ≤ dd) (u9 : dd ≤ 0) (l10 : 4 ≤ a) (u10 : a ≤ 114) (l11 : 0 ≤ v) (u11 : v ≤ 400) (l12 : 0 ≤ x12) (u12 : x12 ≤ 0) (l13 : 0 ≤ x13) (u13 : x13 ≤ 3) (l14 : 0 ≤ x14) (u14 : x14 ≤ 400) (f0 : x13 ≠ 1) (e2 : S 480 14 = x12) (e1 : S 480 11 = x13) (e0 : S 480 18 = x14) : (True) ∧ (True) ∧ rxIRYK_30 S0 ws S base dd (base + 5) x14 ∧ rxmRYK_30 S0 ws S base dd (base + 5) x14 < rxmRYK_25 S0 ws S base dd a v := by
  obtain ⟨hI, hx⟩ := hinv
  obtain ⟨a_, b_, c_, d_⟩ := rxcRYW_25_0 hP hin I0 hI l8 u8 l9 u9 l10 u10 l11 u11 l12 u12 l13 u13 l14 u14 f0 e2 e1 e0
  exact ⟨a_, b_, ⟨c_, (by
    intro c hD hW z
    have em := hI.1.2
    obtain ⟨h1, h2, h3⟩ := hx c hD hW z
    obtain ⟨kr, dq, -⟩ := (hI.2 c hD hW).1 z
    have g := rzDq_no dq (w := rzW_go) (v := 239) (by decide) (by decide) (by omega)
    rw [kr.1, kr.2.1] at g
    exact ⟨rjYH_ng h1 (by omega) kr g em, h2, h3⟩)⟩, d_⟩
theorem rxgRYK_25_0 {X : (Nat → Int → Int) → Prop} {S0 : Nat → Int → Int} {ws : List Int} (hP : rxPRYK S0 ws) : bx_obC rxL X S0 rxCRYK.2.2.1 (rxIRYK S0 ws) (rxmRYK S0 ws) 25 rxzRYK_25 rxoRYK_25_0 := by
  intro S S_p r r_p hinv hX hin hsm_ hseg
  obtain ⟨I0, I1, h0_, hr_, b_, f_, d_⟩ := bx_cl (evs := [(0, (0, 480), (0, 18), .inr (0, (14, 0))), (0, (0, 480), (0, 11), .inr (0, (13, 0))), (0, (0, 480), (0, 14), .inr (0, (12, 0)))]) (fvs := [(3, (13, 0), (0, 1), (0, 0))]) hseg (by decide +kernel) (by decide +kernel)
  have hinv : rxIRYK_25 S0 ws S (r 8) (r 9) (r 10) (r 11) := hinv
  rw [← hr_ 8 (by decide), ← hr_ 9 (by decide), ← hr_ 10 (by decide), ← hr_ 11 (by decide)] at hinv
  obtain ⟨⟨l8, u8⟩, ⟨l9, u9⟩, ⟨l10, u10⟩, ⟨l11, u11⟩, ⟨l12, u12⟩, ⟨l13, u13⟩, ⟨l14, u14⟩, -⟩ := b_
  obtain ⟨f0, -⟩ := f_
  obtain ⟨e0, ⟨e1, ⟨e2, w_⟩⟩⟩ := d_
  subst w_
  have g := rxcRYK_25_0 hP hin I0 hinv l8 u8 l9 u9 l10 u10 l11 u11 l12 u12 l13 u13 l14 u14 f0 e2 e1 e0
  refine ⟨bx_narP_ok (l := []) g.1, bx_nfP_ok h0_ (fvs := []) (by decide +kernel) g.2.1, ?_, ?_⟩
  · show rxIRYK_30 S0 ws S_p (bx_val [(0, 0), (0, 0), (0, 0), (0, 0), (0, 0), (0, 0), (0, 0), (0, 0), (8, 0), (9, 0), (8, 5), (14, 0)] r_p 8) (bx_val [(0, 0), (0, 0), (0, 0), (0, 0), (0, 0), (0, 0), (0, 0), (0, 0), (8, 0), (9, 0), (8, 5), (14, 0)] r_p 9) (bx_val [(0, 0), (0, 0), (0, 0), (0, 0), (0, 0), (0, 0), (0, 0), (0, 0), (8, 0), (9, 0), (8, 5), (14, 0)] r_p 10) (bx_val [(0, 0), (0, 0), (0, 0), (0, 0), (0, 0), (0, 0), (0, 0), (0, 0), (8, 0), (9, 0), (8, 5), (14, 0)] r_p 11)
    rw [bx_val_x (n := 8) (e := (8, 0)) h0_ rfl, bx_val_x (n := 9) (e := (9, 0)) h0_ rfl, bx_val_x (n := 10) (e := (8, 5)) h0_ rfl, bx_val_x (n := 11) (e := (14, 0)) h0_ rfl]
    exact g.2.2.1
  · show rxmRYK_30 S0 ws S_p (bx_val [(0, 0), (0, 0), (0, 0), (0, 0), (0, 0), (0, 0), (0, 0), (0, 0), (8, 0), (9, 0), (8, 5), (14, 0)] r_p 8) (bx_val [(0, 0), (0, 0), (0, 0), (0, 0), (0, 0), (0, 0), (0, 0), (0, 0), (8, 0), (9, 0), (8, 5), (14, 0)] r_p 9) (bx_val [(0, 0), (0, 0), (0, 0), (0, 0), (0, 0), (0, 0), (0, 0), (0, 0), (8, 0), (9, 0), (8, 5), (14, 0)] r_p 10) (bx_val [(0, 0), (0, 0), (0, 0), (0, 0), (0, 0), (0, 0), (0, 0), (0, 0), (8, 0), (9, 0), (8, 5), (14, 0)] r_p 11) < rxmRYK_25 S0 ws S_p (r 8) (r 9) (r 10) (r 11)
    rw [bx_val_x (n := 8) (e := (8, 0)) h0_ rfl, bx_val_x (n := 9) (e := (9, 0)) h0_ rfl, bx_val_x (n := 10) (e := (8, 5)) h0_ rfl, bx_val_x (n := 11) (e := (14, 0)) h0_ rfl, ← hr_ 8 (by decide), ← hr_ 9 (by decide), ← hr_ 10 (by decide), ← hr_ 11 (by decide)]
    exact g.2.2.2
theorem rxcRYK_25_1 {S0 : Nat → Int → Int} {ws : List Int} {S : Nat → Int → Int} {base dd a v x12 x13 x14 x15 : Int} (hP : rxPRYK S0 ws) (hin : bx_same rxL (bx_mdl rxCRYK.2.2.1) S0 S) (I0 : bx_Inv rxL S) (hinv : rxIRYK_25 S0 ws S base dd a v) (l8 : 0 ≤ base) (u8 : base ≤ 110) (l9 : 0 ≤ dd) (u9 : dd ≤ 0) (l10 : 4 ≤ a) (u10 : a ≤ 114) (l11 : 0 ≤ v) (u11 : v ≤ 400) (l12 : 0 ≤ x12) (u12 : x12 ≤ 0) (l13 : 1 ≤ x13) (u13 : x13 ≤ 1) (l14 : (-9223372036854775808) ≤ x14) (u14 : x14 ≤ 9223372036854775807) (l15 : 0 ≤ x15) (u15 : x15 ≤ 400) (f0 : x14 ≠ 239) (e3 : S 480 14 = x12) (e2 : S 480 11 = x13) (e1 : S 480 12 = x14) (e0 : S 480 18 = x15) : (True) ∧ (True) ∧ rxIRYK_30 S0 ws S base dd (base + 5) x15 ∧ rxmRYK_30 S0 ws S base dd (base + 5) x15 < rxmRYK_25 S0 ws S base dd a v := by
  obtain ⟨hI, hx⟩ := hinv
  obtain ⟨a_, b_, c_, d_⟩ := rxcRYW_25_1 hP hin I0 hI l8 u8 l9 u9 l10 u10 l11 u11 l12 u12 l13 u13 l14 u14 l15 u15 f0 e3 e2 e1 e0
  exact ⟨a_, b_, ⟨c_, (by
    intro c hD hW z
    have em := hI.1.2
    obtain ⟨h1, h2, h3⟩ := hx c hD hW z
    obtain ⟨kr, dq, -⟩ := (hI.2 c hD hW).1 z
    have g := rzDq_no dq (w := rzW_go) (v := 239) (by decide) (by decide) (by omega)
    rw [kr.1, kr.2.1] at g
    exact ⟨rjYH_ng h1 (by omega) kr g em, h2, h3⟩)⟩, d_⟩
theorem rxgRYK_25_1 {X : (Nat → Int → Int) → Prop} {S0 : Nat → Int → Int} {ws : List Int} (hP : rxPRYK S0 ws) : bx_obC rxL X S0 rxCRYK.2.2.1 (rxIRYK S0 ws) (rxmRYK S0 ws) 25 rxzRYK_25 rxoRYK_25_1 := by
  intro S S_p r r_p hinv hX hin hsm_ hseg
  obtain ⟨I0, I1, h0_, hr_, b_, f_, d_⟩ := bx_cl (evs := [(0, (0, 480), (0, 18), .inr (0, (15, 0))), (0, (0, 480), (0, 12), .inr (1, (14, 0))), (0, (0, 480), (0, 11), .inr (0, (13, 0))), (0, (0, 480), (0, 14), .inr (0, (12, 0)))]) (fvs := [(3, (14, 0), (0, 239), (0, 0))]) hseg (by decide +kernel) (by decide +kernel)
  have hinv : rxIRYK_25 S0 ws S (r 8) (r 9) (r 10) (r 11) := hinv
  rw [← hr_ 8 (by decide), ← hr_ 9 (by decide), ← hr_ 10 (by decide), ← hr_ 11 (by decide)] at hinv
  obtain ⟨⟨l8, u8⟩, ⟨l9, u9⟩, ⟨l10, u10⟩, ⟨l11, u11⟩, ⟨l12, u12⟩, ⟨l13, u13⟩, ⟨l14, u14⟩, ⟨l15, u15⟩, -⟩ := b_
  obtain ⟨f0, -⟩ := f_
  obtain ⟨e0, ⟨e1, ⟨e2, ⟨e3, w_⟩⟩⟩⟩ := d_
  subst w_
  have g := rxcRYK_25_1 hP hin I0 hinv l8 u8 l9 u9 l10 u10 l11 u11 l12 u12 l13 u13 l14 u14 l15 u15 f0 e3 e2 e1 e0
  refine ⟨bx_narP_ok (l := []) g.1, bx_nfP_ok h0_ (fvs := []) (by decide +kernel) g.2.1, ?_, ?_⟩
  · show rxIRYK_30 S0 ws S_p (bx_val [(0, 0), (0, 0), (0, 0), (0, 0), (0, 0), (0, 0), (0, 0), (0, 0), (8, 0), (9, 0), (8, 5), (15, 0)] r_p 8) (bx_val [(0, 0), (0, 0), (0, 0), (0, 0), (0, 0), (0, 0), (0, 0), (0, 0), (8, 0), (9, 0), (8, 5), (15, 0)] r_p 9) (bx_val [(0, 0), (0, 0), (0, 0), (0, 0), (0, 0), (0, 0), (0, 0), (0, 0), (8, 0), (9, 0), (8, 5), (15, 0)] r_p 10) (bx_val [(0, 0), (0, 0), (0, 0), (0, 0), (0, 0), (0, 0), (0, 0), (0, 0), (8, 0), (9, 0), (8, 5), (15, 0)] r_p 11)
    rw [bx_val_x (n := 8) (e := (8, 0)) h0_ rfl, bx_val_x (n := 9) (e := (9, 0)) h0_ rfl, bx_val_x (n := 10) (e := (8, 5)) h0_ rfl, bx_val_x (n := 11) (e := (15, 0)) h0_ rfl]
    exact g.2.2.1
  · show rxmRYK_30 S0 ws S_p (bx_val [(0, 0), (0, 0), (0, 0), (0, 0), (0, 0), (0, 0), (0, 0), (0, 0), (8, 0), (9, 0), (8, 5), (15, 0)] r_p 8) (bx_val [(0, 0), (0, 0), (0, 0), (0, 0), (0, 0), (0, 0), (0, 0), (0, 0), (8, 0), (9, 0), (8, 5), (15, 0)] r_p 9) (bx_val [(0, 0), (0, 0), (0, 0), (0, 0), (0, 0), (0, 0), (0, 0), (0, 0), (8, 0), (9, 0), (8, 5), (15, 0)] r_p 10) (bx_val [(0, 0), (0, 0), (0, 0), (0, 0), (0, 0), (0, 0), (0, 0), (0, 0), (8, 0), (9, 0), (8, 5), (15, 0)] r_p 11) < rxmRYK_25 S0 ws S_p (r 8) (r 9) (r 10) (r 11)
    rw [bx_val_x (n := 8) (e := (8, 0)) h0_ rfl, bx_val_x (n := 9) (e := (9, 0)) h0_ rfl, bx_val_x (n := 10) (e := (8, 5)) h0_ rfl, bx_val_x (n := 11) (e := (15, 0)) h0_ rfl, ← hr_ 8 (by decide), ← hr_ 9 (by decide), ← hr_ 10 (by decide), ← hr_ 11 (by decide)]
    exact g.2.2.2
theorem rxcRYK_25_2 {S0 : Nat → Int → Int} {ws : List Int} {S : Nat → Int → Int} {base dd a v x12 x13 x14 : Int} (hP : rxPRYK S0 ws) (hin : bx_same rxL (bx_mdl rxCRYK.2.2.1) S0 S) (I0 : bx_Inv rxL S) (hinv : rxIRYK_25 S0 ws S base dd a v) (l8 : 0 ≤ base) (u8 : base ≤ 110) (l9 : 0 ≤ dd) (u9 : dd ≤ 0) (l10 : 4 ≤ a) (u10 : a ≤ 114) (l11 : 0 ≤ v) (u11 : v ≤ 400) (l12 : 0 ≤ x12) (u12 : x12 ≤ 0) (l13 : 1 ≤ x13) (u13 : x13 ≤ 1) (l14 : 239 ≤ x14) (u14 : x14 ≤ 239) (e2 : S 480 14 = x12) (e1 : S 480 11 = x13) (e0 : S 480 12 = x14) : (True) ∧ (True) ∧ rxIRYK_26 S0 ws S base dd ∧ rxmRYK_26 S0 ws S base dd < rxmRYK_25 S0 ws S base dd a v := by
  obtain ⟨hI, hx⟩ := hinv
  obtain ⟨a_, b_, c_, d_⟩ := rxcRYW_25_2 hP hin I0 hI l8 u8 l9 u9 l10 u10 l11 u11 l12 u12 l13 u13 l14 u14 e2 e1 e0
  exact ⟨a_, b_, ⟨c_, hx⟩, d_⟩
theorem rxgRYK_25_2 {X : (Nat → Int → Int) → Prop} {S0 : Nat → Int → Int} {ws : List Int} (hP : rxPRYK S0 ws) : bx_obC rxL X S0 rxCRYK.2.2.1 (rxIRYK S0 ws) (rxmRYK S0 ws) 25 rxzRYK_25 rxoRYK_25_2 := by
  intro S S_p r r_p hinv hX hin hsm_ hseg
  obtain ⟨I0, I1, h0_, hr_, b_, f_, d_⟩ := bx_cl (evs := [(0, (0, 480), (0, 12), .inr (1, (14, 0))), (0, (0, 480), (0, 11), .inr (0, (13, 0))), (0, (0, 480), (0, 14), .inr (0, (12, 0)))]) (fvs := []) hseg (by decide +kernel) (by decide +kernel)
  have hinv : rxIRYK_25 S0 ws S (r 8) (r 9) (r 10) (r 11) := hinv
  rw [← hr_ 8 (by decide), ← hr_ 9 (by decide), ← hr_ 10 (by decide), ← hr_ 11 (by decide)] at hinv
  obtain ⟨⟨l8, u8⟩, ⟨l9, u9⟩, ⟨l10, u10⟩, ⟨l11, u11⟩, ⟨l12, u12⟩, ⟨l13, u13⟩, ⟨l14, u14⟩, -⟩ := b_
  obtain ⟨e0, ⟨e1, ⟨e2, w_⟩⟩⟩ := d_
  subst w_
  have g := rxcRYK_25_2 hP hin I0 hinv l8 u8 l9 u9 l10 u10 l11 u11 l12 u12 l13 u13 l14 u14 e2 e1 e0
  refine ⟨bx_narP_ok (l := []) g.1, bx_nfP_ok h0_ (fvs := []) (by decide +kernel) g.2.1, ?_, ?_⟩
  · show rxIRYK_26 S0 ws S_p (bx_val [(0, 0), (0, 0), (0, 0), (0, 0), (0, 0), (0, 0), (0, 0), (0, 0), (8, 0), (9, 0)] r_p 8) (bx_val [(0, 0), (0, 0), (0, 0), (0, 0), (0, 0), (0, 0), (0, 0), (0, 0), (8, 0), (9, 0)] r_p 9)
    rw [bx_val_x (n := 8) (e := (8, 0)) h0_ rfl, bx_val_x (n := 9) (e := (9, 0)) h0_ rfl]
    exact g.2.2.1
  · show rxmRYK_26 S0 ws S_p (bx_val [(0, 0), (0, 0), (0, 0), (0, 0), (0, 0), (0, 0), (0, 0), (0, 0), (8, 0), (9, 0)] r_p 8) (bx_val [(0, 0), (0, 0), (0, 0), (0, 0), (0, 0), (0, 0), (0, 0), (0, 0), (8, 0), (9, 0)] r_p 9) < rxmRYK_25 S0 ws S_p (r 8) (r 9) (r 10) (r 11)
    rw [bx_val_x (n := 8) (e := (8, 0)) h0_ rfl, bx_val_x (n := 9) (e := (9, 0)) h0_ rfl, ← hr_ 8 (by decide), ← hr_ 9 (by decide), ← hr_ 10 (by decide), ← hr_ 11 (by decide)]
    exact g.2.2.2
theorem rxcRYK_25_3 {S0 : Nat → Int → Int} {ws : List Int} {S : Nat → Int → Int} {base dd a v x12 x13 : Int} (hP : rxPRYK S0 ws) (hin : bx_same rxL (bx_mdl rxCRYK.2.2.1) S0 S) (I0 : bx_Inv rxL S) (hinv : rxIRYK_25 S0 ws S base dd a v) (l8 : 0 ≤ base) (u8 : base ≤ 110) (l9 : 1 ≤ dd) (u9 : dd ≤ 1) (l10 : 4 ≤ a) (u10 : a ≤ 114) (l11 : 0 ≤ v) (u11 : v ≤ 400) (l12 : 0 ≤ x12) (u12 : x12 ≤ 0) (l13 : 0 ≤ x13) (u13 : x13 ≤ 400) (f0 : dd ≠ 0) (e1 : S 480 14 = x12) (e0 : S 480 18 = x13) : (True) ∧ (True) ∧ rxIRYK_30 S0 ws S base dd (base + 5) x13 ∧ rxmRYK_30 S0 ws S base dd (base + 5) x13 < rxmRYK_25 S0 ws S base dd a v := by
  obtain ⟨hI, hx⟩ := hinv
  obtain ⟨a_, b_, c_, d_⟩ := rxcRYW_25_3 hP hin I0 hI l8 u8 l9 u9 l10 u10 l11 u11 l12 u12 l13 u13 f0 e1 e0
  exact ⟨a_, b_, ⟨c_, (by
    intro c hD hW z
    have em := hI.1.2
    obtain ⟨h1, h2, h3⟩ := hx c hD hW z
    exact ⟨rjYH_h h1 (by omega) em, h2, h3⟩)⟩, d_⟩
theorem rxgRYK_25_3 {X : (Nat → Int → Int) → Prop} {S0 : Nat → Int → Int} {ws : List Int} (hP : rxPRYK S0 ws) : bx_obC rxL X S0 rxCRYK.2.2.1 (rxIRYK S0 ws) (rxmRYK S0 ws) 25 rxzRYK_25 rxoRYK_25_3 := by
  intro S S_p r r_p hinv hX hin hsm_ hseg
  obtain ⟨I0, I1, h0_, hr_, b_, f_, d_⟩ := bx_cl (evs := [(0, (0, 480), (0, 18), .inr (0, (13, 0))), (0, (0, 480), (0, 14), .inr (0, (12, 0)))]) (fvs := [(3, (9, 0), (0, 0), (0, 0))]) hseg (by decide +kernel) (by decide +kernel)
  have hinv : rxIRYK_25 S0 ws S (r 8) (r 9) (r 10) (r 11) := hinv
  rw [← hr_ 8 (by decide), ← hr_ 9 (by decide), ← hr_ 10 (by decide), ← hr_ 11 (by decide)] at hinv
  obtain ⟨⟨l8, u8⟩, ⟨l9, u9⟩, ⟨l10, u10⟩, ⟨l11, u11⟩, ⟨l12, u12⟩, ⟨l13, u13⟩, -⟩ := b_
  obtain ⟨f0, -⟩ := f_
  obtain ⟨e0, ⟨e1, w_⟩⟩ := d_
  subst w_
  have g := rxcRYK_25_3 hP hin I0 hinv l8 u8 l9 u9 l10 u10 l11 u11 l12 u12 l13 u13 f0 e1 e0
  refine ⟨bx_narP_ok (l := []) g.1, bx_nfP_ok h0_ (fvs := []) (by decide +kernel) g.2.1, ?_, ?_⟩
  · show rxIRYK_30 S0 ws S_p (bx_val [(0, 0), (0, 0), (0, 0), (0, 0), (0, 0), (0, 0), (0, 0), (0, 0), (8, 0), (9, 0), (8, 5), (13, 0)] r_p 8) (bx_val [(0, 0), (0, 0), (0, 0), (0, 0), (0, 0), (0, 0), (0, 0), (0, 0), (8, 0), (9, 0), (8, 5), (13, 0)] r_p 9) (bx_val [(0, 0), (0, 0), (0, 0), (0, 0), (0, 0), (0, 0), (0, 0), (0, 0), (8, 0), (9, 0), (8, 5), (13, 0)] r_p 10) (bx_val [(0, 0), (0, 0), (0, 0), (0, 0), (0, 0), (0, 0), (0, 0), (0, 0), (8, 0), (9, 0), (8, 5), (13, 0)] r_p 11)
    rw [bx_val_x (n := 8) (e := (8, 0)) h0_ rfl, bx_val_x (n := 9) (e := (9, 0)) h0_ rfl, bx_val_x (n := 10) (e := (8, 5)) h0_ rfl, bx_val_x (n := 11) (e := (13, 0)) h0_ rfl]
    exact g.2.2.1
  · show rxmRYK_30 S0 ws S_p (bx_val [(0, 0), (0, 0), (0, 0), (0, 0), (0, 0), (0, 0), (0, 0), (0, 0), (8, 0), (9, 0), (8, 5), (13, 0)] r_p 8) (bx_val [(0, 0), (0, 0), (0, 0), (0, 0), (0, 0), (0, 0), (0, 0), (0, 0), (8, 0), (9, 0), (8, 5), (13, 0)] r_p 9) (bx_val [(0, 0), (0, 0), (0, 0), (0, 0), (0, 0), (0, 0), (0, 0), (0, 0), (8, 0), (9, 0), (8, 5), (13, 0)] r_p 10) (bx_val [(0, 0), (0, 0), (0, 0), (0, 0), (0, 0), (0, 0), (0, 0), (0, 0), (8, 0), (9, 0), (8, 5), (13, 0)] r_p 11) < rxmRYK_25 S0 ws S_p (r 8) (r 9) (r 10) (r 11)
    rw [bx_val_x (n := 8) (e := (8, 0)) h0_ rfl, bx_val_x (n := 9) (e := (9, 0)) h0_ rfl, bx_val_x (n := 10) (e := (8, 5)) h0_ rfl, bx_val_x (n := 11) (e := (13, 0)) h0_ rfl, ← hr_ 8 (by decide), ← hr_ 9 (by decide), ← hr_ 10 (by decide), ← hr_ 11 (by decide)]
    exact g.2.2.2
theorem rxcRYK_25_4 {S0 : Nat → Int → Int} {ws : List Int} {S : Nat → Int → Int} {base dd a v x12 x13 : Int} (hP : rxPRYK S0 ws) (hin : bx_same rxL (bx_mdl rxCRYK.2.2.1) S0 S) (I0 : bx_Inv rxL S) (hinv : rxIRYK_25 S0 ws S base dd a v) (l8 : 0 ≤ base) (u8 : base ≤ 110) (l9 : 0 ≤ dd) (u9 : dd ≤ 1) (l10 : 4 ≤ a) (u10 : a ≤ 114) (l11 : 0 ≤ v) (u11 : v ≤ 400) (l12 : 1 ≤ x12) (u12 : x12 ≤ 1) (l13 : 0 ≤ x13) (u13 : x13 ≤ 400) (f0 : x12 ≠ 0) (e1 : S 480 14 = x12) (e0 : S 480 18 = x13) : (True) ∧ (True) ∧ rxIRYK_30 S0 ws S base dd (base + 5) x13 ∧ rxmRYK_30 S0 ws S base dd (base + 5) x13 < rxmRYK_25 S0 ws S base dd a v := by
  obtain ⟨hI, hx⟩ := hinv
  obtain ⟨a_, b_, c_, d_⟩ := rxcRYW_25_4 hP hin I0 hI l8 u8 l9 u9 l10 u10 l11 u11 l12 u12 l13 u13 f0 e1 e0
  exact ⟨a_, b_, ⟨c_, (by
    intro c hD hW z
    exact absurd z (by omega))⟩, d_⟩
theorem rxgRYK_25_4 {X : (Nat → Int → Int) → Prop} {S0 : Nat → Int → Int} {ws : List Int} (hP : rxPRYK S0 ws) : bx_obC rxL X S0 rxCRYK.2.2.1 (rxIRYK S0 ws) (rxmRYK S0 ws) 25 rxzRYK_25 rxoRYK_25_4 := by
  intro S S_p r r_p hinv hX hin hsm_ hseg
  obtain ⟨I0, I1, h0_, hr_, b_, f_, d_⟩ := bx_cl (evs := [(0, (0, 480), (0, 18), .inr (0, (13, 0))), (0, (0, 480), (0, 14), .inr (0, (12, 0)))]) (fvs := [(3, (12, 0), (0, 0), (0, 0))]) hseg (by decide +kernel) (by decide +kernel)
  have hinv : rxIRYK_25 S0 ws S (r 8) (r 9) (r 10) (r 11) := hinv
  rw [← hr_ 8 (by decide), ← hr_ 9 (by decide), ← hr_ 10 (by decide), ← hr_ 11 (by decide)] at hinv
  obtain ⟨⟨l8, u8⟩, ⟨l9, u9⟩, ⟨l10, u10⟩, ⟨l11, u11⟩, ⟨l12, u12⟩, ⟨l13, u13⟩, -⟩ := b_
  obtain ⟨f0, -⟩ := f_
  obtain ⟨e0, ⟨e1, w_⟩⟩ := d_
  subst w_
  have g := rxcRYK_25_4 hP hin I0 hinv l8 u8 l9 u9 l10 u10 l11 u11 l12 u12 l13 u13 f0 e1 e0
  refine ⟨bx_narP_ok (l := []) g.1, bx_nfP_ok h0_ (fvs := []) (by decide +kernel) g.2.1, ?_, ?_⟩
  · show rxIRYK_30 S0 ws S_p (bx_val [(0, 0), (0, 0), (0, 0), (0, 0), (0, 0), (0, 0), (0, 0), (0, 0), (8, 0), (9, 0), (8, 5), (13, 0)] r_p 8) (bx_val [(0, 0), (0, 0), (0, 0), (0, 0), (0, 0), (0, 0), (0, 0), (0, 0), (8, 0), (9, 0), (8, 5), (13, 0)] r_p 9) (bx_val [(0, 0), (0, 0), (0, 0), (0, 0), (0, 0), (0, 0), (0, 0), (0, 0), (8, 0), (9, 0), (8, 5), (13, 0)] r_p 10) (bx_val [(0, 0), (0, 0), (0, 0), (0, 0), (0, 0), (0, 0), (0, 0), (0, 0), (8, 0), (9, 0), (8, 5), (13, 0)] r_p 11)
    rw [bx_val_x (n := 8) (e := (8, 0)) h0_ rfl, bx_val_x (n := 9) (e := (9, 0)) h0_ rfl, bx_val_x (n := 10) (e := (8, 5)) h0_ rfl, bx_val_x (n := 11) (e := (13, 0)) h0_ rfl]
    exact g.2.2.1
  · show rxmRYK_30 S0 ws S_p (bx_val [(0, 0), (0, 0), (0, 0), (0, 0), (0, 0), (0, 0), (0, 0), (0, 0), (8, 0), (9, 0), (8, 5), (13, 0)] r_p 8) (bx_val [(0, 0), (0, 0), (0, 0), (0, 0), (0, 0), (0, 0), (0, 0), (0, 0), (8, 0), (9, 0), (8, 5), (13, 0)] r_p 9) (bx_val [(0, 0), (0, 0), (0, 0), (0, 0), (0, 0), (0, 0), (0, 0), (0, 0), (8, 0), (9, 0), (8, 5), (13, 0)] r_p 10) (bx_val [(0, 0), (0, 0), (0, 0), (0, 0), (0, 0), (0, 0), (0, 0), (0, 0), (8, 0), (9, 0), (8, 5), (13, 0)] r_p 11) < rxmRYK_25 S0 ws S_p (r 8) (r 9) (r 10) (r 11)
    rw [bx_val_x (n := 8) (e := (8, 0)) h0_ rfl, bx_val_x (n := 9) (e := (9, 0)) h0_ rfl, bx_val_x (n := 10) (e := (8, 5)) h0_ rfl, bx_val_x (n := 11) (e := (13, 0)) h0_ rfl, ← hr_ 8 (by decide), ← hr_ 9 (by decide), ← hr_ 10 (by decide), ← hr_ 11 (by decide)]
    exact g.2.2.2
theorem rxcRYK_27_0 {S0 : Nat → Int → Int} {ws : List Int} {S : Nat → Int → Int} {base dd : Int} (hP : rxPRYK S0 ws) (hin : bx_same rxL (bx_mdl rxCRYK.2.2.1) S0 S) (I0 : bx_Inv rxL S) (hinv : rxIRYK_27 S0 ws S base dd) (l8 : 0 ≤ base) (u8 : base ≤ 110) (l9 : 0 ≤ dd) (u9 : dd ≤ 1) : (True) ∧ (True) ∧ rxIRYK_28 S0 ws S base dd ∧ rxmRYK_28 S0 ws S base dd < rxmRYK_27 S0 ws S base dd := by
  obtain ⟨hI, hx⟩ := hinv
  obtain ⟨a_, b_, c_, d_⟩ := rxcRYW_27_0 hP hin I0 hI l8 u8 l9 u9
  exact ⟨a_, b_, ⟨c_, hx⟩, d_⟩
theorem rxgRYK_27_0 {X : (Nat → Int → Int) → Prop} {S0 : Nat → Int → Int} {ws : List Int} (hP : rxPRYK S0 ws) : bx_obC rxL X S0 rxCRYK.2.2.1 (rxIRYK S0 ws) (rxmRYK S0 ws) 27 rxzRYK_27 rxoRYK_27_0 := by
  intro S S_p r r_p hinv hX hin hsm_ hseg
  obtain ⟨I0, I1, h0_, hr_, b_, f_, d_⟩ := bx_cl (evs := []) (fvs := []) hseg (by decide +kernel) (by decide +kernel)
  have hinv : rxIRYK_27 S0 ws S (r 8) (r 9) := hinv
  rw [← hr_ 8 (by decide), ← hr_ 9 (by decide)] at hinv
  obtain ⟨⟨l8, u8⟩, ⟨l9, u9⟩, -⟩ := b_
  have w_ := d_
  subst w_
  have g := rxcRYK_27_0 hP hin I0 hinv l8 u8 l9 u9
  refine ⟨bx_narP_ok (l := []) g.1, bx_nfP_ok h0_ (fvs := []) (by decide +kernel) g.2.1, ?_, ?_⟩
  · show rxIRYK_28 S0 ws S_p (bx_val [(0, 0), (0, 0), (0, 0), (0, 0), (0, 0), (0, 0), (0, 0), (0, 0), (8, 0), (9, 0)] r_p 8) (bx_val [(0, 0), (0, 0), (0, 0), (0, 0), (0, 0), (0, 0), (0, 0), (0, 0), (8, 0), (9, 0)] r_p 9)
    rw [bx_val_x (n := 8) (e := (8, 0)) h0_ rfl, bx_val_x (n := 9) (e := (9, 0)) h0_ rfl]
    exact g.2.2.1
  · show rxmRYK_28 S0 ws S_p (bx_val [(0, 0), (0, 0), (0, 0), (0, 0), (0, 0), (0, 0), (0, 0), (0, 0), (8, 0), (9, 0)] r_p 8) (bx_val [(0, 0), (0, 0), (0, 0), (0, 0), (0, 0), (0, 0), (0, 0), (0, 0), (8, 0), (9, 0)] r_p 9) < rxmRYK_27 S0 ws S_p (r 8) (r 9)
    rw [bx_val_x (n := 8) (e := (8, 0)) h0_ rfl, bx_val_x (n := 9) (e := (9, 0)) h0_ rfl, ← hr_ 8 (by decide), ← hr_ 9 (by decide)]
    exact g.2.2.2
theorem rxcRYK_29_0 {S0 : Nat → Int → Int} {ws : List Int} {S : Nat → Int → Int} {base dd x10 : Int} (hP : rxPRYK S0 ws) (hin : bx_same rxL (bx_mdl rxCRYK.2.2.1) S0 S) (I0 : bx_Inv rxL S) (hinv : rxIRYK_29 S0 ws S base dd) (l8 : 0 ≤ base) (u8 : base ≤ 110) (l9 : 0 ≤ dd) (u9 : dd ≤ 1) (l10 : 0 ≤ x10) (u10 : x10 ≤ 400) (e0 : S 480 18 = x10) : (True) ∧ (True) ∧ rxIRYK_30 S0 ws S base dd (base + 5) x10 ∧ rxmRYK_30 S0 ws S base dd (base + 5) x10 < rxmRYK_29 S0 ws S base dd := by
  obtain ⟨hI, hx⟩ := hinv
  obtain ⟨a_, b_, c_, d_⟩ := rxcRYW_29_0 hP hin I0 hI l8 u8 l9 u9 l10 u10 e0
  exact ⟨a_, b_, ⟨c_, hx⟩, d_⟩
theorem rxgRYK_29_0 {X : (Nat → Int → Int) → Prop} {S0 : Nat → Int → Int} {ws : List Int} (hP : rxPRYK S0 ws) : bx_obC rxL X S0 rxCRYK.2.2.1 (rxIRYK S0 ws) (rxmRYK S0 ws) 29 rxzRYK_29 rxoRYK_29_0 := by
  intro S S_p r r_p hinv hX hin hsm_ hseg
  obtain ⟨I0, I1, h0_, hr_, b_, f_, d_⟩ := bx_cl (evs := [(0, (0, 480), (0, 18), .inr (0, (10, 0)))]) (fvs := []) hseg (by decide +kernel) (by decide +kernel)
  have hinv : rxIRYK_29 S0 ws S (r 8) (r 9) := hinv
  rw [← hr_ 8 (by decide), ← hr_ 9 (by decide)] at hinv
  obtain ⟨⟨l8, u8⟩, ⟨l9, u9⟩, ⟨l10, u10⟩, -⟩ := b_
  obtain ⟨e0, w_⟩ := d_
  subst w_
  have g := rxcRYK_29_0 hP hin I0 hinv l8 u8 l9 u9 l10 u10 e0
  refine ⟨bx_narP_ok (l := []) g.1, bx_nfP_ok h0_ (fvs := []) (by decide +kernel) g.2.1, ?_, ?_⟩
  · show rxIRYK_30 S0 ws S_p (bx_val [(0, 0), (0, 0), (0, 0), (0, 0), (0, 0), (0, 0), (0, 0), (0, 0), (8, 0), (9, 0), (8, 5), (10, 0)] r_p 8) (bx_val [(0, 0), (0, 0), (0, 0), (0, 0), (0, 0), (0, 0), (0, 0), (0, 0), (8, 0), (9, 0), (8, 5), (10, 0)] r_p 9) (bx_val [(0, 0), (0, 0), (0, 0), (0, 0), (0, 0), (0, 0), (0, 0), (0, 0), (8, 0), (9, 0), (8, 5), (10, 0)] r_p 10) (bx_val [(0, 0), (0, 0), (0, 0), (0, 0), (0, 0), (0, 0), (0, 0), (0, 0), (8, 0), (9, 0), (8, 5), (10, 0)] r_p 11)
    rw [bx_val_x (n := 8) (e := (8, 0)) h0_ rfl, bx_val_x (n := 9) (e := (9, 0)) h0_ rfl, bx_val_x (n := 10) (e := (8, 5)) h0_ rfl, bx_val_x (n := 11) (e := (10, 0)) h0_ rfl]
    exact g.2.2.1
  · show rxmRYK_30 S0 ws S_p (bx_val [(0, 0), (0, 0), (0, 0), (0, 0), (0, 0), (0, 0), (0, 0), (0, 0), (8, 0), (9, 0), (8, 5), (10, 0)] r_p 8) (bx_val [(0, 0), (0, 0), (0, 0), (0, 0), (0, 0), (0, 0), (0, 0), (0, 0), (8, 0), (9, 0), (8, 5), (10, 0)] r_p 9) (bx_val [(0, 0), (0, 0), (0, 0), (0, 0), (0, 0), (0, 0), (0, 0), (0, 0), (8, 0), (9, 0), (8, 5), (10, 0)] r_p 10) (bx_val [(0, 0), (0, 0), (0, 0), (0, 0), (0, 0), (0, 0), (0, 0), (0, 0), (8, 0), (9, 0), (8, 5), (10, 0)] r_p 11) < rxmRYK_29 S0 ws S_p (r 8) (r 9)
    rw [bx_val_x (n := 8) (e := (8, 0)) h0_ rfl, bx_val_x (n := 9) (e := (9, 0)) h0_ rfl, bx_val_x (n := 10) (e := (8, 5)) h0_ rfl, bx_val_x (n := 11) (e := (10, 0)) h0_ rfl, ← hr_ 8 (by decide), ← hr_ 9 (by decide)]
    exact g.2.2.2
theorem rxcRYK_31_0 {S0 : Nat → Int → Int} {ws : List Int} {S : Nat → Int → Int} {base dd a v x12 x13 x14 : Int} (hP : rxPRYK S0 ws) (hin : bx_same rxL (bx_mdl rxCRYK.2.2.1) S0 S) (I0 : bx_Inv rxL S) (hinv : rxIRYK_31 S0 ws S base dd a v) (l8 : 0 ≤ base) (u8 : base ≤ 110) (l9 : 0 ≤ dd) (u9 : dd ≤ 1) (l10 : 5 ≤ a) (u10 : a ≤ 115) (l11 : 0 ≤ v) (u11 : v ≤ 400) (l12 : 0 ≤ x12) (u12 : x12 ≤ 0) (l13 : 0 ≤ x13) (u13 : x13 ≤ 3) (l14 : 0 ≤ x14) (u14 : x14 ≤ 400) (f0 : x13 ≠ 1) (e2 : S 480 14 = x12) (e1 : S 480 11 = x13) (e0 : S 480 18 = x14) : (True) ∧ (True) ∧ rxIRYK_36 S0 ws S base dd (base + 6) x14 ∧ rxmRYK_36 S0 ws S base dd (base + 6) x14 < rxmRYK_31 S0 ws S base dd a v := by
  obtain ⟨hI, hx⟩ := hinv
  obtain ⟨a_, b_, c_, d_⟩ := rxcRYW_31_0 hP hin I0 hI l8 u8 l9 u9 l10 u10 l11 u11 l12 u12 l13 u13 l14 u14 f0 e2 e1 e0
  exact ⟨a_, b_, ⟨c_, (by
    intro c hD hW z
    have ek := hI.1.2
    obtain ⟨h1, h2, h3⟩ := hx c hD hW z
    obtain ⟨kr, dq, -⟩ := (hI.2 c hD hW).1 z
    have g := rzDq_no dq (w := rzW_if) (v := 294) (by decide) (by decide) (by omega)
    rw [kr.1, kr.2.1] at g
    exact ⟨rjYJ_no h1 g ek, h2, h3⟩)⟩, d_⟩
theorem rxgRYK_31_0 {X : (Nat → Int → Int) → Prop} {S0 : Nat → Int → Int} {ws : List Int} (hP : rxPRYK S0 ws) : bx_obC rxL X S0 rxCRYK.2.2.1 (rxIRYK S0 ws) (rxmRYK S0 ws) 31 rxzRYK_31 rxoRYK_31_0 := by
  intro S S_p r r_p hinv hX hin hsm_ hseg
  obtain ⟨I0, I1, h0_, hr_, b_, f_, d_⟩ := bx_cl (evs := [(0, (0, 480), (0, 18), .inr (0, (14, 0))), (0, (0, 480), (0, 11), .inr (0, (13, 0))), (0, (0, 480), (0, 14), .inr (0, (12, 0)))]) (fvs := [(3, (13, 0), (0, 1), (0, 0))]) hseg (by decide +kernel) (by decide +kernel)
  have hinv : rxIRYK_31 S0 ws S (r 8) (r 9) (r 10) (r 11) := hinv
  rw [← hr_ 8 (by decide), ← hr_ 9 (by decide), ← hr_ 10 (by decide), ← hr_ 11 (by decide)] at hinv
  obtain ⟨⟨l8, u8⟩, ⟨l9, u9⟩, ⟨l10, u10⟩, ⟨l11, u11⟩, ⟨l12, u12⟩, ⟨l13, u13⟩, ⟨l14, u14⟩, -⟩ := b_
  obtain ⟨f0, -⟩ := f_
  obtain ⟨e0, ⟨e1, ⟨e2, w_⟩⟩⟩ := d_
  subst w_
  have g := rxcRYK_31_0 hP hin I0 hinv l8 u8 l9 u9 l10 u10 l11 u11 l12 u12 l13 u13 l14 u14 f0 e2 e1 e0
  refine ⟨bx_narP_ok (l := []) g.1, bx_nfP_ok h0_ (fvs := []) (by decide +kernel) g.2.1, ?_, ?_⟩
  · show rxIRYK_36 S0 ws S_p (bx_val [(0, 0), (0, 0), (0, 0), (0, 0), (0, 0), (0, 0), (0, 0), (0, 0), (8, 0), (9, 0), (8, 6), (14, 0)] r_p 8) (bx_val [(0, 0), (0, 0), (0, 0), (0, 0), (0, 0), (0, 0), (0, 0), (0, 0), (8, 0), (9, 0), (8, 6), (14, 0)] r_p 9) (bx_val [(0, 0), (0, 0), (0, 0), (0, 0), (0, 0), (0, 0), (0, 0), (0, 0), (8, 0), (9, 0), (8, 6), (14, 0)] r_p 10) (bx_val [(0, 0), (0, 0), (0, 0), (0, 0), (0, 0), (0, 0), (0, 0), (0, 0), (8, 0), (9, 0), (8, 6), (14, 0)] r_p 11)
    rw [bx_val_x (n := 8) (e := (8, 0)) h0_ rfl, bx_val_x (n := 9) (e := (9, 0)) h0_ rfl, bx_val_x (n := 10) (e := (8, 6)) h0_ rfl, bx_val_x (n := 11) (e := (14, 0)) h0_ rfl]
    exact g.2.2.1
  · show rxmRYK_36 S0 ws S_p (bx_val [(0, 0), (0, 0), (0, 0), (0, 0), (0, 0), (0, 0), (0, 0), (0, 0), (8, 0), (9, 0), (8, 6), (14, 0)] r_p 8) (bx_val [(0, 0), (0, 0), (0, 0), (0, 0), (0, 0), (0, 0), (0, 0), (0, 0), (8, 0), (9, 0), (8, 6), (14, 0)] r_p 9) (bx_val [(0, 0), (0, 0), (0, 0), (0, 0), (0, 0), (0, 0), (0, 0), (0, 0), (8, 0), (9, 0), (8, 6), (14, 0)] r_p 10) (bx_val [(0, 0), (0, 0), (0, 0), (0, 0), (0, 0), (0, 0), (0, 0), (0, 0), (8, 0), (9, 0), (8, 6), (14, 0)] r_p 11) < rxmRYK_31 S0 ws S_p (r 8) (r 9) (r 10) (r 11)
    rw [bx_val_x (n := 8) (e := (8, 0)) h0_ rfl, bx_val_x (n := 9) (e := (9, 0)) h0_ rfl, bx_val_x (n := 10) (e := (8, 6)) h0_ rfl, bx_val_x (n := 11) (e := (14, 0)) h0_ rfl, ← hr_ 8 (by decide), ← hr_ 9 (by decide), ← hr_ 10 (by decide), ← hr_ 11 (by decide)]
    exact g.2.2.2
theorem rxcRYK_31_1 {S0 : Nat → Int → Int} {ws : List Int} {S : Nat → Int → Int} {base dd a v x12 x13 x14 x15 : Int} (hP : rxPRYK S0 ws) (hin : bx_same rxL (bx_mdl rxCRYK.2.2.1) S0 S) (I0 : bx_Inv rxL S) (hinv : rxIRYK_31 S0 ws S base dd a v) (l8 : 0 ≤ base) (u8 : base ≤ 110) (l9 : 0 ≤ dd) (u9 : dd ≤ 1) (l10 : 5 ≤ a) (u10 : a ≤ 115) (l11 : 0 ≤ v) (u11 : v ≤ 400) (l12 : 0 ≤ x12) (u12 : x12 ≤ 0) (l13 : 1 ≤ x13) (u13 : x13 ≤ 1) (l14 : (-9223372036854775808) ≤ x14) (u14 : x14 ≤ 9223372036854775807) (l15 : 0 ≤ x15) (u15 : x15 ≤ 400) (f0 : x14 ≠ 294) (e3 : S 480 14 = x12) (e2 : S 480 11 = x13) (e1 : S 480 12 = x14) (e0 : S 480 18 = x15) : (True) ∧ (True) ∧ rxIRYK_36 S0 ws S base dd (base + 6) x15 ∧ rxmRYK_36 S0 ws S base dd (base + 6) x15 < rxmRYK_31 S0 ws S base dd a v := by
  obtain ⟨hI, hx⟩ := hinv
  obtain ⟨a_, b_, c_, d_⟩ := rxcRYW_31_1 hP hin I0 hI l8 u8 l9 u9 l10 u10 l11 u11 l12 u12 l13 u13 l14 u14 l15 u15 f0 e3 e2 e1 e0
  exact ⟨a_, b_, ⟨c_, (by
    intro c hD hW z
    have ek := hI.1.2
    obtain ⟨h1, h2, h3⟩ := hx c hD hW z
    obtain ⟨kr, dq, -⟩ := (hI.2 c hD hW).1 z
    have g := rzDq_no dq (w := rzW_if) (v := 294) (by decide) (by decide) (by omega)
    rw [kr.1, kr.2.1] at g
    exact ⟨rjYJ_no h1 g ek, h2, h3⟩)⟩, d_⟩
theorem rxgRYK_31_1 {X : (Nat → Int → Int) → Prop} {S0 : Nat → Int → Int} {ws : List Int} (hP : rxPRYK S0 ws) : bx_obC rxL X S0 rxCRYK.2.2.1 (rxIRYK S0 ws) (rxmRYK S0 ws) 31 rxzRYK_31 rxoRYK_31_1 := by
  intro S S_p r r_p hinv hX hin hsm_ hseg
  obtain ⟨I0, I1, h0_, hr_, b_, f_, d_⟩ := bx_cl (evs := [(0, (0, 480), (0, 18), .inr (0, (15, 0))), (0, (0, 480), (0, 12), .inr (1, (14, 0))), (0, (0, 480), (0, 11), .inr (0, (13, 0))), (0, (0, 480), (0, 14), .inr (0, (12, 0)))]) (fvs := [(3, (14, 0), (0, 294), (0, 0))]) hseg (by decide +kernel) (by decide +kernel)
  have hinv : rxIRYK_31 S0 ws S (r 8) (r 9) (r 10) (r 11) := hinv
  rw [← hr_ 8 (by decide), ← hr_ 9 (by decide), ← hr_ 10 (by decide), ← hr_ 11 (by decide)] at hinv
  obtain ⟨⟨l8, u8⟩, ⟨l9, u9⟩, ⟨l10, u10⟩, ⟨l11, u11⟩, ⟨l12, u12⟩, ⟨l13, u13⟩, ⟨l14, u14⟩, ⟨l15, u15⟩, -⟩ := b_
  obtain ⟨f0, -⟩ := f_
  obtain ⟨e0, ⟨e1, ⟨e2, ⟨e3, w_⟩⟩⟩⟩ := d_
  subst w_
  have g := rxcRYK_31_1 hP hin I0 hinv l8 u8 l9 u9 l10 u10 l11 u11 l12 u12 l13 u13 l14 u14 l15 u15 f0 e3 e2 e1 e0
  refine ⟨bx_narP_ok (l := []) g.1, bx_nfP_ok h0_ (fvs := []) (by decide +kernel) g.2.1, ?_, ?_⟩
  · show rxIRYK_36 S0 ws S_p (bx_val [(0, 0), (0, 0), (0, 0), (0, 0), (0, 0), (0, 0), (0, 0), (0, 0), (8, 0), (9, 0), (8, 6), (15, 0)] r_p 8) (bx_val [(0, 0), (0, 0), (0, 0), (0, 0), (0, 0), (0, 0), (0, 0), (0, 0), (8, 0), (9, 0), (8, 6), (15, 0)] r_p 9) (bx_val [(0, 0), (0, 0), (0, 0), (0, 0), (0, 0), (0, 0), (0, 0), (0, 0), (8, 0), (9, 0), (8, 6), (15, 0)] r_p 10) (bx_val [(0, 0), (0, 0), (0, 0), (0, 0), (0, 0), (0, 0), (0, 0), (0, 0), (8, 0), (9, 0), (8, 6), (15, 0)] r_p 11)
    rw [bx_val_x (n := 8) (e := (8, 0)) h0_ rfl, bx_val_x (n := 9) (e := (9, 0)) h0_ rfl, bx_val_x (n := 10) (e := (8, 6)) h0_ rfl, bx_val_x (n := 11) (e := (15, 0)) h0_ rfl]
    exact g.2.2.1
  · show rxmRYK_36 S0 ws S_p (bx_val [(0, 0), (0, 0), (0, 0), (0, 0), (0, 0), (0, 0), (0, 0), (0, 0), (8, 0), (9, 0), (8, 6), (15, 0)] r_p 8) (bx_val [(0, 0), (0, 0), (0, 0), (0, 0), (0, 0), (0, 0), (0, 0), (0, 0), (8, 0), (9, 0), (8, 6), (15, 0)] r_p 9) (bx_val [(0, 0), (0, 0), (0, 0), (0, 0), (0, 0), (0, 0), (0, 0), (0, 0), (8, 0), (9, 0), (8, 6), (15, 0)] r_p 10) (bx_val [(0, 0), (0, 0), (0, 0), (0, 0), (0, 0), (0, 0), (0, 0), (0, 0), (8, 0), (9, 0), (8, 6), (15, 0)] r_p 11) < rxmRYK_31 S0 ws S_p (r 8) (r 9) (r 10) (r 11)
    rw [bx_val_x (n := 8) (e := (8, 0)) h0_ rfl, bx_val_x (n := 9) (e := (9, 0)) h0_ rfl, bx_val_x (n := 10) (e := (8, 6)) h0_ rfl, bx_val_x (n := 11) (e := (15, 0)) h0_ rfl, ← hr_ 8 (by decide), ← hr_ 9 (by decide), ← hr_ 10 (by decide), ← hr_ 11 (by decide)]
    exact g.2.2.2
theorem rxcRYK_31_2 {S0 : Nat → Int → Int} {ws : List Int} {S : Nat → Int → Int} {base dd a v x12 x13 x14 : Int} (hP : rxPRYK S0 ws) (hin : bx_same rxL (bx_mdl rxCRYK.2.2.1) S0 S) (I0 : bx_Inv rxL S) (hinv : rxIRYK_31 S0 ws S base dd a v) (l8 : 0 ≤ base) (u8 : base ≤ 110) (l9 : 0 ≤ dd) (u9 : dd ≤ 1) (l10 : 5 ≤ a) (u10 : a ≤ 115) (l11 : 0 ≤ v) (u11 : v ≤ 400) (l12 : 0 ≤ x12) (u12 : x12 ≤ 0) (l13 : 1 ≤ x13) (u13 : x13 ≤ 1) (l14 : 294 ≤ x14) (u14 : x14 ≤ 294) (e2 : S 480 14 = x12) (e1 : S 480 11 = x13) (e0 : S 480 12 = x14) : (True) ∧ (True) ∧ rxIRYK_32 S0 ws S base dd ∧ rxmRYK_32 S0 ws S base dd < rxmRYK_31 S0 ws S base dd a v := by
  obtain ⟨hI, hx⟩ := hinv
  obtain ⟨a_, b_, c_, d_⟩ := rxcRYW_31_2 hP hin I0 hI l8 u8 l9 u9 l10 u10 l11 u11 l12 u12 l13 u13 l14 u14 e2 e1 e0
  exact ⟨a_, b_, ⟨c_, hx⟩, d_⟩
theorem rxgRYK_31_2 {X : (Nat → Int → Int) → Prop} {S0 : Nat → Int → Int} {ws : List Int} (hP : rxPRYK S0 ws) : bx_obC rxL X S0 rxCRYK.2.2.1 (rxIRYK S0 ws) (rxmRYK S0 ws) 31 rxzRYK_31 rxoRYK_31_2 := by
  intro S S_p r r_p hinv hX hin hsm_ hseg
  obtain ⟨I0, I1, h0_, hr_, b_, f_, d_⟩ := bx_cl (evs := [(0, (0, 480), (0, 12), .inr (1, (14, 0))), (0, (0, 480), (0, 11), .inr (0, (13, 0))), (0, (0, 480), (0, 14), .inr (0, (12, 0)))]) (fvs := []) hseg (by decide +kernel) (by decide +kernel)
  have hinv : rxIRYK_31 S0 ws S (r 8) (r 9) (r 10) (r 11) := hinv
  rw [← hr_ 8 (by decide), ← hr_ 9 (by decide), ← hr_ 10 (by decide), ← hr_ 11 (by decide)] at hinv
  obtain ⟨⟨l8, u8⟩, ⟨l9, u9⟩, ⟨l10, u10⟩, ⟨l11, u11⟩, ⟨l12, u12⟩, ⟨l13, u13⟩, ⟨l14, u14⟩, -⟩ := b_
  obtain ⟨e0, ⟨e1, ⟨e2, w_⟩⟩⟩ := d_
  subst w_
  have g := rxcRYK_31_2 hP hin I0 hinv l8 u8 l9 u9 l10 u10 l11 u11 l12 u12 l13 u13 l14 u14 e2 e1 e0
  refine ⟨bx_narP_ok (l := []) g.1, bx_nfP_ok h0_ (fvs := []) (by decide +kernel) g.2.1, ?_, ?_⟩
  · show rxIRYK_32 S0 ws S_p (bx_val [(0, 0), (0, 0), (0, 0), (0, 0), (0, 0), (0, 0), (0, 0), (0, 0), (8, 0), (9, 0)] r_p 8) (bx_val [(0, 0), (0, 0), (0, 0), (0, 0), (0, 0), (0, 0), (0, 0), (0, 0), (8, 0), (9, 0)] r_p 9)
    rw [bx_val_x (n := 8) (e := (8, 0)) h0_ rfl, bx_val_x (n := 9) (e := (9, 0)) h0_ rfl]
    exact g.2.2.1
  · show rxmRYK_32 S0 ws S_p (bx_val [(0, 0), (0, 0), (0, 0), (0, 0), (0, 0), (0, 0), (0, 0), (0, 0), (8, 0), (9, 0)] r_p 8) (bx_val [(0, 0), (0, 0), (0, 0), (0, 0), (0, 0), (0, 0), (0, 0), (0, 0), (8, 0), (9, 0)] r_p 9) < rxmRYK_31 S0 ws S_p (r 8) (r 9) (r 10) (r 11)
    rw [bx_val_x (n := 8) (e := (8, 0)) h0_ rfl, bx_val_x (n := 9) (e := (9, 0)) h0_ rfl, ← hr_ 8 (by decide), ← hr_ 9 (by decide), ← hr_ 10 (by decide), ← hr_ 11 (by decide)]
    exact g.2.2.2
theorem rxcRYK_31_3 {S0 : Nat → Int → Int} {ws : List Int} {S : Nat → Int → Int} {base dd a v x12 x13 : Int} (hP : rxPRYK S0 ws) (hin : bx_same rxL (bx_mdl rxCRYK.2.2.1) S0 S) (I0 : bx_Inv rxL S) (hinv : rxIRYK_31 S0 ws S base dd a v) (l8 : 0 ≤ base) (u8 : base ≤ 110) (l9 : 0 ≤ dd) (u9 : dd ≤ 1) (l10 : 5 ≤ a) (u10 : a ≤ 115) (l11 : 0 ≤ v) (u11 : v ≤ 400) (l12 : 1 ≤ x12) (u12 : x12 ≤ 1) (l13 : 0 ≤ x13) (u13 : x13 ≤ 400) (f0 : x12 ≠ 0) (e1 : S 480 14 = x12) (e0 : S 480 18 = x13) : (True) ∧ (True) ∧ rxIRYK_36 S0 ws S base dd (base + 6) x13 ∧ rxmRYK_36 S0 ws S base dd (base + 6) x13 < rxmRYK_31 S0 ws S base dd a v := by
  obtain ⟨hI, hx⟩ := hinv
  obtain ⟨a_, b_, c_, d_⟩ := rxcRYW_31_3 hP hin I0 hI l8 u8 l9 u9 l10 u10 l11 u11 l12 u12 l13 u13 f0 e1 e0
  exact ⟨a_, b_, ⟨c_, (by
    intro c hD hW z
    exact absurd z (by omega))⟩, d_⟩
theorem rxgRYK_31_3 {X : (Nat → Int → Int) → Prop} {S0 : Nat → Int → Int} {ws : List Int} (hP : rxPRYK S0 ws) : bx_obC rxL X S0 rxCRYK.2.2.1 (rxIRYK S0 ws) (rxmRYK S0 ws) 31 rxzRYK_31 rxoRYK_31_3 := by
  intro S S_p r r_p hinv hX hin hsm_ hseg
  obtain ⟨I0, I1, h0_, hr_, b_, f_, d_⟩ := bx_cl (evs := [(0, (0, 480), (0, 18), .inr (0, (13, 0))), (0, (0, 480), (0, 14), .inr (0, (12, 0)))]) (fvs := [(3, (12, 0), (0, 0), (0, 0))]) hseg (by decide +kernel) (by decide +kernel)
  have hinv : rxIRYK_31 S0 ws S (r 8) (r 9) (r 10) (r 11) := hinv
  rw [← hr_ 8 (by decide), ← hr_ 9 (by decide), ← hr_ 10 (by decide), ← hr_ 11 (by decide)] at hinv
  obtain ⟨⟨l8, u8⟩, ⟨l9, u9⟩, ⟨l10, u10⟩, ⟨l11, u11⟩, ⟨l12, u12⟩, ⟨l13, u13⟩, -⟩ := b_
  obtain ⟨f0, -⟩ := f_
  obtain ⟨e0, ⟨e1, w_⟩⟩ := d_
  subst w_
  have g := rxcRYK_31_3 hP hin I0 hinv l8 u8 l9 u9 l10 u10 l11 u11 l12 u12 l13 u13 f0 e1 e0
  refine ⟨bx_narP_ok (l := []) g.1, bx_nfP_ok h0_ (fvs := []) (by decide +kernel) g.2.1, ?_, ?_⟩
  · show rxIRYK_36 S0 ws S_p (bx_val [(0, 0), (0, 0), (0, 0), (0, 0), (0, 0), (0, 0), (0, 0), (0, 0), (8, 0), (9, 0), (8, 6), (13, 0)] r_p 8) (bx_val [(0, 0), (0, 0), (0, 0), (0, 0), (0, 0), (0, 0), (0, 0), (0, 0), (8, 0), (9, 0), (8, 6), (13, 0)] r_p 9) (bx_val [(0, 0), (0, 0), (0, 0), (0, 0), (0, 0), (0, 0), (0, 0), (0, 0), (8, 0), (9, 0), (8, 6), (13, 0)] r_p 10) (bx_val [(0, 0), (0, 0), (0, 0), (0, 0), (0, 0), (0, 0), (0, 0), (0, 0), (8, 0), (9, 0), (8, 6), (13, 0)] r_p 11)
    rw [bx_val_x (n := 8) (e := (8, 0)) h0_ rfl, bx_val_x (n := 9) (e := (9, 0)) h0_ rfl, bx_val_x (n := 10) (e := (8, 6)) h0_ rfl, bx_val_x (n := 11) (e := (13, 0)) h0_ rfl]
    exact g.2.2.1
  · show rxmRYK_36 S0 ws S_p (bx_val [(0, 0), (0, 0), (0, 0), (0, 0), (0, 0), (0, 0), (0, 0), (0, 0), (8, 0), (9, 0), (8, 6), (13, 0)] r_p 8) (bx_val [(0, 0), (0, 0), (0, 0), (0, 0), (0, 0), (0, 0), (0, 0), (0, 0), (8, 0), (9, 0), (8, 6), (13, 0)] r_p 9) (bx_val [(0, 0), (0, 0), (0, 0), (0, 0), (0, 0), (0, 0), (0, 0), (0, 0), (8, 0), (9, 0), (8, 6), (13, 0)] r_p 10) (bx_val [(0, 0), (0, 0), (0, 0), (0, 0), (0, 0), (0, 0), (0, 0), (0, 0), (8, 0), (9, 0), (8, 6), (13, 0)] r_p 11) < rxmRYK_31 S0 ws S_p (r 8) (r 9) (r 10) (r 11)
    rw [bx_val_x (n := 8) (e := (8, 0)) h0_ rfl, bx_val_x (n := 9) (e := (9, 0)) h0_ rfl, bx_val_x (n := 10) (e := (8, 6)) h0_ rfl, bx_val_x (n := 11) (e := (13, 0)) h0_ rfl, ← hr_ 8 (by decide), ← hr_ 9 (by decide), ← hr_ 10 (by decide), ← hr_ 11 (by decide)]
    exact g.2.2.2
theorem rxcRYK_33_0 {S0 : Nat → Int → Int} {ws : List Int} {S : Nat → Int → Int} {base dd : Int} (hP : rxPRYK S0 ws) (hin : bx_same rxL (bx_mdl rxCRYK.2.2.1) S0 S) (I0 : bx_Inv rxL S) (hinv : rxIRYK_33 S0 ws S base dd) (l8 : 0 ≤ base) (u8 : base ≤ 110) (l9 : 0 ≤ dd) (u9 : dd ≤ 1) : (True) ∧ (True) ∧ rxIRYK_34 S0 ws S base dd ∧ rxmRYK_34 S0 ws S base dd < rxmRYK_33 S0 ws S base dd := by
  obtain ⟨hI, hx⟩ := hinv
  obtain ⟨a_, b_, c_, d_⟩ := rxcRYW_33_0 hP hin I0 hI l8 u8 l9 u9
  exact ⟨a_, b_, ⟨c_, hx⟩, d_⟩
theorem rxgRYK_33_0 {X : (Nat → Int → Int) → Prop} {S0 : Nat → Int → Int} {ws : List Int} (hP : rxPRYK S0 ws) : bx_obC rxL X S0 rxCRYK.2.2.1 (rxIRYK S0 ws) (rxmRYK S0 ws) 33 rxzRYK_33 rxoRYK_33_0 := by
  intro S S_p r r_p hinv hX hin hsm_ hseg
  obtain ⟨I0, I1, h0_, hr_, b_, f_, d_⟩ := bx_cl (evs := []) (fvs := []) hseg (by decide +kernel) (by decide +kernel)
  have hinv : rxIRYK_33 S0 ws S (r 8) (r 9) := hinv
  rw [← hr_ 8 (by decide), ← hr_ 9 (by decide)] at hinv
  obtain ⟨⟨l8, u8⟩, ⟨l9, u9⟩, -⟩ := b_
  have w_ := d_
  subst w_
  have g := rxcRYK_33_0 hP hin I0 hinv l8 u8 l9 u9
  refine ⟨bx_narP_ok (l := []) g.1, bx_nfP_ok h0_ (fvs := []) (by decide +kernel) g.2.1, ?_, ?_⟩
  · show rxIRYK_34 S0 ws S_p (bx_val [(0, 0), (0, 0), (0, 0), (0, 0), (0, 0), (0, 0), (0, 0), (0, 0), (8, 0), (9, 0)] r_p 8) (bx_val [(0, 0), (0, 0), (0, 0), (0, 0), (0, 0), (0, 0), (0, 0), (0, 0), (8, 0), (9, 0)] r_p 9)
    rw [bx_val_x (n := 8) (e := (8, 0)) h0_ rfl, bx_val_x (n := 9) (e := (9, 0)) h0_ rfl]
    exact g.2.2.1
  · show rxmRYK_34 S0 ws S_p (bx_val [(0, 0), (0, 0), (0, 0), (0, 0), (0, 0), (0, 0), (0, 0), (0, 0), (8, 0), (9, 0)] r_p 8) (bx_val [(0, 0), (0, 0), (0, 0), (0, 0), (0, 0), (0, 0), (0, 0), (0, 0), (8, 0), (9, 0)] r_p 9) < rxmRYK_33 S0 ws S_p (r 8) (r 9)
    rw [bx_val_x (n := 8) (e := (8, 0)) h0_ rfl, bx_val_x (n := 9) (e := (9, 0)) h0_ rfl, ← hr_ 8 (by decide), ← hr_ 9 (by decide)]
    exact g.2.2.2
theorem rxcRYK_35_0 {S0 : Nat → Int → Int} {ws : List Int} {S : Nat → Int → Int} {base dd x10 : Int} (hP : rxPRYK S0 ws) (hin : bx_same rxL (bx_mdl rxCRYK.2.2.1) S0 S) (I0 : bx_Inv rxL S) (hinv : rxIRYK_35 S0 ws S base dd) (l8 : 0 ≤ base) (u8 : base ≤ 110) (l9 : 0 ≤ dd) (u9 : dd ≤ 1) (l10 : 0 ≤ x10) (u10 : x10 ≤ 400) (e0 : S 480 18 = x10) : (True) ∧ (True) ∧ rxIRYK_36 S0 ws S base dd (base + 6) x10 ∧ rxmRYK_36 S0 ws S base dd (base + 6) x10 < rxmRYK_35 S0 ws S base dd := by
  obtain ⟨hI, hx⟩ := hinv
  obtain ⟨a_, b_, c_, d_⟩ := rxcRYW_35_0 hP hin I0 hI l8 u8 l9 u9 l10 u10 e0
  exact ⟨a_, b_, ⟨c_, hx⟩, d_⟩
theorem rxgRYK_35_0 {X : (Nat → Int → Int) → Prop} {S0 : Nat → Int → Int} {ws : List Int} (hP : rxPRYK S0 ws) : bx_obC rxL X S0 rxCRYK.2.2.1 (rxIRYK S0 ws) (rxmRYK S0 ws) 35 rxzRYK_35 rxoRYK_35_0 := by
  intro S S_p r r_p hinv hX hin hsm_ hseg
  obtain ⟨I0, I1, h0_, hr_, b_, f_, d_⟩ := bx_cl (evs := [(0, (0, 480), (0, 18), .inr (0, (10, 0)))]) (fvs := []) hseg (by decide +kernel) (by decide +kernel)
  have hinv : rxIRYK_35 S0 ws S (r 8) (r 9) := hinv
  rw [← hr_ 8 (by decide), ← hr_ 9 (by decide)] at hinv
  obtain ⟨⟨l8, u8⟩, ⟨l9, u9⟩, ⟨l10, u10⟩, -⟩ := b_
  obtain ⟨e0, w_⟩ := d_
  subst w_
  have g := rxcRYK_35_0 hP hin I0 hinv l8 u8 l9 u9 l10 u10 e0
  refine ⟨bx_narP_ok (l := []) g.1, bx_nfP_ok h0_ (fvs := []) (by decide +kernel) g.2.1, ?_, ?_⟩
  · show rxIRYK_36 S0 ws S_p (bx_val [(0, 0), (0, 0), (0, 0), (0, 0), (0, 0), (0, 0), (0, 0), (0, 0), (8, 0), (9, 0), (8, 6), (10, 0)] r_p 8) (bx_val [(0, 0), (0, 0), (0, 0), (0, 0), (0, 0), (0, 0), (0, 0), (0, 0), (8, 0), (9, 0), (8, 6), (10, 0)] r_p 9) (bx_val [(0, 0), (0, 0), (0, 0), (0, 0), (0, 0), (0, 0), (0, 0), (0, 0), (8, 0), (9, 0), (8, 6), (10, 0)] r_p 10) (bx_val [(0, 0), (0, 0), (0, 0), (0, 0), (0, 0), (0, 0), (0, 0), (0, 0), (8, 0), (9, 0), (8, 6), (10, 0)] r_p 11)
    rw [bx_val_x (n := 8) (e := (8, 0)) h0_ rfl, bx_val_x (n := 9) (e := (9, 0)) h0_ rfl, bx_val_x (n := 10) (e := (8, 6)) h0_ rfl, bx_val_x (n := 11) (e := (10, 0)) h0_ rfl]
    exact g.2.2.1
  · show rxmRYK_36 S0 ws S_p (bx_val [(0, 0), (0, 0), (0, 0), (0, 0), (0, 0), (0, 0), (0, 0), (0, 0), (8, 0), (9, 0), (8, 6), (10, 0)] r_p 8) (bx_val [(0, 0), (0, 0), (0, 0), (0, 0), (0, 0), (0, 0), (0, 0), (0, 0), (8, 0), (9, 0), (8, 6), (10, 0)] r_p 9) (bx_val [(0, 0), (0, 0), (0, 0), (0, 0), (0, 0), (0, 0), (0, 0), (0, 0), (8, 0), (9, 0), (8, 6), (10, 0)] r_p 10) (bx_val [(0, 0), (0, 0), (0, 0), (0, 0), (0, 0), (0, 0), (0, 0), (0, 0), (8, 0), (9, 0), (8, 6), (10, 0)] r_p 11) < rxmRYK_35 S0 ws S_p (r 8) (r 9)
    rw [bx_val_x (n := 8) (e := (8, 0)) h0_ rfl, bx_val_x (n := 9) (e := (9, 0)) h0_ rfl, bx_val_x (n := 10) (e := (8, 6)) h0_ rfl, bx_val_x (n := 11) (e := (10, 0)) h0_ rfl, ← hr_ 8 (by decide), ← hr_ 9 (by decide)]
    exact g.2.2.2
theorem rxdRYK_37_0 {S0 : Nat → Int → Int} {ws : List Int} {S : Nat → Int → Int} {base dd a v : Int} (hP : rxPRYK S0 ws) (hin : bx_same rxL (bx_mdl rxCRYK.2.2.1) S0 S) (hin2 : bx_same rxL (bx_mdl rxCRYK.2.2.1) S S) (I0 : bx_Inv rxL S) (I1 : bx_Inv rxL S) (hinv : rxIRYK_37 S0 ws S base dd a v) (l8 : 0 ≤ base) (u8 : base ≤ 110) (l9 : 0 ≤ dd) (u9 : dd ≤ 1) (l10 : 6 ≤ a) (u10 : a ≤ 116) (l11 : 0 ≤ v) (u11 : v ≤ 400) : (True) ∧ rxPSRYK S0 ws S none := by
  obtain ⟨hI, hx⟩ := hinv
  obtain ⟨a_, c_⟩ := rxdRYW_37_0 hP hin hin2 I0 I1 hI l8 u8 l9 u9 l10 u10 l11 u11
  exact ⟨a_, rfl, c_, hx⟩
theorem rxfRYK_37_0 {X : (Nat → Int → Int) → Prop} {S0 : Nat → Int → Int} {ws : List Int} (hP : rxPRYK S0 ws) : bx_obE rxL X S0 rxCRYK.2.2.1 (rxIRYK S0 ws) (rxPSRYK S0 ws) 37 rxzRYK_37 rxeRYK_37_0 := by
  intro S S_p r r_p hinv hX hin hsm_ hseg
  obtain ⟨I0, I1, h0_, hr_, b_, f_, d_⟩ := bx_cl (evs := []) (fvs := []) hseg (by decide +kernel) (by decide +kernel)
  have hinv : rxIRYK_37 S0 ws S (r 8) (r 9) (r 10) (r 11) := hinv
  rw [← hr_ 8 (by decide), ← hr_ 9 (by decide), ← hr_ 10 (by decide), ← hr_ 11 (by decide)] at hinv
  obtain ⟨⟨l8, u8⟩, ⟨l9, u9⟩, ⟨l10, u10⟩, ⟨l11, u11⟩, -⟩ := b_
  have w_ := d_
  subst w_
  have g := rxdRYK_37_0 hP hin hsm_ I0 I1 hinv l8 u8 l9 u9 l10 u10 l11 u11
  refine ⟨bx_narP_ok (l := []) g.1, ?_⟩
  exact g.2
theorem rxgCRYK {X : (Nat → Int → Int) → Prop} {S0 : Nat → Int → Int} {ws : List Int} (hP : rxPRYK S0 ws) : bx_allI (fun i q => rxURYK q = true ∨ bx_allP (fun o => bx_obC rxL X S0 rxCRYK.2.2.1 (rxIRYK S0 ws) (rxmRYK S0 ws) i q.1 o) q.2.1) 0 rxYRYK := ⟨Or.inr ⟨rxgRYK_0_0 hP, rxgRYK_0_1 hP, rxgRYK_0_2 hP, rxgRYK_0_3 hP, trivial⟩, Or.inl rfl, Or.inr ⟨rxgRYK_2_0 hP, trivial⟩, Or.inr ⟨rxgRYK_3_0 hP, trivial⟩, Or.inr ⟨rxgRYK_4_0 hP, trivial⟩, Or.inl rfl, Or.inl rfl, Or.inr ⟨rxgRYK_7_0 hP, trivial⟩, Or.inl rfl, Or.inl rfl, Or.inr ⟨rxgRYK_10_0 hP, rxgRYK_10_1 hP, trivial⟩, Or.inl rfl, Or.inl rfl, Or.inr ⟨rxgRYK_13_0 hP, rxgRYK_13_1 hP, rxgRYK_13_2 hP, rxgRYK_13_3 hP, trivial⟩, Or.inl rfl, Or.inr ⟨rxgRYK_15_0 hP, rxgRYK_15_1 hP, rxgRYK_15_2 hP, rxgRYK_15_3 hP, trivial⟩, Or.inl rfl, Or.inr ⟨rxgRYK_17_0 hP, rxgRYK_17_1 hP, trivial⟩, Or.inl rfl, Or.inr ⟨rxgRYK_19_0 hP, trivial⟩, Or.inl rfl, Or.inr ⟨rxgRYK_21_0 hP, rxgRYK_21_1 hP, rxgRYK_21_2 hP, trivial⟩, Or.inl rfl, Or.inr ⟨rxgRYK_23_0 hP, trivial⟩, Or.inl rfl, Or.inr ⟨rxgRYK_25_0 hP, rxgRYK_25_1 hP, rxgRYK_25_2 hP, rxgRYK_25_3 hP, rxgRYK_25_4 hP, trivial⟩, Or.inl rfl, Or.inr ⟨rxgRYK_27_0 hP, trivial⟩, Or.inl rfl, Or.inr ⟨rxgRYK_29_0 hP, trivial⟩, Or.inl rfl, Or.inr ⟨rxgRYK_31_0 hP, rxgRYK_31_1 hP, rxgRYK_31_2 hP, rxgRYK_31_3 hP, trivial⟩, Or.inl rfl, Or.inr ⟨rxgRYK_33_0 hP, trivial⟩, Or.inl rfl, Or.inr ⟨rxgRYK_35_0 hP, trivial⟩, Or.inl rfl, Or.inr trivial, trivial⟩
theorem rxgERYK {X : (Nat → Int → Int) → Prop} {S0 : Nat → Int → Int} {ws : List Int} (hP : rxPRYK S0 ws) : bx_allI (fun i q => rxURYK q = true ∨ bx_allP (fun E => bx_obE rxL X S0 rxCRYK.2.2.1 (rxIRYK S0 ws) (rxPSRYK S0 ws) i q.1 E) q.2.2) 0 rxYRYK := ⟨Or.inr trivial, Or.inl rfl, Or.inr ⟨rxfRYK_2_0 hP, trivial⟩, Or.inr trivial, Or.inr trivial, Or.inl rfl, Or.inl rfl, Or.inr trivial, Or.inl rfl, Or.inl rfl, Or.inr trivial, Or.inl rfl, Or.inl rfl, Or.inr trivial, Or.inl rfl, Or.inr trivial, Or.inl rfl, Or.inr trivial, Or.inl rfl, Or.inr trivial, Or.inl rfl, Or.inr trivial, Or.inl rfl, Or.inr trivial, Or.inl rfl, Or.inr trivial, Or.inl rfl, Or.inr trivial, Or.inl rfl, Or.inr trivial, Or.inl rfl, Or.inr trivial, Or.inl rfl, Or.inr trivial, Or.inl rfl, Or.inr trivial, Or.inl rfl, Or.inr ⟨rxfRYK_37_0 hP, trivial⟩, trivial⟩
theorem rxuRYK {PX : State → Prop} {Dg : va_G} {A : Nat → Prop} {ad xa : Nat → Nat} {l : Launch} {X : (Nat → Int → Int) → Prop} (hPX : rx_PXOK rxNW A PX) (hX : ∀ S S1 : Nat → Int → Int, X S → bx_same rxL (bx_mdl rxCRYK.2.2.1) S S1 → X S1) (hQMUW : bx_ConP rxG rxNW rxAO PX Dg rxL X vwCl A ad l rxM265 rxCMUW rxPMUW rxPSMUW) (hQRPLK : bx_ConP rxG rxNW rxAO PX Dg rxL X vwCl A ad l rxM294 rxCRPLK rxPRPLK rxPSRPLK) (hQIWW : bx_ConP rxG rxNW rxAO PX Dg rxL X vwCl A ad l rxM267 rxCIWW rxPIWW rxPSIWW) (hQREXK : bx_ConP rxG rxNW rxAO PX Dg rxL X vwCl A ad l rxM282 rxCREXK rxPREXK rxPSREXK) (hQNXX : bx_ConP rxG rxNW rxAO PX Dg rxL X vwCl A ad l rxM264 rxCNXX rxPNXX rxPSNXX) {S0 : Nat → Int → Int} {ws : List Int} (hP : rxPRYK S0 ws) : ∀ (i : Nat) (q : bx_HE), rxYRYK[i]? = some q → rxURYK q = true → ∀ {p : Program} {e : Env} {R : Room} {s : State} {m : MethodId} {args : Array Value} {below : List Frame} {meth : Method} {c : Code} {Q : State → Prop} {H0 : Heap}, rx_Fr rxG rxNW rxAO PX p s m args meth c rxM295 → (∀ q, H0.size ≤ q → A q) → H0 = s.heap → rxM295.2.2.2.2.2.2.1 ≤ R.cells → rxM295.2.2.2.2.2.2.2 ≤ R.slots → rxCRYK.2.2.2.1 ≤ R.frames → rxCRYK.2.2.2.1 * 40 ≤ R.locals → bx_Step p l e R s m args below meth c Q Dg rxL X vwCl A xa H0 ad rxM295 rxYRYK (rxIRYK S0 ws) (rxmRYK S0 ws) S0 rxCRYK.2.2.1 i q := by
  intro i q hq hus p e R s m args below meth c Q H0 hF hA hH0 hmc hms hd hdl
  match i, hq with
  | 0, hq =>
    cases hq
    exact absurd (show false = true from hus) Bool.false_ne_true
  | 1, hq =>
    cases hq
    exact rx_stepC (ins := .invokevirtual 284) (len := 3) (i_p := 2) (M_p := rxM265) (d := rxCRYK.2.2.2.1) (as := [.inr (3, (0, 480)), .inr (0, (8, 0))]) (t := []) (ct := rxCMUW) hPX hF rfl hA hH0 hmc hms hd hdl (by decide +kernel) rfl rfl (by decide +kernel) (by decide +kernel) hQMUW (by decide +kernel) rfl (Or.inl ⟨rfl, rfl, rfl⟩) (rxsRYK_1 hP)
  | 2, hq =>
    cases hq
    exact absurd (show false = true from hus) Bool.false_ne_true
  | 3, hq =>
    cases hq
    exact absurd (show false = true from hus) Bool.false_ne_true
  | 4, hq =>
    cases hq
    exact absurd (show false = true from hus) Bool.false_ne_true
  | 5, hq =>
    cases hq
    exact rx_stepC (ins := .invokevirtual 452) (len := 3) (i_p := 6) (M_p := rxM294) (d := rxCRYK.2.2.2.1) (as := [.inr (3, (0, 480))]) (t := [.inr (0, (9, 0)), .inr (3, (0, 496))]) (ct := rxCRPLK) hPX hF rfl hA hH0 hmc hms hd hdl (by decide +kernel) rfl rfl (by decide +kernel) (by decide +kernel) hQRPLK (by decide +kernel) rfl (Or.inr ⟨_, _, _, 1, rfl, rfl, by omega, rfl, rfl, rfl⟩) (rxsRYK_5 hP)
  | 6, hq =>
    cases hq
    exact rx_stepS (i_p := 7) (pl := 496) (a := 9) (b := 10) (n := 120) (g := 77) (lo := 0) (hi := 110) (ty := (0, (-2147483648), 2147483647)) (t := []) hF (by decide +kernel) rfl rfl rfl rfl (by omega) (by omega) (by decide +kernel) rfl rfl (rxsRYK_6 hP hX)
  | 7, hq =>
    cases hq
    exact absurd (show false = true from hus) Bool.false_ne_true
  | 8, hq =>
    cases hq
    exact rx_stepC (ins := .invokevirtual 307) (len := 3) (i_p := 9) (M_p := rxM267) (d := rxCRYK.2.2.2.1) (as := [.inr (3, (0, 480)), .inr (1, (0, 52))]) (t := [.inr (3, (0, 480))]) (ct := rxCIWW) hPX hF rfl hA hH0 hmc hms hd hdl (by decide +kernel) rfl rfl (by decide +kernel) (by decide +kernel) hQIWW (by decide +kernel) rfl (Or.inr ⟨_, _, _, 1, rfl, rfl, by omega, rfl, rfl, rfl⟩) (rxsRYK_8 hP)
  | 9, hq =>
    cases hq
    exact rx_stepC (ins := .invokevirtual 284) (len := 3) (i_p := 10) (M_p := rxM265) (d := rxCRYK.2.2.2.1) (as := [.inr (3, (0, 480)), .inr (0, (9, 0))]) (t := []) (ct := rxCMUW) hPX hF rfl hA hH0 hmc hms hd hdl (by decide +kernel) rfl rfl (by decide +kernel) (by decide +kernel) hQMUW (by decide +kernel) rfl (Or.inl ⟨rfl, rfl, rfl⟩) (rxsRYK_9 hP)
  | 10, hq =>
    cases hq
    exact absurd (show false = true from hus) Bool.false_ne_true
  | 11, hq =>
    cases hq
    exact rx_stepC (ins := .invokevirtual 452) (len := 3) (i_p := 12) (M_p := rxM294) (d := rxCRYK.2.2.2.1) (as := [.inr (3, (0, 480))]) (t := [.inr (0, (9, 0)), .inr (3, (0, 496))]) (ct := rxCRPLK) hPX hF rfl hA hH0 hmc hms hd hdl (by decide +kernel) rfl rfl (by decide +kernel) (by decide +kernel) hQRPLK (by decide +kernel) rfl (Or.inr ⟨_, _, _, 1, rfl, rfl, by omega, rfl, rfl, rfl⟩) (rxsRYK_11 hP)
  | 12, hq =>
    cases hq
    exact rx_stepS (i_p := 13) (pl := 496) (a := 9) (b := 10) (n := 120) (g := 77) (lo := 1) (hi := 111) (ty := (0, (-2147483648), 2147483647)) (t := []) hF (by decide +kernel) rfl rfl rfl rfl (by omega) (by omega) (by decide +kernel) rfl rfl (rxsRYK_12 hP hX)
  | 13, hq =>
    cases hq
    exact absurd (show false = true from hus) Bool.false_ne_true
  | 14, hq =>
    cases hq
    exact rx_stepS (i_p := 15) (pl := 496) (a := 9) (b := 10) (n := 120) (g := 77) (lo := 1) (hi := 111) (ty := (0, 0, 0)) (t := []) hF (by decide +kernel) rfl rfl rfl rfl (by omega) (by omega) (by decide +kernel) rfl rfl (rxsRYK_14 hP hX)
  | 15, hq =>
    cases hq
    exact absurd (show false = true from hus) Bool.false_ne_true
  | 16, hq =>
    cases hq
    exact rx_stepC (ins := .invokevirtual 284) (len := 3) (i_p := 17) (M_p := rxM265) (d := rxCRYK.2.2.2.1) (as := [.inr (3, (0, 480)), .inr (0, (10, 0))]) (t := []) (ct := rxCMUW) hPX hF rfl hA hH0 hmc hms hd hdl (by decide +kernel) rfl rfl (by decide +kernel) (by decide +kernel) hQMUW (by decide +kernel) rfl (Or.inl ⟨rfl, rfl, rfl⟩) (rxsRYK_16 hP)
  | 17, hq =>
    cases hq
    exact absurd (show false = true from hus) Bool.false_ne_true
  | 18, hq =>
    cases hq
    exact rx_stepS (i_p := 19) (pl := 496) (a := 10) (b := 11) (n := 120) (g := 77) (lo := 2) (hi := 112) (ty := (0, 0, 1)) (t := []) hF (by decide +kernel) rfl rfl rfl rfl (by omega) (by omega) (by decide +kernel) rfl rfl (rxsRYK_18 hP hX)
  | 19, hq =>
    cases hq
    exact absurd (show false = true from hus) Bool.false_ne_true
  | 20, hq =>
    cases hq
    exact rx_stepS (i_p := 21) (pl := 496) (a := 10) (b := 11) (n := 120) (g := 77) (lo := 3) (hi := 113) (ty := (0, 0, 400)) (t := []) hF (by decide +kernel) rfl rfl rfl rfl (by omega) (by omega) (by decide +kernel) rfl rfl (rxsRYK_20 hP hX)
  | 21, hq =>
    cases hq
    exact absurd (show false = true from hus) Bool.false_ne_true
  | 22, hq =>
    cases hq
    exact rx_stepC (ins := .invokevirtual 383) (len := 3) (i_p := 23) (M_p := rxM282) (d := rxCRYK.2.2.2.1) (as := [.inr (3, (0, 480)), .inr (0, (0, 0))]) (t := []) (ct := rxCREXK) hPX hF rfl hA hH0 hmc hms hd hdl (by decide +kernel) rfl rfl (by decide +kernel) (by decide +kernel) hQREXK (by decide +kernel) rfl (Or.inl ⟨rfl, rfl, rfl⟩) (rxsRYK_22 hP)
  | 23, hq =>
    cases hq
    exact absurd (show false = true from hus) Bool.false_ne_true
  | 24, hq =>
    cases hq
    exact rx_stepS (i_p := 25) (pl := 496) (a := 10) (b := 11) (n := 120) (g := 77) (lo := 4) (hi := 114) (ty := (0, 0, 400)) (t := []) hF (by decide +kernel) rfl rfl rfl rfl (by omega) (by omega) (by decide +kernel) rfl rfl (rxsRYK_24 hP hX)
  | 25, hq =>
    cases hq
    exact absurd (show false = true from hus) Bool.false_ne_true
  | 26, hq =>
    cases hq
    exact rx_stepC (ins := .invokevirtual 253) (len := 3) (i_p := 27) (M_p := rxM264) (d := rxCRYK.2.2.2.1) (as := [.inr (3, (0, 480))]) (t := []) (ct := rxCNXX) hPX hF rfl hA hH0 hmc hms hd hdl (by decide +kernel) rfl rfl (by decide +kernel) (by decide +kernel) hQNXX (by decide +kernel) rfl (Or.inl ⟨rfl, rfl, rfl⟩) (rxsRYK_26 hP)
  | 27, hq =>
    cases hq
    exact absurd (show false = true from hus) Bool.false_ne_true
  | 28, hq =>
    cases hq
    exact rx_stepC (ins := .invokevirtual 383) (len := 3) (i_p := 29) (M_p := rxM282) (d := rxCRYK.2.2.2.1) (as := [.inr (3, (0, 480)), .inr (0, (0, 0))]) (t := []) (ct := rxCREXK) hPX hF rfl hA hH0 hmc hms hd hdl (by decide +kernel) rfl rfl (by decide +kernel) (by decide +kernel) hQREXK (by decide +kernel) rfl (Or.inl ⟨rfl, rfl, rfl⟩) (rxsRYK_28 hP)
  | 29, hq =>
    cases hq
    exact absurd (show false = true from hus) Bool.false_ne_true
  | 30, hq =>
    cases hq
    exact rx_stepS (i_p := 31) (pl := 496) (a := 10) (b := 11) (n := 120) (g := 77) (lo := 5) (hi := 115) (ty := (0, 0, 400)) (t := []) hF (by decide +kernel) rfl rfl rfl rfl (by omega) (by omega) (by decide +kernel) rfl rfl (rxsRYK_30 hP hX)
  | 31, hq =>
    cases hq
    exact absurd (show false = true from hus) Bool.false_ne_true
  | 32, hq =>
    cases hq
    exact rx_stepC (ins := .invokevirtual 253) (len := 3) (i_p := 33) (M_p := rxM264) (d := rxCRYK.2.2.2.1) (as := [.inr (3, (0, 480))]) (t := []) (ct := rxCNXX) hPX hF rfl hA hH0 hmc hms hd hdl (by decide +kernel) rfl rfl (by decide +kernel) (by decide +kernel) hQNXX (by decide +kernel) rfl (Or.inl ⟨rfl, rfl, rfl⟩) (rxsRYK_32 hP)
  | 33, hq =>
    cases hq
    exact absurd (show false = true from hus) Bool.false_ne_true
  | 34, hq =>
    cases hq
    exact rx_stepC (ins := .invokevirtual 383) (len := 3) (i_p := 35) (M_p := rxM282) (d := rxCRYK.2.2.2.1) (as := [.inr (3, (0, 480)), .inr (0, (0, 1))]) (t := []) (ct := rxCREXK) hPX hF rfl hA hH0 hmc hms hd hdl (by decide +kernel) rfl rfl (by decide +kernel) (by decide +kernel) hQREXK (by decide +kernel) rfl (Or.inl ⟨rfl, rfl, rfl⟩) (rxsRYK_34 hP)
  | 35, hq =>
    cases hq
    exact absurd (show false = true from hus) Bool.false_ne_true
  | 36, hq =>
    cases hq
    exact rx_stepS (i_p := 37) (pl := 496) (a := 10) (b := 11) (n := 120) (g := 77) (lo := 6) (hi := 116) (ty := (0, 0, 400)) (t := []) hF (by decide +kernel) rfl rfl rfl rfl (by omega) (by omega) (by decide +kernel) rfl rfl (rxsRYK_36 hP hX)
  | 37, hq =>
    cases hq
    exact absurd (show false = true from hus) Bool.false_ne_true
  | n + 38, hq => cases hq
theorem rxQRYK {PX : State → Prop} {Dg : va_G} {A : Nat → Prop} {ad xa : Nat → Nat} {l : Launch} {X : (Nat → Int → Int) → Prop} (hPX : rx_PXOK rxNW A PX) (hsl : ∀ s : State, PX s → ∀ o idx n : Nat, rxSl o idx = some n → ∃ tx : String, vk_R (rxNm o) idx tx (ad n) s)
    (hX : ∀ S S_p : Nat → Int → Int, X S → bx_same rxL (bx_mdl rxCRYK.2.2.1) S S_p → X S_p)
    (ih : ∀ (j2 : Nat) (ct2 : bx_Ct) (M2 : rx_Mt), ct2 ∈ rxCnE j2 → ct2.2.2.2.1 + 1 ≤ rxCRYK.2.2.2.1 → rxT.2.2.2.2.2 j2 = some M2 → bx_Con rxG rxNW rxAO PX Dg rxL X vwCl A ad l M2 ct2) (hQMUW : bx_ConP rxG rxNW rxAO PX Dg rxL X vwCl A ad l rxM265 rxCMUW rxPMUW rxPSMUW) (hQRPLK : bx_ConP rxG rxNW rxAO PX Dg rxL X vwCl A ad l rxM294 rxCRPLK rxPRPLK rxPSRPLK) (hQIWW : bx_ConP rxG rxNW rxAO PX Dg rxL X vwCl A ad l rxM267 rxCIWW rxPIWW rxPSIWW) (hQREXK : bx_ConP rxG rxNW rxAO PX Dg rxL X vwCl A ad l rxM282 rxCREXK rxPREXK rxPSREXK) (hQNXX : bx_ConP rxG rxNW rxAO PX Dg rxL X vwCl A ad l rxM264 rxCNXX rxPNXX rxPSNXX) : bx_ConP rxG rxNW rxAO PX Dg rxL X vwCl A ad l rxM295 rxCRYK rxPRYK rxPSRYK :=
  rxQof (xa := xa) (Cn := rxCnE) (f := 30000) (j := 295) (tab := rxYRYK) (us := rxURYK) hPX hsl hX ih rfl rxYcRYK rxIRYK rxmRYK
    (fun S0 ws r I0 I ht0 ht as he he1 hX0 hI0 hP hs ha => by
      have e := he.symm.trans (show bx_ent0 rxNP rxCRYK.1 bx_I0 [] = some ([(0, 0), (0, 0), (0, 0), (0, 0), (0, 0), (0, 0), (0, 0), (0, 0)], [], [.inr (3, (0, 480))]) from rfl)
      cases e
      subst ha
      have h0 : r 0 = 0 := hs.1
      show rxIRYK_0 S0 _ S0
      refine ⟨⟨⟨rfl, ?_⟩, trivial⟩, trivial⟩
      simp only [List.map_cons, List.map_nil, bx_xv_ok h0]
      rfl)
    (fun S0 ws hP => rxuRYK (xa := xa) hPX hX hQMUW hQRPLK hQIWW hQREXK hQNXX hP) (fun S0 ws hP => rxgCRYK hP) (fun S0 ws hP => rxgERYK hP)
