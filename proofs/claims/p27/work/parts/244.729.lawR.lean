noncomputable def rxILAWK_0 (S0 : Nat → Int → Int) (ws : List Int) (S : Nat → Int → Int) : Prop := rxILAWX_0 S0 ws S ∧ True
noncomputable def rxmLAWK_0 (S0 : Nat → Int → Int) (ws : List Int) (S : Nat → Int → Int) : Nat := rxmLAWX_0 S0 ws S
noncomputable def rxzLAWK_0 : rx_Z := ([(0, 0), (0, 0), (0, 0), (0, 0), (0, 0), (0, 0), (0, 0), (0, 0)], [], [], 0, 0, 0, [(0, .inr (3, (0, 480)))], [])
noncomputable def rxILAWK_1 (S0 : Nat → Int → Int) (ws : List Int) (S : Nat → Int → Int) : Prop := rxILAWX_1 S0 ws S ∧ True
noncomputable def rxmLAWK_1 (S0 : Nat → Int → Int) (ws : List Int) (S : Nat → Int → Int) : Nat := rxmLAWX_1 S0 ws S
noncomputable def rxzLAWK_1 : rx_Z := ([(0, 0), (0, 0), (0, 0), (0, 0), (0, 0), (0, 0), (0, 0), (0, 0)], [], [], 0, 0, 30, [(0, .inr (3, (0, 480)))], [.inr (0, (0, 0)), .inr (3, (0, 480))])
noncomputable def rxILAWK_2 (S0 : Nat → Int → Int) (ws : List Int) (S : Nat → Int → Int) : Prop := rxILAWX_2 S0 ws S ∧ (rzCk S0 → S 480 14 = 0 → rkMp S0 S)
noncomputable def rxmLAWK_2 (S0 : Nat → Int → Int) (ws : List Int) (S : Nat → Int → Int) : Nat := rxmLAWX_2 S0 ws S
noncomputable def rxzLAWK_2 : rx_Z := ([(0, 0), (0, 0), (0, 0), (0, 0), (0, 0), (0, 0), (0, 0), (0, 0)], [], [], 0, 0, 33, [(0, .inr (3, (0, 480)))], [])
noncomputable def rxILAWK_3 (S0 : Nat → Int → Int) (ws : List Int) (S : Nat → Int → Int) : Prop := rxILAWX_3 S0 ws S ∧ (rzCk S0 → S 480 14 = 0 → rkMp S0 S)
noncomputable def rxmLAWK_3 (S0 : Nat → Int → Int) (ws : List Int) (S : Nat → Int → Int) : Nat := rxmLAWX_3 S0 ws S
noncomputable def rxzLAWK_3 : rx_Z := ([(0, 0), (0, 0), (0, 0), (0, 0), (0, 0), (0, 0), (0, 0), (0, 0)], [], [], 0, 0, 34, [(0, .inr (3, (0, 480)))], [.inr (3, (0, 480))])
noncomputable def rxILAWK_4 (S0 : Nat → Int → Int) (ws : List Int) (S : Nat → Int → Int) : Prop := rxILAWX_4 S0 ws S ∧ (rzCk S0 → S 480 14 = 0 → rkMq S0 S)
noncomputable def rxmLAWK_4 (S0 : Nat → Int → Int) (ws : List Int) (S : Nat → Int → Int) : Nat := rxmLAWX_4 S0 ws S
noncomputable def rxzLAWK_4 : rx_Z := ([(0, 0), (0, 0), (0, 0), (0, 0), (0, 0), (0, 0), (0, 0), (0, 0)], [], [], 0, 0, 37, [(0, .inr (3, (0, 480)))], [])
noncomputable def rxILAWK_5 (S0 : Nat → Int → Int) (ws : List Int) (S : Nat → Int → Int) : Prop := rxILAWX_5 S0 ws S ∧ (rzCk S0 → S 480 14 = 0 → rkMq S0 S)
noncomputable def rxmLAWK_5 (S0 : Nat → Int → Int) (ws : List Int) (S : Nat → Int → Int) : Nat := rxmLAWX_5 S0 ws S
noncomputable def rxzLAWK_5 : rx_Z := ([(0, 0), (0, 0), (0, 0), (0, 0), (0, 0), (0, 0), (0, 0), (0, 0)], [], [], 0, 0, 37, [(0, .inr (3, (0, 480)))], [])
noncomputable def rxILAWK_6 (S0 : Nat → Int → Int) (ws : List Int) (S : Nat → Int → Int) : Prop := rxILAWX_6 S0 ws S ∧ (rzCk S0 → S 480 14 = 0 → rkMq S0 S)
noncomputable def rxmLAWK_6 (S0 : Nat → Int → Int) (ws : List Int) (S : Nat → Int → Int) : Nat := rxmLAWX_6 S0 ws S
noncomputable def rxzLAWK_6 : rx_Z := ([(0, 0), (0, 0), (0, 0), (0, 0), (0, 0), (0, 0), (0, 0), (0, 0)], [], [], 0, 0, 54, [(0, .inr (3, (0, 480)))], [.inr (3, (0, 480))])
noncomputable def rxILAWK_7 (S0 : Nat → Int → Int) (ws : List Int) (S : Nat → Int → Int) : Prop := rxILAWX_7 S0 ws S ∧ (rzCk S0 → S 480 14 = 0 → rkMp S0 S)
noncomputable def rxmLAWK_7 (S0 : Nat → Int → Int) (ws : List Int) (S : Nat → Int → Int) : Nat := rxmLAWX_7 S0 ws S
noncomputable def rxzLAWK_7 : rx_Z := ([(0, 0), (0, 0), (0, 0), (0, 0), (0, 0), (0, 0), (0, 0), (0, 0)], [], [], 0, 0, 57, [(0, .inr (3, (0, 480)))], [])
noncomputable def rxILAWK_8 (S0 : Nat → Int → Int) (ws : List Int) (S : Nat → Int → Int) : Prop := rxILAWX_8 S0 ws S ∧ (rzCk S0 → S 480 14 = 0 → rkMp S0 S)
noncomputable def rxmLAWK_8 (S0 : Nat → Int → Int) (ws : List Int) (S : Nat → Int → Int) : Nat := rxmLAWX_8 S0 ws S
noncomputable def rxzLAWK_8 : rx_Z := ([(0, 0), (0, 0), (0, 0), (0, 0), (0, 0), (0, 0), (0, 0), (0, 0)], [], [], 0, 0, 58, [(0, .inr (3, (0, 480)))], [.inr (3, (0, 480))])
noncomputable def rxILAWK_9 (S0 : Nat → Int → Int) (ws : List Int) (S : Nat → Int → Int) : Prop := rxILAWX_9 S0 ws S ∧ (rzCk S0 → S 480 14 = 0 → rkMq S0 S)
noncomputable def rxmLAWK_9 (S0 : Nat → Int → Int) (ws : List Int) (S : Nat → Int → Int) : Nat := rxmLAWX_9 S0 ws S
noncomputable def rxzLAWK_9 : rx_Z := ([(0, 0), (0, 0), (0, 0), (0, 0), (0, 0), (0, 0), (0, 0), (0, 0)], [], [], 0, 0, 61, [(0, .inr (3, (0, 480)))], [])
noncomputable def rxILAWK_10 (S0 : Nat → Int → Int) (ws : List Int) (S : Nat → Int → Int) : Prop := rxILAWX_10 S0 ws S ∧ (rzCk S0 → S 480 14 = 0 → rkMq S0 S)
noncomputable def rxmLAWK_10 (S0 : Nat → Int → Int) (ws : List Int) (S : Nat → Int → Int) : Nat := rxmLAWX_10 S0 ws S
noncomputable def rxzLAWK_10 : rx_Z := ([(0, 0), (0, 0), (0, 0), (0, 0), (0, 0), (0, 0), (0, 0), (0, 0)], [], [], 0, 0, 65, [(0, .inr (3, (0, 480)))], [.inr (3, (0, 480))])
noncomputable def rxILAWK_11 (S0 : Nat → Int → Int) (ws : List Int) (S : Nat → Int → Int) : Prop := rxILAWX_11 S0 ws S ∧ (rzCk S0 → S 480 14 = 0 → rkMz S0 S)
noncomputable def rxmLAWK_11 (S0 : Nat → Int → Int) (ws : List Int) (S : Nat → Int → Int) : Nat := rxmLAWX_11 S0 ws S
noncomputable def rxzLAWK_11 : rx_Z := ([(0, 0), (0, 0), (0, 0), (0, 0), (0, 0), (0, 0), (0, 0), (0, 0)], [], [], 0, 0, 68, [(0, .inr (3, (0, 480)))], [])
noncomputable def rxILAWK_12 (S0 : Nat → Int → Int) (ws : List Int) (S : Nat → Int → Int) (n3 : Int) : Prop := rxILAWX_12 S0 ws S n3 ∧ (rzCk S0 → rkMz S0 S)
noncomputable def rxmLAWK_12 (S0 : Nat → Int → Int) (ws : List Int) (S : Nat → Int → Int) (n3 : Int) : Nat := rxmLAWX_12 S0 ws S n3
noncomputable def rxzLAWK_12 : rx_Z := ([(0, 0), (0, 0), (0, 0), (0, 0), (0, 0), (0, 0), (0, 0), (0, 0), (0, 5)], [], [], 0, 0, 94, [(0, .inr (3, (0, 480)))], [.inr (0, (8, 0)), .inr (0, (0, 900)), .inr (0, (0, 780))])
noncomputable def rxILAWK_13 (S0 : Nat → Int → Int) (ws : List Int) (S : Nat → Int → Int) (base a v : Int) : Prop := rxILAWX_13 S0 ws S base a v ∧ (rzCk S0 → rkMz S0 S)
noncomputable def rxmLAWK_13 (S0 : Nat → Int → Int) (ws : List Int) (S : Nat → Int → Int) (base a v : Int) : Nat := rxmLAWX_13 S0 ws S base a v
noncomputable def rxzLAWK_13 : rx_Z := ([(0, 0), (0, 0), (0, 0), (0, 0), (0, 0), (0, 0), (0, 0), (0, 0), (780, 5280), (781, 5281), (0, 12)], [], [], 0, 0, 108, [(0, .inr (3, (0, 480))), (1, .inr (0, (8, 0)))], [.inr (0, (10, 0)), .inr (0, (9, 0)), .inr (3, (0, 482))])
noncomputable def rxILAWK_14 (S0 : Nat → Int → Int) (ws : List Int) (S : Nat → Int → Int) (base a v : Int) : Prop := rxILAWX_14 S0 ws S base a v ∧ (rzCk S0 → rkMz S0 S)
noncomputable def rxmLAWK_14 (S0 : Nat → Int → Int) (ws : List Int) (S : Nat → Int → Int) (base a v : Int) : Nat := rxmLAWX_14 S0 ws S base a v
noncomputable def rxzLAWK_14 : rx_Z := ([(0, 0), (0, 0), (0, 0), (0, 0), (0, 0), (0, 0), (0, 0), (0, 0), (780, 5280), (781, 5281), (0, 12)], [], [], 0, 0, 109, [(0, .inr (3, (0, 480))), (1, .inr (0, (8, 0)))], [])
noncomputable def rxILAWK_15 (S0 : Nat → Int → Int) (ws : List Int) (S : Nat → Int → Int) (base i : Int) : Prop := rxILAWX_15 S0 ws S base i ∧ (rzCk S0 → rkMz S0 S)
noncomputable def rxmLAWK_15 (S0 : Nat → Int → Int) (ws : List Int) (S : Nat → Int → Int) (base i : Int) : Nat := rxmLAWX_15 S0 ws S base i
noncomputable def rxzLAWK_15 : rx_Z := ([(0, 0), (0, 0), (0, 0), (0, 0), (0, 0), (0, 0), (0, 0), (0, 0), (780, 5280), (0, 96)], [], [], 0, 0, 111, [(0, .inr (3, (0, 480))), (1, .inr (0, (8, 0))), (2, .inr (0, (9, 0)))], [])
noncomputable def rxILAWK_16 (S0 : Nat → Int → Int) (ws : List Int) (S : Nat → Int → Int) (base i a v : Int) : Prop := rxILAWX_16 S0 ws S base i a v ∧ (rzCk S0 → rkMz S0 S)
noncomputable def rxmLAWK_16 (S0 : Nat → Int → Int) (ws : List Int) (S : Nat → Int → Int) (base i a v : Int) : Nat := rxmLAWX_16 S0 ws S base i a v
noncomputable def rxzLAWK_16 : rx_Z := ([(0, 0), (0, 0), (0, 0), (0, 0), (0, 0), (0, 0), (0, 0), (0, 0), (780, 5280), (0, 95), (782, 5377), (0, 400)], [], [], 0, 0, 137, [(0, .inr (3, (0, 480))), (1, .inr (0, (8, 0))), (2, .inr (0, (9, 0)))], [.inr (0, (11, 0)), .inr (0, (10, 0)), .inr (3, (0, 482))])
noncomputable def rxILAWK_17 (S0 : Nat → Int → Int) (ws : List Int) (S : Nat → Int → Int) (base i a v : Int) : Prop := rxILAWX_17 S0 ws S base i a v ∧ (rzCk S0 → rkMz S0 S)
noncomputable def rxmLAWK_17 (S0 : Nat → Int → Int) (ws : List Int) (S : Nat → Int → Int) (base i a v : Int) : Nat := rxmLAWX_17 S0 ws S base i a v
noncomputable def rxzLAWK_17 : rx_Z := ([(0, 0), (0, 0), (0, 0), (0, 0), (0, 0), (0, 0), (0, 0), (0, 0), (780, 5280), (0, 95), (782, 5377), (0, 400)], [], [], 0, 0, 138, [(0, .inr (3, (0, 480))), (1, .inr (0, (8, 0))), (2, .inr (0, (9, 0)))], [])
noncomputable def rxILAWK_18 (S0 : Nat → Int → Int) (ws : List Int) (S : Nat → Int → Int) (base i : Int) : Prop := rxILAWX_18 S0 ws S base i ∧ (rzCk S0 → rkMz S0 S)
noncomputable def rxmLAWK_18 (S0 : Nat → Int → Int) (ws : List Int) (S : Nat → Int → Int) (base i : Int) : Nat := rxmLAWX_18 S0 ws S base i
noncomputable def rxzLAWK_18 : rx_Z := ([(0, 0), (0, 0), (0, 0), (0, 0), (0, 0), (0, 0), (0, 0), (0, 0), (780, 5280), (0, 400)], [], [], 0, 0, 146, [(0, .inr (3, (0, 480))), (1, .inr (0, (8, 0))), (2, .inr (0, (9, 0)))], [])
noncomputable def rxILAWK_19 (S0 : Nat → Int → Int) (ws : List Int) (S : Nat → Int → Int) (base i a v : Int) : Prop := rxILAWX_19 S0 ws S base i a v ∧ (rzCk S0 → rkMz S0 S)
noncomputable def rxmLAWK_19 (S0 : Nat → Int → Int) (ws : List Int) (S : Nat → Int → Int) (base i a v : Int) : Nat := rxmLAWX_19 S0 ws S base i a v
noncomputable def rxzLAWK_19 : rx_Z := ([(0, 0), (0, 0), (0, 0), (0, 0), (0, 0), (0, 0), (0, 0), (0, 0), (780, 5280), (0, 399), (878, 6176), (0, 30)], [], [], 0, 0, 172, [(0, .inr (3, (0, 480))), (1, .inr (0, (8, 0))), (2, .inr (0, (9, 0)))], [.inr (0, (11, 0)), .inr (0, (10, 0)), .inr (3, (0, 482))])
noncomputable def rxILAWK_20 (S0 : Nat → Int → Int) (ws : List Int) (S : Nat → Int → Int) (base i a v : Int) : Prop := rxILAWX_20 S0 ws S base i a v ∧ (rzCk S0 → rkMz S0 S)
noncomputable def rxmLAWK_20 (S0 : Nat → Int → Int) (ws : List Int) (S : Nat → Int → Int) (base i a v : Int) : Nat := rxmLAWX_20 S0 ws S base i a v
noncomputable def rxzLAWK_20 : rx_Z := ([(0, 0), (0, 0), (0, 0), (0, 0), (0, 0), (0, 0), (0, 0), (0, 0), (780, 5280), (0, 399), (878, 6176), (0, 30)], [], [], 0, 0, 173, [(0, .inr (3, (0, 480))), (1, .inr (0, (8, 0))), (2, .inr (0, (9, 0)))], [])
noncomputable def rxILAWK_21 (S0 : Nat → Int → Int) (ws : List Int) (S : Nat → Int → Int) (base i a v : Int) : Prop := rxILAWX_21 S0 ws S base i a v ∧ (rzCk S0 → rkMz S0 S)
noncomputable def rxmLAWK_21 (S0 : Nat → Int → Int) (ws : List Int) (S : Nat → Int → Int) (base i a v : Int) : Nat := rxmLAWX_21 S0 ws S base i a v
noncomputable def rxzLAWK_21 : rx_Z := ([(0, 0), (0, 0), (0, 0), (0, 0), (0, 0), (0, 0), (0, 0), (0, 0), (780, 5280), (0, 399), (879, 6177), (0, 1000)], [], [], 0, 0, 193, [(0, .inr (3, (0, 480))), (1, .inr (0, (8, 0))), (2, .inr (0, (9, 0)))], [.inr (0, (11, 0)), .inr (0, (10, 0)), .inr (3, (0, 482))])
noncomputable def rxILAWK_22 (S0 : Nat → Int → Int) (ws : List Int) (S : Nat → Int → Int) (base i a v : Int) : Prop := rxILAWX_22 S0 ws S base i a v ∧ (rzCk S0 → rkMz S0 S)
noncomputable def rxmLAWK_22 (S0 : Nat → Int → Int) (ws : List Int) (S : Nat → Int → Int) (base i a v : Int) : Nat := rxmLAWX_22 S0 ws S base i a v
noncomputable def rxzLAWK_22 : rx_Z := ([(0, 0), (0, 0), (0, 0), (0, 0), (0, 0), (0, 0), (0, 0), (0, 0), (780, 5280), (0, 399), (879, 6177), (0, 1000)], [], [], 0, 0, 194, [(0, .inr (3, (0, 480))), (1, .inr (0, (8, 0))), (2, .inr (0, (9, 0)))], [])
noncomputable def rxILAWK_23 (S0 : Nat → Int → Int) (ws : List Int) (S : Nat → Int → Int) (n3 : Int) : Prop := rxILAWX_23 S0 ws S n3 ∧ (rzCk S0 → rkMt S0 S)
noncomputable def rxmLAWK_23 (S0 : Nat → Int → Int) (ws : List Int) (S : Nat → Int → Int) (n3 : Int) : Nat := rxmLAWX_23 S0 ws S n3
noncomputable def rxzLAWK_23 : rx_Z := ([(0, 0), (0, 0), (0, 0), (0, 0), (0, 0), (0, 0), (0, 0), (0, 0), (0, 5)], [], [], 0, 0, 207, [(0, .inr (3, (0, 480)))], [.inr (0, (8, 0)), .inr (0, (0, 3)), .inr (3, (0, 482))])
noncomputable def rxoLAWK_0_0 : bx_HO := (([(0, 0), (0, 0), (0, 0), (0, 0), (0, 0), (0, 0), (0, 0), (0, 0), (0, 5)], [(3, (8, 0), (0, 6))], [(((0, 0), 1851192626986356798026460450737346142932482408387548938499129344000000), .inr (0, (8, 0))), (((0, 482), 3), .inr (0, (8, 0))), (((0, 480), 3), .inr (3, (0, 482))), (((0, 0), 1851192626986356797424340330377019318111018015026043177836478467000000), .inr (0, (0, 0))), (((0, 480), 0), .inr (0, (0, 0)))], 0, 0, 30, [(0, .inr (3, (0, 480)))], [.inr (0, (0, 0)), .inr (3, (0, 480))]), [], [], [(0, 0), (0, 0), (0, 0), (0, 0), (0, 0), (0, 0), (0, 0), (0, 0)], 1)
noncomputable def rxeLAWK_0_0 : rx_End × List (Nat × Int × Int) := (([(0, 0), (0, 0), (0, 0), (0, 0), (0, 0), (0, 0), (0, 0), (0, 0), (6, 6), ((-2147483648), 2147483647), ((-2147483648), 2147483647)], [], [(((0, 0), 1851192626986356798427873864310897359480125337295219445606187011000000), .inr (0, (10, 0))), (((0, 481), 5), .inr (0, (10, 0))), (((0, 0), 1851192626986356798427873864310897359480125337295219445606187008000000), .inr (0, (9, 0))), (((0, 480), 2), .inr (3, (0, 481))), (((0, 0), 1851192626986356797625047037163794926384839479479878431390302211000000), .inr (0, (0, (-5)))), (((0, 480), 1), .inr (0, (0, (-5)))), (((0, 0), 1851192626986356799029993984671224184301589730656725206267068419000000), .inr (0, (0, 0))), (((0, 480), 8), .inr (0, (0, 0))), (((0, 0), 1851192626986356798026460450737346142932482408387548938499129344000000), .inr (0, (8, 0))), (((0, 482), 3), .inr (0, (8, 0))), (((0, 480), 3), .inr (3, (0, 482))), (((0, 0), 1851192626986356797424340330377019318111018015026043177836478467000000), .inr (0, (0, 0))), (((0, 480), 0), .inr (0, (0, 0)))], some (.inr (0, (0, (-5))))), [])
noncomputable def rxoLAWK_2_0 : bx_HO := (([(0, 0), (0, 0), (0, 0), (0, 0), (0, 0), (0, 0), (0, 0), (0, 0)], [], [], 0, 0, 34, [(0, .inr (3, (0, 480)))], [.inr (3, (0, 480))]), [], [], [(0, 0), (0, 0), (0, 0), (0, 0), (0, 0), (0, 0), (0, 0), (0, 0)], 3)
noncomputable def rxoLAWK_4_0 : bx_HO := (([(0, 0), (0, 0), (0, 0), (0, 0), (0, 0), (0, 0), (0, 0), (0, 0), (0, 0), (0, 2)], [(3, (9, 0), (0, 3))], [(((0, 0), 1851192626986356799632114105031551009123054124018230966928539648000000), .inr (0, (9, 0))), (((0, 480), 11), .inr (0, (9, 0))), (((0, 0), 1851192626986356800234234225391877833944518517379736727590010880000000), .inr (0, (8, 0))), (((0, 480), 14), .inr (0, (8, 0)))], 0, 0, 65, [(0, .inr (3, (0, 480)))], [.inr (3, (0, 480))]), [], [], [(0, 0), (0, 0), (0, 0), (0, 0), (0, 0), (0, 0), (0, 0), (0, 0)], 10)
noncomputable def rxoLAWK_4_1 : bx_HO := (([(0, 0), (0, 0), (0, 0), (0, 0), (0, 0), (0, 0), (0, 0), (0, 0), (0, 0), (3, 3), ((-9223372036854775808), 9223372036854775807)], [(3, (10, 0), (0, 59))], [(((0, 0), 1851192626986356799832820811818326617396875588472066220482363392000000), .inr (1, (10, 0))), (((0, 480), 12), .inr (1, (10, 0))), (((0, 0), 1851192626986356799632114105031551009123054124018230966928539648000000), .inr (0, (9, 0))), (((0, 480), 11), .inr (0, (9, 0))), (((0, 0), 1851192626986356800234234225391877833944518517379736727590010880000000), .inr (0, (8, 0))), (((0, 480), 14), .inr (0, (8, 0)))], 0, 0, 65, [(0, .inr (3, (0, 480)))], [.inr (3, (0, 480))]), [], [], [(0, 0), (0, 0), (0, 0), (0, 0), (0, 0), (0, 0), (0, 0), (0, 0)], 10)
noncomputable def rxoLAWK_4_2 : bx_HO := (([(0, 0), (0, 0), (0, 0), (0, 0), (0, 0), (0, 0), (0, 0), (0, 0), (0, 0), (3, 3), (59, 59)], [], [(((0, 0), 1851192626986356799832820811818326617396875588472066220482363392000000), .inr (1, (10, 0))), (((0, 480), 12), .inr (1, (10, 0))), (((0, 0), 1851192626986356799632114105031551009123054124018230966928539648000000), .inr (0, (9, 0))), (((0, 480), 11), .inr (0, (9, 0))), (((0, 0), 1851192626986356800234234225391877833944518517379736727590010880000000), .inr (0, (8, 0))), (((0, 480), 14), .inr (0, (8, 0)))], 0, 0, 54, [(0, .inr (3, (0, 480)))], [.inr (3, (0, 480))]), [], [], [(0, 0), (0, 0), (0, 0), (0, 0), (0, 0), (0, 0), (0, 0), (0, 0)], 6)
noncomputable def rxoLAWK_4_3 : bx_HO := (([(0, 0), (0, 0), (0, 0), (0, 0), (0, 0), (0, 0), (0, 0), (0, 0), (1, 1)], [(3, (8, 0), (0, 0))], [(((0, 0), 1851192626986356800234234225391877833944518517379736727590010880000000), .inr (0, (8, 0))), (((0, 480), 14), .inr (0, (8, 0)))], 0, 0, 65, [(0, .inr (3, (0, 480)))], [.inr (3, (0, 480))]), [], [], [(0, 0), (0, 0), (0, 0), (0, 0), (0, 0), (0, 0), (0, 0), (0, 0)], 10)
noncomputable def rxoLAWK_5_0 : bx_HO := (([(0, 0), (0, 0), (0, 0), (0, 0), (0, 0), (0, 0), (0, 0), (0, 0), (0, 0), (0, 2)], [(3, (9, 0), (0, 3))], [(((0, 0), 1851192626986356799632114105031551009123054124018230966928539648000000), .inr (0, (9, 0))), (((0, 480), 11), .inr (0, (9, 0))), (((0, 0), 1851192626986356800234234225391877833944518517379736727590010880000000), .inr (0, (8, 0))), (((0, 480), 14), .inr (0, (8, 0)))], 0, 0, 65, [(0, .inr (3, (0, 480)))], [.inr (3, (0, 480))]), [], [], [(0, 0), (0, 0), (0, 0), (0, 0), (0, 0), (0, 0), (0, 0), (0, 0)], 10)
noncomputable def rxoLAWK_5_1 : bx_HO := (([(0, 0), (0, 0), (0, 0), (0, 0), (0, 0), (0, 0), (0, 0), (0, 0), (0, 0), (3, 3), ((-9223372036854775808), 9223372036854775807)], [(3, (10, 0), (0, 59))], [(((0, 0), 1851192626986356799832820811818326617396875588472066220482363392000000), .inr (1, (10, 0))), (((0, 480), 12), .inr (1, (10, 0))), (((0, 0), 1851192626986356799632114105031551009123054124018230966928539648000000), .inr (0, (9, 0))), (((0, 480), 11), .inr (0, (9, 0))), (((0, 0), 1851192626986356800234234225391877833944518517379736727590010880000000), .inr (0, (8, 0))), (((0, 480), 14), .inr (0, (8, 0)))], 0, 0, 65, [(0, .inr (3, (0, 480)))], [.inr (3, (0, 480))]), [], [], [(0, 0), (0, 0), (0, 0), (0, 0), (0, 0), (0, 0), (0, 0), (0, 0)], 10)
noncomputable def rxoLAWK_5_2 : bx_HO := (([(0, 0), (0, 0), (0, 0), (0, 0), (0, 0), (0, 0), (0, 0), (0, 0), (0, 0), (3, 3), (59, 59)], [], [(((0, 0), 1851192626986356799832820811818326617396875588472066220482363392000000), .inr (1, (10, 0))), (((0, 480), 12), .inr (1, (10, 0))), (((0, 0), 1851192626986356799632114105031551009123054124018230966928539648000000), .inr (0, (9, 0))), (((0, 480), 11), .inr (0, (9, 0))), (((0, 0), 1851192626986356800234234225391877833944518517379736727590010880000000), .inr (0, (8, 0))), (((0, 480), 14), .inr (0, (8, 0)))], 0, 0, 54, [(0, .inr (3, (0, 480)))], [.inr (3, (0, 480))]), [], [], [(0, 0), (0, 0), (0, 0), (0, 0), (0, 0), (0, 0), (0, 0), (0, 0)], 6)
noncomputable def rxoLAWK_5_3 : bx_HO := (([(0, 0), (0, 0), (0, 0), (0, 0), (0, 0), (0, 0), (0, 0), (0, 0), (1, 1)], [(3, (8, 0), (0, 0))], [(((0, 0), 1851192626986356800234234225391877833944518517379736727590010880000000), .inr (0, (8, 0))), (((0, 480), 14), .inr (0, (8, 0)))], 0, 0, 65, [(0, .inr (3, (0, 480)))], [.inr (3, (0, 480))]), [], [], [(0, 0), (0, 0), (0, 0), (0, 0), (0, 0), (0, 0), (0, 0), (0, 0)], 10)
noncomputable def rxoLAWK_7_0 : bx_HO := (([(0, 0), (0, 0), (0, 0), (0, 0), (0, 0), (0, 0), (0, 0), (0, 0)], [], [], 0, 0, 58, [(0, .inr (3, (0, 480)))], [.inr (3, (0, 480))]), [], [], [(0, 0), (0, 0), (0, 0), (0, 0), (0, 0), (0, 0), (0, 0), (0, 0)], 8)
noncomputable def rxoLAWK_9_0 : bx_HO := (([(0, 0), (0, 0), (0, 0), (0, 0), (0, 0), (0, 0), (0, 0), (0, 0)], [], [], 0, 0, 37, [(0, .inr (3, (0, 480)))], []), [], [], [(0, 0), (0, 0), (0, 0), (0, 0), (0, 0), (0, 0), (0, 0), (0, 0)], 5)
noncomputable def rxoLAWK_11_0 : bx_HO := (([(0, 0), (0, 0), (0, 0), (0, 0), (0, 0), (0, 0), (0, 0), (0, 0), (0, 0), (0, 6)], [], [(((0, 0), 1851192626986356798026460450737346142932482408387548938499129344000000), .inr (0, (9, 0))), (((0, 482), 3), .inr (0, (9, 0))), (((0, 480), 3), .inr (3, (0, 482))), (((0, 0), 1851192626986356800234234225391877833944518517379736727590010880000000), .inr (0, (8, 0))), (((0, 480), 14), .inr (0, (8, 0)))], 0, 0, 94, [(0, .inr (3, (0, 480)))], [.inr (0, (9, 0)), .inr (0, (0, 900)), .inr (0, (0, 780))]), [(9, 0, 5)], [], [(0, 0), (0, 0), (0, 0), (0, 0), (0, 0), (0, 0), (0, 0), (0, 0), (9, 0)], 12)
noncomputable def rxeLAWK_11_0 : rx_End × List (Nat × Int × Int) := (([(0, 0), (0, 0), (0, 0), (0, 0), (0, 0), (0, 0), (0, 0), (0, 0), (1, 1), ((-2147483648), 2147483647), ((-2147483648), 2147483647)], [(3, (8, 0), (0, 0))], [(((0, 0), 1851192626986356798628580571097672967753946801749054699160010755000000), .inr (0, (10, 0))), (((0, 481), 6), .inr (0, (10, 0))), (((0, 0), 1851192626986356798628580571097672967753946801749054699160010752000000), .inr (0, (9, 0))), (((0, 480), 2), .inr (3, (0, 481))), (((0, 0), 1851192626986356797625047037163794926384839479479878431390302211000000), .inr (0, (0, (-6)))), (((0, 480), 1), .inr (0, (0, (-6)))), (((0, 0), 1851192626986356800234234225391877833944518517379736727590010880000000), .inr (0, (8, 0))), (((0, 480), 14), .inr (0, (8, 0)))], some (.inr (0, (0, (-6))))), [])
noncomputable def rxoLAWK_12_0 : bx_HO := (([(0, 0), (0, 0), (0, 0), (0, 0), (0, 0), (0, 0), (0, 0), (0, 0), (0, 5), (0, 4500), (0, 12)], [(904, (9, 0), (8, 0))], [(((0, 0), 1851192626986356800635647638965429050492161446287407234697658368000000), .inr (0, (10, 0))), (((0, 480), 16), .inr (0, (10, 0))), (((0, 480), 3), .inr (3, (0, 482)))], 0, 0, 108, [(1, .inr (0, (9, 780))), (0, .inr (3, (0, 480)))], [.inr (0, (10, 0)), .inr (0, (9, 781)), .inr (3, (0, 482))]), [], [], [(0, 0), (0, 0), (0, 0), (0, 0), (0, 0), (0, 0), (0, 0), (0, 0), (9, 780), (9, 781), (10, 0)], 13)
noncomputable def rxoLAWK_14_0 : bx_HO := (([(0, 0), (0, 0), (0, 0), (0, 0), (0, 0), (0, 0), (0, 0), (0, 0), (780, 5280), (781, 5281), (0, 12)], [], [], 0, 0, 111, [(2, .inr (0, (0, 0))), (0, .inr (3, (0, 480))), (1, .inr (0, (8, 0)))], []), [], [], [(0, 0), (0, 0), (0, 0), (0, 0), (0, 0), (0, 0), (0, 0), (0, 0), (8, 0), (0, 0)], 15)
noncomputable def rxoLAWK_15_0 : bx_HO := (([(0, 0), (0, 0), (0, 0), (0, 0), (0, 0), (0, 0), (0, 0), (0, 0), (780, 5280), (0, 95), (0, 12), (1, 96), (782, 5377), (0, 400)], [(604462909807314587353097000000, (12, 0), (8, 2)), (0, (9, 0), (11, 0)), (12, (11, 0), (10, 0))], [(((0, 0), 1851192626986356797424367893248739914126558548369245151065145344000000), .inr (0, (13, 0))), (((0, 480), 17), .inr (3, (0, 486))), (((0, 480), 3), .inr (3, (0, 482))), (((0, 0), 1851192626986356800635647638965429050492161446287407234697658368000000), .inr (0, (10, 0))), (((0, 480), 16), .inr (0, (10, 0)))], 0, 0, 137, [(0, .inr (3, (0, 480))), (1, .inr (0, (8, 0))), (2, .inr (0, (9, 0)))], [.inr (0, (13, 0)), .inr (0, (12, 0)), .inr (3, (0, 482))]), [], [], [(0, 0), (0, 0), (0, 0), (0, 0), (0, 0), (0, 0), (0, 0), (0, 0), (8, 0), (9, 0), (12, 0), (13, 0)], 16)
noncomputable def rxoLAWK_15_1 : bx_HO := (([(0, 0), (0, 0), (0, 0), (0, 0), (0, 0), (0, 0), (0, 0), (0, 0), (780, 5280), (0, 96), (0, 12), (0, 96)], [(1, (11, 0), (9, 0)), (12, (11, 0), (10, 0))], [(((0, 0), 1851192626986356800635647638965429050492161446287407234697658368000000), .inr (0, (10, 0))), (((0, 480), 16), .inr (0, (10, 0)))], 0, 0, 146, [(2, .inr (0, (0, 0))), (0, .inr (3, (0, 480))), (1, .inr (0, (8, 0)))], []), [], [], [(0, 0), (0, 0), (0, 0), (0, 0), (0, 0), (0, 0), (0, 0), (0, 0), (8, 0), (0, 0)], 18)
noncomputable def rxoLAWK_17_0 : bx_HO := (([(0, 0), (0, 0), (0, 0), (0, 0), (0, 0), (0, 0), (0, 0), (0, 0), (780, 5280), (0, 95), (782, 5377), (0, 400)], [], [], 0, 0, 111, [(2, .inr (0, (9, 1))), (0, .inr (3, (0, 480))), (1, .inr (0, (8, 0)))], []), [], [], [(0, 0), (0, 0), (0, 0), (0, 0), (0, 0), (0, 0), (0, 0), (0, 0), (8, 0), (9, 1)], 15)
noncomputable def rxoLAWK_18_0 : bx_HO := (([(0, 0), (0, 0), (0, 0), (0, 0), (0, 0), (0, 0), (0, 0), (0, 0), (780, 5280), (0, 399), (1, 400), (0, 798), (878, 6176), (0, 30)], [(604462909807314587353099000000, (12, 0), (8, 98)), (6, (11, 0), (9, 0)), (0, (9, 0), (10, 0))], [(((0, 0), 1851192626986356797424367893248739914126558548369245151065735168000000), .inr (0, (13, 0))), (((0, 480), 19), .inr (3, (0, 487))), (((0, 480), 3), .inr (3, (0, 482))), (((0, 0), 1851192626986356801037061052538980267039804375195077741805305856000000), .inr (0, (10, 0))), (((0, 480), 18), .inr (0, (10, 0)))], 0, 0, 172, [(0, .inr (3, (0, 480))), (1, .inr (0, (8, 0))), (2, .inr (0, (9, 0)))], [.inr (0, (13, 0)), .inr (0, (12, 0)), .inr (3, (0, 482))]), [], [], [(0, 0), (0, 0), (0, 0), (0, 0), (0, 0), (0, 0), (0, 0), (0, 0), (8, 0), (9, 0), (12, 0), (13, 0)], 19)
noncomputable def rxoLAWK_18_1 : bx_HO := (([(0, 0), (0, 0), (0, 0), (0, 0), (0, 0), (0, 0), (0, 0), (0, 0), (780, 5280), (0, 400), (0, 400), (0, 6)], [(1, (10, 0), (9, 0))], [(((0, 0), 1851192626986356798026460450737346142932482408387548938499129344000000), .inr (0, (11, 0))), (((0, 482), 3), .inr (0, (11, 0))), (((0, 480), 3), .inr (3, (0, 482))), (((0, 0), 1851192626986356801037061052538980267039804375195077741805305856000000), .inr (0, (10, 0))), (((0, 480), 18), .inr (0, (10, 0)))], 0, 0, 207, [(0, .inr (3, (0, 480))), (1, .inr (0, (8, 0))), (2, .inr (0, (9, 0)))], [.inr (0, (11, 0)), .inr (0, (0, 3)), .inr (3, (0, 482))]), [(11, 0, 5)], [], [(0, 0), (0, 0), (0, 0), (0, 0), (0, 0), (0, 0), (0, 0), (0, 0), (11, 0)], 23)
noncomputable def rxoLAWK_20_0 : bx_HO := (([(0, 0), (0, 0), (0, 0), (0, 0), (0, 0), (0, 0), (0, 0), (0, 0), (780, 5280), (0, 399), (878, 6176), (0, 30), (0, 798), (878, 6176), (0, 1000)], [(604462909807314587353100000000, (13, 0), (8, 98)), (6, (12, 0), (9, 0))], [(((0, 0), 1851192626986356797424367893248739914126558548369245151066324992000000), .inr (0, (14, 0))), (((0, 480), 20), .inr (3, (0, 488))), (((0, 480), 3), .inr (3, (0, 482)))], 0, 0, 193, [(0, .inr (3, (0, 480))), (1, .inr (0, (8, 0))), (2, .inr (0, (9, 0)))], [.inr (0, (14, 0)), .inr (0, (13, 1)), .inr (3, (0, 482))]), [], [], [(0, 0), (0, 0), (0, 0), (0, 0), (0, 0), (0, 0), (0, 0), (0, 0), (8, 0), (9, 0), (13, 1), (14, 0)], 21)
noncomputable def rxoLAWK_22_0 : bx_HO := (([(0, 0), (0, 0), (0, 0), (0, 0), (0, 0), (0, 0), (0, 0), (0, 0), (780, 5280), (0, 399), (879, 6177), (0, 1000)], [], [], 0, 0, 146, [(2, .inr (0, (9, 1))), (0, .inr (3, (0, 480))), (1, .inr (0, (8, 0)))], []), [], [], [(0, 0), (0, 0), (0, 0), (0, 0), (0, 0), (0, 0), (0, 0), (0, 0), (8, 0), (9, 1)], 18)
noncomputable def rxeLAWK_23_0 : rx_End × List (Nat × Int × Int) := (([(0, 0), (0, 0), (0, 0), (0, 0), (0, 0), (0, 0), (0, 0), (0, 0), (0, 5)], [], [(((0, 0), 1851192626986356797625047037163794926384839479479878431390302211000000), .inr (0, (0, 0))), (((0, 480), 1), .inr (0, (0, 0))), (((0, 480), 3), .inr (3, (0, 482))), (((0, 0), 1851192626986356798026460450737346142932482408387548938499129347000000), .inr (0, (8, 1))), (((0, 482), 3), .inr (0, (8, 1)))], some (.inr (0, (8, 0)))), [])
noncomputable def rxYLAWK : List bx_HE := [(rxzLAWK_0, [rxoLAWK_0_0], [rxeLAWK_0_0]), (rxzLAWK_1, [], []), (rxzLAWK_2, [rxoLAWK_2_0], []), (rxzLAWK_3, [], []), (rxzLAWK_4, [rxoLAWK_4_0, rxoLAWK_4_1, rxoLAWK_4_2, rxoLAWK_4_3], []), (rxzLAWK_5, [rxoLAWK_5_0, rxoLAWK_5_1, rxoLAWK_5_2, rxoLAWK_5_3], []), (rxzLAWK_6, [], []), (rxzLAWK_7, [rxoLAWK_7_0], []), (rxzLAWK_8, [], []), (rxzLAWK_9, [rxoLAWK_9_0], []), (rxzLAWK_10, [], []), (rxzLAWK_11, [rxoLAWK_11_0], [rxeLAWK_11_0]), (rxzLAWK_12, [rxoLAWK_12_0], []), (rxzLAWK_13, [], []), (rxzLAWK_14, [rxoLAWK_14_0], []), (rxzLAWK_15, [rxoLAWK_15_0, rxoLAWK_15_1], []), (rxzLAWK_16, [], []), (rxzLAWK_17, [rxoLAWK_17_0], []), (rxzLAWK_18, [rxoLAWK_18_0, rxoLAWK_18_1], []), (rxzLAWK_19, [], []), (rxzLAWK_20, [rxoLAWK_20_0], []), (rxzLAWK_21, [], []), (rxzLAWK_22, [rxoLAWK_22_0], []), (rxzLAWK_23, [], [rxeLAWK_23_0])]
noncomputable def rxULAWK (q : bx_HE) : Bool := Nat.beq (rx_zpc q.1) 30 || Nat.beq (rx_zpc q.1) 34 || Nat.beq (rx_zpc q.1) 54 || Nat.beq (rx_zpc q.1) 58 || Nat.beq (rx_zpc q.1) 65 || Nat.beq (rx_zpc q.1) 108 || Nat.beq (rx_zpc q.1) 137 || Nat.beq (rx_zpc q.1) 172 || Nat.beq (rx_zpc q.1) 193
noncomputable def rxYBLAWK : bx_B := (rxV, rxNP, rxDmf, bx_mdH rxC242.2.2.1)
set_option maxRecDepth 100000 in
theorem rxYcLAWK : bx_chkH rxYBLAWK rxM242 rxC242 rxYLAWK (rxULAWK, fun cut z => rx_ex2 (rxCT rxYBLAWK rxCnE) cut 30000 rxC242.2.2.2.1 242 z) = true := by decide +kernel
noncomputable def rxILAWK (S0 : Nat → Int → Int) (ws : List Int) (i : Nat) : bx_SP := fun S r => match i with | 0 => rxILAWK_0 S0 ws S | 1 => rxILAWK_1 S0 ws S | 2 => rxILAWK_2 S0 ws S | 3 => rxILAWK_3 S0 ws S | 4 => rxILAWK_4 S0 ws S | 5 => rxILAWK_5 S0 ws S | 6 => rxILAWK_6 S0 ws S | 7 => rxILAWK_7 S0 ws S | 8 => rxILAWK_8 S0 ws S | 9 => rxILAWK_9 S0 ws S | 10 => rxILAWK_10 S0 ws S | 11 => rxILAWK_11 S0 ws S | 12 => rxILAWK_12 S0 ws S (r 8) | 13 => rxILAWK_13 S0 ws S (r 8) (r 9) (r 10) | 14 => rxILAWK_14 S0 ws S (r 8) (r 9) (r 10) | 15 => rxILAWK_15 S0 ws S (r 8) (r 9) | 16 => rxILAWK_16 S0 ws S (r 8) (r 9) (r 10) (r 11) | 17 => rxILAWK_17 S0 ws S (r 8) (r 9) (r 10) (r 11) | 18 => rxILAWK_18 S0 ws S (r 8) (r 9) | 19 => rxILAWK_19 S0 ws S (r 8) (r 9) (r 10) (r 11) | 20 => rxILAWK_20 S0 ws S (r 8) (r 9) (r 10) (r 11) | 21 => rxILAWK_21 S0 ws S (r 8) (r 9) (r 10) (r 11) | 22 => rxILAWK_22 S0 ws S (r 8) (r 9) (r 10) (r 11) | 23 => rxILAWK_23 S0 ws S (r 8) | _ => False
noncomputable def rxmLAWK (S0 : Nat → Int → Int) (ws : List Int) (i : Nat) (S : Nat → Int → Int) (r : Nat → Int) : Nat := match i with | 0 => rxmLAWK_0 S0 ws S | 1 => rxmLAWK_1 S0 ws S | 2 => rxmLAWK_2 S0 ws S | 3 => rxmLAWK_3 S0 ws S | 4 => rxmLAWK_4 S0 ws S | 5 => rxmLAWK_5 S0 ws S | 6 => rxmLAWK_6 S0 ws S | 7 => rxmLAWK_7 S0 ws S | 8 => rxmLAWK_8 S0 ws S | 9 => rxmLAWK_9 S0 ws S | 10 => rxmLAWK_10 S0 ws S | 11 => rxmLAWK_11 S0 ws S | 12 => rxmLAWK_12 S0 ws S (r 8) | 13 => rxmLAWK_13 S0 ws S (r 8) (r 9) (r 10) | 14 => rxmLAWK_14 S0 ws S (r 8) (r 9) (r 10) | 15 => rxmLAWK_15 S0 ws S (r 8) (r 9) | 16 => rxmLAWK_16 S0 ws S (r 8) (r 9) (r 10) (r 11) | 17 => rxmLAWK_17 S0 ws S (r 8) (r 9) (r 10) (r 11) | 18 => rxmLAWK_18 S0 ws S (r 8) (r 9) | 19 => rxmLAWK_19 S0 ws S (r 8) (r 9) (r 10) (r 11) | 20 => rxmLAWK_20 S0 ws S (r 8) (r 9) (r 10) (r 11) | 21 => rxmLAWK_21 S0 ws S (r 8) (r 9) (r 10) (r 11) | 22 => rxmLAWK_22 S0 ws S (r 8) (r 9) (r 10) (r 11) | 23 => rxmLAWK_23 S0 ws S (r 8) | _ => 0
noncomputable def rxPLAWK (S0 : Nat → Int → Int) (ws : List Int) : Prop := rxPLAWX S0 ws
noncomputable def rxPSLAWK (S0 : Nat → Int → Int) (ws : List Int) (S : Nat → Int → Int) (w : Option Int) : Prop := rxPSLAWX S0 ws S w ∧ (rzCk S0 → rkLw S0 S)
theorem rxkLAWK_1 {S0 : Nat → Int → Int} {ws : List Int} {S : Nat → Int → Int} (hP : rxPLAWK S0 ws) (hin : bx_same rxL (bx_mdl rxC242.2.2.1) S0 S) (I0 : bx_Inv rxL S) (hinv : rxILAWK_1 S0 ws S)  : rxPBXW S [480, 0] ∧ ∀ (S_p : Nat → Int → Int), rxPSBXW S [480, 0] S_p none → bx_Inv rxL S_p → bx_same rxL (bx_mdl rxCBXW.2.2.1) S S_p → rxILAWK_2 S0 ws S_p ∧ rxmLAWK_2 S0 ws S_p < rxmLAWK_1 S0 ws S := by
  obtain ⟨hI, hx⟩ := hinv
  have g_ := rxkLAWX_1 hP hin I0 hI
  exact ⟨g_.1, fun S_p hq I1 hsm => ⟨⟨(g_.2 S_p hq I1 hsm).1, (by
    intro c z
    obtain ⟨g1, g13, gd, ge, g21⟩ := hq.2.2
    have b := hI.2
    rw [b.1, b.2.1] at ge
    obtain ⟨-, -, o14, o16, -⟩ := hq.2.1
    exact rkMp_0 o16 ge g21)⟩, (g_.2 S_p hq I1 hsm).2⟩⟩
theorem rxsLAWK_1 {X : (Nat → Int → Int) → Prop} {S0 : Nat → Int → Int} {ws : List Int} (hP : rxPLAWK S0 ws) : rx_obK X S0 rxC242.2.2.1 rxCBXW.2.2.1 (rxILAWK S0 ws) (rxmLAWK S0 ws) 1 2 rxzLAWK_1 rxzLAWK_2 [.inr (3, (0, 480)), .inr (0, (0, 0))] none rxPBXW rxPSBXW := by
  intro S r hinv hXS I0 hin hs_ hf_
  have b_ := bx_bds_sat hs_
  have f_ := bx_fcl_ok hs_.1 hf_
  have g := rxkLAWK_1 hP hin I0 hinv 
  have ea : List.map (bx_num r) [.inr (3, (0, 480)), .inr (0, (0, 0))] = [480, 0] := by
    simp only [List.map_cons, List.map_nil, bx_xv_ok hs_.1]
    rfl
  rw [ea]
  refine ⟨g.1, fun S_p w r_p hPS hX_p I1 hsm hr hw hs_p => ?_⟩
  have hw : w = none := hPS.1
  subst hw
  have g2 := g.2 S_p hPS I1 hsm
  show rxILAWK_2 S0 ws S_p ∧ rxmLAWK_2 S0 ws S_p < _
  exact g2
theorem rxkLAWK_3 {S0 : Nat → Int → Int} {ws : List Int} {S : Nat → Int → Int} (hP : rxPLAWK S0 ws) (hin : bx_same rxL (bx_mdl rxC242.2.2.1) S0 S) (I0 : bx_Inv rxL S) (hinv : rxILAWK_3 S0 ws S)  : rxPRLK S [480] ∧ ∀ (S_p : Nat → Int → Int), rxPSRLK S [480] S_p none → bx_Inv rxL S_p → bx_same rxL (bx_mdl rxCRLK.2.2.1) S S_p → rxILAWK_4 S0 ws S_p ∧ rxmLAWK_4 S0 ws S_p < rxmLAWK_3 S0 ws S := by
  obtain ⟨hI, hx⟩ := hinv
  have g_ := rxkLAWX_3 hP hin I0 hI
  exact ⟨g_.1, fun S_p hq I1 hsm => ⟨⟨(g_.2 S_p hq.2.1 I1 hsm).1, (by
    intro c z
    have z0 : S 480 14 = 0 := hI.1.2.2.1
    have h := hI.2 c
    obtain ⟨q1, q2, q3, q4, q5, q6⟩ := rzRj_q h z0
    have x := hq.2.1.2.2 q1 q2 (by unfold rzWr; rw [q3]; exact if_neg (by decide))
    exact rkMq_of (hx c z0) (fun k k0 k1 => absurd k1 (by have := hI.1.2.2.2.1; omega)) q4 q5 (rxBox16 I0).1 (hq.2.2 q1 q2 (by unfold rzWr; rw [q3]; exact if_neg (by decide)) z) x z (hq.2.1.2.1.2.2 z) fun r p pr => by
      rcases p with p | p
      · exact ⟨of_decide_eq_true p.1, p.2⟩
      · rw [p.2] at pr
        cases pr)⟩, (g_.2 S_p hq.2.1 I1 hsm).2⟩⟩
theorem rxsLAWK_3 {X : (Nat → Int → Int) → Prop} {S0 : Nat → Int → Int} {ws : List Int} (hP : rxPLAWK S0 ws) : rx_obK X S0 rxC242.2.2.1 rxCRLK.2.2.1 (rxILAWK S0 ws) (rxmLAWK S0 ws) 3 4 rxzLAWK_3 rxzLAWK_4 [.inr (3, (0, 480))] none rxPRLK rxPSRLK := by
  intro S r hinv hXS I0 hin hs_ hf_
  have b_ := bx_bds_sat hs_
  have f_ := bx_fcl_ok hs_.1 hf_
  have g := rxkLAWK_3 hP hin I0 hinv 
  have ea : List.map (bx_num r) [.inr (3, (0, 480))] = [480] := by
    simp only [List.map_cons, List.map_nil, bx_xv_ok hs_.1]
    rfl
  rw [ea]
  refine ⟨g.1, fun S_p w r_p hPS hX_p I1 hsm hr hw hs_p => ?_⟩
  have hw : w = none := hPS.1
  subst hw
  have g2 := g.2 S_p hPS I1 hsm
  show rxILAWK_4 S0 ws S_p ∧ rxmLAWK_4 S0 ws S_p < _
  exact g2
theorem rxkLAWK_6 {S0 : Nat → Int → Int} {ws : List Int} {S : Nat → Int → Int} (hP : rxPLAWK S0 ws) (hin : bx_same rxL (bx_mdl rxC242.2.2.1) S0 S) (I0 : bx_Inv rxL S) (hinv : rxILAWK_6 S0 ws S)  : rxPNXX S [480] ∧ ∀ (S_p : Nat → Int → Int), rxPSNXX S [480] S_p none → bx_Inv rxL S_p → bx_same rxL (bx_mdl rxCNXX.2.2.1) S S_p → rxILAWK_7 S0 ws S_p ∧ rxmLAWK_7 S0 ws S_p < rxmLAWK_6 S0 ws S := by
  obtain ⟨hI, hx⟩ := hinv
  have g_ := rxkLAWX_6 hP hin I0 hI
  exact ⟨g_.1, fun S_p hq I1 hsm => ⟨⟨(g_.2 S_p hq I1 hsm).1, (by
    intro c z
    have z0 : S 480 14 = 0 := hI.1.2.2.2
    have h := hI.2.1 c
    obtain ⟨q1, q2, q3, q4, q5, q6⟩ := rzRj_q h z0
    have hs := hI.2.2 z0 q2
    rw [q4, q5] at hs
    have n9 := (rzNw_nx q2 (rzKr_of hsm (by decide +kernel)) hq.2.2.1 hq.2.2.2).2.2
    rw [q4, q5] at n9
    exact rkMp_of (hx c z0) hs n9 (hsm 480 21 (by decide) (by decide) (by decide +kernel)) (hsm 480 16 (by decide) (by decide) (by decide +kernel)) (rkPm_sm hsm (by decide +kernel) (fun j x y => (rx_sameR hsm (p := 486) (tc := 0) (n := 96) (g := 67) (j := j) rfl (by omega) (by decide +kernel) (by decide +kernel) x y)) (hI.1.2.1.2 z0).2 (rxBox16 I0).2 (rxBox18 I0).2))⟩, (g_.2 S_p hq I1 hsm).2⟩⟩
theorem rxsLAWK_6 {X : (Nat → Int → Int) → Prop} {S0 : Nat → Int → Int} {ws : List Int} (hP : rxPLAWK S0 ws) : rx_obK X S0 rxC242.2.2.1 rxCNXX.2.2.1 (rxILAWK S0 ws) (rxmLAWK S0 ws) 6 7 rxzLAWK_6 rxzLAWK_7 [.inr (3, (0, 480))] none rxPNXX rxPSNXX := by
  intro S r hinv hXS I0 hin hs_ hf_
  have b_ := bx_bds_sat hs_
  have f_ := bx_fcl_ok hs_.1 hf_
  have g := rxkLAWK_6 hP hin I0 hinv 
  have ea : List.map (bx_num r) [.inr (3, (0, 480))] = [480] := by
    simp only [List.map_cons, List.map_nil, bx_xv_ok hs_.1]
    rfl
  rw [ea]
  refine ⟨g.1, fun S_p w r_p hPS hX_p I1 hsm hr hw hs_p => ?_⟩
  have hw : w = none := hPS.1
  subst hw
  have g2 := g.2 S_p hPS I1 hsm
  show rxILAWK_7 S0 ws S_p ∧ rxmLAWK_7 S0 ws S_p < _
  exact g2
theorem rxkLAWK_8 {S0 : Nat → Int → Int} {ws : List Int} {S : Nat → Int → Int} (hP : rxPLAWK S0 ws) (hin : bx_same rxL (bx_mdl rxC242.2.2.1) S0 S) (I0 : bx_Inv rxL S) (hinv : rxILAWK_8 S0 ws S)  : rxPRLK S [480] ∧ ∀ (S_p : Nat → Int → Int), rxPSRLK S [480] S_p none → bx_Inv rxL S_p → bx_same rxL (bx_mdl rxCRLK.2.2.1) S S_p → rxILAWK_9 S0 ws S_p ∧ rxmLAWK_9 S0 ws S_p < rxmLAWK_8 S0 ws S := by
  obtain ⟨hI, hx⟩ := hinv
  have g_ := rxkLAWX_8 hP hin I0 hI
  exact ⟨g_.1, fun S_p hq I1 hsm => ⟨⟨(g_.2 S_p hq.2.1 I1 hsm).1, (by
    intro c z
    have z0 : S 480 14 = 0 := hI.1.2.2.2
    have h := hI.2 c
    obtain ⟨q1, q2, q3, q4, q5, q6⟩ := rzRj_q h z0
    have x := hq.2.1.2.2 q1 q2 (by unfold rzWr; rw [q3]; exact if_neg (by decide))
    exact rkMq_of (hx c z0) (hI.1.2.1.2 z0).2 q4 q5 (rxBox16 I0).1 (hq.2.2 q1 q2 (by unfold rzWr; rw [q3]; exact if_neg (by decide)) z) x z (hq.2.1.2.1.2.2 z) fun r p pr => by
      rcases p with p | p
      · exact ⟨of_decide_eq_true p.1, p.2⟩
      · rw [p.2] at pr
        cases pr)⟩, (g_.2 S_p hq.2.1 I1 hsm).2⟩⟩
theorem rxsLAWK_8 {X : (Nat → Int → Int) → Prop} {S0 : Nat → Int → Int} {ws : List Int} (hP : rxPLAWK S0 ws) : rx_obK X S0 rxC242.2.2.1 rxCRLK.2.2.1 (rxILAWK S0 ws) (rxmLAWK S0 ws) 8 9 rxzLAWK_8 rxzLAWK_9 [.inr (3, (0, 480))] none rxPRLK rxPSRLK := by
  intro S r hinv hXS I0 hin hs_ hf_
  have b_ := bx_bds_sat hs_
  have f_ := bx_fcl_ok hs_.1 hf_
  have g := rxkLAWK_8 hP hin I0 hinv 
  have ea : List.map (bx_num r) [.inr (3, (0, 480))] = [480] := by
    simp only [List.map_cons, List.map_nil, bx_xv_ok hs_.1]
    rfl
  rw [ea]
  refine ⟨g.1, fun S_p w r_p hPS hX_p I1 hsm hr hw hs_p => ?_⟩
  have hw : w = none := hPS.1
  subst hw
  have g2 := g.2 S_p hPS I1 hsm
  show rxILAWK_9 S0 ws S_p ∧ rxmLAWK_9 S0 ws S_p < _
  exact g2
theorem rxkLAWK_10 {S0 : Nat → Int → Int} {ws : List Int} {S : Nat → Int → Int} (hP : rxPLAWK S0 ws) (hin : bx_same rxL (bx_mdl rxC242.2.2.1) S0 S) (I0 : bx_Inv rxL S) (hinv : rxILAWK_10 S0 ws S)  : rxPETW S [480] ∧ ∀ (S_p : Nat → Int → Int), rxPSETW S [480] S_p none → bx_Inv rxL S_p → bx_same rxL (bx_mdl rxCETW.2.2.1) S S_p → rxILAWK_11 S0 ws S_p ∧ rxmLAWK_11 S0 ws S_p < rxmLAWK_10 S0 ws S := by
  obtain ⟨hI, hx⟩ := hinv
  have g_ := rxkLAWX_10 hP hin I0 hI
  exact ⟨g_.1, fun S_p hq I1 hsm => ⟨⟨(g_.2 S_p hq I1 hsm).1, (by
    intro c z
    by_cases z0 : S 480 14 = 0
    · have h := hI.2.1 c
      obtain ⟨q1, q2, q3, q4, q5, q6⟩ := rzRj_q h z0
      have hs := hI.2.2 z0 q2
      rw [q4, q5] at hs
      exact rkMz_of (hx c z0) hs (hsm 480 16 (by decide) (by decide) (by decide +kernel)) (rkPm_sm hsm (by decide +kernel) (fun j x y => (rx_sameR hsm (p := 486) (tc := 0) (n := 96) (g := 67) (j := j) rfl (by omega) (by decide +kernel) (by decide +kernel) x y)) (hI.1.2.1.2 z0).2 (rxBox16 I0).2 (rxBox18 I0).2)
    · exact absurd z (hq.2.2.1.2 z0).1)⟩, (g_.2 S_p hq I1 hsm).2⟩⟩
theorem rxsLAWK_10 {X : (Nat → Int → Int) → Prop} {S0 : Nat → Int → Int} {ws : List Int} (hP : rxPLAWK S0 ws) : rx_obK X S0 rxC242.2.2.1 rxCETW.2.2.1 (rxILAWK S0 ws) (rxmLAWK S0 ws) 10 11 rxzLAWK_10 rxzLAWK_11 [.inr (3, (0, 480))] none rxPETW rxPSETW := by
  intro S r hinv hXS I0 hin hs_ hf_
  have b_ := bx_bds_sat hs_
  have f_ := bx_fcl_ok hs_.1 hf_
  have g := rxkLAWK_10 hP hin I0 hinv 
  have ea : List.map (bx_num r) [.inr (3, (0, 480))] = [480] := by
    simp only [List.map_cons, List.map_nil, bx_xv_ok hs_.1]
    rfl
  rw [ea]
  refine ⟨g.1, fun S_p w r_p hPS hX_p I1 hsm hr hw hs_p => ?_⟩
  have hw : w = none := hPS.1
  subst hw
  have g2 := g.2 S_p hPS I1 hsm
  show rxILAWK_11 S0 ws S_p ∧ rxmLAWK_11 S0 ws S_p < _
  exact g2
theorem rxtLAWK_13 {S0 : Nat → Int → Int} {ws : List Int} {S : Nat → Int → Int} {base a v : Int} (hP : rxPLAWK S0 ws) (hin : bx_same rxL (bx_mdl rxC242.2.2.1) S0 S) (I0 : bx_Inv rxL S) (hinv : rxILAWK_13 S0 ws S base a v) (l8 : 780 ≤ base) (u8 : base ≤ 5280) (l9 : 781 ≤ a) (u9 : a ≤ 5281) (l10 : 0 ≤ v) (u10 : v ≤ 12) : bx_okT rxL (rxL.2.2.1 482 a) v ∧ rxILAWK_14 S0 ws (bx_up S 482 a v) base a v ∧ rxmLAWK_14 S0 ws (bx_up S 482 a v) base a v < rxmLAWK_13 S0 ws S base a v := by
  obtain ⟨hI, hx⟩ := hinv
  obtain ⟨a_, c_, d_⟩ := rxtLAWX_13 hP hin I0 hI l8 u8 l9 u9 l10 u10
  exact ⟨a_, ⟨c_, (by
    intro c
    exact rkMz_ne (hx c) ((bx_up_ne (by omega))) (fun j => (bx_up_ne (by omega))) (fun j => ⟨(bx_up_ne (by omega)), (bx_up_ne (by omega))⟩))⟩, d_⟩
theorem rxsLAWK_13 {X : (Nat → Int → Int) → Prop} {S0 : Nat → Int → Int} {ws : List Int} (hP : rxPLAWK S0 ws) (hX : ∀ S S1 : Nat → Int → Int, X S → bx_same rxL (bx_mdl rxC242.2.2.1) S S1 → X S1) : rx_obS X S0 rxC242.2.2.1 (rxILAWK S0 ws) (rxmLAWK S0 ws) 13 14 rxzLAWK_13 482 9 10 := by
  intro S r hinv hXS I0 hin hs_ hf_
  have b_ := bx_bds_sat hs_
  have f_ := bx_fcl_ok hs_.1 hf_
  obtain ⟨⟨l8, u8⟩, ⟨l9, u9⟩, ⟨l10, u10⟩, -⟩ := b_
  have g := rxtLAWK_13 hP hin I0 hinv l8 u8 l9 u9 l10 u10
  exact ⟨g.1, g.2.1, g.2.2, hX _ _ hXS (rx_same_upR (fun _ _ _ _ _ => rfl) (tc := 0) (n := 6180) (g := 63) rfl (by decide +kernel) l9 u9), rx_same_upR hin (tc := 0) (n := 6180) (g := 63) rfl (by decide +kernel) l9 u9⟩
theorem rxtLAWK_16 {S0 : Nat → Int → Int} {ws : List Int} {S : Nat → Int → Int} {base i a v : Int} (hP : rxPLAWK S0 ws) (hin : bx_same rxL (bx_mdl rxC242.2.2.1) S0 S) (I0 : bx_Inv rxL S) (hinv : rxILAWK_16 S0 ws S base i a v) (l8 : 780 ≤ base) (u8 : base ≤ 5280) (l9 : 0 ≤ i) (u9 : i ≤ 95) (l10 : 782 ≤ a) (u10 : a ≤ 5377) (l11 : 0 ≤ v) (u11 : v ≤ 400) : bx_okT rxL (rxL.2.2.1 482 a) v ∧ rxILAWK_17 S0 ws (bx_up S 482 a v) base i a v ∧ rxmLAWK_17 S0 ws (bx_up S 482 a v) base i a v < rxmLAWK_16 S0 ws S base i a v := by
  obtain ⟨hI, hx⟩ := hinv
  obtain ⟨a_, c_, d_⟩ := rxtLAWX_16 hP hin I0 hI l8 u8 l9 u9 l10 u10 l11 u11
  exact ⟨a_, ⟨c_, (by
    intro c
    exact rkMz_ne (hx c) ((bx_up_ne (by omega))) (fun j => (bx_up_ne (by omega))) (fun j => ⟨(bx_up_ne (by omega)), (bx_up_ne (by omega))⟩))⟩, d_⟩
theorem rxsLAWK_16 {X : (Nat → Int → Int) → Prop} {S0 : Nat → Int → Int} {ws : List Int} (hP : rxPLAWK S0 ws) (hX : ∀ S S1 : Nat → Int → Int, X S → bx_same rxL (bx_mdl rxC242.2.2.1) S S1 → X S1) : rx_obS X S0 rxC242.2.2.1 (rxILAWK S0 ws) (rxmLAWK S0 ws) 16 17 rxzLAWK_16 482 10 11 := by
  intro S r hinv hXS I0 hin hs_ hf_
  have b_ := bx_bds_sat hs_
  have f_ := bx_fcl_ok hs_.1 hf_
  obtain ⟨⟨l8, u8⟩, ⟨l9, u9⟩, ⟨l10, u10⟩, ⟨l11, u11⟩, -⟩ := b_
  have g := rxtLAWK_16 hP hin I0 hinv l8 u8 l9 u9 l10 u10 l11 u11
  exact ⟨g.1, g.2.1, g.2.2, hX _ _ hXS (rx_same_upR (fun _ _ _ _ _ => rfl) (tc := 0) (n := 6180) (g := 63) rfl (by decide +kernel) l10 u10), rx_same_upR hin (tc := 0) (n := 6180) (g := 63) rfl (by decide +kernel) l10 u10⟩
theorem rxtLAWK_19 {S0 : Nat → Int → Int} {ws : List Int} {S : Nat → Int → Int} {base i a v : Int} (hP : rxPLAWK S0 ws) (hin : bx_same rxL (bx_mdl rxC242.2.2.1) S0 S) (I0 : bx_Inv rxL S) (hinv : rxILAWK_19 S0 ws S base i a v) (l8 : 780 ≤ base) (u8 : base ≤ 5280) (l9 : 0 ≤ i) (u9 : i ≤ 399) (l10 : 878 ≤ a) (u10 : a ≤ 6176) (l11 : 0 ≤ v) (u11 : v ≤ 30) : bx_okT rxL (rxL.2.2.1 482 a) v ∧ rxILAWK_20 S0 ws (bx_up S 482 a v) base i a v ∧ rxmLAWK_20 S0 ws (bx_up S 482 a v) base i a v < rxmLAWK_19 S0 ws S base i a v := by
  obtain ⟨hI, hx⟩ := hinv
  obtain ⟨a_, c_, d_⟩ := rxtLAWX_19 hP hin I0 hI l8 u8 l9 u9 l10 u10 l11 u11
  exact ⟨a_, ⟨c_, (by
    intro c
    exact rkMz_ne (hx c) ((bx_up_ne (by omega))) (fun j => (bx_up_ne (by omega))) (fun j => ⟨(bx_up_ne (by omega)), (bx_up_ne (by omega))⟩))⟩, d_⟩
theorem rxsLAWK_19 {X : (Nat → Int → Int) → Prop} {S0 : Nat → Int → Int} {ws : List Int} (hP : rxPLAWK S0 ws) (hX : ∀ S S1 : Nat → Int → Int, X S → bx_same rxL (bx_mdl rxC242.2.2.1) S S1 → X S1) : rx_obS X S0 rxC242.2.2.1 (rxILAWK S0 ws) (rxmLAWK S0 ws) 19 20 rxzLAWK_19 482 10 11 := by
  intro S r hinv hXS I0 hin hs_ hf_
  have b_ := bx_bds_sat hs_
  have f_ := bx_fcl_ok hs_.1 hf_
  obtain ⟨⟨l8, u8⟩, ⟨l9, u9⟩, ⟨l10, u10⟩, ⟨l11, u11⟩, -⟩ := b_
  have g := rxtLAWK_19 hP hin I0 hinv l8 u8 l9 u9 l10 u10 l11 u11
  exact ⟨g.1, g.2.1, g.2.2, hX _ _ hXS (rx_same_upR (fun _ _ _ _ _ => rfl) (tc := 0) (n := 6180) (g := 63) rfl (by decide +kernel) l10 u10), rx_same_upR hin (tc := 0) (n := 6180) (g := 63) rfl (by decide +kernel) l10 u10⟩
theorem rxtLAWK_21 {S0 : Nat → Int → Int} {ws : List Int} {S : Nat → Int → Int} {base i a v : Int} (hP : rxPLAWK S0 ws) (hin : bx_same rxL (bx_mdl rxC242.2.2.1) S0 S) (I0 : bx_Inv rxL S) (hinv : rxILAWK_21 S0 ws S base i a v) (l8 : 780 ≤ base) (u8 : base ≤ 5280) (l9 : 0 ≤ i) (u9 : i ≤ 399) (l10 : 879 ≤ a) (u10 : a ≤ 6177) (l11 : 0 ≤ v) (u11 : v ≤ 1000) : bx_okT rxL (rxL.2.2.1 482 a) v ∧ rxILAWK_22 S0 ws (bx_up S 482 a v) base i a v ∧ rxmLAWK_22 S0 ws (bx_up S 482 a v) base i a v < rxmLAWK_21 S0 ws S base i a v := by
  obtain ⟨hI, hx⟩ := hinv
  obtain ⟨a_, c_, d_⟩ := rxtLAWX_21 hP hin I0 hI l8 u8 l9 u9 l10 u10 l11 u11
  exact ⟨a_, ⟨c_, (by
    intro c
    exact rkMz_ne (hx c) ((bx_up_ne (by omega))) (fun j => (bx_up_ne (by omega))) (fun j => ⟨(bx_up_ne (by omega)), (bx_up_ne (by omega))⟩))⟩, d_⟩
theorem rxsLAWK_21 {X : (Nat → Int → Int) → Prop} {S0 : Nat → Int → Int} {ws : List Int} (hP : rxPLAWK S0 ws) (hX : ∀ S S1 : Nat → Int → Int, X S → bx_same rxL (bx_mdl rxC242.2.2.1) S S1 → X S1) : rx_obS X S0 rxC242.2.2.1 (rxILAWK S0 ws) (rxmLAWK S0 ws) 21 22 rxzLAWK_21 482 10 11 := by
  intro S r hinv hXS I0 hin hs_ hf_
  have b_ := bx_bds_sat hs_
  have f_ := bx_fcl_ok hs_.1 hf_
  obtain ⟨⟨l8, u8⟩, ⟨l9, u9⟩, ⟨l10, u10⟩, ⟨l11, u11⟩, -⟩ := b_
  have g := rxtLAWK_21 hP hin I0 hinv l8 u8 l9 u9 l10 u10 l11 u11
  exact ⟨g.1, g.2.1, g.2.2, hX _ _ hXS (rx_same_upR (fun _ _ _ _ _ => rfl) (tc := 0) (n := 6180) (g := 63) rfl (by decide +kernel) l10 u10), rx_same_upR hin (tc := 0) (n := 6180) (g := 63) rfl (by decide +kernel) l10 u10⟩
theorem rxcLAWK_0_0 {S0 : Nat → Int → Int} {ws : List Int} {S : Nat → Int → Int} {x8 : Int} (hP : rxPLAWK S0 ws) (hin : bx_same rxL (bx_mdl rxC242.2.2.1) S0 S) (I0 : bx_Inv rxL S) (hinv : rxILAWK_0 S0 ws S) (l8 : 0 ≤ x8) (u8 : x8 ≤ 5) (f0 : x8 ≠ 6) (e0 : (bx_up S 480 0 0) 482 3 = x8) : (True) ∧ (True) ∧ rxILAWK_1 S0 ws (bx_up S 480 0 0) ∧ rxmLAWK_1 S0 ws (bx_up S 480 0 0) < rxmLAWK_0 S0 ws S := by
  obtain ⟨hI, hx⟩ := hinv
  obtain ⟨a_, b_, c_, d_⟩ := rxcLAWX_0_0 hP hin I0 hI l8 u8 f0 e0
  exact ⟨a_, b_, ⟨c_, trivial⟩, d_⟩
theorem rxgLAWK_0_0 {X : (Nat → Int → Int) → Prop} {S0 : Nat → Int → Int} {ws : List Int} (hP : rxPLAWK S0 ws) : bx_obC rxL X S0 rxC242.2.2.1 (rxILAWK S0 ws) (rxmLAWK S0 ws) 0 rxzLAWK_0 rxoLAWK_0_0 := by
  intro S S_p r r_p hinv hX hin hsm_ hseg
  obtain ⟨I0, I1, h0_, hr_, b_, f_, d_⟩ := bx_cl (evs := [(0, (0, 482), (0, 3), .inr (0, (8, 0))), (1, (0, 480), (0, 0), .inr (0, (0, 0)))]) (fvs := [(3, (8, 0), (0, 6), (0, 0))]) hseg (by decide +kernel) (by decide +kernel)
  have hinv : rxILAWK_0 S0 ws S := hinv
  obtain ⟨⟨l8, u8⟩, -⟩ := b_
  obtain ⟨f0, -⟩ := f_
  obtain ⟨e0, ⟨T1, w_, w1⟩⟩ := d_
  subst w1
  subst w_
  have g := rxcLAWK_0_0 hP hin I0 hinv l8 u8 f0 e0
  refine ⟨bx_narP_ok (l := []) g.1, bx_nfP_ok h0_ (fvs := []) (by decide +kernel) g.2.1, ?_, ?_⟩
  · show rxILAWK_1 S0 ws (bx_up T1 480 (0) (0))
    exact g.2.2.1
  · show rxmLAWK_1 S0 ws (bx_up T1 480 (0) (0)) < rxmLAWK_0 S0 ws T1
    exact g.2.2.2
theorem rxdLAWK_0_0 {S0 : Nat → Int → Int} {ws : List Int} {S : Nat → Int → Int} {x8 x9 x10 : Int} (hP : rxPLAWK S0 ws) (hin : bx_same rxL (bx_mdl rxC242.2.2.1) S0 S) (hin2 : bx_same rxL (bx_mdl rxC242.2.2.1) S (bx_up (bx_up (bx_up (bx_up S 480 0 0) 480 8 0) 480 1 ((-5))) 481 5 x10)) (I0 : bx_Inv rxL S) (I1 : bx_Inv rxL (bx_up (bx_up (bx_up (bx_up S 480 0 0) 480 8 0) 480 1 ((-5))) 481 5 x10)) (hinv : rxILAWK_0 S0 ws S) (l8 : 6 ≤ x8) (u8 : x8 ≤ 6) (l9 : (-2147483648) ≤ x9) (u9 : x9 ≤ 2147483647) (l10 : (-2147483648) ≤ x10) (u10 : x10 ≤ 2147483647) (e4 : (bx_up S 480 0 0) 482 3 = x8) (e1 : (bx_up (bx_up (bx_up S 480 0 0) 480 8 0) 480 1 ((-5))) 481 5 = x9) : (True) ∧ rxPSLAWK S0 ws (bx_up (bx_up (bx_up (bx_up S 480 0 0) 480 8 0) 480 1 ((-5))) 481 5 x10) (some ((-5))) := by
  obtain ⟨hI, hx⟩ := hinv
  obtain ⟨a_, c_⟩ := rxdLAWX_0_0 hP hin hin2 I0 I1 hI l8 u8 l9 u9 l10 u10 e4 e1
  exact ⟨a_, c_, (by
    intro c
    have e := hI.1.1
    subst e
    exact Or.inl ⟨(bx_up_ne (by omega)).trans ((bx_up_ne (by omega)).trans ((bx_up_ne (by omega)).trans ((bx_up_ne (by omega))))), fun j _ _ => (bx_up_ne (by omega)).trans ((bx_up_ne (by omega)).trans ((bx_up_ne (by omega)).trans ((bx_up_ne (by omega)))))⟩)⟩
theorem rxfLAWK_0_0 {X : (Nat → Int → Int) → Prop} {S0 : Nat → Int → Int} {ws : List Int} (hP : rxPLAWK S0 ws) : bx_obE rxL X S0 rxC242.2.2.1 (rxILAWK S0 ws) (rxPSLAWK S0 ws) 0 rxzLAWK_0 rxeLAWK_0_0 := by
  intro S S_p r r_p hinv hX hin hsm_ hseg
  obtain ⟨I0, I1, h0_, hr_, b_, f_, d_⟩ := bx_cl (evs := [(1, (0, 481), (0, 5), .inr (0, (10, 0))), (0, (0, 481), (0, 5), .inr (0, (9, 0))), (1, (0, 480), (0, 1), .inr (0, (0, (-5)))), (1, (0, 480), (0, 8), .inr (0, (0, 0))), (0, (0, 482), (0, 3), .inr (0, (8, 0))), (1, (0, 480), (0, 0), .inr (0, (0, 0)))]) (fvs := []) hseg (by decide +kernel) (by decide +kernel)
  have hinv : rxILAWK_0 S0 ws S := hinv
  obtain ⟨⟨l8, u8⟩, ⟨l9, u9⟩, ⟨l10, u10⟩, -⟩ := b_
  obtain ⟨T0, ⟨e1, ⟨T2, ⟨T3, ⟨e4, ⟨T5, w_, w5⟩⟩, w3⟩, w2⟩⟩, w0⟩ := d_
  subst w0
  subst w2
  subst w3
  subst w5
  subst w_
  have g := rxdLAWK_0_0 hP hin hsm_ I0 I1 hinv l8 u8 l9 u9 l10 u10 e4 e1
  refine ⟨bx_narP_ok (l := []) g.1, ?_⟩
  show rxPSLAWK S0 ws (bx_up (bx_up (bx_up (bx_up T5 480 (0) (0)) 480 (8) (0)) 480 (1) ((-5))) 481 (5) (r_p 10)) (some (bx_num r_p (.inr (0, (0, (-5))))))
  rw [bx_xv_ok h0_]
  exact g.2
theorem rxcLAWK_2_0 {S0 : Nat → Int → Int} {ws : List Int} {S : Nat → Int → Int} (hP : rxPLAWK S0 ws) (hin : bx_same rxL (bx_mdl rxC242.2.2.1) S0 S) (I0 : bx_Inv rxL S) (hinv : rxILAWK_2 S0 ws S)  : (True) ∧ (True) ∧ rxILAWK_3 S0 ws S ∧ rxmLAWK_3 S0 ws S < rxmLAWK_2 S0 ws S := by
  obtain ⟨hI, hx⟩ := hinv
  obtain ⟨a_, b_, c_, d_⟩ := rxcLAWX_2_0 hP hin I0 hI
  exact ⟨a_, b_, ⟨c_, hx⟩, d_⟩
theorem rxgLAWK_2_0 {X : (Nat → Int → Int) → Prop} {S0 : Nat → Int → Int} {ws : List Int} (hP : rxPLAWK S0 ws) : bx_obC rxL X S0 rxC242.2.2.1 (rxILAWK S0 ws) (rxmLAWK S0 ws) 2 rxzLAWK_2 rxoLAWK_2_0 := by
  intro S S_p r r_p hinv hX hin hsm_ hseg
  obtain ⟨I0, I1, h0_, hr_, b_, f_, d_⟩ := bx_cl (evs := []) (fvs := []) hseg (by decide +kernel) (by decide +kernel)
  have hinv : rxILAWK_2 S0 ws S := hinv
  have w_ := d_
  subst w_
  have g := rxcLAWK_2_0 hP hin I0 hinv 
  refine ⟨bx_narP_ok (l := []) g.1, bx_nfP_ok h0_ (fvs := []) (by decide +kernel) g.2.1, ?_, ?_⟩
  · show rxILAWK_3 S0 ws S_p
    exact g.2.2.1
  · show rxmLAWK_3 S0 ws S_p < rxmLAWK_2 S0 ws S_p
    exact g.2.2.2
theorem rxcLAWK_4_0 {S0 : Nat → Int → Int} {ws : List Int} {S : Nat → Int → Int} {x8 x9 : Int} (hP : rxPLAWK S0 ws) (hin : bx_same rxL (bx_mdl rxC242.2.2.1) S0 S) (I0 : bx_Inv rxL S) (hinv : rxILAWK_4 S0 ws S) (l8 : 0 ≤ x8) (u8 : x8 ≤ 0) (l9 : 0 ≤ x9) (u9 : x9 ≤ 2) (f0 : x9 ≠ 3) (e1 : S 480 14 = x8) (e0 : S 480 11 = x9) : (True) ∧ (True) ∧ rxILAWK_10 S0 ws S ∧ rxmLAWK_10 S0 ws S < rxmLAWK_4 S0 ws S := by
  obtain ⟨hI, hx⟩ := hinv
  obtain ⟨a_, b_, c_, d_⟩ := rxcLAWX_4_0 hP hin I0 hI l8 u8 l9 u9 f0 e1 e0
  exact ⟨a_, b_, ⟨c_, hx⟩, d_⟩
theorem rxgLAWK_4_0 {X : (Nat → Int → Int) → Prop} {S0 : Nat → Int → Int} {ws : List Int} (hP : rxPLAWK S0 ws) : bx_obC rxL X S0 rxC242.2.2.1 (rxILAWK S0 ws) (rxmLAWK S0 ws) 4 rxzLAWK_4 rxoLAWK_4_0 := by
  intro S S_p r r_p hinv hX hin hsm_ hseg
  obtain ⟨I0, I1, h0_, hr_, b_, f_, d_⟩ := bx_cl (evs := [(0, (0, 480), (0, 11), .inr (0, (9, 0))), (0, (0, 480), (0, 14), .inr (0, (8, 0)))]) (fvs := [(3, (9, 0), (0, 3), (0, 0))]) hseg (by decide +kernel) (by decide +kernel)
  have hinv : rxILAWK_4 S0 ws S := hinv
  obtain ⟨⟨l8, u8⟩, ⟨l9, u9⟩, -⟩ := b_
  obtain ⟨f0, -⟩ := f_
  obtain ⟨e0, ⟨e1, w_⟩⟩ := d_
  subst w_
  have g := rxcLAWK_4_0 hP hin I0 hinv l8 u8 l9 u9 f0 e1 e0
  refine ⟨bx_narP_ok (l := []) g.1, bx_nfP_ok h0_ (fvs := []) (by decide +kernel) g.2.1, ?_, ?_⟩
  · show rxILAWK_10 S0 ws S_p
    exact g.2.2.1
  · show rxmLAWK_10 S0 ws S_p < rxmLAWK_4 S0 ws S_p
    exact g.2.2.2
theorem rxcLAWK_4_1 {S0 : Nat → Int → Int} {ws : List Int} {S : Nat → Int → Int} {x8 x9 x10 : Int} (hP : rxPLAWK S0 ws) (hin : bx_same rxL (bx_mdl rxC242.2.2.1) S0 S) (I0 : bx_Inv rxL S) (hinv : rxILAWK_4 S0 ws S) (l8 : 0 ≤ x8) (u8 : x8 ≤ 0) (l9 : 3 ≤ x9) (u9 : x9 ≤ 3) (l10 : (-9223372036854775808) ≤ x10) (u10 : x10 ≤ 9223372036854775807) (f0 : x10 ≠ 59) (e2 : S 480 14 = x8) (e1 : S 480 11 = x9) (e0 : S 480 12 = x10) : (True) ∧ (True) ∧ rxILAWK_10 S0 ws S ∧ rxmLAWK_10 S0 ws S < rxmLAWK_4 S0 ws S := by
  obtain ⟨hI, hx⟩ := hinv
  obtain ⟨a_, b_, c_, d_⟩ := rxcLAWX_4_1 hP hin I0 hI l8 u8 l9 u9 l10 u10 f0 e2 e1 e0
  exact ⟨a_, b_, ⟨c_, hx⟩, d_⟩
theorem rxgLAWK_4_1 {X : (Nat → Int → Int) → Prop} {S0 : Nat → Int → Int} {ws : List Int} (hP : rxPLAWK S0 ws) : bx_obC rxL X S0 rxC242.2.2.1 (rxILAWK S0 ws) (rxmLAWK S0 ws) 4 rxzLAWK_4 rxoLAWK_4_1 := by
  intro S S_p r r_p hinv hX hin hsm_ hseg
  obtain ⟨I0, I1, h0_, hr_, b_, f_, d_⟩ := bx_cl (evs := [(0, (0, 480), (0, 12), .inr (1, (10, 0))), (0, (0, 480), (0, 11), .inr (0, (9, 0))), (0, (0, 480), (0, 14), .inr (0, (8, 0)))]) (fvs := [(3, (10, 0), (0, 59), (0, 0))]) hseg (by decide +kernel) (by decide +kernel)
  have hinv : rxILAWK_4 S0 ws S := hinv
  obtain ⟨⟨l8, u8⟩, ⟨l9, u9⟩, ⟨l10, u10⟩, -⟩ := b_
  obtain ⟨f0, -⟩ := f_
  obtain ⟨e0, ⟨e1, ⟨e2, w_⟩⟩⟩ := d_
  subst w_
  have g := rxcLAWK_4_1 hP hin I0 hinv l8 u8 l9 u9 l10 u10 f0 e2 e1 e0
  refine ⟨bx_narP_ok (l := []) g.1, bx_nfP_ok h0_ (fvs := []) (by decide +kernel) g.2.1, ?_, ?_⟩
  · show rxILAWK_10 S0 ws S_p
    exact g.2.2.1
  · show rxmLAWK_10 S0 ws S_p < rxmLAWK_4 S0 ws S_p
    exact g.2.2.2
theorem rxcLAWK_4_2 {S0 : Nat → Int → Int} {ws : List Int} {S : Nat → Int → Int} {x8 x9 x10 : Int} (hP : rxPLAWK S0 ws) (hin : bx_same rxL (bx_mdl rxC242.2.2.1) S0 S) (I0 : bx_Inv rxL S) (hinv : rxILAWK_4 S0 ws S) (l8 : 0 ≤ x8) (u8 : x8 ≤ 0) (l9 : 3 ≤ x9) (u9 : x9 ≤ 3) (l10 : 59 ≤ x10) (u10 : x10 ≤ 59) (e2 : S 480 14 = x8) (e1 : S 480 11 = x9) (e0 : S 480 12 = x10) : (True) ∧ (True) ∧ rxILAWK_6 S0 ws S ∧ rxmLAWK_6 S0 ws S < rxmLAWK_4 S0 ws S := by
  obtain ⟨hI, hx⟩ := hinv
  obtain ⟨a_, b_, c_, d_⟩ := rxcLAWX_4_2 hP hin I0 hI l8 u8 l9 u9 l10 u10 e2 e1 e0
  exact ⟨a_, b_, ⟨c_, hx⟩, d_⟩
theorem rxgLAWK_4_2 {X : (Nat → Int → Int) → Prop} {S0 : Nat → Int → Int} {ws : List Int} (hP : rxPLAWK S0 ws) : bx_obC rxL X S0 rxC242.2.2.1 (rxILAWK S0 ws) (rxmLAWK S0 ws) 4 rxzLAWK_4 rxoLAWK_4_2 := by
  intro S S_p r r_p hinv hX hin hsm_ hseg
  obtain ⟨I0, I1, h0_, hr_, b_, f_, d_⟩ := bx_cl (evs := [(0, (0, 480), (0, 12), .inr (1, (10, 0))), (0, (0, 480), (0, 11), .inr (0, (9, 0))), (0, (0, 480), (0, 14), .inr (0, (8, 0)))]) (fvs := []) hseg (by decide +kernel) (by decide +kernel)
  have hinv : rxILAWK_4 S0 ws S := hinv
  obtain ⟨⟨l8, u8⟩, ⟨l9, u9⟩, ⟨l10, u10⟩, -⟩ := b_
  obtain ⟨e0, ⟨e1, ⟨e2, w_⟩⟩⟩ := d_
  subst w_
  have g := rxcLAWK_4_2 hP hin I0 hinv l8 u8 l9 u9 l10 u10 e2 e1 e0
  refine ⟨bx_narP_ok (l := []) g.1, bx_nfP_ok h0_ (fvs := []) (by decide +kernel) g.2.1, ?_, ?_⟩
  · show rxILAWK_6 S0 ws S_p
    exact g.2.2.1
  · show rxmLAWK_6 S0 ws S_p < rxmLAWK_4 S0 ws S_p
    exact g.2.2.2
theorem rxcLAWK_4_3 {S0 : Nat → Int → Int} {ws : List Int} {S : Nat → Int → Int} {x8 : Int} (hP : rxPLAWK S0 ws) (hin : bx_same rxL (bx_mdl rxC242.2.2.1) S0 S) (I0 : bx_Inv rxL S) (hinv : rxILAWK_4 S0 ws S) (l8 : 1 ≤ x8) (u8 : x8 ≤ 1) (f0 : x8 ≠ 0) (e0 : S 480 14 = x8) : (True) ∧ (True) ∧ rxILAWK_10 S0 ws S ∧ rxmLAWK_10 S0 ws S < rxmLAWK_4 S0 ws S := by
  obtain ⟨hI, hx⟩ := hinv
  obtain ⟨a_, b_, c_, d_⟩ := rxcLAWX_4_3 hP hin I0 hI l8 u8 f0 e0
  exact ⟨a_, b_, ⟨c_, hx⟩, d_⟩
theorem rxgLAWK_4_3 {X : (Nat → Int → Int) → Prop} {S0 : Nat → Int → Int} {ws : List Int} (hP : rxPLAWK S0 ws) : bx_obC rxL X S0 rxC242.2.2.1 (rxILAWK S0 ws) (rxmLAWK S0 ws) 4 rxzLAWK_4 rxoLAWK_4_3 := by
  intro S S_p r r_p hinv hX hin hsm_ hseg
  obtain ⟨I0, I1, h0_, hr_, b_, f_, d_⟩ := bx_cl (evs := [(0, (0, 480), (0, 14), .inr (0, (8, 0)))]) (fvs := [(3, (8, 0), (0, 0), (0, 0))]) hseg (by decide +kernel) (by decide +kernel)
  have hinv : rxILAWK_4 S0 ws S := hinv
  obtain ⟨⟨l8, u8⟩, -⟩ := b_
  obtain ⟨f0, -⟩ := f_
  obtain ⟨e0, w_⟩ := d_
  subst w_
  have g := rxcLAWK_4_3 hP hin I0 hinv l8 u8 f0 e0
  refine ⟨bx_narP_ok (l := []) g.1, bx_nfP_ok h0_ (fvs := []) (by decide +kernel) g.2.1, ?_, ?_⟩
  · show rxILAWK_10 S0 ws S_p
    exact g.2.2.1
  · show rxmLAWK_10 S0 ws S_p < rxmLAWK_4 S0 ws S_p
    exact g.2.2.2
theorem rxcLAWK_5_0 {S0 : Nat → Int → Int} {ws : List Int} {S : Nat → Int → Int} {x8 x9 : Int} (hP : rxPLAWK S0 ws) (hin : bx_same rxL (bx_mdl rxC242.2.2.1) S0 S) (I0 : bx_Inv rxL S) (hinv : rxILAWK_5 S0 ws S) (l8 : 0 ≤ x8) (u8 : x8 ≤ 0) (l9 : 0 ≤ x9) (u9 : x9 ≤ 2) (f0 : x9 ≠ 3) (e1 : S 480 14 = x8) (e0 : S 480 11 = x9) : (True) ∧ (True) ∧ rxILAWK_10 S0 ws S ∧ rxmLAWK_10 S0 ws S < rxmLAWK_5 S0 ws S := by
  obtain ⟨hI, hx⟩ := hinv
  obtain ⟨a_, b_, c_, d_⟩ := rxcLAWX_5_0 hP hin I0 hI l8 u8 l9 u9 f0 e1 e0
  exact ⟨a_, b_, ⟨c_, hx⟩, d_⟩
theorem rxgLAWK_5_0 {X : (Nat → Int → Int) → Prop} {S0 : Nat → Int → Int} {ws : List Int} (hP : rxPLAWK S0 ws) : bx_obC rxL X S0 rxC242.2.2.1 (rxILAWK S0 ws) (rxmLAWK S0 ws) 5 rxzLAWK_5 rxoLAWK_5_0 := by
  intro S S_p r r_p hinv hX hin hsm_ hseg
  obtain ⟨I0, I1, h0_, hr_, b_, f_, d_⟩ := bx_cl (evs := [(0, (0, 480), (0, 11), .inr (0, (9, 0))), (0, (0, 480), (0, 14), .inr (0, (8, 0)))]) (fvs := [(3, (9, 0), (0, 3), (0, 0))]) hseg (by decide +kernel) (by decide +kernel)
  have hinv : rxILAWK_5 S0 ws S := hinv
  obtain ⟨⟨l8, u8⟩, ⟨l9, u9⟩, -⟩ := b_
  obtain ⟨f0, -⟩ := f_
  obtain ⟨e0, ⟨e1, w_⟩⟩ := d_
  subst w_
  have g := rxcLAWK_5_0 hP hin I0 hinv l8 u8 l9 u9 f0 e1 e0
  refine ⟨bx_narP_ok (l := []) g.1, bx_nfP_ok h0_ (fvs := []) (by decide +kernel) g.2.1, ?_, ?_⟩
  · show rxILAWK_10 S0 ws S_p
    exact g.2.2.1
  · show rxmLAWK_10 S0 ws S_p < rxmLAWK_5 S0 ws S_p
    exact g.2.2.2
theorem rxcLAWK_5_1 {S0 : Nat → Int → Int} {ws : List Int} {S : Nat → Int → Int} {x8 x9 x10 : Int} (hP : rxPLAWK S0 ws) (hin : bx_same rxL (bx_mdl rxC242.2.2.1) S0 S) (I0 : bx_Inv rxL S) (hinv : rxILAWK_5 S0 ws S) (l8 : 0 ≤ x8) (u8 : x8 ≤ 0) (l9 : 3 ≤ x9) (u9 : x9 ≤ 3) (l10 : (-9223372036854775808) ≤ x10) (u10 : x10 ≤ 9223372036854775807) (f0 : x10 ≠ 59) (e2 : S 480 14 = x8) (e1 : S 480 11 = x9) (e0 : S 480 12 = x10) : (True) ∧ (True) ∧ rxILAWK_10 S0 ws S ∧ rxmLAWK_10 S0 ws S < rxmLAWK_5 S0 ws S := by
  obtain ⟨hI, hx⟩ := hinv
  obtain ⟨a_, b_, c_, d_⟩ := rxcLAWX_5_1 hP hin I0 hI l8 u8 l9 u9 l10 u10 f0 e2 e1 e0
  exact ⟨a_, b_, ⟨c_, hx⟩, d_⟩
theorem rxgLAWK_5_1 {X : (Nat → Int → Int) → Prop} {S0 : Nat → Int → Int} {ws : List Int} (hP : rxPLAWK S0 ws) : bx_obC rxL X S0 rxC242.2.2.1 (rxILAWK S0 ws) (rxmLAWK S0 ws) 5 rxzLAWK_5 rxoLAWK_5_1 := by
  intro S S_p r r_p hinv hX hin hsm_ hseg
  obtain ⟨I0, I1, h0_, hr_, b_, f_, d_⟩ := bx_cl (evs := [(0, (0, 480), (0, 12), .inr (1, (10, 0))), (0, (0, 480), (0, 11), .inr (0, (9, 0))), (0, (0, 480), (0, 14), .inr (0, (8, 0)))]) (fvs := [(3, (10, 0), (0, 59), (0, 0))]) hseg (by decide +kernel) (by decide +kernel)
  have hinv : rxILAWK_5 S0 ws S := hinv
  obtain ⟨⟨l8, u8⟩, ⟨l9, u9⟩, ⟨l10, u10⟩, -⟩ := b_
  obtain ⟨f0, -⟩ := f_
  obtain ⟨e0, ⟨e1, ⟨e2, w_⟩⟩⟩ := d_
  subst w_
  have g := rxcLAWK_5_1 hP hin I0 hinv l8 u8 l9 u9 l10 u10 f0 e2 e1 e0
  refine ⟨bx_narP_ok (l := []) g.1, bx_nfP_ok h0_ (fvs := []) (by decide +kernel) g.2.1, ?_, ?_⟩
  · show rxILAWK_10 S0 ws S_p
    exact g.2.2.1
  · show rxmLAWK_10 S0 ws S_p < rxmLAWK_5 S0 ws S_p
    exact g.2.2.2
theorem rxcLAWK_5_2 {S0 : Nat → Int → Int} {ws : List Int} {S : Nat → Int → Int} {x8 x9 x10 : Int} (hP : rxPLAWK S0 ws) (hin : bx_same rxL (bx_mdl rxC242.2.2.1) S0 S) (I0 : bx_Inv rxL S) (hinv : rxILAWK_5 S0 ws S) (l8 : 0 ≤ x8) (u8 : x8 ≤ 0) (l9 : 3 ≤ x9) (u9 : x9 ≤ 3) (l10 : 59 ≤ x10) (u10 : x10 ≤ 59) (e2 : S 480 14 = x8) (e1 : S 480 11 = x9) (e0 : S 480 12 = x10) : (True) ∧ (True) ∧ rxILAWK_6 S0 ws S ∧ rxmLAWK_6 S0 ws S < rxmLAWK_5 S0 ws S := by
  obtain ⟨hI, hx⟩ := hinv
  obtain ⟨a_, b_, c_, d_⟩ := rxcLAWX_5_2 hP hin I0 hI l8 u8 l9 u9 l10 u10 e2 e1 e0
  exact ⟨a_, b_, ⟨c_, hx⟩, d_⟩
theorem rxgLAWK_5_2 {X : (Nat → Int → Int) → Prop} {S0 : Nat → Int → Int} {ws : List Int} (hP : rxPLAWK S0 ws) : bx_obC rxL X S0 rxC242.2.2.1 (rxILAWK S0 ws) (rxmLAWK S0 ws) 5 rxzLAWK_5 rxoLAWK_5_2 := by
  intro S S_p r r_p hinv hX hin hsm_ hseg
  obtain ⟨I0, I1, h0_, hr_, b_, f_, d_⟩ := bx_cl (evs := [(0, (0, 480), (0, 12), .inr (1, (10, 0))), (0, (0, 480), (0, 11), .inr (0, (9, 0))), (0, (0, 480), (0, 14), .inr (0, (8, 0)))]) (fvs := []) hseg (by decide +kernel) (by decide +kernel)
  have hinv : rxILAWK_5 S0 ws S := hinv
  obtain ⟨⟨l8, u8⟩, ⟨l9, u9⟩, ⟨l10, u10⟩, -⟩ := b_
  obtain ⟨e0, ⟨e1, ⟨e2, w_⟩⟩⟩ := d_
  subst w_
  have g := rxcLAWK_5_2 hP hin I0 hinv l8 u8 l9 u9 l10 u10 e2 e1 e0
  refine ⟨bx_narP_ok (l := []) g.1, bx_nfP_ok h0_ (fvs := []) (by decide +kernel) g.2.1, ?_, ?_⟩
  · show rxILAWK_6 S0 ws S_p
    exact g.2.2.1
  · show rxmLAWK_6 S0 ws S_p < rxmLAWK_5 S0 ws S_p
    exact g.2.2.2
theorem rxcLAWK_5_3 {S0 : Nat → Int → Int} {ws : List Int} {S : Nat → Int → Int} {x8 : Int} (hP : rxPLAWK S0 ws) (hin : bx_same rxL (bx_mdl rxC242.2.2.1) S0 S) (I0 : bx_Inv rxL S) (hinv : rxILAWK_5 S0 ws S) (l8 : 1 ≤ x8) (u8 : x8 ≤ 1) (f0 : x8 ≠ 0) (e0 : S 480 14 = x8) : (True) ∧ (True) ∧ rxILAWK_10 S0 ws S ∧ rxmLAWK_10 S0 ws S < rxmLAWK_5 S0 ws S := by
  obtain ⟨hI, hx⟩ := hinv
  obtain ⟨a_, b_, c_, d_⟩ := rxcLAWX_5_3 hP hin I0 hI l8 u8 f0 e0
  exact ⟨a_, b_, ⟨c_, hx⟩, d_⟩
theorem rxgLAWK_5_3 {X : (Nat → Int → Int) → Prop} {S0 : Nat → Int → Int} {ws : List Int} (hP : rxPLAWK S0 ws) : bx_obC rxL X S0 rxC242.2.2.1 (rxILAWK S0 ws) (rxmLAWK S0 ws) 5 rxzLAWK_5 rxoLAWK_5_3 := by
  intro S S_p r r_p hinv hX hin hsm_ hseg
  obtain ⟨I0, I1, h0_, hr_, b_, f_, d_⟩ := bx_cl (evs := [(0, (0, 480), (0, 14), .inr (0, (8, 0)))]) (fvs := [(3, (8, 0), (0, 0), (0, 0))]) hseg (by decide +kernel) (by decide +kernel)
  have hinv : rxILAWK_5 S0 ws S := hinv
  obtain ⟨⟨l8, u8⟩, -⟩ := b_
  obtain ⟨f0, -⟩ := f_
  obtain ⟨e0, w_⟩ := d_
  subst w_
  have g := rxcLAWK_5_3 hP hin I0 hinv l8 u8 f0 e0
  refine ⟨bx_narP_ok (l := []) g.1, bx_nfP_ok h0_ (fvs := []) (by decide +kernel) g.2.1, ?_, ?_⟩
  · show rxILAWK_10 S0 ws S_p
    exact g.2.2.1
  · show rxmLAWK_10 S0 ws S_p < rxmLAWK_5 S0 ws S_p
    exact g.2.2.2
theorem rxcLAWK_7_0 {S0 : Nat → Int → Int} {ws : List Int} {S : Nat → Int → Int} (hP : rxPLAWK S0 ws) (hin : bx_same rxL (bx_mdl rxC242.2.2.1) S0 S) (I0 : bx_Inv rxL S) (hinv : rxILAWK_7 S0 ws S)  : (True) ∧ (True) ∧ rxILAWK_8 S0 ws S ∧ rxmLAWK_8 S0 ws S < rxmLAWK_7 S0 ws S := by
  obtain ⟨hI, hx⟩ := hinv
  obtain ⟨a_, b_, c_, d_⟩ := rxcLAWX_7_0 hP hin I0 hI
  exact ⟨a_, b_, ⟨c_, hx⟩, d_⟩
theorem rxgLAWK_7_0 {X : (Nat → Int → Int) → Prop} {S0 : Nat → Int → Int} {ws : List Int} (hP : rxPLAWK S0 ws) : bx_obC rxL X S0 rxC242.2.2.1 (rxILAWK S0 ws) (rxmLAWK S0 ws) 7 rxzLAWK_7 rxoLAWK_7_0 := by
  intro S S_p r r_p hinv hX hin hsm_ hseg
  obtain ⟨I0, I1, h0_, hr_, b_, f_, d_⟩ := bx_cl (evs := []) (fvs := []) hseg (by decide +kernel) (by decide +kernel)
  have hinv : rxILAWK_7 S0 ws S := hinv
  have w_ := d_
  subst w_
  have g := rxcLAWK_7_0 hP hin I0 hinv 
  refine ⟨bx_narP_ok (l := []) g.1, bx_nfP_ok h0_ (fvs := []) (by decide +kernel) g.2.1, ?_, ?_⟩
  · show rxILAWK_8 S0 ws S_p
    exact g.2.2.1
  · show rxmLAWK_8 S0 ws S_p < rxmLAWK_7 S0 ws S_p
    exact g.2.2.2
theorem rxcLAWK_9_0 {S0 : Nat → Int → Int} {ws : List Int} {S : Nat → Int → Int} (hP : rxPLAWK S0 ws) (hin : bx_same rxL (bx_mdl rxC242.2.2.1) S0 S) (I0 : bx_Inv rxL S) (hinv : rxILAWK_9 S0 ws S)  : (True) ∧ (True) ∧ rxILAWK_5 S0 ws S ∧ rxmLAWK_5 S0 ws S < rxmLAWK_9 S0 ws S := by
  obtain ⟨hI, hx⟩ := hinv
  obtain ⟨a_, b_, c_, d_⟩ := rxcLAWX_9_0 hP hin I0 hI
  exact ⟨a_, b_, ⟨c_, hx⟩, d_⟩
theorem rxgLAWK_9_0 {X : (Nat → Int → Int) → Prop} {S0 : Nat → Int → Int} {ws : List Int} (hP : rxPLAWK S0 ws) : bx_obC rxL X S0 rxC242.2.2.1 (rxILAWK S0 ws) (rxmLAWK S0 ws) 9 rxzLAWK_9 rxoLAWK_9_0 := by
  intro S S_p r r_p hinv hX hin hsm_ hseg
  obtain ⟨I0, I1, h0_, hr_, b_, f_, d_⟩ := bx_cl (evs := []) (fvs := []) hseg (by decide +kernel) (by decide +kernel)
  have hinv : rxILAWK_9 S0 ws S := hinv
  have w_ := d_
  subst w_
  have g := rxcLAWK_9_0 hP hin I0 hinv 
  refine ⟨bx_narP_ok (l := []) g.1, bx_nfP_ok h0_ (fvs := []) (by decide +kernel) g.2.1, ?_, ?_⟩
  · show rxILAWK_5 S0 ws S_p
    exact g.2.2.1
  · show rxmLAWK_5 S0 ws S_p < rxmLAWK_9 S0 ws S_p
    exact g.2.2.2
theorem rxcLAWK_11_0 {S0 : Nat → Int → Int} {ws : List Int} {S : Nat → Int → Int} {x8 x9 : Int} (hP : rxPLAWK S0 ws) (hin : bx_same rxL (bx_mdl rxC242.2.2.1) S0 S) (I0 : bx_Inv rxL S) (hinv : rxILAWK_11 S0 ws S) (l8 : 0 ≤ x8) (u8 : x8 ≤ 0) (l9 : 0 ≤ x9) (u9 : x9 ≤ 6) (e1 : S 480 14 = x8) (e0 : S 482 3 = x9) : ((0 ≤ x9 ∧ x9 ≤ 5) ∧ True) ∧ (True) ∧ rxILAWK_12 S0 ws S x9 ∧ rxmLAWK_12 S0 ws S x9 < rxmLAWK_11 S0 ws S := by
  obtain ⟨hI, hx⟩ := hinv
  obtain ⟨a_, b_, c_, d_⟩ := rxcLAWX_11_0 hP hin I0 hI l8 u8 l9 u9 e1 e0
  exact ⟨a_, b_, ⟨c_, (by
    intro c
    exact hx c (by omega))⟩, d_⟩
theorem rxgLAWK_11_0 {X : (Nat → Int → Int) → Prop} {S0 : Nat → Int → Int} {ws : List Int} (hP : rxPLAWK S0 ws) : bx_obC rxL X S0 rxC242.2.2.1 (rxILAWK S0 ws) (rxmLAWK S0 ws) 11 rxzLAWK_11 rxoLAWK_11_0 := by
  intro S S_p r r_p hinv hX hin hsm_ hseg
  obtain ⟨I0, I1, h0_, hr_, b_, f_, d_⟩ := bx_cl (evs := [(0, (0, 482), (0, 3), .inr (0, (9, 0))), (0, (0, 480), (0, 14), .inr (0, (8, 0)))]) (fvs := []) hseg (by decide +kernel) (by decide +kernel)
  have hinv : rxILAWK_11 S0 ws S := hinv
  obtain ⟨⟨l8, u8⟩, ⟨l9, u9⟩, -⟩ := b_
  obtain ⟨e0, ⟨e1, w_⟩⟩ := d_
  subst w_
  have g := rxcLAWK_11_0 hP hin I0 hinv l8 u8 l9 u9 e1 e0
  refine ⟨bx_narP_ok (l := [(9, 0, 5)]) g.1, bx_nfP_ok h0_ (fvs := []) (by decide +kernel) g.2.1, ?_, ?_⟩
  · show rxILAWK_12 S0 ws S_p (bx_val [(0, 0), (0, 0), (0, 0), (0, 0), (0, 0), (0, 0), (0, 0), (0, 0), (9, 0)] r_p 8)
    rw [bx_val_x (n := 8) (e := (9, 0)) h0_ rfl]
    exact g.2.2.1
  · show rxmLAWK_12 S0 ws S_p (bx_val [(0, 0), (0, 0), (0, 0), (0, 0), (0, 0), (0, 0), (0, 0), (0, 0), (9, 0)] r_p 8) < rxmLAWK_11 S0 ws S_p
    rw [bx_val_x (n := 8) (e := (9, 0)) h0_ rfl]
    exact g.2.2.2
theorem rxdLAWK_11_0 {S0 : Nat → Int → Int} {ws : List Int} {S : Nat → Int → Int} {x8 x9 x10 : Int} (hP : rxPLAWK S0 ws) (hin : bx_same rxL (bx_mdl rxC242.2.2.1) S0 S) (hin2 : bx_same rxL (bx_mdl rxC242.2.2.1) S (bx_up (bx_up S 480 1 ((-6))) 481 6 x10)) (I0 : bx_Inv rxL S) (I1 : bx_Inv rxL (bx_up (bx_up S 480 1 ((-6))) 481 6 x10)) (hinv : rxILAWK_11 S0 ws S) (l8 : 1 ≤ x8) (u8 : x8 ≤ 1) (l9 : (-2147483648) ≤ x9) (u9 : x9 ≤ 2147483647) (l10 : (-2147483648) ≤ x10) (u10 : x10 ≤ 2147483647) (f0 : x8 ≠ 0) (e3 : S 480 14 = x8) (e1 : (bx_up S 480 1 ((-6))) 481 6 = x9) : (True) ∧ rxPSLAWK S0 ws (bx_up (bx_up S 480 1 ((-6))) 481 6 x10) (some ((-6))) := by
  obtain ⟨hI, hx⟩ := hinv
  obtain ⟨a_, c_⟩ := rxdLAWX_11_0 hP hin hin2 I0 I1 hI l8 u8 l9 u9 l10 u10 f0 e3 e1
  exact ⟨a_, c_, (by
    intro c
    have q := hI.1.1.1
    exact Or.inl ⟨((bx_up_ne (by omega)).trans ((bx_up_ne (by omega)))).trans (q 3 (by omega) (by omega)), fun j x y => ((bx_up_ne (by omega)).trans ((bx_up_ne (by omega)))).trans (q j x y)⟩)⟩
theorem rxfLAWK_11_0 {X : (Nat → Int → Int) → Prop} {S0 : Nat → Int → Int} {ws : List Int} (hP : rxPLAWK S0 ws) : bx_obE rxL X S0 rxC242.2.2.1 (rxILAWK S0 ws) (rxPSLAWK S0 ws) 11 rxzLAWK_11 rxeLAWK_11_0 := by
  intro S S_p r r_p hinv hX hin hsm_ hseg
  obtain ⟨I0, I1, h0_, hr_, b_, f_, d_⟩ := bx_cl (evs := [(1, (0, 481), (0, 6), .inr (0, (10, 0))), (0, (0, 481), (0, 6), .inr (0, (9, 0))), (1, (0, 480), (0, 1), .inr (0, (0, (-6)))), (0, (0, 480), (0, 14), .inr (0, (8, 0)))]) (fvs := [(3, (8, 0), (0, 0), (0, 0))]) hseg (by decide +kernel) (by decide +kernel)
  have hinv : rxILAWK_11 S0 ws S := hinv
  obtain ⟨⟨l8, u8⟩, ⟨l9, u9⟩, ⟨l10, u10⟩, -⟩ := b_
  obtain ⟨f0, -⟩ := f_
  obtain ⟨T0, ⟨e1, ⟨T2, ⟨e3, w_⟩, w2⟩⟩, w0⟩ := d_
  subst w0
  subst w2
  subst w_
  have g := rxdLAWK_11_0 hP hin hsm_ I0 I1 hinv l8 u8 l9 u9 l10 u10 f0 e3 e1
  refine ⟨bx_narP_ok (l := []) g.1, ?_⟩
  show rxPSLAWK S0 ws (bx_up (bx_up T2 480 (1) ((-6))) 481 (6) (r_p 10)) (some (bx_num r_p (.inr (0, (0, (-6))))))
  rw [bx_xv_ok h0_]
  exact g.2
theorem rxcLAWK_12_0 {S0 : Nat → Int → Int} {ws : List Int} {S : Nat → Int → Int} {n3 x9 x10 : Int} (hP : rxPLAWK S0 ws) (hin : bx_same rxL (bx_mdl rxC242.2.2.1) S0 S) (I0 : bx_Inv rxL S) (hinv : rxILAWK_12 S0 ws S n3) (l8 : 0 ≤ n3) (u8 : n3 ≤ 5) (l9 : 0 ≤ x9) (u9 : x9 ≤ 4500) (l10 : 0 ≤ x10) (u10 : x10 ≤ 12) (f0 : x9 = 900 * (n3)) (e0 : S 480 16 = x10) : (True) ∧ (True) ∧ rxILAWK_13 S0 ws S (x9 + 780) (x9 + 781) x10 ∧ rxmLAWK_13 S0 ws S (x9 + 780) (x9 + 781) x10 < rxmLAWK_12 S0 ws S n3 := by
  obtain ⟨hI, hx⟩ := hinv
  obtain ⟨a_, b_, c_, d_⟩ := rxcLAWX_12_0 hP hin I0 hI l8 u8 l9 u9 l10 u10 f0 e0
  exact ⟨a_, b_, ⟨c_, hx⟩, d_⟩
theorem rxgLAWK_12_0 {X : (Nat → Int → Int) → Prop} {S0 : Nat → Int → Int} {ws : List Int} (hP : rxPLAWK S0 ws) : bx_obC rxL X S0 rxC242.2.2.1 (rxILAWK S0 ws) (rxmLAWK S0 ws) 12 rxzLAWK_12 rxoLAWK_12_0 := by
  intro S S_p r r_p hinv hX hin hsm_ hseg
  obtain ⟨I0, I1, h0_, hr_, b_, f_, d_⟩ := bx_cl (evs := [(0, (0, 480), (0, 16), .inr (0, (10, 0)))]) (fvs := [(4, (9, 0), (8, 0), (0, 900))]) hseg (by decide +kernel) (by decide +kernel)
  have hinv : rxILAWK_12 S0 ws S (r 8) := hinv
  rw [← hr_ 8 (by decide)] at hinv
  obtain ⟨⟨l8, u8⟩, ⟨l9, u9⟩, ⟨l10, u10⟩, -⟩ := b_
  obtain ⟨f0, -⟩ := f_
  obtain ⟨e0, w_⟩ := d_
  subst w_
  have g := rxcLAWK_12_0 hP hin I0 hinv l8 u8 l9 u9 l10 u10 f0 e0
  refine ⟨bx_narP_ok (l := []) g.1, bx_nfP_ok h0_ (fvs := []) (by decide +kernel) g.2.1, ?_, ?_⟩
  · show rxILAWK_13 S0 ws S_p (bx_val [(0, 0), (0, 0), (0, 0), (0, 0), (0, 0), (0, 0), (0, 0), (0, 0), (9, 780), (9, 781), (10, 0)] r_p 8) (bx_val [(0, 0), (0, 0), (0, 0), (0, 0), (0, 0), (0, 0), (0, 0), (0, 0), (9, 780), (9, 781), (10, 0)] r_p 9) (bx_val [(0, 0), (0, 0), (0, 0), (0, 0), (0, 0), (0, 0), (0, 0), (0, 0), (9, 780), (9, 781), (10, 0)] r_p 10)
    rw [bx_val_x (n := 8) (e := (9, 780)) h0_ rfl, bx_val_x (n := 9) (e := (9, 781)) h0_ rfl, bx_val_x (n := 10) (e := (10, 0)) h0_ rfl]
    exact g.2.2.1
  · show rxmLAWK_13 S0 ws S_p (bx_val [(0, 0), (0, 0), (0, 0), (0, 0), (0, 0), (0, 0), (0, 0), (0, 0), (9, 780), (9, 781), (10, 0)] r_p 8) (bx_val [(0, 0), (0, 0), (0, 0), (0, 0), (0, 0), (0, 0), (0, 0), (0, 0), (9, 780), (9, 781), (10, 0)] r_p 9) (bx_val [(0, 0), (0, 0), (0, 0), (0, 0), (0, 0), (0, 0), (0, 0), (0, 0), (9, 780), (9, 781), (10, 0)] r_p 10) < rxmLAWK_12 S0 ws S_p (r 8)
    rw [bx_val_x (n := 8) (e := (9, 780)) h0_ rfl, bx_val_x (n := 9) (e := (9, 781)) h0_ rfl, bx_val_x (n := 10) (e := (10, 0)) h0_ rfl, ← hr_ 8 (by decide)]
    exact g.2.2.2
theorem rxcLAWK_14_0 {S0 : Nat → Int → Int} {ws : List Int} {S : Nat → Int → Int} {base a v : Int} (hP : rxPLAWK S0 ws) (hin : bx_same rxL (bx_mdl rxC242.2.2.1) S0 S) (I0 : bx_Inv rxL S) (hinv : rxILAWK_14 S0 ws S base a v) (l8 : 780 ≤ base) (u8 : base ≤ 5280) (l9 : 781 ≤ a) (u9 : a ≤ 5281) (l10 : 0 ≤ v) (u10 : v ≤ 12) : (True) ∧ (True) ∧ rxILAWK_15 S0 ws S base 0 ∧ rxmLAWK_15 S0 ws S base 0 < rxmLAWK_14 S0 ws S base a v := by
  obtain ⟨hI, hx⟩ := hinv
  obtain ⟨a_, b_, c_, d_⟩ := rxcLAWX_14_0 hP hin I0 hI l8 u8 l9 u9 l10 u10
  exact ⟨a_, b_, ⟨c_, hx⟩, d_⟩
theorem rxgLAWK_14_0 {X : (Nat → Int → Int) → Prop} {S0 : Nat → Int → Int} {ws : List Int} (hP : rxPLAWK S0 ws) : bx_obC rxL X S0 rxC242.2.2.1 (rxILAWK S0 ws) (rxmLAWK S0 ws) 14 rxzLAWK_14 rxoLAWK_14_0 := by
  intro S S_p r r_p hinv hX hin hsm_ hseg
  obtain ⟨I0, I1, h0_, hr_, b_, f_, d_⟩ := bx_cl (evs := []) (fvs := []) hseg (by decide +kernel) (by decide +kernel)
  have hinv : rxILAWK_14 S0 ws S (r 8) (r 9) (r 10) := hinv
  rw [← hr_ 8 (by decide), ← hr_ 9 (by decide), ← hr_ 10 (by decide)] at hinv
  obtain ⟨⟨l8, u8⟩, ⟨l9, u9⟩, ⟨l10, u10⟩, -⟩ := b_
  have w_ := d_
  subst w_
  have g := rxcLAWK_14_0 hP hin I0 hinv l8 u8 l9 u9 l10 u10
  refine ⟨bx_narP_ok (l := []) g.1, bx_nfP_ok h0_ (fvs := []) (by decide +kernel) g.2.1, ?_, ?_⟩
  · show rxILAWK_15 S0 ws S_p (bx_val [(0, 0), (0, 0), (0, 0), (0, 0), (0, 0), (0, 0), (0, 0), (0, 0), (8, 0), (0, 0)] r_p 8) (bx_val [(0, 0), (0, 0), (0, 0), (0, 0), (0, 0), (0, 0), (0, 0), (0, 0), (8, 0), (0, 0)] r_p 9)
    rw [bx_val_x (n := 8) (e := (8, 0)) h0_ rfl, bx_val_x (n := 9) (e := (0, 0)) h0_ rfl]
    exact g.2.2.1
  · show rxmLAWK_15 S0 ws S_p (bx_val [(0, 0), (0, 0), (0, 0), (0, 0), (0, 0), (0, 0), (0, 0), (0, 0), (8, 0), (0, 0)] r_p 8) (bx_val [(0, 0), (0, 0), (0, 0), (0, 0), (0, 0), (0, 0), (0, 0), (0, 0), (8, 0), (0, 0)] r_p 9) < rxmLAWK_14 S0 ws S_p (r 8) (r 9) (r 10)
    rw [bx_val_x (n := 8) (e := (8, 0)) h0_ rfl, bx_val_x (n := 9) (e := (0, 0)) h0_ rfl, ← hr_ 8 (by decide), ← hr_ 9 (by decide), ← hr_ 10 (by decide)]
    exact g.2.2.2
theorem rxcLAWK_15_0 {S0 : Nat → Int → Int} {ws : List Int} {S : Nat → Int → Int} {base i x10 x11 x12 x13 : Int} (hP : rxPLAWK S0 ws) (hin : bx_same rxL (bx_mdl rxC242.2.2.1) S0 S) (I0 : bx_Inv rxL S) (hinv : rxILAWK_15 S0 ws S base i) (l8 : 780 ≤ base) (u8 : base ≤ 5280) (l9 : 0 ≤ i) (u9 : i ≤ 95) (l10 : 0 ≤ x10) (u10 : x10 ≤ 12) (l11 : 1 ≤ x11) (u11 : x11 ≤ 96) (l12 : 782 ≤ x12) (u12 : x12 ≤ 5377) (l13 : 0 ≤ x13) (u13 : x13 ≤ 400) (f0 : x12 = base + 2 + i) (f1 : i < x11) (f2 : x11 = 8 * (x10)) (e1 : S 480 16 = x10) (e0 : S 486 i = x13) : (True) ∧ (True) ∧ rxILAWK_16 S0 ws S base i x12 x13 ∧ rxmLAWK_16 S0 ws S base i x12 x13 < rxmLAWK_15 S0 ws S base i := by
  obtain ⟨hI, hx⟩ := hinv
  obtain ⟨a_, b_, c_, d_⟩ := rxcLAWX_15_0 hP hin I0 hI l8 u8 l9 u9 l10 u10 l11 u11 l12 u12 l13 u13 f0 f1 f2 e1 e0
  exact ⟨a_, b_, ⟨c_, hx⟩, d_⟩
theorem rxgLAWK_15_0 {X : (Nat → Int → Int) → Prop} {S0 : Nat → Int → Int} {ws : List Int} (hP : rxPLAWK S0 ws) : bx_obC rxL X S0 rxC242.2.2.1 (rxILAWK S0 ws) (rxmLAWK S0 ws) 15 rxzLAWK_15 rxoLAWK_15_0 := by
  intro S S_p r r_p hinv hX hin hsm_ hseg
  obtain ⟨I0, I1, h0_, hr_, b_, f_, d_⟩ := bx_cl (evs := [(0, (0, 486), (9, 0), .inr (0, (13, 0))), (0, (0, 480), (0, 16), .inr (0, (10, 0)))]) (fvs := [(5, (12, 0), (8, 2), (9, 0)), (0, (9, 0), (11, 0), (0, 0)), (4, (11, 0), (10, 0), (0, 8))]) hseg (by decide +kernel) (by decide +kernel)
  have hinv : rxILAWK_15 S0 ws S (r 8) (r 9) := hinv
  rw [← hr_ 8 (by decide), ← hr_ 9 (by decide)] at hinv
  obtain ⟨⟨l8, u8⟩, ⟨l9, u9⟩, ⟨l10, u10⟩, ⟨l11, u11⟩, ⟨l12, u12⟩, ⟨l13, u13⟩, -⟩ := b_
  obtain ⟨f0, f1, f2, -⟩ := f_
  obtain ⟨e0, ⟨e1, w_⟩⟩ := d_
  subst w_
  have g := rxcLAWK_15_0 hP hin I0 hinv l8 u8 l9 u9 l10 u10 l11 u11 l12 u12 l13 u13 f0 f1 f2 e1 e0
  refine ⟨bx_narP_ok (l := []) g.1, bx_nfP_ok h0_ (fvs := []) (by decide +kernel) g.2.1, ?_, ?_⟩
  · show rxILAWK_16 S0 ws S_p (bx_val [(0, 0), (0, 0), (0, 0), (0, 0), (0, 0), (0, 0), (0, 0), (0, 0), (8, 0), (9, 0), (12, 0), (13, 0)] r_p 8) (bx_val [(0, 0), (0, 0), (0, 0), (0, 0), (0, 0), (0, 0), (0, 0), (0, 0), (8, 0), (9, 0), (12, 0), (13, 0)] r_p 9) (bx_val [(0, 0), (0, 0), (0, 0), (0, 0), (0, 0), (0, 0), (0, 0), (0, 0), (8, 0), (9, 0), (12, 0), (13, 0)] r_p 10) (bx_val [(0, 0), (0, 0), (0, 0), (0, 0), (0, 0), (0, 0), (0, 0), (0, 0), (8, 0), (9, 0), (12, 0), (13, 0)] r_p 11)
    rw [bx_val_x (n := 8) (e := (8, 0)) h0_ rfl, bx_val_x (n := 9) (e := (9, 0)) h0_ rfl, bx_val_x (n := 10) (e := (12, 0)) h0_ rfl, bx_val_x (n := 11) (e := (13, 0)) h0_ rfl]
    exact g.2.2.1
  · show rxmLAWK_16 S0 ws S_p (bx_val [(0, 0), (0, 0), (0, 0), (0, 0), (0, 0), (0, 0), (0, 0), (0, 0), (8, 0), (9, 0), (12, 0), (13, 0)] r_p 8) (bx_val [(0, 0), (0, 0), (0, 0), (0, 0), (0, 0), (0, 0), (0, 0), (0, 0), (8, 0), (9, 0), (12, 0), (13, 0)] r_p 9) (bx_val [(0, 0), (0, 0), (0, 0), (0, 0), (0, 0), (0, 0), (0, 0), (0, 0), (8, 0), (9, 0), (12, 0), (13, 0)] r_p 10) (bx_val [(0, 0), (0, 0), (0, 0), (0, 0), (0, 0), (0, 0), (0, 0), (0, 0), (8, 0), (9, 0), (12, 0), (13, 0)] r_p 11) < rxmLAWK_15 S0 ws S_p (r 8) (r 9)
    rw [bx_val_x (n := 8) (e := (8, 0)) h0_ rfl, bx_val_x (n := 9) (e := (9, 0)) h0_ rfl, bx_val_x (n := 10) (e := (12, 0)) h0_ rfl, bx_val_x (n := 11) (e := (13, 0)) h0_ rfl, ← hr_ 8 (by decide), ← hr_ 9 (by decide)]
    exact g.2.2.2
theorem rxcLAWK_15_1 {S0 : Nat → Int → Int} {ws : List Int} {S : Nat → Int → Int} {base i x10 x11 : Int} (hP : rxPLAWK S0 ws) (hin : bx_same rxL (bx_mdl rxC242.2.2.1) S0 S) (I0 : bx_Inv rxL S) (hinv : rxILAWK_15 S0 ws S base i) (l8 : 780 ≤ base) (u8 : base ≤ 5280) (l9 : 0 ≤ i) (u9 : i ≤ 96) (l10 : 0 ≤ x10) (u10 : x10 ≤ 12) (l11 : 0 ≤ x11) (u11 : x11 ≤ 96) (f0 : x11 ≤ i) (f1 : x11 = 8 * (x10)) (e0 : S 480 16 = x10) : (True) ∧ (True) ∧ rxILAWK_18 S0 ws S base 0 ∧ rxmLAWK_18 S0 ws S base 0 < rxmLAWK_15 S0 ws S base i := by
  obtain ⟨hI, hx⟩ := hinv
  obtain ⟨a_, b_, c_, d_⟩ := rxcLAWX_15_1 hP hin I0 hI l8 u8 l9 u9 l10 u10 l11 u11 f0 f1 e0
  exact ⟨a_, b_, ⟨c_, hx⟩, d_⟩
theorem rxgLAWK_15_1 {X : (Nat → Int → Int) → Prop} {S0 : Nat → Int → Int} {ws : List Int} (hP : rxPLAWK S0 ws) : bx_obC rxL X S0 rxC242.2.2.1 (rxILAWK S0 ws) (rxmLAWK S0 ws) 15 rxzLAWK_15 rxoLAWK_15_1 := by
  intro S S_p r r_p hinv hX hin hsm_ hseg
  obtain ⟨I0, I1, h0_, hr_, b_, f_, d_⟩ := bx_cl (evs := [(0, (0, 480), (0, 16), .inr (0, (10, 0)))]) (fvs := [(1, (11, 0), (9, 0), (0, 0)), (4, (11, 0), (10, 0), (0, 8))]) hseg (by decide +kernel) (by decide +kernel)
  have hinv : rxILAWK_15 S0 ws S (r 8) (r 9) := hinv
  rw [← hr_ 8 (by decide), ← hr_ 9 (by decide)] at hinv
  obtain ⟨⟨l8, u8⟩, ⟨l9, u9⟩, ⟨l10, u10⟩, ⟨l11, u11⟩, -⟩ := b_
  obtain ⟨f0, f1, -⟩ := f_
  obtain ⟨e0, w_⟩ := d_
  subst w_
  have g := rxcLAWK_15_1 hP hin I0 hinv l8 u8 l9 u9 l10 u10 l11 u11 f0 f1 e0
  refine ⟨bx_narP_ok (l := []) g.1, bx_nfP_ok h0_ (fvs := []) (by decide +kernel) g.2.1, ?_, ?_⟩
  · show rxILAWK_18 S0 ws S_p (bx_val [(0, 0), (0, 0), (0, 0), (0, 0), (0, 0), (0, 0), (0, 0), (0, 0), (8, 0), (0, 0)] r_p 8) (bx_val [(0, 0), (0, 0), (0, 0), (0, 0), (0, 0), (0, 0), (0, 0), (0, 0), (8, 0), (0, 0)] r_p 9)
    rw [bx_val_x (n := 8) (e := (8, 0)) h0_ rfl, bx_val_x (n := 9) (e := (0, 0)) h0_ rfl]
    exact g.2.2.1
  · show rxmLAWK_18 S0 ws S_p (bx_val [(0, 0), (0, 0), (0, 0), (0, 0), (0, 0), (0, 0), (0, 0), (0, 0), (8, 0), (0, 0)] r_p 8) (bx_val [(0, 0), (0, 0), (0, 0), (0, 0), (0, 0), (0, 0), (0, 0), (0, 0), (8, 0), (0, 0)] r_p 9) < rxmLAWK_15 S0 ws S_p (r 8) (r 9)
    rw [bx_val_x (n := 8) (e := (8, 0)) h0_ rfl, bx_val_x (n := 9) (e := (0, 0)) h0_ rfl, ← hr_ 8 (by decide), ← hr_ 9 (by decide)]
    exact g.2.2.2
theorem rxcLAWK_17_0 {S0 : Nat → Int → Int} {ws : List Int} {S : Nat → Int → Int} {base i a v : Int} (hP : rxPLAWK S0 ws) (hin : bx_same rxL (bx_mdl rxC242.2.2.1) S0 S) (I0 : bx_Inv rxL S) (hinv : rxILAWK_17 S0 ws S base i a v) (l8 : 780 ≤ base) (u8 : base ≤ 5280) (l9 : 0 ≤ i) (u9 : i ≤ 95) (l10 : 782 ≤ a) (u10 : a ≤ 5377) (l11 : 0 ≤ v) (u11 : v ≤ 400) : (True) ∧ (True) ∧ rxILAWK_15 S0 ws S base (i + 1) ∧ rxmLAWK_15 S0 ws S base (i + 1) < rxmLAWK_17 S0 ws S base i a v := by
  obtain ⟨hI, hx⟩ := hinv
  obtain ⟨a_, b_, c_, d_⟩ := rxcLAWX_17_0 hP hin I0 hI l8 u8 l9 u9 l10 u10 l11 u11
  exact ⟨a_, b_, ⟨c_, hx⟩, d_⟩
theorem rxgLAWK_17_0 {X : (Nat → Int → Int) → Prop} {S0 : Nat → Int → Int} {ws : List Int} (hP : rxPLAWK S0 ws) : bx_obC rxL X S0 rxC242.2.2.1 (rxILAWK S0 ws) (rxmLAWK S0 ws) 17 rxzLAWK_17 rxoLAWK_17_0 := by
  intro S S_p r r_p hinv hX hin hsm_ hseg
  obtain ⟨I0, I1, h0_, hr_, b_, f_, d_⟩ := bx_cl (evs := []) (fvs := []) hseg (by decide +kernel) (by decide +kernel)
  have hinv : rxILAWK_17 S0 ws S (r 8) (r 9) (r 10) (r 11) := hinv
  rw [← hr_ 8 (by decide), ← hr_ 9 (by decide), ← hr_ 10 (by decide), ← hr_ 11 (by decide)] at hinv
  obtain ⟨⟨l8, u8⟩, ⟨l9, u9⟩, ⟨l10, u10⟩, ⟨l11, u11⟩, -⟩ := b_
  have w_ := d_
  subst w_
  have g := rxcLAWK_17_0 hP hin I0 hinv l8 u8 l9 u9 l10 u10 l11 u11
  refine ⟨bx_narP_ok (l := []) g.1, bx_nfP_ok h0_ (fvs := []) (by decide +kernel) g.2.1, ?_, ?_⟩
  · show rxILAWK_15 S0 ws S_p (bx_val [(0, 0), (0, 0), (0, 0), (0, 0), (0, 0), (0, 0), (0, 0), (0, 0), (8, 0), (9, 1)] r_p 8) (bx_val [(0, 0), (0, 0), (0, 0), (0, 0), (0, 0), (0, 0), (0, 0), (0, 0), (8, 0), (9, 1)] r_p 9)
    rw [bx_val_x (n := 8) (e := (8, 0)) h0_ rfl, bx_val_x (n := 9) (e := (9, 1)) h0_ rfl]
    exact g.2.2.1
  · show rxmLAWK_15 S0 ws S_p (bx_val [(0, 0), (0, 0), (0, 0), (0, 0), (0, 0), (0, 0), (0, 0), (0, 0), (8, 0), (9, 1)] r_p 8) (bx_val [(0, 0), (0, 0), (0, 0), (0, 0), (0, 0), (0, 0), (0, 0), (0, 0), (8, 0), (9, 1)] r_p 9) < rxmLAWK_17 S0 ws S_p (r 8) (r 9) (r 10) (r 11)
    rw [bx_val_x (n := 8) (e := (8, 0)) h0_ rfl, bx_val_x (n := 9) (e := (9, 1)) h0_ rfl, ← hr_ 8 (by decide), ← hr_ 9 (by decide), ← hr_ 10 (by decide), ← hr_ 11 (by decide)]
    exact g.2.2.2
theorem rxcLAWK_18_0 {S0 : Nat → Int → Int} {ws : List Int} {S : Nat → Int → Int} {base i x10 x11 x12 x13 : Int} (hP : rxPLAWK S0 ws) (hin : bx_same rxL (bx_mdl rxC242.2.2.1) S0 S) (I0 : bx_Inv rxL S) (hinv : rxILAWK_18 S0 ws S base i) (l8 : 780 ≤ base) (u8 : base ≤ 5280) (l9 : 0 ≤ i) (u9 : i ≤ 399) (l10 : 1 ≤ x10) (u10 : x10 ≤ 400) (l11 : 0 ≤ x11) (u11 : x11 ≤ 798) (l12 : 878 ≤ x12) (u12 : x12 ≤ 6176) (l13 : 0 ≤ x13) (u13 : x13 ≤ 30) (f0 : x12 = base + 98 + x11) (f1 : x11 = 2 * (i)) (f2 : i < x10) (e1 : S 480 18 = x10) (e0 : S 487 i = x13) : (True) ∧ (True) ∧ rxILAWK_19 S0 ws S base i x12 x13 ∧ rxmLAWK_19 S0 ws S base i x12 x13 < rxmLAWK_18 S0 ws S base i := by
  obtain ⟨hI, hx⟩ := hinv
  obtain ⟨a_, b_, c_, d_⟩ := rxcLAWX_18_0 hP hin I0 hI l8 u8 l9 u9 l10 u10 l11 u11 l12 u12 l13 u13 f0 f1 f2 e1 e0
  exact ⟨a_, b_, ⟨c_, hx⟩, d_⟩
theorem rxgLAWK_18_0 {X : (Nat → Int → Int) → Prop} {S0 : Nat → Int → Int} {ws : List Int} (hP : rxPLAWK S0 ws) : bx_obC rxL X S0 rxC242.2.2.1 (rxILAWK S0 ws) (rxmLAWK S0 ws) 18 rxzLAWK_18 rxoLAWK_18_0 := by
  intro S S_p r r_p hinv hX hin hsm_ hseg
  obtain ⟨I0, I1, h0_, hr_, b_, f_, d_⟩ := bx_cl (evs := [(0, (0, 487), (9, 0), .inr (0, (13, 0))), (0, (0, 480), (0, 18), .inr (0, (10, 0)))]) (fvs := [(5, (12, 0), (8, 98), (11, 0)), (4, (11, 0), (9, 0), (0, 2)), (0, (9, 0), (10, 0), (0, 0))]) hseg (by decide +kernel) (by decide +kernel)
  have hinv : rxILAWK_18 S0 ws S (r 8) (r 9) := hinv
  rw [← hr_ 8 (by decide), ← hr_ 9 (by decide)] at hinv
  obtain ⟨⟨l8, u8⟩, ⟨l9, u9⟩, ⟨l10, u10⟩, ⟨l11, u11⟩, ⟨l12, u12⟩, ⟨l13, u13⟩, -⟩ := b_
  obtain ⟨f0, f1, f2, -⟩ := f_
  obtain ⟨e0, ⟨e1, w_⟩⟩ := d_
  subst w_
  have g := rxcLAWK_18_0 hP hin I0 hinv l8 u8 l9 u9 l10 u10 l11 u11 l12 u12 l13 u13 f0 f1 f2 e1 e0
  refine ⟨bx_narP_ok (l := []) g.1, bx_nfP_ok h0_ (fvs := []) (by decide +kernel) g.2.1, ?_, ?_⟩
  · show rxILAWK_19 S0 ws S_p (bx_val [(0, 0), (0, 0), (0, 0), (0, 0), (0, 0), (0, 0), (0, 0), (0, 0), (8, 0), (9, 0), (12, 0), (13, 0)] r_p 8) (bx_val [(0, 0), (0, 0), (0, 0), (0, 0), (0, 0), (0, 0), (0, 0), (0, 0), (8, 0), (9, 0), (12, 0), (13, 0)] r_p 9) (bx_val [(0, 0), (0, 0), (0, 0), (0, 0), (0, 0), (0, 0), (0, 0), (0, 0), (8, 0), (9, 0), (12, 0), (13, 0)] r_p 10) (bx_val [(0, 0), (0, 0), (0, 0), (0, 0), (0, 0), (0, 0), (0, 0), (0, 0), (8, 0), (9, 0), (12, 0), (13, 0)] r_p 11)
    rw [bx_val_x (n := 8) (e := (8, 0)) h0_ rfl, bx_val_x (n := 9) (e := (9, 0)) h0_ rfl, bx_val_x (n := 10) (e := (12, 0)) h0_ rfl, bx_val_x (n := 11) (e := (13, 0)) h0_ rfl]
    exact g.2.2.1
  · show rxmLAWK_19 S0 ws S_p (bx_val [(0, 0), (0, 0), (0, 0), (0, 0), (0, 0), (0, 0), (0, 0), (0, 0), (8, 0), (9, 0), (12, 0), (13, 0)] r_p 8) (bx_val [(0, 0), (0, 0), (0, 0), (0, 0), (0, 0), (0, 0), (0, 0), (0, 0), (8, 0), (9, 0), (12, 0), (13, 0)] r_p 9) (bx_val [(0, 0), (0, 0), (0, 0), (0, 0), (0, 0), (0, 0), (0, 0), (0, 0), (8, 0), (9, 0), (12, 0), (13, 0)] r_p 10) (bx_val [(0, 0), (0, 0), (0, 0), (0, 0), (0, 0), (0, 0), (0, 0), (0, 0), (8, 0), (9, 0), (12, 0), (13, 0)] r_p 11) < rxmLAWK_18 S0 ws S_p (r 8) (r 9)
    rw [bx_val_x (n := 8) (e := (8, 0)) h0_ rfl, bx_val_x (n := 9) (e := (9, 0)) h0_ rfl, bx_val_x (n := 10) (e := (12, 0)) h0_ rfl, bx_val_x (n := 11) (e := (13, 0)) h0_ rfl, ← hr_ 8 (by decide), ← hr_ 9 (by decide)]
    exact g.2.2.2
theorem rxcLAWK_18_1 {S0 : Nat → Int → Int} {ws : List Int} {S : Nat → Int → Int} {base i x10 x11 : Int} (hP : rxPLAWK S0 ws) (hin : bx_same rxL (bx_mdl rxC242.2.2.1) S0 S) (I0 : bx_Inv rxL S) (hinv : rxILAWK_18 S0 ws S base i) (l8 : 780 ≤ base) (u8 : base ≤ 5280) (l9 : 0 ≤ i) (u9 : i ≤ 400) (l10 : 0 ≤ x10) (u10 : x10 ≤ 400) (l11 : 0 ≤ x11) (u11 : x11 ≤ 6) (f0 : x10 ≤ i) (e1 : S 480 18 = x10) (e0 : S 482 3 = x11) : ((0 ≤ x11 ∧ x11 ≤ 5) ∧ True) ∧ (True) ∧ rxILAWK_23 S0 ws S x11 ∧ rxmLAWK_23 S0 ws S x11 < rxmLAWK_18 S0 ws S base i := by
  obtain ⟨hI, hx⟩ := hinv
  obtain ⟨a_, b_, c_, d_⟩ := rxcLAWX_18_1 hP hin I0 hI l8 u8 l9 u9 l10 u10 l11 u11 f0 e1 e0
  exact ⟨a_, b_, ⟨c_, (by
    intro c
    obtain ⟨h1, h2, h3, h4⟩ := hI.1
    exact rkMt_of (hx c) h2 h3 (fun j x y => h4 j x (by omega)) (rxBox16 I0).2 (rxBox18 I0).2)⟩, d_⟩
theorem rxgLAWK_18_1 {X : (Nat → Int → Int) → Prop} {S0 : Nat → Int → Int} {ws : List Int} (hP : rxPLAWK S0 ws) : bx_obC rxL X S0 rxC242.2.2.1 (rxILAWK S0 ws) (rxmLAWK S0 ws) 18 rxzLAWK_18 rxoLAWK_18_1 := by
  intro S S_p r r_p hinv hX hin hsm_ hseg
  obtain ⟨I0, I1, h0_, hr_, b_, f_, d_⟩ := bx_cl (evs := [(0, (0, 482), (0, 3), .inr (0, (11, 0))), (0, (0, 480), (0, 18), .inr (0, (10, 0)))]) (fvs := [(1, (10, 0), (9, 0), (0, 0))]) hseg (by decide +kernel) (by decide +kernel)
  have hinv : rxILAWK_18 S0 ws S (r 8) (r 9) := hinv
  rw [← hr_ 8 (by decide), ← hr_ 9 (by decide)] at hinv
  obtain ⟨⟨l8, u8⟩, ⟨l9, u9⟩, ⟨l10, u10⟩, ⟨l11, u11⟩, -⟩ := b_
  obtain ⟨f0, -⟩ := f_
  obtain ⟨e0, ⟨e1, w_⟩⟩ := d_
  subst w_
  have g := rxcLAWK_18_1 hP hin I0 hinv l8 u8 l9 u9 l10 u10 l11 u11 f0 e1 e0
  refine ⟨bx_narP_ok (l := [(11, 0, 5)]) g.1, bx_nfP_ok h0_ (fvs := []) (by decide +kernel) g.2.1, ?_, ?_⟩
  · show rxILAWK_23 S0 ws S_p (bx_val [(0, 0), (0, 0), (0, 0), (0, 0), (0, 0), (0, 0), (0, 0), (0, 0), (11, 0)] r_p 8)
    rw [bx_val_x (n := 8) (e := (11, 0)) h0_ rfl]
    exact g.2.2.1
  · show rxmLAWK_23 S0 ws S_p (bx_val [(0, 0), (0, 0), (0, 0), (0, 0), (0, 0), (0, 0), (0, 0), (0, 0), (11, 0)] r_p 8) < rxmLAWK_18 S0 ws S_p (r 8) (r 9)
    rw [bx_val_x (n := 8) (e := (11, 0)) h0_ rfl, ← hr_ 8 (by decide), ← hr_ 9 (by decide)]
    exact g.2.2.2
theorem rxcLAWK_20_0 {S0 : Nat → Int → Int} {ws : List Int} {S : Nat → Int → Int} {base i a v x12 x13 x14 : Int} (hP : rxPLAWK S0 ws) (hin : bx_same rxL (bx_mdl rxC242.2.2.1) S0 S) (I0 : bx_Inv rxL S) (hinv : rxILAWK_20 S0 ws S base i a v) (l8 : 780 ≤ base) (u8 : base ≤ 5280) (l9 : 0 ≤ i) (u9 : i ≤ 399) (l10 : 878 ≤ a) (u10 : a ≤ 6176) (l11 : 0 ≤ v) (u11 : v ≤ 30) (l12 : 0 ≤ x12) (u12 : x12 ≤ 798) (l13 : 878 ≤ x13) (u13 : x13 ≤ 6176) (l14 : 0 ≤ x14) (u14 : x14 ≤ 1000) (f0 : x13 = base + 98 + x12) (f1 : x12 = 2 * (i)) (e0 : S 488 i = x14) : (True) ∧ (True) ∧ rxILAWK_21 S0 ws S base i (x13 + 1) x14 ∧ rxmLAWK_21 S0 ws S base i (x13 + 1) x14 < rxmLAWK_20 S0 ws S base i a v := by
  obtain ⟨hI, hx⟩ := hinv
  obtain ⟨a_, b_, c_, d_⟩ := rxcLAWX_20_0 hP hin I0 hI l8 u8 l9 u9 l10 u10 l11 u11 l12 u12 l13 u13 l14 u14 f0 f1 e0
  exact ⟨a_, b_, ⟨c_, hx⟩, d_⟩
theorem rxgLAWK_20_0 {X : (Nat → Int → Int) → Prop} {S0 : Nat → Int → Int} {ws : List Int} (hP : rxPLAWK S0 ws) : bx_obC rxL X S0 rxC242.2.2.1 (rxILAWK S0 ws) (rxmLAWK S0 ws) 20 rxzLAWK_20 rxoLAWK_20_0 := by
  intro S S_p r r_p hinv hX hin hsm_ hseg
  obtain ⟨I0, I1, h0_, hr_, b_, f_, d_⟩ := bx_cl (evs := [(0, (0, 488), (9, 0), .inr (0, (14, 0)))]) (fvs := [(5, (13, 0), (8, 98), (12, 0)), (4, (12, 0), (9, 0), (0, 2))]) hseg (by decide +kernel) (by decide +kernel)
  have hinv : rxILAWK_20 S0 ws S (r 8) (r 9) (r 10) (r 11) := hinv
  rw [← hr_ 8 (by decide), ← hr_ 9 (by decide), ← hr_ 10 (by decide), ← hr_ 11 (by decide)] at hinv
  obtain ⟨⟨l8, u8⟩, ⟨l9, u9⟩, ⟨l10, u10⟩, ⟨l11, u11⟩, ⟨l12, u12⟩, ⟨l13, u13⟩, ⟨l14, u14⟩, -⟩ := b_
  obtain ⟨f0, f1, -⟩ := f_
  obtain ⟨e0, w_⟩ := d_
  subst w_
  have g := rxcLAWK_20_0 hP hin I0 hinv l8 u8 l9 u9 l10 u10 l11 u11 l12 u12 l13 u13 l14 u14 f0 f1 e0
  refine ⟨bx_narP_ok (l := []) g.1, bx_nfP_ok h0_ (fvs := []) (by decide +kernel) g.2.1, ?_, ?_⟩
  · show rxILAWK_21 S0 ws S_p (bx_val [(0, 0), (0, 0), (0, 0), (0, 0), (0, 0), (0, 0), (0, 0), (0, 0), (8, 0), (9, 0), (13, 1), (14, 0)] r_p 8) (bx_val [(0, 0), (0, 0), (0, 0), (0, 0), (0, 0), (0, 0), (0, 0), (0, 0), (8, 0), (9, 0), (13, 1), (14, 0)] r_p 9) (bx_val [(0, 0), (0, 0), (0, 0), (0, 0), (0, 0), (0, 0), (0, 0), (0, 0), (8, 0), (9, 0), (13, 1), (14, 0)] r_p 10) (bx_val [(0, 0), (0, 0), (0, 0), (0, 0), (0, 0), (0, 0), (0, 0), (0, 0), (8, 0), (9, 0), (13, 1), (14, 0)] r_p 11)
    rw [bx_val_x (n := 8) (e := (8, 0)) h0_ rfl, bx_val_x (n := 9) (e := (9, 0)) h0_ rfl, bx_val_x (n := 10) (e := (13, 1)) h0_ rfl, bx_val_x (n := 11) (e := (14, 0)) h0_ rfl]
    exact g.2.2.1
  · show rxmLAWK_21 S0 ws S_p (bx_val [(0, 0), (0, 0), (0, 0), (0, 0), (0, 0), (0, 0), (0, 0), (0, 0), (8, 0), (9, 0), (13, 1), (14, 0)] r_p 8) (bx_val [(0, 0), (0, 0), (0, 0), (0, 0), (0, 0), (0, 0), (0, 0), (0, 0), (8, 0), (9, 0), (13, 1), (14, 0)] r_p 9) (bx_val [(0, 0), (0, 0), (0, 0), (0, 0), (0, 0), (0, 0), (0, 0), (0, 0), (8, 0), (9, 0), (13, 1), (14, 0)] r_p 10) (bx_val [(0, 0), (0, 0), (0, 0), (0, 0), (0, 0), (0, 0), (0, 0), (0, 0), (8, 0), (9, 0), (13, 1), (14, 0)] r_p 11) < rxmLAWK_20 S0 ws S_p (r 8) (r 9) (r 10) (r 11)
    rw [bx_val_x (n := 8) (e := (8, 0)) h0_ rfl, bx_val_x (n := 9) (e := (9, 0)) h0_ rfl, bx_val_x (n := 10) (e := (13, 1)) h0_ rfl, bx_val_x (n := 11) (e := (14, 0)) h0_ rfl, ← hr_ 8 (by decide), ← hr_ 9 (by decide), ← hr_ 10 (by decide), ← hr_ 11 (by decide)]
    exact g.2.2.2
theorem rxcLAWK_22_0 {S0 : Nat → Int → Int} {ws : List Int} {S : Nat → Int → Int} {base i a v : Int} (hP : rxPLAWK S0 ws) (hin : bx_same rxL (bx_mdl rxC242.2.2.1) S0 S) (I0 : bx_Inv rxL S) (hinv : rxILAWK_22 S0 ws S base i a v) (l8 : 780 ≤ base) (u8 : base ≤ 5280) (l9 : 0 ≤ i) (u9 : i ≤ 399) (l10 : 879 ≤ a) (u10 : a ≤ 6177) (l11 : 0 ≤ v) (u11 : v ≤ 1000) : (True) ∧ (True) ∧ rxILAWK_18 S0 ws S base (i + 1) ∧ rxmLAWK_18 S0 ws S base (i + 1) < rxmLAWK_22 S0 ws S base i a v := by
  obtain ⟨hI, hx⟩ := hinv
  obtain ⟨a_, b_, c_, d_⟩ := rxcLAWX_22_0 hP hin I0 hI l8 u8 l9 u9 l10 u10 l11 u11
  exact ⟨a_, b_, ⟨c_, hx⟩, d_⟩
theorem rxgLAWK_22_0 {X : (Nat → Int → Int) → Prop} {S0 : Nat → Int → Int} {ws : List Int} (hP : rxPLAWK S0 ws) : bx_obC rxL X S0 rxC242.2.2.1 (rxILAWK S0 ws) (rxmLAWK S0 ws) 22 rxzLAWK_22 rxoLAWK_22_0 := by
  intro S S_p r r_p hinv hX hin hsm_ hseg
  obtain ⟨I0, I1, h0_, hr_, b_, f_, d_⟩ := bx_cl (evs := []) (fvs := []) hseg (by decide +kernel) (by decide +kernel)
  have hinv : rxILAWK_22 S0 ws S (r 8) (r 9) (r 10) (r 11) := hinv
  rw [← hr_ 8 (by decide), ← hr_ 9 (by decide), ← hr_ 10 (by decide), ← hr_ 11 (by decide)] at hinv
  obtain ⟨⟨l8, u8⟩, ⟨l9, u9⟩, ⟨l10, u10⟩, ⟨l11, u11⟩, -⟩ := b_
  have w_ := d_
  subst w_
  have g := rxcLAWK_22_0 hP hin I0 hinv l8 u8 l9 u9 l10 u10 l11 u11
  refine ⟨bx_narP_ok (l := []) g.1, bx_nfP_ok h0_ (fvs := []) (by decide +kernel) g.2.1, ?_, ?_⟩
  · show rxILAWK_18 S0 ws S_p (bx_val [(0, 0), (0, 0), (0, 0), (0, 0), (0, 0), (0, 0), (0, 0), (0, 0), (8, 0), (9, 1)] r_p 8) (bx_val [(0, 0), (0, 0), (0, 0), (0, 0), (0, 0), (0, 0), (0, 0), (0, 0), (8, 0), (9, 1)] r_p 9)
    rw [bx_val_x (n := 8) (e := (8, 0)) h0_ rfl, bx_val_x (n := 9) (e := (9, 1)) h0_ rfl]
    exact g.2.2.1
  · show rxmLAWK_18 S0 ws S_p (bx_val [(0, 0), (0, 0), (0, 0), (0, 0), (0, 0), (0, 0), (0, 0), (0, 0), (8, 0), (9, 1)] r_p 8) (bx_val [(0, 0), (0, 0), (0, 0), (0, 0), (0, 0), (0, 0), (0, 0), (0, 0), (8, 0), (9, 1)] r_p 9) < rxmLAWK_22 S0 ws S_p (r 8) (r 9) (r 10) (r 11)
    rw [bx_val_x (n := 8) (e := (8, 0)) h0_ rfl, bx_val_x (n := 9) (e := (9, 1)) h0_ rfl, ← hr_ 8 (by decide), ← hr_ 9 (by decide), ← hr_ 10 (by decide), ← hr_ 11 (by decide)]
    exact g.2.2.2
theorem rxdLAWK_23_0 {S0 : Nat → Int → Int} {ws : List Int} {S : Nat → Int → Int} {n3 : Int} (hP : rxPLAWK S0 ws) (hin : bx_same rxL (bx_mdl rxC242.2.2.1) S0 S) (hin2 : bx_same rxL (bx_mdl rxC242.2.2.1) S (bx_up (bx_up S 482 3 (n3 + 1)) 480 1 0)) (I0 : bx_Inv rxL S) (I1 : bx_Inv rxL (bx_up (bx_up S 482 3 (n3 + 1)) 480 1 0)) (hinv : rxILAWK_23 S0 ws S n3) (l8 : 0 ≤ n3) (u8 : n3 ≤ 5) : (True) ∧ rxPSLAWK S0 ws (bx_up (bx_up S 482 3 (n3 + 1)) 480 1 0) (some n3) := by
  obtain ⟨hI, hx⟩ := hinv
  obtain ⟨a_, c_⟩ := rxdLAWX_23_0 hP hin hin2 I0 I1 hI l8 u8
  exact ⟨a_, c_, (by
    intro c
    have hn := hI.2.2.2.1
    exact rkLw_ne (rkLw_of (hx c) (by omega)) (fun j => bx_up_ne (by omega)))⟩
theorem rxfLAWK_23_0 {X : (Nat → Int → Int) → Prop} {S0 : Nat → Int → Int} {ws : List Int} (hP : rxPLAWK S0 ws) : bx_obE rxL X S0 rxC242.2.2.1 (rxILAWK S0 ws) (rxPSLAWK S0 ws) 23 rxzLAWK_23 rxeLAWK_23_0 := by
  intro S S_p r r_p hinv hX hin hsm_ hseg
  obtain ⟨I0, I1, h0_, hr_, b_, f_, d_⟩ := bx_cl (evs := [(1, (0, 480), (0, 1), .inr (0, (0, 0))), (1, (0, 482), (0, 3), .inr (0, (8, 1)))]) (fvs := []) hseg (by decide +kernel) (by decide +kernel)
  have hinv : rxILAWK_23 S0 ws S (r 8) := hinv
  rw [← hr_ 8 (by decide)] at hinv
  obtain ⟨⟨l8, u8⟩, -⟩ := b_
  obtain ⟨T0, ⟨T1, w_, w1⟩, w0⟩ := d_
  subst w0
  subst w1
  subst w_
  have g := rxdLAWK_23_0 hP hin hsm_ I0 I1 hinv l8 u8
  refine ⟨bx_narP_ok (l := []) g.1, ?_⟩
  show rxPSLAWK S0 ws (bx_up (bx_up T1 482 (3) (r_p 8 + 1)) 480 (1) (0)) (some (bx_num r_p (.inr (0, (8, 0)))))
  rw [bx_xv_ok h0_]
  exact g.2
theorem rxgCLAWK {X : (Nat → Int → Int) → Prop} {S0 : Nat → Int → Int} {ws : List Int} (hP : rxPLAWK S0 ws) : bx_allI (fun i q => rxULAWK q = true ∨ bx_allP (fun o => bx_obC rxL X S0 rxC242.2.2.1 (rxILAWK S0 ws) (rxmLAWK S0 ws) i q.1 o) q.2.1) 0 rxYLAWK := ⟨Or.inr ⟨rxgLAWK_0_0 hP, trivial⟩, Or.inl rfl, Or.inr ⟨rxgLAWK_2_0 hP, trivial⟩, Or.inl rfl, Or.inr ⟨rxgLAWK_4_0 hP, rxgLAWK_4_1 hP, rxgLAWK_4_2 hP, rxgLAWK_4_3 hP, trivial⟩, Or.inr ⟨rxgLAWK_5_0 hP, rxgLAWK_5_1 hP, rxgLAWK_5_2 hP, rxgLAWK_5_3 hP, trivial⟩, Or.inl rfl, Or.inr ⟨rxgLAWK_7_0 hP, trivial⟩, Or.inl rfl, Or.inr ⟨rxgLAWK_9_0 hP, trivial⟩, Or.inl rfl, Or.inr ⟨rxgLAWK_11_0 hP, trivial⟩, Or.inr ⟨rxgLAWK_12_0 hP, trivial⟩, Or.inl rfl, Or.inr ⟨rxgLAWK_14_0 hP, trivial⟩, Or.inr ⟨rxgLAWK_15_0 hP, rxgLAWK_15_1 hP, trivial⟩, Or.inl rfl, Or.inr ⟨rxgLAWK_17_0 hP, trivial⟩, Or.inr ⟨rxgLAWK_18_0 hP, rxgLAWK_18_1 hP, trivial⟩, Or.inl rfl, Or.inr ⟨rxgLAWK_20_0 hP, trivial⟩, Or.inl rfl, Or.inr ⟨rxgLAWK_22_0 hP, trivial⟩, Or.inr trivial, trivial⟩
theorem rxgELAWK {X : (Nat → Int → Int) → Prop} {S0 : Nat → Int → Int} {ws : List Int} (hP : rxPLAWK S0 ws) : bx_allI (fun i q => rxULAWK q = true ∨ bx_allP (fun E => bx_obE rxL X S0 rxC242.2.2.1 (rxILAWK S0 ws) (rxPSLAWK S0 ws) i q.1 E) q.2.2) 0 rxYLAWK := ⟨Or.inr ⟨rxfLAWK_0_0 hP, trivial⟩, Or.inl rfl, Or.inr trivial, Or.inl rfl, Or.inr trivial, Or.inr trivial, Or.inl rfl, Or.inr trivial, Or.inl rfl, Or.inr trivial, Or.inl rfl, Or.inr ⟨rxfLAWK_11_0 hP, trivial⟩, Or.inr trivial, Or.inl rfl, Or.inr trivial, Or.inr trivial, Or.inl rfl, Or.inr trivial, Or.inr trivial, Or.inl rfl, Or.inr trivial, Or.inl rfl, Or.inr trivial, Or.inr ⟨rxfLAWK_23_0 hP, trivial⟩, trivial⟩
theorem rxuLAWK {PX : State → Prop} {Dg : va_G} {A : Nat → Prop} {ad xa : Nat → Nat} {l : Launch} {X : (Nat → Int → Int) → Prop} (hPX : rx_PXOK rxNW A PX) (hX : ∀ S S1 : Nat → Int → Int, X S → bx_same rxL (bx_mdl rxC242.2.2.1) S S1 → X S1) (hQBXW : bx_ConP rxG rxNW rxAO PX Dg rxL X vwCl A ad l rxM283 rxCBXW rxPBXW rxPSBXW) (hQRLK : bx_ConP rxG rxNW rxAO PX Dg rxL X vwCl A ad l rxM284 rxCRLK rxPRLK rxPSRLK) (hQNXX : bx_ConP rxG rxNW rxAO PX Dg rxL X vwCl A ad l rxM264 rxCNXX rxPNXX rxPSNXX) (hQETW : bx_ConP rxG rxNW rxAO PX Dg rxL X vwCl A ad l rxM285 rxCETW rxPETW rxPSETW) {S0 : Nat → Int → Int} {ws : List Int} (hP : rxPLAWK S0 ws) : ∀ (i : Nat) (q : bx_HE), rxYLAWK[i]? = some q → rxULAWK q = true → ∀ {p : Program} {e : Env} {R : Room} {s : State} {m : MethodId} {args : Array Value} {below : List Frame} {meth : Method} {c : Code} {Q : State → Prop} {H0 : Heap}, rx_Fr rxG rxNW rxAO PX p s m args meth c rxM242 → (∀ q, H0.size ≤ q → A q) → H0 = s.heap → rxM242.2.2.2.2.2.2.1 ≤ R.cells → rxM242.2.2.2.2.2.2.2 ≤ R.slots → rxC242.2.2.2.1 ≤ R.frames → rxC242.2.2.2.1 * 40 ≤ R.locals → bx_Step p l e R s m args below meth c Q Dg rxL X vwCl A xa H0 ad rxM242 rxYLAWK (rxILAWK S0 ws) (rxmLAWK S0 ws) S0 rxC242.2.2.1 i q := by
  intro i q hq hus p e R s m args below meth c Q H0 hF hA hH0 hmc hms hd hdl
  match i, hq with
  | 0, hq =>
    cases hq
    exact absurd (show false = true from hus) Bool.false_ne_true
  | 1, hq =>
    cases hq
    exact rx_stepC (ins := .invokevirtual 388) (len := 3) (i_p := 2) (M_p := rxM283) (d := rxC242.2.2.2.1) (as := [.inr (3, (0, 480)), .inr (0, (0, 0))]) (t := []) (ct := rxCBXW) hPX hF rfl hA hH0 hmc hms hd hdl (by decide +kernel) rfl rfl (by decide +kernel) (by decide +kernel) hQBXW (by decide +kernel) rfl (Or.inl ⟨rfl, rfl, rfl⟩) (rxsLAWK_1 hP)
  | 2, hq =>
    cases hq
    exact absurd (show false = true from hus) Bool.false_ne_true
  | 3, hq =>
    cases hq
    exact rx_stepC (ins := .invokevirtual 391) (len := 3) (i_p := 4) (M_p := rxM284) (d := rxC242.2.2.2.1) (as := [.inr (3, (0, 480))]) (t := []) (ct := rxCRLK) hPX hF rfl hA hH0 hmc hms hd hdl (by decide +kernel) rfl rfl (by decide +kernel) (by decide +kernel) hQRLK (by decide +kernel) rfl (Or.inl ⟨rfl, rfl, rfl⟩) (rxsLAWK_3 hP)
  | 4, hq =>
    cases hq
    exact absurd (show false = true from hus) Bool.false_ne_true
  | 5, hq =>
    cases hq
    exact absurd (show false = true from hus) Bool.false_ne_true
  | 6, hq =>
    cases hq
    exact rx_stepC (ins := .invokevirtual 253) (len := 3) (i_p := 7) (M_p := rxM264) (d := rxC242.2.2.2.1) (as := [.inr (3, (0, 480))]) (t := []) (ct := rxCNXX) hPX hF rfl hA hH0 hmc hms hd hdl (by decide +kernel) rfl rfl (by decide +kernel) (by decide +kernel) hQNXX (by decide +kernel) rfl (Or.inl ⟨rfl, rfl, rfl⟩) (rxsLAWK_6 hP)
  | 7, hq =>
    cases hq
    exact absurd (show false = true from hus) Bool.false_ne_true
  | 8, hq =>
    cases hq
    exact rx_stepC (ins := .invokevirtual 391) (len := 3) (i_p := 9) (M_p := rxM284) (d := rxC242.2.2.2.1) (as := [.inr (3, (0, 480))]) (t := []) (ct := rxCRLK) hPX hF rfl hA hH0 hmc hms hd hdl (by decide +kernel) rfl rfl (by decide +kernel) (by decide +kernel) hQRLK (by decide +kernel) rfl (Or.inl ⟨rfl, rfl, rfl⟩) (rxsLAWK_8 hP)
  | 9, hq =>
    cases hq
    exact absurd (show false = true from hus) Bool.false_ne_true
  | 10, hq =>
    cases hq
    exact rx_stepC (ins := .invokevirtual 394) (len := 3) (i_p := 11) (M_p := rxM285) (d := rxC242.2.2.2.1) (as := [.inr (3, (0, 480))]) (t := []) (ct := rxCETW) hPX hF rfl hA hH0 hmc hms hd hdl (by decide +kernel) rfl rfl (by decide +kernel) (by decide +kernel) hQETW (by decide +kernel) rfl (Or.inl ⟨rfl, rfl, rfl⟩) (rxsLAWK_10 hP)
  | 11, hq =>
    cases hq
    exact absurd (show false = true from hus) Bool.false_ne_true
  | 12, hq =>
    cases hq
    exact absurd (show false = true from hus) Bool.false_ne_true
  | 13, hq =>
    cases hq
    exact rx_stepS (i_p := 14) (pl := 482) (a := 9) (b := 10) (n := 6180) (g := 63) (lo := 781) (hi := 5281) (ty := (0, 0, 12)) (t := []) hF (by decide +kernel) rfl rfl rfl rfl (by omega) (by omega) (by decide +kernel) rfl rfl (rxsLAWK_13 hP hX)
  | 14, hq =>
    cases hq
    exact absurd (show false = true from hus) Bool.false_ne_true
  | 15, hq =>
    cases hq
    exact absurd (show false = true from hus) Bool.false_ne_true
  | 16, hq =>
    cases hq
    exact rx_stepS (i_p := 17) (pl := 482) (a := 10) (b := 11) (n := 6180) (g := 63) (lo := 782) (hi := 5377) (ty := (0, 0, 400)) (t := []) hF (by decide +kernel) rfl rfl rfl rfl (by omega) (by omega) (by decide +kernel) rfl rfl (rxsLAWK_16 hP hX)
  | 17, hq =>
    cases hq
    exact absurd (show false = true from hus) Bool.false_ne_true
  | 18, hq =>
    cases hq
    exact absurd (show false = true from hus) Bool.false_ne_true
  | 19, hq =>
    cases hq
    exact rx_stepS (i_p := 20) (pl := 482) (a := 10) (b := 11) (n := 6180) (g := 63) (lo := 878) (hi := 6176) (ty := (0, 0, 30)) (t := []) hF (by decide +kernel) rfl rfl rfl rfl (by omega) (by omega) (by decide +kernel) rfl rfl (rxsLAWK_19 hP hX)
  | 20, hq =>
    cases hq
    exact absurd (show false = true from hus) Bool.false_ne_true
  | 21, hq =>
    cases hq
    exact rx_stepS (i_p := 22) (pl := 482) (a := 10) (b := 11) (n := 6180) (g := 63) (lo := 879) (hi := 6177) (ty := (0, 0, 1000)) (t := []) hF (by decide +kernel) rfl rfl rfl rfl (by omega) (by omega) (by decide +kernel) rfl rfl (rxsLAWK_21 hP hX)
  | 22, hq =>
    cases hq
    exact absurd (show false = true from hus) Bool.false_ne_true
  | 23, hq =>
    cases hq
    exact absurd (show false = true from hus) Bool.false_ne_true
  | n + 24, hq => cases hq
theorem rxQLAWK {PX : State → Prop} {Dg : va_G} {A : Nat → Prop} {ad xa : Nat → Nat} {l : Launch} {X : (Nat → Int → Int) → Prop} (hPX : rx_PXOK rxNW A PX) (hsl : ∀ s : State, PX s → ∀ o idx n : Nat, rxSl o idx = some n → ∃ tx : String, vk_R (rxNm o) idx tx (ad n) s)
    (hX : ∀ S S_p : Nat → Int → Int, X S → bx_same rxL (bx_mdl rxC242.2.2.1) S S_p → X S_p)
    (ih : ∀ (j2 : Nat) (ct2 : bx_Ct) (M2 : rx_Mt), ct2 ∈ rxCnE j2 → ct2.2.2.2.1 + 1 ≤ rxC242.2.2.2.1 → rxT.2.2.2.2.2 j2 = some M2 → bx_Con rxG rxNW rxAO PX Dg rxL X vwCl A ad l M2 ct2) (hQBXW : bx_ConP rxG rxNW rxAO PX Dg rxL X vwCl A ad l rxM283 rxCBXW rxPBXW rxPSBXW) (hQRLK : bx_ConP rxG rxNW rxAO PX Dg rxL X vwCl A ad l rxM284 rxCRLK rxPRLK rxPSRLK) (hQNXX : bx_ConP rxG rxNW rxAO PX Dg rxL X vwCl A ad l rxM264 rxCNXX rxPNXX rxPSNXX) (hQETW : bx_ConP rxG rxNW rxAO PX Dg rxL X vwCl A ad l rxM285 rxCETW rxPETW rxPSETW) : bx_ConP rxG rxNW rxAO PX Dg rxL X vwCl A ad l rxM242 rxC242 rxPLAWK rxPSLAWK :=
  rxQof (xa := xa) (Cn := rxCnE) (f := 30000) (j := 242) (tab := rxYLAWK) (us := rxULAWK) hPX hsl hX ih rfl rxYcLAWK rxILAWK rxmLAWK
    (fun S0 ws r I0 I ht0 ht as he he1 hX0 hI0 hP hs ha => by
      have e := he.symm.trans (show bx_ent0 rxNP rxC242.1 bx_I0 [] = some ([(0, 0), (0, 0), (0, 0), (0, 0), (0, 0), (0, 0), (0, 0), (0, 0)], [], [.inr (3, (0, 480))]) from rfl)
      cases e
      subst ha
      have h0 : r 0 = 0 := hs.1
      show rxILAWK_0 S0 _ S0
      refine ⟨⟨⟨rfl, ?_⟩, trivial⟩, trivial⟩
      simp only [List.map_cons, List.map_nil, bx_xv_ok h0]
      rfl)
    (fun S0 ws hP => rxuLAWK (xa := xa) hPX hX hQBXW hQRLK hQNXX hQETW hP) (fun S0 ws hP => rxgCLAWK hP) (fun S0 ws hP => rxgELAWK hP)
