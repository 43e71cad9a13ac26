noncomputable def rxIBGRX_0 (S0 : Nat → Int → Int) (ws : List Int) (S : Nat → Int → Int) (pa ps : Int) : Prop := rxI158_0 S0 ws S pa ps ∧ True
noncomputable def rxmBGRX_0 (S0 : Nat → Int → Int) (ws : List Int) (S : Nat → Int → Int) (pa ps : Int) : Nat := rxm158_0 S0 ws S pa ps
noncomputable def rxzBGRX_0 : rx_Z := ([(0, 0), (0, 0), (0, 0), (0, 0), (0, 0), (0, 0), (0, 0), (0, 0), ((-2147483648), 2147483647), ((-2147483648), 2147483647)], [], [], 0, 0, 0, [(0, .inr (3, (0, 480))), (1, .inr (0, (8, 0))), (2, .inr (0, (9, 0)))], [])
noncomputable def rxIBGRX_1 (S0 : Nat → Int → Int) (ws : List Int) (S : Nat → Int → Int) (pa ps y : Int) : Prop := rxI158_1 S0 ws S pa ps y ∧ True
noncomputable def rxmBGRX_1 (S0 : Nat → Int → Int) (ws : List Int) (S : Nat → Int → Int) (pa ps y : Int) : Nat := rxm158_1 S0 ws S pa ps y
noncomputable def rxzBGRX_1 : rx_Z := ([(0, 0), (0, 0), (0, 0), (0, 0), (0, 0), (0, 0), (0, 0), (0, 0), (0, 5), (0, 7), (0, 300)], [], [], 0, 0, 47, [(0, .inr (3, (0, 480))), (1, .inr (0, (8, 0))), (2, .inr (0, (9, 0)))], [.inr (0, (10, 0)), .inr (0, (0, (-1))), .inr (0, (8, 0)), .inr (0, (9, 0)), .inr (3, (0, 480))])
noncomputable def rxIBGRX_2 (S0 : Nat → Int → Int) (ws : List Int) (S : Nat → Int → Int) (pa ps y r : Int) : Prop := rxI158_2 S0 ws S pa ps y r ∧ (∀ j : Int, 0 ≤ j → j < 6180 → S 482 j = S0 482 j)
noncomputable def rxmBGRX_2 (S0 : Nat → Int → Int) (ws : List Int) (S : Nat → Int → Int) (pa ps y r : Int) : Nat := rxm158_2 S0 ws S pa ps y r
noncomputable def rxzBGRX_2 : rx_Z := ([(0, 0), (0, 0), (0, 0), (0, 0), (0, 0), (0, 0), (0, 0), (0, 0), (0, 5), (0, 7), (0, 300), (0, 1)], [], [], 0, 0, 50, [(0, .inr (3, (0, 480))), (1, .inr (0, (8, 0))), (2, .inr (0, (9, 0)))], [.inr (0, (11, 0))])
noncomputable def rxIBGRX_3 (S0 : Nat → Int → Int) (ws : List Int) (S : Nat → Int → Int) (pa ps v i n2 : Int) : Prop := rxI158_3 S0 ws S pa ps v i n2 ∧ ((∀ t : Int, 0 ≤ t → t < i → S 482 (298 + 36 * v + t) = S0 482 (22 + 36 * pa + t)) ∧ (∀ j : Int, 0 ≤ j → j < 6180 → ¬ (298 + 36 * v ≤ j ∧ j < 334 + 36 * v) → S 482 j = S0 482 j))
noncomputable def rxmBGRX_3 (S0 : Nat → Int → Int) (ws : List Int) (S : Nat → Int → Int) (pa ps v i n2 : Int) : Nat := rxm158_3 S0 ws S pa ps v i n2
noncomputable def rxzBGRX_3 : rx_Z := ([(0, 0), (0, 0), (0, 0), (0, 0), (0, 0), (0, 0), (0, 0), (0, 0), (0, 5), (0, 7), (0, 11), (0, 36), (0, 11)], [], [(((0, 482), 2), .inr (0, (12, 0)))], 0, 0, 83, [(0, .inr (3, (0, 480))), (1, .inr (0, (8, 0))), (2, .inr (0, (9, 0))), (3, .inr (0, (10, 0))), (4, .inr (0, (11, 0)))], [])
noncomputable def rxoBGRX_0_0 : bx_HO := (([(0, 0), (0, 0), (0, 0), (0, 0), (0, 0), (0, 0), (0, 0), (0, 0), (0, 5), (0, 7), (1, 6), (1, 8), (0, 299), (0, 21), (0, 200), (0, 21), (1, 300)], [(1, (12, 0), (16, (-1))), (1, (14, 0), (12, 0)), (7, (15, 0), (9, 0)), (7, (13, 0), (9, 0)), (1, (9, 0), (11, (-1))), (1, (8, 0), (10, (-1)))], [(((0, 0), 1851192626986356845393289190535924022246915575064672065910079488000000), .inr (0, (16, 0))), (((0, 0), 1851192626986356845192576358666543837080751769867903040528449536000000), .inr (0, (14, 0))), (((0, 0), 1851192626986356798829287277884448576027768266202889952714424320000000), .inr (0, (12, 0))), (((0, 482), 7), .inr (0, (12, 0))), (((0, 0), 1851192626986356797625047037163794926384839479479878431391481856000000), .inr (0, (11, 0))), (((0, 482), 1), .inr (0, (11, 0))), (((0, 0), 1851192626986356797424340330377019318111018015026043177837658112000000), .inr (0, (10, 0))), (((0, 482), 0), .inr (0, (10, 0))), (((0, 480), 3), .inr (3, (0, 482))), (((0, 0), 1851192626986356797424340330377019318111018015026043177836478467000000), .inr (0, (0, 0))), (((0, 480), 0), .inr (0, (0, 0)))], 0, 0, 47, [(0, .inr (3, (0, 480))), (1, .inr (0, (8, 0))), (2, .inr (0, (9, 0)))], [.inr (0, (12, 0)), .inr (0, (0, (-1))), .inr (0, (8, 0)), .inr (0, (9, 0)), .inr (3, (0, 480))]), [], [], [(0, 0), (0, 0), (0, 0), (0, 0), (0, 0), (0, 0), (0, 0), (0, 0), (8, 0), (9, 0), (12, 0)], 1)
noncomputable def rxeBGRX_0_0 : rx_End × List (Nat × Int × Int) := (([(0, 0), (0, 0), (0, 0), (0, 0), (0, 0), (0, 0), (0, 0), (0, 0), (0, 5), (0, 7), (1, 6), (1, 8), (0, 300), (0, 21), (0, 200), (0, 21), (0, 300), ((-2147483648), 2147483647), ((-2147483648), 2147483647)], [(0, (16, (-1)), (12, 0)), (1, (14, 0), (12, 0)), (7, (15, 0), (9, 0)), (7, (13, 0), (9, 0)), (1, (9, 0), (11, (-1))), (1, (8, 0), (10, (-1)))], [(((0, 0), 1851192626986356798026460450737346142932482408387548938498539523000000), .inr (0, (18, 0))), (((0, 481), 3), .inr (0, (18, 0))), (((0, 0), 1851192626986356798026460450737346142932482408387548938498539520000000), .inr (0, (17, 0))), (((0, 480), 2), .inr (3, (0, 481))), (((0, 0), 1851192626986356797625047037163794926384839479479878431390302211000000), .inr (0, (0, (-3)))), (((0, 480), 1), .inr (0, (0, (-3)))), (((0, 0), 1851192626986356845393289190535924022246915575064672065910079488000000), .inr (0, (16, 0))), (((0, 0), 1851192626986356845192576358666543837080751769867903040528449536000000), .inr (0, (14, 0))), (((0, 0), 1851192626986356798829287277884448576027768266202889952714424320000000), .inr (0, (12, 0))), (((0, 482), 7), .inr (0, (12, 0))), (((0, 0), 1851192626986356797625047037163794926384839479479878431391481856000000), .inr (0, (11, 0))), (((0, 0), 1851192626986356797424340330377019318111018015026043177837658112000000), .inr (0, (10, 0))), (((0, 482), 0), .inr (0, (10, 0))), (((0, 480), 3), .inr (3, (0, 482))), (((0, 0), 1851192626986356797424340330377019318111018015026043177836478467000000), .inr (0, (0, 0))), (((0, 480), 0), .inr (0, (0, 0)))], some (.inr (0, (0, (-3))))), [])
noncomputable def rxeBGRX_0_1 : rx_End × List (Nat × Int × Int) := (([(0, 0), (0, 0), (0, 0), (0, 0), (0, 0), (0, 0), (0, 0), (0, 0), (0, 5), (0, 7), (1, 6), (1, 8), (0, 199), (0, 21), (1, 200), (0, 21), (0, 300), ((-2147483648), 2147483647), ((-2147483648), 2147483647)], [(0, (12, 0), (14, 0)), (7, (15, 0), (9, 0)), (7, (13, 0), (9, 0)), (1, (9, 0), (11, (-1))), (1, (8, 0), (10, (-1)))], [(((0, 0), 1851192626986356798026460450737346142932482408387548938498539523000000), .inr (0, (18, 0))), (((0, 481), 3), .inr (0, (18, 0))), (((0, 0), 1851192626986356798026460450737346142932482408387548938498539520000000), .inr (0, (17, 0))), (((0, 480), 2), .inr (3, (0, 481))), (((0, 0), 1851192626986356797625047037163794926384839479479878431390302211000000), .inr (0, (0, (-3)))), (((0, 480), 1), .inr (0, (0, (-3)))), (((0, 0), 1851192626986356845393289190535924022246915575064672065910079488000000), .inr (0, (16, 0))), (((0, 0), 1851192626986356845192576358666543837080751769867903040528449536000000), .inr (0, (14, 0))), (((0, 0), 1851192626986356798829287277884448576027768266202889952714424320000000), .inr (0, (12, 0))), (((0, 482), 7), .inr (0, (12, 0))), (((0, 0), 1851192626986356797625047037163794926384839479479878431391481856000000), .inr (0, (11, 0))), (((0, 0), 1851192626986356797424340330377019318111018015026043177837658112000000), .inr (0, (10, 0))), (((0, 482), 0), .inr (0, (10, 0))), (((0, 480), 3), .inr (3, (0, 482))), (((0, 0), 1851192626986356797424340330377019318111018015026043177836478467000000), .inr (0, (0, 0))), (((0, 480), 0), .inr (0, (0, 0)))], some (.inr (0, (0, (-3))))), [])
noncomputable def rxeBGRX_0_2 : rx_End × List (Nat × Int × Int) := (([(0, 0), (0, 0), (0, 0), (0, 0), (0, 0), (0, 0), (0, 0), (0, 0), (0, 5), (0, 2147483647), (1, 6), (0, 8), ((-2147483648), 2147483647), ((-2147483648), 2147483647)], [(0, (11, (-1)), (9, 0)), (1, (8, 0), (10, (-1)))], [(((0, 0), 1851192626986356797825753743950570534658660943933713684944715779000000), .inr (0, (13, 0))), (((0, 481), 2), .inr (0, (13, 0))), (((0, 0), 1851192626986356797825753743950570534658660943933713684944715776000000), .inr (0, (12, 0))), (((0, 480), 2), .inr (3, (0, 481))), (((0, 0), 1851192626986356797625047037163794926384839479479878431390302211000000), .inr (0, (0, (-2)))), (((0, 480), 1), .inr (0, (0, (-2)))), (((0, 0), 1851192626986356797625047037163794926384839479479878431391481856000000), .inr (0, (11, 0))), (((0, 0), 1851192626986356797424340330377019318111018015026043177837658112000000), .inr (0, (10, 0))), (((0, 482), 0), .inr (0, (10, 0))), (((0, 480), 3), .inr (3, (0, 482))), (((0, 0), 1851192626986356797424340330377019318111018015026043177836478467000000), .inr (0, (0, 0))), (((0, 480), 0), .inr (0, (0, 0)))], some (.inr (0, (0, (-2))))), [])
noncomputable def rxeBGRX_0_3 : rx_End × List (Nat × Int × Int) := (([(0, 0), (0, 0), (0, 0), (0, 0), (0, 0), (0, 0), (0, 0), (0, 0), (0, 5), ((-2147483648), (-1)), (1, 6), (0, 8), ((-2147483648), 2147483647), ((-2147483648), 2147483647)], [(1, (8, 0), (10, (-1)))], [(((0, 0), 1851192626986356797825753743950570534658660943933713684944715779000000), .inr (0, (13, 0))), (((0, 481), 2), .inr (0, (13, 0))), (((0, 0), 1851192626986356797825753743950570534658660943933713684944715776000000), .inr (0, (12, 0))), (((0, 480), 2), .inr (3, (0, 481))), (((0, 0), 1851192626986356797625047037163794926384839479479878431390302211000000), .inr (0, (0, (-2)))), (((0, 480), 1), .inr (0, (0, (-2)))), (((0, 0), 1851192626986356797625047037163794926384839479479878431391481856000000), .inr (0, (11, 0))), (((0, 0), 1851192626986356797424340330377019318111018015026043177837658112000000), .inr (0, (10, 0))), (((0, 482), 0), .inr (0, (10, 0))), (((0, 480), 3), .inr (3, (0, 482))), (((0, 0), 1851192626986356797424340330377019318111018015026043177836478467000000), .inr (0, (0, 0))), (((0, 480), 0), .inr (0, (0, 0)))], some (.inr (0, (0, (-2))))), [])
noncomputable def rxeBGRX_0_4 : rx_End × List (Nat × Int × Int) := (([(0, 0), (0, 0), (0, 0), (0, 0), (0, 0), (0, 0), (0, 0), (0, 0), (0, 2147483647), ((-2147483648), 2147483647), (0, 6), ((-2147483648), 2147483647), ((-2147483648), 2147483647)], [(0, (10, (-1)), (8, 0))], [(((0, 0), 1851192626986356797825753743950570534658660943933713684944715779000000), .inr (0, (12, 0))), (((0, 481), 2), .inr (0, (12, 0))), (((0, 0), 1851192626986356797825753743950570534658660943933713684944715776000000), .inr (0, (11, 0))), (((0, 480), 2), .inr (3, (0, 481))), (((0, 0), 1851192626986356797625047037163794926384839479479878431390302211000000), .inr (0, (0, (-2)))), (((0, 480), 1), .inr (0, (0, (-2)))), (((0, 0), 1851192626986356797424340330377019318111018015026043177837658112000000), .inr (0, (10, 0))), (((0, 482), 0), .inr (0, (10, 0))), (((0, 480), 3), .inr (3, (0, 482))), (((0, 0), 1851192626986356797424340330377019318111018015026043177836478467000000), .inr (0, (0, 0))), (((0, 480), 0), .inr (0, (0, 0)))], some (.inr (0, (0, (-2))))), [])
noncomputable def rxeBGRX_0_5 : rx_End × List (Nat × Int × Int) := (([(0, 0), (0, 0), (0, 0), (0, 0), (0, 0), (0, 0), (0, 0), (0, 0), ((-2147483648), (-1)), ((-2147483648), 2147483647), (0, 6), ((-2147483648), 2147483647), ((-2147483648), 2147483647)], [], [(((0, 0), 1851192626986356797825753743950570534658660943933713684944715779000000), .inr (0, (12, 0))), (((0, 481), 2), .inr (0, (12, 0))), (((0, 0), 1851192626986356797825753743950570534658660943933713684944715776000000), .inr (0, (11, 0))), (((0, 480), 2), .inr (3, (0, 481))), (((0, 0), 1851192626986356797625047037163794926384839479479878431390302211000000), .inr (0, (0, (-2)))), (((0, 480), 1), .inr (0, (0, (-2)))), (((0, 0), 1851192626986356797424340330377019318111018015026043177837658112000000), .inr (0, (10, 0))), (((0, 482), 0), .inr (0, (10, 0))), (((0, 480), 3), .inr (3, (0, 482))), (((0, 0), 1851192626986356797424340330377019318111018015026043177836478467000000), .inr (0, (0, 0))), (((0, 480), 0), .inr (0, (0, 0)))], some (.inr (0, (0, (-2))))), [])
noncomputable def rxoBGRX_2_0 : bx_HO := (([(0, 0), (0, 0), (0, 0), (0, 0), (0, 0), (0, 0), (0, 0), (0, 0), (0, 5), (0, 7), (0, 300), (0, 0), (0, 11)], [(3, (12, 0), (0, 12))], [(((0, 0), 1851192626986356797825753743950570534658660943933713684945305600000000), .inr (0, (12, 0))), (((0, 482), 2), .inr (0, (12, 0))), (((0, 480), 3), .inr (3, (0, 482)))], 0, 0, 83, [(4, .inr (0, (0, 0))), (3, .inr (0, (12, 0))), (0, .inr (3, (0, 480))), (1, .inr (0, (8, 0))), (2, .inr (0, (9, 0)))], []), [], [], [(0, 0), (0, 0), (0, 0), (0, 0), (0, 0), (0, 0), (0, 0), (0, 0), (8, 0), (9, 0), (12, 0), (0, 0), (12, 0)], 3)
noncomputable def rxeBGRX_2_0 : rx_End × List (Nat × Int × Int) := (([(0, 0), (0, 0), (0, 0), (0, 0), (0, 0), (0, 0), (0, 0), (0, 0), (0, 5), (0, 7), (0, 300), (1, 1), ((-2147483648), 2147483647), ((-2147483648), 2147483647)], [(3, (11, 0), (0, 0))], [(((0, 0), 1851192626986356798026460450737346142932482408387548938498539523000000), .inr (0, (13, 0))), (((0, 481), 3), .inr (0, (13, 0))), (((0, 0), 1851192626986356798026460450737346142932482408387548938498539520000000), .inr (0, (12, 0))), (((0, 480), 2), .inr (3, (0, 481))), (((0, 0), 1851192626986356797625047037163794926384839479479878431390302211000000), .inr (0, (0, (-3)))), (((0, 480), 1), .inr (0, (0, (-3))))], some (.inr (0, (0, (-3))))), [])
noncomputable def rxeBGRX_2_1 : rx_End × List (Nat × Int × Int) := (([(0, 0), (0, 0), (0, 0), (0, 0), (0, 0), (0, 0), (0, 0), (0, 0), (0, 5), (0, 7), (0, 300), (0, 0), (12, 12), ((-2147483648), 2147483647), ((-2147483648), 2147483647)], [], [(((0, 0), 1851192626986356798427873864310897359480125337295219445606187011000000), .inr (0, (14, 0))), (((0, 481), 5), .inr (0, (14, 0))), (((0, 0), 1851192626986356798427873864310897359480125337295219445606187008000000), .inr (0, (13, 0))), (((0, 480), 2), .inr (3, (0, 481))), (((0, 0), 1851192626986356797625047037163794926384839479479878431390302211000000), .inr (0, (0, (-5)))), (((0, 480), 1), .inr (0, (0, (-5)))), (((0, 0), 1851192626986356797825753743950570534658660943933713684945305600000000), .inr (0, (12, 0))), (((0, 482), 2), .inr (0, (12, 0))), (((0, 480), 3), .inr (3, (0, 482)))], some (.inr (0, (0, (-5))))), [])
noncomputable def rxoBGRX_3_0 : bx_HO := (([(0, 0), (0, 0), (0, 0), (0, 0), (0, 0), (0, 0), (0, 0), (0, 0), (0, 5), (0, 7), (0, 11), (0, 35), (0, 11), (0, 396), (298, 729), (0, 180), (22, 237), ((-1), 59)], [(604462909807314587353099000000, (16, 0), (15, 22)), (40, (15, 0), (8, 0)), (604462909807314587353099000000, (14, 0), (13, 298)), (40, (13, 0), (10, 0))], [(((0, 0), 1851192626986356797424383205955251356357414400226579580632301571000000), .inr (0, (17, 0))), (((0, 0), 1851192626986356797424389331037855933249756740969513352460107776000000), .inr (0, (17, 0))), (((0, 480), 3), .inr (3, (0, 482))), (((0, 482), 2), .inr (0, (12, 0)))], 0, 0, 83, [(4, .inr (0, (11, 1))), (0, .inr (3, (0, 480))), (1, .inr (0, (8, 0))), (2, .inr (0, (9, 0))), (3, .inr (0, (10, 0)))], []), [], [], [(0, 0), (0, 0), (0, 0), (0, 0), (0, 0), (0, 0), (0, 0), (0, 0), (8, 0), (9, 0), (10, 0), (11, 1), (12, 0)], 3)
noncomputable def rxeBGRX_3_0 : rx_End × List (Nat × Int × Int) := (([(0, 0), (0, 0), (0, 0), (0, 0), (0, 0), (0, 0), (0, 0), (0, 0), (0, 5), (0, 7), (0, 11), (36, 36), (0, 11), (0, 33), (0, 33), (0, 33)], [(7, (15, 0), (12, 0)), (7, (14, 0), (12, 0)), (7, (13, 0), (12, 0))], [(((0, 0), 1851192626986356797625047037163794926384839479479878431390302211000000), .inr (0, (0, 0))), (((0, 480), 1), .inr (0, (0, 0))), (((0, 0), 1851192626986356797825753743950570534658660943933713684945305603000000), .inr (0, (12, 1))), (((0, 482), 2), .inr (0, (12, 1))), (((0, 0), 1851192626986356850410956860205314229092452186410553404755673091000000), .inr (0, (0, (-1)))), (((0, 0), 1851192626986356850210247090877236332372459551585251265287946243000000), .inr (0, (9, 0))), (((0, 0), 1851192626986356850009537321549158435652466916759949125820219395000000), .inr (0, (8, 0))), (((0, 480), 3), .inr (3, (0, 482)))], some (.inr (0, (12, 0)))), [])
noncomputable def rxYBGRX : List bx_HE := [(rxzBGRX_0, [rxoBGRX_0_0], [rxeBGRX_0_0, rxeBGRX_0_1, rxeBGRX_0_2, rxeBGRX_0_3, rxeBGRX_0_4, rxeBGRX_0_5]), (rxzBGRX_1, [], []), (rxzBGRX_2, [rxoBGRX_2_0], [rxeBGRX_2_0, rxeBGRX_2_1]), (rxzBGRX_3, [rxoBGRX_3_0], [rxeBGRX_3_0])]
noncomputable def rxUBGRX (q : bx_HE) : Bool := Nat.beq (rx_zpc q.1) 47
noncomputable def rxYBBGRX : bx_B := (rxV, rxNP, rxDmf, bx_mdH rxC158.2.2.1)
set_option maxRecDepth 100000 in
theorem rxYcBGRX : bx_chkH rxYBBGRX rxM158 rxC158 rxYBGRX (rxUBGRX, fun cut z => rx_ex2 (rxCT rxYBBGRX rxCnE) cut 30000 rxC158.2.2.2.1 158 z) = true := by decide +kernel
noncomputable def rxIBGRX (S0 : Nat → Int → Int) (ws : List Int) (i : Nat) : bx_SP := fun S r => match i with | 0 => rxIBGRX_0 S0 ws S (r 8) (r 9) | 1 => rxIBGRX_1 S0 ws S (r 8) (r 9) (r 10) | 2 => rxIBGRX_2 S0 ws S (r 8) (r 9) (r 10) (r 11) | 3 => rxIBGRX_3 S0 ws S (r 8) (r 9) (r 10) (r 11) (r 12) | _ => False
noncomputable def rxmBGRX (S0 : Nat → Int → Int) (ws : List Int) (i : Nat) (S : Nat → Int → Int) (r : Nat → Int) : Nat := match i with | 0 => rxmBGRX_0 S0 ws S (r 8) (r 9) | 1 => rxmBGRX_1 S0 ws S (r 8) (r 9) (r 10) | 2 => rxmBGRX_2 S0 ws S (r 8) (r 9) (r 10) (r 11) | 3 => rxmBGRX_3 S0 ws S (r 8) (r 9) (r 10) (r 11) (r 12) | _ => 0
noncomputable def rxPBGRX (S0 : Nat → Int → Int) (ws : List Int) : Prop := rxP158 S0 ws
noncomputable def rxPSBGRX (S0 : Nat → Int → Int) (ws : List Int) (S : Nat → Int → Int) (w : Option Int) : Prop := rxPS158 S0 ws S w ∧ (∃ pa ps : Int, ws = [480, pa, ps] ∧ (∀ z : Int, w = some z → z < 0 → (∀ j : Int, 0 ≤ j → j < 6180 → S 482 j = S0 482 j)) ∧ (∀ z : Int, w = some z → 0 ≤ z → (∀ t : Int, 0 ≤ t → t < 36 → S 482 (298 + 36 * S0 482 2 + t) = S0 482 (22 + 36 * pa + t)) ∧ (∀ j : Int, ((22 ≤ j ∧ j < 238) ∨ (298 ≤ j ∧ j < 730 ∧ ¬ (298 + 36 * S0 482 2 ≤ j ∧ j < 334 + 36 * S0 482 2))) → S 482 j = S0 482 j)))
theorem rxkBGRX_1 {S0 : Nat → Int → Int} {ws : List Int} {S : Nat → Int → Int} {pa ps y : Int} (hP : rxPBGRX S0 ws) (hin : bx_same rxL (bx_mdl rxC158.2.2.1) S0 S) (I0 : bx_Inv rxL S) (hinv : rxIBGRX_1 S0 ws S pa ps y) (l8 : 0 ≤ pa) (u8 : pa ≤ 5) (l9 : 0 ≤ ps) (u9 : ps ≤ 7) (l10 : 0 ≤ y) (u10 : y ≤ 300) : rxPBAX S [480, ps, pa, (-1), y] ∧ ∀ (S_p : Nat → Int → Int) (r : Int), 0 ≤ r → r ≤ 1 → rxPSBAX S [480, ps, pa, (-1), y] S_p (some r) → bx_Inv rxL S_p → bx_same rxL (bx_mdl rxCBAX.2.2.1) S S_p → rxIBGRX_2 S0 ws S_p pa ps y r ∧ rxmBGRX_2 S0 ws S_p pa ps y r < rxmBGRX_1 S0 ws S pa ps y := by
  obtain ⟨hI, hx⟩ := hinv
  have g_ := rxk158_1 hP hin I0 hI l8 u8 l9 u9 l10 u10
  exact ⟨g_.1, fun S_p r l_ u_ hq I1 hsm => ⟨⟨(g_.2 S_p r l_ u_ hq I1 hsm).1, (by
    obtain ⟨hS, -⟩ := hI
    intro j a b
    exact (rx_sameR hsm (p := 482) (tc := 0) (n := 6180) (g := 63) rfl (by omega) (by decide +kernel) (by decide +kernel) a b).trans (by rw [hS]; exact bx_up_ne (by omega)))⟩, (g_.2 S_p r l_ u_ hq I1 hsm).2⟩⟩
theorem rxsBGRX_1 {X : (Nat → Int → Int) → Prop} {S0 : Nat → Int → Int} {ws : List Int} (hP : rxPBGRX S0 ws) : rx_obK X S0 rxC158.2.2.1 rxCBAX.2.2.1 (rxIBGRX S0 ws) (rxmBGRX S0 ws) 1 2 rxzBGRX_1 rxzBGRX_2 [.inr (3, (0, 480)), .inr (0, (9, 0)), .inr (0, (8, 0)), .inr (0, (0, (-1))), .inr (0, (10, 0))] (some 11) rxPBAX rxPSBAX := by
  intro S r hinv hXS I0 hin hs_ hf_
  have b_ := bx_bds_sat hs_
  have f_ := bx_fcl_ok hs_.1 hf_
  obtain ⟨⟨l8, u8⟩, ⟨l9, u9⟩, ⟨l10, u10⟩, -⟩ := b_
  have g := rxkBGRX_1 hP hin I0 hinv l8 u8 l9 u9 l10 u10
  have ea : List.map (bx_num r) [.inr (3, (0, 480)), .inr (0, (9, 0)), .inr (0, (8, 0)), .inr (0, (0, (-1))), .inr (0, (10, 0))] = [480, (r 9), (r 8), -1, (r 10)] := by
    simp only [List.map_cons, List.map_nil, bx_xv_ok hs_.1]
    rfl
  rw [ea]
  refine ⟨g.1, fun S_p w r_p hPS hX_p I1 hsm hr hw hs_p => ?_⟩
  have hw := hw _ rfl
  subst hw
  have b_p := hs_p.2.2 11 _ _ rfl
  have g2 := g.2 S_p (r_p 11) b_p.1 b_p.2 hPS I1 hsm
  show rxIBGRX_2 S0 ws S_p (r_p 8) (r_p 9) (r_p 10) (r_p 11) ∧ rxmBGRX_2 S0 ws S_p (r_p 8) (r_p 9) (r_p 10) (r_p 11) < _
  rw [hr 8 (by decide), hr 9 (by decide), hr 10 (by decide)]
  exact g2
theorem rxcBGRX_0_0 {S0 : Nat → Int → Int} {ws : List Int} {S : Nat → Int → Int} {pa ps x10 x11 x12 x13 x14 x15 x16 : Int} (hP : rxPBGRX S0 ws) (hin : bx_same rxL (bx_mdl rxC158.2.2.1) S0 S) (I0 : bx_Inv rxL S) (hinv : rxIBGRX_0 S0 ws S pa ps) (l8 : 0 ≤ pa) (u8 : pa ≤ 5) (l9 : 0 ≤ ps) (u9 : ps ≤ 7) (l10 : 1 ≤ x10) (u10 : x10 ≤ 6) (l11 : 1 ≤ x11) (u11 : x11 ≤ 8) (l12 : 0 ≤ x12) (u12 : x12 ≤ 299) (l13 : 0 ≤ x13) (u13 : x13 ≤ 21) (l14 : 0 ≤ x14) (u14 : x14 ≤ 200) (l15 : 0 ≤ x15) (u15 : x15 ≤ 21) (l16 : 1 ≤ x16) (u16 : x16 ≤ 300) (f0 : x12 ≤ x16 + (-1)) (f1 : x14 ≤ x12) (f2 : x15 = 3 * (ps)) (f3 : x13 = 3 * (ps)) (f4 : ps ≤ x11 + (-1)) (f5 : pa ≤ x10 + (-1)) (e4 : (bx_up S 480 0 0) 482 0 = x10) (e3 : (bx_up S 480 0 0) 482 1 = x11) (e2 : (bx_up S 480 0 0) 482 7 = x12) (e1 : (bx_up S 480 0 0) 482 (x13 + 238) = x14) (e0 : (bx_up S 480 0 0) 482 (x15 + 239) = x16) : (True) ∧ (True) ∧ rxIBGRX_1 S0 ws (bx_up S 480 0 0) pa ps x12 ∧ rxmBGRX_1 S0 ws (bx_up S 480 0 0) pa ps x12 < rxmBGRX_0 S0 ws S pa ps := by
  obtain ⟨hI, hx⟩ := hinv
  obtain ⟨a_, b_, c_, d_⟩ := rxc158_0_0 hP hin I0 hI l8 u8 l9 u9 l10 u10 l11 u11 l12 u12 l13 u13 l14 u14 l15 u15 l16 u16 f0 f1 f2 f3 f4 f5 e4 e3 e2 e1 e0
  exact ⟨a_, b_, ⟨c_, trivial⟩, d_⟩
theorem rxgBGRX_0_0 {X : (Nat → Int → Int) → Prop} {S0 : Nat → Int → Int} {ws : List Int} (hP : rxPBGRX S0 ws) : bx_obC rxL X S0 rxC158.2.2.1 (rxIBGRX S0 ws) (rxmBGRX S0 ws) 0 rxzBGRX_0 rxoBGRX_0_0 := by
  intro S S_p r r_p hinv hX hin hsm_ hseg
  obtain ⟨I0, I1, h0_, hr_, b_, f_, d_⟩ := bx_cl (evs := [(0, (0, 482), (15, 239), .inr (0, (16, 0))), (0, (0, 482), (13, 238), .inr (0, (14, 0))), (0, (0, 482), (0, 7), .inr (0, (12, 0))), (0, (0, 482), (0, 1), .inr (0, (11, 0))), (0, (0, 482), (0, 0), .inr (0, (10, 0))), (1, (0, 480), (0, 0), .inr (0, (0, 0)))]) (fvs := [(1, (12, 0), (16, (-1)), (0, 0)), (1, (14, 0), (12, 0), (0, 0)), (4, (15, 0), (9, 0), (0, 3)), (4, (13, 0), (9, 0), (0, 3)), (1, (9, 0), (11, (-1)), (0, 0)), (1, (8, 0), (10, (-1)), (0, 0))]) hseg (by decide +kernel) (by decide +kernel)
  have hinv : rxIBGRX_0 S0 ws S (r 8) (r 9) := hinv
  rw [← hr_ 8 (by decide), ← hr_ 9 (by decide)] at hinv
  obtain ⟨⟨l8, u8⟩, ⟨l9, u9⟩, ⟨l10, u10⟩, ⟨l11, u11⟩, ⟨l12, u12⟩, ⟨l13, u13⟩, ⟨l14, u14⟩, ⟨l15, u15⟩, ⟨l16, u16⟩, -⟩ := b_
  obtain ⟨f0, f1, f2, f3, f4, f5, -⟩ := f_
  obtain ⟨e0, ⟨e1, ⟨e2, ⟨e3, ⟨e4, ⟨T5, w_, w5⟩⟩⟩⟩⟩⟩ := d_
  subst w5
  subst w_
  have g := rxcBGRX_0_0 hP hin I0 hinv l8 u8 l9 u9 l10 u10 l11 u11 l12 u12 l13 u13 l14 u14 l15 u15 l16 u16 f0 f1 f2 f3 f4 f5 e4 e3 e2 e1 e0
  refine ⟨bx_narP_ok (l := []) g.1, bx_nfP_ok h0_ (fvs := []) (by decide +kernel) g.2.1, ?_, ?_⟩
  · show rxIBGRX_1 S0 ws (bx_up T5 480 (0) (0)) (bx_val [(0, 0), (0, 0), (0, 0), (0, 0), (0, 0), (0, 0), (0, 0), (0, 0), (8, 0), (9, 0), (12, 0)] r_p 8) (bx_val [(0, 0), (0, 0), (0, 0), (0, 0), (0, 0), (0, 0), (0, 0), (0, 0), (8, 0), (9, 0), (12, 0)] r_p 9) (bx_val [(0, 0), (0, 0), (0, 0), (0, 0), (0, 0), (0, 0), (0, 0), (0, 0), (8, 0), (9, 0), (12, 0)] r_p 10)
    rw [bx_val_x (n := 8) (e := (8, 0)) h0_ rfl, bx_val_x (n := 9) (e := (9, 0)) h0_ rfl, bx_val_x (n := 10) (e := (12, 0)) h0_ rfl]
    exact g.2.2.1
  · show rxmBGRX_1 S0 ws (bx_up T5 480 (0) (0)) (bx_val [(0, 0), (0, 0), (0, 0), (0, 0), (0, 0), (0, 0), (0, 0), (0, 0), (8, 0), (9, 0), (12, 0)] r_p 8) (bx_val [(0, 0), (0, 0), (0, 0), (0, 0), (0, 0), (0, 0), (0, 0), (0, 0), (8, 0), (9, 0), (12, 0)] r_p 9) (bx_val [(0, 0), (0, 0), (0, 0), (0, 0), (0, 0), (0, 0), (0, 0), (0, 0), (8, 0), (9, 0), (12, 0)] r_p 10) < rxmBGRX_0 S0 ws T5 (r 8) (r 9)
    rw [bx_val_x (n := 8) (e := (8, 0)) h0_ rfl, bx_val_x (n := 9) (e := (9, 0)) h0_ rfl, bx_val_x (n := 10) (e := (12, 0)) h0_ rfl, ← hr_ 8 (by decide), ← hr_ 9 (by decide)]
    exact g.2.2.2
theorem rxdBGRX_0_0 {S0 : Nat → Int → Int} {ws : List Int} {S : Nat → Int → Int} {pa ps x10 x11 x12 x13 x14 x15 x16 x17 x18 : Int} (hP : rxPBGRX S0 ws) (hin : bx_same rxL (bx_mdl rxC158.2.2.1) S0 S) (hin2 : bx_same rxL (bx_mdl rxC158.2.2.1) S (bx_up (bx_up (bx_up S 480 0 0) 480 1 ((-3))) 481 3 x18)) (I0 : bx_Inv rxL S) (I1 : bx_Inv rxL (bx_up (bx_up (bx_up S 480 0 0) 480 1 ((-3))) 481 3 x18)) (hinv : rxIBGRX_0 S0 ws S pa ps) (l8 : 0 ≤ pa) (u8 : pa ≤ 5) (l9 : 0 ≤ ps) (u9 : ps ≤ 7) (l10 : 1 ≤ x10) (u10 : x10 ≤ 6) (l11 : 1 ≤ x11) (u11 : x11 ≤ 8) (l12 : 0 ≤ x12) (u12 : x12 ≤ 300) (l13 : 0 ≤ x13) (u13 : x13 ≤ 21) (l14 : 0 ≤ x14) (u14 : x14 ≤ 200) (l15 : 0 ≤ x15) (u15 : x15 ≤ 21) (l16 : 0 ≤ x16) (u16 : x16 ≤ 300) (l17 : (-2147483648) ≤ x17) (u17 : x17 ≤ 2147483647) (l18 : (-2147483648) ≤ x18) (u18 : x18 ≤ 2147483647) (f0 : x16 + (-1) < x12) (f1 : x14 ≤ x12) (f2 : x15 = 3 * (ps)) (f3 : x13 = 3 * (ps)) (f4 : ps ≤ x11 + (-1)) (f5 : pa ≤ x10 + (-1)) (e7 : (bx_up S 480 0 0) 482 0 = x10) (e6 : (bx_up S 480 0 0) 482 1 = x11) (e5 : (bx_up S 480 0 0) 482 7 = x12) (e4 : (bx_up S 480 0 0) 482 (x13 + 238) = x14) (e3 : (bx_up S 480 0 0) 482 (x15 + 239) = x16) (e1 : (bx_up (bx_up S 480 0 0) 480 1 ((-3))) 481 3 = x17) : (True) ∧ rxPSBGRX S0 ws (bx_up (bx_up (bx_up S 480 0 0) 480 1 ((-3))) 481 3 x18) (some ((-3))) := by
  obtain ⟨hI, hx⟩ := hinv
  obtain ⟨a_, c_⟩ := rxd158_0_0 hP hin hin2 I0 I1 hI l8 u8 l9 u9 l10 u10 l11 u11 l12 u12 l13 u13 l14 u14 l15 u15 l16 u16 l17 u17 l18 u18 f0 f1 f2 f3 f4 f5 e7 e6 e5 e4 e3 e1
  exact ⟨a_, c_, (by
    obtain ⟨e_, hw⟩ := hI
    subst e_
    exact ⟨pa, ps, hw, fun z hz hn j a b => (bx_up_ne (by omega)).trans ((bx_up_ne (by omega)).trans ((bx_up_ne (by omega)))), fun z hz hn => (by have := Option.some.inj hz; exfalso; omega)⟩)⟩
theorem rxfBGRX_0_0 {X : (Nat → Int → Int) → Prop} {S0 : Nat → Int → Int} {ws : List Int} (hP : rxPBGRX S0 ws) : bx_obE rxL X S0 rxC158.2.2.1 (rxIBGRX S0 ws) (rxPSBGRX S0 ws) 0 rxzBGRX_0 rxeBGRX_0_0 := by
  intro S S_p r r_p hinv hX hin hsm_ hseg
  obtain ⟨I0, I1, h0_, hr_, b_, f_, d_⟩ := bx_cl (evs := [(1, (0, 481), (0, 3), .inr (0, (18, 0))), (0, (0, 481), (0, 3), .inr (0, (17, 0))), (1, (0, 480), (0, 1), .inr (0, (0, (-3)))), (0, (0, 482), (15, 239), .inr (0, (16, 0))), (0, (0, 482), (13, 238), .inr (0, (14, 0))), (0, (0, 482), (0, 7), .inr (0, (12, 0))), (0, (0, 482), (0, 1), .inr (0, (11, 0))), (0, (0, 482), (0, 0), .inr (0, (10, 0))), (1, (0, 480), (0, 0), .inr (0, (0, 0)))]) (fvs := [(0, (16, (-1)), (12, 0), (0, 0)), (1, (14, 0), (12, 0), (0, 0)), (4, (15, 0), (9, 0), (0, 3)), (4, (13, 0), (9, 0), (0, 3)), (1, (9, 0), (11, (-1)), (0, 0)), (1, (8, 0), (10, (-1)), (0, 0))]) hseg (by decide +kernel) (by decide +kernel)
  have hinv : rxIBGRX_0 S0 ws S (r 8) (r 9) := hinv
  rw [← hr_ 8 (by decide), ← hr_ 9 (by decide)] at hinv
  obtain ⟨⟨l8, u8⟩, ⟨l9, u9⟩, ⟨l10, u10⟩, ⟨l11, u11⟩, ⟨l12, u12⟩, ⟨l13, u13⟩, ⟨l14, u14⟩, ⟨l15, u15⟩, ⟨l16, u16⟩, ⟨l17, u17⟩, ⟨l18, u18⟩, -⟩ := b_
  obtain ⟨f0, f1, f2, f3, f4, f5, -⟩ := f_
  obtain ⟨T0, ⟨e1, ⟨T2, ⟨e3, ⟨e4, ⟨e5, ⟨e6, ⟨e7, ⟨T8, w_, w8⟩⟩⟩⟩⟩⟩, w2⟩⟩, w0⟩ := d_
  subst w0
  subst w2
  subst w8
  subst w_
  have g := rxdBGRX_0_0 hP hin hsm_ I0 I1 hinv l8 u8 l9 u9 l10 u10 l11 u11 l12 u12 l13 u13 l14 u14 l15 u15 l16 u16 l17 u17 l18 u18 f0 f1 f2 f3 f4 f5 e7 e6 e5 e4 e3 e1
  refine ⟨bx_narP_ok (l := []) g.1, ?_⟩
  show rxPSBGRX S0 ws (bx_up (bx_up (bx_up T8 480 (0) (0)) 480 (1) ((-3))) 481 (3) (r_p 18)) (some (bx_num r_p (.inr (0, (0, (-3))))))
  rw [bx_xv_ok h0_]
  exact g.2
theorem rxdBGRX_0_1 {S0 : Nat → Int → Int} {ws : List Int} {S : Nat → Int → Int} {pa ps x10 x11 x12 x13 x14 x15 x16 x17 x18 : Int} (hP : rxPBGRX S0 ws) (hin : bx_same rxL (bx_mdl rxC158.2.2.1) S0 S) (hin2 : bx_same rxL (bx_mdl rxC158.2.2.1) S (bx_up (bx_up (bx_up S 480 0 0) 480 1 ((-3))) 481 3 x18)) (I0 : bx_Inv rxL S) (I1 : bx_Inv rxL (bx_up (bx_up (bx_up S 480 0 0) 480 1 ((-3))) 481 3 x18)) (hinv : rxIBGRX_0 S0 ws S pa ps) (l8 : 0 ≤ pa) (u8 : pa ≤ 5) (l9 : 0 ≤ ps) (u9 : ps ≤ 7) (l10 : 1 ≤ x10) (u10 : x10 ≤ 6) (l11 : 1 ≤ x11) (u11 : x11 ≤ 8) (l12 : 0 ≤ x12) (u12 : x12 ≤ 199) (l13 : 0 ≤ x13) (u13 : x13 ≤ 21) (l14 : 1 ≤ x14) (u14 : x14 ≤ 200) (l15 : 0 ≤ x15) (u15 : x15 ≤ 21) (l16 : 0 ≤ x16) (u16 : x16 ≤ 300) (l17 : (-2147483648) ≤ x17) (u17 : x17 ≤ 2147483647) (l18 : (-2147483648) ≤ x18) (u18 : x18 ≤ 2147483647) (f0 : x12 < x14) (f1 : x15 = 3 * (ps)) (f2 : x13 = 3 * (ps)) (f3 : ps ≤ x11 + (-1)) (f4 : pa ≤ x10 + (-1)) (e7 : (bx_up S 480 0 0) 482 0 = x10) (e6 : (bx_up S 480 0 0) 482 1 = x11) (e5 : (bx_up S 480 0 0) 482 7 = x12) (e4 : (bx_up S 480 0 0) 482 (x13 + 238) = x14) (e3 : (bx_up S 480 0 0) 482 (x15 + 239) = x16) (e1 : (bx_up (bx_up S 480 0 0) 480 1 ((-3))) 481 3 = x17) : (True) ∧ rxPSBGRX S0 ws (bx_up (bx_up (bx_up S 480 0 0) 480 1 ((-3))) 481 3 x18) (some ((-3))) := by
  obtain ⟨hI, hx⟩ := hinv
  obtain ⟨a_, c_⟩ := rxd158_0_1 hP hin hin2 I0 I1 hI l8 u8 l9 u9 l10 u10 l11 u11 l12 u12 l13 u13 l14 u14 l15 u15 l16 u16 l17 u17 l18 u18 f0 f1 f2 f3 f4 e7 e6 e5 e4 e3 e1
  exact ⟨a_, c_, (by
    obtain ⟨e_, hw⟩ := hI
    subst e_
    exact ⟨pa, ps, hw, fun z hz hn j a b => (bx_up_ne (by omega)).trans ((bx_up_ne (by omega)).trans ((bx_up_ne (by omega)))), fun z hz hn => (by have := Option.some.inj hz; exfalso; omega)⟩)⟩
theorem rxfBGRX_0_1 {X : (Nat → Int → Int) → Prop} {S0 : Nat → Int → Int} {ws : List Int} (hP : rxPBGRX S0 ws) : bx_obE rxL X S0 rxC158.2.2.1 (rxIBGRX S0 ws) (rxPSBGRX S0 ws) 0 rxzBGRX_0 rxeBGRX_0_1 := by
  intro S S_p r r_p hinv hX hin hsm_ hseg
  obtain ⟨I0, I1, h0_, hr_, b_, f_, d_⟩ := bx_cl (evs := [(1, (0, 481), (0, 3), .inr (0, (18, 0))), (0, (0, 481), (0, 3), .inr (0, (17, 0))), (1, (0, 480), (0, 1), .inr (0, (0, (-3)))), (0, (0, 482), (15, 239), .inr (0, (16, 0))), (0, (0, 482), (13, 238), .inr (0, (14, 0))), (0, (0, 482), (0, 7), .inr (0, (12, 0))), (0, (0, 482), (0, 1), .inr (0, (11, 0))), (0, (0, 482), (0, 0), .inr (0, (10, 0))), (1, (0, 480), (0, 0), .inr (0, (0, 0)))]) (fvs := [(0, (12, 0), (14, 0), (0, 0)), (4, (15, 0), (9, 0), (0, 3)), (4, (13, 0), (9, 0), (0, 3)), (1, (9, 0), (11, (-1)), (0, 0)), (1, (8, 0), (10, (-1)), (0, 0))]) hseg (by decide +kernel) (by decide +kernel)
  have hinv : rxIBGRX_0 S0 ws S (r 8) (r 9) := hinv
  rw [← hr_ 8 (by decide), ← hr_ 9 (by decide)] at hinv
  obtain ⟨⟨l8, u8⟩, ⟨l9, u9⟩, ⟨l10, u10⟩, ⟨l11, u11⟩, ⟨l12, u12⟩, ⟨l13, u13⟩, ⟨l14, u14⟩, ⟨l15, u15⟩, ⟨l16, u16⟩, ⟨l17, u17⟩, ⟨l18, u18⟩, -⟩ := b_
  obtain ⟨f0, f1, f2, f3, f4, -⟩ := f_
  obtain ⟨T0, ⟨e1, ⟨T2, ⟨e3, ⟨e4, ⟨e5, ⟨e6, ⟨e7, ⟨T8, w_, w8⟩⟩⟩⟩⟩⟩, w2⟩⟩, w0⟩ := d_
  subst w0
  subst w2
  subst w8
  subst w_
  have g := rxdBGRX_0_1 hP hin hsm_ I0 I1 hinv l8 u8 l9 u9 l10 u10 l11 u11 l12 u12 l13 u13 l14 u14 l15 u15 l16 u16 l17 u17 l18 u18 f0 f1 f2 f3 f4 e7 e6 e5 e4 e3 e1
  refine ⟨bx_narP_ok (l := []) g.1, ?_⟩
  show rxPSBGRX S0 ws (bx_up (bx_up (bx_up T8 480 (0) (0)) 480 (1) ((-3))) 481 (3) (r_p 18)) (some (bx_num r_p (.inr (0, (0, (-3))))))
  rw [bx_xv_ok h0_]
  exact g.2
theorem rxdBGRX_0_2 {S0 : Nat → Int → Int} {ws : List Int} {S : Nat → Int → Int} {pa ps x10 x11 x12 x13 : Int} (hP : rxPBGRX S0 ws) (hin : bx_same rxL (bx_mdl rxC158.2.2.1) S0 S) (hin2 : bx_same rxL (bx_mdl rxC158.2.2.1) S (bx_up (bx_up (bx_up S 480 0 0) 480 1 ((-2))) 481 2 x13)) (I0 : bx_Inv rxL S) (I1 : bx_Inv rxL (bx_up (bx_up (bx_up S 480 0 0) 480 1 ((-2))) 481 2 x13)) (hinv : rxIBGRX_0 S0 ws S pa ps) (l8 : 0 ≤ pa) (u8 : pa ≤ 5) (l9 : 0 ≤ ps) (u9 : ps ≤ 2147483647) (l10 : 1 ≤ x10) (u10 : x10 ≤ 6) (l11 : 0 ≤ x11) (u11 : x11 ≤ 8) (l12 : (-2147483648) ≤ x12) (u12 : x12 ≤ 2147483647) (l13 : (-2147483648) ≤ x13) (u13 : x13 ≤ 2147483647) (f0 : x11 + (-1) < ps) (f1 : pa ≤ x10 + (-1)) (e4 : (bx_up S 480 0 0) 482 0 = x10) (e3 : (bx_up S 480 0 0) 482 1 = x11) (e1 : (bx_up (bx_up S 480 0 0) 480 1 ((-2))) 481 2 = x12) : (True) ∧ rxPSBGRX S0 ws (bx_up (bx_up (bx_up S 480 0 0) 480 1 ((-2))) 481 2 x13) (some ((-2))) := by
  obtain ⟨hI, hx⟩ := hinv
  obtain ⟨a_, c_⟩ := rxd158_0_2 hP hin hin2 I0 I1 hI l8 u8 l9 u9 l10 u10 l11 u11 l12 u12 l13 u13 f0 f1 e4 e3 e1
  exact ⟨a_, c_, (by
    obtain ⟨e_, hw⟩ := hI
    subst e_
    exact ⟨pa, ps, hw, fun z hz hn j a b => (bx_up_ne (by omega)).trans ((bx_up_ne (by omega)).trans ((bx_up_ne (by omega)))), fun z hz hn => (by have := Option.some.inj hz; exfalso; omega)⟩)⟩
theorem rxfBGRX_0_2 {X : (Nat → Int → Int) → Prop} {S0 : Nat → Int → Int} {ws : List Int} (hP : rxPBGRX S0 ws) : bx_obE rxL X S0 rxC158.2.2.1 (rxIBGRX S0 ws) (rxPSBGRX S0 ws) 0 rxzBGRX_0 rxeBGRX_0_2 := by
  intro S S_p r r_p hinv hX hin hsm_ hseg
  obtain ⟨I0, I1, h0_, hr_, b_, f_, d_⟩ := bx_cl (evs := [(1, (0, 481), (0, 2), .inr (0, (13, 0))), (0, (0, 481), (0, 2), .inr (0, (12, 0))), (1, (0, 480), (0, 1), .inr (0, (0, (-2)))), (0, (0, 482), (0, 1), .inr (0, (11, 0))), (0, (0, 482), (0, 0), .inr (0, (10, 0))), (1, (0, 480), (0, 0), .inr (0, (0, 0)))]) (fvs := [(0, (11, (-1)), (9, 0), (0, 0)), (1, (8, 0), (10, (-1)), (0, 0))]) hseg (by decide +kernel) (by decide +kernel)
  have hinv : rxIBGRX_0 S0 ws S (r 8) (r 9) := hinv
  rw [← hr_ 8 (by decide), ← hr_ 9 (by decide)] at hinv
  obtain ⟨⟨l8, u8⟩, ⟨l9, u9⟩, ⟨l10, u10⟩, ⟨l11, u11⟩, ⟨l12, u12⟩, ⟨l13, u13⟩, -⟩ := b_
  obtain ⟨f0, f1, -⟩ := f_
  obtain ⟨T0, ⟨e1, ⟨T2, ⟨e3, ⟨e4, ⟨T5, w_, w5⟩⟩⟩, w2⟩⟩, w0⟩ := d_
  subst w0
  subst w2
  subst w5
  subst w_
  have g := rxdBGRX_0_2 hP hin hsm_ I0 I1 hinv l8 u8 l9 u9 l10 u10 l11 u11 l12 u12 l13 u13 f0 f1 e4 e3 e1
  refine ⟨bx_narP_ok (l := []) g.1, ?_⟩
  show rxPSBGRX S0 ws (bx_up (bx_up (bx_up T5 480 (0) (0)) 480 (1) ((-2))) 481 (2) (r_p 13)) (some (bx_num r_p (.inr (0, (0, (-2))))))
  rw [bx_xv_ok h0_]
  exact g.2
theorem rxdBGRX_0_3 {S0 : Nat → Int → Int} {ws : List Int} {S : Nat → Int → Int} {pa ps x10 x11 x12 x13 : Int} (hP : rxPBGRX S0 ws) (hin : bx_same rxL (bx_mdl rxC158.2.2.1) S0 S) (hin2 : bx_same rxL (bx_mdl rxC158.2.2.1) S (bx_up (bx_up (bx_up S 480 0 0) 480 1 ((-2))) 481 2 x13)) (I0 : bx_Inv rxL S) (I1 : bx_Inv rxL (bx_up (bx_up (bx_up S 480 0 0) 480 1 ((-2))) 481 2 x13)) (hinv : rxIBGRX_0 S0 ws S pa ps) (l8 : 0 ≤ pa) (u8 : pa ≤ 5) (l9 : (-2147483648) ≤ ps) (u9 : ps ≤ (-1)) (l10 : 1 ≤ x10) (u10 : x10 ≤ 6) (l11 : 0 ≤ x11) (u11 : x11 ≤ 8) (l12 : (-2147483648) ≤ x12) (u12 : x12 ≤ 2147483647) (l13 : (-2147483648) ≤ x13) (u13 : x13 ≤ 2147483647) (f0 : pa ≤ x10 + (-1)) (e4 : (bx_up S 480 0 0) 482 0 = x10) (e3 : (bx_up S 480 0 0) 482 1 = x11) (e1 : (bx_up (bx_up S 480 0 0) 480 1 ((-2))) 481 2 = x12) : (True) ∧ rxPSBGRX S0 ws (bx_up (bx_up (bx_up S 480 0 0) 480 1 ((-2))) 481 2 x13) (some ((-2))) := by
  obtain ⟨hI, hx⟩ := hinv
  obtain ⟨a_, c_⟩ := rxd158_0_3 hP hin hin2 I0 I1 hI l8 u8 l9 u9 l10 u10 l11 u11 l12 u12 l13 u13 f0 e4 e3 e1
  exact ⟨a_, c_, (by
    obtain ⟨e_, hw⟩ := hI
    subst e_
    exact ⟨pa, ps, hw, fun z hz hn j a b => (bx_up_ne (by omega)).trans ((bx_up_ne (by omega)).trans ((bx_up_ne (by omega)))), fun z hz hn => (by have := Option.some.inj hz; exfalso; omega)⟩)⟩
theorem rxfBGRX_0_3 {X : (Nat → Int → Int) → Prop} {S0 : Nat → Int → Int} {ws : List Int} (hP : rxPBGRX S0 ws) : bx_obE rxL X S0 rxC158.2.2.1 (rxIBGRX S0 ws) (rxPSBGRX S0 ws) 0 rxzBGRX_0 rxeBGRX_0_3 := by
  intro S S_p r r_p hinv hX hin hsm_ hseg
  obtain ⟨I0, I1, h0_, hr_, b_, f_, d_⟩ := bx_cl (evs := [(1, (0, 481), (0, 2), .inr (0, (13, 0))), (0, (0, 481), (0, 2), .inr (0, (12, 0))), (1, (0, 480), (0, 1), .inr (0, (0, (-2)))), (0, (0, 482), (0, 1), .inr (0, (11, 0))), (0, (0, 482), (0, 0), .inr (0, (10, 0))), (1, (0, 480), (0, 0), .inr (0, (0, 0)))]) (fvs := [(1, (8, 0), (10, (-1)), (0, 0))]) hseg (by decide +kernel) (by decide +kernel)
  have hinv : rxIBGRX_0 S0 ws S (r 8) (r 9) := hinv
  rw [← hr_ 8 (by decide), ← hr_ 9 (by decide)] at hinv
  obtain ⟨⟨l8, u8⟩, ⟨l9, u9⟩, ⟨l10, u10⟩, ⟨l11, u11⟩, ⟨l12, u12⟩, ⟨l13, u13⟩, -⟩ := b_
  obtain ⟨f0, -⟩ := f_
  obtain ⟨T0, ⟨e1, ⟨T2, ⟨e3, ⟨e4, ⟨T5, w_, w5⟩⟩⟩, w2⟩⟩, w0⟩ := d_
  subst w0
  subst w2
  subst w5
  subst w_
  have g := rxdBGRX_0_3 hP hin hsm_ I0 I1 hinv l8 u8 l9 u9 l10 u10 l11 u11 l12 u12 l13 u13 f0 e4 e3 e1
  refine ⟨bx_narP_ok (l := []) g.1, ?_⟩
  show rxPSBGRX S0 ws (bx_up (bx_up (bx_up T5 480 (0) (0)) 480 (1) ((-2))) 481 (2) (r_p 13)) (some (bx_num r_p (.inr (0, (0, (-2))))))
  rw [bx_xv_ok h0_]
  exact g.2
theorem rxdBGRX_0_4 {S0 : Nat → Int → Int} {ws : List Int} {S : Nat → Int → Int} {pa ps x10 x11 x12 : Int} (hP : rxPBGRX S0 ws) (hin : bx_same rxL (bx_mdl rxC158.2.2.1) S0 S) (hin2 : bx_same rxL (bx_mdl rxC158.2.2.1) S (bx_up (bx_up (bx_up S 480 0 0) 480 1 ((-2))) 481 2 x12)) (I0 : bx_Inv rxL S) (I1 : bx_Inv rxL (bx_up (bx_up (bx_up S 480 0 0) 480 1 ((-2))) 481 2 x12)) (hinv : rxIBGRX_0 S0 ws S pa ps) (l8 : 0 ≤ pa) (u8 : pa ≤ 2147483647) (l9 : (-2147483648) ≤ ps) (u9 : ps ≤ 2147483647) (l10 : 0 ≤ x10) (u10 : x10 ≤ 6) (l11 : (-2147483648) ≤ x11) (u11 : x11 ≤ 2147483647) (l12 : (-2147483648) ≤ x12) (u12 : x12 ≤ 2147483647) (f0 : x10 + (-1) < pa) (e3 : (bx_up S 480 0 0) 482 0 = x10) (e1 : (bx_up (bx_up S 480 0 0) 480 1 ((-2))) 481 2 = x11) : (True) ∧ rxPSBGRX S0 ws (bx_up (bx_up (bx_up S 480 0 0) 480 1 ((-2))) 481 2 x12) (some ((-2))) := by
  obtain ⟨hI, hx⟩ := hinv
  obtain ⟨a_, c_⟩ := rxd158_0_4 hP hin hin2 I0 I1 hI l8 u8 l9 u9 l10 u10 l11 u11 l12 u12 f0 e3 e1
  exact ⟨a_, c_, (by
    obtain ⟨e_, hw⟩ := hI
    subst e_
    exact ⟨pa, ps, hw, fun z hz hn j a b => (bx_up_ne (by omega)).trans ((bx_up_ne (by omega)).trans ((bx_up_ne (by omega)))), fun z hz hn => (by have := Option.some.inj hz; exfalso; omega)⟩)⟩
theorem rxfBGRX_0_4 {X : (Nat → Int → Int) → Prop} {S0 : Nat → Int → Int} {ws : List Int} (hP : rxPBGRX S0 ws) : bx_obE rxL X S0 rxC158.2.2.1 (rxIBGRX S0 ws) (rxPSBGRX S0 ws) 0 rxzBGRX_0 rxeBGRX_0_4 := by
  intro S S_p r r_p hinv hX hin hsm_ hseg
  obtain ⟨I0, I1, h0_, hr_, b_, f_, d_⟩ := bx_cl (evs := [(1, (0, 481), (0, 2), .inr (0, (12, 0))), (0, (0, 481), (0, 2), .inr (0, (11, 0))), (1, (0, 480), (0, 1), .inr (0, (0, (-2)))), (0, (0, 482), (0, 0), .inr (0, (10, 0))), (1, (0, 480), (0, 0), .inr (0, (0, 0)))]) (fvs := [(0, (10, (-1)), (8, 0), (0, 0))]) hseg (by decide +kernel) (by decide +kernel)
  have hinv : rxIBGRX_0 S0 ws S (r 8) (r 9) := hinv
  rw [← hr_ 8 (by decide), ← hr_ 9 (by decide)] at hinv
  obtain ⟨⟨l8, u8⟩, ⟨l9, u9⟩, ⟨l10, u10⟩, ⟨l11, u11⟩, ⟨l12, u12⟩, -⟩ := b_
  obtain ⟨f0, -⟩ := f_
  obtain ⟨T0, ⟨e1, ⟨T2, ⟨e3, ⟨T4, w_, w4⟩⟩, w2⟩⟩, w0⟩ := d_
  subst w0
  subst w2
  subst w4
  subst w_
  have g := rxdBGRX_0_4 hP hin hsm_ I0 I1 hinv l8 u8 l9 u9 l10 u10 l11 u11 l12 u12 f0 e3 e1
  refine ⟨bx_narP_ok (l := []) g.1, ?_⟩
  show rxPSBGRX S0 ws (bx_up (bx_up (bx_up T4 480 (0) (0)) 480 (1) ((-2))) 481 (2) (r_p 12)) (some (bx_num r_p (.inr (0, (0, (-2))))))
  rw [bx_xv_ok h0_]
  exact g.2
theorem rxdBGRX_0_5 {S0 : Nat → Int → Int} {ws : List Int} {S : Nat → Int → Int} {pa ps x10 x11 x12 : Int} (hP : rxPBGRX S0 ws) (hin : bx_same rxL (bx_mdl rxC158.2.2.1) S0 S) (hin2 : bx_same rxL (bx_mdl rxC158.2.2.1) S (bx_up (bx_up (bx_up S 480 0 0) 480 1 ((-2))) 481 2 x12)) (I0 : bx_Inv rxL S) (I1 : bx_Inv rxL (bx_up (bx_up (bx_up S 480 0 0) 480 1 ((-2))) 481 2 x12)) (hinv : rxIBGRX_0 S0 ws S pa ps) (l8 : (-2147483648) ≤ pa) (u8 : pa ≤ (-1)) (l9 : (-2147483648) ≤ ps) (u9 : ps ≤ 2147483647) (l10 : 0 ≤ x10) (u10 : x10 ≤ 6) (l11 : (-2147483648) ≤ x11) (u11 : x11 ≤ 2147483647) (l12 : (-2147483648) ≤ x12) (u12 : x12 ≤ 2147483647) (e3 : (bx_up S 480 0 0) 482 0 = x10) (e1 : (bx_up (bx_up S 480 0 0) 480 1 ((-2))) 481 2 = x11) : (True) ∧ rxPSBGRX S0 ws (bx_up (bx_up (bx_up S 480 0 0) 480 1 ((-2))) 481 2 x12) (some ((-2))) := by
  obtain ⟨hI, hx⟩ := hinv
  obtain ⟨a_, c_⟩ := rxd158_0_5 hP hin hin2 I0 I1 hI l8 u8 l9 u9 l10 u10 l11 u11 l12 u12 e3 e1
  exact ⟨a_, c_, (by
    obtain ⟨e_, hw⟩ := hI
    subst e_
    exact ⟨pa, ps, hw, fun z hz hn j a b => (bx_up_ne (by omega)).trans ((bx_up_ne (by omega)).trans ((bx_up_ne (by omega)))), fun z hz hn => (by have := Option.some.inj hz; exfalso; omega)⟩)⟩
theorem rxfBGRX_0_5 {X : (Nat → Int → Int) → Prop} {S0 : Nat → Int → Int} {ws : List Int} (hP : rxPBGRX S0 ws) : bx_obE rxL X S0 rxC158.2.2.1 (rxIBGRX S0 ws) (rxPSBGRX S0 ws) 0 rxzBGRX_0 rxeBGRX_0_5 := by
  intro S S_p r r_p hinv hX hin hsm_ hseg
  obtain ⟨I0, I1, h0_, hr_, b_, f_, d_⟩ := bx_cl (evs := [(1, (0, 481), (0, 2), .inr (0, (12, 0))), (0, (0, 481), (0, 2), .inr (0, (11, 0))), (1, (0, 480), (0, 1), .inr (0, (0, (-2)))), (0, (0, 482), (0, 0), .inr (0, (10, 0))), (1, (0, 480), (0, 0), .inr (0, (0, 0)))]) (fvs := []) hseg (by decide +kernel) (by decide +kernel)
  have hinv : rxIBGRX_0 S0 ws S (r 8) (r 9) := hinv
  rw [← hr_ 8 (by decide), ← hr_ 9 (by decide)] at hinv
  obtain ⟨⟨l8, u8⟩, ⟨l9, u9⟩, ⟨l10, u10⟩, ⟨l11, u11⟩, ⟨l12, u12⟩, -⟩ := b_
  obtain ⟨T0, ⟨e1, ⟨T2, ⟨e3, ⟨T4, w_, w4⟩⟩, w2⟩⟩, w0⟩ := d_
  subst w0
  subst w2
  subst w4
  subst w_
  have g := rxdBGRX_0_5 hP hin hsm_ I0 I1 hinv l8 u8 l9 u9 l10 u10 l11 u11 l12 u12 e3 e1
  refine ⟨bx_narP_ok (l := []) g.1, ?_⟩
  show rxPSBGRX S0 ws (bx_up (bx_up (bx_up T4 480 (0) (0)) 480 (1) ((-2))) 481 (2) (r_p 12)) (some (bx_num r_p (.inr (0, (0, (-2))))))
  rw [bx_xv_ok h0_]
  exact g.2
theorem rxcBGRX_2_0 {S0 : Nat → Int → Int} {ws : List Int} {S : Nat → Int → Int} {pa ps y r x12 : Int} (hP : rxPBGRX S0 ws) (hin : bx_same rxL (bx_mdl rxC158.2.2.1) S0 S) (I0 : bx_Inv rxL S) (hinv : rxIBGRX_2 S0 ws S pa ps y r) (l8 : 0 ≤ pa) (u8 : pa ≤ 5) (l9 : 0 ≤ ps) (u9 : ps ≤ 7) (l10 : 0 ≤ y) (u10 : y ≤ 300) (l11 : 0 ≤ r) (u11 : r ≤ 0) (l12 : 0 ≤ x12) (u12 : x12 ≤ 11) (f0 : x12 ≠ 12) (e0 : S 482 2 = x12) : (True) ∧ (True) ∧ rxIBGRX_3 S0 ws S pa ps x12 0 x12 ∧ rxmBGRX_3 S0 ws S pa ps x12 0 x12 < rxmBGRX_2 S0 ws S pa ps y r := by
  obtain ⟨hI, hx⟩ := hinv
  obtain ⟨a_, b_, c_, d_⟩ := rxc158_2_0 hP hin I0 hI l8 u8 l9 u9 l10 u10 l11 u11 l12 u12 f0 e0
  exact ⟨a_, b_, ⟨c_, ⟨fun t a b => absurd a (by omega), fun j a b _ => hx j a b⟩⟩, d_⟩
theorem rxgBGRX_2_0 {X : (Nat → Int → Int) → Prop} {S0 : Nat → Int → Int} {ws : List Int} (hP : rxPBGRX S0 ws) : bx_obC rxL X S0 rxC158.2.2.1 (rxIBGRX S0 ws) (rxmBGRX S0 ws) 2 rxzBGRX_2 rxoBGRX_2_0 := by
  intro S S_p r r_p hinv hX hin hsm_ hseg
  obtain ⟨I0, I1, h0_, hr_, b_, f_, d_⟩ := bx_cl (evs := [(0, (0, 482), (0, 2), .inr (0, (12, 0)))]) (fvs := [(3, (12, 0), (0, 12), (0, 0))]) hseg (by decide +kernel) (by decide +kernel)
  have hinv : rxIBGRX_2 S0 ws S (r 8) (r 9) (r 10) (r 11) := hinv
  rw [← hr_ 8 (by decide), ← hr_ 9 (by decide), ← hr_ 10 (by decide), ← hr_ 11 (by decide)] at hinv
  obtain ⟨⟨l8, u8⟩, ⟨l9, u9⟩, ⟨l10, u10⟩, ⟨l11, u11⟩, ⟨l12, u12⟩, -⟩ := b_
  obtain ⟨f0, -⟩ := f_
  obtain ⟨e0, w_⟩ := d_
  subst w_
  have g := rxcBGRX_2_0 hP hin I0 hinv l8 u8 l9 u9 l10 u10 l11 u11 l12 u12 f0 e0
  refine ⟨bx_narP_ok (l := []) g.1, bx_nfP_ok h0_ (fvs := []) (by decide +kernel) g.2.1, ?_, ?_⟩
  · show rxIBGRX_3 S0 ws S_p (bx_val [(0, 0), (0, 0), (0, 0), (0, 0), (0, 0), (0, 0), (0, 0), (0, 0), (8, 0), (9, 0), (12, 0), (0, 0), (12, 0)] r_p 8) (bx_val [(0, 0), (0, 0), (0, 0), (0, 0), (0, 0), (0, 0), (0, 0), (0, 0), (8, 0), (9, 0), (12, 0), (0, 0), (12, 0)] r_p 9) (bx_val [(0, 0), (0, 0), (0, 0), (0, 0), (0, 0), (0, 0), (0, 0), (0, 0), (8, 0), (9, 0), (12, 0), (0, 0), (12, 0)] r_p 10) (bx_val [(0, 0), (0, 0), (0, 0), (0, 0), (0, 0), (0, 0), (0, 0), (0, 0), (8, 0), (9, 0), (12, 0), (0, 0), (12, 0)] r_p 11) (bx_val [(0, 0), (0, 0), (0, 0), (0, 0), (0, 0), (0, 0), (0, 0), (0, 0), (8, 0), (9, 0), (12, 0), (0, 0), (12, 0)] r_p 12)
    rw [bx_val_x (n := 8) (e := (8, 0)) h0_ rfl, bx_val_x (n := 9) (e := (9, 0)) h0_ rfl, bx_val_x (n := 10) (e := (12, 0)) h0_ rfl, bx_val_x (n := 11) (e := (0, 0)) h0_ rfl, bx_val_x (n := 12) (e := (12, 0)) h0_ rfl]
    exact g.2.2.1
  · show rxmBGRX_3 S0 ws S_p (bx_val [(0, 0), (0, 0), (0, 0), (0, 0), (0, 0), (0, 0), (0, 0), (0, 0), (8, 0), (9, 0), (12, 0), (0, 0), (12, 0)] r_p 8) (bx_val [(0, 0), (0, 0), (0, 0), (0, 0), (0, 0), (0, 0), (0, 0), (0, 0), (8, 0), (9, 0), (12, 0), (0, 0), (12, 0)] r_p 9) (bx_val [(0, 0), (0, 0), (0, 0), (0, 0), (0, 0), (0, 0), (0, 0), (0, 0), (8, 0), (9, 0), (12, 0), (0, 0), (12, 0)] r_p 10) (bx_val [(0, 0), (0, 0), (0, 0), (0, 0), (0, 0), (0, 0), (0, 0), (0, 0), (8, 0), (9, 0), (12, 0), (0, 0), (12, 0)] r_p 11) (bx_val [(0, 0), (0, 0), (0, 0), (0, 0), (0, 0), (0, 0), (0, 0), (0, 0), (8, 0), (9, 0), (12, 0), (0, 0), (12, 0)] r_p 12) < rxmBGRX_2 S0 ws S_p (r 8) (r 9) (r 10) (r 11)
    rw [bx_val_x (n := 8) (e := (8, 0)) h0_ rfl, bx_val_x (n := 9) (e := (9, 0)) h0_ rfl, bx_val_x (n := 10) (e := (12, 0)) h0_ rfl, bx_val_x (n := 11) (e := (0, 0)) h0_ rfl, bx_val_x (n := 12) (e := (12, 0)) h0_ rfl, ← hr_ 8 (by decide), ← hr_ 9 (by decide), ← hr_ 10 (by decide), ← hr_ 11 (by decide)]
    exact g.2.2.2
theorem rxdBGRX_2_0 {S0 : Nat → Int → Int} {ws : List Int} {S : Nat → Int → Int} {pa ps y r x12 x13 : Int} (hP : rxPBGRX S0 ws) (hin : bx_same rxL (bx_mdl rxC158.2.2.1) S0 S) (hin2 : bx_same rxL (bx_mdl rxC158.2.2.1) S (bx_up (bx_up S 480 1 ((-3))) 481 3 x13)) (I0 : bx_Inv rxL S) (I1 : bx_Inv rxL (bx_up (bx_up S 480 1 ((-3))) 481 3 x13)) (hinv : rxIBGRX_2 S0 ws S pa ps y r) (l8 : 0 ≤ pa) (u8 : pa ≤ 5) (l9 : 0 ≤ ps) (u9 : ps ≤ 7) (l10 : 0 ≤ y) (u10 : y ≤ 300) (l11 : 1 ≤ r) (u11 : r ≤ 1) (l12 : (-2147483648) ≤ x12) (u12 : x12 ≤ 2147483647) (l13 : (-2147483648) ≤ x13) (u13 : x13 ≤ 2147483647) (f0 : r ≠ 0) (e1 : (bx_up S 480 1 ((-3))) 481 3 = x12) : (True) ∧ rxPSBGRX S0 ws (bx_up (bx_up S 480 1 ((-3))) 481 3 x13) (some ((-3))) := by
  obtain ⟨hI, hx⟩ := hinv
  obtain ⟨a_, c_⟩ := rxd158_2_0 hP hin hin2 I0 I1 hI l8 u8 l9 u9 l10 u10 l11 u11 l12 u12 l13 u13 f0 e1
  exact ⟨a_, c_, (by
    have hw := hI.1
    exact ⟨pa, ps, hw, fun z hz hn j a b => ((bx_up_ne (by omega)).trans ((bx_up_ne (by omega)))).trans (hx j a b), fun z hz hn => (by have := Option.some.inj hz; exfalso; omega)⟩)⟩
theorem rxfBGRX_2_0 {X : (Nat → Int → Int) → Prop} {S0 : Nat → Int → Int} {ws : List Int} (hP : rxPBGRX S0 ws) : bx_obE rxL X S0 rxC158.2.2.1 (rxIBGRX S0 ws) (rxPSBGRX S0 ws) 2 rxzBGRX_2 rxeBGRX_2_0 := by
  intro S S_p r r_p hinv hX hin hsm_ hseg
  obtain ⟨I0, I1, h0_, hr_, b_, f_, d_⟩ := bx_cl (evs := [(1, (0, 481), (0, 3), .inr (0, (13, 0))), (0, (0, 481), (0, 3), .inr (0, (12, 0))), (1, (0, 480), (0, 1), .inr (0, (0, (-3))))]) (fvs := [(3, (11, 0), (0, 0), (0, 0))]) hseg (by decide +kernel) (by decide +kernel)
  have hinv : rxIBGRX_2 S0 ws S (r 8) (r 9) (r 10) (r 11) := hinv
  rw [← hr_ 8 (by decide), ← hr_ 9 (by decide), ← hr_ 10 (by decide), ← hr_ 11 (by decide)] at hinv
  obtain ⟨⟨l8, u8⟩, ⟨l9, u9⟩, ⟨l10, u10⟩, ⟨l11, u11⟩, ⟨l12, u12⟩, ⟨l13, u13⟩, -⟩ := b_
  obtain ⟨f0, -⟩ := f_
  obtain ⟨T0, ⟨e1, ⟨T2, w_, w2⟩⟩, w0⟩ := d_
  subst w0
  subst w2
  subst w_
  have g := rxdBGRX_2_0 hP hin hsm_ I0 I1 hinv l8 u8 l9 u9 l10 u10 l11 u11 l12 u12 l13 u13 f0 e1
  refine ⟨bx_narP_ok (l := []) g.1, ?_⟩
  show rxPSBGRX S0 ws (bx_up (bx_up T2 480 (1) ((-3))) 481 (3) (r_p 13)) (some (bx_num r_p (.inr (0, (0, (-3))))))
  rw [bx_xv_ok h0_]
  exact g.2
theorem rxdBGRX_2_1 {S0 : Nat → Int → Int} {ws : List Int} {S : Nat → Int → Int} {pa ps y r x12 x13 x14 : Int} (hP : rxPBGRX S0 ws) (hin : bx_same rxL (bx_mdl rxC158.2.2.1) S0 S) (hin2 : bx_same rxL (bx_mdl rxC158.2.2.1) S (bx_up (bx_up S 480 1 ((-5))) 481 5 x14)) (I0 : bx_Inv rxL S) (I1 : bx_Inv rxL (bx_up (bx_up S 480 1 ((-5))) 481 5 x14)) (hinv : rxIBGRX_2 S0 ws S pa ps y r) (l8 : 0 ≤ pa) (u8 : pa ≤ 5) (l9 : 0 ≤ ps) (u9 : ps ≤ 7) (l10 : 0 ≤ y) (u10 : y ≤ 300) (l11 : 0 ≤ r) (u11 : r ≤ 0) (l12 : 12 ≤ x12) (u12 : x12 ≤ 12) (l13 : (-2147483648) ≤ x13) (u13 : x13 ≤ 2147483647) (l14 : (-2147483648) ≤ x14) (u14 : x14 ≤ 2147483647) (e3 : S 482 2 = x12) (e1 : (bx_up S 480 1 ((-5))) 481 5 = x13) : (True) ∧ rxPSBGRX S0 ws (bx_up (bx_up S 480 1 ((-5))) 481 5 x14) (some ((-5))) := by
  obtain ⟨hI, hx⟩ := hinv
  obtain ⟨a_, c_⟩ := rxd158_2_1 hP hin hin2 I0 I1 hI l8 u8 l9 u9 l10 u10 l11 u11 l12 u12 l13 u13 l14 u14 e3 e1
  exact ⟨a_, c_, (by
    have hw := hI.1
    exact ⟨pa, ps, hw, fun z hz hn j a b => ((bx_up_ne (by omega)).trans ((bx_up_ne (by omega)))).trans (hx j a b), fun z hz hn => (by have := Option.some.inj hz; exfalso; omega)⟩)⟩
theorem rxfBGRX_2_1 {X : (Nat → Int → Int) → Prop} {S0 : Nat → Int → Int} {ws : List Int} (hP : rxPBGRX S0 ws) : bx_obE rxL X S0 rxC158.2.2.1 (rxIBGRX S0 ws) (rxPSBGRX S0 ws) 2 rxzBGRX_2 rxeBGRX_2_1 := by
  intro S S_p r r_p hinv hX hin hsm_ hseg
  obtain ⟨I0, I1, h0_, hr_, b_, f_, d_⟩ := bx_cl (evs := [(1, (0, 481), (0, 5), .inr (0, (14, 0))), (0, (0, 481), (0, 5), .inr (0, (13, 0))), (1, (0, 480), (0, 1), .inr (0, (0, (-5)))), (0, (0, 482), (0, 2), .inr (0, (12, 0)))]) (fvs := []) hseg (by decide +kernel) (by decide +kernel)
  have hinv : rxIBGRX_2 S0 ws S (r 8) (r 9) (r 10) (r 11) := hinv
  rw [← hr_ 8 (by decide), ← hr_ 9 (by decide), ← hr_ 10 (by decide), ← hr_ 11 (by decide)] at hinv
  obtain ⟨⟨l8, u8⟩, ⟨l9, u9⟩, ⟨l10, u10⟩, ⟨l11, u11⟩, ⟨l12, u12⟩, ⟨l13, u13⟩, ⟨l14, u14⟩, -⟩ := b_
  obtain ⟨T0, ⟨e1, ⟨T2, ⟨e3, w_⟩, w2⟩⟩, w0⟩ := d_
  subst w0
  subst w2
  subst w_
  have g := rxdBGRX_2_1 hP hin hsm_ I0 I1 hinv l8 u8 l9 u9 l10 u10 l11 u11 l12 u12 l13 u13 l14 u14 e3 e1
  refine ⟨bx_narP_ok (l := []) g.1, ?_⟩
  show rxPSBGRX S0 ws (bx_up (bx_up T2 480 (1) ((-5))) 481 (5) (r_p 14)) (some (bx_num r_p (.inr (0, (0, (-5))))))
  rw [bx_xv_ok h0_]
  exact g.2
theorem rxcBGRX_3_0 {S0 : Nat → Int → Int} {ws : List Int} {S : Nat → Int → Int} {pa ps v i n2 x13 x14 x15 x16 x17 : Int} (hP : rxPBGRX S0 ws) (hin : bx_same rxL (bx_mdl rxC158.2.2.1) S0 S) (I0 : bx_Inv rxL S) (hinv : rxIBGRX_3 S0 ws S pa ps v i n2) (l8 : 0 ≤ pa) (u8 : pa ≤ 5) (l9 : 0 ≤ ps) (u9 : ps ≤ 7) (l10 : 0 ≤ v) (u10 : v ≤ 11) (l11 : 0 ≤ i) (u11 : i ≤ 35) (l12 : 0 ≤ n2) (u12 : n2 ≤ 11) (l13 : 0 ≤ x13) (u13 : x13 ≤ 396) (l14 : 298 ≤ x14) (u14 : x14 ≤ 729) (l15 : 0 ≤ x15) (u15 : x15 ≤ 180) (l16 : 22 ≤ x16) (u16 : x16 ≤ 237) (l17 : (-1) ≤ x17) (u17 : x17 ≤ 59) (f0 : x16 = x15 + 22 + i) (f1 : x15 = 36 * (pa)) (f2 : x14 = x13 + 298 + i) (f3 : x13 = 36 * (v)) (e1 : S 482 x16 = x17) : (True) ∧ (True) ∧ rxIBGRX_3 S0 ws (bx_up S 482 x14 x17) pa ps v (i + 1) n2 ∧ rxmBGRX_3 S0 ws (bx_up S 482 x14 x17) pa ps v (i + 1) n2 < rxmBGRX_3 S0 ws S pa ps v i n2 := by
  obtain ⟨hI, hx⟩ := hinv
  obtain ⟨a_, b_, c_, d_⟩ := rxc158_3_0 hP hin I0 hI l8 u8 l9 u9 l10 u10 l11 u11 l12 u12 l13 u13 l14 u14 l15 u15 l16 u16 l17 u17 f0 f1 f2 f3 e1
  exact ⟨a_, b_, ⟨c_, (by
    obtain ⟨-, -, -, ⟨hv, hn⟩, -⟩ := hI
    have q0 : S0 482 (22 + 36 * pa + i) = x17 := by
      rw [← hx.2 (22 + 36 * pa + i) (by omega) (by omega) (by omega), show 22 + 36 * pa + i = x16 by omega]
      exact e1
    refine ⟨fun t a b => ?_, fun j a b c => (bx_up_ne (by omega)).trans (hx.2 j a b c)⟩
    by_cases c : t = i
    · rw [c, show 298 + 36 * v + i = x14 by omega, bx_up_at]
      exact q0.symm
    · exact (bx_up_ne (by omega)).trans (hx.1 t a (by omega)))⟩, d_⟩
theorem rxgBGRX_3_0 {X : (Nat → Int → Int) → Prop} {S0 : Nat → Int → Int} {ws : List Int} (hP : rxPBGRX S0 ws) : bx_obC rxL X S0 rxC158.2.2.1 (rxIBGRX S0 ws) (rxmBGRX S0 ws) 3 rxzBGRX_3 rxoBGRX_3_0 := by
  intro S S_p r r_p hinv hX hin hsm_ hseg
  obtain ⟨I0, I1, h0_, hr_, b_, f_, d_⟩ := bx_cl (evs := [(1, (0, 482), (14, 0), .inr (0, (17, 0))), (0, (0, 482), (16, 0), .inr (0, (17, 0)))]) (fvs := [(5, (16, 0), (15, 22), (11, 0)), (4, (15, 0), (8, 0), (0, 36)), (5, (14, 0), (13, 298), (11, 0)), (4, (13, 0), (10, 0), (0, 36))]) hseg (by decide +kernel) (by decide +kernel)
  have hinv : rxIBGRX_3 S0 ws S (r 8) (r 9) (r 10) (r 11) (r 12) := hinv
  rw [← hr_ 8 (by decide), ← hr_ 9 (by decide), ← hr_ 10 (by decide), ← hr_ 11 (by decide), ← hr_ 12 (by decide)] at hinv
  obtain ⟨⟨l8, u8⟩, ⟨l9, u9⟩, ⟨l10, u10⟩, ⟨l11, u11⟩, ⟨l12, u12⟩, ⟨l13, u13⟩, ⟨l14, u14⟩, ⟨l15, u15⟩, ⟨l16, u16⟩, ⟨l17, u17⟩, -⟩ := b_
  obtain ⟨f0, f1, f2, f3, -⟩ := f_
  obtain ⟨T0, ⟨e1, w_⟩, w0⟩ := d_
  subst w0
  subst w_
  have g := rxcBGRX_3_0 hP hin I0 hinv l8 u8 l9 u9 l10 u10 l11 u11 l12 u12 l13 u13 l14 u14 l15 u15 l16 u16 l17 u17 f0 f1 f2 f3 e1
  refine ⟨bx_narP_ok (l := []) g.1, bx_nfP_ok h0_ (fvs := []) (by decide +kernel) g.2.1, ?_, ?_⟩
  · show rxIBGRX_3 S0 ws (bx_up T0 482 (r_p 14) (r_p 17)) (bx_val [(0, 0), (0, 0), (0, 0), (0, 0), (0, 0), (0, 0), (0, 0), (0, 0), (8, 0), (9, 0), (10, 0), (11, 1), (12, 0)] r_p 8) (bx_val [(0, 0), (0, 0), (0, 0), (0, 0), (0, 0), (0, 0), (0, 0), (0, 0), (8, 0), (9, 0), (10, 0), (11, 1), (12, 0)] r_p 9) (bx_val [(0, 0), (0, 0), (0, 0), (0, 0), (0, 0), (0, 0), (0, 0), (0, 0), (8, 0), (9, 0), (10, 0), (11, 1), (12, 0)] r_p 10) (bx_val [(0, 0), (0, 0), (0, 0), (0, 0), (0, 0), (0, 0), (0, 0), (0, 0), (8, 0), (9, 0), (10, 0), (11, 1), (12, 0)] r_p 11) (bx_val [(0, 0), (0, 0), (0, 0), (0, 0), (0, 0), (0, 0), (0, 0), (0, 0), (8, 0), (9, 0), (10, 0), (11, 1), (12, 0)] r_p 12)
    rw [bx_val_x (n := 8) (e := (8, 0)) h0_ rfl, bx_val_x (n := 9) (e := (9, 0)) h0_ rfl, bx_val_x (n := 10) (e := (10, 0)) h0_ rfl, bx_val_x (n := 11) (e := (11, 1)) h0_ rfl, bx_val_x (n := 12) (e := (12, 0)) h0_ rfl]
    exact g.2.2.1
  · show rxmBGRX_3 S0 ws (bx_up T0 482 (r_p 14) (r_p 17)) (bx_val [(0, 0), (0, 0), (0, 0), (0, 0), (0, 0), (0, 0), (0, 0), (0, 0), (8, 0), (9, 0), (10, 0), (11, 1), (12, 0)] r_p 8) (bx_val [(0, 0), (0, 0), (0, 0), (0, 0), (0, 0), (0, 0), (0, 0), (0, 0), (8, 0), (9, 0), (10, 0), (11, 1), (12, 0)] r_p 9) (bx_val [(0, 0), (0, 0), (0, 0), (0, 0), (0, 0), (0, 0), (0, 0), (0, 0), (8, 0), (9, 0), (10, 0), (11, 1), (12, 0)] r_p 10) (bx_val [(0, 0), (0, 0), (0, 0), (0, 0), (0, 0), (0, 0), (0, 0), (0, 0), (8, 0), (9, 0), (10, 0), (11, 1), (12, 0)] r_p 11) (bx_val [(0, 0), (0, 0), (0, 0), (0, 0), (0, 0), (0, 0), (0, 0), (0, 0), (8, 0), (9, 0), (10, 0), (11, 1), (12, 0)] r_p 12) < rxmBGRX_3 S0 ws T0 (r 8) (r 9) (r 10) (r 11) (r 12)
    rw [bx_val_x (n := 8) (e := (8, 0)) h0_ rfl, bx_val_x (n := 9) (e := (9, 0)) h0_ rfl, bx_val_x (n := 10) (e := (10, 0)) h0_ rfl, bx_val_x (n := 11) (e := (11, 1)) h0_ rfl, bx_val_x (n := 12) (e := (12, 0)) h0_ rfl, ← hr_ 8 (by decide), ← hr_ 9 (by decide), ← hr_ 10 (by decide), ← hr_ 11 (by decide), ← hr_ 12 (by decide)]
    exact g.2.2.2
theorem rxdBGRX_3_0 {S0 : Nat → Int → Int} {ws : List Int} {S : Nat → Int → Int} {pa ps v i n2 x13 x14 x15 : Int} (hP : rxPBGRX S0 ws) (hin : bx_same rxL (bx_mdl rxC158.2.2.1) S0 S) (hin2 : bx_same rxL (bx_mdl rxC158.2.2.1) S (bx_up (bx_up (bx_up (bx_up (bx_up S 482 (x13 + 262) pa) 482 (x14 + 263) ps) 482 (x15 + 264) ((-1))) 482 2 (n2 + 1)) 480 1 0)) (I0 : bx_Inv rxL S) (I1 : bx_Inv rxL (bx_up (bx_up (bx_up (bx_up (bx_up S 482 (x13 + 262) pa) 482 (x14 + 263) ps) 482 (x15 + 264) ((-1))) 482 2 (n2 + 1)) 480 1 0)) (hinv : rxIBGRX_3 S0 ws S pa ps v i n2) (l8 : 0 ≤ pa) (u8 : pa ≤ 5) (l9 : 0 ≤ ps) (u9 : ps ≤ 7) (l10 : 0 ≤ v) (u10 : v ≤ 11) (l11 : 36 ≤ i) (u11 : i ≤ 36) (l12 : 0 ≤ n2) (u12 : n2 ≤ 11) (l13 : 0 ≤ x13) (u13 : x13 ≤ 33) (l14 : 0 ≤ x14) (u14 : x14 ≤ 33) (l15 : 0 ≤ x15) (u15 : x15 ≤ 33) (f0 : x15 = 3 * (n2)) (f1 : x14 = 3 * (n2)) (f2 : x13 = 3 * (n2)) : (True) ∧ rxPSBGRX S0 ws (bx_up (bx_up (bx_up (bx_up (bx_up S 482 (x13 + 262) pa) 482 (x14 + 263) ps) 482 (x15 + 264) ((-1))) 482 2 (n2 + 1)) 480 1 0) (some n2) := by
  obtain ⟨hI, hx⟩ := hinv
  obtain ⟨a_, c_⟩ := rxd158_3_0 hP hin hin2 I0 I1 hI l8 u8 l9 u9 l10 u10 l11 u11 l12 u12 l13 u13 l14 u14 l15 u15 f0 f1 f2
  exact ⟨a_, c_, (by
    obtain ⟨hw, -, -, ⟨hv, hn⟩, -⟩ := hI
    exact ⟨pa, ps, hw, fun z hz hz0 => (by have := Option.some.inj hz; exfalso; omega), fun z hz hz0 => ⟨fun t a b => (by rw [← hv]; exact ((bx_up_ne (by omega)).trans ((bx_up_ne (by omega)).trans ((bx_up_ne (by omega)).trans ((bx_up_ne (by omega)).trans ((bx_up_ne (by omega))))))).trans (hx.1 t a (by omega))), fun j c => ((bx_up_ne (by omega)).trans ((bx_up_ne (by omega)).trans ((bx_up_ne (by omega)).trans ((bx_up_ne (by omega)).trans ((bx_up_ne (by omega))))))).trans (hx.2 j (by omega) (by omega) (by omega))⟩⟩)⟩
theorem rxfBGRX_3_0 {X : (Nat → Int → Int) → Prop} {S0 : Nat → Int → Int} {ws : List Int} (hP : rxPBGRX S0 ws) : bx_obE rxL X S0 rxC158.2.2.1 (rxIBGRX S0 ws) (rxPSBGRX S0 ws) 3 rxzBGRX_3 rxeBGRX_3_0 := by
  intro S S_p r r_p hinv hX hin hsm_ hseg
  obtain ⟨I0, I1, h0_, hr_, b_, f_, d_⟩ := bx_cl (evs := [(1, (0, 480), (0, 1), .inr (0, (0, 0))), (1, (0, 482), (0, 2), .inr (0, (12, 1))), (1, (0, 482), (15, 264), .inr (0, (0, (-1)))), (1, (0, 482), (14, 263), .inr (0, (9, 0))), (1, (0, 482), (13, 262), .inr (0, (8, 0)))]) (fvs := [(4, (15, 0), (12, 0), (0, 3)), (4, (14, 0), (12, 0), (0, 3)), (4, (13, 0), (12, 0), (0, 3))]) hseg (by decide +kernel) (by decide +kernel)
  have hinv : rxIBGRX_3 S0 ws S (r 8) (r 9) (r 10) (r 11) (r 12) := hinv
  rw [← hr_ 8 (by decide), ← hr_ 9 (by decide), ← hr_ 10 (by decide), ← hr_ 11 (by decide), ← hr_ 12 (by decide)] at hinv
  obtain ⟨⟨l8, u8⟩, ⟨l9, u9⟩, ⟨l10, u10⟩, ⟨l11, u11⟩, ⟨l12, u12⟩, ⟨l13, u13⟩, ⟨l14, u14⟩, ⟨l15, u15⟩, -⟩ := b_
  obtain ⟨f0, f1, f2, -⟩ := f_
  obtain ⟨T0, ⟨T1, ⟨T2, ⟨T3, ⟨T4, w_, w4⟩, w3⟩, w2⟩, w1⟩, w0⟩ := d_
  subst w0
  subst w1
  subst w2
  subst w3
  subst w4
  subst w_
  have g := rxdBGRX_3_0 hP hin hsm_ I0 I1 hinv l8 u8 l9 u9 l10 u10 l11 u11 l12 u12 l13 u13 l14 u14 l15 u15 f0 f1 f2
  refine ⟨bx_narP_ok (l := []) g.1, ?_⟩
  show rxPSBGRX S0 ws (bx_up (bx_up (bx_up (bx_up (bx_up T4 482 (r_p 13 + 262) (r_p 8)) 482 (r_p 14 + 263) (r_p 9)) 482 (r_p 15 + 264) ((-1))) 482 (2) (r_p 12 + 1)) 480 (1) (0)) (some (bx_num r_p (.inr (0, (12, 0)))))
  rw [bx_xv_ok h0_]
  exact g.2
theorem rxgCBGRX {X : (Nat → Int → Int) → Prop} {S0 : Nat → Int → Int} {ws : List Int} (hP : rxPBGRX S0 ws) : bx_allI (fun i q => rxUBGRX q = true ∨ bx_allP (fun o => bx_obC rxL X S0 rxC158.2.2.1 (rxIBGRX S0 ws) (rxmBGRX S0 ws) i q.1 o) q.2.1) 0 rxYBGRX := ⟨Or.inr ⟨rxgBGRX_0_0 hP, trivial⟩, Or.inl rfl, Or.inr ⟨rxgBGRX_2_0 hP, trivial⟩, Or.inr ⟨rxgBGRX_3_0 hP, trivial⟩, trivial⟩
theorem rxgEBGRX {X : (Nat → Int → Int) → Prop} {S0 : Nat → Int → Int} {ws : List Int} (hP : rxPBGRX S0 ws) : bx_allI (fun i q => rxUBGRX q = true ∨ bx_allP (fun E => bx_obE rxL X S0 rxC158.2.2.1 (rxIBGRX S0 ws) (rxPSBGRX S0 ws) i q.1 E) q.2.2) 0 rxYBGRX := ⟨Or.inr ⟨rxfBGRX_0_0 hP, rxfBGRX_0_1 hP, rxfBGRX_0_2 hP, rxfBGRX_0_3 hP, rxfBGRX_0_4 hP, rxfBGRX_0_5 hP, trivial⟩, Or.inl rfl, Or.inr ⟨rxfBGRX_2_0 hP, rxfBGRX_2_1 hP, trivial⟩, Or.inr ⟨rxfBGRX_3_0 hP, trivial⟩, trivial⟩
theorem rxuBGRX {PX : State → Prop} {Dg : va_G} {A : Nat → Prop} {ad xa : Nat → Nat} {l : Launch} {X : (Nat → Int → Int) → Prop} (hPX : rx_PXOK rxNW A PX) (hX : ∀ S S1 : Nat → Int → Int, X S → bx_same rxL (bx_mdl rxC158.2.2.1) S S1 → X S1) (hQBAX : bx_ConP rxG rxNW rxAO PX Dg rxL X vwCl A ad l rxM292 rxCBAX rxPBAX rxPSBAX) {S0 : Nat → Int → Int} {ws : List Int} (hP : rxPBGRX S0 ws) : ∀ (i : Nat) (q : bx_HE), rxYBGRX[i]? = some q → rxUBGRX q = true → ∀ {p : Program} {e : Env} {R : Room} {s : State} {m : MethodId} {args : Array Value} {below : List Frame} {meth : Method} {c : Code} {Q : State → Prop} {H0 : Heap}, rx_Fr rxG rxNW rxAO PX p s m args meth c rxM158 → (∀ q, H0.size ≤ q → A q) → H0 = s.heap → rxM158.2.2.2.2.2.2.1 ≤ R.cells → rxM158.2.2.2.2.2.2.2 ≤ R.slots → rxC158.2.2.2.1 ≤ R.frames → rxC158.2.2.2.1 * 40 ≤ R.locals → bx_Step p l e R s m args below meth c Q Dg rxL X vwCl A xa H0 ad rxM158 rxYBGRX (rxIBGRX S0 ws) (rxmBGRX S0 ws) S0 rxC158.2.2.1 i q := by
  intro i q hq hus p e R s m args below meth c Q H0 hF hA hH0 hmc hms hd hdl
  match i, hq with
  | 0, hq =>
    cases hq
    exact absurd (show false = true from hus) Bool.false_ne_true
  | 1, hq =>
    cases hq
    exact rx_stepC (ins := .invokevirtual 440) (len := 3) (i_p := 2) (M_p := rxM292) (d := rxC158.2.2.2.1) (as := [.inr (3, (0, 480)), .inr (0, (9, 0)), .inr (0, (8, 0)), .inr (0, (0, (-1))), .inr (0, (10, 0))]) (t := []) (ct := rxCBAX) hPX hF rfl hA hH0 hmc hms hd hdl (by decide +kernel) rfl rfl (by decide +kernel) (by decide +kernel) hQBAX (by decide +kernel) rfl (Or.inr ⟨_, _, _, 1, rfl, rfl, by omega, rfl, rfl, rfl⟩) (rxsBGRX_1 hP)
  | 2, hq =>
    cases hq
    exact absurd (show false = true from hus) Bool.false_ne_true
  | 3, hq =>
    cases hq
    exact absurd (show false = true from hus) Bool.false_ne_true
  | n + 4, hq => cases hq
theorem rxQBGRX {PX : State → Prop} {Dg : va_G} {A : Nat → Prop} {ad xa : Nat → Nat} {l : Launch} {X : (Nat → Int → Int) → Prop} (hPX : rx_PXOK rxNW A PX) (hsl : ∀ s : State, PX s → ∀ o idx n : Nat, rxSl o idx = some n → ∃ tx : String, vk_R (rxNm o) idx tx (ad n) s)
    (hX : ∀ S S_p : Nat → Int → Int, X S → bx_same rxL (bx_mdl rxC158.2.2.1) S S_p → X S_p)
    (ih : ∀ (j2 : Nat) (ct2 : bx_Ct) (M2 : rx_Mt), ct2 ∈ rxCnE j2 → ct2.2.2.2.1 + 1 ≤ rxC158.2.2.2.1 → rxT.2.2.2.2.2 j2 = some M2 → bx_Con rxG rxNW rxAO PX Dg rxL X vwCl A ad l M2 ct2) (hQBAX : bx_ConP rxG rxNW rxAO PX Dg rxL X vwCl A ad l rxM292 rxCBAX rxPBAX rxPSBAX) : bx_ConP rxG rxNW rxAO PX Dg rxL X vwCl A ad l rxM158 rxC158 rxPBGRX rxPSBGRX :=
  rxQof (xa := xa) (Cn := rxCnE) (f := 30000) (j := 158) (tab := rxYBGRX) (us := rxUBGRX) hPX hsl hX ih rfl rxYcBGRX rxIBGRX rxmBGRX
    (fun S0 ws r I0 I ht0 ht as he he1 hX0 hI0 hP hs ha => by
      have e := he.symm.trans (show bx_ent0 rxNP rxC158.1 bx_I0 [] = some ([(0, 0), (0, 0), (0, 0), (0, 0), (0, 0), (0, 0), (0, 0), (0, 0), ((-2147483648), 2147483647), ((-2147483648), 2147483647)], [], [.inr (3, (0, 480)), .inr (0, (8, 0)), .inr (0, (9, 0))]) from rfl)
      cases e
      subst ha
      have h0 : r 0 = 0 := hs.1
      show rxIBGRX_0 S0 _ S0 (r 8) (r 9)
      refine ⟨⟨rfl, ?_⟩, trivial⟩
      simp only [List.map_cons, List.map_nil, bx_xv_ok h0]
      rfl)
    (fun S0 ws hP => rxuBGRX (xa := xa) hPX hX hQBAX hP) (fun S0 ws hP => rxgCBGRX hP) (fun S0 ws hP => rxgEBGRX hP)
