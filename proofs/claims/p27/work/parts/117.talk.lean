noncomputable def rxI177_0 (S0 : Nat → Int → Int) (ws : List Int) (S : Nat → Int → Int) (one other cue what : Int) : Prop := S = S0 ∧ ws = [480, one, other, cue, what]
noncomputable def rxm177_0 (S0 : Nat → Int → Int) (ws : List Int) (S : Nat → Int → Int) (one other cue what : Int) : Nat := 100
noncomputable def rxz177_0 : rx_Z := ([(0, 0), (0, 0), (0, 0), (0, 0), (0, 0), (0, 0), (0, 0), (0, 0), ((-2147483648), 2147483647), ((-2147483648), 2147483647), ((-2147483648), 2147483647), ((-2147483648), 2147483647)], [], [], 0, 0, 0, [(0, .inr (3, (0, 480))), (1, .inr (0, (8, 0))), (2, .inr (0, (9, 0))), (3, .inr (0, (10, 0))), (4, .inr (0, (11, 0)))], [])
noncomputable def rxI177_1 (S0 : Nat → Int → Int) (ws : List Int) (S : Nat → Int → Int) (one other cue what a b c : Int) : Prop := what < 3 ∨ 10 ≤ what
noncomputable def rxm177_1 (S0 : Nat → Int → Int) (ws : List Int) (S : Nat → Int → Int) (one other cue what a b c : Int) : Nat := 90
noncomputable def rxz177_1 : rx_Z := ([(0, 0), (0, 0), (0, 0), (0, 0), (0, 0), (0, 0), (0, 0), (0, 0), (0, 11), (0, 11), (0, 5), (0, 99), (0, 11), (0, 11), (0, 5)], [], [], 0, 0, 49, [(0, .inr (3, (0, 480))), (1, .inr (0, (8, 0))), (2, .inr (0, (9, 0))), (3, .inr (0, (10, 0))), (4, .inr (0, (11, 0)))], [.inr (0, (14, 0)), .inr (0, (13, 0)), .inr (0, (12, 0)), .inr (3, (0, 480))])
noncomputable def rxI177_2 (S0 : Nat → Int → Int) (ws : List Int) (S : Nat → Int → Int) (one other cue what a b c : Int) : Prop := (what < 3 ∨ 10 ≤ what) ∧ (S 480 45 ≠ -1 ∨ (1 ≤ S 480 47 ∧ 0 ≤ S 480 46 ∧ S 480 46 + S 480 47 ≤ 432))
noncomputable def rxm177_2 (S0 : Nat → Int → Int) (ws : List Int) (S : Nat → Int → Int) (one other cue what a b c : Int) : Nat := 80
noncomputable def rxz177_2 : rx_Z := ([(0, 0), (0, 0), (0, 0), (0, 0), (0, 0), (0, 0), (0, 0), (0, 0), (0, 11), (0, 11), (0, 5), (0, 99), (0, 11), (0, 11), (0, 5)], [], [], 0, 0, 52, [(0, .inr (3, (0, 480))), (1, .inr (0, (8, 0))), (2, .inr (0, (9, 0))), (3, .inr (0, (10, 0))), (4, .inr (0, (11, 0)))], [])
noncomputable def rxI177_3 (S0 : Nat → Int → Int) (ws : List Int) (S : Nat → Int → Int) (one other cue what : Int) : Prop := (S 480 45 ≠ -1 ∨ (1 ≤ S 480 47 ∧ 0 ≤ S 480 46 ∧ S 480 46 + S 480 47 ≤ 432))
noncomputable def rxm177_3 (S0 : Nat → Int → Int) (ws : List Int) (S : Nat → Int → Int) (one other cue what : Int) : Nat := 70
noncomputable def rxz177_3 : rx_Z := ([(0, 0), (0, 0), (0, 0), (0, 0), (0, 0), (0, 0), (0, 0), (0, 0), (0, 11), (0, 11), (0, 5), (10, 99)], [], [], 0, 0, 88, [(0, .inr (3, (0, 480))), (1, .inr (0, (8, 0))), (2, .inr (0, (9, 0))), (3, .inr (0, (10, 0))), (4, .inr (0, (11, 0)))], [])
noncomputable def rxI177_4 (S0 : Nat → Int → Int) (ws : List Int) (S : Nat → Int → Int) (one other cue what i ah d ro : Int) : Prop := ah + ro ≤ 432
noncomputable def rxm177_4 (S0 : Nat → Int → Int) (ws : List Int) (S : Nat → Int → Int) (one other cue what i ah d ro : Int) : Nat := 60
noncomputable def rxz177_4 : rx_Z := ([(0, 0), (0, 0), (0, 0), (0, 0), (0, 0), (0, 0), (0, 0), (0, 0), (0, 11), (0, 11), (0, 5), (10, 99), (0, 89), (0, 432), (0, 89), (1, 432)], [], [], 0, 0, 157, [(0, .inr (3, (0, 480))), (1, .inr (0, (8, 0))), (2, .inr (0, (9, 0))), (3, .inr (0, (10, 0))), (4, .inr (0, (11, 0))), (5, .inr (0, (12, 0)))], [.inr (0, (15, 0)), .inr (0, (14, 0)), .inr (0, (13, 0)), .inr (3, (0, 503))])
noncomputable def rxI177_5 (S0 : Nat → Int → Int) (ws : List Int) (S : Nat → Int → Int) (one other cue what i ah d ro m : Int) : Prop := ah + ro ≤ 432 ∧ m < ro
noncomputable def rxm177_5 (S0 : Nat → Int → Int) (ws : List Int) (S : Nat → Int → Int) (one other cue what i ah d ro m : Int) : Nat := 50
noncomputable def rxz177_5 : rx_Z := ([(0, 0), (0, 0), (0, 0), (0, 0), (0, 0), (0, 0), (0, 0), (0, 0), (0, 11), (0, 11), (0, 5), (10, 99), (0, 89), (0, 432), (0, 89), (1, 432), (0, 431)], [], [], 0, 0, 158, [(0, .inr (3, (0, 480))), (1, .inr (0, (8, 0))), (2, .inr (0, (9, 0))), (3, .inr (0, (10, 0))), (4, .inr (0, (11, 0))), (5, .inr (0, (12, 0)))], [.inr (0, (16, 0)), .inr (0, (13, 0)), .inr (3, (0, 503))])
noncomputable def rxI177_6 (S0 : Nat → Int → Int) (ws : List Int) (S : Nat → Int → Int) (one other cue what i ix : Int) : Prop := True
noncomputable def rxm177_6 (S0 : Nat → Int → Int) (ws : List Int) (S : Nat → Int → Int) (one other cue what i ix : Int) : Nat := 40
noncomputable def rxz177_6 : rx_Z := ([(0, 0), (0, 0), (0, 0), (0, 0), (0, 0), (0, 0), (0, 0), (0, 0), (0, 11), (0, 11), (0, 5), (10, 99), (0, 89), (0, 433)], [], [], 0, 0, 159, [(0, .inr (3, (0, 480))), (1, .inr (0, (8, 0))), (2, .inr (0, (9, 0))), (3, .inr (0, (10, 0))), (4, .inr (0, (11, 0))), (5, .inr (0, (12, 0)))], [.inr (0, (13, 0)), .inr (3, (0, 503))])
noncomputable def rxo177_0_0 : bx_HO := (([(0, 0), (0, 0), (0, 0), (0, 0), (0, 0), (0, 0), (0, 0), (0, 0), (0, 11), (0, 11), (0, 5), (10, 99), (1, 12)], [(1, (9, 0), (12, (-1))), (1, (8, 0), (12, (-1)))], [(((0, 0), 1851192626986356797825753743950570534658660943933713684945305600000000), .inr (0, (12, 0))), (((0, 482), 2), .inr (0, (12, 0))), (((0, 480), 3), .inr (3, (0, 482))), (((0, 0), 1851192626986356797424340330377019318111018015026043177836478467000000), .inr (0, (0, 0))), (((0, 480), 0), .inr (0, (0, 0)))], 0, 0, 49, [(0, .inr (3, (0, 480))), (1, .inr (0, (8, 0))), (2, .inr (0, (9, 0))), (3, .inr (0, (10, 0))), (4, .inr (0, (11, 0)))], [.inr (0, (10, 0)), .inr (0, (9, 0)), .inr (0, (8, 0)), .inr (3, (0, 480))]), [], [], [(0, 0), (0, 0), (0, 0), (0, 0), (0, 0), (0, 0), (0, 0), (0, 0), (8, 0), (9, 0), (10, 0), (11, 0), (8, 0), (9, 0), (10, 0)], 1)
noncomputable def rxo177_0_1 : bx_HO := (([(0, 0), (0, 0), (0, 0), (0, 0), (0, 0), (0, 0), (0, 0), (0, 0), (0, 11), (0, 11), (0, 5), (0, 2), (1, 12)], [(1, (9, 0), (12, (-1))), (1, (8, 0), (12, (-1)))], [(((0, 0), 1851192626986356797825753743950570534658660943933713684945305600000000), .inr (0, (12, 0))), (((0, 482), 2), .inr (0, (12, 0))), (((0, 480), 3), .inr (3, (0, 482))), (((0, 0), 1851192626986356797424340330377019318111018015026043177836478467000000), .inr (0, (0, 0))), (((0, 480), 0), .inr (0, (0, 0)))], 0, 0, 49, [(0, .inr (3, (0, 480))), (1, .inr (0, (8, 0))), (2, .inr (0, (9, 0))), (3, .inr (0, (10, 0))), (4, .inr (0, (11, 0)))], [.inr (0, (10, 0)), .inr (0, (9, 0)), .inr (0, (8, 0)), .inr (3, (0, 480))]), [], [], [(0, 0), (0, 0), (0, 0), (0, 0), (0, 0), (0, 0), (0, 0), (0, 0), (8, 0), (9, 0), (10, 0), (11, 0), (8, 0), (9, 0), (10, 0)], 1)
noncomputable def rxe177_0_0 : rx_End × List (Nat × Int × Int) := (([(0, 0), (0, 0), (0, 0), (0, 0), (0, 0), (0, 0), (0, 0), (0, 0), ((-2147483648), (-1)), ((-2147483648), 2147483647), ((-2147483648), 2147483647), ((-2147483648), 2147483647), (0, 12)], [], [(((0, 0), 1851192626986356797825753743950570534658660943933713684945305600000000), .inr (0, (12, 0))), (((0, 482), 2), .inr (0, (12, 0))), (((0, 480), 3), .inr (3, (0, 482))), (((0, 0), 1851192626986356797424340330377019318111018015026043177836478467000000), .inr (0, (0, 0))), (((0, 480), 0), .inr (0, (0, 0)))], some (.inr (0, (0, (-1))))), [])
noncomputable def rxe177_0_1 : rx_End × List (Nat × Int × Int) := (([(0, 0), (0, 0), (0, 0), (0, 0), (0, 0), (0, 0), (0, 0), (0, 0), (0, 2147483647), ((-2147483648), 2147483647), ((-2147483648), 2147483647), ((-2147483648), 2147483647), (0, 12)], [(0, (12, (-1)), (8, 0))], [(((0, 0), 1851192626986356797825753743950570534658660943933713684945305600000000), .inr (0, (12, 0))), (((0, 482), 2), .inr (0, (12, 0))), (((0, 480), 3), .inr (3, (0, 482))), (((0, 0), 1851192626986356797424340330377019318111018015026043177836478467000000), .inr (0, (0, 0))), (((0, 480), 0), .inr (0, (0, 0)))], some (.inr (0, (0, (-1))))), [])
noncomputable def rxe177_0_2 : rx_End × List (Nat × Int × Int) := (([(0, 0), (0, 0), (0, 0), (0, 0), (0, 0), (0, 0), (0, 0), (0, 0), (0, 11), ((-2147483648), (-1)), ((-2147483648), 2147483647), ((-2147483648), 2147483647), (1, 12)], [(1, (8, 0), (12, (-1)))], [(((0, 0), 1851192626986356797825753743950570534658660943933713684945305600000000), .inr (0, (12, 0))), (((0, 482), 2), .inr (0, (12, 0))), (((0, 480), 3), .inr (3, (0, 482))), (((0, 0), 1851192626986356797424340330377019318111018015026043177836478467000000), .inr (0, (0, 0))), (((0, 480), 0), .inr (0, (0, 0)))], some (.inr (0, (0, (-1))))), [])
noncomputable def rxe177_0_3 : rx_End × List (Nat × Int × Int) := (([(0, 0), (0, 0), (0, 0), (0, 0), (0, 0), (0, 0), (0, 0), (0, 0), (0, 11), (1, 2147483647), ((-2147483648), 2147483647), ((-2147483648), 2147483647), (1, 12)], [(0, (12, (-1)), (9, 0)), (1, (8, 0), (12, (-1)))], [(((0, 0), 1851192626986356797825753743950570534658660943933713684945305600000000), .inr (0, (12, 0))), (((0, 482), 2), .inr (0, (12, 0))), (((0, 480), 3), .inr (3, (0, 482))), (((0, 0), 1851192626986356797424340330377019318111018015026043177836478467000000), .inr (0, (0, 0))), (((0, 480), 0), .inr (0, (0, 0)))], some (.inr (0, (0, (-1))))), [])
noncomputable def rxe177_0_4 : rx_End × List (Nat × Int × Int) := (([(0, 0), (0, 0), (0, 0), (0, 0), (0, 0), (0, 0), (0, 0), (0, 0), (0, 11), (0, 11), (0, 5), ((-2147483648), (-1)), (1, 12)], [(1, (9, 0), (12, (-1))), (1, (8, 0), (12, (-1)))], [(((0, 0), 1851192626986356797825753743950570534658660943933713684945305600000000), .inr (0, (12, 0))), (((0, 482), 2), .inr (0, (12, 0))), (((0, 480), 3), .inr (3, (0, 482))), (((0, 0), 1851192626986356797424340330377019318111018015026043177836478467000000), .inr (0, (0, 0))), (((0, 480), 0), .inr (0, (0, 0)))], some (.inr (0, (0, (-1))))), [])
noncomputable def rxe177_0_5 : rx_End × List (Nat × Int × Int) := (([(0, 0), (0, 0), (0, 0), (0, 0), (0, 0), (0, 0), (0, 0), (0, 0), (0, 11), (0, 11), (0, 5), (3, 9), (1, 12)], [(1, (9, 0), (12, (-1))), (1, (8, 0), (12, (-1)))], [(((0, 0), 1851192626986356797825753743950570534658660943933713684945305600000000), .inr (0, (12, 0))), (((0, 482), 2), .inr (0, (12, 0))), (((0, 480), 3), .inr (3, (0, 482))), (((0, 0), 1851192626986356797424340330377019318111018015026043177836478467000000), .inr (0, (0, 0))), (((0, 480), 0), .inr (0, (0, 0)))], some (.inr (0, (0, (-1))))), [])
noncomputable def rxe177_0_6 : rx_End × List (Nat × Int × Int) := (([(0, 0), (0, 0), (0, 0), (0, 0), (0, 0), (0, 0), (0, 0), (0, 0), (0, 11), (0, 11), (0, 5), (100, 2147483647), (1, 12)], [(1, (9, 0), (12, (-1))), (1, (8, 0), (12, (-1)))], [(((0, 0), 1851192626986356797825753743950570534658660943933713684945305600000000), .inr (0, (12, 0))), (((0, 482), 2), .inr (0, (12, 0))), (((0, 480), 3), .inr (3, (0, 482))), (((0, 0), 1851192626986356797424340330377019318111018015026043177836478467000000), .inr (0, (0, 0))), (((0, 480), 0), .inr (0, (0, 0)))], some (.inr (0, (0, (-1))))), [])
noncomputable def rxe177_0_7 : rx_End × List (Nat × Int × Int) := (([(0, 0), (0, 0), (0, 0), (0, 0), (0, 0), (0, 0), (0, 0), (0, 0), (0, 11), (0, 11), (6, 2147483647), ((-2147483648), 2147483647), (1, 12)], [(1, (9, 0), (12, (-1))), (1, (8, 0), (12, (-1)))], [(((0, 0), 1851192626986356797825753743950570534658660943933713684945305600000000), .inr (0, (12, 0))), (((0, 482), 2), .inr (0, (12, 0))), (((0, 480), 3), .inr (3, (0, 482))), (((0, 0), 1851192626986356797424340330377019318111018015026043177836478467000000), .inr (0, (0, 0))), (((0, 480), 0), .inr (0, (0, 0)))], some (.inr (0, (0, (-1))))), [])
noncomputable def rxe177_0_8 : rx_End × List (Nat × Int × Int) := (([(0, 0), (0, 0), (0, 0), (0, 0), (0, 0), (0, 0), (0, 0), (0, 0), (0, 11), (0, 11), ((-2147483648), (-1)), ((-2147483648), 2147483647), (1, 12)], [(1, (9, 0), (12, (-1))), (1, (8, 0), (12, (-1)))], [(((0, 0), 1851192626986356797825753743950570534658660943933713684945305600000000), .inr (0, (12, 0))), (((0, 482), 2), .inr (0, (12, 0))), (((0, 480), 3), .inr (3, (0, 482))), (((0, 0), 1851192626986356797424340330377019318111018015026043177836478467000000), .inr (0, (0, 0))), (((0, 480), 0), .inr (0, (0, 0)))], some (.inr (0, (0, (-1))))), [])
noncomputable def rxo177_2_0 : bx_HO := (([(0, 0), (0, 0), (0, 0), (0, 0), (0, 0), (0, 0), (0, 0), (0, 0), (0, 11), (0, 11), (0, 5), (3, 99), (0, 11), (0, 11), (0, 5)], [], [], 0, 0, 88, [(0, .inr (3, (0, 480))), (1, .inr (0, (8, 0))), (2, .inr (0, (9, 0))), (3, .inr (0, (10, 0))), (4, .inr (0, (11, 0)))], []), [(11, 10, 99)], [], [(0, 0), (0, 0), (0, 0), (0, 0), (0, 0), (0, 0), (0, 0), (0, 0), (8, 0), (9, 0), (10, 0), (11, 0)], 3)
noncomputable def rxe177_2_0 : rx_End × List (Nat × Int × Int) := (([(0, 0), (0, 0), (0, 0), (0, 0), (0, 0), (0, 0), (0, 0), (0, 0), (0, 11), (0, 11), (0, 5), (0, 0), (0, 11), (0, 11), (0, 5), ((-1), 432)], [], [(((0, 0), 1851192626986356806456142135781921690432983915448629587758546944000000), .inr (0, (15, 0))), (((0, 480), 45), .inr (0, (15, 0)))], some (.inr (0, (15, 0)))), [])
noncomputable def rxe177_2_1 : rx_End × List (Nat × Int × Int) := (([(0, 0), (0, 0), (0, 0), (0, 0), (0, 0), (0, 0), (0, 0), (0, 0), (0, 11), (0, 11), (0, 5), (1, 1), (0, 11), (0, 11), (0, 5), ((-1), 432)], [(3, (11, 0), (0, 0))], [(((0, 0), 1851192626986356806656848842568697298706805379902464841312370688000000), .inr (0, (15, 0))), (((0, 480), 46), .inr (0, (15, 0)))], some (.inr (0, (15, 0)))), [])
noncomputable def rxe177_2_2 : rx_End × List (Nat × Int × Int) := (([(0, 0), (0, 0), (0, 0), (0, 0), (0, 0), (0, 0), (0, 0), (0, 0), (0, 11), (0, 11), (0, 5), (2, 2), (0, 11), (0, 11), (0, 5), ((-1), 432)], [(3, (11, 0), (0, 1)), (3, (11, 0), (0, 0))], [(((0, 0), 1851192626986356806857555549355472906980626844356300094866194432000000), .inr (0, (15, 0))), (((0, 480), 47), .inr (0, (15, 0)))], some (.inr (0, (15, 0)))), [])
noncomputable def rxo177_3_0 : bx_HO := (([(0, 0), (0, 0), (0, 0), (0, 0), (0, 0), (0, 0), (0, 0), (0, 0), (0, 11), (0, 11), (0, 5), (10, 99), ((-1), (-1)), (1, 432)], [(0, (11, (-10)), (13, 0))], [(((0, 0), 1851192626986356806656848842568697298706805379902464841312370688000000), .inr (0, (13, 0))), (((0, 480), 46), .inr (0, (13, 0))), (((0, 480), 44), .inr (3, (0, 503))), (((0, 0), 1851192626986356806456142135781921690432983915448629587758546944000000), .inr (0, (12, 0))), (((0, 480), 45), .inr (0, (12, 0)))], 0, 0, 159, [(5, .inr (0, (11, (-10)))), (0, .inr (3, (0, 480))), (1, .inr (0, (8, 0))), (2, .inr (0, (9, 0))), (3, .inr (0, (10, 0))), (4, .inr (0, (11, 0)))], [.inr (0, (11, (-10))), .inr (3, (0, 503))]), [], [], [(0, 0), (0, 0), (0, 0), (0, 0), (0, 0), (0, 0), (0, 0), (0, 0), (8, 0), (9, 0), (10, 0), (11, 0), (11, (-10)), (11, (-10))], 6)
noncomputable def rxo177_3_1 : bx_HO := (([(0, 0), (0, 0), (0, 0), (0, 0), (0, 0), (0, 0), (0, 0), (0, 0), (0, 11), (0, 11), (0, 5), (10, 99), ((-1), (-1)), ((-1), 89), (0, 90), ((-1), 432)], [(604462909807314587353101000000, (11, (-10)), (14, 0)), (1, (13, 0), (11, (-10)))], [(((0, 0), 1851192626986356806857555549355472906980626844356300094866194432000000), .inr (0, (15, 0))), (((0, 480), 47), .inr (0, (15, 0))), (((0, 0), 1851192626986356806656848842568697298706805379902464841312370688000000), .inr (0, (13, 0))), (((0, 480), 46), .inr (0, (13, 0))), (((0, 480), 44), .inr (3, (0, 503))), (((0, 0), 1851192626986356806456142135781921690432983915448629587758546944000000), .inr (0, (12, 0))), (((0, 480), 45), .inr (0, (12, 0)))], 0, 0, 157, [(5, .inr (0, (11, (-10)))), (0, .inr (3, (0, 480))), (1, .inr (0, (8, 0))), (2, .inr (0, (9, 0))), (3, .inr (0, (10, 0))), (4, .inr (0, (11, 0)))], [.inr (0, (15, 0)), .inr (0, (14, 0)), .inr (0, (13, 0)), .inr (3, (0, 503))]), [(13, 0, 432), (14, 0, 89), (15, 1, 432)], [], [(0, 0), (0, 0), (0, 0), (0, 0), (0, 0), (0, 0), (0, 0), (0, 0), (8, 0), (9, 0), (10, 0), (11, 0), (11, (-10)), (13, 0), (14, 0), (15, 0)], 4)
noncomputable def rxe177_3_0 : rx_End × List (Nat × Int × Int) := (([(0, 0), (0, 0), (0, 0), (0, 0), (0, 0), (0, 0), (0, 0), (0, 0), (0, 11), (0, 11), (0, 5), (10, 99), (1, 432), (0, 9)], [(0, (11, (-10)), (12, 0)), (3, (12, 0), (0, (-1)))], [(((0, 0), 1851192626986356795417306950463588408280686244573826387364741120000000), .inr (0, (13, 0))), (((0, 480), 44), .inr (3, (0, 503))), (((0, 0), 1851192626986356806456142135781921690432983915448629587758546944000000), .inr (0, (12, 0))), (((0, 480), 45), .inr (0, (12, 0)))], some (.inr (0, (13, 0)))), [])
noncomputable def rxe177_3_1 : rx_End × List (Nat × Int × Int) := (([(0, 0), (0, 0), (0, 0), (0, 0), (0, 0), (0, 0), (0, 0), (0, 0), (0, 11), (0, 11), (0, 5), (10, 99), (0, 89)], [(1, (12, 0), (11, (-10))), (3, (12, 0), (0, (-1)))], [(((0, 0), 1851192626986356806456142135781921690432983915448629587758546944000000), .inr (0, (12, 0))), (((0, 480), 45), .inr (0, (12, 0)))], some (.inr (0, (0, (-1))))), [])
noncomputable def rxo177_5_0 : bx_HO := (([(0, 0), (0, 0), (0, 0), (0, 0), (0, 0), (0, 0), (0, 0), (0, 0), (0, 11), (0, 11), (0, 5), (10, 99), (0, 89), (0, 432), (0, 89), (1, 432), (0, 431), (0, 863)], [(604462909807314587353104000000, (17, 0), (13, 0))], [], 0, 0, 159, [(0, .inr (3, (0, 480))), (1, .inr (0, (8, 0))), (2, .inr (0, (9, 0))), (3, .inr (0, (10, 0))), (4, .inr (0, (11, 0))), (5, .inr (0, (12, 0)))], [.inr (0, (17, 0)), .inr (3, (0, 503))]), [(17, 0, 433)], [], [(0, 0), (0, 0), (0, 0), (0, 0), (0, 0), (0, 0), (0, 0), (0, 0), (8, 0), (9, 0), (10, 0), (11, 0), (12, 0), (17, 0)], 6)
noncomputable def rxe177_6_0 : rx_End × List (Nat × Int × Int) := (([(0, 0), (0, 0), (0, 0), (0, 0), (0, 0), (0, 0), (0, 0), (0, 0), (0, 11), (0, 11), (0, 5), (10, 99), (0, 89), (0, 433), (0, 9)], [], [(((0, 0), 1851192626986356797424380143413949067911243229855112694730784768000000), .inr (0, (14, 0)))], some (.inr (0, (14, 0)))), [])
noncomputable def rxY177 : List bx_HE := [(rxz177_0, [rxo177_0_0, rxo177_0_1], [rxe177_0_0, rxe177_0_1, rxe177_0_2, rxe177_0_3, rxe177_0_4, rxe177_0_5, rxe177_0_6, rxe177_0_7, rxe177_0_8]), (rxz177_1, [], []), (rxz177_2, [rxo177_2_0], [rxe177_2_0, rxe177_2_1, rxe177_2_2]), (rxz177_3, [rxo177_3_0, rxo177_3_1], [rxe177_3_0, rxe177_3_1]), (rxz177_4, [], []), (rxz177_5, [rxo177_5_0], []), (rxz177_6, [], [rxe177_6_0])]
noncomputable def rxU177 (q : bx_HE) : Bool := Nat.beq (rx_zpc q.1) 49 || Nat.beq (rx_zpc q.1) 157
noncomputable def rxYB177 : bx_B := (rxV, rxNP, rxDmf, bx_mdH rxC177.2.2.1)
set_option maxRecDepth 100000 in
theorem rxYc177 : bx_chkH rxYB177 rxM177 rxC177 rxY177 (rxU177, fun cut z => rx_ex2 (rxCT rxYB177 rxCnE) cut 30000 rxC177.2.2.2.1 177 z) = true := by decide +kernel
noncomputable def rxI177 (S0 : Nat → Int → Int) (ws : List Int) (i : Nat) : bx_SP := fun S r => match i with | 0 => rxI177_0 S0 ws S (r 8) (r 9) (r 10) (r 11) | 1 => rxI177_1 S0 ws S (r 8) (r 9) (r 10) (r 11) (r 12) (r 13) (r 14) | 2 => rxI177_2 S0 ws S (r 8) (r 9) (r 10) (r 11) (r 12) (r 13) (r 14) | 3 => rxI177_3 S0 ws S (r 8) (r 9) (r 10) (r 11) | 4 => rxI177_4 S0 ws S (r 8) (r 9) (r 10) (r 11) (r 12) (r 13) (r 14) (r 15) | 5 => rxI177_5 S0 ws S (r 8) (r 9) (r 10) (r 11) (r 12) (r 13) (r 14) (r 15) (r 16) | 6 => rxI177_6 S0 ws S (r 8) (r 9) (r 10) (r 11) (r 12) (r 13) | _ => False
noncomputable def rxm177 (S0 : Nat → Int → Int) (ws : List Int) (i : Nat) (S : Nat → Int → Int) (r : Nat → Int) : Nat := match i with | 0 => rxm177_0 S0 ws S (r 8) (r 9) (r 10) (r 11) | 1 => rxm177_1 S0 ws S (r 8) (r 9) (r 10) (r 11) (r 12) (r 13) (r 14) | 2 => rxm177_2 S0 ws S (r 8) (r 9) (r 10) (r 11) (r 12) (r 13) (r 14) | 3 => rxm177_3 S0 ws S (r 8) (r 9) (r 10) (r 11) | 4 => rxm177_4 S0 ws S (r 8) (r 9) (r 10) (r 11) (r 12) (r 13) (r 14) (r 15) | 5 => rxm177_5 S0 ws S (r 8) (r 9) (r 10) (r 11) (r 12) (r 13) (r 14) (r 15) (r 16) | 6 => rxm177_6 S0 ws S (r 8) (r 9) (r 10) (r 11) (r 12) (r 13) | _ => 0
noncomputable def rxP177 (S0 : Nat → Int → Int) (ws : List Int) : Prop := True
noncomputable def rxPS177 (S0 : Nat → Int → Int) (ws : List Int) (S : Nat → Int → Int) (w : Option Int) : Prop := True
theorem rxk177_1 {S0 : Nat → Int → Int} {ws : List Int} {S : Nat → Int → Int} {one other cue what a b c : Int} (hP : rxP177 S0 ws) (hin : bx_same rxL (bx_mdl rxC177.2.2.1) S0 S) (I0 : bx_Inv rxL S) (hinv : rxI177_1 S0 ws S one other cue what a b c) (l8 : 0 ≤ one) (u8 : one ≤ 11) (l9 : 0 ≤ other) (u9 : other ≤ 11) (l10 : 0 ≤ cue) (u10 : cue ≤ 5) (l11 : 0 ≤ what) (u11 : what ≤ 99) (l12 : 0 ≤ a) (u12 : a ≤ 11) (l13 : 0 ≤ b) (u13 : b ≤ 11) (l14 : 0 ≤ c) (u14 : c ≤ 5) : rxP306 S [480, a, b, c] ∧ ∀ (S_p : Nat → Int → Int), rxPS306 S [480, a, b, c] S_p none → bx_Inv rxL S_p → bx_same rxL (bx_mdl rxC306.2.2.1) S S_p → rxI177_2 S0 ws S_p one other cue what a b c ∧ rxm177_2 S0 ws S_p one other cue what a b c < rxm177_1 S0 ws S one other cue what a b c := by
  refine ⟨trivial, fun S_p hq I1 hsm => ⟨⟨hinv, hq.2⟩, by unfold rxm177_1 rxm177_2; omega⟩⟩
theorem rxs177_1 {X : (Nat → Int → Int) → Prop} {S0 : Nat → Int → Int} {ws : List Int} (hP : rxP177 S0 ws) : rx_obK X S0 rxC177.2.2.1 rxC306.2.2.1 (rxI177 S0 ws) (rxm177 S0 ws) 1 2 rxz177_1 rxz177_2 [.inr (3, (0, 480)), .inr (0, (12, 0)), .inr (0, (13, 0)), .inr (0, (14, 0))] none rxP306 rxPS306 := by
  intro S r hinv hXS I0 hin hs_ hf_
  have b_ := bx_bds_sat hs_
  have f_ := bx_fcl_ok hs_.1 hf_
  obtain ⟨⟨l8, u8⟩, ⟨l9, u9⟩, ⟨l10, u10⟩, ⟨l11, u11⟩, ⟨l12, u12⟩, ⟨l13, u13⟩, ⟨l14, u14⟩, -⟩ := b_
  have g := rxk177_1 hP hin I0 hinv l8 u8 l9 u9 l10 u10 l11 u11 l12 u12 l13 u13 l14 u14
  have ea : List.map (bx_num r) [.inr (3, (0, 480)), .inr (0, (12, 0)), .inr (0, (13, 0)), .inr (0, (14, 0))] = [480, (r 12), (r 13), (r 14)] := by
    simp only [List.map_cons, List.map_nil, bx_xv_ok hs_.1]
    rfl
  rw [ea]
  refine ⟨g.1, fun S_p w r_p hPS hX_p I1 hsm hr hw hs_p => ?_⟩
  have hw : w = none := hPS.1
  subst hw
  have g2 := g.2 S_p hPS I1 hsm
  show rxI177_2 S0 ws S_p (r_p 8) (r_p 9) (r_p 10) (r_p 11) (r_p 12) (r_p 13) (r_p 14) ∧ rxm177_2 S0 ws S_p (r_p 8) (r_p 9) (r_p 10) (r_p 11) (r_p 12) (r_p 13) (r_p 14) < _
  rw [hr 8 (by decide), hr 9 (by decide), hr 10 (by decide), hr 11 (by decide), hr 12 (by decide), hr 13 (by decide), hr 14 (by decide)]
  exact g2
theorem rxb177_4 {S0 : Nat → Int → Int} {ws : List Int} {S : Nat → Int → Int} {one other cue what i ah d ro : Int} (hP : rxP177 S0 ws) (hin : bx_same rxL (bx_mdl rxC177.2.2.1) S0 S) (I0 : bx_Inv rxL S) (hinv : rxI177_4 S0 ws S one other cue what i ah d ro) (l8 : 0 ≤ one) (u8 : one ≤ 11) (l9 : 0 ≤ other) (u9 : other ≤ 11) (l10 : 0 ≤ cue) (u10 : cue ≤ 5) (l11 : 10 ≤ what) (u11 : what ≤ 99) (l12 : 0 ≤ i) (u12 : i ≤ 89) (l13 : 0 ≤ ah) (u13 : ah ≤ 432) (l14 : 0 ≤ d) (u14 : d ≤ 89) (l15 : 1 ≤ ro) (u15 : ro ≤ 432) : bx_opc 4 d ro ∧ ∀ m : Int, m = bx_opv 4 d ro → (0 ≤ m ∧ m ≤ 431) ∧ rxI177_5 S0 ws S one other cue what i ah d ro m ∧ rxm177_5 S0 ws S one other cue what i ah d ro m < rxm177_4 S0 ws S one other cue what i ah d ro := by
  refine ⟨⟨⟨l14, by omega⟩, by show 0 < ro ∧ ro ≤ 2147483647; omega⟩, fun m hm => ?_⟩
  have hm : m = d % ro := hm
  have h1 := Int.emod_nonneg d (b := ro) (by omega)
  have h2 := Int.emod_lt_of_pos d (b := ro) (by omega)
  have h3 : ah + ro ≤ 432 := hinv
  exact ⟨by omega, ⟨h3, by omega⟩, by unfold rxm177_4 rxm177_5; omega⟩
theorem rxs177_4 {X : (Nat → Int → Int) → Prop} {S0 : Nat → Int → Int} {ws : List Int} (hP : rxP177 S0 ws) : rx_obB X S0 rxC177.2.2.1 (rxI177 S0 ws) (rxm177 S0 ws) 4 5 rxz177_4 4 (14, 0) (15, 0) 0 431 := by
  intro S r hinv hXS I0 hin hs_ hf_
  have b_ := bx_bds_sat hs_
  have f_ := bx_fcl_ok hs_.1 hf_
  obtain ⟨⟨l8, u8⟩, ⟨l9, u9⟩, ⟨l10, u10⟩, ⟨l11, u11⟩, ⟨l12, u12⟩, ⟨l13, u13⟩, ⟨l14, u14⟩, ⟨l15, u15⟩, -⟩ := b_
  have g := rxb177_4 hP hin I0 hinv l8 u8 l9 u9 l10 u10 l11 u11 l12 u12 l13 u13 l14 u14 l15 u15
  rw [bx_x_ok hs_.1, bx_x_ok hs_.1]
  refine ⟨g.1, fun r_p hr h0_ hv => ?_⟩
  have g2 := g.2 (r_p 16) hv
  show _ ∧ rxI177_5 S0 ws S (r_p 8) (r_p 9) (r_p 10) (r_p 11) (r_p 12) (r_p 13) (r_p 14) (r_p 15) (r_p 16) ∧ rxm177_5 S0 ws S (r_p 8) (r_p 9) (r_p 10) (r_p 11) (r_p 12) (r_p 13) (r_p 14) (r_p 15) (r_p 16) < _
  rw [hr 8 (by decide), hr 9 (by decide), hr 10 (by decide), hr 11 (by decide), hr 12 (by decide), hr 13 (by decide), hr 14 (by decide), hr 15 (by decide)]
  exact g2
theorem rxc177_0_0 {S0 : Nat → Int → Int} {ws : List Int} {S : Nat → Int → Int} {one other cue what x12 : Int} (hP : rxP177 S0 ws) (hin : bx_same rxL (bx_mdl rxC177.2.2.1) S0 S) (I0 : bx_Inv rxL S) (hinv : rxI177_0 S0 ws S one other cue what) (l8 : 0 ≤ one) (u8 : one ≤ 11) (l9 : 0 ≤ other) (u9 : other ≤ 11) (l10 : 0 ≤ cue) (u10 : cue ≤ 5) (l11 : 10 ≤ what) (u11 : what ≤ 99) (l12 : 1 ≤ x12) (u12 : x12 ≤ 12) (f0 : other ≤ x12 + (-1)) (f1 : one ≤ x12 + (-1)) (e0 : (bx_up S 480 0 0) 482 2 = x12) : (True) ∧ (True) ∧ rxI177_1 S0 ws (bx_up S 480 0 0) one other cue what one other cue ∧ rxm177_1 S0 ws (bx_up S 480 0 0) one other cue what one other cue < rxm177_0 S0 ws S one other cue what := by
  exact ⟨trivial, trivial, by first | exact Or.inl (by omega) | exact Or.inr (by omega), by unfold rxm177_0 rxm177_1; omega⟩
theorem rxg177_0_0 {X : (Nat → Int → Int) → Prop} {S0 : Nat → Int → Int} {ws : List Int} (hP : rxP177 S0 ws) : bx_obC rxL X S0 rxC177.2.2.1 (rxI177 S0 ws) (rxm177 S0 ws) 0 rxz177_0 rxo177_0_0 := by
  intro S S_p r r_p hinv hX hin hsm_ hseg
  obtain ⟨I0, I1, h0_, hr_, b_, f_, d_⟩ := bx_cl (evs := [(0, (0, 482), (0, 2), .inr (0, (12, 0))), (1, (0, 480), (0, 0), .inr (0, (0, 0)))]) (fvs := [(1, (9, 0), (12, (-1)), (0, 0)), (1, (8, 0), (12, (-1)), (0, 0))]) hseg (by decide +kernel) (by decide +kernel)
  have hinv : rxI177_0 S0 ws S (r 8) (r 9) (r 10) (r 11) := hinv
  rw [← hr_ 8 (by decide), ← hr_ 9 (by decide), ← hr_ 10 (by decide), ← hr_ 11 (by decide)] at hinv
  obtain ⟨⟨l8, u8⟩, ⟨l9, u9⟩, ⟨l10, u10⟩, ⟨l11, u11⟩, ⟨l12, u12⟩, -⟩ := b_
  obtain ⟨f0, f1, -⟩ := f_
  obtain ⟨e0, ⟨T1, w_, w1⟩⟩ := d_
  subst w1
  subst w_
  have g := rxc177_0_0 hP hin I0 hinv l8 u8 l9 u9 l10 u10 l11 u11 l12 u12 f0 f1 e0
  refine ⟨bx_narP_ok (l := []) g.1, bx_nfP_ok h0_ (fvs := []) (by decide +kernel) g.2.1, ?_, ?_⟩
  · show rxI177_1 S0 ws (bx_up T1 480 (0) (0)) (bx_val [(0, 0), (0, 0), (0, 0), (0, 0), (0, 0), (0, 0), (0, 0), (0, 0), (8, 0), (9, 0), (10, 0), (11, 0), (8, 0), (9, 0), (10, 0)] r_p 8) (bx_val [(0, 0), (0, 0), (0, 0), (0, 0), (0, 0), (0, 0), (0, 0), (0, 0), (8, 0), (9, 0), (10, 0), (11, 0), (8, 0), (9, 0), (10, 0)] r_p 9) (bx_val [(0, 0), (0, 0), (0, 0), (0, 0), (0, 0), (0, 0), (0, 0), (0, 0), (8, 0), (9, 0), (10, 0), (11, 0), (8, 0), (9, 0), (10, 0)] r_p 10) (bx_val [(0, 0), (0, 0), (0, 0), (0, 0), (0, 0), (0, 0), (0, 0), (0, 0), (8, 0), (9, 0), (10, 0), (11, 0), (8, 0), (9, 0), (10, 0)] r_p 11) (bx_val [(0, 0), (0, 0), (0, 0), (0, 0), (0, 0), (0, 0), (0, 0), (0, 0), (8, 0), (9, 0), (10, 0), (11, 0), (8, 0), (9, 0), (10, 0)] r_p 12) (bx_val [(0, 0), (0, 0), (0, 0), (0, 0), (0, 0), (0, 0), (0, 0), (0, 0), (8, 0), (9, 0), (10, 0), (11, 0), (8, 0), (9, 0), (10, 0)] r_p 13) (bx_val [(0, 0), (0, 0), (0, 0), (0, 0), (0, 0), (0, 0), (0, 0), (0, 0), (8, 0), (9, 0), (10, 0), (11, 0), (8, 0), (9, 0), (10, 0)] r_p 14)
    rw [bx_val_x (n := 8) (e := (8, 0)) h0_ rfl, bx_val_x (n := 9) (e := (9, 0)) h0_ rfl, bx_val_x (n := 10) (e := (10, 0)) h0_ rfl, bx_val_x (n := 11) (e := (11, 0)) h0_ rfl, bx_val_x (n := 12) (e := (8, 0)) h0_ rfl, bx_val_x (n := 13) (e := (9, 0)) h0_ rfl, bx_val_x (n := 14) (e := (10, 0)) h0_ rfl]
    exact g.2.2.1
  · show rxm177_1 S0 ws (bx_up T1 480 (0) (0)) (bx_val [(0, 0), (0, 0), (0, 0), (0, 0), (0, 0), (0, 0), (0, 0), (0, 0), (8, 0), (9, 0), (10, 0), (11, 0), (8, 0), (9, 0), (10, 0)] r_p 8) (bx_val [(0, 0), (0, 0), (0, 0), (0, 0), (0, 0), (0, 0), (0, 0), (0, 0), (8, 0), (9, 0), (10, 0), (11, 0), (8, 0), (9, 0), (10, 0)] r_p 9) (bx_val [(0, 0), (0, 0), (0, 0), (0, 0), (0, 0), (0, 0), (0, 0), (0, 0), (8, 0), (9, 0), (10, 0), (11, 0), (8, 0), (9, 0), (10, 0)] r_p 10) (bx_val [(0, 0), (0, 0), (0, 0), (0, 0), (0, 0), (0, 0), (0, 0), (0, 0), (8, 0), (9, 0), (10, 0), (11, 0), (8, 0), (9, 0), (10, 0)] r_p 11) (bx_val [(0, 0), (0, 0), (0, 0), (0, 0), (0, 0), (0, 0), (0, 0), (0, 0), (8, 0), (9, 0), (10, 0), (11, 0), (8, 0), (9, 0), (10, 0)] r_p 12) (bx_val [(0, 0), (0, 0), (0, 0), (0, 0), (0, 0), (0, 0), (0, 0), (0, 0), (8, 0), (9, 0), (10, 0), (11, 0), (8, 0), (9, 0), (10, 0)] r_p 13) (bx_val [(0, 0), (0, 0), (0, 0), (0, 0), (0, 0), (0, 0), (0, 0), (0, 0), (8, 0), (9, 0), (10, 0), (11, 0), (8, 0), (9, 0), (10, 0)] r_p 14) < rxm177_0 S0 ws T1 (r 8) (r 9) (r 10) (r 11)
    rw [bx_val_x (n := 8) (e := (8, 0)) h0_ rfl, bx_val_x (n := 9) (e := (9, 0)) h0_ rfl, bx_val_x (n := 10) (e := (10, 0)) h0_ rfl, bx_val_x (n := 11) (e := (11, 0)) h0_ rfl, bx_val_x (n := 12) (e := (8, 0)) h0_ rfl, bx_val_x (n := 13) (e := (9, 0)) h0_ rfl, bx_val_x (n := 14) (e := (10, 0)) h0_ rfl, ← hr_ 8 (by decide), ← hr_ 9 (by decide), ← hr_ 10 (by decide), ← hr_ 11 (by decide)]
    exact g.2.2.2
theorem rxc177_0_1 {S0 : Nat → Int → Int} {ws : List Int} {S : Nat → Int → Int} {one other cue what x12 : Int} (hP : rxP177 S0 ws) (hin : bx_same rxL (bx_mdl rxC177.2.2.1) S0 S) (I0 : bx_Inv rxL S) (hinv : rxI177_0 S0 ws S one other cue what) (l8 : 0 ≤ one) (u8 : one ≤ 11) (l9 : 0 ≤ other) (u9 : other ≤ 11) (l10 : 0 ≤ cue) (u10 : cue ≤ 5) (l11 : 0 ≤ what) (u11 : what ≤ 2) (l12 : 1 ≤ x12) (u12 : x12 ≤ 12) (f0 : other ≤ x12 + (-1)) (f1 : one ≤ x12 + (-1)) (e0 : (bx_up S 480 0 0) 482 2 = x12) : (True) ∧ (True) ∧ rxI177_1 S0 ws (bx_up S 480 0 0) one other cue what one other cue ∧ rxm177_1 S0 ws (bx_up S 480 0 0) one other cue what one other cue < rxm177_0 S0 ws S one other cue what := by
  exact ⟨trivial, trivial, by first | exact Or.inl (by omega) | exact Or.inr (by omega), by unfold rxm177_0 rxm177_1; omega⟩
theorem rxg177_0_1 {X : (Nat → Int → Int) → Prop} {S0 : Nat → Int → Int} {ws : List Int} (hP : rxP177 S0 ws) : bx_obC rxL X S0 rxC177.2.2.1 (rxI177 S0 ws) (rxm177 S0 ws) 0 rxz177_0 rxo177_0_1 := by
  intro S S_p r r_p hinv hX hin hsm_ hseg
  obtain ⟨I0, I1, h0_, hr_, b_, f_, d_⟩ := bx_cl (evs := [(0, (0, 482), (0, 2), .inr (0, (12, 0))), (1, (0, 480), (0, 0), .inr (0, (0, 0)))]) (fvs := [(1, (9, 0), (12, (-1)), (0, 0)), (1, (8, 0), (12, (-1)), (0, 0))]) hseg (by decide +kernel) (by decide +kernel)
  have hinv : rxI177_0 S0 ws S (r 8) (r 9) (r 10) (r 11) := hinv
  rw [← hr_ 8 (by decide), ← hr_ 9 (by decide), ← hr_ 10 (by decide), ← hr_ 11 (by decide)] at hinv
  obtain ⟨⟨l8, u8⟩, ⟨l9, u9⟩, ⟨l10, u10⟩, ⟨l11, u11⟩, ⟨l12, u12⟩, -⟩ := b_
  obtain ⟨f0, f1, -⟩ := f_
  obtain ⟨e0, ⟨T1, w_, w1⟩⟩ := d_
  subst w1
  subst w_
  have g := rxc177_0_1 hP hin I0 hinv l8 u8 l9 u9 l10 u10 l11 u11 l12 u12 f0 f1 e0
  refine ⟨bx_narP_ok (l := []) g.1, bx_nfP_ok h0_ (fvs := []) (by decide +kernel) g.2.1, ?_, ?_⟩
  · show rxI177_1 S0 ws (bx_up T1 480 (0) (0)) (bx_val [(0, 0), (0, 0), (0, 0), (0, 0), (0, 0), (0, 0), (0, 0), (0, 0), (8, 0), (9, 0), (10, 0), (11, 0), (8, 0), (9, 0), (10, 0)] r_p 8) (bx_val [(0, 0), (0, 0), (0, 0), (0, 0), (0, 0), (0, 0), (0, 0), (0, 0), (8, 0), (9, 0), (10, 0), (11, 0), (8, 0), (9, 0), (10, 0)] r_p 9) (bx_val [(0, 0), (0, 0), (0, 0), (0, 0), (0, 0), (0, 0), (0, 0), (0, 0), (8, 0), (9, 0), (10, 0), (11, 0), (8, 0), (9, 0), (10, 0)] r_p 10) (bx_val [(0, 0), (0, 0), (0, 0), (0, 0), (0, 0), (0, 0), (0, 0), (0, 0), (8, 0), (9, 0), (10, 0), (11, 0), (8, 0), (9, 0), (10, 0)] r_p 11) (bx_val [(0, 0), (0, 0), (0, 0), (0, 0), (0, 0), (0, 0), (0, 0), (0, 0), (8, 0), (9, 0), (10, 0), (11, 0), (8, 0), (9, 0), (10, 0)] r_p 12) (bx_val [(0, 0), (0, 0), (0, 0), (0, 0), (0, 0), (0, 0), (0, 0), (0, 0), (8, 0), (9, 0), (10, 0), (11, 0), (8, 0), (9, 0), (10, 0)] r_p 13) (bx_val [(0, 0), (0, 0), (0, 0), (0, 0), (0, 0), (0, 0), (0, 0), (0, 0), (8, 0), (9, 0), (10, 0), (11, 0), (8, 0), (9, 0), (10, 0)] r_p 14)
    rw [bx_val_x (n := 8) (e := (8, 0)) h0_ rfl, bx_val_x (n := 9) (e := (9, 0)) h0_ rfl, bx_val_x (n := 10) (e := (10, 0)) h0_ rfl, bx_val_x (n := 11) (e := (11, 0)) h0_ rfl, bx_val_x (n := 12) (e := (8, 0)) h0_ rfl, bx_val_x (n := 13) (e := (9, 0)) h0_ rfl, bx_val_x (n := 14) (e := (10, 0)) h0_ rfl]
    exact g.2.2.1
  · show rxm177_1 S0 ws (bx_up T1 480 (0) (0)) (bx_val [(0, 0), (0, 0), (0, 0), (0, 0), (0, 0), (0, 0), (0, 0), (0, 0), (8, 0), (9, 0), (10, 0), (11, 0), (8, 0), (9, 0), (10, 0)] r_p 8) (bx_val [(0, 0), (0, 0), (0, 0), (0, 0), (0, 0), (0, 0), (0, 0), (0, 0), (8, 0), (9, 0), (10, 0), (11, 0), (8, 0), (9, 0), (10, 0)] r_p 9) (bx_val [(0, 0), (0, 0), (0, 0), (0, 0), (0, 0), (0, 0), (0, 0), (0, 0), (8, 0), (9, 0), (10, 0), (11, 0), (8, 0), (9, 0), (10, 0)] r_p 10) (bx_val [(0, 0), (0, 0), (0, 0), (0, 0), (0, 0), (0, 0), (0, 0), (0, 0), (8, 0), (9, 0), (10, 0), (11, 0), (8, 0), (9, 0), (10, 0)] r_p 11) (bx_val [(0, 0), (0, 0), (0, 0), (0, 0), (0, 0), (0, 0), (0, 0), (0, 0), (8, 0), (9, 0), (10, 0), (11, 0), (8, 0), (9, 0), (10, 0)] r_p 12) (bx_val [(0, 0), (0, 0), (0, 0), (0, 0), (0, 0), (0, 0), (0, 0), (0, 0), (8, 0), (9, 0), (10, 0), (11, 0), (8, 0), (9, 0), (10, 0)] r_p 13) (bx_val [(0, 0), (0, 0), (0, 0), (0, 0), (0, 0), (0, 0), (0, 0), (0, 0), (8, 0), (9, 0), (10, 0), (11, 0), (8, 0), (9, 0), (10, 0)] r_p 14) < rxm177_0 S0 ws T1 (r 8) (r 9) (r 10) (r 11)
    rw [bx_val_x (n := 8) (e := (8, 0)) h0_ rfl, bx_val_x (n := 9) (e := (9, 0)) h0_ rfl, bx_val_x (n := 10) (e := (10, 0)) h0_ rfl, bx_val_x (n := 11) (e := (11, 0)) h0_ rfl, bx_val_x (n := 12) (e := (8, 0)) h0_ rfl, bx_val_x (n := 13) (e := (9, 0)) h0_ rfl, bx_val_x (n := 14) (e := (10, 0)) h0_ rfl, ← hr_ 8 (by decide), ← hr_ 9 (by decide), ← hr_ 10 (by decide), ← hr_ 11 (by decide)]
    exact g.2.2.2
theorem rxd177_0_0 {S0 : Nat → Int → Int} {ws : List Int} {S : Nat → Int → Int} {one other cue what x12 : Int} (hP : rxP177 S0 ws) (hin : bx_same rxL (bx_mdl rxC177.2.2.1) S0 S) (hin2 : bx_same rxL (bx_mdl rxC177.2.2.1) S (bx_up S 480 0 0)) (I0 : bx_Inv rxL S) (I1 : bx_Inv rxL (bx_up S 480 0 0)) (hinv : rxI177_0 S0 ws S one other cue what) (l8 : (-2147483648) ≤ one) (u8 : one ≤ (-1)) (l9 : (-2147483648) ≤ other) (u9 : other ≤ 2147483647) (l10 : (-2147483648) ≤ cue) (u10 : cue ≤ 2147483647) (l11 : (-2147483648) ≤ what) (u11 : what ≤ 2147483647) (l12 : 0 ≤ x12) (u12 : x12 ≤ 12) (e0 : (bx_up S 480 0 0) 482 2 = x12) : (True) ∧ rxPS177 S0 ws (bx_up S 480 0 0) (some ((-1))) := by
  exact ⟨trivial, trivial⟩
theorem rxf177_0_0 {X : (Nat → Int → Int) → Prop} {S0 : Nat → Int → Int} {ws : List Int} (hP : rxP177 S0 ws) : bx_obE rxL X S0 rxC177.2.2.1 (rxI177 S0 ws) (rxPS177 S0 ws) 0 rxz177_0 rxe177_0_0 := by
  intro S S_p r r_p hinv hX hin hsm_ hseg
  obtain ⟨I0, I1, h0_, hr_, b_, f_, d_⟩ := bx_cl (evs := [(0, (0, 482), (0, 2), .inr (0, (12, 0))), (1, (0, 480), (0, 0), .inr (0, (0, 0)))]) (fvs := []) hseg (by decide +kernel) (by decide +kernel)
  have hinv : rxI177_0 S0 ws S (r 8) (r 9) (r 10) (r 11) := hinv
  rw [← hr_ 8 (by decide), ← hr_ 9 (by decide), ← hr_ 10 (by decide), ← hr_ 11 (by decide)] at hinv
  obtain ⟨⟨l8, u8⟩, ⟨l9, u9⟩, ⟨l10, u10⟩, ⟨l11, u11⟩, ⟨l12, u12⟩, -⟩ := b_
  obtain ⟨e0, ⟨T1, w_, w1⟩⟩ := d_
  subst w1
  subst w_
  have g := rxd177_0_0 hP hin hsm_ I0 I1 hinv l8 u8 l9 u9 l10 u10 l11 u11 l12 u12 e0
  refine ⟨bx_narP_ok (l := []) g.1, ?_⟩
  show rxPS177 S0 ws (bx_up T1 480 (0) (0)) (some (bx_num r_p (.inr (0, (0, (-1))))))
  rw [bx_xv_ok h0_]
  exact g.2
theorem rxd177_0_1 {S0 : Nat → Int → Int} {ws : List Int} {S : Nat → Int → Int} {one other cue what x12 : Int} (hP : rxP177 S0 ws) (hin : bx_same rxL (bx_mdl rxC177.2.2.1) S0 S) (hin2 : bx_same rxL (bx_mdl rxC177.2.2.1) S (bx_up S 480 0 0)) (I0 : bx_Inv rxL S) (I1 : bx_Inv rxL (bx_up S 480 0 0)) (hinv : rxI177_0 S0 ws S one other cue what) (l8 : 0 ≤ one) (u8 : one ≤ 2147483647) (l9 : (-2147483648) ≤ other) (u9 : other ≤ 2147483647) (l10 : (-2147483648) ≤ cue) (u10 : cue ≤ 2147483647) (l11 : (-2147483648) ≤ what) (u11 : what ≤ 2147483647) (l12 : 0 ≤ x12) (u12 : x12 ≤ 12) (f0 : x12 + (-1) < one) (e0 : (bx_up S 480 0 0) 482 2 = x12) : (True) ∧ rxPS177 S0 ws (bx_up S 480 0 0) (some ((-1))) := by
  exact ⟨trivial, trivial⟩
theorem rxf177_0_1 {X : (Nat → Int → Int) → Prop} {S0 : Nat → Int → Int} {ws : List Int} (hP : rxP177 S0 ws) : bx_obE rxL X S0 rxC177.2.2.1 (rxI177 S0 ws) (rxPS177 S0 ws) 0 rxz177_0 rxe177_0_1 := by
  intro S S_p r r_p hinv hX hin hsm_ hseg
  obtain ⟨I0, I1, h0_, hr_, b_, f_, d_⟩ := bx_cl (evs := [(0, (0, 482), (0, 2), .inr (0, (12, 0))), (1, (0, 480), (0, 0), .inr (0, (0, 0)))]) (fvs := [(0, (12, (-1)), (8, 0), (0, 0))]) hseg (by decide +kernel) (by decide +kernel)
  have hinv : rxI177_0 S0 ws S (r 8) (r 9) (r 10) (r 11) := hinv
  rw [← hr_ 8 (by decide), ← hr_ 9 (by decide), ← hr_ 10 (by decide), ← hr_ 11 (by decide)] at hinv
  obtain ⟨⟨l8, u8⟩, ⟨l9, u9⟩, ⟨l10, u10⟩, ⟨l11, u11⟩, ⟨l12, u12⟩, -⟩ := b_
  obtain ⟨f0, -⟩ := f_
  obtain ⟨e0, ⟨T1, w_, w1⟩⟩ := d_
  subst w1
  subst w_
  have g := rxd177_0_1 hP hin hsm_ I0 I1 hinv l8 u8 l9 u9 l10 u10 l11 u11 l12 u12 f0 e0
  refine ⟨bx_narP_ok (l := []) g.1, ?_⟩
  show rxPS177 S0 ws (bx_up T1 480 (0) (0)) (some (bx_num r_p (.inr (0, (0, (-1))))))
  rw [bx_xv_ok h0_]
  exact g.2
theorem rxd177_0_2 {S0 : Nat → Int → Int} {ws : List Int} {S : Nat → Int → Int} {one other cue what x12 : Int} (hP : rxP177 S0 ws) (hin : bx_same rxL (bx_mdl rxC177.2.2.1) S0 S) (hin2 : bx_same rxL (bx_mdl rxC177.2.2.1) S (bx_up S 480 0 0)) (I0 : bx_Inv rxL S) (I1 : bx_Inv rxL (bx_up S 480 0 0)) (hinv : rxI177_0 S0 ws S one other cue what) (l8 : 0 ≤ one) (u8 : one ≤ 11) (l9 : (-2147483648) ≤ other) (u9 : other ≤ (-1)) (l10 : (-2147483648) ≤ cue) (u10 : cue ≤ 2147483647) (l11 : (-2147483648) ≤ what) (u11 : what ≤ 2147483647) (l12 : 1 ≤ x12) (u12 : x12 ≤ 12) (f0 : one ≤ x12 + (-1)) (e0 : (bx_up S 480 0 0) 482 2 = x12) : (True) ∧ rxPS177 S0 ws (bx_up S 480 0 0) (some ((-1))) := by
  exact ⟨trivial, trivial⟩
theorem rxf177_0_2 {X : (Nat → Int → Int) → Prop} {S0 : Nat → Int → Int} {ws : List Int} (hP : rxP177 S0 ws) : bx_obE rxL X S0 rxC177.2.2.1 (rxI177 S0 ws) (rxPS177 S0 ws) 0 rxz177_0 rxe177_0_2 := by
  intro S S_p r r_p hinv hX hin hsm_ hseg
  obtain ⟨I0, I1, h0_, hr_, b_, f_, d_⟩ := bx_cl (evs := [(0, (0, 482), (0, 2), .inr (0, (12, 0))), (1, (0, 480), (0, 0), .inr (0, (0, 0)))]) (fvs := [(1, (8, 0), (12, (-1)), (0, 0))]) hseg (by decide +kernel) (by decide +kernel)
  have hinv : rxI177_0 S0 ws S (r 8) (r 9) (r 10) (r 11) := hinv
  rw [← hr_ 8 (by decide), ← hr_ 9 (by decide), ← hr_ 10 (by decide), ← hr_ 11 (by decide)] at hinv
  obtain ⟨⟨l8, u8⟩, ⟨l9, u9⟩, ⟨l10, u10⟩, ⟨l11, u11⟩, ⟨l12, u12⟩, -⟩ := b_
  obtain ⟨f0, -⟩ := f_
  obtain ⟨e0, ⟨T1, w_, w1⟩⟩ := d_
  subst w1
  subst w_
  have g := rxd177_0_2 hP hin hsm_ I0 I1 hinv l8 u8 l9 u9 l10 u10 l11 u11 l12 u12 f0 e0
  refine ⟨bx_narP_ok (l := []) g.1, ?_⟩
  show rxPS177 S0 ws (bx_up T1 480 (0) (0)) (some (bx_num r_p (.inr (0, (0, (-1))))))
  rw [bx_xv_ok h0_]
  exact g.2
theorem rxd177_0_3 {S0 : Nat → Int → Int} {ws : List Int} {S : Nat → Int → Int} {one other cue what x12 : Int} (hP : rxP177 S0 ws) (hin : bx_same rxL (bx_mdl rxC177.2.2.1) S0 S) (hin2 : bx_same rxL (bx_mdl rxC177.2.2.1) S (bx_up S 480 0 0)) (I0 : bx_Inv rxL S) (I1 : bx_Inv rxL (bx_up S 480 0 0)) (hinv : rxI177_0 S0 ws S one other cue what) (l8 : 0 ≤ one) (u8 : one ≤ 11) (l9 : 1 ≤ other) (u9 : other ≤ 2147483647) (l10 : (-2147483648) ≤ cue) (u10 : cue ≤ 2147483647) (l11 : (-2147483648) ≤ what) (u11 : what ≤ 2147483647) (l12 : 1 ≤ x12) (u12 : x12 ≤ 12) (f0 : x12 + (-1) < other) (f1 : one ≤ x12 + (-1)) (e0 : (bx_up S 480 0 0) 482 2 = x12) : (True) ∧ rxPS177 S0 ws (bx_up S 480 0 0) (some ((-1))) := by
  exact ⟨trivial, trivial⟩
theorem rxf177_0_3 {X : (Nat → Int → Int) → Prop} {S0 : Nat → Int → Int} {ws : List Int} (hP : rxP177 S0 ws) : bx_obE rxL X S0 rxC177.2.2.1 (rxI177 S0 ws) (rxPS177 S0 ws) 0 rxz177_0 rxe177_0_3 := by
  intro S S_p r r_p hinv hX hin hsm_ hseg
  obtain ⟨I0, I1, h0_, hr_, b_, f_, d_⟩ := bx_cl (evs := [(0, (0, 482), (0, 2), .inr (0, (12, 0))), (1, (0, 480), (0, 0), .inr (0, (0, 0)))]) (fvs := [(0, (12, (-1)), (9, 0), (0, 0)), (1, (8, 0), (12, (-1)), (0, 0))]) hseg (by decide +kernel) (by decide +kernel)
  have hinv : rxI177_0 S0 ws S (r 8) (r 9) (r 10) (r 11) := hinv
  rw [← hr_ 8 (by decide), ← hr_ 9 (by decide), ← hr_ 10 (by decide), ← hr_ 11 (by decide)] at hinv
  obtain ⟨⟨l8, u8⟩, ⟨l9, u9⟩, ⟨l10, u10⟩, ⟨l11, u11⟩, ⟨l12, u12⟩, -⟩ := b_
  obtain ⟨f0, f1, -⟩ := f_
  obtain ⟨e0, ⟨T1, w_, w1⟩⟩ := d_
  subst w1
  subst w_
  have g := rxd177_0_3 hP hin hsm_ I0 I1 hinv l8 u8 l9 u9 l10 u10 l11 u11 l12 u12 f0 f1 e0
  refine ⟨bx_narP_ok (l := []) g.1, ?_⟩
  show rxPS177 S0 ws (bx_up T1 480 (0) (0)) (some (bx_num r_p (.inr (0, (0, (-1))))))
  rw [bx_xv_ok h0_]
  exact g.2
theorem rxd177_0_4 {S0 : Nat → Int → Int} {ws : List Int} {S : Nat → Int → Int} {one other cue what x12 : Int} (hP : rxP177 S0 ws) (hin : bx_same rxL (bx_mdl rxC177.2.2.1) S0 S) (hin2 : bx_same rxL (bx_mdl rxC177.2.2.1) S (bx_up S 480 0 0)) (I0 : bx_Inv rxL S) (I1 : bx_Inv rxL (bx_up S 480 0 0)) (hinv : rxI177_0 S0 ws S one other cue what) (l8 : 0 ≤ one) (u8 : one ≤ 11) (l9 : 0 ≤ other) (u9 : other ≤ 11) (l10 : 0 ≤ cue) (u10 : cue ≤ 5) (l11 : (-2147483648) ≤ what) (u11 : what ≤ (-1)) (l12 : 1 ≤ x12) (u12 : x12 ≤ 12) (f0 : other ≤ x12 + (-1)) (f1 : one ≤ x12 + (-1)) (e0 : (bx_up S 480 0 0) 482 2 = x12) : (True) ∧ rxPS177 S0 ws (bx_up S 480 0 0) (some ((-1))) := by
  exact ⟨trivial, trivial⟩
theorem rxf177_0_4 {X : (Nat → Int → Int) → Prop} {S0 : Nat → Int → Int} {ws : List Int} (hP : rxP177 S0 ws) : bx_obE rxL X S0 rxC177.2.2.1 (rxI177 S0 ws) (rxPS177 S0 ws) 0 rxz177_0 rxe177_0_4 := by
  intro S S_p r r_p hinv hX hin hsm_ hseg
  obtain ⟨I0, I1, h0_, hr_, b_, f_, d_⟩ := bx_cl (evs := [(0, (0, 482), (0, 2), .inr (0, (12, 0))), (1, (0, 480), (0, 0), .inr (0, (0, 0)))]) (fvs := [(1, (9, 0), (12, (-1)), (0, 0)), (1, (8, 0), (12, (-1)), (0, 0))]) hseg (by decide +kernel) (by decide +kernel)
  have hinv : rxI177_0 S0 ws S (r 8) (r 9) (r 10) (r 11) := hinv
  rw [← hr_ 8 (by decide), ← hr_ 9 (by decide), ← hr_ 10 (by decide), ← hr_ 11 (by decide)] at hinv
  obtain ⟨⟨l8, u8⟩, ⟨l9, u9⟩, ⟨l10, u10⟩, ⟨l11, u11⟩, ⟨l12, u12⟩, -⟩ := b_
  obtain ⟨f0, f1, -⟩ := f_
  obtain ⟨e0, ⟨T1, w_, w1⟩⟩ := d_
  subst w1
  subst w_
  have g := rxd177_0_4 hP hin hsm_ I0 I1 hinv l8 u8 l9 u9 l10 u10 l11 u11 l12 u12 f0 f1 e0
  refine ⟨bx_narP_ok (l := []) g.1, ?_⟩
  show rxPS177 S0 ws (bx_up T1 480 (0) (0)) (some (bx_num r_p (.inr (0, (0, (-1))))))
  rw [bx_xv_ok h0_]
  exact g.2
theorem rxd177_0_5 {S0 : Nat → Int → Int} {ws : List Int} {S : Nat → Int → Int} {one other cue what x12 : Int} (hP : rxP177 S0 ws) (hin : bx_same rxL (bx_mdl rxC177.2.2.1) S0 S) (hin2 : bx_same rxL (bx_mdl rxC177.2.2.1) S (bx_up S 480 0 0)) (I0 : bx_Inv rxL S) (I1 : bx_Inv rxL (bx_up S 480 0 0)) (hinv : rxI177_0 S0 ws S one other cue what) (l8 : 0 ≤ one) (u8 : one ≤ 11) (l9 : 0 ≤ other) (u9 : other ≤ 11) (l10 : 0 ≤ cue) (u10 : cue ≤ 5) (l11 : 3 ≤ what) (u11 : what ≤ 9) (l12 : 1 ≤ x12) (u12 : x12 ≤ 12) (f0 : other ≤ x12 + (-1)) (f1 : one ≤ x12 + (-1)) (e0 : (bx_up S 480 0 0) 482 2 = x12) : (True) ∧ rxPS177 S0 ws (bx_up S 480 0 0) (some ((-1))) := by
  exact ⟨trivial, trivial⟩
theorem rxf177_0_5 {X : (Nat → Int → Int) → Prop} {S0 : Nat → Int → Int} {ws : List Int} (hP : rxP177 S0 ws) : bx_obE rxL X S0 rxC177.2.2.1 (rxI177 S0 ws) (rxPS177 S0 ws) 0 rxz177_0 rxe177_0_5 := by
  intro S S_p r r_p hinv hX hin hsm_ hseg
  obtain ⟨I0, I1, h0_, hr_, b_, f_, d_⟩ := bx_cl (evs := [(0, (0, 482), (0, 2), .inr (0, (12, 0))), (1, (0, 480), (0, 0), .inr (0, (0, 0)))]) (fvs := [(1, (9, 0), (12, (-1)), (0, 0)), (1, (8, 0), (12, (-1)), (0, 0))]) hseg (by decide +kernel) (by decide +kernel)
  have hinv : rxI177_0 S0 ws S (r 8) (r 9) (r 10) (r 11) := hinv
  rw [← hr_ 8 (by decide), ← hr_ 9 (by decide), ← hr_ 10 (by decide), ← hr_ 11 (by decide)] at hinv
  obtain ⟨⟨l8, u8⟩, ⟨l9, u9⟩, ⟨l10, u10⟩, ⟨l11, u11⟩, ⟨l12, u12⟩, -⟩ := b_
  obtain ⟨f0, f1, -⟩ := f_
  obtain ⟨e0, ⟨T1, w_, w1⟩⟩ := d_
  subst w1
  subst w_
  have g := rxd177_0_5 hP hin hsm_ I0 I1 hinv l8 u8 l9 u9 l10 u10 l11 u11 l12 u12 f0 f1 e0
  refine ⟨bx_narP_ok (l := []) g.1, ?_⟩
  show rxPS177 S0 ws (bx_up T1 480 (0) (0)) (some (bx_num r_p (.inr (0, (0, (-1))))))
  rw [bx_xv_ok h0_]
  exact g.2
theorem rxd177_0_6 {S0 : Nat → Int → Int} {ws : List Int} {S : Nat → Int → Int} {one other cue what x12 : Int} (hP : rxP177 S0 ws) (hin : bx_same rxL (bx_mdl rxC177.2.2.1) S0 S) (hin2 : bx_same rxL (bx_mdl rxC177.2.2.1) S (bx_up S 480 0 0)) (I0 : bx_Inv rxL S) (I1 : bx_Inv rxL (bx_up S 480 0 0)) (hinv : rxI177_0 S0 ws S one other cue what) (l8 : 0 ≤ one) (u8 : one ≤ 11) (l9 : 0 ≤ other) (u9 : other ≤ 11) (l10 : 0 ≤ cue) (u10 : cue ≤ 5) (l11 : 100 ≤ what) (u11 : what ≤ 2147483647) (l12 : 1 ≤ x12) (u12 : x12 ≤ 12) (f0 : other ≤ x12 + (-1)) (f1 : one ≤ x12 + (-1)) (e0 : (bx_up S 480 0 0) 482 2 = x12) : (True) ∧ rxPS177 S0 ws (bx_up S 480 0 0) (some ((-1))) := by
  exact ⟨trivial, trivial⟩
theorem rxf177_0_6 {X : (Nat → Int → Int) → Prop} {S0 : Nat → Int → Int} {ws : List Int} (hP : rxP177 S0 ws) : bx_obE rxL X S0 rxC177.2.2.1 (rxI177 S0 ws) (rxPS177 S0 ws) 0 rxz177_0 rxe177_0_6 := by
  intro S S_p r r_p hinv hX hin hsm_ hseg
  obtain ⟨I0, I1, h0_, hr_, b_, f_, d_⟩ := bx_cl (evs := [(0, (0, 482), (0, 2), .inr (0, (12, 0))), (1, (0, 480), (0, 0), .inr (0, (0, 0)))]) (fvs := [(1, (9, 0), (12, (-1)), (0, 0)), (1, (8, 0), (12, (-1)), (0, 0))]) hseg (by decide +kernel) (by decide +kernel)
  have hinv : rxI177_0 S0 ws S (r 8) (r 9) (r 10) (r 11) := hinv
  rw [← hr_ 8 (by decide), ← hr_ 9 (by decide), ← hr_ 10 (by decide), ← hr_ 11 (by decide)] at hinv
  obtain ⟨⟨l8, u8⟩, ⟨l9, u9⟩, ⟨l10, u10⟩, ⟨l11, u11⟩, ⟨l12, u12⟩, -⟩ := b_
  obtain ⟨f0, f1, -⟩ := f_
  obtain ⟨e0, ⟨T1, w_, w1⟩⟩ := d_
  subst w1
  subst w_
  have g := rxd177_0_6 hP hin hsm_ I0 I1 hinv l8 u8 l9 u9 l10 u10 l11 u11 l12 u12 f0 f1 e0
  refine ⟨bx_narP_ok (l := []) g.1, ?_⟩
  show rxPS177 S0 ws (bx_up T1 480 (0) (0)) (some (bx_num r_p (.inr (0, (0, (-1))))))
  rw [bx_xv_ok h0_]
  exact g.2
theorem rxd177_0_7 {S0 : Nat → Int → Int} {ws : List Int} {S : Nat → Int → Int} {one other cue what x12 : Int} (hP : rxP177 S0 ws) (hin : bx_same rxL (bx_mdl rxC177.2.2.1) S0 S) (hin2 : bx_same rxL (bx_mdl rxC177.2.2.1) S (bx_up S 480 0 0)) (I0 : bx_Inv rxL S) (I1 : bx_Inv rxL (bx_up S 480 0 0)) (hinv : rxI177_0 S0 ws S one other cue what) (l8 : 0 ≤ one) (u8 : one ≤ 11) (l9 : 0 ≤ other) (u9 : other ≤ 11) (l10 : 6 ≤ cue) (u10 : cue ≤ 2147483647) (l11 : (-2147483648) ≤ what) (u11 : what ≤ 2147483647) (l12 : 1 ≤ x12) (u12 : x12 ≤ 12) (f0 : other ≤ x12 + (-1)) (f1 : one ≤ x12 + (-1)) (e0 : (bx_up S 480 0 0) 482 2 = x12) : (True) ∧ rxPS177 S0 ws (bx_up S 480 0 0) (some ((-1))) := by
  exact ⟨trivial, trivial⟩
theorem rxf177_0_7 {X : (Nat → Int → Int) → Prop} {S0 : Nat → Int → Int} {ws : List Int} (hP : rxP177 S0 ws) : bx_obE rxL X S0 rxC177.2.2.1 (rxI177 S0 ws) (rxPS177 S0 ws) 0 rxz177_0 rxe177_0_7 := by
  intro S S_p r r_p hinv hX hin hsm_ hseg
  obtain ⟨I0, I1, h0_, hr_, b_, f_, d_⟩ := bx_cl (evs := [(0, (0, 482), (0, 2), .inr (0, (12, 0))), (1, (0, 480), (0, 0), .inr (0, (0, 0)))]) (fvs := [(1, (9, 0), (12, (-1)), (0, 0)), (1, (8, 0), (12, (-1)), (0, 0))]) hseg (by decide +kernel) (by decide +kernel)
  have hinv : rxI177_0 S0 ws S (r 8) (r 9) (r 10) (r 11) := hinv
  rw [← hr_ 8 (by decide), ← hr_ 9 (by decide), ← hr_ 10 (by decide), ← hr_ 11 (by decide)] at hinv
  obtain ⟨⟨l8, u8⟩, ⟨l9, u9⟩, ⟨l10, u10⟩, ⟨l11, u11⟩, ⟨l12, u12⟩, -⟩ := b_
  obtain ⟨f0, f1, -⟩ := f_
  obtain ⟨e0, ⟨T1, w_, w1⟩⟩ := d_
  subst w1
  subst w_
  have g := rxd177_0_7 hP hin hsm_ I0 I1 hinv l8 u8 l9 u9 l10 u10 l11 u11 l12 u12 f0 f1 e0
  refine ⟨bx_narP_ok (l := []) g.1, ?_⟩
  show rxPS177 S0 ws (bx_up T1 480 (0) (0)) (some (bx_num r_p (.inr (0, (0, (-1))))))
  rw [bx_xv_ok h0_]
  exact g.2
theorem rxd177_0_8 {S0 : Nat → Int → Int} {ws : List Int} {S : Nat → Int → Int} {one other cue what x12 : Int} (hP : rxP177 S0 ws) (hin : bx_same rxL (bx_mdl rxC177.2.2.1) S0 S) (hin2 : bx_same rxL (bx_mdl rxC177.2.2.1) S (bx_up S 480 0 0)) (I0 : bx_Inv rxL S) (I1 : bx_Inv rxL (bx_up S 480 0 0)) (hinv : rxI177_0 S0 ws S one other cue what) (l8 : 0 ≤ one) (u8 : one ≤ 11) (l9 : 0 ≤ other) (u9 : other ≤ 11) (l10 : (-2147483648) ≤ cue) (u10 : cue ≤ (-1)) (l11 : (-2147483648) ≤ what) (u11 : what ≤ 2147483647) (l12 : 1 ≤ x12) (u12 : x12 ≤ 12) (f0 : other ≤ x12 + (-1)) (f1 : one ≤ x12 + (-1)) (e0 : (bx_up S 480 0 0) 482 2 = x12) : (True) ∧ rxPS177 S0 ws (bx_up S 480 0 0) (some ((-1))) := by
  exact ⟨trivial, trivial⟩
theorem rxf177_0_8 {X : (Nat → Int → Int) → Prop} {S0 : Nat → Int → Int} {ws : List Int} (hP : rxP177 S0 ws) : bx_obE rxL X S0 rxC177.2.2.1 (rxI177 S0 ws) (rxPS177 S0 ws) 0 rxz177_0 rxe177_0_8 := by
  intro S S_p r r_p hinv hX hin hsm_ hseg
  obtain ⟨I0, I1, h0_, hr_, b_, f_, d_⟩ := bx_cl (evs := [(0, (0, 482), (0, 2), .inr (0, (12, 0))), (1, (0, 480), (0, 0), .inr (0, (0, 0)))]) (fvs := [(1, (9, 0), (12, (-1)), (0, 0)), (1, (8, 0), (12, (-1)), (0, 0))]) hseg (by decide +kernel) (by decide +kernel)
  have hinv : rxI177_0 S0 ws S (r 8) (r 9) (r 10) (r 11) := hinv
  rw [← hr_ 8 (by decide), ← hr_ 9 (by decide), ← hr_ 10 (by decide), ← hr_ 11 (by decide)] at hinv
  obtain ⟨⟨l8, u8⟩, ⟨l9, u9⟩, ⟨l10, u10⟩, ⟨l11, u11⟩, ⟨l12, u12⟩, -⟩ := b_
  obtain ⟨f0, f1, -⟩ := f_
  obtain ⟨e0, ⟨T1, w_, w1⟩⟩ := d_
  subst w1
  subst w_
  have g := rxd177_0_8 hP hin hsm_ I0 I1 hinv l8 u8 l9 u9 l10 u10 l11 u11 l12 u12 f0 f1 e0
  refine ⟨bx_narP_ok (l := []) g.1, ?_⟩
  show rxPS177 S0 ws (bx_up T1 480 (0) (0)) (some (bx_num r_p (.inr (0, (0, (-1))))))
  rw [bx_xv_ok h0_]
  exact g.2
theorem rxc177_2_0 {S0 : Nat → Int → Int} {ws : List Int} {S : Nat → Int → Int} {one other cue what a b c : Int} (hP : rxP177 S0 ws) (hin : bx_same rxL (bx_mdl rxC177.2.2.1) S0 S) (I0 : bx_Inv rxL S) (hinv : rxI177_2 S0 ws S one other cue what a b c) (l8 : 0 ≤ one) (u8 : one ≤ 11) (l9 : 0 ≤ other) (u9 : other ≤ 11) (l10 : 0 ≤ cue) (u10 : cue ≤ 5) (l11 : 3 ≤ what) (u11 : what ≤ 99) (l12 : 0 ≤ a) (u12 : a ≤ 11) (l13 : 0 ≤ b) (u13 : b ≤ 11) (l14 : 0 ≤ c) (u14 : c ≤ 5) : ((10 ≤ what ∧ what ≤ 99) ∧ True) ∧ (True) ∧ rxI177_3 S0 ws S one other cue what ∧ rxm177_3 S0 ws S one other cue what < rxm177_2 S0 ws S one other cue what a b c := by
  obtain ⟨h1, h2⟩ := hinv
  exact ⟨⟨by omega, trivial⟩, trivial, h2, by unfold rxm177_2 rxm177_3; omega⟩
theorem rxg177_2_0 {X : (Nat → Int → Int) → Prop} {S0 : Nat → Int → Int} {ws : List Int} (hP : rxP177 S0 ws) : bx_obC rxL X S0 rxC177.2.2.1 (rxI177 S0 ws) (rxm177 S0 ws) 2 rxz177_2 rxo177_2_0 := by
  intro S S_p r r_p hinv hX hin hsm_ hseg
  obtain ⟨I0, I1, h0_, hr_, b_, f_, d_⟩ := bx_cl (evs := []) (fvs := []) hseg (by decide +kernel) (by decide +kernel)
  have hinv : rxI177_2 S0 ws S (r 8) (r 9) (r 10) (r 11) (r 12) (r 13) (r 14) := hinv
  rw [← hr_ 8 (by decide), ← hr_ 9 (by decide), ← hr_ 10 (by decide), ← hr_ 11 (by decide), ← hr_ 12 (by decide), ← hr_ 13 (by decide), ← hr_ 14 (by decide)] at hinv
  obtain ⟨⟨l8, u8⟩, ⟨l9, u9⟩, ⟨l10, u10⟩, ⟨l11, u11⟩, ⟨l12, u12⟩, ⟨l13, u13⟩, ⟨l14, u14⟩, -⟩ := b_
  have w_ := d_
  subst w_
  have g := rxc177_2_0 hP hin I0 hinv l8 u8 l9 u9 l10 u10 l11 u11 l12 u12 l13 u13 l14 u14
  refine ⟨bx_narP_ok (l := [(11, 10, 99)]) g.1, bx_nfP_ok h0_ (fvs := []) (by decide +kernel) g.2.1, ?_, ?_⟩
  · show rxI177_3 S0 ws S_p (bx_val [(0, 0), (0, 0), (0, 0), (0, 0), (0, 0), (0, 0), (0, 0), (0, 0), (8, 0), (9, 0), (10, 0), (11, 0)] r_p 8) (bx_val [(0, 0), (0, 0), (0, 0), (0, 0), (0, 0), (0, 0), (0, 0), (0, 0), (8, 0), (9, 0), (10, 0), (11, 0)] r_p 9) (bx_val [(0, 0), (0, 0), (0, 0), (0, 0), (0, 0), (0, 0), (0, 0), (0, 0), (8, 0), (9, 0), (10, 0), (11, 0)] r_p 10) (bx_val [(0, 0), (0, 0), (0, 0), (0, 0), (0, 0), (0, 0), (0, 0), (0, 0), (8, 0), (9, 0), (10, 0), (11, 0)] r_p 11)
    rw [bx_val_x (n := 8) (e := (8, 0)) h0_ rfl, bx_val_x (n := 9) (e := (9, 0)) h0_ rfl, bx_val_x (n := 10) (e := (10, 0)) h0_ rfl, bx_val_x (n := 11) (e := (11, 0)) h0_ rfl]
    exact g.2.2.1
  · show rxm177_3 S0 ws S_p (bx_val [(0, 0), (0, 0), (0, 0), (0, 0), (0, 0), (0, 0), (0, 0), (0, 0), (8, 0), (9, 0), (10, 0), (11, 0)] r_p 8) (bx_val [(0, 0), (0, 0), (0, 0), (0, 0), (0, 0), (0, 0), (0, 0), (0, 0), (8, 0), (9, 0), (10, 0), (11, 0)] r_p 9) (bx_val [(0, 0), (0, 0), (0, 0), (0, 0), (0, 0), (0, 0), (0, 0), (0, 0), (8, 0), (9, 0), (10, 0), (11, 0)] r_p 10) (bx_val [(0, 0), (0, 0), (0, 0), (0, 0), (0, 0), (0, 0), (0, 0), (0, 0), (8, 0), (9, 0), (10, 0), (11, 0)] r_p 11) < rxm177_2 S0 ws S_p (r 8) (r 9) (r 10) (r 11) (r 12) (r 13) (r 14)
    rw [bx_val_x (n := 8) (e := (8, 0)) h0_ rfl, bx_val_x (n := 9) (e := (9, 0)) h0_ rfl, bx_val_x (n := 10) (e := (10, 0)) h0_ rfl, bx_val_x (n := 11) (e := (11, 0)) h0_ rfl, ← hr_ 8 (by decide), ← hr_ 9 (by decide), ← hr_ 10 (by decide), ← hr_ 11 (by decide), ← hr_ 12 (by decide), ← hr_ 13 (by decide), ← hr_ 14 (by decide)]
    exact g.2.2.2
theorem rxd177_2_0 {S0 : Nat → Int → Int} {ws : List Int} {S : Nat → Int → Int} {one other cue what a b c x15 : Int} (hP : rxP177 S0 ws) (hin : bx_same rxL (bx_mdl rxC177.2.2.1) S0 S) (hin2 : bx_same rxL (bx_mdl rxC177.2.2.1) S S) (I0 : bx_Inv rxL S) (I1 : bx_Inv rxL S) (hinv : rxI177_2 S0 ws S one other cue what a b c) (l8 : 0 ≤ one) (u8 : one ≤ 11) (l9 : 0 ≤ other) (u9 : other ≤ 11) (l10 : 0 ≤ cue) (u10 : cue ≤ 5) (l11 : 0 ≤ what) (u11 : what ≤ 0) (l12 : 0 ≤ a) (u12 : a ≤ 11) (l13 : 0 ≤ b) (u13 : b ≤ 11) (l14 : 0 ≤ c) (u14 : c ≤ 5) (l15 : (-1) ≤ x15) (u15 : x15 ≤ 432) (e0 : S 480 45 = x15) : (True) ∧ rxPS177 S0 ws S (some x15) := by
  exact ⟨trivial, trivial⟩
theorem rxf177_2_0 {X : (Nat → Int → Int) → Prop} {S0 : Nat → Int → Int} {ws : List Int} (hP : rxP177 S0 ws) : bx_obE rxL X S0 rxC177.2.2.1 (rxI177 S0 ws) (rxPS177 S0 ws) 2 rxz177_2 rxe177_2_0 := by
  intro S S_p r r_p hinv hX hin hsm_ hseg
  obtain ⟨I0, I1, h0_, hr_, b_, f_, d_⟩ := bx_cl (evs := [(0, (0, 480), (0, 45), .inr (0, (15, 0)))]) (fvs := []) hseg (by decide +kernel) (by decide +kernel)
  have hinv : rxI177_2 S0 ws S (r 8) (r 9) (r 10) (r 11) (r 12) (r 13) (r 14) := hinv
  rw [← hr_ 8 (by decide), ← hr_ 9 (by decide), ← hr_ 10 (by decide), ← hr_ 11 (by decide), ← hr_ 12 (by decide), ← hr_ 13 (by decide), ← hr_ 14 (by decide)] at hinv
  obtain ⟨⟨l8, u8⟩, ⟨l9, u9⟩, ⟨l10, u10⟩, ⟨l11, u11⟩, ⟨l12, u12⟩, ⟨l13, u13⟩, ⟨l14, u14⟩, ⟨l15, u15⟩, -⟩ := b_
  obtain ⟨e0, w_⟩ := d_
  subst w_
  have g := rxd177_2_0 hP hin hsm_ I0 I1 hinv l8 u8 l9 u9 l10 u10 l11 u11 l12 u12 l13 u13 l14 u14 l15 u15 e0
  refine ⟨bx_narP_ok (l := []) g.1, ?_⟩
  show rxPS177 S0 ws S_p (some (bx_num r_p (.inr (0, (15, 0)))))
  rw [bx_xv_ok h0_]
  exact g.2
theorem rxd177_2_1 {S0 : Nat → Int → Int} {ws : List Int} {S : Nat → Int → Int} {one other cue what a b c x15 : Int} (hP : rxP177 S0 ws) (hin : bx_same rxL (bx_mdl rxC177.2.2.1) S0 S) (hin2 : bx_same rxL (bx_mdl rxC177.2.2.1) S S) (I0 : bx_Inv rxL S) (I1 : bx_Inv rxL S) (hinv : rxI177_2 S0 ws S one other cue what a b c) (l8 : 0 ≤ one) (u8 : one ≤ 11) (l9 : 0 ≤ other) (u9 : other ≤ 11) (l10 : 0 ≤ cue) (u10 : cue ≤ 5) (l11 : 1 ≤ what) (u11 : what ≤ 1) (l12 : 0 ≤ a) (u12 : a ≤ 11) (l13 : 0 ≤ b) (u13 : b ≤ 11) (l14 : 0 ≤ c) (u14 : c ≤ 5) (l15 : (-1) ≤ x15) (u15 : x15 ≤ 432) (f0 : what ≠ 0) (e0 : S 480 46 = x15) : (True) ∧ rxPS177 S0 ws S (some x15) := by
  exact ⟨trivial, trivial⟩
theorem rxf177_2_1 {X : (Nat → Int → Int) → Prop} {S0 : Nat → Int → Int} {ws : List Int} (hP : rxP177 S0 ws) : bx_obE rxL X S0 rxC177.2.2.1 (rxI177 S0 ws) (rxPS177 S0 ws) 2 rxz177_2 rxe177_2_1 := by
  intro S S_p r r_p hinv hX hin hsm_ hseg
  obtain ⟨I0, I1, h0_, hr_, b_, f_, d_⟩ := bx_cl (evs := [(0, (0, 480), (0, 46), .inr (0, (15, 0)))]) (fvs := [(3, (11, 0), (0, 0), (0, 0))]) hseg (by decide +kernel) (by decide +kernel)
  have hinv : rxI177_2 S0 ws S (r 8) (r 9) (r 10) (r 11) (r 12) (r 13) (r 14) := hinv
  rw [← hr_ 8 (by decide), ← hr_ 9 (by decide), ← hr_ 10 (by decide), ← hr_ 11 (by decide), ← hr_ 12 (by decide), ← hr_ 13 (by decide), ← hr_ 14 (by decide)] at hinv
  obtain ⟨⟨l8, u8⟩, ⟨l9, u9⟩, ⟨l10, u10⟩, ⟨l11, u11⟩, ⟨l12, u12⟩, ⟨l13, u13⟩, ⟨l14, u14⟩, ⟨l15, u15⟩, -⟩ := b_
  obtain ⟨f0, -⟩ := f_
  obtain ⟨e0, w_⟩ := d_
  subst w_
  have g := rxd177_2_1 hP hin hsm_ I0 I1 hinv l8 u8 l9 u9 l10 u10 l11 u11 l12 u12 l13 u13 l14 u14 l15 u15 f0 e0
  refine ⟨bx_narP_ok (l := []) g.1, ?_⟩
  show rxPS177 S0 ws S_p (some (bx_num r_p (.inr (0, (15, 0)))))
  rw [bx_xv_ok h0_]
  exact g.2
theorem rxd177_2_2 {S0 : Nat → Int → Int} {ws : List Int} {S : Nat → Int → Int} {one other cue what a b c x15 : Int} (hP : rxP177 S0 ws) (hin : bx_same rxL (bx_mdl rxC177.2.2.1) S0 S) (hin2 : bx_same rxL (bx_mdl rxC177.2.2.1) S S) (I0 : bx_Inv rxL S) (I1 : bx_Inv rxL S) (hinv : rxI177_2 S0 ws S one other cue what a b c) (l8 : 0 ≤ one) (u8 : one ≤ 11) (l9 : 0 ≤ other) (u9 : other ≤ 11) (l10 : 0 ≤ cue) (u10 : cue ≤ 5) (l11 : 2 ≤ what) (u11 : what ≤ 2) (l12 : 0 ≤ a) (u12 : a ≤ 11) (l13 : 0 ≤ b) (u13 : b ≤ 11) (l14 : 0 ≤ c) (u14 : c ≤ 5) (l15 : (-1) ≤ x15) (u15 : x15 ≤ 432) (f0 : what ≠ 1) (f1 : what ≠ 0) (e0 : S 480 47 = x15) : (True) ∧ rxPS177 S0 ws S (some x15) := by
  exact ⟨trivial, trivial⟩
theorem rxf177_2_2 {X : (Nat → Int → Int) → Prop} {S0 : Nat → Int → Int} {ws : List Int} (hP : rxP177 S0 ws) : bx_obE rxL X S0 rxC177.2.2.1 (rxI177 S0 ws) (rxPS177 S0 ws) 2 rxz177_2 rxe177_2_2 := by
  intro S S_p r r_p hinv hX hin hsm_ hseg
  obtain ⟨I0, I1, h0_, hr_, b_, f_, d_⟩ := bx_cl (evs := [(0, (0, 480), (0, 47), .inr (0, (15, 0)))]) (fvs := [(3, (11, 0), (0, 1), (0, 0)), (3, (11, 0), (0, 0), (0, 0))]) hseg (by decide +kernel) (by decide +kernel)
  have hinv : rxI177_2 S0 ws S (r 8) (r 9) (r 10) (r 11) (r 12) (r 13) (r 14) := hinv
  rw [← hr_ 8 (by decide), ← hr_ 9 (by decide), ← hr_ 10 (by decide), ← hr_ 11 (by decide), ← hr_ 12 (by decide), ← hr_ 13 (by decide), ← hr_ 14 (by decide)] at hinv
  obtain ⟨⟨l8, u8⟩, ⟨l9, u9⟩, ⟨l10, u10⟩, ⟨l11, u11⟩, ⟨l12, u12⟩, ⟨l13, u13⟩, ⟨l14, u14⟩, ⟨l15, u15⟩, -⟩ := b_
  obtain ⟨f0, f1, -⟩ := f_
  obtain ⟨e0, w_⟩ := d_
  subst w_
  have g := rxd177_2_2 hP hin hsm_ I0 I1 hinv l8 u8 l9 u9 l10 u10 l11 u11 l12 u12 l13 u13 l14 u14 l15 u15 f0 f1 e0
  refine ⟨bx_narP_ok (l := []) g.1, ?_⟩
  show rxPS177 S0 ws S_p (some (bx_num r_p (.inr (0, (15, 0)))))
  rw [bx_xv_ok h0_]
  exact g.2
theorem rxc177_3_0 {S0 : Nat → Int → Int} {ws : List Int} {S : Nat → Int → Int} {one other cue what x12 x13 : Int} (hP : rxP177 S0 ws) (hin : bx_same rxL (bx_mdl rxC177.2.2.1) S0 S) (I0 : bx_Inv rxL S) (hinv : rxI177_3 S0 ws S one other cue what) (l8 : 0 ≤ one) (u8 : one ≤ 11) (l9 : 0 ≤ other) (u9 : other ≤ 11) (l10 : 0 ≤ cue) (u10 : cue ≤ 5) (l11 : 10 ≤ what) (u11 : what ≤ 99) (l12 : (-1) ≤ x12) (u12 : x12 ≤ (-1)) (l13 : 1 ≤ x13) (u13 : x13 ≤ 432) (f0 : what + (-10) < x13) (e1 : S 480 45 = x12) (e0 : S 480 46 = x13) : (True) ∧ (True) ∧ rxI177_6 S0 ws S one other cue what (what + (-10)) (what + (-10)) ∧ rxm177_6 S0 ws S one other cue what (what + (-10)) (what + (-10)) < rxm177_3 S0 ws S one other cue what := by
  exact ⟨trivial, trivial, trivial, by unfold rxm177_3 rxm177_6; omega⟩
theorem rxg177_3_0 {X : (Nat → Int → Int) → Prop} {S0 : Nat → Int → Int} {ws : List Int} (hP : rxP177 S0 ws) : bx_obC rxL X S0 rxC177.2.2.1 (rxI177 S0 ws) (rxm177 S0 ws) 3 rxz177_3 rxo177_3_0 := by
  intro S S_p r r_p hinv hX hin hsm_ hseg
  obtain ⟨I0, I1, h0_, hr_, b_, f_, d_⟩ := bx_cl (evs := [(0, (0, 480), (0, 46), .inr (0, (13, 0))), (0, (0, 480), (0, 45), .inr (0, (12, 0)))]) (fvs := [(0, (11, (-10)), (13, 0), (0, 0))]) hseg (by decide +kernel) (by decide +kernel)
  have hinv : rxI177_3 S0 ws S (r 8) (r 9) (r 10) (r 11) := hinv
  rw [← hr_ 8 (by decide), ← hr_ 9 (by decide), ← hr_ 10 (by decide), ← hr_ 11 (by decide)] at hinv
  obtain ⟨⟨l8, u8⟩, ⟨l9, u9⟩, ⟨l10, u10⟩, ⟨l11, u11⟩, ⟨l12, u12⟩, ⟨l13, u13⟩, -⟩ := b_
  obtain ⟨f0, -⟩ := f_
  obtain ⟨e0, ⟨e1, w_⟩⟩ := d_
  subst w_
  have g := rxc177_3_0 hP hin I0 hinv l8 u8 l9 u9 l10 u10 l11 u11 l12 u12 l13 u13 f0 e1 e0
  refine ⟨bx_narP_ok (l := []) g.1, bx_nfP_ok h0_ (fvs := []) (by decide +kernel) g.2.1, ?_, ?_⟩
  · show rxI177_6 S0 ws S_p (bx_val [(0, 0), (0, 0), (0, 0), (0, 0), (0, 0), (0, 0), (0, 0), (0, 0), (8, 0), (9, 0), (10, 0), (11, 0), (11, (-10)), (11, (-10))] r_p 8) (bx_val [(0, 0), (0, 0), (0, 0), (0, 0), (0, 0), (0, 0), (0, 0), (0, 0), (8, 0), (9, 0), (10, 0), (11, 0), (11, (-10)), (11, (-10))] r_p 9) (bx_val [(0, 0), (0, 0), (0, 0), (0, 0), (0, 0), (0, 0), (0, 0), (0, 0), (8, 0), (9, 0), (10, 0), (11, 0), (11, (-10)), (11, (-10))] r_p 10) (bx_val [(0, 0), (0, 0), (0, 0), (0, 0), (0, 0), (0, 0), (0, 0), (0, 0), (8, 0), (9, 0), (10, 0), (11, 0), (11, (-10)), (11, (-10))] r_p 11) (bx_val [(0, 0), (0, 0), (0, 0), (0, 0), (0, 0), (0, 0), (0, 0), (0, 0), (8, 0), (9, 0), (10, 0), (11, 0), (11, (-10)), (11, (-10))] r_p 12) (bx_val [(0, 0), (0, 0), (0, 0), (0, 0), (0, 0), (0, 0), (0, 0), (0, 0), (8, 0), (9, 0), (10, 0), (11, 0), (11, (-10)), (11, (-10))] r_p 13)
    rw [bx_val_x (n := 8) (e := (8, 0)) h0_ rfl, bx_val_x (n := 9) (e := (9, 0)) h0_ rfl, bx_val_x (n := 10) (e := (10, 0)) h0_ rfl, bx_val_x (n := 11) (e := (11, 0)) h0_ rfl, bx_val_x (n := 12) (e := (11, (-10))) h0_ rfl, bx_val_x (n := 13) (e := (11, (-10))) h0_ rfl]
    exact g.2.2.1
  · show rxm177_6 S0 ws S_p (bx_val [(0, 0), (0, 0), (0, 0), (0, 0), (0, 0), (0, 0), (0, 0), (0, 0), (8, 0), (9, 0), (10, 0), (11, 0), (11, (-10)), (11, (-10))] r_p 8) (bx_val [(0, 0), (0, 0), (0, 0), (0, 0), (0, 0), (0, 0), (0, 0), (0, 0), (8, 0), (9, 0), (10, 0), (11, 0), (11, (-10)), (11, (-10))] r_p 9) (bx_val [(0, 0), (0, 0), (0, 0), (0, 0), (0, 0), (0, 0), (0, 0), (0, 0), (8, 0), (9, 0), (10, 0), (11, 0), (11, (-10)), (11, (-10))] r_p 10) (bx_val [(0, 0), (0, 0), (0, 0), (0, 0), (0, 0), (0, 0), (0, 0), (0, 0), (8, 0), (9, 0), (10, 0), (11, 0), (11, (-10)), (11, (-10))] r_p 11) (bx_val [(0, 0), (0, 0), (0, 0), (0, 0), (0, 0), (0, 0), (0, 0), (0, 0), (8, 0), (9, 0), (10, 0), (11, 0), (11, (-10)), (11, (-10))] r_p 12) (bx_val [(0, 0), (0, 0), (0, 0), (0, 0), (0, 0), (0, 0), (0, 0), (0, 0), (8, 0), (9, 0), (10, 0), (11, 0), (11, (-10)), (11, (-10))] r_p 13) < rxm177_3 S0 ws S_p (r 8) (r 9) (r 10) (r 11)
    rw [bx_val_x (n := 8) (e := (8, 0)) h0_ rfl, bx_val_x (n := 9) (e := (9, 0)) h0_ rfl, bx_val_x (n := 10) (e := (10, 0)) h0_ rfl, bx_val_x (n := 11) (e := (11, 0)) h0_ rfl, bx_val_x (n := 12) (e := (11, (-10))) h0_ rfl, bx_val_x (n := 13) (e := (11, (-10))) h0_ rfl, ← hr_ 8 (by decide), ← hr_ 9 (by decide), ← hr_ 10 (by decide), ← hr_ 11 (by decide)]
    exact g.2.2.2
theorem rxc177_3_1 {S0 : Nat → Int → Int} {ws : List Int} {S : Nat → Int → Int} {one other cue what x12 x13 x14 x15 : Int} (hP : rxP177 S0 ws) (hin : bx_same rxL (bx_mdl rxC177.2.2.1) S0 S) (I0 : bx_Inv rxL S) (hinv : rxI177_3 S0 ws S one other cue what) (l8 : 0 ≤ one) (u8 : one ≤ 11) (l9 : 0 ≤ other) (u9 : other ≤ 11) (l10 : 0 ≤ cue) (u10 : cue ≤ 5) (l11 : 10 ≤ what) (u11 : what ≤ 99) (l12 : (-1) ≤ x12) (u12 : x12 ≤ (-1)) (l13 : (-1) ≤ x13) (u13 : x13 ≤ 89) (l14 : 0 ≤ x14) (u14 : x14 ≤ 90) (l15 : (-1) ≤ x15) (u15 : x15 ≤ 432) (f0 : what + (-10) = x14 + x13) (f1 : x13 ≤ what + (-10)) (e2 : S 480 45 = x12) (e1 : S 480 46 = x13) (e0 : S 480 47 = x15) : ((0 ≤ x13 ∧ x13 ≤ 432) ∧ (0 ≤ x14 ∧ x14 ≤ 89) ∧ (1 ≤ x15 ∧ x15 ≤ 432) ∧ True) ∧ (True) ∧ rxI177_4 S0 ws S one other cue what (what + (-10)) x13 x14 x15 ∧ rxm177_4 S0 ws S one other cue what (what + (-10)) x13 x14 x15 < rxm177_3 S0 ws S one other cue what := by
  rcases hinv with h | ⟨h1, h2, h3⟩
  · omega
  · exact ⟨⟨by omega, by omega, by omega, trivial⟩, trivial, by show x13 + x15 ≤ 432; omega, by unfold rxm177_3 rxm177_4; omega⟩
theorem rxg177_3_1 {X : (Nat → Int → Int) → Prop} {S0 : Nat → Int → Int} {ws : List Int} (hP : rxP177 S0 ws) : bx_obC rxL X S0 rxC177.2.2.1 (rxI177 S0 ws) (rxm177 S0 ws) 3 rxz177_3 rxo177_3_1 := by
  intro S S_p r r_p hinv hX hin hsm_ hseg
  obtain ⟨I0, I1, h0_, hr_, b_, f_, d_⟩ := bx_cl (evs := [(0, (0, 480), (0, 47), .inr (0, (15, 0))), (0, (0, 480), (0, 46), .inr (0, (13, 0))), (0, (0, 480), (0, 45), .inr (0, (12, 0)))]) (fvs := [(5, (11, (-10)), (14, 0), (13, 0)), (1, (13, 0), (11, (-10)), (0, 0))]) hseg (by decide +kernel) (by decide +kernel)
  have hinv : rxI177_3 S0 ws S (r 8) (r 9) (r 10) (r 11) := hinv
  rw [← hr_ 8 (by decide), ← hr_ 9 (by decide), ← hr_ 10 (by decide), ← hr_ 11 (by decide)] at hinv
  obtain ⟨⟨l8, u8⟩, ⟨l9, u9⟩, ⟨l10, u10⟩, ⟨l11, u11⟩, ⟨l12, u12⟩, ⟨l13, u13⟩, ⟨l14, u14⟩, ⟨l15, u15⟩, -⟩ := b_
  obtain ⟨f0, f1, -⟩ := f_
  obtain ⟨e0, ⟨e1, ⟨e2, w_⟩⟩⟩ := d_
  subst w_
  have g := rxc177_3_1 hP hin I0 hinv l8 u8 l9 u9 l10 u10 l11 u11 l12 u12 l13 u13 l14 u14 l15 u15 f0 f1 e2 e1 e0
  refine ⟨bx_narP_ok (l := [(13, 0, 432), (14, 0, 89), (15, 1, 432)]) g.1, bx_nfP_ok h0_ (fvs := []) (by decide +kernel) g.2.1, ?_, ?_⟩
  · show rxI177_4 S0 ws S_p (bx_val [(0, 0), (0, 0), (0, 0), (0, 0), (0, 0), (0, 0), (0, 0), (0, 0), (8, 0), (9, 0), (10, 0), (11, 0), (11, (-10)), (13, 0), (14, 0), (15, 0)] r_p 8) (bx_val [(0, 0), (0, 0), (0, 0), (0, 0), (0, 0), (0, 0), (0, 0), (0, 0), (8, 0), (9, 0), (10, 0), (11, 0), (11, (-10)), (13, 0), (14, 0), (15, 0)] r_p 9) (bx_val [(0, 0), (0, 0), (0, 0), (0, 0), (0, 0), (0, 0), (0, 0), (0, 0), (8, 0), (9, 0), (10, 0), (11, 0), (11, (-10)), (13, 0), (14, 0), (15, 0)] r_p 10) (bx_val [(0, 0), (0, 0), (0, 0), (0, 0), (0, 0), (0, 0), (0, 0), (0, 0), (8, 0), (9, 0), (10, 0), (11, 0), (11, (-10)), (13, 0), (14, 0), (15, 0)] r_p 11) (bx_val [(0, 0), (0, 0), (0, 0), (0, 0), (0, 0), (0, 0), (0, 0), (0, 0), (8, 0), (9, 0), (10, 0), (11, 0), (11, (-10)), (13, 0), (14, 0), (15, 0)] r_p 12) (bx_val [(0, 0), (0, 0), (0, 0), (0, 0), (0, 0), (0, 0), (0, 0), (0, 0), (8, 0), (9, 0), (10, 0), (11, 0), (11, (-10)), (13, 0), (14, 0), (15, 0)] r_p 13) (bx_val [(0, 0), (0, 0), (0, 0), (0, 0), (0, 0), (0, 0), (0, 0), (0, 0), (8, 0), (9, 0), (10, 0), (11, 0), (11, (-10)), (13, 0), (14, 0), (15, 0)] r_p 14) (bx_val [(0, 0), (0, 0), (0, 0), (0, 0), (0, 0), (0, 0), (0, 0), (0, 0), (8, 0), (9, 0), (10, 0), (11, 0), (11, (-10)), (13, 0), (14, 0), (15, 0)] r_p 15)
    rw [bx_val_x (n := 8) (e := (8, 0)) h0_ rfl, bx_val_x (n := 9) (e := (9, 0)) h0_ rfl, bx_val_x (n := 10) (e := (10, 0)) h0_ rfl, bx_val_x (n := 11) (e := (11, 0)) h0_ rfl, bx_val_x (n := 12) (e := (11, (-10))) h0_ rfl, bx_val_x (n := 13) (e := (13, 0)) h0_ rfl, bx_val_x (n := 14) (e := (14, 0)) h0_ rfl, bx_val_x (n := 15) (e := (15, 0)) h0_ rfl]
    exact g.2.2.1
  · show rxm177_4 S0 ws S_p (bx_val [(0, 0), (0, 0), (0, 0), (0, 0), (0, 0), (0, 0), (0, 0), (0, 0), (8, 0), (9, 0), (10, 0), (11, 0), (11, (-10)), (13, 0), (14, 0), (15, 0)] r_p 8) (bx_val [(0, 0), (0, 0), (0, 0), (0, 0), (0, 0), (0, 0), (0, 0), (0, 0), (8, 0), (9, 0), (10, 0), (11, 0), (11, (-10)), (13, 0), (14, 0), (15, 0)] r_p 9) (bx_val [(0, 0), (0, 0), (0, 0), (0, 0), (0, 0), (0, 0), (0, 0), (0, 0), (8, 0), (9, 0), (10, 0), (11, 0), (11, (-10)), (13, 0), (14, 0), (15, 0)] r_p 10) (bx_val [(0, 0), (0, 0), (0, 0), (0, 0), (0, 0), (0, 0), (0, 0), (0, 0), (8, 0), (9, 0), (10, 0), (11, 0), (11, (-10)), (13, 0), (14, 0), (15, 0)] r_p 11) (bx_val [(0, 0), (0, 0), (0, 0), (0, 0), (0, 0), (0, 0), (0, 0), (0, 0), (8, 0), (9, 0), (10, 0), (11, 0), (11, (-10)), (13, 0), (14, 0), (15, 0)] r_p 12) (bx_val [(0, 0), (0, 0), (0, 0), (0, 0), (0, 0), (0, 0), (0, 0), (0, 0), (8, 0), (9, 0), (10, 0), (11, 0), (11, (-10)), (13, 0), (14, 0), (15, 0)] r_p 13) (bx_val [(0, 0), (0, 0), (0, 0), (0, 0), (0, 0), (0, 0), (0, 0), (0, 0), (8, 0), (9, 0), (10, 0), (11, 0), (11, (-10)), (13, 0), (14, 0), (15, 0)] r_p 14) (bx_val [(0, 0), (0, 0), (0, 0), (0, 0), (0, 0), (0, 0), (0, 0), (0, 0), (8, 0), (9, 0), (10, 0), (11, 0), (11, (-10)), (13, 0), (14, 0), (15, 0)] r_p 15) < rxm177_3 S0 ws S_p (r 8) (r 9) (r 10) (r 11)
    rw [bx_val_x (n := 8) (e := (8, 0)) h0_ rfl, bx_val_x (n := 9) (e := (9, 0)) h0_ rfl, bx_val_x (n := 10) (e := (10, 0)) h0_ rfl, bx_val_x (n := 11) (e := (11, 0)) h0_ rfl, bx_val_x (n := 12) (e := (11, (-10))) h0_ rfl, bx_val_x (n := 13) (e := (13, 0)) h0_ rfl, bx_val_x (n := 14) (e := (14, 0)) h0_ rfl, bx_val_x (n := 15) (e := (15, 0)) h0_ rfl, ← hr_ 8 (by decide), ← hr_ 9 (by decide), ← hr_ 10 (by decide), ← hr_ 11 (by decide)]
    exact g.2.2.2
theorem rxd177_3_0 {S0 : Nat → Int → Int} {ws : List Int} {S : Nat → Int → Int} {one other cue what x12 x13 : Int} (hP : rxP177 S0 ws) (hin : bx_same rxL (bx_mdl rxC177.2.2.1) S0 S) (hin2 : bx_same rxL (bx_mdl rxC177.2.2.1) S S) (I0 : bx_Inv rxL S) (I1 : bx_Inv rxL S) (hinv : rxI177_3 S0 ws S one other cue what) (l8 : 0 ≤ one) (u8 : one ≤ 11) (l9 : 0 ≤ other) (u9 : other ≤ 11) (l10 : 0 ≤ cue) (u10 : cue ≤ 5) (l11 : 10 ≤ what) (u11 : what ≤ 99) (l12 : 1 ≤ x12) (u12 : x12 ≤ 432) (l13 : 0 ≤ x13) (u13 : x13 ≤ 9) (f0 : what + (-10) < x12) (f1 : x12 ≠ (-1)) (e1 : S 480 45 = x12) (e0 : S 503 (what + (-10)) = x13) : (True) ∧ rxPS177 S0 ws S (some x13) := by
  exact ⟨trivial, trivial⟩
theorem rxf177_3_0 {X : (Nat → Int → Int) → Prop} {S0 : Nat → Int → Int} {ws : List Int} (hP : rxP177 S0 ws) : bx_obE rxL X S0 rxC177.2.2.1 (rxI177 S0 ws) (rxPS177 S0 ws) 3 rxz177_3 rxe177_3_0 := by
  intro S S_p r r_p hinv hX hin hsm_ hseg
  obtain ⟨I0, I1, h0_, hr_, b_, f_, d_⟩ := bx_cl (evs := [(0, (0, 503), (11, (-10)), .inr (0, (13, 0))), (0, (0, 480), (0, 45), .inr (0, (12, 0)))]) (fvs := [(0, (11, (-10)), (12, 0), (0, 0)), (3, (12, 0), (0, (-1)), (0, 0))]) hseg (by decide +kernel) (by decide +kernel)
  have hinv : rxI177_3 S0 ws S (r 8) (r 9) (r 10) (r 11) := hinv
  rw [← hr_ 8 (by decide), ← hr_ 9 (by decide), ← hr_ 10 (by decide), ← hr_ 11 (by decide)] at hinv
  obtain ⟨⟨l8, u8⟩, ⟨l9, u9⟩, ⟨l10, u10⟩, ⟨l11, u11⟩, ⟨l12, u12⟩, ⟨l13, u13⟩, -⟩ := b_
  obtain ⟨f0, f1, -⟩ := f_
  obtain ⟨e0, ⟨e1, w_⟩⟩ := d_
  subst w_
  have g := rxd177_3_0 hP hin hsm_ I0 I1 hinv l8 u8 l9 u9 l10 u10 l11 u11 l12 u12 l13 u13 f0 f1 e1 e0
  refine ⟨bx_narP_ok (l := []) g.1, ?_⟩
  show rxPS177 S0 ws S_p (some (bx_num r_p (.inr (0, (13, 0)))))
  rw [bx_xv_ok h0_]
  exact g.2
theorem rxd177_3_1 {S0 : Nat → Int → Int} {ws : List Int} {S : Nat → Int → Int} {one other cue what x12 : Int} (hP : rxP177 S0 ws) (hin : bx_same rxL (bx_mdl rxC177.2.2.1) S0 S) (hin2 : bx_same rxL (bx_mdl rxC177.2.2.1) S S) (I0 : bx_Inv rxL S) (I1 : bx_Inv rxL S) (hinv : rxI177_3 S0 ws S one other cue what) (l8 : 0 ≤ one) (u8 : one ≤ 11) (l9 : 0 ≤ other) (u9 : other ≤ 11) (l10 : 0 ≤ cue) (u10 : cue ≤ 5) (l11 : 10 ≤ what) (u11 : what ≤ 99) (l12 : 0 ≤ x12) (u12 : x12 ≤ 89) (f0 : x12 ≤ what + (-10)) (f1 : x12 ≠ (-1)) (e0 : S 480 45 = x12) : (True) ∧ rxPS177 S0 ws S (some ((-1))) := by
  exact ⟨trivial, trivial⟩
theorem rxf177_3_1 {X : (Nat → Int → Int) → Prop} {S0 : Nat → Int → Int} {ws : List Int} (hP : rxP177 S0 ws) : bx_obE rxL X S0 rxC177.2.2.1 (rxI177 S0 ws) (rxPS177 S0 ws) 3 rxz177_3 rxe177_3_1 := by
  intro S S_p r r_p hinv hX hin hsm_ hseg
  obtain ⟨I0, I1, h0_, hr_, b_, f_, d_⟩ := bx_cl (evs := [(0, (0, 480), (0, 45), .inr (0, (12, 0)))]) (fvs := [(1, (12, 0), (11, (-10)), (0, 0)), (3, (12, 0), (0, (-1)), (0, 0))]) hseg (by decide +kernel) (by decide +kernel)
  have hinv : rxI177_3 S0 ws S (r 8) (r 9) (r 10) (r 11) := hinv
  rw [← hr_ 8 (by decide), ← hr_ 9 (by decide), ← hr_ 10 (by decide), ← hr_ 11 (by decide)] at hinv
  obtain ⟨⟨l8, u8⟩, ⟨l9, u9⟩, ⟨l10, u10⟩, ⟨l11, u11⟩, ⟨l12, u12⟩, -⟩ := b_
  obtain ⟨f0, f1, -⟩ := f_
  obtain ⟨e0, w_⟩ := d_
  subst w_
  have g := rxd177_3_1 hP hin hsm_ I0 I1 hinv l8 u8 l9 u9 l10 u10 l11 u11 l12 u12 f0 f1 e0
  refine ⟨bx_narP_ok (l := []) g.1, ?_⟩
  show rxPS177 S0 ws S_p (some (bx_num r_p (.inr (0, (0, (-1))))))
  rw [bx_xv_ok h0_]
  exact g.2
theorem rxc177_5_0 {S0 : Nat → Int → Int} {ws : List Int} {S : Nat → Int → Int} {one other cue what i ah d ro m x17 : Int} (hP : rxP177 S0 ws) (hin : bx_same rxL (bx_mdl rxC177.2.2.1) S0 S) (I0 : bx_Inv rxL S) (hinv : rxI177_5 S0 ws S one other cue what i ah d ro m) (l8 : 0 ≤ one) (u8 : one ≤ 11) (l9 : 0 ≤ other) (u9 : other ≤ 11) (l10 : 0 ≤ cue) (u10 : cue ≤ 5) (l11 : 10 ≤ what) (u11 : what ≤ 99) (l12 : 0 ≤ i) (u12 : i ≤ 89) (l13 : 0 ≤ ah) (u13 : ah ≤ 432) (l14 : 0 ≤ d) (u14 : d ≤ 89) (l15 : 1 ≤ ro) (u15 : ro ≤ 432) (l16 : 0 ≤ m) (u16 : m ≤ 431) (l17 : 0 ≤ x17) (u17 : x17 ≤ 863) (f0 : x17 = ah + m) : ((0 ≤ x17 ∧ x17 ≤ 433) ∧ True) ∧ (True) ∧ rxI177_6 S0 ws S one other cue what i x17 ∧ rxm177_6 S0 ws S one other cue what i x17 < rxm177_5 S0 ws S one other cue what i ah d ro m := by
  obtain ⟨h1, h2⟩ := hinv
  exact ⟨⟨by omega, trivial⟩, trivial, trivial, by unfold rxm177_5 rxm177_6; omega⟩
theorem rxg177_5_0 {X : (Nat → Int → Int) → Prop} {S0 : Nat → Int → Int} {ws : List Int} (hP : rxP177 S0 ws) : bx_obC rxL X S0 rxC177.2.2.1 (rxI177 S0 ws) (rxm177 S0 ws) 5 rxz177_5 rxo177_5_0 := by
  intro S S_p r r_p hinv hX hin hsm_ hseg
  obtain ⟨I0, I1, h0_, hr_, b_, f_, d_⟩ := bx_cl (evs := []) (fvs := [(5, (17, 0), (13, 0), (16, 0))]) hseg (by decide +kernel) (by decide +kernel)
  have hinv : rxI177_5 S0 ws S (r 8) (r 9) (r 10) (r 11) (r 12) (r 13) (r 14) (r 15) (r 16) := hinv
  rw [← hr_ 8 (by decide), ← hr_ 9 (by decide), ← hr_ 10 (by decide), ← hr_ 11 (by decide), ← hr_ 12 (by decide), ← hr_ 13 (by decide), ← hr_ 14 (by decide), ← hr_ 15 (by decide), ← hr_ 16 (by decide)] at hinv
  obtain ⟨⟨l8, u8⟩, ⟨l9, u9⟩, ⟨l10, u10⟩, ⟨l11, u11⟩, ⟨l12, u12⟩, ⟨l13, u13⟩, ⟨l14, u14⟩, ⟨l15, u15⟩, ⟨l16, u16⟩, ⟨l17, u17⟩, -⟩ := b_
  obtain ⟨f0, -⟩ := f_
  have w_ := d_
  subst w_
  have g := rxc177_5_0 hP hin I0 hinv l8 u8 l9 u9 l10 u10 l11 u11 l12 u12 l13 u13 l14 u14 l15 u15 l16 u16 l17 u17 f0
  refine ⟨bx_narP_ok (l := [(17, 0, 433)]) g.1, bx_nfP_ok h0_ (fvs := []) (by decide +kernel) g.2.1, ?_, ?_⟩
  · show rxI177_6 S0 ws S_p (bx_val [(0, 0), (0, 0), (0, 0), (0, 0), (0, 0), (0, 0), (0, 0), (0, 0), (8, 0), (9, 0), (10, 0), (11, 0), (12, 0), (17, 0)] r_p 8) (bx_val [(0, 0), (0, 0), (0, 0), (0, 0), (0, 0), (0, 0), (0, 0), (0, 0), (8, 0), (9, 0), (10, 0), (11, 0), (12, 0), (17, 0)] r_p 9) (bx_val [(0, 0), (0, 0), (0, 0), (0, 0), (0, 0), (0, 0), (0, 0), (0, 0), (8, 0), (9, 0), (10, 0), (11, 0), (12, 0), (17, 0)] r_p 10) (bx_val [(0, 0), (0, 0), (0, 0), (0, 0), (0, 0), (0, 0), (0, 0), (0, 0), (8, 0), (9, 0), (10, 0), (11, 0), (12, 0), (17, 0)] r_p 11) (bx_val [(0, 0), (0, 0), (0, 0), (0, 0), (0, 0), (0, 0), (0, 0), (0, 0), (8, 0), (9, 0), (10, 0), (11, 0), (12, 0), (17, 0)] r_p 12) (bx_val [(0, 0), (0, 0), (0, 0), (0, 0), (0, 0), (0, 0), (0, 0), (0, 0), (8, 0), (9, 0), (10, 0), (11, 0), (12, 0), (17, 0)] r_p 13)
    rw [bx_val_x (n := 8) (e := (8, 0)) h0_ rfl, bx_val_x (n := 9) (e := (9, 0)) h0_ rfl, bx_val_x (n := 10) (e := (10, 0)) h0_ rfl, bx_val_x (n := 11) (e := (11, 0)) h0_ rfl, bx_val_x (n := 12) (e := (12, 0)) h0_ rfl, bx_val_x (n := 13) (e := (17, 0)) h0_ rfl]
    exact g.2.2.1
  · show rxm177_6 S0 ws S_p (bx_val [(0, 0), (0, 0), (0, 0), (0, 0), (0, 0), (0, 0), (0, 0), (0, 0), (8, 0), (9, 0), (10, 0), (11, 0), (12, 0), (17, 0)] r_p 8) (bx_val [(0, 0), (0, 0), (0, 0), (0, 0), (0, 0), (0, 0), (0, 0), (0, 0), (8, 0), (9, 0), (10, 0), (11, 0), (12, 0), (17, 0)] r_p 9) (bx_val [(0, 0), (0, 0), (0, 0), (0, 0), (0, 0), (0, 0), (0, 0), (0, 0), (8, 0), (9, 0), (10, 0), (11, 0), (12, 0), (17, 0)] r_p 10) (bx_val [(0, 0), (0, 0), (0, 0), (0, 0), (0, 0), (0, 0), (0, 0), (0, 0), (8, 0), (9, 0), (10, 0), (11, 0), (12, 0), (17, 0)] r_p 11) (bx_val [(0, 0), (0, 0), (0, 0), (0, 0), (0, 0), (0, 0), (0, 0), (0, 0), (8, 0), (9, 0), (10, 0), (11, 0), (12, 0), (17, 0)] r_p 12) (bx_val [(0, 0), (0, 0), (0, 0), (0, 0), (0, 0), (0, 0), (0, 0), (0, 0), (8, 0), (9, 0), (10, 0), (11, 0), (12, 0), (17, 0)] r_p 13) < rxm177_5 S0 ws S_p (r 8) (r 9) (r 10) (r 11) (r 12) (r 13) (r 14) (r 15) (r 16)
    rw [bx_val_x (n := 8) (e := (8, 0)) h0_ rfl, bx_val_x (n := 9) (e := (9, 0)) h0_ rfl, bx_val_x (n := 10) (e := (10, 0)) h0_ rfl, bx_val_x (n := 11) (e := (11, 0)) h0_ rfl, bx_val_x (n := 12) (e := (12, 0)) h0_ rfl, bx_val_x (n := 13) (e := (17, 0)) h0_ rfl, ← hr_ 8 (by decide), ← hr_ 9 (by decide), ← hr_ 10 (by decide), ← hr_ 11 (by decide), ← hr_ 12 (by decide), ← hr_ 13 (by decide), ← hr_ 14 (by decide), ← hr_ 15 (by decide), ← hr_ 16 (by decide)]
    exact g.2.2.2
theorem rxd177_6_0 {S0 : Nat → Int → Int} {ws : List Int} {S : Nat → Int → Int} {one other cue what i ix x14 : Int} (hP : rxP177 S0 ws) (hin : bx_same rxL (bx_mdl rxC177.2.2.1) S0 S) (hin2 : bx_same rxL (bx_mdl rxC177.2.2.1) S S) (I0 : bx_Inv rxL S) (I1 : bx_Inv rxL S) (hinv : rxI177_6 S0 ws S one other cue what i ix) (l8 : 0 ≤ one) (u8 : one ≤ 11) (l9 : 0 ≤ other) (u9 : other ≤ 11) (l10 : 0 ≤ cue) (u10 : cue ≤ 5) (l11 : 10 ≤ what) (u11 : what ≤ 99) (l12 : 0 ≤ i) (u12 : i ≤ 89) (l13 : 0 ≤ ix) (u13 : ix ≤ 433) (l14 : 0 ≤ x14) (u14 : x14 ≤ 9) (e0 : S 503 ix = x14) : (True) ∧ rxPS177 S0 ws S (some x14) := by
  exact ⟨trivial, trivial⟩
theorem rxf177_6_0 {X : (Nat → Int → Int) → Prop} {S0 : Nat → Int → Int} {ws : List Int} (hP : rxP177 S0 ws) : bx_obE rxL X S0 rxC177.2.2.1 (rxI177 S0 ws) (rxPS177 S0 ws) 6 rxz177_6 rxe177_6_0 := by
  intro S S_p r r_p hinv hX hin hsm_ hseg
  obtain ⟨I0, I1, h0_, hr_, b_, f_, d_⟩ := bx_cl (evs := [(0, (0, 503), (13, 0), .inr (0, (14, 0)))]) (fvs := []) hseg (by decide +kernel) (by decide +kernel)
  have hinv : rxI177_6 S0 ws S (r 8) (r 9) (r 10) (r 11) (r 12) (r 13) := hinv
  rw [← hr_ 8 (by decide), ← hr_ 9 (by decide), ← hr_ 10 (by decide), ← hr_ 11 (by decide), ← hr_ 12 (by decide), ← hr_ 13 (by decide)] at hinv
  obtain ⟨⟨l8, u8⟩, ⟨l9, u9⟩, ⟨l10, u10⟩, ⟨l11, u11⟩, ⟨l12, u12⟩, ⟨l13, u13⟩, ⟨l14, u14⟩, -⟩ := b_
  obtain ⟨e0, w_⟩ := d_
  subst w_
  have g := rxd177_6_0 hP hin hsm_ I0 I1 hinv l8 u8 l9 u9 l10 u10 l11 u11 l12 u12 l13 u13 l14 u14 e0
  refine ⟨bx_narP_ok (l := []) g.1, ?_⟩
  show rxPS177 S0 ws S_p (some (bx_num r_p (.inr (0, (14, 0)))))
  rw [bx_xv_ok h0_]
  exact g.2
theorem rxgC177 {X : (Nat → Int → Int) → Prop} {S0 : Nat → Int → Int} {ws : List Int} (hP : rxP177 S0 ws) : bx_allI (fun i q => rxU177 q = true ∨ bx_allP (fun o => bx_obC rxL X S0 rxC177.2.2.1 (rxI177 S0 ws) (rxm177 S0 ws) i q.1 o) q.2.1) 0 rxY177 := ⟨Or.inr ⟨rxg177_0_0 hP, rxg177_0_1 hP, trivial⟩, Or.inl rfl, Or.inr ⟨rxg177_2_0 hP, trivial⟩, Or.inr ⟨rxg177_3_0 hP, rxg177_3_1 hP, trivial⟩, Or.inl rfl, Or.inr ⟨rxg177_5_0 hP, trivial⟩, Or.inr trivial, trivial⟩
theorem rxgE177 {X : (Nat → Int → Int) → Prop} {S0 : Nat → Int → Int} {ws : List Int} (hP : rxP177 S0 ws) : bx_allI (fun i q => rxU177 q = true ∨ bx_allP (fun E => bx_obE rxL X S0 rxC177.2.2.1 (rxI177 S0 ws) (rxPS177 S0 ws) i q.1 E) q.2.2) 0 rxY177 := ⟨Or.inr ⟨rxf177_0_0 hP, rxf177_0_1 hP, rxf177_0_2 hP, rxf177_0_3 hP, rxf177_0_4 hP, rxf177_0_5 hP, rxf177_0_6 hP, rxf177_0_7 hP, rxf177_0_8 hP, trivial⟩, Or.inl rfl, Or.inr ⟨rxf177_2_0 hP, rxf177_2_1 hP, rxf177_2_2 hP, trivial⟩, Or.inr ⟨rxf177_3_0 hP, rxf177_3_1 hP, trivial⟩, Or.inl rfl, Or.inr trivial, Or.inr ⟨rxf177_6_0 hP, trivial⟩, trivial⟩
theorem rxu177 {PX : State → Prop} {Dg : va_G} {A : Nat → Prop} {ad xa : Nat → Nat} {l : Launch} {X : (Nat → Int → Int) → Prop} (hPX : rx_PXOK rxNW A PX) (hX : ∀ S S1 : Nat → Int → Int, X S → bx_same rxL (bx_mdl rxC177.2.2.1) S S1 → X S1) (hQ306 : bx_ConP rxG rxNW rxAO PX Dg rxL X vwCl A ad l rxM306 rxC306 rxP306 rxPS306) {S0 : Nat → Int → Int} {ws : List Int} (hP : rxP177 S0 ws) : ∀ (i : Nat) (q : bx_HE), rxY177[i]? = some q → rxU177 q = true → ∀ {p : Program} {e : Env} {R : Room} {s : State} {m : MethodId} {args : Array Value} {below : List Frame} {meth : Method} {c : Code} {Q : State → Prop} {H0 : Heap}, rx_Fr rxG rxNW rxAO PX p s m args meth c rxM177 → (∀ q, H0.size ≤ q → A q) → H0 = s.heap → rxM177.2.2.2.2.2.2.1 ≤ R.cells → rxM177.2.2.2.2.2.2.2 ≤ R.slots → rxC177.2.2.2.1 ≤ R.frames → rxC177.2.2.2.1 * 40 ≤ R.locals → bx_Step p l e R s m args below meth c Q Dg rxL X vwCl A xa H0 ad rxM177 rxY177 (rxI177 S0 ws) (rxm177 S0 ws) S0 rxC177.2.2.1 i q := by
  intro i q hq hus p e R s m args below meth c Q H0 hF hA hH0 hmc hms hd hdl
  match i, hq with
  | 0, hq =>
    cases hq
    exact absurd (show false = true from hus) Bool.false_ne_true
  | 1, hq =>
    cases hq
    exact rx_stepC (ins := .invokevirtual 523) (len := 3) (i_p := 2) (M_p := rxM306) (d := rxC177.2.2.2.1) (as := [.inr (3, (0, 480)), .inr (0, (12, 0)), .inr (0, (13, 0)), .inr (0, (14, 0))]) (t := []) (ct := rxC306) hPX hF rfl hA hH0 hmc hms hd hdl (by decide +kernel) rfl rfl (by decide +kernel) (by decide +kernel) hQ306 (by decide +kernel) rfl (Or.inl ⟨rfl, rfl, rfl⟩) (rxs177_1 hP)
  | 2, hq =>
    cases hq
    exact absurd (show false = true from hus) Bool.false_ne_true
  | 3, hq =>
    cases hq
    exact absurd (show false = true from hus) Bool.false_ne_true
  | 4, hq =>
    cases hq
    exact rx_stepB (i_p := 5) (o := 4) (a := (14, 0)) (b := (15, 0)) (lo := 0) (hi := 431) (t := [.inr (0, (13, 0)), .inr (3, (0, 503))]) hF (Or.inl ⟨rfl, rfl⟩) (by decide +kernel) rfl rfl rfl rfl (rxs177_4 hP)
  | 5, hq =>
    cases hq
    exact absurd (show false = true from hus) Bool.false_ne_true
  | 6, hq =>
    cases hq
    exact absurd (show false = true from hus) Bool.false_ne_true
  | n + 7, hq => cases hq
theorem rxQ177 {PX : State → Prop} {Dg : va_G} {A : Nat → Prop} {ad xa : Nat → Nat} {l : Launch} {X : (Nat → Int → Int) → Prop} (hPX : rx_PXOK rxNW A PX) (hsl : ∀ s : State, PX s → ∀ o idx n : Nat, rxSl o idx = some n → ∃ tx : String, vk_R (rxNm o) idx tx (ad n) s)
    (hX : ∀ S S_p : Nat → Int → Int, X S → bx_same rxL (bx_mdl rxC177.2.2.1) S S_p → X S_p)
    (ih : ∀ (j2 : Nat) (ct2 : bx_Ct) (M2 : rx_Mt), ct2 ∈ rxCnE j2 → ct2.2.2.2.1 + 1 ≤ rxC177.2.2.2.1 → rxT.2.2.2.2.2 j2 = some M2 → bx_Con rxG rxNW rxAO PX Dg rxL X vwCl A ad l M2 ct2) (hQ306 : bx_ConP rxG rxNW rxAO PX Dg rxL X vwCl A ad l rxM306 rxC306 rxP306 rxPS306) : bx_ConP rxG rxNW rxAO PX Dg rxL X vwCl A ad l rxM177 rxC177 rxP177 rxPS177 :=
  rxQof (xa := xa) (Cn := rxCnE) (f := 30000) (j := 177) (tab := rxY177) (us := rxU177) hPX hsl hX ih rfl rxYc177 rxI177 rxm177
    (fun S0 ws r I0 I ht0 ht as he he1 hX0 hI0 hP hs ha => by
      have e := he.symm.trans (show bx_ent0 rxNP rxC177.1 bx_I0 [] = some ([(0, 0), (0, 0), (0, 0), (0, 0), (0, 0), (0, 0), (0, 0), (0, 0), ((-2147483648), 2147483647), ((-2147483648), 2147483647), ((-2147483648), 2147483647), ((-2147483648), 2147483647)], [], [.inr (3, (0, 480)), .inr (0, (8, 0)), .inr (0, (9, 0)), .inr (0, (10, 0)), .inr (0, (11, 0))]) from rfl)
      cases e
      subst ha
      have h0 : r 0 = 0 := hs.1
      show rxI177_0 S0 _ S0 (r 8) (r 9) (r 10) (r 11)
      refine ⟨rfl, ?_⟩
      simp only [List.map_cons, List.map_nil, bx_xv_ok h0]
      rfl)
    (fun S0 ws hP => rxu177 (xa := xa) hPX hX hQ306 hP) (fun S0 ws hP => rxgC177 hP) (fun S0 ws hP => rxgE177 hP)
