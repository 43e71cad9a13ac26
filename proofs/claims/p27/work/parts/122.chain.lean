noncomputable def rxI189_0 (S0 : Nat → Int → Int) (ws : List Int) (S : Nat → Int → Int) (part person what : Int) : Prop := S = S0 ∧ ws = [480, part, person, what]
noncomputable def rxm189_0 (S0 : Nat → Int → Int) (ws : List Int) (S : Nat → Int → Int) (part person what : Int) : Nat := 10000
noncomputable def rxz189_0 : rx_Z := ([(0, 0), (0, 0), (0, 0), (0, 0), (0, 0), (0, 0), (0, 0), (0, 0), ((-2147483648), 2147483647), ((-2147483648), 2147483647), ((-2147483648), 2147483647)], [], [], 0, 0, 0, [(0, .inr (3, (0, 480))), (1, .inr (0, (8, 0))), (2, .inr (0, (9, 0))), (3, .inr (0, (10, 0)))], [])
noncomputable def rxI189_1 (S0 : Nat → Int → Int) (ws : List Int) (S : Nat → Int → Int) (part person what a : Int) : Prop := what < 10 ∨ what = 20
noncomputable def rxm189_1 (S0 : Nat → Int → Int) (ws : List Int) (S : Nat → Int → Int) (part person what a : Int) : Nat := 9000
noncomputable def rxz189_1 : rx_Z := ([(0, 0), (0, 0), (0, 0), (0, 0), (0, 0), (0, 0), (0, 0), (0, 0), (0, 5), (0, 7), (0, 20), (0, 5)], [], [], 0, 0, 43, [(0, .inr (3, (0, 480))), (1, .inr (0, (8, 0))), (2, .inr (0, (9, 0))), (3, .inr (0, (10, 0)))], [.inr (0, (11, 0)), .inr (3, (0, 480))])
noncomputable def rxI189_2 (S0 : Nat → Int → Int) (ws : List Int) (S : Nat → Int → Int) (part person what a : Int) : Prop := what < 10 ∨ what = 20
noncomputable def rxm189_2 (S0 : Nat → Int → Int) (ws : List Int) (S : Nat → Int → Int) (part person what a : Int) : Nat := 8900
noncomputable def rxz189_2 : rx_Z := ([(0, 0), (0, 0), (0, 0), (0, 0), (0, 0), (0, 0), (0, 0), (0, 0), (0, 5), (0, 7), (0, 20), (0, 5)], [], [], 0, 0, 46, [(0, .inr (3, (0, 480))), (1, .inr (0, (8, 0))), (2, .inr (0, (9, 0))), (3, .inr (0, (10, 0)))], [])
noncomputable def rxI189_3 (S0 : Nat → Int → Int) (ws : List Int) (S : Nat → Int → Int) (part person what a : Int) : Prop := what < 10 ∨ what = 20
noncomputable def rxm189_3 (S0 : Nat → Int → Int) (ws : List Int) (S : Nat → Int → Int) (part person what a : Int) : Nat := 8800
noncomputable def rxz189_3 : rx_Z := ([(0, 0), (0, 0), (0, 0), (0, 0), (0, 0), (0, 0), (0, 0), (0, 0), (0, 5), (0, 7), (0, 20), (0, 7)], [], [], 0, 0, 49, [(0, .inr (3, (0, 480))), (1, .inr (0, (8, 0))), (2, .inr (0, (9, 0))), (3, .inr (0, (10, 0)))], [.inr (0, (0, (-1))), .inr (0, (11, 0)), .inr (3, (0, 480))])
noncomputable def rxI189_4 (S0 : Nat → Int → Int) (ws : List Int) (S : Nat → Int → Int) (part person what a : Int) : Prop := (what < 10 ∨ what = 20) ∧ 1 ≤ S 480 54 ∧ rx_rk (S 507) 8 8 ∧ (∀ i : Int, 0 ≤ i → i < S 480 54 → S 507 (S 506 i) ≠ -1)
noncomputable def rxm189_4 (S0 : Nat → Int → Int) (ws : List Int) (S : Nat → Int → Int) (part person what a : Int) : Nat := 8700
noncomputable def rxz189_4 : rx_Z := ([(0, 0), (0, 0), (0, 0), (0, 0), (0, 0), (0, 0), (0, 0), (0, 0), (0, 5), (0, 7), (0, 20), (0, 7)], [], [], 0, 0, 52, [(0, .inr (3, (0, 480))), (1, .inr (0, (8, 0))), (2, .inr (0, (9, 0))), (3, .inr (0, (10, 0)))], [])
noncomputable def rxI189_5 (S0 : Nat → Int → Int) (ws : List Int) (S : Nat → Int → Int) (part person what : Int) : Prop := (what < 10 ∨ what = 20) ∧ 1 ≤ S 480 54 ∧ rx_rk (S 507) 8 8 ∧ (∀ i : Int, 0 ≤ i → i < S 480 54 → S 507 (S 506 i) ≠ -1)
noncomputable def rxm189_5 (S0 : Nat → Int → Int) (ws : List Int) (S : Nat → Int → Int) (part person what : Int) : Nat := 8600
noncomputable def rxz189_5 : rx_Z := ([(0, 0), (0, 0), (0, 0), (0, 0), (0, 0), (0, 0), (0, 0), (0, 0), (0, 5), (0, 7), (0, 20)], [], [], 0, 0, 53, [(0, .inr (3, (0, 480))), (1, .inr (0, (8, 0))), (2, .inr (0, (9, 0))), (3, .inr (0, (10, 0)))], [.inr (3, (0, 480))])
noncomputable def rxI189_6 (S0 : Nat → Int → Int) (ws : List Int) (S : Nat → Int → Int) (part person what last : Int) : Prop := (what < 10 ∨ what = 20) ∧ S 507 last ≠ -1 ∧ rx_rk (S 507) 8 8
noncomputable def rxm189_6 (S0 : Nat → Int → Int) (ws : List Int) (S : Nat → Int → Int) (part person what last : Int) : Nat := 8500
noncomputable def rxz189_6 : rx_Z := ([(0, 0), (0, 0), (0, 0), (0, 0), (0, 0), (0, 0), (0, 0), (0, 0), (0, 5), (0, 7), (0, 20), (0, 7)], [], [], 0, 0, 56, [(0, .inr (3, (0, 480))), (1, .inr (0, (8, 0))), (2, .inr (0, (9, 0))), (3, .inr (0, (10, 0)))], [.inr (0, (11, 0))])
noncomputable def rxI189_7 (S0 : Nat → Int → Int) (ws : List Int) (S : Nat → Int → Int) (part person what last a : Int) : Prop := a = last ∧ (what < 10 ∨ what = 20) ∧ S 507 last ≠ -1 ∧ rx_rk (S 507) 8 8
noncomputable def rxm189_7 (S0 : Nat → Int → Int) (ws : List Int) (S : Nat → Int → Int) (part person what last a : Int) : Nat := 8400
noncomputable def rxz189_7 : rx_Z := ([(0, 0), (0, 0), (0, 0), (0, 0), (0, 0), (0, 0), (0, 0), (0, 0), (0, 5), (0, 7), (0, 20), (0, 7), (0, 7)], [], [], 0, 0, 61, [(0, .inr (3, (0, 480))), (1, .inr (0, (8, 0))), (2, .inr (0, (9, 0))), (3, .inr (0, (10, 0))), (4, .inr (0, (11, 0)))], [.inr (0, (12, 0)), .inr (3, (0, 480))])
noncomputable def rxI189_8 (S0 : Nat → Int → Int) (ws : List Int) (S : Nat → Int → Int) (part person what last a n : Int) : Prop := (what < 10 ∨ what = 20) ∧ S 507 last ≠ -1 ∧ rx_rk (S 507) 8 8
noncomputable def rxm189_8 (S0 : Nat → Int → Int) (ws : List Int) (S : Nat → Int → Int) (part person what last a n : Int) : Nat := 8300
noncomputable def rxz189_8 : rx_Z := ([(0, 0), (0, 0), (0, 0), (0, 0), (0, 0), (0, 0), (0, 0), (0, 0), (0, 5), (0, 7), (0, 20), (0, 7), (0, 7), (1, 8)], [], [], 0, 0, 64, [(0, .inr (3, (0, 480))), (1, .inr (0, (8, 0))), (2, .inr (0, (9, 0))), (3, .inr (0, (10, 0))), (4, .inr (0, (11, 0)))], [.inr (0, (13, 0))])
noncomputable def rxI189_9 (S0 : Nat → Int → Int) (ws : List Int) (S : Nat → Int → Int) (part person what last n at_ k : Int) : Prop := S 507 at_ ≠ -1 ∧ rx_rk (S 507) 8 8 ∧ k ≤ 7
noncomputable def rxm189_9 (S0 : Nat → Int → Int) (ws : List Int) (S : Nat → Int → Int) (part person what last n at_ k : Int) : Nat := 8000 + k.toNat
noncomputable def rxz189_9 : rx_Z := ([(0, 0), (0, 0), (0, 0), (0, 0), (0, 0), (0, 0), (0, 0), (0, 0), (0, 5), (0, 7), (2, 9), (0, 7), (1, 8), (0, 7), (0, 7)], [], [], 0, 0, 105, [(0, .inr (3, (0, 480))), (1, .inr (0, (8, 0))), (2, .inr (0, (9, 0))), (3, .inr (0, (10, 0))), (4, .inr (0, (11, 0))), (5, .inr (0, (12, 0))), (6, .inr (0, (13, 0))), (7, .inr (0, (14, 0)))], [])
noncomputable def rxI189_10 (S0 : Nat → Int → Int) (ws : List Int) (S : Nat → Int → Int) (part person what last nd p : Int) : Prop := True
noncomputable def rxm189_10 (S0 : Nat → Int → Int) (ws : List Int) (S : Nat → Int → Int) (part person what last nd p : Int) : Nat := 100 * (20 - p).toNat + 99
noncomputable def rxz189_10 : rx_Z := ([(0, 0), (0, 0), (0, 0), (0, 0), (0, 0), (0, 0), (0, 0), (0, 0), (0, 5), (0, 7), (0, 20), (0, 7), (0, 255), (0, 8)], [], [], 0, 0, 149, [(0, .inr (3, (0, 480))), (1, .inr (0, (8, 0))), (2, .inr (0, (9, 0))), (3, .inr (0, (10, 0))), (4, .inr (0, (11, 0))), (6, .inr (0, (12, 0))), (7, .inr (0, (13, 0)))], [])
noncomputable def rxI189_11 (S0 : Nat → Int → Int) (ws : List Int) (S : Nat → Int → Int) (part person what last nd p a b : Int) : Prop := True
noncomputable def rxm189_11 (S0 : Nat → Int → Int) (ws : List Int) (S : Nat → Int → Int) (part person what last nd p a b : Int) : Nat := 100 * (20 - p).toNat + 98
noncomputable def rxz189_11 : rx_Z := ([(0, 0), (0, 0), (0, 0), (0, 0), (0, 0), (0, 0), (0, 0), (0, 0), (0, 5), (0, 7), (0, 20), (0, 7), (0, 255), (0, 7), (0, 7), (0, 7)], [], [], 0, 0, 164, [(0, .inr (3, (0, 480))), (1, .inr (0, (8, 0))), (2, .inr (0, (9, 0))), (3, .inr (0, (10, 0))), (4, .inr (0, (11, 0))), (6, .inr (0, (12, 0))), (7, .inr (0, (13, 0)))], [.inr (0, (15, 0)), .inr (0, (14, 0)), .inr (3, (0, 480))])
noncomputable def rxI189_12 (S0 : Nat → Int → Int) (ws : List Int) (S : Nat → Int → Int) (part person what last nd p a b : Int) : Prop := 1 ≤ S 480 54 ∧ rx_rk (S 507) 8 8 ∧ (∀ i : Int, 0 ≤ i → i < S 480 54 → S 507 (S 506 i) ≠ -1)
noncomputable def rxm189_12 (S0 : Nat → Int → Int) (ws : List Int) (S : Nat → Int → Int) (part person what last nd p a b : Int) : Nat := 100 * (20 - p).toNat + 97
noncomputable def rxz189_12 : rx_Z := ([(0, 0), (0, 0), (0, 0), (0, 0), (0, 0), (0, 0), (0, 0), (0, 0), (0, 5), (0, 7), (0, 20), (0, 7), (0, 255), (0, 7), (0, 7), (0, 7)], [], [], 0, 0, 167, [(0, .inr (3, (0, 480))), (1, .inr (0, (8, 0))), (2, .inr (0, (9, 0))), (3, .inr (0, (10, 0))), (4, .inr (0, (11, 0))), (6, .inr (0, (12, 0))), (7, .inr (0, (13, 0)))], [])
noncomputable def rxI189_13 (S0 : Nat → Int → Int) (ws : List Int) (S : Nat → Int → Int) (part person what last nd p nd2 : Int) : Prop := 1 ≤ S 480 54 ∧ rx_rk (S 507) 8 8 ∧ (∀ i : Int, 0 ≤ i → i < S 480 54 → S 507 (S 506 i) ≠ -1)
noncomputable def rxm189_13 (S0 : Nat → Int → Int) (ws : List Int) (S : Nat → Int → Int) (part person what last nd p nd2 : Int) : Nat := 100 * (20 - p).toNat + 96
noncomputable def rxz189_13 : rx_Z := ([(0, 0), (0, 0), (0, 0), (0, 0), (0, 0), (0, 0), (0, 0), (0, 0), (0, 5), (0, 7), (0, 20), (0, 7), (0, 255), (0, 7), (0, 255)], [], [], 0, 0, 177, [(0, .inr (3, (0, 480))), (1, .inr (0, (8, 0))), (2, .inr (0, (9, 0))), (3, .inr (0, (10, 0))), (4, .inr (0, (11, 0))), (6, .inr (0, (12, 0))), (7, .inr (0, (13, 0)))], [.inr (3, (0, 480)), .inr (3, (0, 480)), .inr (0, (14, 0))])
noncomputable def rxI189_14 (S0 : Nat → Int → Int) (ws : List Int) (S : Nat → Int → Int) (part person what last nd p nd2 la2 : Int) : Prop := True
noncomputable def rxm189_14 (S0 : Nat → Int → Int) (ws : List Int) (S : Nat → Int → Int) (part person what last nd p nd2 la2 : Int) : Nat := 100 * (20 - p).toNat + 95
noncomputable def rxz189_14 : rx_Z := ([(0, 0), (0, 0), (0, 0), (0, 0), (0, 0), (0, 0), (0, 0), (0, 0), (0, 5), (0, 7), (0, 20), (0, 7), (0, 255), (0, 7), (0, 255), (0, 7)], [], [], 0, 0, 180, [(0, .inr (3, (0, 480))), (1, .inr (0, (8, 0))), (2, .inr (0, (9, 0))), (3, .inr (0, (10, 0))), (4, .inr (0, (11, 0))), (6, .inr (0, (12, 0))), (7, .inr (0, (13, 0)))], [.inr (0, (15, 0)), .inr (3, (0, 480)), .inr (0, (14, 0))])
noncomputable def rxo189_0_0 : bx_HO := (([(0, 0), (0, 0), (0, 0), (0, 0), (0, 0), (0, 0), (0, 0), (0, 0), (0, 5), (0, 7), (20, 20), (1, 6), (1, 8)], [(1, (9, 0), (12, (-1))), (1, (8, 0), (11, (-1)))], [(((0, 0), 1851192626986356797625047037163794926384839479479878431391481856000000), .inr (0, (12, 0))), (((0, 482), 1), .inr (0, (12, 0))), (((0, 0), 1851192626986356797424340330377019318111018015026043177837658112000000), .inr (0, (11, 0))), (((0, 482), 0), .inr (0, (11, 0))), (((0, 480), 3), .inr (3, (0, 482))), (((0, 0), 1851192626986356797424340330377019318111018015026043177836478467000000), .inr (0, (0, 0))), (((0, 480), 0), .inr (0, (0, 0)))], 0, 0, 43, [(0, .inr (3, (0, 480))), (1, .inr (0, (8, 0))), (2, .inr (0, (9, 0))), (3, .inr (0, (10, 0)))], [.inr (0, (8, 0)), .inr (3, (0, 480))]), [], [], [(0, 0), (0, 0), (0, 0), (0, 0), (0, 0), (0, 0), (0, 0), (0, 0), (8, 0), (9, 0), (10, 0), (8, 0)], 1)
noncomputable def rxo189_0_1 : bx_HO := (([(0, 0), (0, 0), (0, 0), (0, 0), (0, 0), (0, 0), (0, 0), (0, 0), (0, 5), (0, 7), (0, 9), (1, 6), (1, 8)], [(1, (9, 0), (12, (-1))), (1, (8, 0), (11, (-1)))], [(((0, 0), 1851192626986356797625047037163794926384839479479878431391481856000000), .inr (0, (12, 0))), (((0, 482), 1), .inr (0, (12, 0))), (((0, 0), 1851192626986356797424340330377019318111018015026043177837658112000000), .inr (0, (11, 0))), (((0, 482), 0), .inr (0, (11, 0))), (((0, 480), 3), .inr (3, (0, 482))), (((0, 0), 1851192626986356797424340330377019318111018015026043177836478467000000), .inr (0, (0, 0))), (((0, 480), 0), .inr (0, (0, 0)))], 0, 0, 43, [(0, .inr (3, (0, 480))), (1, .inr (0, (8, 0))), (2, .inr (0, (9, 0))), (3, .inr (0, (10, 0)))], [.inr (0, (8, 0)), .inr (3, (0, 480))]), [], [], [(0, 0), (0, 0), (0, 0), (0, 0), (0, 0), (0, 0), (0, 0), (0, 0), (8, 0), (9, 0), (10, 0), (8, 0)], 1)
noncomputable def rxe189_0_0 : rx_End × List (Nat × Int × Int) := (([(0, 0), (0, 0), (0, 0), (0, 0), (0, 0), (0, 0), (0, 0), (0, 0), (0, 5), (0, 7), ((-2147483648), (-1)), (1, 6), (1, 8)], [(3, (10, 0), (0, 20)), (1, (9, 0), (12, (-1))), (1, (8, 0), (11, (-1)))], [(((0, 0), 1851192626986356797625047037163794926384839479479878431391481856000000), .inr (0, (12, 0))), (((0, 482), 1), .inr (0, (12, 0))), (((0, 0), 1851192626986356797424340330377019318111018015026043177837658112000000), .inr (0, (11, 0))), (((0, 482), 0), .inr (0, (11, 0))), (((0, 480), 3), .inr (3, (0, 482))), (((0, 0), 1851192626986356797424340330377019318111018015026043177836478467000000), .inr (0, (0, 0))), (((0, 480), 0), .inr (0, (0, 0)))], some (.inr (0, (0, (-1))))), [])
noncomputable def rxe189_0_1 : rx_End × List (Nat × Int × Int) := (([(0, 0), (0, 0), (0, 0), (0, 0), (0, 0), (0, 0), (0, 0), (0, 0), (0, 5), (0, 7), (10, 2147483647), (1, 6), (1, 8)], [(3, (10, 0), (0, 20)), (1, (9, 0), (12, (-1))), (1, (8, 0), (11, (-1)))], [(((0, 0), 1851192626986356797625047037163794926384839479479878431391481856000000), .inr (0, (12, 0))), (((0, 482), 1), .inr (0, (12, 0))), (((0, 0), 1851192626986356797424340330377019318111018015026043177837658112000000), .inr (0, (11, 0))), (((0, 482), 0), .inr (0, (11, 0))), (((0, 480), 3), .inr (3, (0, 482))), (((0, 0), 1851192626986356797424340330377019318111018015026043177836478467000000), .inr (0, (0, 0))), (((0, 480), 0), .inr (0, (0, 0)))], some (.inr (0, (0, (-1))))), [])
noncomputable def rxe189_0_2 : rx_End × List (Nat × Int × Int) := (([(0, 0), (0, 0), (0, 0), (0, 0), (0, 0), (0, 0), (0, 0), (0, 0), (0, 5), (0, 2147483647), ((-2147483648), 2147483647), (1, 6), (0, 8)], [(0, (12, (-1)), (9, 0)), (1, (8, 0), (11, (-1)))], [(((0, 0), 1851192626986356797625047037163794926384839479479878431391481856000000), .inr (0, (12, 0))), (((0, 482), 1), .inr (0, (12, 0))), (((0, 0), 1851192626986356797424340330377019318111018015026043177837658112000000), .inr (0, (11, 0))), (((0, 482), 0), .inr (0, (11, 0))), (((0, 480), 3), .inr (3, (0, 482))), (((0, 0), 1851192626986356797424340330377019318111018015026043177836478467000000), .inr (0, (0, 0))), (((0, 480), 0), .inr (0, (0, 0)))], some (.inr (0, (0, (-1))))), [])
noncomputable def rxe189_0_3 : rx_End × List (Nat × Int × Int) := (([(0, 0), (0, 0), (0, 0), (0, 0), (0, 0), (0, 0), (0, 0), (0, 0), (0, 5), ((-2147483648), (-1)), ((-2147483648), 2147483647), (1, 6), (0, 8)], [(1, (8, 0), (11, (-1)))], [(((0, 0), 1851192626986356797625047037163794926384839479479878431391481856000000), .inr (0, (12, 0))), (((0, 482), 1), .inr (0, (12, 0))), (((0, 0), 1851192626986356797424340330377019318111018015026043177837658112000000), .inr (0, (11, 0))), (((0, 482), 0), .inr (0, (11, 0))), (((0, 480), 3), .inr (3, (0, 482))), (((0, 0), 1851192626986356797424340330377019318111018015026043177836478467000000), .inr (0, (0, 0))), (((0, 480), 0), .inr (0, (0, 0)))], some (.inr (0, (0, (-1))))), [])
noncomputable def rxe189_0_4 : rx_End × List (Nat × Int × Int) := (([(0, 0), (0, 0), (0, 0), (0, 0), (0, 0), (0, 0), (0, 0), (0, 0), (0, 2147483647), ((-2147483648), 2147483647), ((-2147483648), 2147483647), (0, 6)], [(0, (11, (-1)), (8, 0))], [(((0, 0), 1851192626986356797424340330377019318111018015026043177837658112000000), .inr (0, (11, 0))), (((0, 482), 0), .inr (0, (11, 0))), (((0, 480), 3), .inr (3, (0, 482))), (((0, 0), 1851192626986356797424340330377019318111018015026043177836478467000000), .inr (0, (0, 0))), (((0, 480), 0), .inr (0, (0, 0)))], some (.inr (0, (0, (-1))))), [])
noncomputable def rxe189_0_5 : rx_End × List (Nat × Int × Int) := (([(0, 0), (0, 0), (0, 0), (0, 0), (0, 0), (0, 0), (0, 0), (0, 0), ((-2147483648), (-1)), ((-2147483648), 2147483647), ((-2147483648), 2147483647), (0, 6)], [], [(((0, 0), 1851192626986356797424340330377019318111018015026043177837658112000000), .inr (0, (11, 0))), (((0, 482), 0), .inr (0, (11, 0))), (((0, 480), 3), .inr (3, (0, 482))), (((0, 0), 1851192626986356797424340330377019318111018015026043177836478467000000), .inr (0, (0, 0))), (((0, 480), 0), .inr (0, (0, 0)))], some (.inr (0, (0, (-1))))), [])
noncomputable def rxo189_2_0 : bx_HO := (([(0, 0), (0, 0), (0, 0), (0, 0), (0, 0), (0, 0), (0, 0), (0, 0), (0, 5), (0, 7), (0, 20), (0, 5)], [], [], 0, 0, 49, [(0, .inr (3, (0, 480))), (1, .inr (0, (8, 0))), (2, .inr (0, (9, 0))), (3, .inr (0, (10, 0)))], [.inr (0, (0, (-1))), .inr (0, (9, 0)), .inr (3, (0, 480))]), [], [], [(0, 0), (0, 0), (0, 0), (0, 0), (0, 0), (0, 0), (0, 0), (0, 0), (8, 0), (9, 0), (10, 0), (9, 0)], 3)
noncomputable def rxo189_4_0 : bx_HO := (([(0, 0), (0, 0), (0, 0), (0, 0), (0, 0), (0, 0), (0, 0), (0, 0), (0, 5), (0, 7), (0, 20), (0, 7)], [], [], 0, 0, 53, [(0, .inr (3, (0, 480))), (1, .inr (0, (8, 0))), (2, .inr (0, (9, 0))), (3, .inr (0, (10, 0)))], [.inr (3, (0, 480))]), [], [], [(0, 0), (0, 0), (0, 0), (0, 0), (0, 0), (0, 0), (0, 0), (0, 0), (8, 0), (9, 0), (10, 0)], 5)
noncomputable def rxo189_6_0 : bx_HO := (([(0, 0), (0, 0), (0, 0), (0, 0), (0, 0), (0, 0), (0, 0), (0, 0), (0, 5), (0, 7), (0, 20), (0, 7)], [], [], 0, 0, 61, [(4, .inr (0, (11, 0))), (0, .inr (3, (0, 480))), (1, .inr (0, (8, 0))), (2, .inr (0, (9, 0))), (3, .inr (0, (10, 0)))], [.inr (0, (11, 0)), .inr (3, (0, 480))]), [], [], [(0, 0), (0, 0), (0, 0), (0, 0), (0, 0), (0, 0), (0, 0), (0, 0), (8, 0), (9, 0), (10, 0), (11, 0), (11, 0)], 7)
noncomputable def rxo189_8_0 : bx_HO := (([(0, 0), (0, 0), (0, 0), (0, 0), (0, 0), (0, 0), (0, 0), (0, 0), (0, 5), (0, 7), (2, 19), (0, 7), (0, 7), (1, 8)], [], [], 0, 0, 105, [(7, .inr (0, (13, (-1)))), (6, .inr (0, (11, 0))), (5, .inr (0, (13, 0))), (0, .inr (3, (0, 480))), (1, .inr (0, (8, 0))), (2, .inr (0, (9, 0))), (3, .inr (0, (10, 0))), (4, .inr (0, (11, 0)))], []), [(10, 2, 9)], [], [(0, 0), (0, 0), (0, 0), (0, 0), (0, 0), (0, 0), (0, 0), (0, 0), (8, 0), (9, 0), (10, 0), (11, 0), (13, 0), (11, 0), (13, (-1))], 9)
noncomputable def rxo189_8_1 : bx_HO := (([(0, 0), (0, 0), (0, 0), (0, 0), (0, 0), (0, 0), (0, 0), (0, 0), (0, 5), (0, 7), (20, 20), (0, 7), (0, 7), (1, 8)], [], [], 0, 0, 149, [(7, .inr (0, (0, 0))), (6, .inr (0, (0, 0))), (5, .inr (0, (13, 0))), (0, .inr (3, (0, 480))), (1, .inr (0, (8, 0))), (2, .inr (0, (9, 0))), (3, .inr (0, (10, 0))), (4, .inr (0, (11, 0)))], []), [], [], [(0, 0), (0, 0), (0, 0), (0, 0), (0, 0), (0, 0), (0, 0), (0, 0), (8, 0), (9, 0), (10, 0), (11, 0), (0, 0), (0, 0)], 10)
noncomputable def rxe189_8_0 : rx_End × List (Nat × Int × Int) := (([(0, 0), (0, 0), (0, 0), (0, 0), (0, 0), (0, 0), (0, 0), (0, 0), (0, 5), (0, 7), (0, 0), (0, 7), (0, 7), (1, 8), (0, 21), (0, 300)], [(7, (14, 0), (11, 0))], [(((0, 0), 1851192626986356845393286127994621733800744404693205179996176384000000), .inr (0, (15, 0))), (((0, 480), 3), .inr (3, (0, 482)))], some (.inr (0, (15, (-1))))), [])
noncomputable def rxe189_8_1 : rx_End × List (Nat × Int × Int) := (([(0, 0), (0, 0), (0, 0), (0, 0), (0, 0), (0, 0), (0, 0), (0, 0), (0, 5), (0, 7), (1, 1), (0, 7), (0, 7), (1, 8)], [(3, (10, 0), (0, 0))], [], some (.inr (0, (13, 0)))), [])
noncomputable def rxo189_9_0 : bx_HO := (([(0, 0), (0, 0), (0, 0), (0, 0), (0, 0), (0, 0), (0, 0), (0, 0), (0, 5), (0, 7), (2, 8), (0, 7), (1, 8), (0, 7), (1, 7), ((-1), 7)], [(0, (10, (-2)), (14, 0))], [(((0, 0), 1851192626986356797424380143413949067911243229855112694733144064000000), .inr (0, (15, 0))), (((0, 480), 53), .inr (3, (0, 507)))], 0, 0, 105, [(7, .inr (0, (14, (-1)))), (6, .inr (0, (15, 0))), (0, .inr (3, (0, 480))), (1, .inr (0, (8, 0))), (2, .inr (0, (9, 0))), (3, .inr (0, (10, 0))), (4, .inr (0, (11, 0))), (5, .inr (0, (12, 0)))], []), [(15, 0, 7)], [], [(0, 0), (0, 0), (0, 0), (0, 0), (0, 0), (0, 0), (0, 0), (0, 0), (8, 0), (9, 0), (10, 0), (11, 0), (12, 0), (15, 0), (14, (-1))], 9)
noncomputable def rxe189_9_0 : rx_End × List (Nat × Int × Int) := (([(0, 0), (0, 0), (0, 0), (0, 0), (0, 0), (0, 0), (0, 0), (0, 0), (0, 5), (0, 7), (2, 9), (0, 7), (1, 8), (0, 7), (0, 7)], [(0, (10, (-2)), (12, 0)), (1, (14, 0), (10, (-2)))], [], some (.inr (0, (13, 0)))), [])
noncomputable def rxe189_9_1 : rx_End × List (Nat × Int × Int) := (([(0, 0), (0, 0), (0, 0), (0, 0), (0, 0), (0, 0), (0, 0), (0, 0), (0, 5), (0, 7), (3, 9), (0, 7), (1, 7), (0, 7), (0, 7)], [(1, (12, 0), (10, (-2))), (1, (14, 0), (10, (-2)))], [], some (.inr (0, (0, (-1))))), [])
noncomputable def rxo189_10_0 : bx_HO := (([(0, 0), (0, 0), (0, 0), (0, 0), (0, 0), (0, 0), (0, 0), (0, 0), (0, 5), (0, 7), (0, 20), (0, 7), (0, 255), (0, 7), (1, 8)], [(0, (13, 0), (14, 0))], [(((0, 0), 1851192626986356797625047037163794926384839479479878431391481856000000), .inr (0, (14, 0))), (((0, 482), 1), .inr (0, (14, 0))), (((0, 480), 3), .inr (3, (0, 482)))], 0, 0, 164, [(0, .inr (3, (0, 480))), (1, .inr (0, (8, 0))), (2, .inr (0, (9, 0))), (3, .inr (0, (10, 0))), (4, .inr (0, (11, 0))), (6, .inr (0, (12, 0))), (7, .inr (0, (13, 0)))], [.inr (0, (13, 0)), .inr (0, (9, 0)), .inr (3, (0, 480))]), [], [], [(0, 0), (0, 0), (0, 0), (0, 0), (0, 0), (0, 0), (0, 0), (0, 0), (8, 0), (9, 0), (10, 0), (11, 0), (12, 0), (13, 0), (9, 0), (13, 0)], 11)
noncomputable def rxe189_10_0 : rx_End × List (Nat × Int × Int) := (([(0, 0), (0, 0), (0, 0), (0, 0), (0, 0), (0, 0), (0, 0), (0, 0), (0, 5), (0, 7), (0, 20), (0, 7), (0, 255), (0, 8), (0, 8)], [(1, (14, 0), (13, 0))], [(((0, 0), 1851192626986356797625047037163794926384839479479878431391481856000000), .inr (0, (14, 0))), (((0, 482), 1), .inr (0, (14, 0))), (((0, 480), 3), .inr (3, (0, 482)))], some (.inr (0, (12, 0)))), [])
noncomputable def rxo189_12_0 : bx_HO := (([(0, 0), (0, 0), (0, 0), (0, 0), (0, 0), (0, 0), (0, 0), (0, 0), (0, 5), (0, 7), (0, 20), (0, 7), (0, 255), (0, 7), (0, 7), (0, 7)], [(3, (13, 0), (9, 0))], [], 0, 0, 177, [(0, .inr (3, (0, 480))), (1, .inr (0, (8, 0))), (2, .inr (0, (9, 0))), (3, .inr (0, (10, 0))), (4, .inr (0, (11, 0))), (6, .inr (0, (12, 0))), (7, .inr (0, (13, 0)))], [.inr (3, (0, 480)), .inr (3, (0, 480)), .inr (0, (12, 0))]), [], [], [(0, 0), (0, 0), (0, 0), (0, 0), (0, 0), (0, 0), (0, 0), (0, 0), (8, 0), (9, 0), (10, 0), (11, 0), (12, 0), (13, 0), (12, 0)], 13)
noncomputable def rxo189_12_1 : bx_HO := (([(0, 0), (0, 0), (0, 0), (0, 0), (0, 0), (0, 0), (0, 0), (0, 0), (0, 5), (0, 7), (0, 20), (0, 7), (0, 255), (0, 7), (0, 7), (0, 7), (0, 255)], [(2, (13, 0), (9, 0))], [], 0, 0, 149, [(7, .inr (0, (13, 1))), (6, .inr (0, (16, 0))), (0, .inr (3, (0, 480))), (1, .inr (0, (8, 0))), (2, .inr (0, (9, 0))), (3, .inr (0, (10, 0))), (4, .inr (0, (11, 0)))], []), [], [], [(0, 0), (0, 0), (0, 0), (0, 0), (0, 0), (0, 0), (0, 0), (0, 0), (8, 0), (9, 0), (10, 0), (11, 0), (16, 0), (13, 1)], 10)
noncomputable def rxo189_14_0 : bx_HO := (([(0, 0), (0, 0), (0, 0), (0, 0), (0, 0), (0, 0), (0, 0), (0, 0), (0, 5), (0, 7), (0, 20), (0, 7), (0, 255), (0, 7), (0, 255), (0, 7), (0, 21), (0, 300), (0, 21), (0, 300), (1, 128), (0, 255)], [(2, (17, 0), (19, 0)), (7, (18, 0), (11, 0)), (7, (16, 0), (15, 0))], [(((0, 0), 1851192626986356845393298378159830887585429086179072723651788800000000), .inr (0, (19, 0))), (((0, 0), 1851192626986356845393292253077226310693086745436138951823982592000000), .inr (0, (17, 0))), (((0, 480), 3), .inr (3, (0, 482)))], 0, 0, 149, [(7, .inr (0, (13, 1))), (6, .inr (0, (21, 0))), (0, .inr (3, (0, 480))), (1, .inr (0, (8, 0))), (2, .inr (0, (9, 0))), (3, .inr (0, (10, 0))), (4, .inr (0, (11, 0)))], []), [], [], [(0, 0), (0, 0), (0, 0), (0, 0), (0, 0), (0, 0), (0, 0), (0, 0), (8, 0), (9, 0), (10, 0), (11, 0), (21, 0), (13, 1)], 10)
noncomputable def rxo189_14_1 : bx_HO := (([(0, 0), (0, 0), (0, 0), (0, 0), (0, 0), (0, 0), (0, 0), (0, 0), (0, 5), (0, 7), (0, 20), (0, 7), (0, 255), (0, 7), (0, 255), (0, 7), (0, 21), (0, 300), (0, 21), (0, 300), (0, 255)], [(3, (17, 0), (19, 0)), (7, (18, 0), (11, 0)), (7, (16, 0), (15, 0))], [(((0, 0), 1851192626986356845393298378159830887585429086179072723651788800000000), .inr (0, (19, 0))), (((0, 0), 1851192626986356845393292253077226310693086745436138951823982592000000), .inr (0, (17, 0))), (((0, 480), 3), .inr (3, (0, 482)))], 0, 0, 149, [(7, .inr (0, (13, 1))), (6, .inr (0, (20, 0))), (0, .inr (3, (0, 480))), (1, .inr (0, (8, 0))), (2, .inr (0, (9, 0))), (3, .inr (0, (10, 0))), (4, .inr (0, (11, 0)))], []), [], [], [(0, 0), (0, 0), (0, 0), (0, 0), (0, 0), (0, 0), (0, 0), (0, 0), (8, 0), (9, 0), (10, 0), (11, 0), (20, 0), (13, 1)], 10)
noncomputable def rxY189 : List bx_HE := [(rxz189_0, [rxo189_0_0, rxo189_0_1], [rxe189_0_0, rxe189_0_1, rxe189_0_2, rxe189_0_3, rxe189_0_4, rxe189_0_5]), (rxz189_1, [], []), (rxz189_2, [rxo189_2_0], []), (rxz189_3, [], []), (rxz189_4, [rxo189_4_0], []), (rxz189_5, [], []), (rxz189_6, [rxo189_6_0], []), (rxz189_7, [], []), (rxz189_8, [rxo189_8_0, rxo189_8_1], [rxe189_8_0, rxe189_8_1]), (rxz189_9, [rxo189_9_0], [rxe189_9_0, rxe189_9_1]), (rxz189_10, [rxo189_10_0], [rxe189_10_0]), (rxz189_11, [], []), (rxz189_12, [rxo189_12_0, rxo189_12_1], []), (rxz189_13, [], []), (rxz189_14, [rxo189_14_0, rxo189_14_1], [])]
noncomputable def rxU189 (q : bx_HE) : Bool := Nat.beq (rx_zpc q.1) 43 || Nat.beq (rx_zpc q.1) 49 || Nat.beq (rx_zpc q.1) 53 || Nat.beq (rx_zpc q.1) 61 || Nat.beq (rx_zpc q.1) 164 || Nat.beq (rx_zpc q.1) 177
noncomputable def rxYB189 : bx_B := (rxV, rxNP, rxDmf, bx_mdH rxC189.2.2.1)
set_option maxRecDepth 100000 in
theorem rxYc189 : bx_chkH rxYB189 rxM189 rxC189 rxY189 (rxU189, fun cut z => rx_ex2 (rxCT rxYB189 rxCnE) cut 30000 rxC189.2.2.2.1 189 z) = true := by decide +kernel
noncomputable def rxI189 (S0 : Nat → Int → Int) (ws : List Int) (i : Nat) : bx_SP := fun S r => match i with | 0 => rxI189_0 S0 ws S (r 8) (r 9) (r 10) | 1 => rxI189_1 S0 ws S (r 8) (r 9) (r 10) (r 11) | 2 => rxI189_2 S0 ws S (r 8) (r 9) (r 10) (r 11) | 3 => rxI189_3 S0 ws S (r 8) (r 9) (r 10) (r 11) | 4 => rxI189_4 S0 ws S (r 8) (r 9) (r 10) (r 11) | 5 => rxI189_5 S0 ws S (r 8) (r 9) (r 10) | 6 => rxI189_6 S0 ws S (r 8) (r 9) (r 10) (r 11) | 7 => rxI189_7 S0 ws S (r 8) (r 9) (r 10) (r 11) (r 12) | 8 => rxI189_8 S0 ws S (r 8) (r 9) (r 10) (r 11) (r 12) (r 13) | 9 => rxI189_9 S0 ws S (r 8) (r 9) (r 10) (r 11) (r 12) (r 13) (r 14) | 10 => rxI189_10 S0 ws S (r 8) (r 9) (r 10) (r 11) (r 12) (r 13) | 11 => rxI189_11 S0 ws S (r 8) (r 9) (r 10) (r 11) (r 12) (r 13) (r 14) (r 15) | 12 => rxI189_12 S0 ws S (r 8) (r 9) (r 10) (r 11) (r 12) (r 13) (r 14) (r 15) | 13 => rxI189_13 S0 ws S (r 8) (r 9) (r 10) (r 11) (r 12) (r 13) (r 14) | 14 => rxI189_14 S0 ws S (r 8) (r 9) (r 10) (r 11) (r 12) (r 13) (r 14) (r 15) | _ => False
noncomputable def rxm189 (S0 : Nat → Int → Int) (ws : List Int) (i : Nat) (S : Nat → Int → Int) (r : Nat → Int) : Nat := match i with | 0 => rxm189_0 S0 ws S (r 8) (r 9) (r 10) | 1 => rxm189_1 S0 ws S (r 8) (r 9) (r 10) (r 11) | 2 => rxm189_2 S0 ws S (r 8) (r 9) (r 10) (r 11) | 3 => rxm189_3 S0 ws S (r 8) (r 9) (r 10) (r 11) | 4 => rxm189_4 S0 ws S (r 8) (r 9) (r 10) (r 11) | 5 => rxm189_5 S0 ws S (r 8) (r 9) (r 10) | 6 => rxm189_6 S0 ws S (r 8) (r 9) (r 10) (r 11) | 7 => rxm189_7 S0 ws S (r 8) (r 9) (r 10) (r 11) (r 12) | 8 => rxm189_8 S0 ws S (r 8) (r 9) (r 10) (r 11) (r 12) (r 13) | 9 => rxm189_9 S0 ws S (r 8) (r 9) (r 10) (r 11) (r 12) (r 13) (r 14) | 10 => rxm189_10 S0 ws S (r 8) (r 9) (r 10) (r 11) (r 12) (r 13) | 11 => rxm189_11 S0 ws S (r 8) (r 9) (r 10) (r 11) (r 12) (r 13) (r 14) (r 15) | 12 => rxm189_12 S0 ws S (r 8) (r 9) (r 10) (r 11) (r 12) (r 13) (r 14) (r 15) | 13 => rxm189_13 S0 ws S (r 8) (r 9) (r 10) (r 11) (r 12) (r 13) (r 14) | 14 => rxm189_14 S0 ws S (r 8) (r 9) (r 10) (r 11) (r 12) (r 13) (r 14) (r 15) | _ => 0
noncomputable def rxP189 (S0 : Nat → Int → Int) (ws : List Int) : Prop := True
noncomputable def rxPS189 (S0 : Nat → Int → Int) (ws : List Int) (S : Nat → Int → Int) (w : Option Int) : Prop := True
theorem rxk189_1 {S0 : Nat → Int → Int} {ws : List Int} {S : Nat → Int → Int} {part person what a : Int} (hP : rxP189 S0 ws) (hin : bx_same rxL (bx_mdl rxC189.2.2.1) S0 S) (I0 : bx_Inv rxL S) (hinv : rxI189_1 S0 ws S part person what a) (l8 : 0 ≤ part) (u8 : part ≤ 5) (l9 : 0 ≤ person) (u9 : person ≤ 7) (l10 : 0 ≤ what) (u10 : what ≤ 20) (l11 : 0 ≤ a) (u11 : a ≤ 5) : rxPFP S [480, a] ∧ ∀ (S_p : Nat → Int → Int), rxPSFP S [480, a] S_p none → bx_Inv rxL S_p → bx_same rxL (bx_mdl rxCFP.2.2.1) S S_p → rxI189_2 S0 ws S_p part person what a ∧ rxm189_2 S0 ws S_p part person what a < rxm189_1 S0 ws S part person what a := by
  exact ⟨trivial, fun S_p hq I1 hsm => ⟨hinv, by unfold rxm189_1 rxm189_2; omega⟩⟩
theorem rxs189_1 {X : (Nat → Int → Int) → Prop} {S0 : Nat → Int → Int} {ws : List Int} (hP : rxP189 S0 ws) : rx_obK X S0 rxC189.2.2.1 rxCFP.2.2.1 (rxI189 S0 ws) (rxm189 S0 ws) 1 2 rxz189_1 rxz189_2 [.inr (3, (0, 480)), .inr (0, (11, 0))] none rxPFP rxPSFP := by
  intro S r hinv hXS I0 hin hs_ hf_
  have b_ := bx_bds_sat hs_
  have f_ := bx_fcl_ok hs_.1 hf_
  obtain ⟨⟨l8, u8⟩, ⟨l9, u9⟩, ⟨l10, u10⟩, ⟨l11, u11⟩, -⟩ := b_
  have g := rxk189_1 hP hin I0 hinv l8 u8 l9 u9 l10 u10 l11 u11
  have ea : List.map (bx_num r) [.inr (3, (0, 480)), .inr (0, (11, 0))] = [480, (r 11)] := by
    simp only [List.map_cons, List.map_nil, bx_xv_ok hs_.1]
    rfl
  rw [ea]
  refine ⟨g.1, fun S_p w r_p hPS hX_p I1 hsm hr hw hs_p => ?_⟩
  have hw : w = none := hPS.1
  subst hw
  have g2 := g.2 S_p hPS I1 hsm
  show rxI189_2 S0 ws S_p (r_p 8) (r_p 9) (r_p 10) (r_p 11) ∧ rxm189_2 S0 ws S_p (r_p 8) (r_p 9) (r_p 10) (r_p 11) < _
  rw [hr 8 (by decide), hr 9 (by decide), hr 10 (by decide), hr 11 (by decide)]
  exact g2
theorem rxk189_3 {S0 : Nat → Int → Int} {ws : List Int} {S : Nat → Int → Int} {part person what a : Int} (hP : rxP189 S0 ws) (hin : bx_same rxL (bx_mdl rxC189.2.2.1) S0 S) (I0 : bx_Inv rxL S) (hinv : rxI189_3 S0 ws S part person what a) (l8 : 0 ≤ part) (u8 : part ≤ 5) (l9 : 0 ≤ person) (u9 : person ≤ 7) (l10 : 0 ≤ what) (u10 : what ≤ 20) (l11 : 0 ≤ a) (u11 : a ≤ 7) : rxPFC S [480, a, (-1)] ∧ ∀ (S_p : Nat → Int → Int), rxPSFC S [480, a, (-1)] S_p none → bx_Inv rxL S_p → bx_same rxL (bx_mdl rxCFC.2.2.1) S S_p → rxI189_4 S0 ws S_p part person what a ∧ rxm189_4 S0 ws S_p part person what a < rxm189_3 S0 ws S part person what a := by
  exact ⟨trivial, fun S_p hq I1 hsm => ⟨⟨hinv, hq.2⟩, by unfold rxm189_3 rxm189_4; omega⟩⟩
theorem rxs189_3 {X : (Nat → Int → Int) → Prop} {S0 : Nat → Int → Int} {ws : List Int} (hP : rxP189 S0 ws) : rx_obK X S0 rxC189.2.2.1 rxCFC.2.2.1 (rxI189 S0 ws) (rxm189 S0 ws) 3 4 rxz189_3 rxz189_4 [.inr (3, (0, 480)), .inr (0, (11, 0)), .inr (0, (0, (-1)))] none rxPFC rxPSFC := by
  intro S r hinv hXS I0 hin hs_ hf_
  have b_ := bx_bds_sat hs_
  have f_ := bx_fcl_ok hs_.1 hf_
  obtain ⟨⟨l8, u8⟩, ⟨l9, u9⟩, ⟨l10, u10⟩, ⟨l11, u11⟩, -⟩ := b_
  have g := rxk189_3 hP hin I0 hinv l8 u8 l9 u9 l10 u10 l11 u11
  have ea : List.map (bx_num r) [.inr (3, (0, 480)), .inr (0, (11, 0)), .inr (0, (0, (-1)))] = [480, (r 11), -1] := by
    simp only [List.map_cons, List.map_nil, bx_xv_ok hs_.1]
    rfl
  rw [ea]
  refine ⟨g.1, fun S_p w r_p hPS hX_p I1 hsm hr hw hs_p => ?_⟩
  have hw : w = none := hPS.1
  subst hw
  have g2 := g.2 S_p hPS I1 hsm
  show rxI189_4 S0 ws S_p (r_p 8) (r_p 9) (r_p 10) (r_p 11) ∧ rxm189_4 S0 ws S_p (r_p 8) (r_p 9) (r_p 10) (r_p 11) < _
  rw [hr 8 (by decide), hr 9 (by decide), hr 10 (by decide), hr 11 (by decide)]
  exact g2
theorem rxk189_5 {S0 : Nat → Int → Int} {ws : List Int} {S : Nat → Int → Int} {part person what : Int} (hP : rxP189 S0 ws) (hin : bx_same rxL (bx_mdl rxC189.2.2.1) S0 S) (I0 : bx_Inv rxL S) (hinv : rxI189_5 S0 ws S part person what) (l8 : 0 ≤ part) (u8 : part ≤ 5) (l9 : 0 ≤ person) (u9 : person ≤ 7) (l10 : 0 ≤ what) (u10 : what ≤ 20) : rxPLO S [480] ∧ ∀ (S_p : Nat → Int → Int) (last : Int), 0 ≤ last → last ≤ 7 → rxPSLO S [480] S_p (some last) → bx_Inv rxL S_p → bx_same rxL (bx_mdl rxCLO.2.2.1) S S_p → rxI189_6 S0 ws S_p part person what last ∧ rxm189_6 S0 ws S_p part person what last < rxm189_5 S0 ws S part person what := by
  obtain ⟨hw, q1, q2, q3⟩ := hinv
  refine ⟨q1, fun S_p last g0 g1 hq I1 hsm => ?_⟩
  obtain ⟨rfl, i, k1, k2, k3⟩ := hq
  have k3 := Option.some.inj k3
  exact ⟨⟨hw, by rw [k3]; exact q3 i k1 k2, q2⟩, by unfold rxm189_5 rxm189_6; omega⟩
theorem rxs189_5 {X : (Nat → Int → Int) → Prop} {S0 : Nat → Int → Int} {ws : List Int} (hP : rxP189 S0 ws) : rx_obK X S0 rxC189.2.2.1 rxCLO.2.2.1 (rxI189 S0 ws) (rxm189 S0 ws) 5 6 rxz189_5 rxz189_6 [.inr (3, (0, 480))] (some 11) rxPLO rxPSLO := by
  intro S r hinv hXS I0 hin hs_ hf_
  have b_ := bx_bds_sat hs_
  have f_ := bx_fcl_ok hs_.1 hf_
  obtain ⟨⟨l8, u8⟩, ⟨l9, u9⟩, ⟨l10, u10⟩, -⟩ := b_
  have g := rxk189_5 hP hin I0 hinv l8 u8 l9 u9 l10 u10
  have ea : List.map (bx_num r) [.inr (3, (0, 480))] = [480] := by
    simp only [List.map_cons, List.map_nil, bx_xv_ok hs_.1]
    rfl
  rw [ea]
  refine ⟨g.1, fun S_p w r_p hPS hX_p I1 hsm hr hw hs_p => ?_⟩
  have hw := hw _ rfl
  subst hw
  have b_p := hs_p.2.2 11 _ _ rfl
  have g2 := g.2 S_p (r_p 11) b_p.1 b_p.2 hPS I1 hsm
  show rxI189_6 S0 ws S_p (r_p 8) (r_p 9) (r_p 10) (r_p 11) ∧ rxm189_6 S0 ws S_p (r_p 8) (r_p 9) (r_p 10) (r_p 11) < _
  rw [hr 8 (by decide), hr 9 (by decide), hr 10 (by decide)]
  exact g2
theorem rxk189_7 {S0 : Nat → Int → Int} {ws : List Int} {S : Nat → Int → Int} {part person what last a : Int} (hP : rxP189 S0 ws) (hin : bx_same rxL (bx_mdl rxC189.2.2.1) S0 S) (I0 : bx_Inv rxL S) (hinv : rxI189_7 S0 ws S part person what last a) (l8 : 0 ≤ part) (u8 : part ≤ 5) (l9 : 0 ≤ person) (u9 : person ≤ 7) (l10 : 0 ≤ what) (u10 : what ≤ 20) (l11 : 0 ≤ last) (u11 : last ≤ 7) (l12 : 0 ≤ a) (u12 : a ≤ 7) : rxPLT S [480, a] ∧ ∀ (S_p : Nat → Int → Int) (n : Int), 1 ≤ n → n ≤ 8 → rxPSLT S [480, a] S_p (some n) → bx_Inv rxL S_p → bx_same rxL (bx_mdl rxCLT.2.2.1) S S_p → rxI189_8 S0 ws S_p part person what last a n ∧ rxm189_8 S0 ws S_p part person what last a n < rxm189_7 S0 ws S part person what last a := by
  obtain ⟨ha, hw, h1, h2⟩ := hinv
  subst ha
  refine ⟨⟨a, rfl, h1, h2⟩, fun S_p n g0 g1 hq I1 hsm => ?_⟩
  have hq : S_p = S := hq
  subst hq
  exact ⟨⟨hw, h1, h2⟩, by unfold rxm189_7 rxm189_8; omega⟩
theorem rxs189_7 {X : (Nat → Int → Int) → Prop} {S0 : Nat → Int → Int} {ws : List Int} (hP : rxP189 S0 ws) : rx_obK X S0 rxC189.2.2.1 rxCLT.2.2.1 (rxI189 S0 ws) (rxm189 S0 ws) 7 8 rxz189_7 rxz189_8 [.inr (3, (0, 480)), .inr (0, (12, 0))] (some 13) rxPLT rxPSLT := by
  intro S r hinv hXS I0 hin hs_ hf_
  have b_ := bx_bds_sat hs_
  have f_ := bx_fcl_ok hs_.1 hf_
  obtain ⟨⟨l8, u8⟩, ⟨l9, u9⟩, ⟨l10, u10⟩, ⟨l11, u11⟩, ⟨l12, u12⟩, -⟩ := b_
  have g := rxk189_7 hP hin I0 hinv l8 u8 l9 u9 l10 u10 l11 u11 l12 u12
  have ea : List.map (bx_num r) [.inr (3, (0, 480)), .inr (0, (12, 0))] = [480, (r 12)] := by
    simp only [List.map_cons, List.map_nil, bx_xv_ok hs_.1]
    rfl
  rw [ea]
  refine ⟨g.1, fun S_p w r_p hPS hX_p I1 hsm hr hw hs_p => ?_⟩
  have hw := hw _ rfl
  subst hw
  have b_p := hs_p.2.2 13 _ _ rfl
  have g2 := g.2 S_p (r_p 13) b_p.1 b_p.2 hPS I1 hsm
  show rxI189_8 S0 ws S_p (r_p 8) (r_p 9) (r_p 10) (r_p 11) (r_p 12) (r_p 13) ∧ rxm189_8 S0 ws S_p (r_p 8) (r_p 9) (r_p 10) (r_p 11) (r_p 12) (r_p 13) < _
  rw [hr 8 (by decide), hr 9 (by decide), hr 10 (by decide), hr 11 (by decide), hr 12 (by decide)]
  exact g2
theorem rxk189_11 {S0 : Nat → Int → Int} {ws : List Int} {S : Nat → Int → Int} {part person what last nd p a b : Int} (hP : rxP189 S0 ws) (hin : bx_same rxL (bx_mdl rxC189.2.2.1) S0 S) (I0 : bx_Inv rxL S) (hinv : rxI189_11 S0 ws S part person what last nd p a b) (l8 : 0 ≤ part) (u8 : part ≤ 5) (l9 : 0 ≤ person) (u9 : person ≤ 7) (l10 : 0 ≤ what) (u10 : what ≤ 20) (l11 : 0 ≤ last) (u11 : last ≤ 7) (l12 : 0 ≤ nd) (u12 : nd ≤ 255) (l13 : 0 ≤ p) (u13 : p ≤ 7) (l14 : 0 ≤ a) (u14 : a ≤ 7) (l15 : 0 ≤ b) (u15 : b ≤ 7) : rxPFC S [480, a, b] ∧ ∀ (S_p : Nat → Int → Int), rxPSFC S [480, a, b] S_p none → bx_Inv rxL S_p → bx_same rxL (bx_mdl rxCFC.2.2.1) S S_p → rxI189_12 S0 ws S_p part person what last nd p a b ∧ rxm189_12 S0 ws S_p part person what last nd p a b < rxm189_11 S0 ws S part person what last nd p a b := by
  exact ⟨trivial, fun S_p hq I1 hsm => ⟨hq.2, by unfold rxm189_11 rxm189_12; omega⟩⟩
theorem rxs189_11 {X : (Nat → Int → Int) → Prop} {S0 : Nat → Int → Int} {ws : List Int} (hP : rxP189 S0 ws) : rx_obK X S0 rxC189.2.2.1 rxCFC.2.2.1 (rxI189 S0 ws) (rxm189 S0 ws) 11 12 rxz189_11 rxz189_12 [.inr (3, (0, 480)), .inr (0, (14, 0)), .inr (0, (15, 0))] none rxPFC rxPSFC := by
  intro S r hinv hXS I0 hin hs_ hf_
  have b_ := bx_bds_sat hs_
  have f_ := bx_fcl_ok hs_.1 hf_
  obtain ⟨⟨l8, u8⟩, ⟨l9, u9⟩, ⟨l10, u10⟩, ⟨l11, u11⟩, ⟨l12, u12⟩, ⟨l13, u13⟩, ⟨l14, u14⟩, ⟨l15, u15⟩, -⟩ := b_
  have g := rxk189_11 hP hin I0 hinv l8 u8 l9 u9 l10 u10 l11 u11 l12 u12 l13 u13 l14 u14 l15 u15
  have ea : List.map (bx_num r) [.inr (3, (0, 480)), .inr (0, (14, 0)), .inr (0, (15, 0))] = [480, (r 14), (r 15)] := by
    simp only [List.map_cons, List.map_nil, bx_xv_ok hs_.1]
    rfl
  rw [ea]
  refine ⟨g.1, fun S_p w r_p hPS hX_p I1 hsm hr hw hs_p => ?_⟩
  have hw : w = none := hPS.1
  subst hw
  have g2 := g.2 S_p hPS I1 hsm
  show rxI189_12 S0 ws S_p (r_p 8) (r_p 9) (r_p 10) (r_p 11) (r_p 12) (r_p 13) (r_p 14) (r_p 15) ∧ rxm189_12 S0 ws S_p (r_p 8) (r_p 9) (r_p 10) (r_p 11) (r_p 12) (r_p 13) (r_p 14) (r_p 15) < _
  rw [hr 8 (by decide), hr 9 (by decide), hr 10 (by decide), hr 11 (by decide), hr 12 (by decide), hr 13 (by decide), hr 14 (by decide), hr 15 (by decide)]
  exact g2
theorem rxk189_13 {S0 : Nat → Int → Int} {ws : List Int} {S : Nat → Int → Int} {part person what last nd p nd2 : Int} (hP : rxP189 S0 ws) (hin : bx_same rxL (bx_mdl rxC189.2.2.1) S0 S) (I0 : bx_Inv rxL S) (hinv : rxI189_13 S0 ws S part person what last nd p nd2) (l8 : 0 ≤ part) (u8 : part ≤ 5) (l9 : 0 ≤ person) (u9 : person ≤ 7) (l10 : 0 ≤ what) (u10 : what ≤ 20) (l11 : 0 ≤ last) (u11 : last ≤ 7) (l12 : 0 ≤ nd) (u12 : nd ≤ 255) (l13 : 0 ≤ p) (u13 : p ≤ 7) (l14 : 0 ≤ nd2) (u14 : nd2 ≤ 255) : rxPLO S [480] ∧ ∀ (S_p : Nat → Int → Int) (la2 : Int), 0 ≤ la2 → la2 ≤ 7 → rxPSLO S [480] S_p (some la2) → bx_Inv rxL S_p → bx_same rxL (bx_mdl rxCLO.2.2.1) S S_p → rxI189_14 S0 ws S_p part person what last nd p nd2 la2 ∧ rxm189_14 S0 ws S_p part person what last nd p nd2 la2 < rxm189_13 S0 ws S part person what last nd p nd2 := by
  exact ⟨hinv.1, fun S_p la2 g0 g1 hq I1 hsm => ⟨trivial, by unfold rxm189_13 rxm189_14; omega⟩⟩
theorem rxs189_13 {X : (Nat → Int → Int) → Prop} {S0 : Nat → Int → Int} {ws : List Int} (hP : rxP189 S0 ws) : rx_obK X S0 rxC189.2.2.1 rxCLO.2.2.1 (rxI189 S0 ws) (rxm189 S0 ws) 13 14 rxz189_13 rxz189_14 [.inr (3, (0, 480))] (some 15) rxPLO rxPSLO := by
  intro S r hinv hXS I0 hin hs_ hf_
  have b_ := bx_bds_sat hs_
  have f_ := bx_fcl_ok hs_.1 hf_
  obtain ⟨⟨l8, u8⟩, ⟨l9, u9⟩, ⟨l10, u10⟩, ⟨l11, u11⟩, ⟨l12, u12⟩, ⟨l13, u13⟩, ⟨l14, u14⟩, -⟩ := b_
  have g := rxk189_13 hP hin I0 hinv l8 u8 l9 u9 l10 u10 l11 u11 l12 u12 l13 u13 l14 u14
  have ea : List.map (bx_num r) [.inr (3, (0, 480))] = [480] := by
    simp only [List.map_cons, List.map_nil, bx_xv_ok hs_.1]
    rfl
  rw [ea]
  refine ⟨g.1, fun S_p w r_p hPS hX_p I1 hsm hr hw hs_p => ?_⟩
  have hw := hw _ rfl
  subst hw
  have b_p := hs_p.2.2 15 _ _ rfl
  have g2 := g.2 S_p (r_p 15) b_p.1 b_p.2 hPS I1 hsm
  show rxI189_14 S0 ws S_p (r_p 8) (r_p 9) (r_p 10) (r_p 11) (r_p 12) (r_p 13) (r_p 14) (r_p 15) ∧ rxm189_14 S0 ws S_p (r_p 8) (r_p 9) (r_p 10) (r_p 11) (r_p 12) (r_p 13) (r_p 14) (r_p 15) < _
  rw [hr 8 (by decide), hr 9 (by decide), hr 10 (by decide), hr 11 (by decide), hr 12 (by decide), hr 13 (by decide), hr 14 (by decide)]
  exact g2
theorem rxc189_0_0 {S0 : Nat → Int → Int} {ws : List Int} {S : Nat → Int → Int} {part person what x11 x12 : Int} (hP : rxP189 S0 ws) (hin : bx_same rxL (bx_mdl rxC189.2.2.1) S0 S) (I0 : bx_Inv rxL S) (hinv : rxI189_0 S0 ws S part person what) (l8 : 0 ≤ part) (u8 : part ≤ 5) (l9 : 0 ≤ person) (u9 : person ≤ 7) (l10 : 20 ≤ what) (u10 : what ≤ 20) (l11 : 1 ≤ x11) (u11 : x11 ≤ 6) (l12 : 1 ≤ x12) (u12 : x12 ≤ 8) (f0 : person ≤ x12 + (-1)) (f1 : part ≤ x11 + (-1)) (e1 : (bx_up S 480 0 0) 482 0 = x11) (e0 : (bx_up S 480 0 0) 482 1 = x12) : (True) ∧ (True) ∧ rxI189_1 S0 ws (bx_up S 480 0 0) part person what part ∧ rxm189_1 S0 ws (bx_up S 480 0 0) part person what part < rxm189_0 S0 ws S part person what := by
  exact ⟨trivial, trivial, by show what < 10 ∨ what = 20; omega, by unfold rxm189_0 rxm189_1; omega⟩
theorem rxg189_0_0 {X : (Nat → Int → Int) → Prop} {S0 : Nat → Int → Int} {ws : List Int} (hP : rxP189 S0 ws) : bx_obC rxL X S0 rxC189.2.2.1 (rxI189 S0 ws) (rxm189 S0 ws) 0 rxz189_0 rxo189_0_0 := by
  intro S S_p r r_p hinv hX hin hsm_ hseg
  obtain ⟨I0, I1, h0_, hr_, b_, f_, d_⟩ := bx_cl (evs := [(0, (0, 482), (0, 1), .inr (0, (12, 0))), (0, (0, 482), (0, 0), .inr (0, (11, 0))), (1, (0, 480), (0, 0), .inr (0, (0, 0)))]) (fvs := [(1, (9, 0), (12, (-1)), (0, 0)), (1, (8, 0), (11, (-1)), (0, 0))]) hseg (by decide +kernel) (by decide +kernel)
  have hinv : rxI189_0 S0 ws S (r 8) (r 9) (r 10) := hinv
  rw [← hr_ 8 (by decide), ← hr_ 9 (by decide), ← hr_ 10 (by decide)] at hinv
  obtain ⟨⟨l8, u8⟩, ⟨l9, u9⟩, ⟨l10, u10⟩, ⟨l11, u11⟩, ⟨l12, u12⟩, -⟩ := b_
  obtain ⟨f0, f1, -⟩ := f_
  obtain ⟨e0, ⟨e1, ⟨T2, w_, w2⟩⟩⟩ := d_
  subst w2
  subst w_
  have g := rxc189_0_0 hP hin I0 hinv l8 u8 l9 u9 l10 u10 l11 u11 l12 u12 f0 f1 e1 e0
  refine ⟨bx_narP_ok (l := []) g.1, bx_nfP_ok h0_ (fvs := []) (by decide +kernel) g.2.1, ?_, ?_⟩
  · show rxI189_1 S0 ws (bx_up T2 480 (0) (0)) (bx_val [(0, 0), (0, 0), (0, 0), (0, 0), (0, 0), (0, 0), (0, 0), (0, 0), (8, 0), (9, 0), (10, 0), (8, 0)] r_p 8) (bx_val [(0, 0), (0, 0), (0, 0), (0, 0), (0, 0), (0, 0), (0, 0), (0, 0), (8, 0), (9, 0), (10, 0), (8, 0)] r_p 9) (bx_val [(0, 0), (0, 0), (0, 0), (0, 0), (0, 0), (0, 0), (0, 0), (0, 0), (8, 0), (9, 0), (10, 0), (8, 0)] r_p 10) (bx_val [(0, 0), (0, 0), (0, 0), (0, 0), (0, 0), (0, 0), (0, 0), (0, 0), (8, 0), (9, 0), (10, 0), (8, 0)] r_p 11)
    rw [bx_val_x (n := 8) (e := (8, 0)) h0_ rfl, bx_val_x (n := 9) (e := (9, 0)) h0_ rfl, bx_val_x (n := 10) (e := (10, 0)) h0_ rfl, bx_val_x (n := 11) (e := (8, 0)) h0_ rfl]
    exact g.2.2.1
  · show rxm189_1 S0 ws (bx_up T2 480 (0) (0)) (bx_val [(0, 0), (0, 0), (0, 0), (0, 0), (0, 0), (0, 0), (0, 0), (0, 0), (8, 0), (9, 0), (10, 0), (8, 0)] r_p 8) (bx_val [(0, 0), (0, 0), (0, 0), (0, 0), (0, 0), (0, 0), (0, 0), (0, 0), (8, 0), (9, 0), (10, 0), (8, 0)] r_p 9) (bx_val [(0, 0), (0, 0), (0, 0), (0, 0), (0, 0), (0, 0), (0, 0), (0, 0), (8, 0), (9, 0), (10, 0), (8, 0)] r_p 10) (bx_val [(0, 0), (0, 0), (0, 0), (0, 0), (0, 0), (0, 0), (0, 0), (0, 0), (8, 0), (9, 0), (10, 0), (8, 0)] r_p 11) < rxm189_0 S0 ws T2 (r 8) (r 9) (r 10)
    rw [bx_val_x (n := 8) (e := (8, 0)) h0_ rfl, bx_val_x (n := 9) (e := (9, 0)) h0_ rfl, bx_val_x (n := 10) (e := (10, 0)) h0_ rfl, bx_val_x (n := 11) (e := (8, 0)) h0_ rfl, ← hr_ 8 (by decide), ← hr_ 9 (by decide), ← hr_ 10 (by decide)]
    exact g.2.2.2
theorem rxc189_0_1 {S0 : Nat → Int → Int} {ws : List Int} {S : Nat → Int → Int} {part person what x11 x12 : Int} (hP : rxP189 S0 ws) (hin : bx_same rxL (bx_mdl rxC189.2.2.1) S0 S) (I0 : bx_Inv rxL S) (hinv : rxI189_0 S0 ws S part person what) (l8 : 0 ≤ part) (u8 : part ≤ 5) (l9 : 0 ≤ person) (u9 : person ≤ 7) (l10 : 0 ≤ what) (u10 : what ≤ 9) (l11 : 1 ≤ x11) (u11 : x11 ≤ 6) (l12 : 1 ≤ x12) (u12 : x12 ≤ 8) (f0 : person ≤ x12 + (-1)) (f1 : part ≤ x11 + (-1)) (e1 : (bx_up S 480 0 0) 482 0 = x11) (e0 : (bx_up S 480 0 0) 482 1 = x12) : (True) ∧ (True) ∧ rxI189_1 S0 ws (bx_up S 480 0 0) part person what part ∧ rxm189_1 S0 ws (bx_up S 480 0 0) part person what part < rxm189_0 S0 ws S part person what := by
  exact ⟨trivial, trivial, by show what < 10 ∨ what = 20; omega, by unfold rxm189_0 rxm189_1; omega⟩
theorem rxg189_0_1 {X : (Nat → Int → Int) → Prop} {S0 : Nat → Int → Int} {ws : List Int} (hP : rxP189 S0 ws) : bx_obC rxL X S0 rxC189.2.2.1 (rxI189 S0 ws) (rxm189 S0 ws) 0 rxz189_0 rxo189_0_1 := by
  intro S S_p r r_p hinv hX hin hsm_ hseg
  obtain ⟨I0, I1, h0_, hr_, b_, f_, d_⟩ := bx_cl (evs := [(0, (0, 482), (0, 1), .inr (0, (12, 0))), (0, (0, 482), (0, 0), .inr (0, (11, 0))), (1, (0, 480), (0, 0), .inr (0, (0, 0)))]) (fvs := [(1, (9, 0), (12, (-1)), (0, 0)), (1, (8, 0), (11, (-1)), (0, 0))]) hseg (by decide +kernel) (by decide +kernel)
  have hinv : rxI189_0 S0 ws S (r 8) (r 9) (r 10) := hinv
  rw [← hr_ 8 (by decide), ← hr_ 9 (by decide), ← hr_ 10 (by decide)] at hinv
  obtain ⟨⟨l8, u8⟩, ⟨l9, u9⟩, ⟨l10, u10⟩, ⟨l11, u11⟩, ⟨l12, u12⟩, -⟩ := b_
  obtain ⟨f0, f1, -⟩ := f_
  obtain ⟨e0, ⟨e1, ⟨T2, w_, w2⟩⟩⟩ := d_
  subst w2
  subst w_
  have g := rxc189_0_1 hP hin I0 hinv l8 u8 l9 u9 l10 u10 l11 u11 l12 u12 f0 f1 e1 e0
  refine ⟨bx_narP_ok (l := []) g.1, bx_nfP_ok h0_ (fvs := []) (by decide +kernel) g.2.1, ?_, ?_⟩
  · show rxI189_1 S0 ws (bx_up T2 480 (0) (0)) (bx_val [(0, 0), (0, 0), (0, 0), (0, 0), (0, 0), (0, 0), (0, 0), (0, 0), (8, 0), (9, 0), (10, 0), (8, 0)] r_p 8) (bx_val [(0, 0), (0, 0), (0, 0), (0, 0), (0, 0), (0, 0), (0, 0), (0, 0), (8, 0), (9, 0), (10, 0), (8, 0)] r_p 9) (bx_val [(0, 0), (0, 0), (0, 0), (0, 0), (0, 0), (0, 0), (0, 0), (0, 0), (8, 0), (9, 0), (10, 0), (8, 0)] r_p 10) (bx_val [(0, 0), (0, 0), (0, 0), (0, 0), (0, 0), (0, 0), (0, 0), (0, 0), (8, 0), (9, 0), (10, 0), (8, 0)] r_p 11)
    rw [bx_val_x (n := 8) (e := (8, 0)) h0_ rfl, bx_val_x (n := 9) (e := (9, 0)) h0_ rfl, bx_val_x (n := 10) (e := (10, 0)) h0_ rfl, bx_val_x (n := 11) (e := (8, 0)) h0_ rfl]
    exact g.2.2.1
  · show rxm189_1 S0 ws (bx_up T2 480 (0) (0)) (bx_val [(0, 0), (0, 0), (0, 0), (0, 0), (0, 0), (0, 0), (0, 0), (0, 0), (8, 0), (9, 0), (10, 0), (8, 0)] r_p 8) (bx_val [(0, 0), (0, 0), (0, 0), (0, 0), (0, 0), (0, 0), (0, 0), (0, 0), (8, 0), (9, 0), (10, 0), (8, 0)] r_p 9) (bx_val [(0, 0), (0, 0), (0, 0), (0, 0), (0, 0), (0, 0), (0, 0), (0, 0), (8, 0), (9, 0), (10, 0), (8, 0)] r_p 10) (bx_val [(0, 0), (0, 0), (0, 0), (0, 0), (0, 0), (0, 0), (0, 0), (0, 0), (8, 0), (9, 0), (10, 0), (8, 0)] r_p 11) < rxm189_0 S0 ws T2 (r 8) (r 9) (r 10)
    rw [bx_val_x (n := 8) (e := (8, 0)) h0_ rfl, bx_val_x (n := 9) (e := (9, 0)) h0_ rfl, bx_val_x (n := 10) (e := (10, 0)) h0_ rfl, bx_val_x (n := 11) (e := (8, 0)) h0_ rfl, ← hr_ 8 (by decide), ← hr_ 9 (by decide), ← hr_ 10 (by decide)]
    exact g.2.2.2
theorem rxd189_0_0 {S0 : Nat → Int → Int} {ws : List Int} {S : Nat → Int → Int} {part person what x11 x12 : Int} (hP : rxP189 S0 ws) (hin : bx_same rxL (bx_mdl rxC189.2.2.1) S0 S) (hin2 : bx_same rxL (bx_mdl rxC189.2.2.1) S (bx_up S 480 0 0)) (I0 : bx_Inv rxL S) (I1 : bx_Inv rxL (bx_up S 480 0 0)) (hinv : rxI189_0 S0 ws S part person what) (l8 : 0 ≤ part) (u8 : part ≤ 5) (l9 : 0 ≤ person) (u9 : person ≤ 7) (l10 : (-2147483648) ≤ what) (u10 : what ≤ (-1)) (l11 : 1 ≤ x11) (u11 : x11 ≤ 6) (l12 : 1 ≤ x12) (u12 : x12 ≤ 8) (f0 : what ≠ 20) (f1 : person ≤ x12 + (-1)) (f2 : part ≤ x11 + (-1)) (e1 : (bx_up S 480 0 0) 482 0 = x11) (e0 : (bx_up S 480 0 0) 482 1 = x12) : (True) ∧ rxPS189 S0 ws (bx_up S 480 0 0) (some ((-1))) := by
  exact ⟨by first | trivial | exact ⟨by omega, trivial⟩, trivial⟩
theorem rxf189_0_0 {X : (Nat → Int → Int) → Prop} {S0 : Nat → Int → Int} {ws : List Int} (hP : rxP189 S0 ws) : bx_obE rxL X S0 rxC189.2.2.1 (rxI189 S0 ws) (rxPS189 S0 ws) 0 rxz189_0 rxe189_0_0 := by
  intro S S_p r r_p hinv hX hin hsm_ hseg
  obtain ⟨I0, I1, h0_, hr_, b_, f_, d_⟩ := bx_cl (evs := [(0, (0, 482), (0, 1), .inr (0, (12, 0))), (0, (0, 482), (0, 0), .inr (0, (11, 0))), (1, (0, 480), (0, 0), .inr (0, (0, 0)))]) (fvs := [(3, (10, 0), (0, 20), (0, 0)), (1, (9, 0), (12, (-1)), (0, 0)), (1, (8, 0), (11, (-1)), (0, 0))]) hseg (by decide +kernel) (by decide +kernel)
  have hinv : rxI189_0 S0 ws S (r 8) (r 9) (r 10) := hinv
  rw [← hr_ 8 (by decide), ← hr_ 9 (by decide), ← hr_ 10 (by decide)] at hinv
  obtain ⟨⟨l8, u8⟩, ⟨l9, u9⟩, ⟨l10, u10⟩, ⟨l11, u11⟩, ⟨l12, u12⟩, -⟩ := b_
  obtain ⟨f0, f1, f2, -⟩ := f_
  obtain ⟨e0, ⟨e1, ⟨T2, w_, w2⟩⟩⟩ := d_
  subst w2
  subst w_
  have g := rxd189_0_0 hP hin hsm_ I0 I1 hinv l8 u8 l9 u9 l10 u10 l11 u11 l12 u12 f0 f1 f2 e1 e0
  refine ⟨bx_narP_ok (l := []) g.1, ?_⟩
  show rxPS189 S0 ws (bx_up T2 480 (0) (0)) (some (bx_num r_p (.inr (0, (0, (-1))))))
  rw [bx_xv_ok h0_]
  exact g.2
theorem rxd189_0_1 {S0 : Nat → Int → Int} {ws : List Int} {S : Nat → Int → Int} {part person what x11 x12 : Int} (hP : rxP189 S0 ws) (hin : bx_same rxL (bx_mdl rxC189.2.2.1) S0 S) (hin2 : bx_same rxL (bx_mdl rxC189.2.2.1) S (bx_up S 480 0 0)) (I0 : bx_Inv rxL S) (I1 : bx_Inv rxL (bx_up S 480 0 0)) (hinv : rxI189_0 S0 ws S part person what) (l8 : 0 ≤ part) (u8 : part ≤ 5) (l9 : 0 ≤ person) (u9 : person ≤ 7) (l10 : 10 ≤ what) (u10 : what ≤ 2147483647) (l11 : 1 ≤ x11) (u11 : x11 ≤ 6) (l12 : 1 ≤ x12) (u12 : x12 ≤ 8) (f0 : what ≠ 20) (f1 : person ≤ x12 + (-1)) (f2 : part ≤ x11 + (-1)) (e1 : (bx_up S 480 0 0) 482 0 = x11) (e0 : (bx_up S 480 0 0) 482 1 = x12) : (True) ∧ rxPS189 S0 ws (bx_up S 480 0 0) (some ((-1))) := by
  exact ⟨by first | trivial | exact ⟨by omega, trivial⟩, trivial⟩
theorem rxf189_0_1 {X : (Nat → Int → Int) → Prop} {S0 : Nat → Int → Int} {ws : List Int} (hP : rxP189 S0 ws) : bx_obE rxL X S0 rxC189.2.2.1 (rxI189 S0 ws) (rxPS189 S0 ws) 0 rxz189_0 rxe189_0_1 := by
  intro S S_p r r_p hinv hX hin hsm_ hseg
  obtain ⟨I0, I1, h0_, hr_, b_, f_, d_⟩ := bx_cl (evs := [(0, (0, 482), (0, 1), .inr (0, (12, 0))), (0, (0, 482), (0, 0), .inr (0, (11, 0))), (1, (0, 480), (0, 0), .inr (0, (0, 0)))]) (fvs := [(3, (10, 0), (0, 20), (0, 0)), (1, (9, 0), (12, (-1)), (0, 0)), (1, (8, 0), (11, (-1)), (0, 0))]) hseg (by decide +kernel) (by decide +kernel)
  have hinv : rxI189_0 S0 ws S (r 8) (r 9) (r 10) := hinv
  rw [← hr_ 8 (by decide), ← hr_ 9 (by decide), ← hr_ 10 (by decide)] at hinv
  obtain ⟨⟨l8, u8⟩, ⟨l9, u9⟩, ⟨l10, u10⟩, ⟨l11, u11⟩, ⟨l12, u12⟩, -⟩ := b_
  obtain ⟨f0, f1, f2, -⟩ := f_
  obtain ⟨e0, ⟨e1, ⟨T2, w_, w2⟩⟩⟩ := d_
  subst w2
  subst w_
  have g := rxd189_0_1 hP hin hsm_ I0 I1 hinv l8 u8 l9 u9 l10 u10 l11 u11 l12 u12 f0 f1 f2 e1 e0
  refine ⟨bx_narP_ok (l := []) g.1, ?_⟩
  show rxPS189 S0 ws (bx_up T2 480 (0) (0)) (some (bx_num r_p (.inr (0, (0, (-1))))))
  rw [bx_xv_ok h0_]
  exact g.2
theorem rxd189_0_2 {S0 : Nat → Int → Int} {ws : List Int} {S : Nat → Int → Int} {part person what x11 x12 : Int} (hP : rxP189 S0 ws) (hin : bx_same rxL (bx_mdl rxC189.2.2.1) S0 S) (hin2 : bx_same rxL (bx_mdl rxC189.2.2.1) S (bx_up S 480 0 0)) (I0 : bx_Inv rxL S) (I1 : bx_Inv rxL (bx_up S 480 0 0)) (hinv : rxI189_0 S0 ws S part person what) (l8 : 0 ≤ part) (u8 : part ≤ 5) (l9 : 0 ≤ person) (u9 : person ≤ 2147483647) (l10 : (-2147483648) ≤ what) (u10 : what ≤ 2147483647) (l11 : 1 ≤ x11) (u11 : x11 ≤ 6) (l12 : 0 ≤ x12) (u12 : x12 ≤ 8) (f0 : x12 + (-1) < person) (f1 : part ≤ x11 + (-1)) (e1 : (bx_up S 480 0 0) 482 0 = x11) (e0 : (bx_up S 480 0 0) 482 1 = x12) : (True) ∧ rxPS189 S0 ws (bx_up S 480 0 0) (some ((-1))) := by
  exact ⟨by first | trivial | exact ⟨by omega, trivial⟩, trivial⟩
theorem rxf189_0_2 {X : (Nat → Int → Int) → Prop} {S0 : Nat → Int → Int} {ws : List Int} (hP : rxP189 S0 ws) : bx_obE rxL X S0 rxC189.2.2.1 (rxI189 S0 ws) (rxPS189 S0 ws) 0 rxz189_0 rxe189_0_2 := by
  intro S S_p r r_p hinv hX hin hsm_ hseg
  obtain ⟨I0, I1, h0_, hr_, b_, f_, d_⟩ := bx_cl (evs := [(0, (0, 482), (0, 1), .inr (0, (12, 0))), (0, (0, 482), (0, 0), .inr (0, (11, 0))), (1, (0, 480), (0, 0), .inr (0, (0, 0)))]) (fvs := [(0, (12, (-1)), (9, 0), (0, 0)), (1, (8, 0), (11, (-1)), (0, 0))]) hseg (by decide +kernel) (by decide +kernel)
  have hinv : rxI189_0 S0 ws S (r 8) (r 9) (r 10) := hinv
  rw [← hr_ 8 (by decide), ← hr_ 9 (by decide), ← hr_ 10 (by decide)] at hinv
  obtain ⟨⟨l8, u8⟩, ⟨l9, u9⟩, ⟨l10, u10⟩, ⟨l11, u11⟩, ⟨l12, u12⟩, -⟩ := b_
  obtain ⟨f0, f1, -⟩ := f_
  obtain ⟨e0, ⟨e1, ⟨T2, w_, w2⟩⟩⟩ := d_
  subst w2
  subst w_
  have g := rxd189_0_2 hP hin hsm_ I0 I1 hinv l8 u8 l9 u9 l10 u10 l11 u11 l12 u12 f0 f1 e1 e0
  refine ⟨bx_narP_ok (l := []) g.1, ?_⟩
  show rxPS189 S0 ws (bx_up T2 480 (0) (0)) (some (bx_num r_p (.inr (0, (0, (-1))))))
  rw [bx_xv_ok h0_]
  exact g.2
theorem rxd189_0_3 {S0 : Nat → Int → Int} {ws : List Int} {S : Nat → Int → Int} {part person what x11 x12 : Int} (hP : rxP189 S0 ws) (hin : bx_same rxL (bx_mdl rxC189.2.2.1) S0 S) (hin2 : bx_same rxL (bx_mdl rxC189.2.2.1) S (bx_up S 480 0 0)) (I0 : bx_Inv rxL S) (I1 : bx_Inv rxL (bx_up S 480 0 0)) (hinv : rxI189_0 S0 ws S part person what) (l8 : 0 ≤ part) (u8 : part ≤ 5) (l9 : (-2147483648) ≤ person) (u9 : person ≤ (-1)) (l10 : (-2147483648) ≤ what) (u10 : what ≤ 2147483647) (l11 : 1 ≤ x11) (u11 : x11 ≤ 6) (l12 : 0 ≤ x12) (u12 : x12 ≤ 8) (f0 : part ≤ x11 + (-1)) (e1 : (bx_up S 480 0 0) 482 0 = x11) (e0 : (bx_up S 480 0 0) 482 1 = x12) : (True) ∧ rxPS189 S0 ws (bx_up S 480 0 0) (some ((-1))) := by
  exact ⟨by first | trivial | exact ⟨by omega, trivial⟩, trivial⟩
theorem rxf189_0_3 {X : (Nat → Int → Int) → Prop} {S0 : Nat → Int → Int} {ws : List Int} (hP : rxP189 S0 ws) : bx_obE rxL X S0 rxC189.2.2.1 (rxI189 S0 ws) (rxPS189 S0 ws) 0 rxz189_0 rxe189_0_3 := by
  intro S S_p r r_p hinv hX hin hsm_ hseg
  obtain ⟨I0, I1, h0_, hr_, b_, f_, d_⟩ := bx_cl (evs := [(0, (0, 482), (0, 1), .inr (0, (12, 0))), (0, (0, 482), (0, 0), .inr (0, (11, 0))), (1, (0, 480), (0, 0), .inr (0, (0, 0)))]) (fvs := [(1, (8, 0), (11, (-1)), (0, 0))]) hseg (by decide +kernel) (by decide +kernel)
  have hinv : rxI189_0 S0 ws S (r 8) (r 9) (r 10) := hinv
  rw [← hr_ 8 (by decide), ← hr_ 9 (by decide), ← hr_ 10 (by decide)] at hinv
  obtain ⟨⟨l8, u8⟩, ⟨l9, u9⟩, ⟨l10, u10⟩, ⟨l11, u11⟩, ⟨l12, u12⟩, -⟩ := b_
  obtain ⟨f0, -⟩ := f_
  obtain ⟨e0, ⟨e1, ⟨T2, w_, w2⟩⟩⟩ := d_
  subst w2
  subst w_
  have g := rxd189_0_3 hP hin hsm_ I0 I1 hinv l8 u8 l9 u9 l10 u10 l11 u11 l12 u12 f0 e1 e0
  refine ⟨bx_narP_ok (l := []) g.1, ?_⟩
  show rxPS189 S0 ws (bx_up T2 480 (0) (0)) (some (bx_num r_p (.inr (0, (0, (-1))))))
  rw [bx_xv_ok h0_]
  exact g.2
theorem rxd189_0_4 {S0 : Nat → Int → Int} {ws : List Int} {S : Nat → Int → Int} {part person what x11 : Int} (hP : rxP189 S0 ws) (hin : bx_same rxL (bx_mdl rxC189.2.2.1) S0 S) (hin2 : bx_same rxL (bx_mdl rxC189.2.2.1) S (bx_up S 480 0 0)) (I0 : bx_Inv rxL S) (I1 : bx_Inv rxL (bx_up S 480 0 0)) (hinv : rxI189_0 S0 ws S part person what) (l8 : 0 ≤ part) (u8 : part ≤ 2147483647) (l9 : (-2147483648) ≤ person) (u9 : person ≤ 2147483647) (l10 : (-2147483648) ≤ what) (u10 : what ≤ 2147483647) (l11 : 0 ≤ x11) (u11 : x11 ≤ 6) (f0 : x11 + (-1) < part) (e0 : (bx_up S 480 0 0) 482 0 = x11) : (True) ∧ rxPS189 S0 ws (bx_up S 480 0 0) (some ((-1))) := by
  exact ⟨by first | trivial | exact ⟨by omega, trivial⟩, trivial⟩
theorem rxf189_0_4 {X : (Nat → Int → Int) → Prop} {S0 : Nat → Int → Int} {ws : List Int} (hP : rxP189 S0 ws) : bx_obE rxL X S0 rxC189.2.2.1 (rxI189 S0 ws) (rxPS189 S0 ws) 0 rxz189_0 rxe189_0_4 := by
  intro S S_p r r_p hinv hX hin hsm_ hseg
  obtain ⟨I0, I1, h0_, hr_, b_, f_, d_⟩ := bx_cl (evs := [(0, (0, 482), (0, 0), .inr (0, (11, 0))), (1, (0, 480), (0, 0), .inr (0, (0, 0)))]) (fvs := [(0, (11, (-1)), (8, 0), (0, 0))]) hseg (by decide +kernel) (by decide +kernel)
  have hinv : rxI189_0 S0 ws S (r 8) (r 9) (r 10) := hinv
  rw [← hr_ 8 (by decide), ← hr_ 9 (by decide), ← hr_ 10 (by decide)] at hinv
  obtain ⟨⟨l8, u8⟩, ⟨l9, u9⟩, ⟨l10, u10⟩, ⟨l11, u11⟩, -⟩ := b_
  obtain ⟨f0, -⟩ := f_
  obtain ⟨e0, ⟨T1, w_, w1⟩⟩ := d_
  subst w1
  subst w_
  have g := rxd189_0_4 hP hin hsm_ I0 I1 hinv l8 u8 l9 u9 l10 u10 l11 u11 f0 e0
  refine ⟨bx_narP_ok (l := []) g.1, ?_⟩
  show rxPS189 S0 ws (bx_up T1 480 (0) (0)) (some (bx_num r_p (.inr (0, (0, (-1))))))
  rw [bx_xv_ok h0_]
  exact g.2
theorem rxd189_0_5 {S0 : Nat → Int → Int} {ws : List Int} {S : Nat → Int → Int} {part person what x11 : Int} (hP : rxP189 S0 ws) (hin : bx_same rxL (bx_mdl rxC189.2.2.1) S0 S) (hin2 : bx_same rxL (bx_mdl rxC189.2.2.1) S (bx_up S 480 0 0)) (I0 : bx_Inv rxL S) (I1 : bx_Inv rxL (bx_up S 480 0 0)) (hinv : rxI189_0 S0 ws S part person what) (l8 : (-2147483648) ≤ part) (u8 : part ≤ (-1)) (l9 : (-2147483648) ≤ person) (u9 : person ≤ 2147483647) (l10 : (-2147483648) ≤ what) (u10 : what ≤ 2147483647) (l11 : 0 ≤ x11) (u11 : x11 ≤ 6) (e0 : (bx_up S 480 0 0) 482 0 = x11) : (True) ∧ rxPS189 S0 ws (bx_up S 480 0 0) (some ((-1))) := by
  exact ⟨by first | trivial | exact ⟨by omega, trivial⟩, trivial⟩
theorem rxf189_0_5 {X : (Nat → Int → Int) → Prop} {S0 : Nat → Int → Int} {ws : List Int} (hP : rxP189 S0 ws) : bx_obE rxL X S0 rxC189.2.2.1 (rxI189 S0 ws) (rxPS189 S0 ws) 0 rxz189_0 rxe189_0_5 := by
  intro S S_p r r_p hinv hX hin hsm_ hseg
  obtain ⟨I0, I1, h0_, hr_, b_, f_, d_⟩ := bx_cl (evs := [(0, (0, 482), (0, 0), .inr (0, (11, 0))), (1, (0, 480), (0, 0), .inr (0, (0, 0)))]) (fvs := []) hseg (by decide +kernel) (by decide +kernel)
  have hinv : rxI189_0 S0 ws S (r 8) (r 9) (r 10) := hinv
  rw [← hr_ 8 (by decide), ← hr_ 9 (by decide), ← hr_ 10 (by decide)] at hinv
  obtain ⟨⟨l8, u8⟩, ⟨l9, u9⟩, ⟨l10, u10⟩, ⟨l11, u11⟩, -⟩ := b_
  obtain ⟨e0, ⟨T1, w_, w1⟩⟩ := d_
  subst w1
  subst w_
  have g := rxd189_0_5 hP hin hsm_ I0 I1 hinv l8 u8 l9 u9 l10 u10 l11 u11 e0
  refine ⟨bx_narP_ok (l := []) g.1, ?_⟩
  show rxPS189 S0 ws (bx_up T1 480 (0) (0)) (some (bx_num r_p (.inr (0, (0, (-1))))))
  rw [bx_xv_ok h0_]
  exact g.2
theorem rxc189_2_0 {S0 : Nat → Int → Int} {ws : List Int} {S : Nat → Int → Int} {part person what a : Int} (hP : rxP189 S0 ws) (hin : bx_same rxL (bx_mdl rxC189.2.2.1) S0 S) (I0 : bx_Inv rxL S) (hinv : rxI189_2 S0 ws S part person what a) (l8 : 0 ≤ part) (u8 : part ≤ 5) (l9 : 0 ≤ person) (u9 : person ≤ 7) (l10 : 0 ≤ what) (u10 : what ≤ 20) (l11 : 0 ≤ a) (u11 : a ≤ 5) : (True) ∧ (True) ∧ rxI189_3 S0 ws S part person what person ∧ rxm189_3 S0 ws S part person what person < rxm189_2 S0 ws S part person what a := by
  exact ⟨trivial, trivial, hinv, by unfold rxm189_2 rxm189_3; omega⟩
theorem rxg189_2_0 {X : (Nat → Int → Int) → Prop} {S0 : Nat → Int → Int} {ws : List Int} (hP : rxP189 S0 ws) : bx_obC rxL X S0 rxC189.2.2.1 (rxI189 S0 ws) (rxm189 S0 ws) 2 rxz189_2 rxo189_2_0 := by
  intro S S_p r r_p hinv hX hin hsm_ hseg
  obtain ⟨I0, I1, h0_, hr_, b_, f_, d_⟩ := bx_cl (evs := []) (fvs := []) hseg (by decide +kernel) (by decide +kernel)
  have hinv : rxI189_2 S0 ws S (r 8) (r 9) (r 10) (r 11) := hinv
  rw [← hr_ 8 (by decide), ← hr_ 9 (by decide), ← hr_ 10 (by decide), ← hr_ 11 (by decide)] at hinv
  obtain ⟨⟨l8, u8⟩, ⟨l9, u9⟩, ⟨l10, u10⟩, ⟨l11, u11⟩, -⟩ := b_
  have w_ := d_
  subst w_
  have g := rxc189_2_0 hP hin I0 hinv l8 u8 l9 u9 l10 u10 l11 u11
  refine ⟨bx_narP_ok (l := []) g.1, bx_nfP_ok h0_ (fvs := []) (by decide +kernel) g.2.1, ?_, ?_⟩
  · show rxI189_3 S0 ws S_p (bx_val [(0, 0), (0, 0), (0, 0), (0, 0), (0, 0), (0, 0), (0, 0), (0, 0), (8, 0), (9, 0), (10, 0), (9, 0)] r_p 8) (bx_val [(0, 0), (0, 0), (0, 0), (0, 0), (0, 0), (0, 0), (0, 0), (0, 0), (8, 0), (9, 0), (10, 0), (9, 0)] r_p 9) (bx_val [(0, 0), (0, 0), (0, 0), (0, 0), (0, 0), (0, 0), (0, 0), (0, 0), (8, 0), (9, 0), (10, 0), (9, 0)] r_p 10) (bx_val [(0, 0), (0, 0), (0, 0), (0, 0), (0, 0), (0, 0), (0, 0), (0, 0), (8, 0), (9, 0), (10, 0), (9, 0)] r_p 11)
    rw [bx_val_x (n := 8) (e := (8, 0)) h0_ rfl, bx_val_x (n := 9) (e := (9, 0)) h0_ rfl, bx_val_x (n := 10) (e := (10, 0)) h0_ rfl, bx_val_x (n := 11) (e := (9, 0)) h0_ rfl]
    exact g.2.2.1
  · show rxm189_3 S0 ws S_p (bx_val [(0, 0), (0, 0), (0, 0), (0, 0), (0, 0), (0, 0), (0, 0), (0, 0), (8, 0), (9, 0), (10, 0), (9, 0)] r_p 8) (bx_val [(0, 0), (0, 0), (0, 0), (0, 0), (0, 0), (0, 0), (0, 0), (0, 0), (8, 0), (9, 0), (10, 0), (9, 0)] r_p 9) (bx_val [(0, 0), (0, 0), (0, 0), (0, 0), (0, 0), (0, 0), (0, 0), (0, 0), (8, 0), (9, 0), (10, 0), (9, 0)] r_p 10) (bx_val [(0, 0), (0, 0), (0, 0), (0, 0), (0, 0), (0, 0), (0, 0), (0, 0), (8, 0), (9, 0), (10, 0), (9, 0)] r_p 11) < rxm189_2 S0 ws S_p (r 8) (r 9) (r 10) (r 11)
    rw [bx_val_x (n := 8) (e := (8, 0)) h0_ rfl, bx_val_x (n := 9) (e := (9, 0)) h0_ rfl, bx_val_x (n := 10) (e := (10, 0)) h0_ rfl, bx_val_x (n := 11) (e := (9, 0)) h0_ rfl, ← hr_ 8 (by decide), ← hr_ 9 (by decide), ← hr_ 10 (by decide), ← hr_ 11 (by decide)]
    exact g.2.2.2
theorem rxc189_4_0 {S0 : Nat → Int → Int} {ws : List Int} {S : Nat → Int → Int} {part person what a : Int} (hP : rxP189 S0 ws) (hin : bx_same rxL (bx_mdl rxC189.2.2.1) S0 S) (I0 : bx_Inv rxL S) (hinv : rxI189_4 S0 ws S part person what a) (l8 : 0 ≤ part) (u8 : part ≤ 5) (l9 : 0 ≤ person) (u9 : person ≤ 7) (l10 : 0 ≤ what) (u10 : what ≤ 20) (l11 : 0 ≤ a) (u11 : a ≤ 7) : (True) ∧ (True) ∧ rxI189_5 S0 ws S part person what ∧ rxm189_5 S0 ws S part person what < rxm189_4 S0 ws S part person what a := by
  exact ⟨trivial, trivial, hinv, by unfold rxm189_4 rxm189_5; omega⟩
theorem rxg189_4_0 {X : (Nat → Int → Int) → Prop} {S0 : Nat → Int → Int} {ws : List Int} (hP : rxP189 S0 ws) : bx_obC rxL X S0 rxC189.2.2.1 (rxI189 S0 ws) (rxm189 S0 ws) 4 rxz189_4 rxo189_4_0 := by
  intro S S_p r r_p hinv hX hin hsm_ hseg
  obtain ⟨I0, I1, h0_, hr_, b_, f_, d_⟩ := bx_cl (evs := []) (fvs := []) hseg (by decide +kernel) (by decide +kernel)
  have hinv : rxI189_4 S0 ws S (r 8) (r 9) (r 10) (r 11) := hinv
  rw [← hr_ 8 (by decide), ← hr_ 9 (by decide), ← hr_ 10 (by decide), ← hr_ 11 (by decide)] at hinv
  obtain ⟨⟨l8, u8⟩, ⟨l9, u9⟩, ⟨l10, u10⟩, ⟨l11, u11⟩, -⟩ := b_
  have w_ := d_
  subst w_
  have g := rxc189_4_0 hP hin I0 hinv l8 u8 l9 u9 l10 u10 l11 u11
  refine ⟨bx_narP_ok (l := []) g.1, bx_nfP_ok h0_ (fvs := []) (by decide +kernel) g.2.1, ?_, ?_⟩
  · show rxI189_5 S0 ws S_p (bx_val [(0, 0), (0, 0), (0, 0), (0, 0), (0, 0), (0, 0), (0, 0), (0, 0), (8, 0), (9, 0), (10, 0)] r_p 8) (bx_val [(0, 0), (0, 0), (0, 0), (0, 0), (0, 0), (0, 0), (0, 0), (0, 0), (8, 0), (9, 0), (10, 0)] r_p 9) (bx_val [(0, 0), (0, 0), (0, 0), (0, 0), (0, 0), (0, 0), (0, 0), (0, 0), (8, 0), (9, 0), (10, 0)] r_p 10)
    rw [bx_val_x (n := 8) (e := (8, 0)) h0_ rfl, bx_val_x (n := 9) (e := (9, 0)) h0_ rfl, bx_val_x (n := 10) (e := (10, 0)) h0_ rfl]
    exact g.2.2.1
  · show rxm189_5 S0 ws S_p (bx_val [(0, 0), (0, 0), (0, 0), (0, 0), (0, 0), (0, 0), (0, 0), (0, 0), (8, 0), (9, 0), (10, 0)] r_p 8) (bx_val [(0, 0), (0, 0), (0, 0), (0, 0), (0, 0), (0, 0), (0, 0), (0, 0), (8, 0), (9, 0), (10, 0)] r_p 9) (bx_val [(0, 0), (0, 0), (0, 0), (0, 0), (0, 0), (0, 0), (0, 0), (0, 0), (8, 0), (9, 0), (10, 0)] r_p 10) < rxm189_4 S0 ws S_p (r 8) (r 9) (r 10) (r 11)
    rw [bx_val_x (n := 8) (e := (8, 0)) h0_ rfl, bx_val_x (n := 9) (e := (9, 0)) h0_ rfl, bx_val_x (n := 10) (e := (10, 0)) h0_ rfl, ← hr_ 8 (by decide), ← hr_ 9 (by decide), ← hr_ 10 (by decide), ← hr_ 11 (by decide)]
    exact g.2.2.2
theorem rxc189_6_0 {S0 : Nat → Int → Int} {ws : List Int} {S : Nat → Int → Int} {part person what last : Int} (hP : rxP189 S0 ws) (hin : bx_same rxL (bx_mdl rxC189.2.2.1) S0 S) (I0 : bx_Inv rxL S) (hinv : rxI189_6 S0 ws S part person what last) (l8 : 0 ≤ part) (u8 : part ≤ 5) (l9 : 0 ≤ person) (u9 : person ≤ 7) (l10 : 0 ≤ what) (u10 : what ≤ 20) (l11 : 0 ≤ last) (u11 : last ≤ 7) : (True) ∧ (True) ∧ rxI189_7 S0 ws S part person what last last ∧ rxm189_7 S0 ws S part person what last last < rxm189_6 S0 ws S part person what last := by
  exact ⟨trivial, trivial, ⟨rfl, hinv⟩, by unfold rxm189_6 rxm189_7; omega⟩
theorem rxg189_6_0 {X : (Nat → Int → Int) → Prop} {S0 : Nat → Int → Int} {ws : List Int} (hP : rxP189 S0 ws) : bx_obC rxL X S0 rxC189.2.2.1 (rxI189 S0 ws) (rxm189 S0 ws) 6 rxz189_6 rxo189_6_0 := by
  intro S S_p r r_p hinv hX hin hsm_ hseg
  obtain ⟨I0, I1, h0_, hr_, b_, f_, d_⟩ := bx_cl (evs := []) (fvs := []) hseg (by decide +kernel) (by decide +kernel)
  have hinv : rxI189_6 S0 ws S (r 8) (r 9) (r 10) (r 11) := hinv
  rw [← hr_ 8 (by decide), ← hr_ 9 (by decide), ← hr_ 10 (by decide), ← hr_ 11 (by decide)] at hinv
  obtain ⟨⟨l8, u8⟩, ⟨l9, u9⟩, ⟨l10, u10⟩, ⟨l11, u11⟩, -⟩ := b_
  have w_ := d_
  subst w_
  have g := rxc189_6_0 hP hin I0 hinv l8 u8 l9 u9 l10 u10 l11 u11
  refine ⟨bx_narP_ok (l := []) g.1, bx_nfP_ok h0_ (fvs := []) (by decide +kernel) g.2.1, ?_, ?_⟩
  · show rxI189_7 S0 ws S_p (bx_val [(0, 0), (0, 0), (0, 0), (0, 0), (0, 0), (0, 0), (0, 0), (0, 0), (8, 0), (9, 0), (10, 0), (11, 0), (11, 0)] r_p 8) (bx_val [(0, 0), (0, 0), (0, 0), (0, 0), (0, 0), (0, 0), (0, 0), (0, 0), (8, 0), (9, 0), (10, 0), (11, 0), (11, 0)] r_p 9) (bx_val [(0, 0), (0, 0), (0, 0), (0, 0), (0, 0), (0, 0), (0, 0), (0, 0), (8, 0), (9, 0), (10, 0), (11, 0), (11, 0)] r_p 10) (bx_val [(0, 0), (0, 0), (0, 0), (0, 0), (0, 0), (0, 0), (0, 0), (0, 0), (8, 0), (9, 0), (10, 0), (11, 0), (11, 0)] r_p 11) (bx_val [(0, 0), (0, 0), (0, 0), (0, 0), (0, 0), (0, 0), (0, 0), (0, 0), (8, 0), (9, 0), (10, 0), (11, 0), (11, 0)] r_p 12)
    rw [bx_val_x (n := 8) (e := (8, 0)) h0_ rfl, bx_val_x (n := 9) (e := (9, 0)) h0_ rfl, bx_val_x (n := 10) (e := (10, 0)) h0_ rfl, bx_val_x (n := 11) (e := (11, 0)) h0_ rfl, bx_val_x (n := 12) (e := (11, 0)) h0_ rfl]
    exact g.2.2.1
  · show rxm189_7 S0 ws S_p (bx_val [(0, 0), (0, 0), (0, 0), (0, 0), (0, 0), (0, 0), (0, 0), (0, 0), (8, 0), (9, 0), (10, 0), (11, 0), (11, 0)] r_p 8) (bx_val [(0, 0), (0, 0), (0, 0), (0, 0), (0, 0), (0, 0), (0, 0), (0, 0), (8, 0), (9, 0), (10, 0), (11, 0), (11, 0)] r_p 9) (bx_val [(0, 0), (0, 0), (0, 0), (0, 0), (0, 0), (0, 0), (0, 0), (0, 0), (8, 0), (9, 0), (10, 0), (11, 0), (11, 0)] r_p 10) (bx_val [(0, 0), (0, 0), (0, 0), (0, 0), (0, 0), (0, 0), (0, 0), (0, 0), (8, 0), (9, 0), (10, 0), (11, 0), (11, 0)] r_p 11) (bx_val [(0, 0), (0, 0), (0, 0), (0, 0), (0, 0), (0, 0), (0, 0), (0, 0), (8, 0), (9, 0), (10, 0), (11, 0), (11, 0)] r_p 12) < rxm189_6 S0 ws S_p (r 8) (r 9) (r 10) (r 11)
    rw [bx_val_x (n := 8) (e := (8, 0)) h0_ rfl, bx_val_x (n := 9) (e := (9, 0)) h0_ rfl, bx_val_x (n := 10) (e := (10, 0)) h0_ rfl, bx_val_x (n := 11) (e := (11, 0)) h0_ rfl, bx_val_x (n := 12) (e := (11, 0)) h0_ rfl, ← hr_ 8 (by decide), ← hr_ 9 (by decide), ← hr_ 10 (by decide), ← hr_ 11 (by decide)]
    exact g.2.2.2
theorem rxc189_8_0 {S0 : Nat → Int → Int} {ws : List Int} {S : Nat → Int → Int} {part person what last a n : Int} (hP : rxP189 S0 ws) (hin : bx_same rxL (bx_mdl rxC189.2.2.1) S0 S) (I0 : bx_Inv rxL S) (hinv : rxI189_8 S0 ws S part person what last a n) (l8 : 0 ≤ part) (u8 : part ≤ 5) (l9 : 0 ≤ person) (u9 : person ≤ 7) (l10 : 2 ≤ what) (u10 : what ≤ 19) (l11 : 0 ≤ last) (u11 : last ≤ 7) (l12 : 0 ≤ a) (u12 : a ≤ 7) (l13 : 1 ≤ n) (u13 : n ≤ 8) : ((2 ≤ what ∧ what ≤ 9) ∧ True) ∧ (True) ∧ rxI189_9 S0 ws S part person what last n last (n + (-1)) ∧ rxm189_9 S0 ws S part person what last n last (n + (-1)) < rxm189_8 S0 ws S part person what last a n := by
  obtain ⟨hw, h1, h2⟩ := hinv
  exact ⟨⟨by omega, trivial⟩, trivial, ⟨h1, h2, by omega⟩, by unfold rxm189_8 rxm189_9; omega⟩
theorem rxg189_8_0 {X : (Nat → Int → Int) → Prop} {S0 : Nat → Int → Int} {ws : List Int} (hP : rxP189 S0 ws) : bx_obC rxL X S0 rxC189.2.2.1 (rxI189 S0 ws) (rxm189 S0 ws) 8 rxz189_8 rxo189_8_0 := by
  intro S S_p r r_p hinv hX hin hsm_ hseg
  obtain ⟨I0, I1, h0_, hr_, b_, f_, d_⟩ := bx_cl (evs := []) (fvs := []) hseg (by decide +kernel) (by decide +kernel)
  have hinv : rxI189_8 S0 ws S (r 8) (r 9) (r 10) (r 11) (r 12) (r 13) := hinv
  rw [← hr_ 8 (by decide), ← hr_ 9 (by decide), ← hr_ 10 (by decide), ← hr_ 11 (by decide), ← hr_ 12 (by decide), ← hr_ 13 (by decide)] at hinv
  obtain ⟨⟨l8, u8⟩, ⟨l9, u9⟩, ⟨l10, u10⟩, ⟨l11, u11⟩, ⟨l12, u12⟩, ⟨l13, u13⟩, -⟩ := b_
  have w_ := d_
  subst w_
  have g := rxc189_8_0 hP hin I0 hinv l8 u8 l9 u9 l10 u10 l11 u11 l12 u12 l13 u13
  refine ⟨bx_narP_ok (l := [(10, 2, 9)]) g.1, bx_nfP_ok h0_ (fvs := []) (by decide +kernel) g.2.1, ?_, ?_⟩
  · show rxI189_9 S0 ws S_p (bx_val [(0, 0), (0, 0), (0, 0), (0, 0), (0, 0), (0, 0), (0, 0), (0, 0), (8, 0), (9, 0), (10, 0), (11, 0), (13, 0), (11, 0), (13, (-1))] r_p 8) (bx_val [(0, 0), (0, 0), (0, 0), (0, 0), (0, 0), (0, 0), (0, 0), (0, 0), (8, 0), (9, 0), (10, 0), (11, 0), (13, 0), (11, 0), (13, (-1))] r_p 9) (bx_val [(0, 0), (0, 0), (0, 0), (0, 0), (0, 0), (0, 0), (0, 0), (0, 0), (8, 0), (9, 0), (10, 0), (11, 0), (13, 0), (11, 0), (13, (-1))] r_p 10) (bx_val [(0, 0), (0, 0), (0, 0), (0, 0), (0, 0), (0, 0), (0, 0), (0, 0), (8, 0), (9, 0), (10, 0), (11, 0), (13, 0), (11, 0), (13, (-1))] r_p 11) (bx_val [(0, 0), (0, 0), (0, 0), (0, 0), (0, 0), (0, 0), (0, 0), (0, 0), (8, 0), (9, 0), (10, 0), (11, 0), (13, 0), (11, 0), (13, (-1))] r_p 12) (bx_val [(0, 0), (0, 0), (0, 0), (0, 0), (0, 0), (0, 0), (0, 0), (0, 0), (8, 0), (9, 0), (10, 0), (11, 0), (13, 0), (11, 0), (13, (-1))] r_p 13) (bx_val [(0, 0), (0, 0), (0, 0), (0, 0), (0, 0), (0, 0), (0, 0), (0, 0), (8, 0), (9, 0), (10, 0), (11, 0), (13, 0), (11, 0), (13, (-1))] r_p 14)
    rw [bx_val_x (n := 8) (e := (8, 0)) h0_ rfl, bx_val_x (n := 9) (e := (9, 0)) h0_ rfl, bx_val_x (n := 10) (e := (10, 0)) h0_ rfl, bx_val_x (n := 11) (e := (11, 0)) h0_ rfl, bx_val_x (n := 12) (e := (13, 0)) h0_ rfl, bx_val_x (n := 13) (e := (11, 0)) h0_ rfl, bx_val_x (n := 14) (e := (13, (-1))) h0_ rfl]
    exact g.2.2.1
  · show rxm189_9 S0 ws S_p (bx_val [(0, 0), (0, 0), (0, 0), (0, 0), (0, 0), (0, 0), (0, 0), (0, 0), (8, 0), (9, 0), (10, 0), (11, 0), (13, 0), (11, 0), (13, (-1))] r_p 8) (bx_val [(0, 0), (0, 0), (0, 0), (0, 0), (0, 0), (0, 0), (0, 0), (0, 0), (8, 0), (9, 0), (10, 0), (11, 0), (13, 0), (11, 0), (13, (-1))] r_p 9) (bx_val [(0, 0), (0, 0), (0, 0), (0, 0), (0, 0), (0, 0), (0, 0), (0, 0), (8, 0), (9, 0), (10, 0), (11, 0), (13, 0), (11, 0), (13, (-1))] r_p 10) (bx_val [(0, 0), (0, 0), (0, 0), (0, 0), (0, 0), (0, 0), (0, 0), (0, 0), (8, 0), (9, 0), (10, 0), (11, 0), (13, 0), (11, 0), (13, (-1))] r_p 11) (bx_val [(0, 0), (0, 0), (0, 0), (0, 0), (0, 0), (0, 0), (0, 0), (0, 0), (8, 0), (9, 0), (10, 0), (11, 0), (13, 0), (11, 0), (13, (-1))] r_p 12) (bx_val [(0, 0), (0, 0), (0, 0), (0, 0), (0, 0), (0, 0), (0, 0), (0, 0), (8, 0), (9, 0), (10, 0), (11, 0), (13, 0), (11, 0), (13, (-1))] r_p 13) (bx_val [(0, 0), (0, 0), (0, 0), (0, 0), (0, 0), (0, 0), (0, 0), (0, 0), (8, 0), (9, 0), (10, 0), (11, 0), (13, 0), (11, 0), (13, (-1))] r_p 14) < rxm189_8 S0 ws S_p (r 8) (r 9) (r 10) (r 11) (r 12) (r 13)
    rw [bx_val_x (n := 8) (e := (8, 0)) h0_ rfl, bx_val_x (n := 9) (e := (9, 0)) h0_ rfl, bx_val_x (n := 10) (e := (10, 0)) h0_ rfl, bx_val_x (n := 11) (e := (11, 0)) h0_ rfl, bx_val_x (n := 12) (e := (13, 0)) h0_ rfl, bx_val_x (n := 13) (e := (11, 0)) h0_ rfl, bx_val_x (n := 14) (e := (13, (-1))) h0_ rfl, ← hr_ 8 (by decide), ← hr_ 9 (by decide), ← hr_ 10 (by decide), ← hr_ 11 (by decide), ← hr_ 12 (by decide), ← hr_ 13 (by decide)]
    exact g.2.2.2
theorem rxc189_8_1 {S0 : Nat → Int → Int} {ws : List Int} {S : Nat → Int → Int} {part person what last a n : Int} (hP : rxP189 S0 ws) (hin : bx_same rxL (bx_mdl rxC189.2.2.1) S0 S) (I0 : bx_Inv rxL S) (hinv : rxI189_8 S0 ws S part person what last a n) (l8 : 0 ≤ part) (u8 : part ≤ 5) (l9 : 0 ≤ person) (u9 : person ≤ 7) (l10 : 20 ≤ what) (u10 : what ≤ 20) (l11 : 0 ≤ last) (u11 : last ≤ 7) (l12 : 0 ≤ a) (u12 : a ≤ 7) (l13 : 1 ≤ n) (u13 : n ≤ 8) : (True) ∧ (True) ∧ rxI189_10 S0 ws S part person what last 0 0 ∧ rxm189_10 S0 ws S part person what last 0 0 < rxm189_8 S0 ws S part person what last a n := by
  exact ⟨trivial, trivial, trivial, by unfold rxm189_8 rxm189_10; omega⟩
theorem rxg189_8_1 {X : (Nat → Int → Int) → Prop} {S0 : Nat → Int → Int} {ws : List Int} (hP : rxP189 S0 ws) : bx_obC rxL X S0 rxC189.2.2.1 (rxI189 S0 ws) (rxm189 S0 ws) 8 rxz189_8 rxo189_8_1 := by
  intro S S_p r r_p hinv hX hin hsm_ hseg
  obtain ⟨I0, I1, h0_, hr_, b_, f_, d_⟩ := bx_cl (evs := []) (fvs := []) hseg (by decide +kernel) (by decide +kernel)
  have hinv : rxI189_8 S0 ws S (r 8) (r 9) (r 10) (r 11) (r 12) (r 13) := hinv
  rw [← hr_ 8 (by decide), ← hr_ 9 (by decide), ← hr_ 10 (by decide), ← hr_ 11 (by decide), ← hr_ 12 (by decide), ← hr_ 13 (by decide)] at hinv
  obtain ⟨⟨l8, u8⟩, ⟨l9, u9⟩, ⟨l10, u10⟩, ⟨l11, u11⟩, ⟨l12, u12⟩, ⟨l13, u13⟩, -⟩ := b_
  have w_ := d_
  subst w_
  have g := rxc189_8_1 hP hin I0 hinv l8 u8 l9 u9 l10 u10 l11 u11 l12 u12 l13 u13
  refine ⟨bx_narP_ok (l := []) g.1, bx_nfP_ok h0_ (fvs := []) (by decide +kernel) g.2.1, ?_, ?_⟩
  · show rxI189_10 S0 ws S_p (bx_val [(0, 0), (0, 0), (0, 0), (0, 0), (0, 0), (0, 0), (0, 0), (0, 0), (8, 0), (9, 0), (10, 0), (11, 0), (0, 0), (0, 0)] r_p 8) (bx_val [(0, 0), (0, 0), (0, 0), (0, 0), (0, 0), (0, 0), (0, 0), (0, 0), (8, 0), (9, 0), (10, 0), (11, 0), (0, 0), (0, 0)] r_p 9) (bx_val [(0, 0), (0, 0), (0, 0), (0, 0), (0, 0), (0, 0), (0, 0), (0, 0), (8, 0), (9, 0), (10, 0), (11, 0), (0, 0), (0, 0)] r_p 10) (bx_val [(0, 0), (0, 0), (0, 0), (0, 0), (0, 0), (0, 0), (0, 0), (0, 0), (8, 0), (9, 0), (10, 0), (11, 0), (0, 0), (0, 0)] r_p 11) (bx_val [(0, 0), (0, 0), (0, 0), (0, 0), (0, 0), (0, 0), (0, 0), (0, 0), (8, 0), (9, 0), (10, 0), (11, 0), (0, 0), (0, 0)] r_p 12) (bx_val [(0, 0), (0, 0), (0, 0), (0, 0), (0, 0), (0, 0), (0, 0), (0, 0), (8, 0), (9, 0), (10, 0), (11, 0), (0, 0), (0, 0)] r_p 13)
    rw [bx_val_x (n := 8) (e := (8, 0)) h0_ rfl, bx_val_x (n := 9) (e := (9, 0)) h0_ rfl, bx_val_x (n := 10) (e := (10, 0)) h0_ rfl, bx_val_x (n := 11) (e := (11, 0)) h0_ rfl, bx_val_x (n := 12) (e := (0, 0)) h0_ rfl, bx_val_x (n := 13) (e := (0, 0)) h0_ rfl]
    exact g.2.2.1
  · show rxm189_10 S0 ws S_p (bx_val [(0, 0), (0, 0), (0, 0), (0, 0), (0, 0), (0, 0), (0, 0), (0, 0), (8, 0), (9, 0), (10, 0), (11, 0), (0, 0), (0, 0)] r_p 8) (bx_val [(0, 0), (0, 0), (0, 0), (0, 0), (0, 0), (0, 0), (0, 0), (0, 0), (8, 0), (9, 0), (10, 0), (11, 0), (0, 0), (0, 0)] r_p 9) (bx_val [(0, 0), (0, 0), (0, 0), (0, 0), (0, 0), (0, 0), (0, 0), (0, 0), (8, 0), (9, 0), (10, 0), (11, 0), (0, 0), (0, 0)] r_p 10) (bx_val [(0, 0), (0, 0), (0, 0), (0, 0), (0, 0), (0, 0), (0, 0), (0, 0), (8, 0), (9, 0), (10, 0), (11, 0), (0, 0), (0, 0)] r_p 11) (bx_val [(0, 0), (0, 0), (0, 0), (0, 0), (0, 0), (0, 0), (0, 0), (0, 0), (8, 0), (9, 0), (10, 0), (11, 0), (0, 0), (0, 0)] r_p 12) (bx_val [(0, 0), (0, 0), (0, 0), (0, 0), (0, 0), (0, 0), (0, 0), (0, 0), (8, 0), (9, 0), (10, 0), (11, 0), (0, 0), (0, 0)] r_p 13) < rxm189_8 S0 ws S_p (r 8) (r 9) (r 10) (r 11) (r 12) (r 13)
    rw [bx_val_x (n := 8) (e := (8, 0)) h0_ rfl, bx_val_x (n := 9) (e := (9, 0)) h0_ rfl, bx_val_x (n := 10) (e := (10, 0)) h0_ rfl, bx_val_x (n := 11) (e := (11, 0)) h0_ rfl, bx_val_x (n := 12) (e := (0, 0)) h0_ rfl, bx_val_x (n := 13) (e := (0, 0)) h0_ rfl, ← hr_ 8 (by decide), ← hr_ 9 (by decide), ← hr_ 10 (by decide), ← hr_ 11 (by decide), ← hr_ 12 (by decide), ← hr_ 13 (by decide)]
    exact g.2.2.2
theorem rxd189_8_0 {S0 : Nat → Int → Int} {ws : List Int} {S : Nat → Int → Int} {part person what last a n x14 x15 : Int} (hP : rxP189 S0 ws) (hin : bx_same rxL (bx_mdl rxC189.2.2.1) S0 S) (hin2 : bx_same rxL (bx_mdl rxC189.2.2.1) S S) (I0 : bx_Inv rxL S) (I1 : bx_Inv rxL S) (hinv : rxI189_8 S0 ws S part person what last a n) (l8 : 0 ≤ part) (u8 : part ≤ 5) (l9 : 0 ≤ person) (u9 : person ≤ 7) (l10 : 0 ≤ what) (u10 : what ≤ 0) (l11 : 0 ≤ last) (u11 : last ≤ 7) (l12 : 0 ≤ a) (u12 : a ≤ 7) (l13 : 1 ≤ n) (u13 : n ≤ 8) (l14 : 0 ≤ x14) (u14 : x14 ≤ 21) (l15 : 0 ≤ x15) (u15 : x15 ≤ 300) (f0 : x14 = 3 * (last)) (e0 : S 482 (x14 + 239) = x15) : (True) ∧ rxPS189 S0 ws S (some (x15 + (-1))) := by
  exact ⟨by first | trivial | exact ⟨by omega, trivial⟩, trivial⟩
theorem rxf189_8_0 {X : (Nat → Int → Int) → Prop} {S0 : Nat → Int → Int} {ws : List Int} (hP : rxP189 S0 ws) : bx_obE rxL X S0 rxC189.2.2.1 (rxI189 S0 ws) (rxPS189 S0 ws) 8 rxz189_8 rxe189_8_0 := by
  intro S S_p r r_p hinv hX hin hsm_ hseg
  obtain ⟨I0, I1, h0_, hr_, b_, f_, d_⟩ := bx_cl (evs := [(0, (0, 482), (14, 239), .inr (0, (15, 0)))]) (fvs := [(4, (14, 0), (11, 0), (0, 3))]) hseg (by decide +kernel) (by decide +kernel)
  have hinv : rxI189_8 S0 ws S (r 8) (r 9) (r 10) (r 11) (r 12) (r 13) := hinv
  rw [← hr_ 8 (by decide), ← hr_ 9 (by decide), ← hr_ 10 (by decide), ← hr_ 11 (by decide), ← hr_ 12 (by decide), ← hr_ 13 (by decide)] at hinv
  obtain ⟨⟨l8, u8⟩, ⟨l9, u9⟩, ⟨l10, u10⟩, ⟨l11, u11⟩, ⟨l12, u12⟩, ⟨l13, u13⟩, ⟨l14, u14⟩, ⟨l15, u15⟩, -⟩ := b_
  obtain ⟨f0, -⟩ := f_
  obtain ⟨e0, w_⟩ := d_
  subst w_
  have g := rxd189_8_0 hP hin hsm_ I0 I1 hinv l8 u8 l9 u9 l10 u10 l11 u11 l12 u12 l13 u13 l14 u14 l15 u15 f0 e0
  refine ⟨bx_narP_ok (l := []) g.1, ?_⟩
  show rxPS189 S0 ws S_p (some (bx_num r_p (.inr (0, (15, (-1))))))
  rw [bx_xv_ok h0_]
  exact g.2
theorem rxd189_8_1 {S0 : Nat → Int → Int} {ws : List Int} {S : Nat → Int → Int} {part person what last a n : Int} (hP : rxP189 S0 ws) (hin : bx_same rxL (bx_mdl rxC189.2.2.1) S0 S) (hin2 : bx_same rxL (bx_mdl rxC189.2.2.1) S S) (I0 : bx_Inv rxL S) (I1 : bx_Inv rxL S) (hinv : rxI189_8 S0 ws S part person what last a n) (l8 : 0 ≤ part) (u8 : part ≤ 5) (l9 : 0 ≤ person) (u9 : person ≤ 7) (l10 : 1 ≤ what) (u10 : what ≤ 1) (l11 : 0 ≤ last) (u11 : last ≤ 7) (l12 : 0 ≤ a) (u12 : a ≤ 7) (l13 : 1 ≤ n) (u13 : n ≤ 8) (f0 : what ≠ 0) : (True) ∧ rxPS189 S0 ws S (some n) := by
  exact ⟨by first | trivial | exact ⟨by omega, trivial⟩, trivial⟩
theorem rxf189_8_1 {X : (Nat → Int → Int) → Prop} {S0 : Nat → Int → Int} {ws : List Int} (hP : rxP189 S0 ws) : bx_obE rxL X S0 rxC189.2.2.1 (rxI189 S0 ws) (rxPS189 S0 ws) 8 rxz189_8 rxe189_8_1 := by
  intro S S_p r r_p hinv hX hin hsm_ hseg
  obtain ⟨I0, I1, h0_, hr_, b_, f_, d_⟩ := bx_cl (evs := []) (fvs := [(3, (10, 0), (0, 0), (0, 0))]) hseg (by decide +kernel) (by decide +kernel)
  have hinv : rxI189_8 S0 ws S (r 8) (r 9) (r 10) (r 11) (r 12) (r 13) := hinv
  rw [← hr_ 8 (by decide), ← hr_ 9 (by decide), ← hr_ 10 (by decide), ← hr_ 11 (by decide), ← hr_ 12 (by decide), ← hr_ 13 (by decide)] at hinv
  obtain ⟨⟨l8, u8⟩, ⟨l9, u9⟩, ⟨l10, u10⟩, ⟨l11, u11⟩, ⟨l12, u12⟩, ⟨l13, u13⟩, -⟩ := b_
  obtain ⟨f0, -⟩ := f_
  have w_ := d_
  subst w_
  have g := rxd189_8_1 hP hin hsm_ I0 I1 hinv l8 u8 l9 u9 l10 u10 l11 u11 l12 u12 l13 u13 f0
  refine ⟨bx_narP_ok (l := []) g.1, ?_⟩
  show rxPS189 S0 ws S_p (some (bx_num r_p (.inr (0, (13, 0)))))
  rw [bx_xv_ok h0_]
  exact g.2
theorem rxc189_9_0 {S0 : Nat → Int → Int} {ws : List Int} {S : Nat → Int → Int} {part person what last n at_ k x15 : Int} (hP : rxP189 S0 ws) (hin : bx_same rxL (bx_mdl rxC189.2.2.1) S0 S) (I0 : bx_Inv rxL S) (hinv : rxI189_9 S0 ws S part person what last n at_ k) (l8 : 0 ≤ part) (u8 : part ≤ 5) (l9 : 0 ≤ person) (u9 : person ≤ 7) (l10 : 2 ≤ what) (u10 : what ≤ 8) (l11 : 0 ≤ last) (u11 : last ≤ 7) (l12 : 1 ≤ n) (u12 : n ≤ 8) (l13 : 0 ≤ at_) (u13 : at_ ≤ 7) (l14 : 1 ≤ k) (u14 : k ≤ 7) (l15 : (-1) ≤ x15) (u15 : x15 ≤ 7) (f0 : what + (-2) < k) (e0 : S 507 at_ = x15) : ((0 ≤ x15 ∧ x15 ≤ 7) ∧ True) ∧ (True) ∧ rxI189_9 S0 ws S part person what last n x15 (k + (-1)) ∧ rxm189_9 S0 ws S part person what last n x15 (k + (-1)) < rxm189_9 S0 ws S part person what last n at_ k := by
  obtain ⟨h1, ⟨ρ, hρ⟩, hk⟩ := hinv
  have hr := hρ at_ (by omega) (by omega) h1
  rw [e0] at hr
  exact ⟨⟨by omega, trivial⟩, trivial, ⟨hr.2.2.2.1, ⟨ρ, hρ⟩, by omega⟩, by unfold rxm189_9; omega⟩
theorem rxg189_9_0 {X : (Nat → Int → Int) → Prop} {S0 : Nat → Int → Int} {ws : List Int} (hP : rxP189 S0 ws) : bx_obC rxL X S0 rxC189.2.2.1 (rxI189 S0 ws) (rxm189 S0 ws) 9 rxz189_9 rxo189_9_0 := by
  intro S S_p r r_p hinv hX hin hsm_ hseg
  obtain ⟨I0, I1, h0_, hr_, b_, f_, d_⟩ := bx_cl (evs := [(0, (0, 507), (13, 0), .inr (0, (15, 0)))]) (fvs := [(0, (10, (-2)), (14, 0), (0, 0))]) hseg (by decide +kernel) (by decide +kernel)
  have hinv : rxI189_9 S0 ws S (r 8) (r 9) (r 10) (r 11) (r 12) (r 13) (r 14) := hinv
  rw [← hr_ 8 (by decide), ← hr_ 9 (by decide), ← hr_ 10 (by decide), ← hr_ 11 (by decide), ← hr_ 12 (by decide), ← hr_ 13 (by decide), ← hr_ 14 (by decide)] at hinv
  obtain ⟨⟨l8, u8⟩, ⟨l9, u9⟩, ⟨l10, u10⟩, ⟨l11, u11⟩, ⟨l12, u12⟩, ⟨l13, u13⟩, ⟨l14, u14⟩, ⟨l15, u15⟩, -⟩ := b_
  obtain ⟨f0, -⟩ := f_
  obtain ⟨e0, w_⟩ := d_
  subst w_
  have g := rxc189_9_0 hP hin I0 hinv l8 u8 l9 u9 l10 u10 l11 u11 l12 u12 l13 u13 l14 u14 l15 u15 f0 e0
  refine ⟨bx_narP_ok (l := [(15, 0, 7)]) g.1, bx_nfP_ok h0_ (fvs := []) (by decide +kernel) g.2.1, ?_, ?_⟩
  · show rxI189_9 S0 ws S_p (bx_val [(0, 0), (0, 0), (0, 0), (0, 0), (0, 0), (0, 0), (0, 0), (0, 0), (8, 0), (9, 0), (10, 0), (11, 0), (12, 0), (15, 0), (14, (-1))] r_p 8) (bx_val [(0, 0), (0, 0), (0, 0), (0, 0), (0, 0), (0, 0), (0, 0), (0, 0), (8, 0), (9, 0), (10, 0), (11, 0), (12, 0), (15, 0), (14, (-1))] r_p 9) (bx_val [(0, 0), (0, 0), (0, 0), (0, 0), (0, 0), (0, 0), (0, 0), (0, 0), (8, 0), (9, 0), (10, 0), (11, 0), (12, 0), (15, 0), (14, (-1))] r_p 10) (bx_val [(0, 0), (0, 0), (0, 0), (0, 0), (0, 0), (0, 0), (0, 0), (0, 0), (8, 0), (9, 0), (10, 0), (11, 0), (12, 0), (15, 0), (14, (-1))] r_p 11) (bx_val [(0, 0), (0, 0), (0, 0), (0, 0), (0, 0), (0, 0), (0, 0), (0, 0), (8, 0), (9, 0), (10, 0), (11, 0), (12, 0), (15, 0), (14, (-1))] r_p 12) (bx_val [(0, 0), (0, 0), (0, 0), (0, 0), (0, 0), (0, 0), (0, 0), (0, 0), (8, 0), (9, 0), (10, 0), (11, 0), (12, 0), (15, 0), (14, (-1))] r_p 13) (bx_val [(0, 0), (0, 0), (0, 0), (0, 0), (0, 0), (0, 0), (0, 0), (0, 0), (8, 0), (9, 0), (10, 0), (11, 0), (12, 0), (15, 0), (14, (-1))] r_p 14)
    rw [bx_val_x (n := 8) (e := (8, 0)) h0_ rfl, bx_val_x (n := 9) (e := (9, 0)) h0_ rfl, bx_val_x (n := 10) (e := (10, 0)) h0_ rfl, bx_val_x (n := 11) (e := (11, 0)) h0_ rfl, bx_val_x (n := 12) (e := (12, 0)) h0_ rfl, bx_val_x (n := 13) (e := (15, 0)) h0_ rfl, bx_val_x (n := 14) (e := (14, (-1))) h0_ rfl]
    exact g.2.2.1
  · show rxm189_9 S0 ws S_p (bx_val [(0, 0), (0, 0), (0, 0), (0, 0), (0, 0), (0, 0), (0, 0), (0, 0), (8, 0), (9, 0), (10, 0), (11, 0), (12, 0), (15, 0), (14, (-1))] r_p 8) (bx_val [(0, 0), (0, 0), (0, 0), (0, 0), (0, 0), (0, 0), (0, 0), (0, 0), (8, 0), (9, 0), (10, 0), (11, 0), (12, 0), (15, 0), (14, (-1))] r_p 9) (bx_val [(0, 0), (0, 0), (0, 0), (0, 0), (0, 0), (0, 0), (0, 0), (0, 0), (8, 0), (9, 0), (10, 0), (11, 0), (12, 0), (15, 0), (14, (-1))] r_p 10) (bx_val [(0, 0), (0, 0), (0, 0), (0, 0), (0, 0), (0, 0), (0, 0), (0, 0), (8, 0), (9, 0), (10, 0), (11, 0), (12, 0), (15, 0), (14, (-1))] r_p 11) (bx_val [(0, 0), (0, 0), (0, 0), (0, 0), (0, 0), (0, 0), (0, 0), (0, 0), (8, 0), (9, 0), (10, 0), (11, 0), (12, 0), (15, 0), (14, (-1))] r_p 12) (bx_val [(0, 0), (0, 0), (0, 0), (0, 0), (0, 0), (0, 0), (0, 0), (0, 0), (8, 0), (9, 0), (10, 0), (11, 0), (12, 0), (15, 0), (14, (-1))] r_p 13) (bx_val [(0, 0), (0, 0), (0, 0), (0, 0), (0, 0), (0, 0), (0, 0), (0, 0), (8, 0), (9, 0), (10, 0), (11, 0), (12, 0), (15, 0), (14, (-1))] r_p 14) < rxm189_9 S0 ws S_p (r 8) (r 9) (r 10) (r 11) (r 12) (r 13) (r 14)
    rw [bx_val_x (n := 8) (e := (8, 0)) h0_ rfl, bx_val_x (n := 9) (e := (9, 0)) h0_ rfl, bx_val_x (n := 10) (e := (10, 0)) h0_ rfl, bx_val_x (n := 11) (e := (11, 0)) h0_ rfl, bx_val_x (n := 12) (e := (12, 0)) h0_ rfl, bx_val_x (n := 13) (e := (15, 0)) h0_ rfl, bx_val_x (n := 14) (e := (14, (-1))) h0_ rfl, ← hr_ 8 (by decide), ← hr_ 9 (by decide), ← hr_ 10 (by decide), ← hr_ 11 (by decide), ← hr_ 12 (by decide), ← hr_ 13 (by decide), ← hr_ 14 (by decide)]
    exact g.2.2.2
theorem rxd189_9_0 {S0 : Nat → Int → Int} {ws : List Int} {S : Nat → Int → Int} {part person what last n at_ k : Int} (hP : rxP189 S0 ws) (hin : bx_same rxL (bx_mdl rxC189.2.2.1) S0 S) (hin2 : bx_same rxL (bx_mdl rxC189.2.2.1) S S) (I0 : bx_Inv rxL S) (I1 : bx_Inv rxL S) (hinv : rxI189_9 S0 ws S part person what last n at_ k) (l8 : 0 ≤ part) (u8 : part ≤ 5) (l9 : 0 ≤ person) (u9 : person ≤ 7) (l10 : 2 ≤ what) (u10 : what ≤ 9) (l11 : 0 ≤ last) (u11 : last ≤ 7) (l12 : 1 ≤ n) (u12 : n ≤ 8) (l13 : 0 ≤ at_) (u13 : at_ ≤ 7) (l14 : 0 ≤ k) (u14 : k ≤ 7) (f0 : what + (-2) < n) (f1 : k ≤ what + (-2)) : (True) ∧ rxPS189 S0 ws S (some at_) := by
  exact ⟨by first | trivial | exact ⟨by omega, trivial⟩, trivial⟩
theorem rxf189_9_0 {X : (Nat → Int → Int) → Prop} {S0 : Nat → Int → Int} {ws : List Int} (hP : rxP189 S0 ws) : bx_obE rxL X S0 rxC189.2.2.1 (rxI189 S0 ws) (rxPS189 S0 ws) 9 rxz189_9 rxe189_9_0 := by
  intro S S_p r r_p hinv hX hin hsm_ hseg
  obtain ⟨I0, I1, h0_, hr_, b_, f_, d_⟩ := bx_cl (evs := []) (fvs := [(0, (10, (-2)), (12, 0), (0, 0)), (1, (14, 0), (10, (-2)), (0, 0))]) hseg (by decide +kernel) (by decide +kernel)
  have hinv : rxI189_9 S0 ws S (r 8) (r 9) (r 10) (r 11) (r 12) (r 13) (r 14) := hinv
  rw [← hr_ 8 (by decide), ← hr_ 9 (by decide), ← hr_ 10 (by decide), ← hr_ 11 (by decide), ← hr_ 12 (by decide), ← hr_ 13 (by decide), ← hr_ 14 (by decide)] at hinv
  obtain ⟨⟨l8, u8⟩, ⟨l9, u9⟩, ⟨l10, u10⟩, ⟨l11, u11⟩, ⟨l12, u12⟩, ⟨l13, u13⟩, ⟨l14, u14⟩, -⟩ := b_
  obtain ⟨f0, f1, -⟩ := f_
  have w_ := d_
  subst w_
  have g := rxd189_9_0 hP hin hsm_ I0 I1 hinv l8 u8 l9 u9 l10 u10 l11 u11 l12 u12 l13 u13 l14 u14 f0 f1
  refine ⟨bx_narP_ok (l := []) g.1, ?_⟩
  show rxPS189 S0 ws S_p (some (bx_num r_p (.inr (0, (13, 0)))))
  rw [bx_xv_ok h0_]
  exact g.2
theorem rxd189_9_1 {S0 : Nat → Int → Int} {ws : List Int} {S : Nat → Int → Int} {part person what last n at_ k : Int} (hP : rxP189 S0 ws) (hin : bx_same rxL (bx_mdl rxC189.2.2.1) S0 S) (hin2 : bx_same rxL (bx_mdl rxC189.2.2.1) S S) (I0 : bx_Inv rxL S) (I1 : bx_Inv rxL S) (hinv : rxI189_9 S0 ws S part person what last n at_ k) (l8 : 0 ≤ part) (u8 : part ≤ 5) (l9 : 0 ≤ person) (u9 : person ≤ 7) (l10 : 3 ≤ what) (u10 : what ≤ 9) (l11 : 0 ≤ last) (u11 : last ≤ 7) (l12 : 1 ≤ n) (u12 : n ≤ 7) (l13 : 0 ≤ at_) (u13 : at_ ≤ 7) (l14 : 0 ≤ k) (u14 : k ≤ 7) (f0 : n ≤ what + (-2)) (f1 : k ≤ what + (-2)) : (True) ∧ rxPS189 S0 ws S (some ((-1))) := by
  exact ⟨by first | trivial | exact ⟨by omega, trivial⟩, trivial⟩
theorem rxf189_9_1 {X : (Nat → Int → Int) → Prop} {S0 : Nat → Int → Int} {ws : List Int} (hP : rxP189 S0 ws) : bx_obE rxL X S0 rxC189.2.2.1 (rxI189 S0 ws) (rxPS189 S0 ws) 9 rxz189_9 rxe189_9_1 := by
  intro S S_p r r_p hinv hX hin hsm_ hseg
  obtain ⟨I0, I1, h0_, hr_, b_, f_, d_⟩ := bx_cl (evs := []) (fvs := [(1, (12, 0), (10, (-2)), (0, 0)), (1, (14, 0), (10, (-2)), (0, 0))]) hseg (by decide +kernel) (by decide +kernel)
  have hinv : rxI189_9 S0 ws S (r 8) (r 9) (r 10) (r 11) (r 12) (r 13) (r 14) := hinv
  rw [← hr_ 8 (by decide), ← hr_ 9 (by decide), ← hr_ 10 (by decide), ← hr_ 11 (by decide), ← hr_ 12 (by decide), ← hr_ 13 (by decide), ← hr_ 14 (by decide)] at hinv
  obtain ⟨⟨l8, u8⟩, ⟨l9, u9⟩, ⟨l10, u10⟩, ⟨l11, u11⟩, ⟨l12, u12⟩, ⟨l13, u13⟩, ⟨l14, u14⟩, -⟩ := b_
  obtain ⟨f0, f1, -⟩ := f_
  have w_ := d_
  subst w_
  have g := rxd189_9_1 hP hin hsm_ I0 I1 hinv l8 u8 l9 u9 l10 u10 l11 u11 l12 u12 l13 u13 l14 u14 f0 f1
  refine ⟨bx_narP_ok (l := []) g.1, ?_⟩
  show rxPS189 S0 ws S_p (some (bx_num r_p (.inr (0, (0, (-1))))))
  rw [bx_xv_ok h0_]
  exact g.2
theorem rxc189_10_0 {S0 : Nat → Int → Int} {ws : List Int} {S : Nat → Int → Int} {part person what last nd p x14 : Int} (hP : rxP189 S0 ws) (hin : bx_same rxL (bx_mdl rxC189.2.2.1) S0 S) (I0 : bx_Inv rxL S) (hinv : rxI189_10 S0 ws S part person what last nd p) (l8 : 0 ≤ part) (u8 : part ≤ 5) (l9 : 0 ≤ person) (u9 : person ≤ 7) (l10 : 0 ≤ what) (u10 : what ≤ 20) (l11 : 0 ≤ last) (u11 : last ≤ 7) (l12 : 0 ≤ nd) (u12 : nd ≤ 255) (l13 : 0 ≤ p) (u13 : p ≤ 7) (l14 : 1 ≤ x14) (u14 : x14 ≤ 8) (f0 : p < x14) (e0 : S 482 1 = x14) : (True) ∧ (True) ∧ rxI189_11 S0 ws S part person what last nd p person p ∧ rxm189_11 S0 ws S part person what last nd p person p < rxm189_10 S0 ws S part person what last nd p := by
  exact ⟨trivial, trivial, trivial, by unfold rxm189_10 rxm189_11; omega⟩
theorem rxg189_10_0 {X : (Nat → Int → Int) → Prop} {S0 : Nat → Int → Int} {ws : List Int} (hP : rxP189 S0 ws) : bx_obC rxL X S0 rxC189.2.2.1 (rxI189 S0 ws) (rxm189 S0 ws) 10 rxz189_10 rxo189_10_0 := by
  intro S S_p r r_p hinv hX hin hsm_ hseg
  obtain ⟨I0, I1, h0_, hr_, b_, f_, d_⟩ := bx_cl (evs := [(0, (0, 482), (0, 1), .inr (0, (14, 0)))]) (fvs := [(0, (13, 0), (14, 0), (0, 0))]) hseg (by decide +kernel) (by decide +kernel)
  have hinv : rxI189_10 S0 ws S (r 8) (r 9) (r 10) (r 11) (r 12) (r 13) := hinv
  rw [← hr_ 8 (by decide), ← hr_ 9 (by decide), ← hr_ 10 (by decide), ← hr_ 11 (by decide), ← hr_ 12 (by decide), ← hr_ 13 (by decide)] at hinv
  obtain ⟨⟨l8, u8⟩, ⟨l9, u9⟩, ⟨l10, u10⟩, ⟨l11, u11⟩, ⟨l12, u12⟩, ⟨l13, u13⟩, ⟨l14, u14⟩, -⟩ := b_
  obtain ⟨f0, -⟩ := f_
  obtain ⟨e0, w_⟩ := d_
  subst w_
  have g := rxc189_10_0 hP hin I0 hinv l8 u8 l9 u9 l10 u10 l11 u11 l12 u12 l13 u13 l14 u14 f0 e0
  refine ⟨bx_narP_ok (l := []) g.1, bx_nfP_ok h0_ (fvs := []) (by decide +kernel) g.2.1, ?_, ?_⟩
  · show rxI189_11 S0 ws S_p (bx_val [(0, 0), (0, 0), (0, 0), (0, 0), (0, 0), (0, 0), (0, 0), (0, 0), (8, 0), (9, 0), (10, 0), (11, 0), (12, 0), (13, 0), (9, 0), (13, 0)] r_p 8) (bx_val [(0, 0), (0, 0), (0, 0), (0, 0), (0, 0), (0, 0), (0, 0), (0, 0), (8, 0), (9, 0), (10, 0), (11, 0), (12, 0), (13, 0), (9, 0), (13, 0)] r_p 9) (bx_val [(0, 0), (0, 0), (0, 0), (0, 0), (0, 0), (0, 0), (0, 0), (0, 0), (8, 0), (9, 0), (10, 0), (11, 0), (12, 0), (13, 0), (9, 0), (13, 0)] r_p 10) (bx_val [(0, 0), (0, 0), (0, 0), (0, 0), (0, 0), (0, 0), (0, 0), (0, 0), (8, 0), (9, 0), (10, 0), (11, 0), (12, 0), (13, 0), (9, 0), (13, 0)] r_p 11) (bx_val [(0, 0), (0, 0), (0, 0), (0, 0), (0, 0), (0, 0), (0, 0), (0, 0), (8, 0), (9, 0), (10, 0), (11, 0), (12, 0), (13, 0), (9, 0), (13, 0)] r_p 12) (bx_val [(0, 0), (0, 0), (0, 0), (0, 0), (0, 0), (0, 0), (0, 0), (0, 0), (8, 0), (9, 0), (10, 0), (11, 0), (12, 0), (13, 0), (9, 0), (13, 0)] r_p 13) (bx_val [(0, 0), (0, 0), (0, 0), (0, 0), (0, 0), (0, 0), (0, 0), (0, 0), (8, 0), (9, 0), (10, 0), (11, 0), (12, 0), (13, 0), (9, 0), (13, 0)] r_p 14) (bx_val [(0, 0), (0, 0), (0, 0), (0, 0), (0, 0), (0, 0), (0, 0), (0, 0), (8, 0), (9, 0), (10, 0), (11, 0), (12, 0), (13, 0), (9, 0), (13, 0)] r_p 15)
    rw [bx_val_x (n := 8) (e := (8, 0)) h0_ rfl, bx_val_x (n := 9) (e := (9, 0)) h0_ rfl, bx_val_x (n := 10) (e := (10, 0)) h0_ rfl, bx_val_x (n := 11) (e := (11, 0)) h0_ rfl, bx_val_x (n := 12) (e := (12, 0)) h0_ rfl, bx_val_x (n := 13) (e := (13, 0)) h0_ rfl, bx_val_x (n := 14) (e := (9, 0)) h0_ rfl, bx_val_x (n := 15) (e := (13, 0)) h0_ rfl]
    exact g.2.2.1
  · show rxm189_11 S0 ws S_p (bx_val [(0, 0), (0, 0), (0, 0), (0, 0), (0, 0), (0, 0), (0, 0), (0, 0), (8, 0), (9, 0), (10, 0), (11, 0), (12, 0), (13, 0), (9, 0), (13, 0)] r_p 8) (bx_val [(0, 0), (0, 0), (0, 0), (0, 0), (0, 0), (0, 0), (0, 0), (0, 0), (8, 0), (9, 0), (10, 0), (11, 0), (12, 0), (13, 0), (9, 0), (13, 0)] r_p 9) (bx_val [(0, 0), (0, 0), (0, 0), (0, 0), (0, 0), (0, 0), (0, 0), (0, 0), (8, 0), (9, 0), (10, 0), (11, 0), (12, 0), (13, 0), (9, 0), (13, 0)] r_p 10) (bx_val [(0, 0), (0, 0), (0, 0), (0, 0), (0, 0), (0, 0), (0, 0), (0, 0), (8, 0), (9, 0), (10, 0), (11, 0), (12, 0), (13, 0), (9, 0), (13, 0)] r_p 11) (bx_val [(0, 0), (0, 0), (0, 0), (0, 0), (0, 0), (0, 0), (0, 0), (0, 0), (8, 0), (9, 0), (10, 0), (11, 0), (12, 0), (13, 0), (9, 0), (13, 0)] r_p 12) (bx_val [(0, 0), (0, 0), (0, 0), (0, 0), (0, 0), (0, 0), (0, 0), (0, 0), (8, 0), (9, 0), (10, 0), (11, 0), (12, 0), (13, 0), (9, 0), (13, 0)] r_p 13) (bx_val [(0, 0), (0, 0), (0, 0), (0, 0), (0, 0), (0, 0), (0, 0), (0, 0), (8, 0), (9, 0), (10, 0), (11, 0), (12, 0), (13, 0), (9, 0), (13, 0)] r_p 14) (bx_val [(0, 0), (0, 0), (0, 0), (0, 0), (0, 0), (0, 0), (0, 0), (0, 0), (8, 0), (9, 0), (10, 0), (11, 0), (12, 0), (13, 0), (9, 0), (13, 0)] r_p 15) < rxm189_10 S0 ws S_p (r 8) (r 9) (r 10) (r 11) (r 12) (r 13)
    rw [bx_val_x (n := 8) (e := (8, 0)) h0_ rfl, bx_val_x (n := 9) (e := (9, 0)) h0_ rfl, bx_val_x (n := 10) (e := (10, 0)) h0_ rfl, bx_val_x (n := 11) (e := (11, 0)) h0_ rfl, bx_val_x (n := 12) (e := (12, 0)) h0_ rfl, bx_val_x (n := 13) (e := (13, 0)) h0_ rfl, bx_val_x (n := 14) (e := (9, 0)) h0_ rfl, bx_val_x (n := 15) (e := (13, 0)) h0_ rfl, ← hr_ 8 (by decide), ← hr_ 9 (by decide), ← hr_ 10 (by decide), ← hr_ 11 (by decide), ← hr_ 12 (by decide), ← hr_ 13 (by decide)]
    exact g.2.2.2
theorem rxd189_10_0 {S0 : Nat → Int → Int} {ws : List Int} {S : Nat → Int → Int} {part person what last nd p x14 : Int} (hP : rxP189 S0 ws) (hin : bx_same rxL (bx_mdl rxC189.2.2.1) S0 S) (hin2 : bx_same rxL (bx_mdl rxC189.2.2.1) S S) (I0 : bx_Inv rxL S) (I1 : bx_Inv rxL S) (hinv : rxI189_10 S0 ws S part person what last nd p) (l8 : 0 ≤ part) (u8 : part ≤ 5) (l9 : 0 ≤ person) (u9 : person ≤ 7) (l10 : 0 ≤ what) (u10 : what ≤ 20) (l11 : 0 ≤ last) (u11 : last ≤ 7) (l12 : 0 ≤ nd) (u12 : nd ≤ 255) (l13 : 0 ≤ p) (u13 : p ≤ 8) (l14 : 0 ≤ x14) (u14 : x14 ≤ 8) (f0 : x14 ≤ p) (e0 : S 482 1 = x14) : (True) ∧ rxPS189 S0 ws S (some nd) := by
  exact ⟨by first | trivial | exact ⟨by omega, trivial⟩, trivial⟩
theorem rxf189_10_0 {X : (Nat → Int → Int) → Prop} {S0 : Nat → Int → Int} {ws : List Int} (hP : rxP189 S0 ws) : bx_obE rxL X S0 rxC189.2.2.1 (rxI189 S0 ws) (rxPS189 S0 ws) 10 rxz189_10 rxe189_10_0 := by
  intro S S_p r r_p hinv hX hin hsm_ hseg
  obtain ⟨I0, I1, h0_, hr_, b_, f_, d_⟩ := bx_cl (evs := [(0, (0, 482), (0, 1), .inr (0, (14, 0)))]) (fvs := [(1, (14, 0), (13, 0), (0, 0))]) hseg (by decide +kernel) (by decide +kernel)
  have hinv : rxI189_10 S0 ws S (r 8) (r 9) (r 10) (r 11) (r 12) (r 13) := hinv
  rw [← hr_ 8 (by decide), ← hr_ 9 (by decide), ← hr_ 10 (by decide), ← hr_ 11 (by decide), ← hr_ 12 (by decide), ← hr_ 13 (by decide)] at hinv
  obtain ⟨⟨l8, u8⟩, ⟨l9, u9⟩, ⟨l10, u10⟩, ⟨l11, u11⟩, ⟨l12, u12⟩, ⟨l13, u13⟩, ⟨l14, u14⟩, -⟩ := b_
  obtain ⟨f0, -⟩ := f_
  obtain ⟨e0, w_⟩ := d_
  subst w_
  have g := rxd189_10_0 hP hin hsm_ I0 I1 hinv l8 u8 l9 u9 l10 u10 l11 u11 l12 u12 l13 u13 l14 u14 f0 e0
  refine ⟨bx_narP_ok (l := []) g.1, ?_⟩
  show rxPS189 S0 ws S_p (some (bx_num r_p (.inr (0, (12, 0)))))
  rw [bx_xv_ok h0_]
  exact g.2
theorem rxc189_12_0 {S0 : Nat → Int → Int} {ws : List Int} {S : Nat → Int → Int} {part person what last nd p a b : Int} (hP : rxP189 S0 ws) (hin : bx_same rxL (bx_mdl rxC189.2.2.1) S0 S) (I0 : bx_Inv rxL S) (hinv : rxI189_12 S0 ws S part person what last nd p a b) (l8 : 0 ≤ part) (u8 : part ≤ 5) (l9 : 0 ≤ person) (u9 : person ≤ 7) (l10 : 0 ≤ what) (u10 : what ≤ 20) (l11 : 0 ≤ last) (u11 : last ≤ 7) (l12 : 0 ≤ nd) (u12 : nd ≤ 255) (l13 : 0 ≤ p) (u13 : p ≤ 7) (l14 : 0 ≤ a) (u14 : a ≤ 7) (l15 : 0 ≤ b) (u15 : b ≤ 7) (f0 : p ≠ person) : (True) ∧ (True) ∧ rxI189_13 S0 ws S part person what last nd p nd ∧ rxm189_13 S0 ws S part person what last nd p nd < rxm189_12 S0 ws S part person what last nd p a b := by
  exact ⟨trivial, trivial, hinv, by unfold rxm189_12 rxm189_13; omega⟩
theorem rxg189_12_0 {X : (Nat → Int → Int) → Prop} {S0 : Nat → Int → Int} {ws : List Int} (hP : rxP189 S0 ws) : bx_obC rxL X S0 rxC189.2.2.1 (rxI189 S0 ws) (rxm189 S0 ws) 12 rxz189_12 rxo189_12_0 := by
  intro S S_p r r_p hinv hX hin hsm_ hseg
  obtain ⟨I0, I1, h0_, hr_, b_, f_, d_⟩ := bx_cl (evs := []) (fvs := [(3, (13, 0), (9, 0), (0, 0))]) hseg (by decide +kernel) (by decide +kernel)
  have hinv : rxI189_12 S0 ws S (r 8) (r 9) (r 10) (r 11) (r 12) (r 13) (r 14) (r 15) := hinv
  rw [← hr_ 8 (by decide), ← hr_ 9 (by decide), ← hr_ 10 (by decide), ← hr_ 11 (by decide), ← hr_ 12 (by decide), ← hr_ 13 (by decide), ← hr_ 14 (by decide), ← hr_ 15 (by decide)] at hinv
  obtain ⟨⟨l8, u8⟩, ⟨l9, u9⟩, ⟨l10, u10⟩, ⟨l11, u11⟩, ⟨l12, u12⟩, ⟨l13, u13⟩, ⟨l14, u14⟩, ⟨l15, u15⟩, -⟩ := b_
  obtain ⟨f0, -⟩ := f_
  have w_ := d_
  subst w_
  have g := rxc189_12_0 hP hin I0 hinv l8 u8 l9 u9 l10 u10 l11 u11 l12 u12 l13 u13 l14 u14 l15 u15 f0
  refine ⟨bx_narP_ok (l := []) g.1, bx_nfP_ok h0_ (fvs := []) (by decide +kernel) g.2.1, ?_, ?_⟩
  · show rxI189_13 S0 ws S_p (bx_val [(0, 0), (0, 0), (0, 0), (0, 0), (0, 0), (0, 0), (0, 0), (0, 0), (8, 0), (9, 0), (10, 0), (11, 0), (12, 0), (13, 0), (12, 0)] r_p 8) (bx_val [(0, 0), (0, 0), (0, 0), (0, 0), (0, 0), (0, 0), (0, 0), (0, 0), (8, 0), (9, 0), (10, 0), (11, 0), (12, 0), (13, 0), (12, 0)] r_p 9) (bx_val [(0, 0), (0, 0), (0, 0), (0, 0), (0, 0), (0, 0), (0, 0), (0, 0), (8, 0), (9, 0), (10, 0), (11, 0), (12, 0), (13, 0), (12, 0)] r_p 10) (bx_val [(0, 0), (0, 0), (0, 0), (0, 0), (0, 0), (0, 0), (0, 0), (0, 0), (8, 0), (9, 0), (10, 0), (11, 0), (12, 0), (13, 0), (12, 0)] r_p 11) (bx_val [(0, 0), (0, 0), (0, 0), (0, 0), (0, 0), (0, 0), (0, 0), (0, 0), (8, 0), (9, 0), (10, 0), (11, 0), (12, 0), (13, 0), (12, 0)] r_p 12) (bx_val [(0, 0), (0, 0), (0, 0), (0, 0), (0, 0), (0, 0), (0, 0), (0, 0), (8, 0), (9, 0), (10, 0), (11, 0), (12, 0), (13, 0), (12, 0)] r_p 13) (bx_val [(0, 0), (0, 0), (0, 0), (0, 0), (0, 0), (0, 0), (0, 0), (0, 0), (8, 0), (9, 0), (10, 0), (11, 0), (12, 0), (13, 0), (12, 0)] r_p 14)
    rw [bx_val_x (n := 8) (e := (8, 0)) h0_ rfl, bx_val_x (n := 9) (e := (9, 0)) h0_ rfl, bx_val_x (n := 10) (e := (10, 0)) h0_ rfl, bx_val_x (n := 11) (e := (11, 0)) h0_ rfl, bx_val_x (n := 12) (e := (12, 0)) h0_ rfl, bx_val_x (n := 13) (e := (13, 0)) h0_ rfl, bx_val_x (n := 14) (e := (12, 0)) h0_ rfl]
    exact g.2.2.1
  · show rxm189_13 S0 ws S_p (bx_val [(0, 0), (0, 0), (0, 0), (0, 0), (0, 0), (0, 0), (0, 0), (0, 0), (8, 0), (9, 0), (10, 0), (11, 0), (12, 0), (13, 0), (12, 0)] r_p 8) (bx_val [(0, 0), (0, 0), (0, 0), (0, 0), (0, 0), (0, 0), (0, 0), (0, 0), (8, 0), (9, 0), (10, 0), (11, 0), (12, 0), (13, 0), (12, 0)] r_p 9) (bx_val [(0, 0), (0, 0), (0, 0), (0, 0), (0, 0), (0, 0), (0, 0), (0, 0), (8, 0), (9, 0), (10, 0), (11, 0), (12, 0), (13, 0), (12, 0)] r_p 10) (bx_val [(0, 0), (0, 0), (0, 0), (0, 0), (0, 0), (0, 0), (0, 0), (0, 0), (8, 0), (9, 0), (10, 0), (11, 0), (12, 0), (13, 0), (12, 0)] r_p 11) (bx_val [(0, 0), (0, 0), (0, 0), (0, 0), (0, 0), (0, 0), (0, 0), (0, 0), (8, 0), (9, 0), (10, 0), (11, 0), (12, 0), (13, 0), (12, 0)] r_p 12) (bx_val [(0, 0), (0, 0), (0, 0), (0, 0), (0, 0), (0, 0), (0, 0), (0, 0), (8, 0), (9, 0), (10, 0), (11, 0), (12, 0), (13, 0), (12, 0)] r_p 13) (bx_val [(0, 0), (0, 0), (0, 0), (0, 0), (0, 0), (0, 0), (0, 0), (0, 0), (8, 0), (9, 0), (10, 0), (11, 0), (12, 0), (13, 0), (12, 0)] r_p 14) < rxm189_12 S0 ws S_p (r 8) (r 9) (r 10) (r 11) (r 12) (r 13) (r 14) (r 15)
    rw [bx_val_x (n := 8) (e := (8, 0)) h0_ rfl, bx_val_x (n := 9) (e := (9, 0)) h0_ rfl, bx_val_x (n := 10) (e := (10, 0)) h0_ rfl, bx_val_x (n := 11) (e := (11, 0)) h0_ rfl, bx_val_x (n := 12) (e := (12, 0)) h0_ rfl, bx_val_x (n := 13) (e := (13, 0)) h0_ rfl, bx_val_x (n := 14) (e := (12, 0)) h0_ rfl, ← hr_ 8 (by decide), ← hr_ 9 (by decide), ← hr_ 10 (by decide), ← hr_ 11 (by decide), ← hr_ 12 (by decide), ← hr_ 13 (by decide), ← hr_ 14 (by decide), ← hr_ 15 (by decide)]
    exact g.2.2.2
theorem rxc189_12_1 {S0 : Nat → Int → Int} {ws : List Int} {S : Nat → Int → Int} {part person what last nd p a b x16 : Int} (hP : rxP189 S0 ws) (hin : bx_same rxL (bx_mdl rxC189.2.2.1) S0 S) (I0 : bx_Inv rxL S) (hinv : rxI189_12 S0 ws S part person what last nd p a b) (l8 : 0 ≤ part) (u8 : part ≤ 5) (l9 : 0 ≤ person) (u9 : person ≤ 7) (l10 : 0 ≤ what) (u10 : what ≤ 20) (l11 : 0 ≤ last) (u11 : last ≤ 7) (l12 : 0 ≤ nd) (u12 : nd ≤ 255) (l13 : 0 ≤ p) (u13 : p ≤ 7) (l14 : 0 ≤ a) (u14 : a ≤ 7) (l15 : 0 ≤ b) (u15 : b ≤ 7) (l16 : 0 ≤ x16) (u16 : x16 ≤ 255) (f0 : p = person) : (True) ∧ (True) ∧ rxI189_10 S0 ws S part person what last x16 (p + 1) ∧ rxm189_10 S0 ws S part person what last x16 (p + 1) < rxm189_12 S0 ws S part person what last nd p a b := by
  exact ⟨trivial, trivial, trivial, by unfold rxm189_12 rxm189_10; omega⟩
theorem rxg189_12_1 {X : (Nat → Int → Int) → Prop} {S0 : Nat → Int → Int} {ws : List Int} (hP : rxP189 S0 ws) : bx_obC rxL X S0 rxC189.2.2.1 (rxI189 S0 ws) (rxm189 S0 ws) 12 rxz189_12 rxo189_12_1 := by
  intro S S_p r r_p hinv hX hin hsm_ hseg
  obtain ⟨I0, I1, h0_, hr_, b_, f_, d_⟩ := bx_cl (evs := []) (fvs := [(2, (13, 0), (9, 0), (0, 0))]) hseg (by decide +kernel) (by decide +kernel)
  have hinv : rxI189_12 S0 ws S (r 8) (r 9) (r 10) (r 11) (r 12) (r 13) (r 14) (r 15) := hinv
  rw [← hr_ 8 (by decide), ← hr_ 9 (by decide), ← hr_ 10 (by decide), ← hr_ 11 (by decide), ← hr_ 12 (by decide), ← hr_ 13 (by decide), ← hr_ 14 (by decide), ← hr_ 15 (by decide)] at hinv
  obtain ⟨⟨l8, u8⟩, ⟨l9, u9⟩, ⟨l10, u10⟩, ⟨l11, u11⟩, ⟨l12, u12⟩, ⟨l13, u13⟩, ⟨l14, u14⟩, ⟨l15, u15⟩, ⟨l16, u16⟩, -⟩ := b_
  obtain ⟨f0, -⟩ := f_
  have w_ := d_
  subst w_
  have g := rxc189_12_1 hP hin I0 hinv l8 u8 l9 u9 l10 u10 l11 u11 l12 u12 l13 u13 l14 u14 l15 u15 l16 u16 f0
  refine ⟨bx_narP_ok (l := []) g.1, bx_nfP_ok h0_ (fvs := []) (by decide +kernel) g.2.1, ?_, ?_⟩
  · show rxI189_10 S0 ws S_p (bx_val [(0, 0), (0, 0), (0, 0), (0, 0), (0, 0), (0, 0), (0, 0), (0, 0), (8, 0), (9, 0), (10, 0), (11, 0), (16, 0), (13, 1)] r_p 8) (bx_val [(0, 0), (0, 0), (0, 0), (0, 0), (0, 0), (0, 0), (0, 0), (0, 0), (8, 0), (9, 0), (10, 0), (11, 0), (16, 0), (13, 1)] r_p 9) (bx_val [(0, 0), (0, 0), (0, 0), (0, 0), (0, 0), (0, 0), (0, 0), (0, 0), (8, 0), (9, 0), (10, 0), (11, 0), (16, 0), (13, 1)] r_p 10) (bx_val [(0, 0), (0, 0), (0, 0), (0, 0), (0, 0), (0, 0), (0, 0), (0, 0), (8, 0), (9, 0), (10, 0), (11, 0), (16, 0), (13, 1)] r_p 11) (bx_val [(0, 0), (0, 0), (0, 0), (0, 0), (0, 0), (0, 0), (0, 0), (0, 0), (8, 0), (9, 0), (10, 0), (11, 0), (16, 0), (13, 1)] r_p 12) (bx_val [(0, 0), (0, 0), (0, 0), (0, 0), (0, 0), (0, 0), (0, 0), (0, 0), (8, 0), (9, 0), (10, 0), (11, 0), (16, 0), (13, 1)] r_p 13)
    rw [bx_val_x (n := 8) (e := (8, 0)) h0_ rfl, bx_val_x (n := 9) (e := (9, 0)) h0_ rfl, bx_val_x (n := 10) (e := (10, 0)) h0_ rfl, bx_val_x (n := 11) (e := (11, 0)) h0_ rfl, bx_val_x (n := 12) (e := (16, 0)) h0_ rfl, bx_val_x (n := 13) (e := (13, 1)) h0_ rfl]
    exact g.2.2.1
  · show rxm189_10 S0 ws S_p (bx_val [(0, 0), (0, 0), (0, 0), (0, 0), (0, 0), (0, 0), (0, 0), (0, 0), (8, 0), (9, 0), (10, 0), (11, 0), (16, 0), (13, 1)] r_p 8) (bx_val [(0, 0), (0, 0), (0, 0), (0, 0), (0, 0), (0, 0), (0, 0), (0, 0), (8, 0), (9, 0), (10, 0), (11, 0), (16, 0), (13, 1)] r_p 9) (bx_val [(0, 0), (0, 0), (0, 0), (0, 0), (0, 0), (0, 0), (0, 0), (0, 0), (8, 0), (9, 0), (10, 0), (11, 0), (16, 0), (13, 1)] r_p 10) (bx_val [(0, 0), (0, 0), (0, 0), (0, 0), (0, 0), (0, 0), (0, 0), (0, 0), (8, 0), (9, 0), (10, 0), (11, 0), (16, 0), (13, 1)] r_p 11) (bx_val [(0, 0), (0, 0), (0, 0), (0, 0), (0, 0), (0, 0), (0, 0), (0, 0), (8, 0), (9, 0), (10, 0), (11, 0), (16, 0), (13, 1)] r_p 12) (bx_val [(0, 0), (0, 0), (0, 0), (0, 0), (0, 0), (0, 0), (0, 0), (0, 0), (8, 0), (9, 0), (10, 0), (11, 0), (16, 0), (13, 1)] r_p 13) < rxm189_12 S0 ws S_p (r 8) (r 9) (r 10) (r 11) (r 12) (r 13) (r 14) (r 15)
    rw [bx_val_x (n := 8) (e := (8, 0)) h0_ rfl, bx_val_x (n := 9) (e := (9, 0)) h0_ rfl, bx_val_x (n := 10) (e := (10, 0)) h0_ rfl, bx_val_x (n := 11) (e := (11, 0)) h0_ rfl, bx_val_x (n := 12) (e := (16, 0)) h0_ rfl, bx_val_x (n := 13) (e := (13, 1)) h0_ rfl, ← hr_ 8 (by decide), ← hr_ 9 (by decide), ← hr_ 10 (by decide), ← hr_ 11 (by decide), ← hr_ 12 (by decide), ← hr_ 13 (by decide), ← hr_ 14 (by decide), ← hr_ 15 (by decide)]
    exact g.2.2.2
theorem rxc189_14_0 {S0 : Nat → Int → Int} {ws : List Int} {S : Nat → Int → Int} {part person what last nd p nd2 la2 x16 x17 x18 x19 x20 x21 : Int} (hP : rxP189 S0 ws) (hin : bx_same rxL (bx_mdl rxC189.2.2.1) S0 S) (I0 : bx_Inv rxL S) (hinv : rxI189_14 S0 ws S part person what last nd p nd2 la2) (l8 : 0 ≤ part) (u8 : part ≤ 5) (l9 : 0 ≤ person) (u9 : person ≤ 7) (l10 : 0 ≤ what) (u10 : what ≤ 20) (l11 : 0 ≤ last) (u11 : last ≤ 7) (l12 : 0 ≤ nd) (u12 : nd ≤ 255) (l13 : 0 ≤ p) (u13 : p ≤ 7) (l14 : 0 ≤ nd2) (u14 : nd2 ≤ 255) (l15 : 0 ≤ la2) (u15 : la2 ≤ 7) (l16 : 0 ≤ x16) (u16 : x16 ≤ 21) (l17 : 0 ≤ x17) (u17 : x17 ≤ 300) (l18 : 0 ≤ x18) (u18 : x18 ≤ 21) (l19 : 0 ≤ x19) (u19 : x19 ≤ 300) (l20 : 1 ≤ x20) (u20 : x20 ≤ 128) (l21 : 0 ≤ x21) (u21 : x21 ≤ 255) (f0 : x17 = x19) (f1 : x18 = 3 * (last)) (f2 : x16 = 3 * (la2)) (e1 : S 482 (x16 + 239) = x17) (e0 : S 482 (x18 + 239) = x19) : (True) ∧ (True) ∧ rxI189_10 S0 ws S part person what last x21 (p + 1) ∧ rxm189_10 S0 ws S part person what last x21 (p + 1) < rxm189_14 S0 ws S part person what last nd p nd2 la2 := by
  exact ⟨trivial, trivial, trivial, by unfold rxm189_14 rxm189_10; omega⟩
theorem rxg189_14_0 {X : (Nat → Int → Int) → Prop} {S0 : Nat → Int → Int} {ws : List Int} (hP : rxP189 S0 ws) : bx_obC rxL X S0 rxC189.2.2.1 (rxI189 S0 ws) (rxm189 S0 ws) 14 rxz189_14 rxo189_14_0 := by
  intro S S_p r r_p hinv hX hin hsm_ hseg
  obtain ⟨I0, I1, h0_, hr_, b_, f_, d_⟩ := bx_cl (evs := [(0, (0, 482), (18, 239), .inr (0, (19, 0))), (0, (0, 482), (16, 239), .inr (0, (17, 0)))]) (fvs := [(2, (17, 0), (19, 0), (0, 0)), (4, (18, 0), (11, 0), (0, 3)), (4, (16, 0), (15, 0), (0, 3))]) hseg (by decide +kernel) (by decide +kernel)
  have hinv : rxI189_14 S0 ws S (r 8) (r 9) (r 10) (r 11) (r 12) (r 13) (r 14) (r 15) := hinv
  rw [← hr_ 8 (by decide), ← hr_ 9 (by decide), ← hr_ 10 (by decide), ← hr_ 11 (by decide), ← hr_ 12 (by decide), ← hr_ 13 (by decide), ← hr_ 14 (by decide), ← hr_ 15 (by decide)] at hinv
  obtain ⟨⟨l8, u8⟩, ⟨l9, u9⟩, ⟨l10, u10⟩, ⟨l11, u11⟩, ⟨l12, u12⟩, ⟨l13, u13⟩, ⟨l14, u14⟩, ⟨l15, u15⟩, ⟨l16, u16⟩, ⟨l17, u17⟩, ⟨l18, u18⟩, ⟨l19, u19⟩, ⟨l20, u20⟩, ⟨l21, u21⟩, -⟩ := b_
  obtain ⟨f0, f1, f2, -⟩ := f_
  obtain ⟨e0, ⟨e1, w_⟩⟩ := d_
  subst w_
  have g := rxc189_14_0 hP hin I0 hinv l8 u8 l9 u9 l10 u10 l11 u11 l12 u12 l13 u13 l14 u14 l15 u15 l16 u16 l17 u17 l18 u18 l19 u19 l20 u20 l21 u21 f0 f1 f2 e1 e0
  refine ⟨bx_narP_ok (l := []) g.1, bx_nfP_ok h0_ (fvs := []) (by decide +kernel) g.2.1, ?_, ?_⟩
  · show rxI189_10 S0 ws S_p (bx_val [(0, 0), (0, 0), (0, 0), (0, 0), (0, 0), (0, 0), (0, 0), (0, 0), (8, 0), (9, 0), (10, 0), (11, 0), (21, 0), (13, 1)] r_p 8) (bx_val [(0, 0), (0, 0), (0, 0), (0, 0), (0, 0), (0, 0), (0, 0), (0, 0), (8, 0), (9, 0), (10, 0), (11, 0), (21, 0), (13, 1)] r_p 9) (bx_val [(0, 0), (0, 0), (0, 0), (0, 0), (0, 0), (0, 0), (0, 0), (0, 0), (8, 0), (9, 0), (10, 0), (11, 0), (21, 0), (13, 1)] r_p 10) (bx_val [(0, 0), (0, 0), (0, 0), (0, 0), (0, 0), (0, 0), (0, 0), (0, 0), (8, 0), (9, 0), (10, 0), (11, 0), (21, 0), (13, 1)] r_p 11) (bx_val [(0, 0), (0, 0), (0, 0), (0, 0), (0, 0), (0, 0), (0, 0), (0, 0), (8, 0), (9, 0), (10, 0), (11, 0), (21, 0), (13, 1)] r_p 12) (bx_val [(0, 0), (0, 0), (0, 0), (0, 0), (0, 0), (0, 0), (0, 0), (0, 0), (8, 0), (9, 0), (10, 0), (11, 0), (21, 0), (13, 1)] r_p 13)
    rw [bx_val_x (n := 8) (e := (8, 0)) h0_ rfl, bx_val_x (n := 9) (e := (9, 0)) h0_ rfl, bx_val_x (n := 10) (e := (10, 0)) h0_ rfl, bx_val_x (n := 11) (e := (11, 0)) h0_ rfl, bx_val_x (n := 12) (e := (21, 0)) h0_ rfl, bx_val_x (n := 13) (e := (13, 1)) h0_ rfl]
    exact g.2.2.1
  · show rxm189_10 S0 ws S_p (bx_val [(0, 0), (0, 0), (0, 0), (0, 0), (0, 0), (0, 0), (0, 0), (0, 0), (8, 0), (9, 0), (10, 0), (11, 0), (21, 0), (13, 1)] r_p 8) (bx_val [(0, 0), (0, 0), (0, 0), (0, 0), (0, 0), (0, 0), (0, 0), (0, 0), (8, 0), (9, 0), (10, 0), (11, 0), (21, 0), (13, 1)] r_p 9) (bx_val [(0, 0), (0, 0), (0, 0), (0, 0), (0, 0), (0, 0), (0, 0), (0, 0), (8, 0), (9, 0), (10, 0), (11, 0), (21, 0), (13, 1)] r_p 10) (bx_val [(0, 0), (0, 0), (0, 0), (0, 0), (0, 0), (0, 0), (0, 0), (0, 0), (8, 0), (9, 0), (10, 0), (11, 0), (21, 0), (13, 1)] r_p 11) (bx_val [(0, 0), (0, 0), (0, 0), (0, 0), (0, 0), (0, 0), (0, 0), (0, 0), (8, 0), (9, 0), (10, 0), (11, 0), (21, 0), (13, 1)] r_p 12) (bx_val [(0, 0), (0, 0), (0, 0), (0, 0), (0, 0), (0, 0), (0, 0), (0, 0), (8, 0), (9, 0), (10, 0), (11, 0), (21, 0), (13, 1)] r_p 13) < rxm189_14 S0 ws S_p (r 8) (r 9) (r 10) (r 11) (r 12) (r 13) (r 14) (r 15)
    rw [bx_val_x (n := 8) (e := (8, 0)) h0_ rfl, bx_val_x (n := 9) (e := (9, 0)) h0_ rfl, bx_val_x (n := 10) (e := (10, 0)) h0_ rfl, bx_val_x (n := 11) (e := (11, 0)) h0_ rfl, bx_val_x (n := 12) (e := (21, 0)) h0_ rfl, bx_val_x (n := 13) (e := (13, 1)) h0_ rfl, ← hr_ 8 (by decide), ← hr_ 9 (by decide), ← hr_ 10 (by decide), ← hr_ 11 (by decide), ← hr_ 12 (by decide), ← hr_ 13 (by decide), ← hr_ 14 (by decide), ← hr_ 15 (by decide)]
    exact g.2.2.2
theorem rxc189_14_1 {S0 : Nat → Int → Int} {ws : List Int} {S : Nat → Int → Int} {part person what last nd p nd2 la2 x16 x17 x18 x19 x20 : Int} (hP : rxP189 S0 ws) (hin : bx_same rxL (bx_mdl rxC189.2.2.1) S0 S) (I0 : bx_Inv rxL S) (hinv : rxI189_14 S0 ws S part person what last nd p nd2 la2) (l8 : 0 ≤ part) (u8 : part ≤ 5) (l9 : 0 ≤ person) (u9 : person ≤ 7) (l10 : 0 ≤ what) (u10 : what ≤ 20) (l11 : 0 ≤ last) (u11 : last ≤ 7) (l12 : 0 ≤ nd) (u12 : nd ≤ 255) (l13 : 0 ≤ p) (u13 : p ≤ 7) (l14 : 0 ≤ nd2) (u14 : nd2 ≤ 255) (l15 : 0 ≤ la2) (u15 : la2 ≤ 7) (l16 : 0 ≤ x16) (u16 : x16 ≤ 21) (l17 : 0 ≤ x17) (u17 : x17 ≤ 300) (l18 : 0 ≤ x18) (u18 : x18 ≤ 21) (l19 : 0 ≤ x19) (u19 : x19 ≤ 300) (l20 : 0 ≤ x20) (u20 : x20 ≤ 255) (f0 : x17 ≠ x19) (f1 : x18 = 3 * (last)) (f2 : x16 = 3 * (la2)) (e1 : S 482 (x16 + 239) = x17) (e0 : S 482 (x18 + 239) = x19) : (True) ∧ (True) ∧ rxI189_10 S0 ws S part person what last x20 (p + 1) ∧ rxm189_10 S0 ws S part person what last x20 (p + 1) < rxm189_14 S0 ws S part person what last nd p nd2 la2 := by
  exact ⟨trivial, trivial, trivial, by unfold rxm189_14 rxm189_10; omega⟩
theorem rxg189_14_1 {X : (Nat → Int → Int) → Prop} {S0 : Nat → Int → Int} {ws : List Int} (hP : rxP189 S0 ws) : bx_obC rxL X S0 rxC189.2.2.1 (rxI189 S0 ws) (rxm189 S0 ws) 14 rxz189_14 rxo189_14_1 := by
  intro S S_p r r_p hinv hX hin hsm_ hseg
  obtain ⟨I0, I1, h0_, hr_, b_, f_, d_⟩ := bx_cl (evs := [(0, (0, 482), (18, 239), .inr (0, (19, 0))), (0, (0, 482), (16, 239), .inr (0, (17, 0)))]) (fvs := [(3, (17, 0), (19, 0), (0, 0)), (4, (18, 0), (11, 0), (0, 3)), (4, (16, 0), (15, 0), (0, 3))]) hseg (by decide +kernel) (by decide +kernel)
  have hinv : rxI189_14 S0 ws S (r 8) (r 9) (r 10) (r 11) (r 12) (r 13) (r 14) (r 15) := hinv
  rw [← hr_ 8 (by decide), ← hr_ 9 (by decide), ← hr_ 10 (by decide), ← hr_ 11 (by decide), ← hr_ 12 (by decide), ← hr_ 13 (by decide), ← hr_ 14 (by decide), ← hr_ 15 (by decide)] at hinv
  obtain ⟨⟨l8, u8⟩, ⟨l9, u9⟩, ⟨l10, u10⟩, ⟨l11, u11⟩, ⟨l12, u12⟩, ⟨l13, u13⟩, ⟨l14, u14⟩, ⟨l15, u15⟩, ⟨l16, u16⟩, ⟨l17, u17⟩, ⟨l18, u18⟩, ⟨l19, u19⟩, ⟨l20, u20⟩, -⟩ := b_
  obtain ⟨f0, f1, f2, -⟩ := f_
  obtain ⟨e0, ⟨e1, w_⟩⟩ := d_
  subst w_
  have g := rxc189_14_1 hP hin I0 hinv l8 u8 l9 u9 l10 u10 l11 u11 l12 u12 l13 u13 l14 u14 l15 u15 l16 u16 l17 u17 l18 u18 l19 u19 l20 u20 f0 f1 f2 e1 e0
  refine ⟨bx_narP_ok (l := []) g.1, bx_nfP_ok h0_ (fvs := []) (by decide +kernel) g.2.1, ?_, ?_⟩
  · show rxI189_10 S0 ws S_p (bx_val [(0, 0), (0, 0), (0, 0), (0, 0), (0, 0), (0, 0), (0, 0), (0, 0), (8, 0), (9, 0), (10, 0), (11, 0), (20, 0), (13, 1)] r_p 8) (bx_val [(0, 0), (0, 0), (0, 0), (0, 0), (0, 0), (0, 0), (0, 0), (0, 0), (8, 0), (9, 0), (10, 0), (11, 0), (20, 0), (13, 1)] r_p 9) (bx_val [(0, 0), (0, 0), (0, 0), (0, 0), (0, 0), (0, 0), (0, 0), (0, 0), (8, 0), (9, 0), (10, 0), (11, 0), (20, 0), (13, 1)] r_p 10) (bx_val [(0, 0), (0, 0), (0, 0), (0, 0), (0, 0), (0, 0), (0, 0), (0, 0), (8, 0), (9, 0), (10, 0), (11, 0), (20, 0), (13, 1)] r_p 11) (bx_val [(0, 0), (0, 0), (0, 0), (0, 0), (0, 0), (0, 0), (0, 0), (0, 0), (8, 0), (9, 0), (10, 0), (11, 0), (20, 0), (13, 1)] r_p 12) (bx_val [(0, 0), (0, 0), (0, 0), (0, 0), (0, 0), (0, 0), (0, 0), (0, 0), (8, 0), (9, 0), (10, 0), (11, 0), (20, 0), (13, 1)] r_p 13)
    rw [bx_val_x (n := 8) (e := (8, 0)) h0_ rfl, bx_val_x (n := 9) (e := (9, 0)) h0_ rfl, bx_val_x (n := 10) (e := (10, 0)) h0_ rfl, bx_val_x (n := 11) (e := (11, 0)) h0_ rfl, bx_val_x (n := 12) (e := (20, 0)) h0_ rfl, bx_val_x (n := 13) (e := (13, 1)) h0_ rfl]
    exact g.2.2.1
  · show rxm189_10 S0 ws S_p (bx_val [(0, 0), (0, 0), (0, 0), (0, 0), (0, 0), (0, 0), (0, 0), (0, 0), (8, 0), (9, 0), (10, 0), (11, 0), (20, 0), (13, 1)] r_p 8) (bx_val [(0, 0), (0, 0), (0, 0), (0, 0), (0, 0), (0, 0), (0, 0), (0, 0), (8, 0), (9, 0), (10, 0), (11, 0), (20, 0), (13, 1)] r_p 9) (bx_val [(0, 0), (0, 0), (0, 0), (0, 0), (0, 0), (0, 0), (0, 0), (0, 0), (8, 0), (9, 0), (10, 0), (11, 0), (20, 0), (13, 1)] r_p 10) (bx_val [(0, 0), (0, 0), (0, 0), (0, 0), (0, 0), (0, 0), (0, 0), (0, 0), (8, 0), (9, 0), (10, 0), (11, 0), (20, 0), (13, 1)] r_p 11) (bx_val [(0, 0), (0, 0), (0, 0), (0, 0), (0, 0), (0, 0), (0, 0), (0, 0), (8, 0), (9, 0), (10, 0), (11, 0), (20, 0), (13, 1)] r_p 12) (bx_val [(0, 0), (0, 0), (0, 0), (0, 0), (0, 0), (0, 0), (0, 0), (0, 0), (8, 0), (9, 0), (10, 0), (11, 0), (20, 0), (13, 1)] r_p 13) < rxm189_14 S0 ws S_p (r 8) (r 9) (r 10) (r 11) (r 12) (r 13) (r 14) (r 15)
    rw [bx_val_x (n := 8) (e := (8, 0)) h0_ rfl, bx_val_x (n := 9) (e := (9, 0)) h0_ rfl, bx_val_x (n := 10) (e := (10, 0)) h0_ rfl, bx_val_x (n := 11) (e := (11, 0)) h0_ rfl, bx_val_x (n := 12) (e := (20, 0)) h0_ rfl, bx_val_x (n := 13) (e := (13, 1)) h0_ rfl, ← hr_ 8 (by decide), ← hr_ 9 (by decide), ← hr_ 10 (by decide), ← hr_ 11 (by decide), ← hr_ 12 (by decide), ← hr_ 13 (by decide), ← hr_ 14 (by decide), ← hr_ 15 (by decide)]
    exact g.2.2.2
theorem rxgC189 {X : (Nat → Int → Int) → Prop} {S0 : Nat → Int → Int} {ws : List Int} (hP : rxP189 S0 ws) : bx_allI (fun i q => rxU189 q = true ∨ bx_allP (fun o => bx_obC rxL X S0 rxC189.2.2.1 (rxI189 S0 ws) (rxm189 S0 ws) i q.1 o) q.2.1) 0 rxY189 := ⟨Or.inr ⟨rxg189_0_0 hP, rxg189_0_1 hP, trivial⟩, Or.inl rfl, Or.inr ⟨rxg189_2_0 hP, trivial⟩, Or.inl rfl, Or.inr ⟨rxg189_4_0 hP, trivial⟩, Or.inl rfl, Or.inr ⟨rxg189_6_0 hP, trivial⟩, Or.inl rfl, Or.inr ⟨rxg189_8_0 hP, rxg189_8_1 hP, trivial⟩, Or.inr ⟨rxg189_9_0 hP, trivial⟩, Or.inr ⟨rxg189_10_0 hP, trivial⟩, Or.inl rfl, Or.inr ⟨rxg189_12_0 hP, rxg189_12_1 hP, trivial⟩, Or.inl rfl, Or.inr ⟨rxg189_14_0 hP, rxg189_14_1 hP, trivial⟩, trivial⟩
theorem rxgE189 {X : (Nat → Int → Int) → Prop} {S0 : Nat → Int → Int} {ws : List Int} (hP : rxP189 S0 ws) : bx_allI (fun i q => rxU189 q = true ∨ bx_allP (fun E => bx_obE rxL X S0 rxC189.2.2.1 (rxI189 S0 ws) (rxPS189 S0 ws) i q.1 E) q.2.2) 0 rxY189 := ⟨Or.inr ⟨rxf189_0_0 hP, rxf189_0_1 hP, rxf189_0_2 hP, rxf189_0_3 hP, rxf189_0_4 hP, rxf189_0_5 hP, trivial⟩, Or.inl rfl, Or.inr trivial, Or.inl rfl, Or.inr trivial, Or.inl rfl, Or.inr trivial, Or.inl rfl, Or.inr ⟨rxf189_8_0 hP, rxf189_8_1 hP, trivial⟩, Or.inr ⟨rxf189_9_0 hP, rxf189_9_1 hP, trivial⟩, Or.inr ⟨rxf189_10_0 hP, trivial⟩, Or.inl rfl, Or.inr trivial, Or.inl rfl, Or.inr trivial, trivial⟩
theorem rxu189 {PX : State → Prop} {Dg : va_G} {A : Nat → Prop} {ad xa : Nat → Nat} {l : Launch} {X : (Nat → Int → Int) → Prop} (hPX : rx_PXOK rxNW A PX) (hX : ∀ S S1 : Nat → Int → Int, X S → bx_same rxL (bx_mdl rxC189.2.2.1) S S1 → X S1) (hQFP : bx_ConP rxG rxNW rxAO PX Dg rxL X vwCl A ad l rxM310 rxCFP rxPFP rxPSFP) (hQFC : bx_ConP rxG rxNW rxAO PX Dg rxL X vwCl A ad l rxM311 rxCFC rxPFC rxPSFC) (hQLO : bx_ConP rxG rxNW rxAO PX Dg rxL X vwCl A ad l rxM312 rxCLO rxPLO rxPSLO) (hQLT : bx_ConP rxG rxNW rxAO PX Dg rxL X vwCl A ad l rxM313 rxCLT rxPLT rxPSLT) {S0 : Nat → Int → Int} {ws : List Int} (hP : rxP189 S0 ws) : ∀ (i : Nat) (q : bx_HE), rxY189[i]? = some q → rxU189 q = true → ∀ {p : Program} {e : Env} {R : Room} {s : State} {m : MethodId} {args : Array Value} {below : List Frame} {meth : Method} {c : Code} {Q : State → Prop} {H0 : Heap}, rx_Fr rxG rxNW rxAO PX p s m args meth c rxM189 → (∀ q, H0.size ≤ q → A q) → H0 = s.heap → rxM189.2.2.2.2.2.2.1 ≤ R.cells → rxM189.2.2.2.2.2.2.2 ≤ R.slots → rxC189.2.2.2.1 ≤ R.frames → rxC189.2.2.2.1 * 40 ≤ R.locals → bx_Step p l e R s m args below meth c Q Dg rxL X vwCl A xa H0 ad rxM189 rxY189 (rxI189 S0 ws) (rxm189 S0 ws) S0 rxC189.2.2.1 i q := by
  intro i q hq hus p e R s m args below meth c Q H0 hF hA hH0 hmc hms hd hdl
  match i, hq with
  | 0, hq =>
    cases hq
    exact absurd (show false = true from hus) Bool.false_ne_true
  | 1, hq =>
    cases hq
    exact rx_stepC (ins := .invokevirtual 546) (len := 3) (i_p := 2) (M_p := rxM310) (d := rxC189.2.2.2.1) (as := [.inr (3, (0, 480)), .inr (0, (11, 0))]) (t := []) (ct := rxCFP) hPX hF rfl hA hH0 hmc hms hd hdl (by decide +kernel) rfl rfl (by decide +kernel) (by decide +kernel) hQFP (by decide +kernel) rfl (Or.inl ⟨rfl, rfl, rfl⟩) (rxs189_1 hP)
  | 2, hq =>
    cases hq
    exact absurd (show false = true from hus) Bool.false_ne_true
  | 3, hq =>
    cases hq
    exact rx_stepC (ins := .invokevirtual 549) (len := 3) (i_p := 4) (M_p := rxM311) (d := rxC189.2.2.2.1) (as := [.inr (3, (0, 480)), .inr (0, (11, 0)), .inr (0, (0, (-1)))]) (t := []) (ct := rxCFC) hPX hF rfl hA hH0 hmc hms hd hdl (by decide +kernel) rfl rfl (by decide +kernel) (by decide +kernel) hQFC (by decide +kernel) rfl (Or.inl ⟨rfl, rfl, rfl⟩) (rxs189_3 hP)
  | 4, hq =>
    cases hq
    exact absurd (show false = true from hus) Bool.false_ne_true
  | 5, hq =>
    cases hq
    exact rx_stepC (ins := .invokevirtual 552) (len := 3) (i_p := 6) (M_p := rxM312) (d := rxC189.2.2.2.1) (as := [.inr (3, (0, 480))]) (t := []) (ct := rxCLO) hPX hF rfl hA hH0 hmc hms hd hdl (by decide +kernel) rfl rfl (by decide +kernel) (by decide +kernel) hQLO (by decide +kernel) rfl (Or.inr ⟨_, _, _, 1, rfl, rfl, by omega, rfl, rfl, rfl⟩) (rxs189_5 hP)
  | 6, hq =>
    cases hq
    exact absurd (show false = true from hus) Bool.false_ne_true
  | 7, hq =>
    cases hq
    exact rx_stepC (ins := .invokevirtual 555) (len := 3) (i_p := 8) (M_p := rxM313) (d := rxC189.2.2.2.1) (as := [.inr (3, (0, 480)), .inr (0, (12, 0))]) (t := []) (ct := rxCLT) hPX hF rfl hA hH0 hmc hms hd hdl (by decide +kernel) rfl rfl (by decide +kernel) (by decide +kernel) hQLT (by decide +kernel) rfl (Or.inr ⟨_, _, _, 1, rfl, rfl, by omega, rfl, rfl, rfl⟩) (rxs189_7 hP)
  | 8, hq =>
    cases hq
    exact absurd (show false = true from hus) Bool.false_ne_true
  | 9, hq =>
    cases hq
    exact absurd (show false = true from hus) Bool.false_ne_true
  | 10, hq =>
    cases hq
    exact absurd (show false = true from hus) Bool.false_ne_true
  | 11, hq =>
    cases hq
    exact rx_stepC (ins := .invokevirtual 549) (len := 3) (i_p := 12) (M_p := rxM311) (d := rxC189.2.2.2.1) (as := [.inr (3, (0, 480)), .inr (0, (14, 0)), .inr (0, (15, 0))]) (t := []) (ct := rxCFC) hPX hF rfl hA hH0 hmc hms hd hdl (by decide +kernel) rfl rfl (by decide +kernel) (by decide +kernel) hQFC (by decide +kernel) rfl (Or.inl ⟨rfl, rfl, rfl⟩) (rxs189_11 hP)
  | 12, hq =>
    cases hq
    exact absurd (show false = true from hus) Bool.false_ne_true
  | 13, hq =>
    cases hq
    exact rx_stepC (ins := .invokevirtual 552) (len := 3) (i_p := 14) (M_p := rxM312) (d := rxC189.2.2.2.1) (as := [.inr (3, (0, 480))]) (t := [.inr (3, (0, 480)), .inr (0, (14, 0))]) (ct := rxCLO) hPX hF rfl hA hH0 hmc hms hd hdl (by decide +kernel) rfl rfl (by decide +kernel) (by decide +kernel) hQLO (by decide +kernel) rfl (Or.inr ⟨_, _, _, 1, rfl, rfl, by omega, rfl, rfl, rfl⟩) (rxs189_13 hP)
  | 14, hq =>
    cases hq
    exact absurd (show false = true from hus) Bool.false_ne_true
  | n + 15, hq => cases hq
theorem rxQ189 {PX : State → Prop} {Dg : va_G} {A : Nat → Prop} {ad xa : Nat → Nat} {l : Launch} {X : (Nat → Int → Int) → Prop} (hPX : rx_PXOK rxNW A PX) (hsl : ∀ s : State, PX s → ∀ o idx n : Nat, rxSl o idx = some n → ∃ tx : String, vk_R (rxNm o) idx tx (ad n) s)
    (hX : ∀ S S_p : Nat → Int → Int, X S → bx_same rxL (bx_mdl rxC189.2.2.1) S S_p → X S_p)
    (ih : ∀ (j2 : Nat) (ct2 : bx_Ct) (M2 : rx_Mt), ct2 ∈ rxCnE j2 → ct2.2.2.2.1 + 1 ≤ rxC189.2.2.2.1 → rxT.2.2.2.2.2 j2 = some M2 → bx_Con rxG rxNW rxAO PX Dg rxL X vwCl A ad l M2 ct2) (hQFP : bx_ConP rxG rxNW rxAO PX Dg rxL X vwCl A ad l rxM310 rxCFP rxPFP rxPSFP) (hQFC : bx_ConP rxG rxNW rxAO PX Dg rxL X vwCl A ad l rxM311 rxCFC rxPFC rxPSFC) (hQLO : bx_ConP rxG rxNW rxAO PX Dg rxL X vwCl A ad l rxM312 rxCLO rxPLO rxPSLO) (hQLT : bx_ConP rxG rxNW rxAO PX Dg rxL X vwCl A ad l rxM313 rxCLT rxPLT rxPSLT) : bx_ConP rxG rxNW rxAO PX Dg rxL X vwCl A ad l rxM189 rxC189 rxP189 rxPS189 :=
  rxQof (xa := xa) (Cn := rxCnE) (f := 30000) (j := 189) (tab := rxY189) (us := rxU189) hPX hsl hX ih rfl rxYc189 rxI189 rxm189
    (fun S0 ws r I0 I ht0 ht as he he1 hX0 hI0 hP hs ha => by
      have e := he.symm.trans (show bx_ent0 rxNP rxC189.1 bx_I0 [] = some ([(0, 0), (0, 0), (0, 0), (0, 0), (0, 0), (0, 0), (0, 0), (0, 0), ((-2147483648), 2147483647), ((-2147483648), 2147483647), ((-2147483648), 2147483647)], [], [.inr (3, (0, 480)), .inr (0, (8, 0)), .inr (0, (9, 0)), .inr (0, (10, 0))]) from rfl)
      cases e
      subst ha
      have h0 : r 0 = 0 := hs.1
      show rxI189_0 S0 _ S0 (r 8) (r 9) (r 10)
      refine ⟨rfl, ?_⟩
      simp only [List.map_cons, List.map_nil, bx_xv_ok h0]
      rfl)
    (fun S0 ws hP => rxu189 (xa := xa) hPX hX hQFP hQFC hQLO hQLT hP) (fun S0 ws hP => rxgC189 hP) (fun S0 ws hP => rxgE189 hP)
