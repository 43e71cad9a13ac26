noncomputable def rxCFC : bx_Ct := ([(3, (1, 480, 0)), (0, (0, 0, 7)), (0, (0, (-1), 7))], none, [(12, 54), (1087, 0), (1088, 0)], 1, [])
noncomputable def rxIFC_0 (S0 : Nat → Int → Int) (ws : List Int) (S : Nat → Int → Int) (person wo : Int) : Prop := S = S0 ∧ ws = [480, person, wo]
noncomputable def rxmFC_0 (S0 : Nat → Int → Int) (ws : List Int) (S : Nat → Int → Int) (person wo : Int) : Nat := 100000
noncomputable def rxzFC_0 : rx_Z := ([(0, 0), (0, 0), (0, 0), (0, 0), (0, 0), (0, 0), (0, 0), (0, 0), (0, 7), ((-1), 7)], [], [], 0, 0, 0, [(0, .inr (3, (0, 480))), (1, .inr (0, (8, 0))), (2, .inr (0, (9, 0)))], [])
noncomputable def rxIFC_1 (S0 : Nat → Int → Int) (ws : List Int) (S : Nat → Int → Int) (person wo k : Int) : Prop := ∀ j : Int, 0 ≤ j → j < k → S 507 j = -1
noncomputable def rxmFC_1 (S0 : Nat → Int → Int) (ws : List Int) (S : Nat → Int → Int) (person wo k : Int) : Nat := 50000 + (100 - k).toNat
noncomputable def rxzFC_1 : rx_Z := ([(0, 0), (0, 0), (0, 0), (0, 0), (0, 0), (0, 0), (0, 0), (0, 0), (0, 7), ((-1), 7), (0, 8)], [], [], 0, 0, 2, [(0, .inr (3, (0, 480))), (1, .inr (0, (8, 0))), (2, .inr (0, (9, 0))), (3, .inr (0, (10, 0)))], [])
noncomputable def rxIFC_2 (S0 : Nat → Int → Int) (ws : List Int) (S : Nat → Int → Int) (person wo k : Int) : Prop := 1 ≤ S 480 54 ∧ (rx_cnt (S 507) 8 : Int) = S 480 54 ∧ rx_rk (S 507) 8 (S 480 54) ∧ (∀ i : Int, 0 ≤ i → i < S 480 54 → S 507 (S 506 i) ≠ -1)
noncomputable def rxmFC_2 (S0 : Nat → Int → Int) (ws : List Int) (S : Nat → Int → Int) (person wo k : Int) : Nat := 1000 * (10 - k).toNat + 500
noncomputable def rxzFC_2 : rx_Z := ([(0, 0), (0, 0), (0, 0), (0, 0), (0, 0), (0, 0), (0, 0), (0, 0), (0, 7), ((-1), 7), (0, 8)], [], [], 0, 0, 42, [(0, .inr (3, (0, 480))), (1, .inr (0, (8, 0))), (2, .inr (0, (9, 0))), (3, .inr (0, (10, 0)))], [])
noncomputable def rxIFC_3 (S0 : Nat → Int → Int) (ws : List Int) (S : Nat → Int → Int) (person wo k p : Int) : Prop := k < S 480 54 ∧ 1 ≤ S 480 54 ∧ (rx_cnt (S 507) 8 : Int) = S 480 54 ∧ rx_rk (S 507) 8 (S 480 54) ∧ (∀ i : Int, 0 ≤ i → i < S 480 54 → S 507 (S 506 i) ≠ -1)
noncomputable def rxmFC_3 (S0 : Nat → Int → Int) (ws : List Int) (S : Nat → Int → Int) (person wo k p : Int) : Nat := 1000 * (10 - k).toNat + 10 * (10 - p).toNat + 9
noncomputable def rxzFC_3 : rx_Z := ([(0, 0), (0, 0), (0, 0), (0, 0), (0, 0), (0, 0), (0, 0), (0, 0), (0, 7), ((-1), 7), (0, 7), (0, 8)], [], [], 0, 0, 53, [(0, .inr (3, (0, 480))), (1, .inr (0, (8, 0))), (2, .inr (0, (9, 0))), (3, .inr (0, (10, 0))), (4, .inr (0, (11, 0)))], [])
noncomputable def rxIFC_4 (S0 : Nat → Int → Int) (ws : List Int) (S : Nat → Int → Int) (person wo k p : Int) : Prop := k < S 480 54 ∧ S 507 p = -1 ∧ 1 ≤ S 480 54 ∧ (rx_cnt (S 507) 8 : Int) = S 480 54 ∧ rx_rk (S 507) 8 (S 480 54) ∧ (∀ i : Int, 0 ≤ i → i < S 480 54 → S 507 (S 506 i) ≠ -1)
noncomputable def rxmFC_4 (S0 : Nat → Int → Int) (ws : List Int) (S : Nat → Int → Int) (person wo k p : Int) : Nat := 1000 * (10 - k).toNat + 10 * (10 - p).toNat + 8
noncomputable def rxzFC_4 : rx_Z := ([(0, 0), (0, 0), (0, 0), (0, 0), (0, 0), (0, 0), (0, 0), (0, 0), (0, 7), ((-1), 7), (0, 7), (0, 7)], [], [], 0, 0, 100, [(0, .inr (3, (0, 480))), (1, .inr (0, (8, 0))), (2, .inr (0, (9, 0))), (3, .inr (0, (10, 0))), (4, .inr (0, (11, 0)))], [])
noncomputable def rxIFC_5 (S0 : Nat → Int → Int) (ws : List Int) (S : Nat → Int → Int) (person wo k p ci p2 : Int) : Prop := ci = S 480 54 ∧ p2 = p ∧ k < S 480 54 ∧ S 507 p ≠ -1 ∧ 1 ≤ ci ∧ (rx_cnt (S 507) 8 : Int) = ci + 1 ∧ rx_rk (S 507) 8 (ci + 1) ∧ (∀ i : Int, 0 ≤ i → i < ci → S 507 (S 506 i) ≠ -1)
noncomputable def rxmFC_5 (S0 : Nat → Int → Int) (ws : List Int) (S : Nat → Int → Int) (person wo k p ci p2 : Int) : Nat := 1000 * (10 - k).toNat + 10 * (10 - p).toNat + 7
noncomputable def rxzFC_5 : rx_Z := ([(0, 0), (0, 0), (0, 0), (0, 0), (0, 0), (0, 0), (0, 0), (0, 0), (0, 7), ((-1), 7), (0, 7), (0, 7), (0, 7), (0, 7)], [], [], 0, 0, 123, [(0, .inr (3, (0, 480))), (1, .inr (0, (8, 0))), (2, .inr (0, (9, 0))), (3, .inr (0, (10, 0))), (4, .inr (0, (11, 0)))], [.inr (0, (13, 0)), .inr (0, (12, 0)), .inr (3, (0, 506))])
noncomputable def rxIFC_6 (S0 : Nat → Int → Int) (ws : List Int) (S : Nat → Int → Int) (person wo k p q : Int) : Prop := q = S 480 54 ∧ k < q ∧ 1 ≤ q + 1 ∧ (rx_cnt (S 507) 8 : Int) = q + 1 ∧ rx_rk (S 507) 8 (q + 1) ∧ (∀ i : Int, 0 ≤ i → i < q + 1 → S 507 (S 506 i) ≠ -1)
noncomputable def rxmFC_6 (S0 : Nat → Int → Int) (ws : List Int) (S : Nat → Int → Int) (person wo k p q : Int) : Nat := 1000 * (10 - k).toNat + 10 * (10 - p).toNat + 6
noncomputable def rxzFC_6 : rx_Z := ([(0, 0), (0, 0), (0, 0), (0, 0), (0, 0), (0, 0), (0, 0), (0, 0), (0, 7), ((-1), 7), (0, 7), (0, 7), (0, 7)], [], [], 0, 0, 129, [(0, .inr (3, (0, 480))), (1, .inr (0, (8, 0))), (2, .inr (0, (9, 0))), (3, .inr (0, (10, 0))), (4, .inr (0, (11, 0)))], [.inr (0, (12, 0)), .inr (3, (0, 480))])
noncomputable def rxoFC_0_0 : bx_HO := (([(0, 0), (0, 0), (0, 0), (0, 0), (0, 0), (0, 0), (0, 0), (0, 0), (0, 7), ((-1), 7)], [], [], 0, 0, 2, [(3, .inr (0, (0, 0))), (0, .inr (3, (0, 480))), (1, .inr (0, (8, 0))), (2, .inr (0, (9, 0)))], []), [], [], [(0, 0), (0, 0), (0, 0), (0, 0), (0, 0), (0, 0), (0, 0), (0, 0), (8, 0), (9, 0), (0, 0)], 1)
noncomputable def rxoFC_1_0 : bx_HO := (([(0, 0), (0, 0), (0, 0), (0, 0), (0, 0), (0, 0), (0, 0), (0, 0), (0, 7), ((-1), 7), (0, 7)], [], [(((0, 0), 1851192626986356797424370955790042202572729718740712036991434755000000), .inr (0, (0, (-1)))), (((0, 480), 53), .inr (3, (0, 507)))], 0, 0, 2, [(3, .inr (0, (10, 1))), (0, .inr (3, (0, 480))), (1, .inr (0, (8, 0))), (2, .inr (0, (9, 0)))], []), [], [], [(0, 0), (0, 0), (0, 0), (0, 0), (0, 0), (0, 0), (0, 0), (0, 0), (8, 0), (9, 0), (10, 1)], 1)
noncomputable def rxoFC_1_1 : bx_HO := (([(0, 0), (0, 0), (0, 0), (0, 0), (0, 0), (0, 0), (0, 0), (0, 0), (0, 7), ((-1), 7), (8, 8)], [], [(((0, 0), 1851192626986356808262502496862902164897377095533146869742960643000000), .inr (0, (0, 1))), (((0, 480), 54), .inr (0, (0, 1))), (((0, 0), 1851192626986356797424340330377019318111018015026043177851813891000000), .inr (0, (8, 0))), (((0, 506), 0), .inr (0, (8, 0))), (((0, 480), 52), .inr (3, (0, 506))), (((0, 0), 1851192626986356797424364830707437625680387377997778265163628547000000), .inr (0, (8, 0))), (((0, 480), 53), .inr (3, (0, 507)))], 0, 0, 42, [(3, .inr (0, (0, 0))), (0, .inr (3, (0, 480))), (1, .inr (0, (8, 0))), (2, .inr (0, (9, 0)))], []), [], [], [(0, 0), (0, 0), (0, 0), (0, 0), (0, 0), (0, 0), (0, 0), (0, 0), (8, 0), (9, 0), (0, 0)], 2)
noncomputable def rxoFC_2_0 : bx_HO := (([(0, 0), (0, 0), (0, 0), (0, 0), (0, 0), (0, 0), (0, 0), (0, 0), (0, 7), ((-1), 7), (0, 7), (1, 8)], [(0, (10, 0), (11, 0))], [(((0, 0), 1851192626986356808262502496862902164897377095533146869742960640000000), .inr (0, (11, 0))), (((0, 480), 54), .inr (0, (11, 0)))], 0, 0, 53, [(4, .inr (0, (0, 0))), (0, .inr (3, (0, 480))), (1, .inr (0, (8, 0))), (2, .inr (0, (9, 0))), (3, .inr (0, (10, 0)))], []), [], [], [(0, 0), (0, 0), (0, 0), (0, 0), (0, 0), (0, 0), (0, 0), (0, 0), (8, 0), (9, 0), (10, 0), (0, 0)], 3)
noncomputable def rxeFC_2_0 : rx_End × List (Nat × Int × Int) := (([(0, 0), (0, 0), (0, 0), (0, 0), (0, 0), (0, 0), (0, 0), (0, 0), (0, 7), ((-1), 7), (0, 8), (0, 8)], [(1, (11, 0), (10, 0))], [(((0, 0), 1851192626986356808262502496862902164897377095533146869742960640000000), .inr (0, (11, 0))), (((0, 480), 54), .inr (0, (11, 0)))], none), [])
noncomputable def rxoFC_3_0 : bx_HO := (([(0, 0), (0, 0), (0, 0), (0, 0), (0, 0), (0, 0), (0, 0), (0, 0), (0, 7), ((-1), 7), (0, 7), (0, 7), (1, 8), (0, 7), (0, 255), (0, 255), (0, 0)], [(3, (16, 0), (0, 1)), (1, (16, 0), (15, 0)), (1, (16, 0), (0, 1)), (0, (11, 0), (12, 0))], [(((0, 0), 1851192626986356797424380143413949067911243229855112694731964416000000), .inr (0, (14, 0))), (((0, 0), 1851192626986356797424370955790042202572729718740712036990844928000000), .inr (0, (13, 0))), (((0, 480), 52), .inr (3, (0, 506))), (((0, 480), 51), .inr (3, (0, 505))), (((0, 0), 1851192626986356797625047037163794926384839479479878431391481856000000), .inr (0, (12, 0))), (((0, 482), 1), .inr (0, (12, 0))), (((0, 480), 3), .inr (3, (0, 482)))], 0, 0, 53, [(4, .inr (0, (11, 1))), (0, .inr (3, (0, 480))), (1, .inr (0, (8, 0))), (2, .inr (0, (9, 0))), (3, .inr (0, (10, 0)))], []), [], [], [(0, 0), (0, 0), (0, 0), (0, 0), (0, 0), (0, 0), (0, 0), (0, 0), (8, 0), (9, 0), (10, 0), (11, 1)], 3)
noncomputable def rxoFC_3_1 : bx_HO := (([(0, 0), (0, 0), (0, 0), (0, 0), (0, 0), (0, 0), (0, 0), (0, 0), (0, 7), ((-1), 7), (0, 7), (0, 7), (1, 8), (0, 7), (0, 255), (1, 255), (1, 1), ((-1), (-1))], [(3, (11, 0), (9, 0)), (1, (16, 0), (15, 0)), (1, (16, 0), (0, 1)), (0, (11, 0), (12, 0))], [(((0, 0), 1851192626986356797424374018331344491018900889112178922905337856000000), .inr (0, (17, 0))), (((0, 480), 53), .inr (3, (0, 507))), (((0, 0), 1851192626986356797424380143413949067911243229855112694731964416000000), .inr (0, (14, 0))), (((0, 0), 1851192626986356797424370955790042202572729718740712036990844928000000), .inr (0, (13, 0))), (((0, 480), 52), .inr (3, (0, 506))), (((0, 480), 51), .inr (3, (0, 505))), (((0, 0), 1851192626986356797625047037163794926384839479479878431391481856000000), .inr (0, (12, 0))), (((0, 482), 1), .inr (0, (12, 0))), (((0, 480), 3), .inr (3, (0, 482)))], 0, 0, 100, [(0, .inr (3, (0, 480))), (1, .inr (0, (8, 0))), (2, .inr (0, (9, 0))), (3, .inr (0, (10, 0))), (4, .inr (0, (11, 0)))], []), [], [], [(0, 0), (0, 0), (0, 0), (0, 0), (0, 0), (0, 0), (0, 0), (0, 0), (8, 0), (9, 0), (10, 0), (11, 0)], 4)
noncomputable def rxoFC_3_2 : bx_HO := (([(0, 0), (0, 0), (0, 0), (0, 0), (0, 0), (0, 0), (0, 0), (0, 0), (0, 7), (0, 7), (0, 7), (0, 7), (1, 8), (0, 7), (0, 255), (1, 255), (1, 1), ((-1), (-1))], [(2, (11, 0), (9, 0)), (1, (16, 0), (15, 0)), (1, (16, 0), (0, 1)), (0, (11, 0), (12, 0))], [(((0, 0), 1851192626986356797424374018331344491018900889112178922905337856000000), .inr (0, (17, 0))), (((0, 480), 53), .inr (3, (0, 507))), (((0, 0), 1851192626986356797424380143413949067911243229855112694731964416000000), .inr (0, (14, 0))), (((0, 0), 1851192626986356797424370955790042202572729718740712036990844928000000), .inr (0, (13, 0))), (((0, 480), 52), .inr (3, (0, 506))), (((0, 480), 51), .inr (3, (0, 505))), (((0, 0), 1851192626986356797625047037163794926384839479479878431391481856000000), .inr (0, (12, 0))), (((0, 482), 1), .inr (0, (12, 0))), (((0, 480), 3), .inr (3, (0, 482)))], 0, 0, 53, [(4, .inr (0, (11, 1))), (0, .inr (3, (0, 480))), (1, .inr (0, (8, 0))), (2, .inr (0, (9, 0))), (3, .inr (0, (10, 0)))], []), [], [], [(0, 0), (0, 0), (0, 0), (0, 0), (0, 0), (0, 0), (0, 0), (0, 0), (8, 0), (9, 0), (10, 0), (11, 1)], 3)
noncomputable def rxoFC_3_3 : bx_HO := (([(0, 0), (0, 0), (0, 0), (0, 0), (0, 0), (0, 0), (0, 0), (0, 0), (0, 7), ((-1), 7), (0, 7), (0, 7), (1, 8), (0, 7), (0, 255), (1, 255), (1, 1), (0, 7)], [(3, (17, 0), (0, (-1))), (1, (16, 0), (15, 0)), (1, (16, 0), (0, 1)), (0, (11, 0), (12, 0))], [(((0, 0), 1851192626986356797424374018331344491018900889112178922905337856000000), .inr (0, (17, 0))), (((0, 480), 53), .inr (3, (0, 507))), (((0, 0), 1851192626986356797424380143413949067911243229855112694731964416000000), .inr (0, (14, 0))), (((0, 0), 1851192626986356797424370955790042202572729718740712036990844928000000), .inr (0, (13, 0))), (((0, 480), 52), .inr (3, (0, 506))), (((0, 480), 51), .inr (3, (0, 505))), (((0, 0), 1851192626986356797625047037163794926384839479479878431391481856000000), .inr (0, (12, 0))), (((0, 482), 1), .inr (0, (12, 0))), (((0, 480), 3), .inr (3, (0, 482)))], 0, 0, 53, [(4, .inr (0, (11, 1))), (0, .inr (3, (0, 480))), (1, .inr (0, (8, 0))), (2, .inr (0, (9, 0))), (3, .inr (0, (10, 0)))], []), [], [], [(0, 0), (0, 0), (0, 0), (0, 0), (0, 0), (0, 0), (0, 0), (0, 0), (8, 0), (9, 0), (10, 0), (11, 1)], 3)
noncomputable def rxoFC_3_4 : bx_HO := (([(0, 0), (0, 0), (0, 0), (0, 0), (0, 0), (0, 0), (0, 0), (0, 0), (0, 7), ((-1), 7), (0, 7), (0, 8), (0, 8)], [(1, (12, 0), (11, 0))], [(((0, 0), 1851192626986356797625047037163794926384839479479878431391481856000000), .inr (0, (12, 0))), (((0, 482), 1), .inr (0, (12, 0))), (((0, 480), 3), .inr (3, (0, 482)))], 0, 0, 42, [(3, .inr (0, (10, 1))), (0, .inr (3, (0, 480))), (1, .inr (0, (8, 0))), (2, .inr (0, (9, 0))), (4, .inr (0, (11, 0)))], []), [], [], [(0, 0), (0, 0), (0, 0), (0, 0), (0, 0), (0, 0), (0, 0), (0, 0), (8, 0), (9, 0), (10, 1)], 2)
noncomputable def rxoFC_4_0 : bx_HO := (([(0, 0), (0, 0), (0, 0), (0, 0), (0, 0), (0, 0), (0, 0), (0, 0), (0, 7), ((-1), 7), (0, 7), (0, 7), (0, 7), (0, 8)], [], [(((0, 0), 1851192626986356808262502496862902164897377095533146869742960640000000), .inr (0, (13, 0))), (((0, 480), 54), .inr (0, (13, 0))), (((0, 0), 1851192626986356797424374018331344491018900889112178922905337859000000), .inr (0, (12, 0))), (((0, 0), 1851192626986356797424370955790042202572729718740712036990844928000000), .inr (0, (12, 0))), (((0, 480), 52), .inr (3, (0, 506))), (((0, 480), 53), .inr (3, (0, 507)))], 0, 0, 123, [(0, .inr (3, (0, 480))), (1, .inr (0, (8, 0))), (2, .inr (0, (9, 0))), (3, .inr (0, (10, 0))), (4, .inr (0, (11, 0)))], [.inr (0, (11, 0)), .inr (0, (13, 0)), .inr (3, (0, 506))]), [(13, 0, 7)], [], [(0, 0), (0, 0), (0, 0), (0, 0), (0, 0), (0, 0), (0, 0), (0, 0), (8, 0), (9, 0), (10, 0), (11, 0), (13, 0), (11, 0)], 5)
noncomputable def rxoFC_5_0 : bx_HO := (([(0, 0), (0, 0), (0, 0), (0, 0), (0, 0), (0, 0), (0, 0), (0, 0), (0, 7), ((-1), 7), (0, 7), (0, 7), (0, 7), (0, 7), (0, 8)], [], [(((0, 0), 1851192626986356808262502496862902164897377095533146869742960640000000), .inr (0, (14, 0))), (((0, 480), 54), .inr (0, (14, 0))), (((0, 0), 1851192626986356797424377080872646779465072059483645808818651139000000), .inr (0, (13, 0)))], 0, 0, 129, [(0, .inr (3, (0, 480))), (1, .inr (0, (8, 0))), (2, .inr (0, (9, 0))), (3, .inr (0, (10, 0))), (4, .inr (0, (11, 0)))], [.inr (0, (14, 0)), .inr (3, (0, 480))]), [(14, 0, 7)], [], [(0, 0), (0, 0), (0, 0), (0, 0), (0, 0), (0, 0), (0, 0), (0, 0), (8, 0), (9, 0), (10, 0), (11, 0), (14, 0)], 6)
noncomputable def rxoFC_6_0 : bx_HO := (([(0, 0), (0, 0), (0, 0), (0, 0), (0, 0), (0, 0), (0, 0), (0, 0), (0, 7), ((-1), 7), (0, 7), (0, 7), (0, 7)], [], [(((0, 0), 1851192626986356808262502496862902164897377095533146869742960643000000), .inr (0, (12, 1))), (((0, 480), 54), .inr (0, (12, 1)))], 0, 0, 53, [(4, .inr (0, (11, 1))), (0, .inr (3, (0, 480))), (1, .inr (0, (8, 0))), (2, .inr (0, (9, 0))), (3, .inr (0, (10, 0)))], []), [], [], [(0, 0), (0, 0), (0, 0), (0, 0), (0, 0), (0, 0), (0, 0), (0, 0), (8, 0), (9, 0), (10, 0), (11, 1)], 3)
noncomputable def rxYFC : List bx_HE := [(rxzFC_0, [rxoFC_0_0], []), (rxzFC_1, [rxoFC_1_0, rxoFC_1_1], []), (rxzFC_2, [rxoFC_2_0], [rxeFC_2_0]), (rxzFC_3, [rxoFC_3_0, rxoFC_3_1, rxoFC_3_2, rxoFC_3_3, rxoFC_3_4], []), (rxzFC_4, [rxoFC_4_0], []), (rxzFC_5, [rxoFC_5_0], []), (rxzFC_6, [rxoFC_6_0], [])]
noncomputable def rxUFC (q : bx_HE) : Bool := false
noncomputable def rxYBFC : bx_B := (rxV, rxNP, rxDmf, bx_mdH rxCFC.2.2.1)
set_option maxRecDepth 100000 in
theorem rxYcFC : bx_chkH rxYBFC rxM311 rxCFC rxYFC (rxUFC, fun cut z => rx_ex2 (rxCT rxYBFC rxCnE) cut 30000 rxCFC.2.2.2.1 311 z) = true := by decide +kernel
noncomputable def rxIFC (S0 : Nat → Int → Int) (ws : List Int) (i : Nat) : bx_SP := fun S r => match i with | 0 => rxIFC_0 S0 ws S (r 8) (r 9) | 1 => rxIFC_1 S0 ws S (r 8) (r 9) (r 10) | 2 => rxIFC_2 S0 ws S (r 8) (r 9) (r 10) | 3 => rxIFC_3 S0 ws S (r 8) (r 9) (r 10) (r 11) | 4 => rxIFC_4 S0 ws S (r 8) (r 9) (r 10) (r 11) | 5 => rxIFC_5 S0 ws S (r 8) (r 9) (r 10) (r 11) (r 12) (r 13) | 6 => rxIFC_6 S0 ws S (r 8) (r 9) (r 10) (r 11) (r 12) | _ => False
noncomputable def rxmFC (S0 : Nat → Int → Int) (ws : List Int) (i : Nat) (S : Nat → Int → Int) (r : Nat → Int) : Nat := match i with | 0 => rxmFC_0 S0 ws S (r 8) (r 9) | 1 => rxmFC_1 S0 ws S (r 8) (r 9) (r 10) | 2 => rxmFC_2 S0 ws S (r 8) (r 9) (r 10) | 3 => rxmFC_3 S0 ws S (r 8) (r 9) (r 10) (r 11) | 4 => rxmFC_4 S0 ws S (r 8) (r 9) (r 10) (r 11) | 5 => rxmFC_5 S0 ws S (r 8) (r 9) (r 10) (r 11) (r 12) (r 13) | 6 => rxmFC_6 S0 ws S (r 8) (r 9) (r 10) (r 11) (r 12) | _ => 0
noncomputable def rxPFC (S0 : Nat → Int → Int) (ws : List Int) : Prop := True
noncomputable def rxPSFC (S0 : Nat → Int → Int) (ws : List Int) (S : Nat → Int → Int) (w : Option Int) : Prop := w = none ∧ 1 ≤ S 480 54 ∧ rx_rk (S 507) 8 8 ∧ (∀ i : Int, 0 ≤ i → i < S 480 54 → S 507 (S 506 i) ≠ -1)
theorem rxcFC_0_0 {S0 : Nat → Int → Int} {ws : List Int} {S : Nat → Int → Int} {person wo : Int} (hP : rxPFC S0 ws) (hin : bx_same rxL (bx_mdl rxCFC.2.2.1) S0 S) (I0 : bx_Inv rxL S) (hinv : rxIFC_0 S0 ws S person wo) (l8 : 0 ≤ person) (u8 : person ≤ 7) (l9 : (-1) ≤ wo) (u9 : wo ≤ 7) : (True) ∧ (True) ∧ rxIFC_1 S0 ws S person wo 0 ∧ rxmFC_1 S0 ws S person wo 0 < rxmFC_0 S0 ws S person wo := by
  exact ⟨trivial, trivial, fun j h1 h2 => by omega, by unfold rxmFC_0 rxmFC_1; omega⟩
theorem rxgFC_0_0 {X : (Nat → Int → Int) → Prop} {S0 : Nat → Int → Int} {ws : List Int} (hP : rxPFC S0 ws) : bx_obC rxL X S0 rxCFC.2.2.1 (rxIFC S0 ws) (rxmFC S0 ws) 0 rxzFC_0 rxoFC_0_0 := by
  intro S S_p r r_p hinv hX hin hsm_ hseg
  obtain ⟨I0, I1, h0_, hr_, b_, f_, d_⟩ := bx_cl (evs := []) (fvs := []) hseg (by decide +kernel) (by decide +kernel)
  have hinv : rxIFC_0 S0 ws S (r 8) (r 9) := hinv
  rw [← hr_ 8 (by decide), ← hr_ 9 (by decide)] at hinv
  obtain ⟨⟨l8, u8⟩, ⟨l9, u9⟩, -⟩ := b_
  have w_ := d_
  subst w_
  have g := rxcFC_0_0 hP hin I0 hinv l8 u8 l9 u9
  refine ⟨bx_narP_ok (l := []) g.1, bx_nfP_ok h0_ (fvs := []) (by decide +kernel) g.2.1, ?_, ?_⟩
  · show rxIFC_1 S0 ws S_p (bx_val [(0, 0), (0, 0), (0, 0), (0, 0), (0, 0), (0, 0), (0, 0), (0, 0), (8, 0), (9, 0), (0, 0)] r_p 8) (bx_val [(0, 0), (0, 0), (0, 0), (0, 0), (0, 0), (0, 0), (0, 0), (0, 0), (8, 0), (9, 0), (0, 0)] r_p 9) (bx_val [(0, 0), (0, 0), (0, 0), (0, 0), (0, 0), (0, 0), (0, 0), (0, 0), (8, 0), (9, 0), (0, 0)] r_p 10)
    rw [bx_val_x (n := 8) (e := (8, 0)) h0_ rfl, bx_val_x (n := 9) (e := (9, 0)) h0_ rfl, bx_val_x (n := 10) (e := (0, 0)) h0_ rfl]
    exact g.2.2.1
  · show rxmFC_1 S0 ws S_p (bx_val [(0, 0), (0, 0), (0, 0), (0, 0), (0, 0), (0, 0), (0, 0), (0, 0), (8, 0), (9, 0), (0, 0)] r_p 8) (bx_val [(0, 0), (0, 0), (0, 0), (0, 0), (0, 0), (0, 0), (0, 0), (0, 0), (8, 0), (9, 0), (0, 0)] r_p 9) (bx_val [(0, 0), (0, 0), (0, 0), (0, 0), (0, 0), (0, 0), (0, 0), (0, 0), (8, 0), (9, 0), (0, 0)] r_p 10) < rxmFC_0 S0 ws S_p (r 8) (r 9)
    rw [bx_val_x (n := 8) (e := (8, 0)) h0_ rfl, bx_val_x (n := 9) (e := (9, 0)) h0_ rfl, bx_val_x (n := 10) (e := (0, 0)) h0_ rfl, ← hr_ 8 (by decide), ← hr_ 9 (by decide)]
    exact g.2.2.2
theorem rxcFC_1_0 {S0 : Nat → Int → Int} {ws : List Int} {S : Nat → Int → Int} {person wo k : Int} (hP : rxPFC S0 ws) (hin : bx_same rxL (bx_mdl rxCFC.2.2.1) S0 S) (I0 : bx_Inv rxL S) (hinv : rxIFC_1 S0 ws S person wo k) (l8 : 0 ≤ person) (u8 : person ≤ 7) (l9 : (-1) ≤ wo) (u9 : wo ≤ 7) (l10 : 0 ≤ k) (u10 : k ≤ 7) : (True) ∧ (True) ∧ rxIFC_1 S0 ws (bx_up S 507 k ((-1))) person wo (k + 1) ∧ rxmFC_1 S0 ws (bx_up S 507 k ((-1))) person wo (k + 1) < rxmFC_1 S0 ws S person wo k := by
  refine ⟨trivial, trivial, fun j h3 h4 => ?_, by unfold rxmFC_1; omega⟩
  by_cases hj : j = k
  · subst hj
    exact bx_up_at
  · rw [bx_up_ne (by omega)]
    exact hinv j h3 (by omega)
theorem rxgFC_1_0 {X : (Nat → Int → Int) → Prop} {S0 : Nat → Int → Int} {ws : List Int} (hP : rxPFC S0 ws) : bx_obC rxL X S0 rxCFC.2.2.1 (rxIFC S0 ws) (rxmFC S0 ws) 1 rxzFC_1 rxoFC_1_0 := by
  intro S S_p r r_p hinv hX hin hsm_ hseg
  obtain ⟨I0, I1, h0_, hr_, b_, f_, d_⟩ := bx_cl (evs := [(1, (0, 507), (10, 0), .inr (0, (0, (-1))))]) (fvs := []) hseg (by decide +kernel) (by decide +kernel)
  have hinv : rxIFC_1 S0 ws S (r 8) (r 9) (r 10) := hinv
  rw [← hr_ 8 (by decide), ← hr_ 9 (by decide), ← hr_ 10 (by decide)] at hinv
  obtain ⟨⟨l8, u8⟩, ⟨l9, u9⟩, ⟨l10, u10⟩, -⟩ := b_
  obtain ⟨T0, w_, w0⟩ := d_
  subst w0
  subst w_
  have g := rxcFC_1_0 hP hin I0 hinv l8 u8 l9 u9 l10 u10
  refine ⟨bx_narP_ok (l := []) g.1, bx_nfP_ok h0_ (fvs := []) (by decide +kernel) g.2.1, ?_, ?_⟩
  · show rxIFC_1 S0 ws (bx_up T0 507 (r_p 10) ((-1))) (bx_val [(0, 0), (0, 0), (0, 0), (0, 0), (0, 0), (0, 0), (0, 0), (0, 0), (8, 0), (9, 0), (10, 1)] r_p 8) (bx_val [(0, 0), (0, 0), (0, 0), (0, 0), (0, 0), (0, 0), (0, 0), (0, 0), (8, 0), (9, 0), (10, 1)] r_p 9) (bx_val [(0, 0), (0, 0), (0, 0), (0, 0), (0, 0), (0, 0), (0, 0), (0, 0), (8, 0), (9, 0), (10, 1)] r_p 10)
    rw [bx_val_x (n := 8) (e := (8, 0)) h0_ rfl, bx_val_x (n := 9) (e := (9, 0)) h0_ rfl, bx_val_x (n := 10) (e := (10, 1)) h0_ rfl]
    exact g.2.2.1
  · show rxmFC_1 S0 ws (bx_up T0 507 (r_p 10) ((-1))) (bx_val [(0, 0), (0, 0), (0, 0), (0, 0), (0, 0), (0, 0), (0, 0), (0, 0), (8, 0), (9, 0), (10, 1)] r_p 8) (bx_val [(0, 0), (0, 0), (0, 0), (0, 0), (0, 0), (0, 0), (0, 0), (0, 0), (8, 0), (9, 0), (10, 1)] r_p 9) (bx_val [(0, 0), (0, 0), (0, 0), (0, 0), (0, 0), (0, 0), (0, 0), (0, 0), (8, 0), (9, 0), (10, 1)] r_p 10) < rxmFC_1 S0 ws T0 (r 8) (r 9) (r 10)
    rw [bx_val_x (n := 8) (e := (8, 0)) h0_ rfl, bx_val_x (n := 9) (e := (9, 0)) h0_ rfl, bx_val_x (n := 10) (e := (10, 1)) h0_ rfl, ← hr_ 8 (by decide), ← hr_ 9 (by decide), ← hr_ 10 (by decide)]
    exact g.2.2.2
theorem rxcFC_1_1 {S0 : Nat → Int → Int} {ws : List Int} {S : Nat → Int → Int} {person wo k : Int} (hP : rxPFC S0 ws) (hin : bx_same rxL (bx_mdl rxCFC.2.2.1) S0 S) (I0 : bx_Inv rxL S) (hinv : rxIFC_1 S0 ws S person wo k) (l8 : 0 ≤ person) (u8 : person ≤ 7) (l9 : (-1) ≤ wo) (u9 : wo ≤ 7) (l10 : 8 ≤ k) (u10 : k ≤ 8) : (True) ∧ (True) ∧ rxIFC_2 S0 ws (bx_up (bx_up (bx_up S 507 person person) 506 0 person) 480 54 1) person wo 0 ∧ rxmFC_2 S0 ws (bx_up (bx_up (bx_up S 507 person person) 506 0 person) 480 54 1) person wo 0 < rxmFC_1 S0 ws S person wo k := by
  have hf : ∀ j : Int, 0 ≤ j → j < 8 → S 507 j = -1 := fun j a b => hinv j a (by omega)
  have t0 : (bx_up (bx_up (bx_up S 507 person person) 506 0 person) 480 54 1) 480 54 = 1 := by simp [bx_up]
  have t1 : ∀ x : Int, (bx_up (bx_up (bx_up S 507 person person) 506 0 person) 480 54 1) 507 x = if x = person then person else S 507 x := fun x => by simp [bx_up]
  have t2 : (bx_up (bx_up (bx_up S 507 person person) 506 0 person) 480 54 1) 506 0 = person := by simp [bx_up]
  have hc := rx_cnt_upd (f := S 507) (g := (bx_up (bx_up (bx_up S 507 person person) 506 0 person) 480 54 1) 507) (x := person) (n := 8) (by omega) (by omega) (hf person (by omega) (by omega)) (by rw [t1, if_pos rfl]; omega) (fun y hy => by rw [t1, if_neg hy])
  rw [rx_cnt_zero (f := S 507) (n := 8) (fun x a b => hf x a (by omega))] at hc
  refine ⟨trivial, trivial, ⟨by omega, by omega, ?_, fun i h1 h2 => ?_⟩, by unfold rxmFC_1 rxmFC_2; omega⟩
  · rw [t0]
    exact rx_rk_one (x := person) (by omega) (by omega) (by rw [t1, if_pos rfl]) (fun y a b c => by rw [t1, if_neg c]; exact hf y a b)
  · have hi : i = 0 := by omega
    subst hi
    rw [t2, t1, if_pos rfl]
    omega
theorem rxgFC_1_1 {X : (Nat → Int → Int) → Prop} {S0 : Nat → Int → Int} {ws : List Int} (hP : rxPFC S0 ws) : bx_obC rxL X S0 rxCFC.2.2.1 (rxIFC S0 ws) (rxmFC S0 ws) 1 rxzFC_1 rxoFC_1_1 := by
  intro S S_p r r_p hinv hX hin hsm_ hseg
  obtain ⟨I0, I1, h0_, hr_, b_, f_, d_⟩ := bx_cl (evs := [(1, (0, 480), (0, 54), .inr (0, (0, 1))), (1, (0, 506), (0, 0), .inr (0, (8, 0))), (1, (0, 507), (8, 0), .inr (0, (8, 0)))]) (fvs := []) hseg (by decide +kernel) (by decide +kernel)
  have hinv : rxIFC_1 S0 ws S (r 8) (r 9) (r 10) := hinv
  rw [← hr_ 8 (by decide), ← hr_ 9 (by decide), ← hr_ 10 (by decide)] at hinv
  obtain ⟨⟨l8, u8⟩, ⟨l9, u9⟩, ⟨l10, u10⟩, -⟩ := b_
  obtain ⟨T0, ⟨T1, ⟨T2, w_, w2⟩, w1⟩, w0⟩ := d_
  subst w0
  subst w1
  subst w2
  subst w_
  have g := rxcFC_1_1 hP hin I0 hinv l8 u8 l9 u9 l10 u10
  refine ⟨bx_narP_ok (l := []) g.1, bx_nfP_ok h0_ (fvs := []) (by decide +kernel) g.2.1, ?_, ?_⟩
  · show rxIFC_2 S0 ws (bx_up (bx_up (bx_up T2 507 (r_p 8) (r_p 8)) 506 (0) (r_p 8)) 480 (54) (1)) (bx_val [(0, 0), (0, 0), (0, 0), (0, 0), (0, 0), (0, 0), (0, 0), (0, 0), (8, 0), (9, 0), (0, 0)] r_p 8) (bx_val [(0, 0), (0, 0), (0, 0), (0, 0), (0, 0), (0, 0), (0, 0), (0, 0), (8, 0), (9, 0), (0, 0)] r_p 9) (bx_val [(0, 0), (0, 0), (0, 0), (0, 0), (0, 0), (0, 0), (0, 0), (0, 0), (8, 0), (9, 0), (0, 0)] r_p 10)
    rw [bx_val_x (n := 8) (e := (8, 0)) h0_ rfl, bx_val_x (n := 9) (e := (9, 0)) h0_ rfl, bx_val_x (n := 10) (e := (0, 0)) h0_ rfl]
    exact g.2.2.1
  · show rxmFC_2 S0 ws (bx_up (bx_up (bx_up T2 507 (r_p 8) (r_p 8)) 506 (0) (r_p 8)) 480 (54) (1)) (bx_val [(0, 0), (0, 0), (0, 0), (0, 0), (0, 0), (0, 0), (0, 0), (0, 0), (8, 0), (9, 0), (0, 0)] r_p 8) (bx_val [(0, 0), (0, 0), (0, 0), (0, 0), (0, 0), (0, 0), (0, 0), (0, 0), (8, 0), (9, 0), (0, 0)] r_p 9) (bx_val [(0, 0), (0, 0), (0, 0), (0, 0), (0, 0), (0, 0), (0, 0), (0, 0), (8, 0), (9, 0), (0, 0)] r_p 10) < rxmFC_1 S0 ws T2 (r 8) (r 9) (r 10)
    rw [bx_val_x (n := 8) (e := (8, 0)) h0_ rfl, bx_val_x (n := 9) (e := (9, 0)) h0_ rfl, bx_val_x (n := 10) (e := (0, 0)) h0_ rfl, ← hr_ 8 (by decide), ← hr_ 9 (by decide), ← hr_ 10 (by decide)]
    exact g.2.2.2
theorem rxcFC_2_0 {S0 : Nat → Int → Int} {ws : List Int} {S : Nat → Int → Int} {person wo k x11 : Int} (hP : rxPFC S0 ws) (hin : bx_same rxL (bx_mdl rxCFC.2.2.1) S0 S) (I0 : bx_Inv rxL S) (hinv : rxIFC_2 S0 ws S person wo k) (l8 : 0 ≤ person) (u8 : person ≤ 7) (l9 : (-1) ≤ wo) (u9 : wo ≤ 7) (l10 : 0 ≤ k) (u10 : k ≤ 7) (l11 : 1 ≤ x11) (u11 : x11 ≤ 8) (f0 : k < x11) (e0 : S 480 54 = x11) : (True) ∧ (True) ∧ rxIFC_3 S0 ws S person wo k 0 ∧ rxmFC_3 S0 ws S person wo k 0 < rxmFC_2 S0 ws S person wo k := by
  exact ⟨trivial, trivial, ⟨by omega, hinv⟩, by unfold rxmFC_2 rxmFC_3; omega⟩
theorem rxgFC_2_0 {X : (Nat → Int → Int) → Prop} {S0 : Nat → Int → Int} {ws : List Int} (hP : rxPFC S0 ws) : bx_obC rxL X S0 rxCFC.2.2.1 (rxIFC S0 ws) (rxmFC S0 ws) 2 rxzFC_2 rxoFC_2_0 := by
  intro S S_p r r_p hinv hX hin hsm_ hseg
  obtain ⟨I0, I1, h0_, hr_, b_, f_, d_⟩ := bx_cl (evs := [(0, (0, 480), (0, 54), .inr (0, (11, 0)))]) (fvs := [(0, (10, 0), (11, 0), (0, 0))]) hseg (by decide +kernel) (by decide +kernel)
  have hinv : rxIFC_2 S0 ws S (r 8) (r 9) (r 10) := hinv
  rw [← hr_ 8 (by decide), ← hr_ 9 (by decide), ← hr_ 10 (by decide)] at hinv
  obtain ⟨⟨l8, u8⟩, ⟨l9, u9⟩, ⟨l10, u10⟩, ⟨l11, u11⟩, -⟩ := b_
  obtain ⟨f0, -⟩ := f_
  obtain ⟨e0, w_⟩ := d_
  subst w_
  have g := rxcFC_2_0 hP hin I0 hinv l8 u8 l9 u9 l10 u10 l11 u11 f0 e0
  refine ⟨bx_narP_ok (l := []) g.1, bx_nfP_ok h0_ (fvs := []) (by decide +kernel) g.2.1, ?_, ?_⟩
  · show rxIFC_3 S0 ws S_p (bx_val [(0, 0), (0, 0), (0, 0), (0, 0), (0, 0), (0, 0), (0, 0), (0, 0), (8, 0), (9, 0), (10, 0), (0, 0)] r_p 8) (bx_val [(0, 0), (0, 0), (0, 0), (0, 0), (0, 0), (0, 0), (0, 0), (0, 0), (8, 0), (9, 0), (10, 0), (0, 0)] r_p 9) (bx_val [(0, 0), (0, 0), (0, 0), (0, 0), (0, 0), (0, 0), (0, 0), (0, 0), (8, 0), (9, 0), (10, 0), (0, 0)] r_p 10) (bx_val [(0, 0), (0, 0), (0, 0), (0, 0), (0, 0), (0, 0), (0, 0), (0, 0), (8, 0), (9, 0), (10, 0), (0, 0)] r_p 11)
    rw [bx_val_x (n := 8) (e := (8, 0)) h0_ rfl, bx_val_x (n := 9) (e := (9, 0)) h0_ rfl, bx_val_x (n := 10) (e := (10, 0)) h0_ rfl, bx_val_x (n := 11) (e := (0, 0)) h0_ rfl]
    exact g.2.2.1
  · show rxmFC_3 S0 ws S_p (bx_val [(0, 0), (0, 0), (0, 0), (0, 0), (0, 0), (0, 0), (0, 0), (0, 0), (8, 0), (9, 0), (10, 0), (0, 0)] r_p 8) (bx_val [(0, 0), (0, 0), (0, 0), (0, 0), (0, 0), (0, 0), (0, 0), (0, 0), (8, 0), (9, 0), (10, 0), (0, 0)] r_p 9) (bx_val [(0, 0), (0, 0), (0, 0), (0, 0), (0, 0), (0, 0), (0, 0), (0, 0), (8, 0), (9, 0), (10, 0), (0, 0)] r_p 10) (bx_val [(0, 0), (0, 0), (0, 0), (0, 0), (0, 0), (0, 0), (0, 0), (0, 0), (8, 0), (9, 0), (10, 0), (0, 0)] r_p 11) < rxmFC_2 S0 ws S_p (r 8) (r 9) (r 10)
    rw [bx_val_x (n := 8) (e := (8, 0)) h0_ rfl, bx_val_x (n := 9) (e := (9, 0)) h0_ rfl, bx_val_x (n := 10) (e := (10, 0)) h0_ rfl, bx_val_x (n := 11) (e := (0, 0)) h0_ rfl, ← hr_ 8 (by decide), ← hr_ 9 (by decide), ← hr_ 10 (by decide)]
    exact g.2.2.2
theorem rxdFC_2_0 {S0 : Nat → Int → Int} {ws : List Int} {S : Nat → Int → Int} {person wo k x11 : Int} (hP : rxPFC S0 ws) (hin : bx_same rxL (bx_mdl rxCFC.2.2.1) S0 S) (hin2 : bx_same rxL (bx_mdl rxCFC.2.2.1) S S) (I0 : bx_Inv rxL S) (I1 : bx_Inv rxL S) (hinv : rxIFC_2 S0 ws S person wo k) (l8 : 0 ≤ person) (u8 : person ≤ 7) (l9 : (-1) ≤ wo) (u9 : wo ≤ 7) (l10 : 0 ≤ k) (u10 : k ≤ 8) (l11 : 0 ≤ x11) (u11 : x11 ≤ 8) (f0 : x11 ≤ k) (e0 : S 480 54 = x11) : (True) ∧ rxPSFC S0 ws S none := by
  obtain ⟨h1, h2, h3, h4⟩ := hinv
  exact ⟨trivial, rfl, h1, rx_rk_mono h3 (by have := rx_cnt_le (f := S 507) (n := 8); omega), h4⟩
theorem rxfFC_2_0 {X : (Nat → Int → Int) → Prop} {S0 : Nat → Int → Int} {ws : List Int} (hP : rxPFC S0 ws) : bx_obE rxL X S0 rxCFC.2.2.1 (rxIFC S0 ws) (rxPSFC S0 ws) 2 rxzFC_2 rxeFC_2_0 := by
  intro S S_p r r_p hinv hX hin hsm_ hseg
  obtain ⟨I0, I1, h0_, hr_, b_, f_, d_⟩ := bx_cl (evs := [(0, (0, 480), (0, 54), .inr (0, (11, 0)))]) (fvs := [(1, (11, 0), (10, 0), (0, 0))]) hseg (by decide +kernel) (by decide +kernel)
  have hinv : rxIFC_2 S0 ws S (r 8) (r 9) (r 10) := hinv
  rw [← hr_ 8 (by decide), ← hr_ 9 (by decide), ← hr_ 10 (by decide)] at hinv
  obtain ⟨⟨l8, u8⟩, ⟨l9, u9⟩, ⟨l10, u10⟩, ⟨l11, u11⟩, -⟩ := b_
  obtain ⟨f0, -⟩ := f_
  obtain ⟨e0, w_⟩ := d_
  subst w_
  have g := rxdFC_2_0 hP hin hsm_ I0 I1 hinv l8 u8 l9 u9 l10 u10 l11 u11 f0 e0
  refine ⟨bx_narP_ok (l := []) g.1, ?_⟩
  exact g.2
theorem rxcFC_3_0 {S0 : Nat → Int → Int} {ws : List Int} {S : Nat → Int → Int} {person wo k p x12 x13 x14 x15 x16 : Int} (hP : rxPFC S0 ws) (hin : bx_same rxL (bx_mdl rxCFC.2.2.1) S0 S) (I0 : bx_Inv rxL S) (hinv : rxIFC_3 S0 ws S person wo k p) (l8 : 0 ≤ person) (u8 : person ≤ 7) (l9 : (-1) ≤ wo) (u9 : wo ≤ 7) (l10 : 0 ≤ k) (u10 : k ≤ 7) (l11 : 0 ≤ p) (u11 : p ≤ 7) (l12 : 1 ≤ x12) (u12 : x12 ≤ 8) (l13 : 0 ≤ x13) (u13 : x13 ≤ 7) (l14 : 0 ≤ x14) (u14 : x14 ≤ 255) (l15 : 0 ≤ x15) (u15 : x15 ≤ 255) (l16 : 0 ≤ x16) (u16 : x16 ≤ 0) (f0 : x16 ≠ 1) (f1 : x16 ≤ x15) (f2 : x16 ≤ 1) (f3 : p < x12) (e2 : S 482 1 = x12) (e1 : S 506 k = x13) (e0 : S 505 x13 = x14) : (True) ∧ (True) ∧ rxIFC_3 S0 ws S person wo k (p + 1) ∧ rxmFC_3 S0 ws S person wo k (p + 1) < rxmFC_3 S0 ws S person wo k p := by
  exact ⟨trivial, trivial, hinv, by unfold rxmFC_3; omega⟩
theorem rxgFC_3_0 {X : (Nat → Int → Int) → Prop} {S0 : Nat → Int → Int} {ws : List Int} (hP : rxPFC S0 ws) : bx_obC rxL X S0 rxCFC.2.2.1 (rxIFC S0 ws) (rxmFC S0 ws) 3 rxzFC_3 rxoFC_3_0 := by
  intro S S_p r r_p hinv hX hin hsm_ hseg
  obtain ⟨I0, I1, h0_, hr_, b_, f_, d_⟩ := bx_cl (evs := [(0, (0, 505), (13, 0), .inr (0, (14, 0))), (0, (0, 506), (10, 0), .inr (0, (13, 0))), (0, (0, 482), (0, 1), .inr (0, (12, 0)))]) (fvs := [(3, (16, 0), (0, 1), (0, 0)), (1, (16, 0), (15, 0), (0, 0)), (1, (16, 0), (0, 1), (0, 0)), (0, (11, 0), (12, 0), (0, 0))]) hseg (by decide +kernel) (by decide +kernel)
  have hinv : rxIFC_3 S0 ws S (r 8) (r 9) (r 10) (r 11) := hinv
  rw [← hr_ 8 (by decide), ← hr_ 9 (by decide), ← hr_ 10 (by decide), ← hr_ 11 (by decide)] at hinv
  obtain ⟨⟨l8, u8⟩, ⟨l9, u9⟩, ⟨l10, u10⟩, ⟨l11, u11⟩, ⟨l12, u12⟩, ⟨l13, u13⟩, ⟨l14, u14⟩, ⟨l15, u15⟩, ⟨l16, u16⟩, -⟩ := b_
  obtain ⟨f0, f1, f2, f3, -⟩ := f_
  obtain ⟨e0, ⟨e1, ⟨e2, w_⟩⟩⟩ := d_
  subst w_
  have g := rxcFC_3_0 hP hin I0 hinv l8 u8 l9 u9 l10 u10 l11 u11 l12 u12 l13 u13 l14 u14 l15 u15 l16 u16 f0 f1 f2 f3 e2 e1 e0
  refine ⟨bx_narP_ok (l := []) g.1, bx_nfP_ok h0_ (fvs := []) (by decide +kernel) g.2.1, ?_, ?_⟩
  · show rxIFC_3 S0 ws S_p (bx_val [(0, 0), (0, 0), (0, 0), (0, 0), (0, 0), (0, 0), (0, 0), (0, 0), (8, 0), (9, 0), (10, 0), (11, 1)] r_p 8) (bx_val [(0, 0), (0, 0), (0, 0), (0, 0), (0, 0), (0, 0), (0, 0), (0, 0), (8, 0), (9, 0), (10, 0), (11, 1)] r_p 9) (bx_val [(0, 0), (0, 0), (0, 0), (0, 0), (0, 0), (0, 0), (0, 0), (0, 0), (8, 0), (9, 0), (10, 0), (11, 1)] r_p 10) (bx_val [(0, 0), (0, 0), (0, 0), (0, 0), (0, 0), (0, 0), (0, 0), (0, 0), (8, 0), (9, 0), (10, 0), (11, 1)] r_p 11)
    rw [bx_val_x (n := 8) (e := (8, 0)) h0_ rfl, bx_val_x (n := 9) (e := (9, 0)) h0_ rfl, bx_val_x (n := 10) (e := (10, 0)) h0_ rfl, bx_val_x (n := 11) (e := (11, 1)) h0_ rfl]
    exact g.2.2.1
  · show rxmFC_3 S0 ws S_p (bx_val [(0, 0), (0, 0), (0, 0), (0, 0), (0, 0), (0, 0), (0, 0), (0, 0), (8, 0), (9, 0), (10, 0), (11, 1)] r_p 8) (bx_val [(0, 0), (0, 0), (0, 0), (0, 0), (0, 0), (0, 0), (0, 0), (0, 0), (8, 0), (9, 0), (10, 0), (11, 1)] r_p 9) (bx_val [(0, 0), (0, 0), (0, 0), (0, 0), (0, 0), (0, 0), (0, 0), (0, 0), (8, 0), (9, 0), (10, 0), (11, 1)] r_p 10) (bx_val [(0, 0), (0, 0), (0, 0), (0, 0), (0, 0), (0, 0), (0, 0), (0, 0), (8, 0), (9, 0), (10, 0), (11, 1)] r_p 11) < rxmFC_3 S0 ws S_p (r 8) (r 9) (r 10) (r 11)
    rw [bx_val_x (n := 8) (e := (8, 0)) h0_ rfl, bx_val_x (n := 9) (e := (9, 0)) h0_ rfl, bx_val_x (n := 10) (e := (10, 0)) h0_ rfl, bx_val_x (n := 11) (e := (11, 1)) h0_ rfl, ← hr_ 8 (by decide), ← hr_ 9 (by decide), ← hr_ 10 (by decide), ← hr_ 11 (by decide)]
    exact g.2.2.2
theorem rxcFC_3_1 {S0 : Nat → Int → Int} {ws : List Int} {S : Nat → Int → Int} {person wo k p x12 x13 x14 x15 x16 x17 : Int} (hP : rxPFC S0 ws) (hin : bx_same rxL (bx_mdl rxCFC.2.2.1) S0 S) (I0 : bx_Inv rxL S) (hinv : rxIFC_3 S0 ws S person wo k p) (l8 : 0 ≤ person) (u8 : person ≤ 7) (l9 : (-1) ≤ wo) (u9 : wo ≤ 7) (l10 : 0 ≤ k) (u10 : k ≤ 7) (l11 : 0 ≤ p) (u11 : p ≤ 7) (l12 : 1 ≤ x12) (u12 : x12 ≤ 8) (l13 : 0 ≤ x13) (u13 : x13 ≤ 7) (l14 : 0 ≤ x14) (u14 : x14 ≤ 255) (l15 : 1 ≤ x15) (u15 : x15 ≤ 255) (l16 : 1 ≤ x16) (u16 : x16 ≤ 1) (l17 : (-1) ≤ x17) (u17 : x17 ≤ (-1)) (f0 : p ≠ wo) (f1 : x16 ≤ x15) (f2 : x16 ≤ 1) (f3 : p < x12) (e3 : S 482 1 = x12) (e2 : S 506 k = x13) (e1 : S 505 x13 = x14) (e0 : S 507 p = x17) : (True) ∧ (True) ∧ rxIFC_4 S0 ws S person wo k p ∧ rxmFC_4 S0 ws S person wo k p < rxmFC_3 S0 ws S person wo k p := by
  obtain ⟨hk, hb⟩ := hinv
  exact ⟨trivial, trivial, ⟨hk, by omega, hb⟩, by unfold rxmFC_3 rxmFC_4; omega⟩
theorem rxgFC_3_1 {X : (Nat → Int → Int) → Prop} {S0 : Nat → Int → Int} {ws : List Int} (hP : rxPFC S0 ws) : bx_obC rxL X S0 rxCFC.2.2.1 (rxIFC S0 ws) (rxmFC S0 ws) 3 rxzFC_3 rxoFC_3_1 := by
  intro S S_p r r_p hinv hX hin hsm_ hseg
  obtain ⟨I0, I1, h0_, hr_, b_, f_, d_⟩ := bx_cl (evs := [(0, (0, 507), (11, 0), .inr (0, (17, 0))), (0, (0, 505), (13, 0), .inr (0, (14, 0))), (0, (0, 506), (10, 0), .inr (0, (13, 0))), (0, (0, 482), (0, 1), .inr (0, (12, 0)))]) (fvs := [(3, (11, 0), (9, 0), (0, 0)), (1, (16, 0), (15, 0), (0, 0)), (1, (16, 0), (0, 1), (0, 0)), (0, (11, 0), (12, 0), (0, 0))]) hseg (by decide +kernel) (by decide +kernel)
  have hinv : rxIFC_3 S0 ws S (r 8) (r 9) (r 10) (r 11) := hinv
  rw [← hr_ 8 (by decide), ← hr_ 9 (by decide), ← hr_ 10 (by decide), ← hr_ 11 (by decide)] at hinv
  obtain ⟨⟨l8, u8⟩, ⟨l9, u9⟩, ⟨l10, u10⟩, ⟨l11, u11⟩, ⟨l12, u12⟩, ⟨l13, u13⟩, ⟨l14, u14⟩, ⟨l15, u15⟩, ⟨l16, u16⟩, ⟨l17, u17⟩, -⟩ := b_
  obtain ⟨f0, f1, f2, f3, -⟩ := f_
  obtain ⟨e0, ⟨e1, ⟨e2, ⟨e3, w_⟩⟩⟩⟩ := d_
  subst w_
  have g := rxcFC_3_1 hP hin I0 hinv l8 u8 l9 u9 l10 u10 l11 u11 l12 u12 l13 u13 l14 u14 l15 u15 l16 u16 l17 u17 f0 f1 f2 f3 e3 e2 e1 e0
  refine ⟨bx_narP_ok (l := []) g.1, bx_nfP_ok h0_ (fvs := []) (by decide +kernel) g.2.1, ?_, ?_⟩
  · show rxIFC_4 S0 ws S_p (bx_val [(0, 0), (0, 0), (0, 0), (0, 0), (0, 0), (0, 0), (0, 0), (0, 0), (8, 0), (9, 0), (10, 0), (11, 0)] r_p 8) (bx_val [(0, 0), (0, 0), (0, 0), (0, 0), (0, 0), (0, 0), (0, 0), (0, 0), (8, 0), (9, 0), (10, 0), (11, 0)] r_p 9) (bx_val [(0, 0), (0, 0), (0, 0), (0, 0), (0, 0), (0, 0), (0, 0), (0, 0), (8, 0), (9, 0), (10, 0), (11, 0)] r_p 10) (bx_val [(0, 0), (0, 0), (0, 0), (0, 0), (0, 0), (0, 0), (0, 0), (0, 0), (8, 0), (9, 0), (10, 0), (11, 0)] r_p 11)
    rw [bx_val_x (n := 8) (e := (8, 0)) h0_ rfl, bx_val_x (n := 9) (e := (9, 0)) h0_ rfl, bx_val_x (n := 10) (e := (10, 0)) h0_ rfl, bx_val_x (n := 11) (e := (11, 0)) h0_ rfl]
    exact g.2.2.1
  · show rxmFC_4 S0 ws S_p (bx_val [(0, 0), (0, 0), (0, 0), (0, 0), (0, 0), (0, 0), (0, 0), (0, 0), (8, 0), (9, 0), (10, 0), (11, 0)] r_p 8) (bx_val [(0, 0), (0, 0), (0, 0), (0, 0), (0, 0), (0, 0), (0, 0), (0, 0), (8, 0), (9, 0), (10, 0), (11, 0)] r_p 9) (bx_val [(0, 0), (0, 0), (0, 0), (0, 0), (0, 0), (0, 0), (0, 0), (0, 0), (8, 0), (9, 0), (10, 0), (11, 0)] r_p 10) (bx_val [(0, 0), (0, 0), (0, 0), (0, 0), (0, 0), (0, 0), (0, 0), (0, 0), (8, 0), (9, 0), (10, 0), (11, 0)] r_p 11) < rxmFC_3 S0 ws S_p (r 8) (r 9) (r 10) (r 11)
    rw [bx_val_x (n := 8) (e := (8, 0)) h0_ rfl, bx_val_x (n := 9) (e := (9, 0)) h0_ rfl, bx_val_x (n := 10) (e := (10, 0)) h0_ rfl, bx_val_x (n := 11) (e := (11, 0)) h0_ rfl, ← hr_ 8 (by decide), ← hr_ 9 (by decide), ← hr_ 10 (by decide), ← hr_ 11 (by decide)]
    exact g.2.2.2
theorem rxcFC_3_2 {S0 : Nat → Int → Int} {ws : List Int} {S : Nat → Int → Int} {person wo k p x12 x13 x14 x15 x16 x17 : Int} (hP : rxPFC S0 ws) (hin : bx_same rxL (bx_mdl rxCFC.2.2.1) S0 S) (I0 : bx_Inv rxL S) (hinv : rxIFC_3 S0 ws S person wo k p) (l8 : 0 ≤ person) (u8 : person ≤ 7) (l9 : 0 ≤ wo) (u9 : wo ≤ 7) (l10 : 0 ≤ k) (u10 : k ≤ 7) (l11 : 0 ≤ p) (u11 : p ≤ 7) (l12 : 1 ≤ x12) (u12 : x12 ≤ 8) (l13 : 0 ≤ x13) (u13 : x13 ≤ 7) (l14 : 0 ≤ x14) (u14 : x14 ≤ 255) (l15 : 1 ≤ x15) (u15 : x15 ≤ 255) (l16 : 1 ≤ x16) (u16 : x16 ≤ 1) (l17 : (-1) ≤ x17) (u17 : x17 ≤ (-1)) (f0 : p = wo) (f1 : x16 ≤ x15) (f2 : x16 ≤ 1) (f3 : p < x12) (e3 : S 482 1 = x12) (e2 : S 506 k = x13) (e1 : S 505 x13 = x14) (e0 : S 507 p = x17) : (True) ∧ (True) ∧ rxIFC_3 S0 ws S person wo k (p + 1) ∧ rxmFC_3 S0 ws S person wo k (p + 1) < rxmFC_3 S0 ws S person wo k p := by
  exact ⟨trivial, trivial, hinv, by unfold rxmFC_3; omega⟩
theorem rxgFC_3_2 {X : (Nat → Int → Int) → Prop} {S0 : Nat → Int → Int} {ws : List Int} (hP : rxPFC S0 ws) : bx_obC rxL X S0 rxCFC.2.2.1 (rxIFC S0 ws) (rxmFC S0 ws) 3 rxzFC_3 rxoFC_3_2 := by
  intro S S_p r r_p hinv hX hin hsm_ hseg
  obtain ⟨I0, I1, h0_, hr_, b_, f_, d_⟩ := bx_cl (evs := [(0, (0, 507), (11, 0), .inr (0, (17, 0))), (0, (0, 505), (13, 0), .inr (0, (14, 0))), (0, (0, 506), (10, 0), .inr (0, (13, 0))), (0, (0, 482), (0, 1), .inr (0, (12, 0)))]) (fvs := [(2, (11, 0), (9, 0), (0, 0)), (1, (16, 0), (15, 0), (0, 0)), (1, (16, 0), (0, 1), (0, 0)), (0, (11, 0), (12, 0), (0, 0))]) hseg (by decide +kernel) (by decide +kernel)
  have hinv : rxIFC_3 S0 ws S (r 8) (r 9) (r 10) (r 11) := hinv
  rw [← hr_ 8 (by decide), ← hr_ 9 (by decide), ← hr_ 10 (by decide), ← hr_ 11 (by decide)] at hinv
  obtain ⟨⟨l8, u8⟩, ⟨l9, u9⟩, ⟨l10, u10⟩, ⟨l11, u11⟩, ⟨l12, u12⟩, ⟨l13, u13⟩, ⟨l14, u14⟩, ⟨l15, u15⟩, ⟨l16, u16⟩, ⟨l17, u17⟩, -⟩ := b_
  obtain ⟨f0, f1, f2, f3, -⟩ := f_
  obtain ⟨e0, ⟨e1, ⟨e2, ⟨e3, w_⟩⟩⟩⟩ := d_
  subst w_
  have g := rxcFC_3_2 hP hin I0 hinv l8 u8 l9 u9 l10 u10 l11 u11 l12 u12 l13 u13 l14 u14 l15 u15 l16 u16 l17 u17 f0 f1 f2 f3 e3 e2 e1 e0
  refine ⟨bx_narP_ok (l := []) g.1, bx_nfP_ok h0_ (fvs := []) (by decide +kernel) g.2.1, ?_, ?_⟩
  · show rxIFC_3 S0 ws S_p (bx_val [(0, 0), (0, 0), (0, 0), (0, 0), (0, 0), (0, 0), (0, 0), (0, 0), (8, 0), (9, 0), (10, 0), (11, 1)] r_p 8) (bx_val [(0, 0), (0, 0), (0, 0), (0, 0), (0, 0), (0, 0), (0, 0), (0, 0), (8, 0), (9, 0), (10, 0), (11, 1)] r_p 9) (bx_val [(0, 0), (0, 0), (0, 0), (0, 0), (0, 0), (0, 0), (0, 0), (0, 0), (8, 0), (9, 0), (10, 0), (11, 1)] r_p 10) (bx_val [(0, 0), (0, 0), (0, 0), (0, 0), (0, 0), (0, 0), (0, 0), (0, 0), (8, 0), (9, 0), (10, 0), (11, 1)] r_p 11)
    rw [bx_val_x (n := 8) (e := (8, 0)) h0_ rfl, bx_val_x (n := 9) (e := (9, 0)) h0_ rfl, bx_val_x (n := 10) (e := (10, 0)) h0_ rfl, bx_val_x (n := 11) (e := (11, 1)) h0_ rfl]
    exact g.2.2.1
  · show rxmFC_3 S0 ws S_p (bx_val [(0, 0), (0, 0), (0, 0), (0, 0), (0, 0), (0, 0), (0, 0), (0, 0), (8, 0), (9, 0), (10, 0), (11, 1)] r_p 8) (bx_val [(0, 0), (0, 0), (0, 0), (0, 0), (0, 0), (0, 0), (0, 0), (0, 0), (8, 0), (9, 0), (10, 0), (11, 1)] r_p 9) (bx_val [(0, 0), (0, 0), (0, 0), (0, 0), (0, 0), (0, 0), (0, 0), (0, 0), (8, 0), (9, 0), (10, 0), (11, 1)] r_p 10) (bx_val [(0, 0), (0, 0), (0, 0), (0, 0), (0, 0), (0, 0), (0, 0), (0, 0), (8, 0), (9, 0), (10, 0), (11, 1)] r_p 11) < rxmFC_3 S0 ws S_p (r 8) (r 9) (r 10) (r 11)
    rw [bx_val_x (n := 8) (e := (8, 0)) h0_ rfl, bx_val_x (n := 9) (e := (9, 0)) h0_ rfl, bx_val_x (n := 10) (e := (10, 0)) h0_ rfl, bx_val_x (n := 11) (e := (11, 1)) h0_ rfl, ← hr_ 8 (by decide), ← hr_ 9 (by decide), ← hr_ 10 (by decide), ← hr_ 11 (by decide)]
    exact g.2.2.2
theorem rxcFC_3_3 {S0 : Nat → Int → Int} {ws : List Int} {S : Nat → Int → Int} {person wo k p x12 x13 x14 x15 x16 x17 : Int} (hP : rxPFC S0 ws) (hin : bx_same rxL (bx_mdl rxCFC.2.2.1) S0 S) (I0 : bx_Inv rxL S) (hinv : rxIFC_3 S0 ws S person wo k p) (l8 : 0 ≤ person) (u8 : person ≤ 7) (l9 : (-1) ≤ wo) (u9 : wo ≤ 7) (l10 : 0 ≤ k) (u10 : k ≤ 7) (l11 : 0 ≤ p) (u11 : p ≤ 7) (l12 : 1 ≤ x12) (u12 : x12 ≤ 8) (l13 : 0 ≤ x13) (u13 : x13 ≤ 7) (l14 : 0 ≤ x14) (u14 : x14 ≤ 255) (l15 : 1 ≤ x15) (u15 : x15 ≤ 255) (l16 : 1 ≤ x16) (u16 : x16 ≤ 1) (l17 : 0 ≤ x17) (u17 : x17 ≤ 7) (f0 : x17 ≠ (-1)) (f1 : x16 ≤ x15) (f2 : x16 ≤ 1) (f3 : p < x12) (e3 : S 482 1 = x12) (e2 : S 506 k = x13) (e1 : S 505 x13 = x14) (e0 : S 507 p = x17) : (True) ∧ (True) ∧ rxIFC_3 S0 ws S person wo k (p + 1) ∧ rxmFC_3 S0 ws S person wo k (p + 1) < rxmFC_3 S0 ws S person wo k p := by
  exact ⟨trivial, trivial, hinv, by unfold rxmFC_3; omega⟩
theorem rxgFC_3_3 {X : (Nat → Int → Int) → Prop} {S0 : Nat → Int → Int} {ws : List Int} (hP : rxPFC S0 ws) : bx_obC rxL X S0 rxCFC.2.2.1 (rxIFC S0 ws) (rxmFC S0 ws) 3 rxzFC_3 rxoFC_3_3 := by
  intro S S_p r r_p hinv hX hin hsm_ hseg
  obtain ⟨I0, I1, h0_, hr_, b_, f_, d_⟩ := bx_cl (evs := [(0, (0, 507), (11, 0), .inr (0, (17, 0))), (0, (0, 505), (13, 0), .inr (0, (14, 0))), (0, (0, 506), (10, 0), .inr (0, (13, 0))), (0, (0, 482), (0, 1), .inr (0, (12, 0)))]) (fvs := [(3, (17, 0), (0, (-1)), (0, 0)), (1, (16, 0), (15, 0), (0, 0)), (1, (16, 0), (0, 1), (0, 0)), (0, (11, 0), (12, 0), (0, 0))]) hseg (by decide +kernel) (by decide +kernel)
  have hinv : rxIFC_3 S0 ws S (r 8) (r 9) (r 10) (r 11) := hinv
  rw [← hr_ 8 (by decide), ← hr_ 9 (by decide), ← hr_ 10 (by decide), ← hr_ 11 (by decide)] at hinv
  obtain ⟨⟨l8, u8⟩, ⟨l9, u9⟩, ⟨l10, u10⟩, ⟨l11, u11⟩, ⟨l12, u12⟩, ⟨l13, u13⟩, ⟨l14, u14⟩, ⟨l15, u15⟩, ⟨l16, u16⟩, ⟨l17, u17⟩, -⟩ := b_
  obtain ⟨f0, f1, f2, f3, -⟩ := f_
  obtain ⟨e0, ⟨e1, ⟨e2, ⟨e3, w_⟩⟩⟩⟩ := d_
  subst w_
  have g := rxcFC_3_3 hP hin I0 hinv l8 u8 l9 u9 l10 u10 l11 u11 l12 u12 l13 u13 l14 u14 l15 u15 l16 u16 l17 u17 f0 f1 f2 f3 e3 e2 e1 e0
  refine ⟨bx_narP_ok (l := []) g.1, bx_nfP_ok h0_ (fvs := []) (by decide +kernel) g.2.1, ?_, ?_⟩
  · show rxIFC_3 S0 ws S_p (bx_val [(0, 0), (0, 0), (0, 0), (0, 0), (0, 0), (0, 0), (0, 0), (0, 0), (8, 0), (9, 0), (10, 0), (11, 1)] r_p 8) (bx_val [(0, 0), (0, 0), (0, 0), (0, 0), (0, 0), (0, 0), (0, 0), (0, 0), (8, 0), (9, 0), (10, 0), (11, 1)] r_p 9) (bx_val [(0, 0), (0, 0), (0, 0), (0, 0), (0, 0), (0, 0), (0, 0), (0, 0), (8, 0), (9, 0), (10, 0), (11, 1)] r_p 10) (bx_val [(0, 0), (0, 0), (0, 0), (0, 0), (0, 0), (0, 0), (0, 0), (0, 0), (8, 0), (9, 0), (10, 0), (11, 1)] r_p 11)
    rw [bx_val_x (n := 8) (e := (8, 0)) h0_ rfl, bx_val_x (n := 9) (e := (9, 0)) h0_ rfl, bx_val_x (n := 10) (e := (10, 0)) h0_ rfl, bx_val_x (n := 11) (e := (11, 1)) h0_ rfl]
    exact g.2.2.1
  · show rxmFC_3 S0 ws S_p (bx_val [(0, 0), (0, 0), (0, 0), (0, 0), (0, 0), (0, 0), (0, 0), (0, 0), (8, 0), (9, 0), (10, 0), (11, 1)] r_p 8) (bx_val [(0, 0), (0, 0), (0, 0), (0, 0), (0, 0), (0, 0), (0, 0), (0, 0), (8, 0), (9, 0), (10, 0), (11, 1)] r_p 9) (bx_val [(0, 0), (0, 0), (0, 0), (0, 0), (0, 0), (0, 0), (0, 0), (0, 0), (8, 0), (9, 0), (10, 0), (11, 1)] r_p 10) (bx_val [(0, 0), (0, 0), (0, 0), (0, 0), (0, 0), (0, 0), (0, 0), (0, 0), (8, 0), (9, 0), (10, 0), (11, 1)] r_p 11) < rxmFC_3 S0 ws S_p (r 8) (r 9) (r 10) (r 11)
    rw [bx_val_x (n := 8) (e := (8, 0)) h0_ rfl, bx_val_x (n := 9) (e := (9, 0)) h0_ rfl, bx_val_x (n := 10) (e := (10, 0)) h0_ rfl, bx_val_x (n := 11) (e := (11, 1)) h0_ rfl, ← hr_ 8 (by decide), ← hr_ 9 (by decide), ← hr_ 10 (by decide), ← hr_ 11 (by decide)]
    exact g.2.2.2
theorem rxcFC_3_4 {S0 : Nat → Int → Int} {ws : List Int} {S : Nat → Int → Int} {person wo k p x12 : Int} (hP : rxPFC S0 ws) (hin : bx_same rxL (bx_mdl rxCFC.2.2.1) S0 S) (I0 : bx_Inv rxL S) (hinv : rxIFC_3 S0 ws S person wo k p) (l8 : 0 ≤ person) (u8 : person ≤ 7) (l9 : (-1) ≤ wo) (u9 : wo ≤ 7) (l10 : 0 ≤ k) (u10 : k ≤ 7) (l11 : 0 ≤ p) (u11 : p ≤ 8) (l12 : 0 ≤ x12) (u12 : x12 ≤ 8) (f0 : x12 ≤ p) (e0 : S 482 1 = x12) : (True) ∧ (True) ∧ rxIFC_2 S0 ws S person wo (k + 1) ∧ rxmFC_2 S0 ws S person wo (k + 1) < rxmFC_3 S0 ws S person wo k p := by
  obtain ⟨hk, hb⟩ := hinv
  exact ⟨trivial, trivial, hb, by unfold rxmFC_3 rxmFC_2; omega⟩
theorem rxgFC_3_4 {X : (Nat → Int → Int) → Prop} {S0 : Nat → Int → Int} {ws : List Int} (hP : rxPFC S0 ws) : bx_obC rxL X S0 rxCFC.2.2.1 (rxIFC S0 ws) (rxmFC S0 ws) 3 rxzFC_3 rxoFC_3_4 := by
  intro S S_p r r_p hinv hX hin hsm_ hseg
  obtain ⟨I0, I1, h0_, hr_, b_, f_, d_⟩ := bx_cl (evs := [(0, (0, 482), (0, 1), .inr (0, (12, 0)))]) (fvs := [(1, (12, 0), (11, 0), (0, 0))]) hseg (by decide +kernel) (by decide +kernel)
  have hinv : rxIFC_3 S0 ws S (r 8) (r 9) (r 10) (r 11) := hinv
  rw [← hr_ 8 (by decide), ← hr_ 9 (by decide), ← hr_ 10 (by decide), ← hr_ 11 (by decide)] at hinv
  obtain ⟨⟨l8, u8⟩, ⟨l9, u9⟩, ⟨l10, u10⟩, ⟨l11, u11⟩, ⟨l12, u12⟩, -⟩ := b_
  obtain ⟨f0, -⟩ := f_
  obtain ⟨e0, w_⟩ := d_
  subst w_
  have g := rxcFC_3_4 hP hin I0 hinv l8 u8 l9 u9 l10 u10 l11 u11 l12 u12 f0 e0
  refine ⟨bx_narP_ok (l := []) g.1, bx_nfP_ok h0_ (fvs := []) (by decide +kernel) g.2.1, ?_, ?_⟩
  · show rxIFC_2 S0 ws S_p (bx_val [(0, 0), (0, 0), (0, 0), (0, 0), (0, 0), (0, 0), (0, 0), (0, 0), (8, 0), (9, 0), (10, 1)] r_p 8) (bx_val [(0, 0), (0, 0), (0, 0), (0, 0), (0, 0), (0, 0), (0, 0), (0, 0), (8, 0), (9, 0), (10, 1)] r_p 9) (bx_val [(0, 0), (0, 0), (0, 0), (0, 0), (0, 0), (0, 0), (0, 0), (0, 0), (8, 0), (9, 0), (10, 1)] r_p 10)
    rw [bx_val_x (n := 8) (e := (8, 0)) h0_ rfl, bx_val_x (n := 9) (e := (9, 0)) h0_ rfl, bx_val_x (n := 10) (e := (10, 1)) h0_ rfl]
    exact g.2.2.1
  · show rxmFC_2 S0 ws S_p (bx_val [(0, 0), (0, 0), (0, 0), (0, 0), (0, 0), (0, 0), (0, 0), (0, 0), (8, 0), (9, 0), (10, 1)] r_p 8) (bx_val [(0, 0), (0, 0), (0, 0), (0, 0), (0, 0), (0, 0), (0, 0), (0, 0), (8, 0), (9, 0), (10, 1)] r_p 9) (bx_val [(0, 0), (0, 0), (0, 0), (0, 0), (0, 0), (0, 0), (0, 0), (0, 0), (8, 0), (9, 0), (10, 1)] r_p 10) < rxmFC_3 S0 ws S_p (r 8) (r 9) (r 10) (r 11)
    rw [bx_val_x (n := 8) (e := (8, 0)) h0_ rfl, bx_val_x (n := 9) (e := (9, 0)) h0_ rfl, bx_val_x (n := 10) (e := (10, 1)) h0_ rfl, ← hr_ 8 (by decide), ← hr_ 9 (by decide), ← hr_ 10 (by decide), ← hr_ 11 (by decide)]
    exact g.2.2.2
theorem rxcFC_4_0 {S0 : Nat → Int → Int} {ws : List Int} {S : Nat → Int → Int} {person wo k p x12 x13 : Int} (hP : rxPFC S0 ws) (hin : bx_same rxL (bx_mdl rxCFC.2.2.1) S0 S) (I0 : bx_Inv rxL S) (hinv : rxIFC_4 S0 ws S person wo k p) (l8 : 0 ≤ person) (u8 : person ≤ 7) (l9 : (-1) ≤ wo) (u9 : wo ≤ 7) (l10 : 0 ≤ k) (u10 : k ≤ 7) (l11 : 0 ≤ p) (u11 : p ≤ 7) (l12 : 0 ≤ x12) (u12 : x12 ≤ 7) (l13 : 0 ≤ x13) (u13 : x13 ≤ 8) (e2 : S 506 k = x12) (e0 : (bx_up S 507 p x12) 480 54 = x13) : ((0 ≤ x13 ∧ x13 ≤ 7) ∧ True) ∧ (True) ∧ rxIFC_5 S0 ws (bx_up S 507 p x12) person wo k p x13 p ∧ rxmFC_5 S0 ws (bx_up S 507 p x12) person wo k p x13 p < rxmFC_4 S0 ws S person wo k p := by
  obtain ⟨hk, hp, h1, h2, h3, h4⟩ := hinv
  have h5 := rx_cnt_lt (f := S 507) (x := p) (n := 8) (by omega) (by omega) hp
  have t0 : (bx_up S 507 p x12) 480 54 = S 480 54 := by simp [bx_up]
  have t1 : ∀ x : Int, (bx_up S 507 p x12) 507 x = if x = p then x12 else S 507 x := fun x => by simp [bx_up]
  have t2 : ∀ x : Int, (bx_up S 507 p x12) 506 x = S 506 x := fun x => by simp [bx_up]
  have hc := rx_cnt_upd (f := S 507) (g := (bx_up S 507 p x12) 507) (x := p) (n := 8) (by omega) (by omega) hp (by rw [t1, if_pos rfl]; omega) (fun y hy => by rw [t1, if_neg hy])
  have hy := h4 k l10 hk
  rw [e2] at hy
  rw [t0] at e0
  refine ⟨⟨by omega, trivial⟩, trivial, ⟨by omega, rfl, by omega, by rw [t1, if_pos rfl]; omega, by omega, by omega, ?_, fun i g1 g2 => ?_⟩, by unfold rxmFC_4 rxmFC_5; omega⟩
  · rw [← e0]
    exact rx_rk_upd (x := p) (y := x12) h3 (by omega) (by omega) hy hp (by rw [t1, if_pos rfl]) (fun z hz => by rw [t1, if_neg hz])
  · rw [t2, t1]
    split
    · omega
    · exact h4 i g1 (by omega)
theorem rxgFC_4_0 {X : (Nat → Int → Int) → Prop} {S0 : Nat → Int → Int} {ws : List Int} (hP : rxPFC S0 ws) : bx_obC rxL X S0 rxCFC.2.2.1 (rxIFC S0 ws) (rxmFC S0 ws) 4 rxzFC_4 rxoFC_4_0 := by
  intro S S_p r r_p hinv hX hin hsm_ hseg
  obtain ⟨I0, I1, h0_, hr_, b_, f_, d_⟩ := bx_cl (evs := [(0, (0, 480), (0, 54), .inr (0, (13, 0))), (1, (0, 507), (11, 0), .inr (0, (12, 0))), (0, (0, 506), (10, 0), .inr (0, (12, 0)))]) (fvs := []) hseg (by decide +kernel) (by decide +kernel)
  have hinv : rxIFC_4 S0 ws S (r 8) (r 9) (r 10) (r 11) := hinv
  rw [← hr_ 8 (by decide), ← hr_ 9 (by decide), ← hr_ 10 (by decide), ← hr_ 11 (by decide)] at hinv
  obtain ⟨⟨l8, u8⟩, ⟨l9, u9⟩, ⟨l10, u10⟩, ⟨l11, u11⟩, ⟨l12, u12⟩, ⟨l13, u13⟩, -⟩ := b_
  obtain ⟨e0, ⟨T1, ⟨e2, w_⟩, w1⟩⟩ := d_
  subst w1
  subst w_
  have g := rxcFC_4_0 hP hin I0 hinv l8 u8 l9 u9 l10 u10 l11 u11 l12 u12 l13 u13 e2 e0
  refine ⟨bx_narP_ok (l := [(13, 0, 7)]) g.1, bx_nfP_ok h0_ (fvs := []) (by decide +kernel) g.2.1, ?_, ?_⟩
  · show rxIFC_5 S0 ws (bx_up T1 507 (r_p 11) (r_p 12)) (bx_val [(0, 0), (0, 0), (0, 0), (0, 0), (0, 0), (0, 0), (0, 0), (0, 0), (8, 0), (9, 0), (10, 0), (11, 0), (13, 0), (11, 0)] r_p 8) (bx_val [(0, 0), (0, 0), (0, 0), (0, 0), (0, 0), (0, 0), (0, 0), (0, 0), (8, 0), (9, 0), (10, 0), (11, 0), (13, 0), (11, 0)] r_p 9) (bx_val [(0, 0), (0, 0), (0, 0), (0, 0), (0, 0), (0, 0), (0, 0), (0, 0), (8, 0), (9, 0), (10, 0), (11, 0), (13, 0), (11, 0)] r_p 10) (bx_val [(0, 0), (0, 0), (0, 0), (0, 0), (0, 0), (0, 0), (0, 0), (0, 0), (8, 0), (9, 0), (10, 0), (11, 0), (13, 0), (11, 0)] r_p 11) (bx_val [(0, 0), (0, 0), (0, 0), (0, 0), (0, 0), (0, 0), (0, 0), (0, 0), (8, 0), (9, 0), (10, 0), (11, 0), (13, 0), (11, 0)] r_p 12) (bx_val [(0, 0), (0, 0), (0, 0), (0, 0), (0, 0), (0, 0), (0, 0), (0, 0), (8, 0), (9, 0), (10, 0), (11, 0), (13, 0), (11, 0)] r_p 13)
    rw [bx_val_x (n := 8) (e := (8, 0)) h0_ rfl, bx_val_x (n := 9) (e := (9, 0)) h0_ rfl, bx_val_x (n := 10) (e := (10, 0)) h0_ rfl, bx_val_x (n := 11) (e := (11, 0)) h0_ rfl, bx_val_x (n := 12) (e := (13, 0)) h0_ rfl, bx_val_x (n := 13) (e := (11, 0)) h0_ rfl]
    exact g.2.2.1
  · show rxmFC_5 S0 ws (bx_up T1 507 (r_p 11) (r_p 12)) (bx_val [(0, 0), (0, 0), (0, 0), (0, 0), (0, 0), (0, 0), (0, 0), (0, 0), (8, 0), (9, 0), (10, 0), (11, 0), (13, 0), (11, 0)] r_p 8) (bx_val [(0, 0), (0, 0), (0, 0), (0, 0), (0, 0), (0, 0), (0, 0), (0, 0), (8, 0), (9, 0), (10, 0), (11, 0), (13, 0), (11, 0)] r_p 9) (bx_val [(0, 0), (0, 0), (0, 0), (0, 0), (0, 0), (0, 0), (0, 0), (0, 0), (8, 0), (9, 0), (10, 0), (11, 0), (13, 0), (11, 0)] r_p 10) (bx_val [(0, 0), (0, 0), (0, 0), (0, 0), (0, 0), (0, 0), (0, 0), (0, 0), (8, 0), (9, 0), (10, 0), (11, 0), (13, 0), (11, 0)] r_p 11) (bx_val [(0, 0), (0, 0), (0, 0), (0, 0), (0, 0), (0, 0), (0, 0), (0, 0), (8, 0), (9, 0), (10, 0), (11, 0), (13, 0), (11, 0)] r_p 12) (bx_val [(0, 0), (0, 0), (0, 0), (0, 0), (0, 0), (0, 0), (0, 0), (0, 0), (8, 0), (9, 0), (10, 0), (11, 0), (13, 0), (11, 0)] r_p 13) < rxmFC_4 S0 ws T1 (r 8) (r 9) (r 10) (r 11)
    rw [bx_val_x (n := 8) (e := (8, 0)) h0_ rfl, bx_val_x (n := 9) (e := (9, 0)) h0_ rfl, bx_val_x (n := 10) (e := (10, 0)) h0_ rfl, bx_val_x (n := 11) (e := (11, 0)) h0_ rfl, bx_val_x (n := 12) (e := (13, 0)) h0_ rfl, bx_val_x (n := 13) (e := (11, 0)) h0_ rfl, ← hr_ 8 (by decide), ← hr_ 9 (by decide), ← hr_ 10 (by decide), ← hr_ 11 (by decide)]
    exact g.2.2.2
theorem rxcFC_5_0 {S0 : Nat → Int → Int} {ws : List Int} {S : Nat → Int → Int} {person wo k p ci p2 x14 : Int} (hP : rxPFC S0 ws) (hin : bx_same rxL (bx_mdl rxCFC.2.2.1) S0 S) (I0 : bx_Inv rxL S) (hinv : rxIFC_5 S0 ws S person wo k p ci p2) (l8 : 0 ≤ person) (u8 : person ≤ 7) (l9 : (-1) ≤ wo) (u9 : wo ≤ 7) (l10 : 0 ≤ k) (u10 : k ≤ 7) (l11 : 0 ≤ p) (u11 : p ≤ 7) (l12 : 0 ≤ ci) (u12 : ci ≤ 7) (l13 : 0 ≤ p2) (u13 : p2 ≤ 7) (l14 : 0 ≤ x14) (u14 : x14 ≤ 8) (e0 : (bx_up S 506 ci p2) 480 54 = x14) : ((0 ≤ x14 ∧ x14 ≤ 7) ∧ True) ∧ (True) ∧ rxIFC_6 S0 ws (bx_up S 506 ci p2) person wo k p x14 ∧ rxmFC_6 S0 ws (bx_up S 506 ci p2) person wo k p x14 < rxmFC_5 S0 ws S person wo k p ci p2 := by
  obtain ⟨h1, h2, hk, hp, h3, h4, h5, h6⟩ := hinv
  have t0 : (bx_up S 506 ci p2) 480 54 = S 480 54 := by simp [bx_up]
  have t1 : ∀ x : Int, (bx_up S 506 ci p2) 507 x = S 507 x := fun x => by simp [bx_up]
  have t2 : ∀ x : Int, (bx_up S 506 ci p2) 506 x = if x = ci then p2 else S 506 x := fun x => by simp [bx_up]
  rw [t0] at e0
  have ec : ci = x14 := by omega
  subst ec
  refine ⟨⟨by omega, trivial⟩, trivial, ⟨by omega, by omega, by omega, ?_, ?_, fun i g1 g2 => ?_⟩, by unfold rxmFC_5 rxmFC_6; omega⟩
  · rw [rx_cnt_congr (f := (bx_up S 506 ci p2) 507) (g := S 507) (fun x _ _ => t1 x)]
    exact h4
  · exact rx_rk_congr h5 (fun x _ _ => t1 x)
  · rw [t1, t2]
    by_cases hi : i = ci
    · subst hi
      rw [if_pos rfl, h2]
      exact hp
    · rw [if_neg hi]
      exact h6 i g1 (by omega)
theorem rxgFC_5_0 {X : (Nat → Int → Int) → Prop} {S0 : Nat → Int → Int} {ws : List Int} (hP : rxPFC S0 ws) : bx_obC rxL X S0 rxCFC.2.2.1 (rxIFC S0 ws) (rxmFC S0 ws) 5 rxzFC_5 rxoFC_5_0 := by
  intro S S_p r r_p hinv hX hin hsm_ hseg
  obtain ⟨I0, I1, h0_, hr_, b_, f_, d_⟩ := bx_cl (evs := [(0, (0, 480), (0, 54), .inr (0, (14, 0))), (1, (0, 506), (12, 0), .inr (0, (13, 0)))]) (fvs := []) hseg (by decide +kernel) (by decide +kernel)
  have hinv : rxIFC_5 S0 ws S (r 8) (r 9) (r 10) (r 11) (r 12) (r 13) := hinv
  rw [← hr_ 8 (by decide), ← hr_ 9 (by decide), ← hr_ 10 (by decide), ← hr_ 11 (by decide), ← hr_ 12 (by decide), ← hr_ 13 (by decide)] at hinv
  obtain ⟨⟨l8, u8⟩, ⟨l9, u9⟩, ⟨l10, u10⟩, ⟨l11, u11⟩, ⟨l12, u12⟩, ⟨l13, u13⟩, ⟨l14, u14⟩, -⟩ := b_
  obtain ⟨e0, ⟨T1, w_, w1⟩⟩ := d_
  subst w1
  subst w_
  have g := rxcFC_5_0 hP hin I0 hinv l8 u8 l9 u9 l10 u10 l11 u11 l12 u12 l13 u13 l14 u14 e0
  refine ⟨bx_narP_ok (l := [(14, 0, 7)]) g.1, bx_nfP_ok h0_ (fvs := []) (by decide +kernel) g.2.1, ?_, ?_⟩
  · show rxIFC_6 S0 ws (bx_up T1 506 (r_p 12) (r_p 13)) (bx_val [(0, 0), (0, 0), (0, 0), (0, 0), (0, 0), (0, 0), (0, 0), (0, 0), (8, 0), (9, 0), (10, 0), (11, 0), (14, 0)] r_p 8) (bx_val [(0, 0), (0, 0), (0, 0), (0, 0), (0, 0), (0, 0), (0, 0), (0, 0), (8, 0), (9, 0), (10, 0), (11, 0), (14, 0)] r_p 9) (bx_val [(0, 0), (0, 0), (0, 0), (0, 0), (0, 0), (0, 0), (0, 0), (0, 0), (8, 0), (9, 0), (10, 0), (11, 0), (14, 0)] r_p 10) (bx_val [(0, 0), (0, 0), (0, 0), (0, 0), (0, 0), (0, 0), (0, 0), (0, 0), (8, 0), (9, 0), (10, 0), (11, 0), (14, 0)] r_p 11) (bx_val [(0, 0), (0, 0), (0, 0), (0, 0), (0, 0), (0, 0), (0, 0), (0, 0), (8, 0), (9, 0), (10, 0), (11, 0), (14, 0)] r_p 12)
    rw [bx_val_x (n := 8) (e := (8, 0)) h0_ rfl, bx_val_x (n := 9) (e := (9, 0)) h0_ rfl, bx_val_x (n := 10) (e := (10, 0)) h0_ rfl, bx_val_x (n := 11) (e := (11, 0)) h0_ rfl, bx_val_x (n := 12) (e := (14, 0)) h0_ rfl]
    exact g.2.2.1
  · show rxmFC_6 S0 ws (bx_up T1 506 (r_p 12) (r_p 13)) (bx_val [(0, 0), (0, 0), (0, 0), (0, 0), (0, 0), (0, 0), (0, 0), (0, 0), (8, 0), (9, 0), (10, 0), (11, 0), (14, 0)] r_p 8) (bx_val [(0, 0), (0, 0), (0, 0), (0, 0), (0, 0), (0, 0), (0, 0), (0, 0), (8, 0), (9, 0), (10, 0), (11, 0), (14, 0)] r_p 9) (bx_val [(0, 0), (0, 0), (0, 0), (0, 0), (0, 0), (0, 0), (0, 0), (0, 0), (8, 0), (9, 0), (10, 0), (11, 0), (14, 0)] r_p 10) (bx_val [(0, 0), (0, 0), (0, 0), (0, 0), (0, 0), (0, 0), (0, 0), (0, 0), (8, 0), (9, 0), (10, 0), (11, 0), (14, 0)] r_p 11) (bx_val [(0, 0), (0, 0), (0, 0), (0, 0), (0, 0), (0, 0), (0, 0), (0, 0), (8, 0), (9, 0), (10, 0), (11, 0), (14, 0)] r_p 12) < rxmFC_5 S0 ws T1 (r 8) (r 9) (r 10) (r 11) (r 12) (r 13)
    rw [bx_val_x (n := 8) (e := (8, 0)) h0_ rfl, bx_val_x (n := 9) (e := (9, 0)) h0_ rfl, bx_val_x (n := 10) (e := (10, 0)) h0_ rfl, bx_val_x (n := 11) (e := (11, 0)) h0_ rfl, bx_val_x (n := 12) (e := (14, 0)) h0_ rfl, ← hr_ 8 (by decide), ← hr_ 9 (by decide), ← hr_ 10 (by decide), ← hr_ 11 (by decide), ← hr_ 12 (by decide), ← hr_ 13 (by decide)]
    exact g.2.2.2
theorem rxcFC_6_0 {S0 : Nat → Int → Int} {ws : List Int} {S : Nat → Int → Int} {person wo k p q : Int} (hP : rxPFC S0 ws) (hin : bx_same rxL (bx_mdl rxCFC.2.2.1) S0 S) (I0 : bx_Inv rxL S) (hinv : rxIFC_6 S0 ws S person wo k p q) (l8 : 0 ≤ person) (u8 : person ≤ 7) (l9 : (-1) ≤ wo) (u9 : wo ≤ 7) (l10 : 0 ≤ k) (u10 : k ≤ 7) (l11 : 0 ≤ p) (u11 : p ≤ 7) (l12 : 0 ≤ q) (u12 : q ≤ 7) : (True) ∧ (True) ∧ rxIFC_3 S0 ws (bx_up S 480 54 (q + 1)) person wo k (p + 1) ∧ rxmFC_3 S0 ws (bx_up S 480 54 (q + 1)) person wo k (p + 1) < rxmFC_6 S0 ws S person wo k p q := by
  obtain ⟨h1, hk, h2, h3, h4, h5⟩ := hinv
  have t0 : (bx_up S 480 54 (q + 1)) 480 54 = q + 1 := by simp [bx_up]
  have t1 : ∀ x : Int, (bx_up S 480 54 (q + 1)) 507 x = S 507 x := fun x => by simp [bx_up]
  have t2 : ∀ x : Int, (bx_up S 480 54 (q + 1)) 506 x = S 506 x := fun x => by simp [bx_up]
  refine ⟨trivial, trivial, ⟨by omega, by omega, ?_, ?_, fun i g1 g2 => ?_⟩, by unfold rxmFC_6 rxmFC_3; omega⟩
  · rw [rx_cnt_congr (f := (bx_up S 480 54 (q + 1)) 507) (g := S 507) (fun x _ _ => t1 x), t0]
    exact h3
  · rw [t0]
    exact rx_rk_congr h4 (fun x _ _ => t1 x)
  · rw [t1, t2]
    exact h5 i g1 (by omega)
theorem rxgFC_6_0 {X : (Nat → Int → Int) → Prop} {S0 : Nat → Int → Int} {ws : List Int} (hP : rxPFC S0 ws) : bx_obC rxL X S0 rxCFC.2.2.1 (rxIFC S0 ws) (rxmFC S0 ws) 6 rxzFC_6 rxoFC_6_0 := by
  intro S S_p r r_p hinv hX hin hsm_ hseg
  obtain ⟨I0, I1, h0_, hr_, b_, f_, d_⟩ := bx_cl (evs := [(1, (0, 480), (0, 54), .inr (0, (12, 1)))]) (fvs := []) hseg (by decide +kernel) (by decide +kernel)
  have hinv : rxIFC_6 S0 ws S (r 8) (r 9) (r 10) (r 11) (r 12) := hinv
  rw [← hr_ 8 (by decide), ← hr_ 9 (by decide), ← hr_ 10 (by decide), ← hr_ 11 (by decide), ← hr_ 12 (by decide)] at hinv
  obtain ⟨⟨l8, u8⟩, ⟨l9, u9⟩, ⟨l10, u10⟩, ⟨l11, u11⟩, ⟨l12, u12⟩, -⟩ := b_
  obtain ⟨T0, w_, w0⟩ := d_
  subst w0
  subst w_
  have g := rxcFC_6_0 hP hin I0 hinv l8 u8 l9 u9 l10 u10 l11 u11 l12 u12
  refine ⟨bx_narP_ok (l := []) g.1, bx_nfP_ok h0_ (fvs := []) (by decide +kernel) g.2.1, ?_, ?_⟩
  · show rxIFC_3 S0 ws (bx_up T0 480 (54) (r_p 12 + 1)) (bx_val [(0, 0), (0, 0), (0, 0), (0, 0), (0, 0), (0, 0), (0, 0), (0, 0), (8, 0), (9, 0), (10, 0), (11, 1)] r_p 8) (bx_val [(0, 0), (0, 0), (0, 0), (0, 0), (0, 0), (0, 0), (0, 0), (0, 0), (8, 0), (9, 0), (10, 0), (11, 1)] r_p 9) (bx_val [(0, 0), (0, 0), (0, 0), (0, 0), (0, 0), (0, 0), (0, 0), (0, 0), (8, 0), (9, 0), (10, 0), (11, 1)] r_p 10) (bx_val [(0, 0), (0, 0), (0, 0), (0, 0), (0, 0), (0, 0), (0, 0), (0, 0), (8, 0), (9, 0), (10, 0), (11, 1)] r_p 11)
    rw [bx_val_x (n := 8) (e := (8, 0)) h0_ rfl, bx_val_x (n := 9) (e := (9, 0)) h0_ rfl, bx_val_x (n := 10) (e := (10, 0)) h0_ rfl, bx_val_x (n := 11) (e := (11, 1)) h0_ rfl]
    exact g.2.2.1
  · show rxmFC_3 S0 ws (bx_up T0 480 (54) (r_p 12 + 1)) (bx_val [(0, 0), (0, 0), (0, 0), (0, 0), (0, 0), (0, 0), (0, 0), (0, 0), (8, 0), (9, 0), (10, 0), (11, 1)] r_p 8) (bx_val [(0, 0), (0, 0), (0, 0), (0, 0), (0, 0), (0, 0), (0, 0), (0, 0), (8, 0), (9, 0), (10, 0), (11, 1)] r_p 9) (bx_val [(0, 0), (0, 0), (0, 0), (0, 0), (0, 0), (0, 0), (0, 0), (0, 0), (8, 0), (9, 0), (10, 0), (11, 1)] r_p 10) (bx_val [(0, 0), (0, 0), (0, 0), (0, 0), (0, 0), (0, 0), (0, 0), (0, 0), (8, 0), (9, 0), (10, 0), (11, 1)] r_p 11) < rxmFC_6 S0 ws T0 (r 8) (r 9) (r 10) (r 11) (r 12)
    rw [bx_val_x (n := 8) (e := (8, 0)) h0_ rfl, bx_val_x (n := 9) (e := (9, 0)) h0_ rfl, bx_val_x (n := 10) (e := (10, 0)) h0_ rfl, bx_val_x (n := 11) (e := (11, 1)) h0_ rfl, ← hr_ 8 (by decide), ← hr_ 9 (by decide), ← hr_ 10 (by decide), ← hr_ 11 (by decide), ← hr_ 12 (by decide)]
    exact g.2.2.2
theorem rxgCFC {X : (Nat → Int → Int) → Prop} {S0 : Nat → Int → Int} {ws : List Int} (hP : rxPFC S0 ws) : bx_allI (fun i q => rxUFC q = true ∨ bx_allP (fun o => bx_obC rxL X S0 rxCFC.2.2.1 (rxIFC S0 ws) (rxmFC S0 ws) i q.1 o) q.2.1) 0 rxYFC := ⟨Or.inr ⟨rxgFC_0_0 hP, trivial⟩, Or.inr ⟨rxgFC_1_0 hP, rxgFC_1_1 hP, trivial⟩, Or.inr ⟨rxgFC_2_0 hP, trivial⟩, Or.inr ⟨rxgFC_3_0 hP, rxgFC_3_1 hP, rxgFC_3_2 hP, rxgFC_3_3 hP, rxgFC_3_4 hP, trivial⟩, Or.inr ⟨rxgFC_4_0 hP, trivial⟩, Or.inr ⟨rxgFC_5_0 hP, trivial⟩, Or.inr ⟨rxgFC_6_0 hP, trivial⟩, trivial⟩
theorem rxgEFC {X : (Nat → Int → Int) → Prop} {S0 : Nat → Int → Int} {ws : List Int} (hP : rxPFC S0 ws) : bx_allI (fun i q => rxUFC q = true ∨ bx_allP (fun E => bx_obE rxL X S0 rxCFC.2.2.1 (rxIFC S0 ws) (rxPSFC S0 ws) i q.1 E) q.2.2) 0 rxYFC := ⟨Or.inr trivial, Or.inr trivial, Or.inr ⟨rxfFC_2_0 hP, trivial⟩, Or.inr trivial, Or.inr trivial, Or.inr trivial, Or.inr trivial, trivial⟩
theorem rxQFC {PX : State → Prop} {Dg : va_G} {A : Nat → Prop} {ad xa : Nat → Nat} {l : Launch} {X : (Nat → Int → Int) → Prop} (hPX : rx_PXOK rxNW A PX) (hsl : ∀ s : State, PX s → ∀ o idx n : Nat, rxSl o idx = some n → ∃ tx : String, vk_R (rxNm o) idx tx (ad n) s)
    (hX : ∀ S S_p : Nat → Int → Int, X S → bx_same rxL (bx_mdl rxCFC.2.2.1) S S_p → X S_p)
    (ih : ∀ (j2 : Nat) (ct2 : bx_Ct) (M2 : rx_Mt), ct2 ∈ rxCnE j2 → ct2.2.2.2.1 + 1 ≤ rxCFC.2.2.2.1 → rxT.2.2.2.2.2 j2 = some M2 → bx_Con rxG rxNW rxAO PX Dg rxL X vwCl A ad l M2 ct2) : bx_ConP rxG rxNW rxAO PX Dg rxL X vwCl A ad l rxM311 rxCFC rxPFC rxPSFC :=
  rxQof (xa := xa) (Cn := rxCnE) (f := 30000) (j := 311) (tab := rxYFC) (us := rxUFC) hPX hsl hX ih rfl rxYcFC rxIFC rxmFC
    (fun S0 ws r I0 I ht0 ht as he he1 hX0 hI0 hP hs ha => by
      have e := he.symm.trans (show bx_ent0 rxNP rxCFC.1 bx_I0 [] = some ([(0, 0), (0, 0), (0, 0), (0, 0), (0, 0), (0, 0), (0, 0), (0, 0), (0, 7), ((-1), 7)], [], [.inr (3, (0, 480)), .inr (0, (8, 0)), .inr (0, (9, 0))]) from rfl)
      cases e
      subst ha
      have h0 : r 0 = 0 := hs.1
      show rxIFC_0 S0 _ S0 (r 8) (r 9)
      refine ⟨rfl, ?_⟩
      simp only [List.map_cons, List.map_nil, bx_xv_ok h0]
      rfl)
    (fun S0 ws hP => fun i q hq hus => absurd (show false = true from hus) Bool.false_ne_true) (fun S0 ws hP => rxgCFC hP) (fun S0 ws hP => rxgEFC hP)
