noncomputable def rxCHED : bx_Ct := ([(3, (1, 1, 0)), (0, (0, 0, 7)), (0, (0, 0, 5)), (0, (0, (-1), 7)), (0, (0, 0, 300))], none, [(1017, 0), (1018, 0), (1023, 0)], 3, [])
noncomputable def rxIHED_0 (S0 : Nat → Int → Int) (ws : List Int) (S : Nat → Int → Int) (ps pa tc yr : Int) : Prop := S = S0 ∧ ws = [1, ps, pa, tc, yr]
noncomputable def rxmHED_0 (S0 : Nat → Int → Int) (ws : List Int) (S : Nat → Int → Int) (ps pa tc yr : Int) : Nat := 100000
noncomputable def rxzHED_0 : rx_Z := ([(0, 0), (0, 0), (0, 0), (0, 0), (0, 0), (0, 0), (0, 0), (0, 0), (0, 7), (0, 5), ((-1), 7), (0, 300)], [], [], 0, 0, 0, [(0, .inr (3, (0, 1))), (1, .inr (0, (8, 0))), (2, .inr (0, (9, 0))), (3, .inr (0, (10, 0))), (4, .inr (0, (11, 0)))], [])
noncomputable def rxIHED_1 (S0 : Nat → Int → Int) (ws : List Int) (S : Nat → Int → Int) (pg i : Int) : Prop := ∃ ps pa tc yr : Int, ws = [1, ps, pa, tc, yr] ∧ (0 ≤ S0 1 15 ∧ S0 1 15 ≤ 5) ∧ pg = 77 + 10 * S0 1 15 ∧ rkVb (rkVv ps (S0 8 ps) (S0 6 ps) (S0 7 ps) pa tc yr (S0 19 1)) ∧ (∀ k : Int, 1 ≤ k → k ≤ 8 → S 22 (k - 1) = (rkVv ps (S0 8 ps) (S0 6 ps) (S0 7 ps) pa tc yr (S0 19 1)) k) ∧ ∀ L : List rkQ, rkHl S0 pg.toNat L → rkLn L → ∃ L1 L2 : List rkQ, L = L1 ++ L2 ∧ (L1.length : Int) = i ∧ ∀ z : rkH3, rkHr (rkVv ps (S0 8 ps) (S0 6 ps) (S0 7 ps) pa tc yr (S0 19 1)) L2 (hd3 S) z → rkHr (rkVv ps (S0 8 ps) (S0 6 ps) (S0 7 ps) pa tc yr (S0 19 1)) L (S0 19 2, 1, 0) z
noncomputable def rxmHED_1 (S0 : Nat → Int → Int) (ws : List Int) (S : Nat → Int → Int) (pg i : Int) : Nat := 100 * (50 - i).toNat
noncomputable def rxzHED_1 : rx_Z := ([(0, 0), (0, 0), (0, 0), (0, 0), (0, 0), (0, 0), (0, 0), (0, 0), (0, 1522), (0, 12)], [], [(((8, 0), 1000007), .inl none)], 0, 0, 151, [(0, .inr (3, (0, 1))), (5, .inr (3, (8, 0))), (6, .inr (0, (9, 0)))], [])
noncomputable def rxIHED_2 (S0 : Nat → Int → Int) (ws : List Int) (S : Nat → Int → Int) (pg i : Int) : Prop := i < S0 pg.toNat 4 ∧ ∃ ps pa tc yr : Int, ws = [1, ps, pa, tc, yr] ∧ (0 ≤ S0 1 15 ∧ S0 1 15 ≤ 5) ∧ pg = 77 + 10 * S0 1 15 ∧ rkVb (rkVv ps (S0 8 ps) (S0 6 ps) (S0 7 ps) pa tc yr (S0 19 1)) ∧ (∀ k : Int, 1 ≤ k → k ≤ 8 → S 22 (k - 1) = (rkVv ps (S0 8 ps) (S0 6 ps) (S0 7 ps) pa tc yr (S0 19 1)) k) ∧ ∀ L : List rkQ, rkHl S0 pg.toNat L → rkLn L → ∃ L1 L2 : List rkQ, L = L1 ++ L2 ∧ (L1.length : Int) = i ∧ ∀ z : rkH3, rkHr (rkVv ps (S0 8 ps) (S0 6 ps) (S0 7 ps) pa tc yr (S0 19 1)) L2 (hd3 S) z → rkHr (rkVv ps (S0 8 ps) (S0 6 ps) (S0 7 ps) pa tc yr (S0 19 1)) L (S0 19 2, 1, 0) z
noncomputable def rxmHED_2 (S0 : Nat → Int → Int) (ws : List Int) (S : Nat → Int → Int) (pg i : Int) : Nat := 100 * (50 - i).toNat - 10
noncomputable def rxzHED_2 : rx_Z := ([(0, 0), (0, 0), (0, 0), (0, 0), (0, 0), (0, 0), (0, 0), (0, 0), (0, 1522), (0, 11)], [], [(((8, 0), 1000007), .inl none)], 0, 0, 176, [(0, .inr (3, (0, 1))), (5, .inr (3, (8, 0))), (6, .inr (0, (9, 0)))], [.inr (3, (0, 22)), .inr (0, (9, 0)), .inr (3, (8, 0))])
noncomputable def rxIHED_3 (S0 : Nat → Int → Int) (ws : List Int) (S : Nat → Int → Int) (pg i so : Int) : Prop := i < S0 pg.toNat 4 ∧ ∃ ps pa tc yr : Int, ws = [1, ps, pa, tc, yr] ∧ (0 ≤ S0 1 15 ∧ S0 1 15 ≤ 5) ∧ pg = 77 + 10 * S0 1 15 ∧ rkVb (rkVv ps (S0 8 ps) (S0 6 ps) (S0 7 ps) pa tc yr (S0 19 1)) ∧ (∀ k : Int, 1 ≤ k → k ≤ 8 → S 22 (k - 1) = (rkVv ps (S0 8 ps) (S0 6 ps) (S0 7 ps) pa tc yr (S0 19 1)) k) ∧ ∀ L : List rkQ, rkHl S0 pg.toNat L → rkLn L → ∃ (q : rkQ) (L1 L2 : List rkQ), L = L1 ++ q :: L2 ∧ (L1.length : Int) = i ∧ ((so = 1 ∧ rkTru (rkVv ps (S0 8 ps) (S0 6 ps) (S0 7 ps) pa tc yr (S0 19 1)) q.2.2.2.2.2) ∨ (so = 0 ∧ rkFal (rkVv ps (S0 8 ps) (S0 6 ps) (S0 7 ps) pa tc yr (S0 19 1)) q.2.2.2.2.2)) ∧ ∀ z : rkH3, rkHr (rkVv ps (S0 8 ps) (S0 6 ps) (S0 7 ps) pa tc yr (S0 19 1)) (q :: L2) (hd3 S) z → rkHr (rkVv ps (S0 8 ps) (S0 6 ps) (S0 7 ps) pa tc yr (S0 19 1)) L (S0 19 2, 1, 0) z
noncomputable def rxmHED_3 (S0 : Nat → Int → Int) (ws : List Int) (S : Nat → Int → Int) (pg i so : Int) : Nat := 100 * (50 - i).toNat - 20
noncomputable def rxzHED_3 : rx_Z := ([(0, 0), (0, 0), (0, 0), (0, 0), (0, 0), (0, 0), (0, 0), (0, 0), (0, 1522), (0, 11), (0, 1)], [], [(((8, 0), 1000007), .inl none)], 0, 0, 179, [(0, .inr (3, (0, 1))), (5, .inr (3, (8, 0))), (6, .inr (0, (9, 0)))], [.inr (0, (10, 0))])
noncomputable def rxIHED_4 (S0 : Nat → Int → Int) (ws : List Int) (S : Nat → Int → Int) (pg i : Int) : Prop := i < S0 pg.toNat 4 ∧ ∃ ps pa tc yr : Int, ws = [1, ps, pa, tc, yr] ∧ (0 ≤ S0 1 15 ∧ S0 1 15 ≤ 5) ∧ pg = 77 + 10 * S0 1 15 ∧ rkVb (rkVv ps (S0 8 ps) (S0 6 ps) (S0 7 ps) pa tc yr (S0 19 1)) ∧ (∀ k : Int, 1 ≤ k → k ≤ 8 → S 22 (k - 1) = (rkVv ps (S0 8 ps) (S0 6 ps) (S0 7 ps) pa tc yr (S0 19 1)) k) ∧ ∀ L : List rkQ, rkHl S0 pg.toNat L → rkLn L → ∃ (q : rkQ) (L1 L2 : List rkQ), L = L1 ++ q :: L2 ∧ (L1.length : Int) = i ∧ (rkTru (rkVv ps (S0 8 ps) (S0 6 ps) (S0 7 ps) pa tc yr (S0 19 1)) q.2.2.2.2.2) ∧ ∀ z : rkH3, rkHr (rkVv ps (S0 8 ps) (S0 6 ps) (S0 7 ps) pa tc yr (S0 19 1)) (q :: L2) (hd3 S) z → rkHr (rkVv ps (S0 8 ps) (S0 6 ps) (S0 7 ps) pa tc yr (S0 19 1)) L (S0 19 2, 1, 0) z
noncomputable def rxmHED_4 (S0 : Nat → Int → Int) (ws : List Int) (S : Nat → Int → Int) (pg i : Int) : Nat := 100 * (50 - i).toNat - 30
noncomputable def rxzHED_4 : rx_Z := ([(0, 0), (0, 0), (0, 0), (0, 0), (0, 0), (0, 0), (0, 0), (0, 0), (0, 1522), (0, 11)], [], [(((8, 0), 1000007), .inl none)], 0, 0, 187, [(0, .inr (3, (0, 1))), (5, .inr (3, (8, 0))), (6, .inr (0, (9, 0)))], [.inr (0, (9, 0)), .inr (3, (8, 0)), .inr (3, (0, 1))])
noncomputable def rxIHED_5 (S0 : Nat → Int → Int) (ws : List Int) (S : Nat → Int → Int) (pg i : Int) : Prop := i < S0 pg.toNat 4 ∧ ∃ ps pa tc yr : Int, ws = [1, ps, pa, tc, yr] ∧ (0 ≤ S0 1 15 ∧ S0 1 15 ≤ 5) ∧ pg = 77 + 10 * S0 1 15 ∧ rkVb (rkVv ps (S0 8 ps) (S0 6 ps) (S0 7 ps) pa tc yr (S0 19 1)) ∧ (∀ k : Int, 1 ≤ k → k ≤ 8 → S 22 (k - 1) = (rkVv ps (S0 8 ps) (S0 6 ps) (S0 7 ps) pa tc yr (S0 19 1)) k) ∧ ∀ L : List rkQ, rkHl S0 pg.toNat L → rkLn L → ∃ L1 L2 : List rkQ, L = L1 ++ L2 ∧ (L1.length : Int) = i + 1 ∧ ∀ z : rkH3, rkHr (rkVv ps (S0 8 ps) (S0 6 ps) (S0 7 ps) pa tc yr (S0 19 1)) L2 (hd3 S) z → rkHr (rkVv ps (S0 8 ps) (S0 6 ps) (S0 7 ps) pa tc yr (S0 19 1)) L (S0 19 2, 1, 0) z
noncomputable def rxmHED_5 (S0 : Nat → Int → Int) (ws : List Int) (S : Nat → Int → Int) (pg i : Int) : Nat := 100 * (50 - i).toNat - 40
noncomputable def rxzHED_5 : rx_Z := ([(0, 0), (0, 0), (0, 0), (0, 0), (0, 0), (0, 0), (0, 0), (0, 0), (0, 1522), (0, 11)], [], [(((8, 0), 1000007), .inl none)], 0, 0, 190, [(0, .inr (3, (0, 1))), (5, .inr (3, (8, 0))), (6, .inr (0, (9, 0)))], [])
noncomputable def rxoHED_0_0 : bx_HO := (([(0, 0), (0, 0), (0, 0), (0, 0), (0, 0), (0, 0), (0, 0), (0, 0), (0, 7), (0, 5), ((-1), 7), (0, 300), (0, 300), (0, 5), (1, 6), (1, 8), (0, 9), (0, 200), (0, 300), (0, 300), (0, 1522)], [(0, (8, 0), (15, 0)), (0, (13, 0), (14, 0))], [(((0, 0), 1851192626986356797424380143413949067911243229855112694445899776000000), .inr (3, (20, 0))), (((20, 0), 1000007), .inl none), (((0, 1), 16), .inr (3, (0, 20))), (((0, 0), 1851192626986356798829287277884448576027768266202889952443105283000000), .inr (0, (19, 0))), (((0, 22), 7), .inr (0, (19, 0))), (((0, 0), 1851192626986356797625047037163794926384839479479878431118393344000000), .inr (0, (19, 0))), (((0, 19), 1), .inr (0, (19, 0))), (((0, 0), 1851192626986356798628580571097672967753946801749054698889281539000000), .inr (0, (11, 0))), (((0, 22), 6), .inr (0, (11, 0))), (((0, 0), 1851192626986356798427873864310897359480125337295219445335457795000000), .inr (0, (10, 0))), (((0, 22), 5), .inr (0, (10, 0))), (((0, 0), 1851192626986356798227167157524121751206303872841384191781634051000000), .inr (0, (9, 0))), (((0, 22), 4), .inr (0, (9, 0))), (((0, 0), 1851192626986356798026460450737346142932482408387548938227810307000000), .inr (0, (18, 0))), (((0, 22), 3), .inr (0, (18, 0))), (((0, 0), 1851192626986356797424364830707437625680387377997778264868716544000000), .inr (0, (18, 0))), (((0, 5), 2), .inr (3, (0, 7))), (((0, 0), 1851192626986356797825753743950570534658660943933713684673986563000000), .inr (0, (17, 0))), (((0, 22), 2), .inr (0, (17, 0))), (((0, 0), 1851192626986356797424364830707437625680387377997778264868126720000000), .inr (0, (17, 0))), (((0, 5), 1), .inr (3, (0, 6))), (((0, 0), 1851192626986356797625047037163794926384839479479878431120162819000000), .inr (0, (16, 0))), (((0, 22), 1), .inr (0, (16, 0))), (((0, 0), 1851192626986356797424364830707437625680387377997778264869306368000000), .inr (0, (16, 0))), (((0, 5), 3), .inr (3, (0, 8))), (((0, 0), 1851192626986356797424340330377019318111018015026043177566339075000000), .inr (0, (8, 0))), (((0, 22), 0), .inr (0, (8, 0))), (((0, 1), 18), .inr (3, (0, 22))), (((0, 0), 1851192626986356797424340330377019318111018015026043177556312064000000), .inr (0, (15, 0))), (((0, 5), 0), .inr (0, (15, 0))), (((0, 1), 4), .inr (3, (0, 5))), (((0, 0), 1851192626986356800234234225391877833944518517379736727307485184000000), .inr (0, (14, 0))), (((0, 1), 14), .inr (0, (14, 0))), (((0, 0), 1851192626986356800434940932178653442218339981833571980861308928000000), .inr (0, (13, 0))), (((0, 1), 15), .inr (0, (13, 0))), (((0, 0), 1851192626986356797825753743950570534658660943933713684673396739000000), .inr (0, (0, 0))), (((0, 21), 2), .inr (0, (0, 0))), (((0, 0), 1851192626986356797625047037163794926384839479479878431119572995000000), .inr (0, (0, 1))), (((0, 21), 1), .inr (0, (0, 1))), (((0, 0), 1851192626986356797424340330377019318111018015026043177565749251000000), .inr (0, (12, 0))), (((0, 21), 0), .inr (0, (12, 0))), (((0, 0), 1851192626986356797825753743950570534658660943933713684672217088000000), .inr (0, (12, 0))), (((0, 19), 2), .inr (0, (12, 0))), (((0, 1), 13), .inr (3, (0, 19))), (((0, 1), 17), .inr (3, (0, 21)))], 0, 0, 151, [(6, .inr (0, (0, 0))), (5, .inr (3, (20, 0))), (0, .inr (3, (0, 1))), (1, .inr (0, (8, 0))), (2, .inr (0, (9, 0))), (3, .inr (0, (10, 0))), (4, .inr (0, (11, 0)))], []), [], [], [(0, 0), (0, 0), (0, 0), (0, 0), (0, 0), (0, 0), (0, 0), (0, 0), (20, 0), (0, 0)], 1)
noncomputable def rxeHED_0_0 : rx_End × List (Nat × Int × Int) := (([(0, 0), (0, 0), (0, 0), (0, 0), (0, 0), (0, 0), (0, 0), (0, 0), (0, 7), (0, 5), ((-1), 7), (0, 300), (0, 300), ((-1), (-1))], [], [(((0, 0), 1851192626986356800434940932178653442218339981833571980861308928000000), .inr (0, (13, 0))), (((0, 1), 15), .inr (0, (13, 0))), (((0, 0), 1851192626986356797825753743950570534658660943933713684673396739000000), .inr (0, (0, 0))), (((0, 21), 2), .inr (0, (0, 0))), (((0, 0), 1851192626986356797625047037163794926384839479479878431119572995000000), .inr (0, (0, 1))), (((0, 21), 1), .inr (0, (0, 1))), (((0, 0), 1851192626986356797424340330377019318111018015026043177565749251000000), .inr (0, (12, 0))), (((0, 21), 0), .inr (0, (12, 0))), (((0, 0), 1851192626986356797825753743950570534658660943933713684672217088000000), .inr (0, (12, 0))), (((0, 19), 2), .inr (0, (12, 0))), (((0, 1), 13), .inr (3, (0, 19))), (((0, 1), 17), .inr (3, (0, 21)))], none), [])
noncomputable def rxeHED_0_1 : rx_End × List (Nat × Int × Int) := (([(0, 0), (0, 0), (0, 0), (0, 0), (0, 0), (0, 0), (0, 0), (0, 0), (0, 7), (0, 5), ((-1), 7), (0, 300), (0, 300), (0, 5), (0, 5)], [(1, (14, 0), (13, 0))], [(((0, 0), 1851192626986356800234234225391877833944518517379736727307485184000000), .inr (0, (14, 0))), (((0, 1), 14), .inr (0, (14, 0))), (((0, 0), 1851192626986356800434940932178653442218339981833571980861308928000000), .inr (0, (13, 0))), (((0, 1), 15), .inr (0, (13, 0))), (((0, 0), 1851192626986356797825753743950570534658660943933713684673396739000000), .inr (0, (0, 0))), (((0, 21), 2), .inr (0, (0, 0))), (((0, 0), 1851192626986356797625047037163794926384839479479878431119572995000000), .inr (0, (0, 1))), (((0, 21), 1), .inr (0, (0, 1))), (((0, 0), 1851192626986356797424340330377019318111018015026043177565749251000000), .inr (0, (12, 0))), (((0, 21), 0), .inr (0, (12, 0))), (((0, 0), 1851192626986356797825753743950570534658660943933713684672217088000000), .inr (0, (12, 0))), (((0, 19), 2), .inr (0, (12, 0))), (((0, 1), 13), .inr (3, (0, 19))), (((0, 1), 17), .inr (3, (0, 21)))], none), [])
noncomputable def rxeHED_0_2 : rx_End × List (Nat × Int × Int) := (([(0, 0), (0, 0), (0, 0), (0, 0), (0, 0), (0, 0), (0, 0), (0, 0), (0, 7), (0, 5), ((-1), 7), (0, 300), (0, 300), (0, 5), (1, 6), (0, 7)], [(1, (15, 0), (8, 0)), (0, (13, 0), (14, 0))], [(((0, 0), 1851192626986356797424340330377019318111018015026043177556312064000000), .inr (0, (15, 0))), (((0, 5), 0), .inr (0, (15, 0))), (((0, 1), 4), .inr (3, (0, 5))), (((0, 0), 1851192626986356800234234225391877833944518517379736727307485184000000), .inr (0, (14, 0))), (((0, 1), 14), .inr (0, (14, 0))), (((0, 0), 1851192626986356800434940932178653442218339981833571980861308928000000), .inr (0, (13, 0))), (((0, 1), 15), .inr (0, (13, 0))), (((0, 0), 1851192626986356797825753743950570534658660943933713684673396739000000), .inr (0, (0, 0))), (((0, 21), 2), .inr (0, (0, 0))), (((0, 0), 1851192626986356797625047037163794926384839479479878431119572995000000), .inr (0, (0, 1))), (((0, 21), 1), .inr (0, (0, 1))), (((0, 0), 1851192626986356797424340330377019318111018015026043177565749251000000), .inr (0, (12, 0))), (((0, 21), 0), .inr (0, (12, 0))), (((0, 0), 1851192626986356797825753743950570534658660943933713684672217088000000), .inr (0, (12, 0))), (((0, 19), 2), .inr (0, (12, 0))), (((0, 1), 13), .inr (3, (0, 19))), (((0, 1), 17), .inr (3, (0, 21)))], none), [])
noncomputable def rxoHED_1_0 : bx_HO := (([(0, 0), (0, 0), (0, 0), (0, 0), (0, 0), (0, 0), (0, 0), (0, 0), (0, 1522), (0, 11), (1, 12)], [(0, (9, 0), (10, 0))], [(((0, 1), 18), .inr (3, (0, 22))), (((0, 0), 1851192626986356798227167157524121751206303872841384191768657992000000), .inr (0, (10, 0))), (((8, 0), 4), .inr (0, (10, 0))), (((8, 0), 1000007), .inl none)], 0, 0, 176, [(0, .inr (3, (0, 1))), (5, .inr (3, (8, 0))), (6, .inr (0, (9, 0)))], [.inr (3, (0, 22)), .inr (0, (9, 0)), .inr (3, (8, 0))]), [], [], [(0, 0), (0, 0), (0, 0), (0, 0), (0, 0), (0, 0), (0, 0), (0, 0), (8, 0), (9, 0)], 2)
noncomputable def rxeHED_1_0 : rx_End × List (Nat × Int × Int) := (([(0, 0), (0, 0), (0, 0), (0, 0), (0, 0), (0, 0), (0, 0), (0, 0), (0, 1522), (0, 12), (0, 12)], [(1, (10, 0), (9, 0))], [(((0, 0), 1851192626986356798227167157524121751206303872841384191768657992000000), .inr (0, (10, 0))), (((8, 0), 4), .inr (0, (10, 0))), (((8, 0), 1000007), .inl none)], none), [])
noncomputable def rxoHED_3_0 : bx_HO := (([(0, 0), (0, 0), (0, 0), (0, 0), (0, 0), (0, 0), (0, 0), (0, 0), (0, 1522), (0, 11), (1, 1)], [(3, (10, 0), (0, 0))], [(((8, 0), 1000007), .inl none)], 0, 0, 187, [(0, .inr (3, (0, 1))), (5, .inr (3, (8, 0))), (6, .inr (0, (9, 0)))], [.inr (0, (9, 0)), .inr (3, (8, 0)), .inr (3, (0, 1))]), [], [], [(0, 0), (0, 0), (0, 0), (0, 0), (0, 0), (0, 0), (0, 0), (0, 0), (8, 0), (9, 0)], 4)
noncomputable def rxoHED_3_1 : bx_HO := (([(0, 0), (0, 0), (0, 0), (0, 0), (0, 0), (0, 0), (0, 0), (0, 0), (0, 1522), (0, 11), (0, 0)], [], [(((8, 0), 1000007), .inl none)], 0, 0, 151, [(6, .inr (0, (9, 1))), (0, .inr (3, (0, 1))), (5, .inr (3, (8, 0)))], []), [], [], [(0, 0), (0, 0), (0, 0), (0, 0), (0, 0), (0, 0), (0, 0), (0, 0), (8, 0), (9, 1)], 1)
noncomputable def rxoHED_5_0 : bx_HO := (([(0, 0), (0, 0), (0, 0), (0, 0), (0, 0), (0, 0), (0, 0), (0, 0), (0, 1522), (0, 11)], [], [(((8, 0), 1000007), .inl none)], 0, 0, 151, [(6, .inr (0, (9, 1))), (0, .inr (3, (0, 1))), (5, .inr (3, (8, 0)))], []), [], [], [(0, 0), (0, 0), (0, 0), (0, 0), (0, 0), (0, 0), (0, 0), (0, 0), (8, 0), (9, 1)], 1)
noncomputable def rxYHED : List bx_HE := [(rxzHED_0, [rxoHED_0_0], [rxeHED_0_0, rxeHED_0_1, rxeHED_0_2]), (rxzHED_1, [rxoHED_1_0], [rxeHED_1_0]), (rxzHED_2, [], []), (rxzHED_3, [rxoHED_3_0, rxoHED_3_1], []), (rxzHED_4, [], []), (rxzHED_5, [rxoHED_5_0], [])]
noncomputable def rxUHED (q : bx_HE) : Bool := Nat.beq (rx_zpc q.1) 176 || Nat.beq (rx_zpc q.1) 187
noncomputable def rxYBHED : bx_B := (rxV, rxNP, rxDmf, bx_mdH rxCHED.2.2.1)
set_option maxRecDepth 100000 in
theorem rxYcHED : bx_chkH rxYBHED rxM98 rxCHED rxYHED (rxUHED, fun cut z => rx_ex2 (rxCT rxYBHED rxCnE) cut 30000 rxCHED.2.2.2.1 98 z) = true := by decide +kernel
noncomputable def rxIHED (S0 : Nat → Int → Int) (ws : List Int) (i : Nat) : bx_SP := fun S r => match i with | 0 => rxIHED_0 S0 ws S (r 8) (r 9) (r 10) (r 11) | 1 => rxIHED_1 S0 ws S (r 8) (r 9) | 2 => rxIHED_2 S0 ws S (r 8) (r 9) | 3 => rxIHED_3 S0 ws S (r 8) (r 9) (r 10) | 4 => rxIHED_4 S0 ws S (r 8) (r 9) | 5 => rxIHED_5 S0 ws S (r 8) (r 9) | _ => False
noncomputable def rxmHED (S0 : Nat → Int → Int) (ws : List Int) (i : Nat) (S : Nat → Int → Int) (r : Nat → Int) : Nat := match i with | 0 => rxmHED_0 S0 ws S (r 8) (r 9) (r 10) (r 11) | 1 => rxmHED_1 S0 ws S (r 8) (r 9) | 2 => rxmHED_2 S0 ws S (r 8) (r 9) | 3 => rxmHED_3 S0 ws S (r 8) (r 9) (r 10) | 4 => rxmHED_4 S0 ws S (r 8) (r 9) | 5 => rxmHED_5 S0 ws S (r 8) (r 9) | _ => 0
noncomputable def rxPHED (S0 : Nat → Int → Int) (ws : List Int) : Prop := ∃ ps pa tc yr : Int, ws = [1, ps, pa, tc, yr] ∧ ps < S0 5 0 ∧ rkPf S0 ∧ (S0 1 15 = -1 ∨ (S0 1 15 < S0 1 14 ∧ ∃ L : List rkQ, rkHl S0 (77 + 10 * S0 1 15).toNat L ∧ rkLn L))
noncomputable def rxPSHED (S0 : Nat → Int → Int) (ws : List Int) (S : Nat → Int → Int) (w : Option Int) : Prop := w = none ∧ ∃ ps pa tc yr : Int, ws = [1, ps, pa, tc, yr] ∧ ((S0 1 15 = -1 ∧ hd3 S = (S0 19 2, 1, 0)) ∨ (S0 1 15 ≠ -1 ∧ ∀ L : List rkQ, rkHl S0 (77 + 10 * S0 1 15).toNat L → rkLn L → rkHr (rkVv ps (S0 8 ps) (S0 6 ps) (S0 7 ps) pa tc yr (S0 19 1)) L (S0 19 2, 1, 0) (hd3 S)))
theorem rxkHED_2 {S0 : Nat → Int → Int} {ws : List Int} {S : Nat → Int → Int} {pg i : Int} (hP : rxPHED S0 ws) (hin : bx_same rxL (bx_mdl rxCHED.2.2.1) S0 S) (I0 : bx_Inv rxL S) (hinv : rxIHED_2 S0 ws S pg i) (l8 : 0 ≤ pg) (u8 : pg ≤ 1522) (l9 : 0 ≤ i) (u9 : i ≤ 11) : rxPISD S [pg, i, 22] ∧ ∀ (S_p : Nat → Int → Int) (so : Int), 0 ≤ so → so ≤ 1 → rxPSISD S [pg, i, 22] S_p (some so) → bx_Inv rxL S_p → bx_same rxL (bx_mdl rxCISD.2.2.1) S S_p → rxIHED_3 S0 ws S_p pg i so ∧ rxmHED_3 S0 ws S_p pg i so < rxmHED_2 S0 ws S pg i := by
  obtain ⟨hi, ps, pa, tc, yr, hw, h15, hpg, hvb, hv, hx⟩ := hinv
  obtain ⟨ps_, pa_, tc_, yr_, hw2, hps, hpf, hL⟩ := hP
  have w0 := hw.symm.trans hw2
  have w1 : ps = ps_ := Option.some.inj (congrArg (fun l => l[1]?) w0)
  have w2 : pa = pa_ := Option.some.inj (congrArg (fun l => l[2]?) w0)
  have w3 : tc = tc_ := Option.some.inj (congrArg (fun l => l[3]?) w0)
  have w4 : yr = yr_ := Option.some.inj (congrArg (fun l => l[4]?) w0)
  subst w1 w2 w3 w4
  have hpt : pg.toNat ∈ rkPg := by
    have e : pg = 77 ∨ pg = 87 ∨ pg = 97 ∨ pg = 107 ∨ pg = 117 ∨ pg = 127 := by omega
    rcases e with rfl | rfl | rfl | rfl | rfl | rfl <;> decide
  have hp20 : rkPq S0 pg.toNat := by
    have g := (hpf.2.1 (S0 1 15).toNat (by omega)).2
    rw [show 77 + 10 * (S0 1 15).toNat = pg.toNat by omega] at g
    exact g
  have hEq := tqEq_sm hin (by decide +kernel) hpt
  have hQ : ∀ (L : List rkQ), rkHl S0 pg.toNat L → rkLn L → ∀ (q : rkQ) (L1 L2 : List rkQ), L = L1 ++ q :: L2 → (L1.length : Int) = i → tqQ S (rkVv ps (S0 8 ps) (S0 6 ps) (S0 7 ps) pa tc yr (S0 19 1)) pg i q := fun L hl hn q L1 L2 h1 h2 => by
    have hl2 := rkHl_eq hl hEq
    have g := hl2.2.2.2
    rw [h1] at g
    have g := rkPd_at g
    rw [show 0 + (L1.length : Int) = i by omega] at g
    exact ⟨⟨by omega, hpt⟩, rkPq_eq hp20 hEq, g, rkQl_m (hn q (by rw [h1]; exact List.mem_append_right _ (List.mem_cons_self ..))).1 (hn q (by rw [h1]; exact List.mem_append_right _ (List.mem_cons_self ..))).2, hvb, hv, by omega, by omega⟩
  have hne : ∀ (L : List rkQ), rkHl S0 pg.toNat L → ∀ L1 L2 : List rkQ, L = L1 ++ L2 → (L1.length : Int) = i → ∃ (q : rkQ) (L3 : List rkQ), L2 = q :: L3 := fun L hl L1 L2 h1 h2 => by
    have hlen := hl.1
    rw [h1] at hlen
    simp only [List.length_append] at hlen
    cases L2 with
    | nil =>
      exfalso
      simp only [List.length_nil] at hlen
      omega
    | cons q L3 => exact ⟨q, L3, rfl⟩
  rcases hL with g_ | ⟨g_, Lx, hlx, hnx⟩
  · exfalso
    omega
  rw [← hpg] at hlx
  refine ⟨?_, fun S_p so _ _ hq _ hsm => ⟨⟨hi, ps, pa, tc, yr, hw2, h15, hpg, hvb, (fun k a b => (rz_fd hsm (p := 22) (n := 8) (c := 1018) (k := 0) (by decide +kernel) (by decide) (by decide +kernel) (k - 1) (by omega) (by omega)).trans (hv k a b)), fun L hl hn => ?_⟩, by unfold rxmHED_2 rxmHED_3; omega⟩⟩
  · obtain ⟨L1, L2, h1, h2, h3⟩ := hx Lx hlx hnx
    obtain ⟨q, L3, e⟩ := hne Lx hlx L1 L2 h1 h2
    subst e
    exact ⟨pg, i, q, _, rfl, hQ Lx hlx hnx q L1 L3 h1 h2⟩
  · obtain ⟨L1, L2, h1, h2, h3⟩ := hx L hl hn
    obtain ⟨q, L3, e⟩ := hne L hl L1 L2 h1 h2
    subst e
    obtain ⟨p2, c2, hw3, h⟩ := hq
    have k1 : pg = p2 := Option.some.inj (congrArg (fun l : List Int => l[0]?) hw3)
    have k2 : i = c2 := Option.some.inj (congrArg (fun l : List Int => l[1]?) hw3)
    subst k1
    subst k2
    have hh : hd3 S_p = hd3 S := by
      unfold hd3
      rw [rz_fd hsm (p := 21) (n := 3) (c := 1017) (k := 0) (by decide +kernel) (by decide) (by decide +kernel) 0 (by omega) (by omega), rz_fd hsm (p := 21) (n := 3) (c := 1017) (k := 0) (by decide +kernel) (by decide) (by decide +kernel) 1 (by omega) (by omega), rz_fd hsm (p := 21) (n := 3) (c := 1017) (k := 0) (by decide +kernel) (by decide) (by decide +kernel) 2 (by omega) (by omega)]
    refine ⟨q, L1, L3, h1, h2, ?_, by rw [hh]; exact h3⟩
    rcases h q _ (hQ L hl hn q L1 L3 h1 h2) with ⟨a, b⟩ | ⟨a, b⟩
    · exact Or.inl ⟨Option.some.inj a, b⟩
    · exact Or.inr ⟨Option.some.inj a, b⟩
theorem rxsHED_2 {X : (Nat → Int → Int) → Prop} {S0 : Nat → Int → Int} {ws : List Int} (hP : rxPHED S0 ws) : rx_obK X S0 rxCHED.2.2.1 rxCISD.2.2.1 (rxIHED S0 ws) (rxmHED S0 ws) 2 3 rxzHED_2 rxzHED_3 [.inr (3, (8, 0)), .inr (0, (9, 0)), .inr (3, (0, 22))] (some 10) rxPISD rxPSISD := by
  intro S r hinv hXS I0 hin hs_ hf_
  have b_ := bx_bds_sat hs_
  have f_ := bx_fcl_ok hs_.1 hf_
  obtain ⟨⟨l8, u8⟩, ⟨l9, u9⟩, -⟩ := b_
  have g := rxkHED_2 hP hin I0 hinv l8 u8 l9 u9
  have ea : List.map (bx_num r) [.inr (3, (8, 0)), .inr (0, (9, 0)), .inr (3, (0, 22))] = [(r 8), (r 9), 22] := by
    simp only [List.map_cons, List.map_nil, bx_xv_ok hs_.1]
    rfl
  rw [ea]
  refine ⟨g.1, fun S_p w r_p hPS hX_p I1 hsm hr hw hs_p => ?_⟩
  have hw := hw _ rfl
  subst hw
  have b_p := hs_p.2.2 10 _ _ rfl
  have g2 := g.2 S_p (r_p 10) b_p.1 b_p.2 hPS I1 hsm
  show rxIHED_3 S0 ws S_p (r_p 8) (r_p 9) (r_p 10) ∧ rxmHED_3 S0 ws S_p (r_p 8) (r_p 9) (r_p 10) < _
  rw [hr 8 (by decide), hr 9 (by decide)]
  exact g2
theorem rxkHED_4 {S0 : Nat → Int → Int} {ws : List Int} {S : Nat → Int → Int} {pg i : Int} (hP : rxPHED S0 ws) (hin : bx_same rxL (bx_mdl rxCHED.2.2.1) S0 S) (I0 : bx_Inv rxL S) (hinv : rxIHED_4 S0 ws S pg i) (l8 : 0 ≤ pg) (u8 : pg ≤ 1522) (l9 : 0 ≤ i) (u9 : i ≤ 11) : rxPHCD S [1, pg, i] ∧ ∀ (S_p : Nat → Int → Int), rxPSHCD S [1, pg, i] S_p none → bx_Inv rxL S_p → bx_same rxL (bx_mdl rxCHCD.2.2.1) S S_p → rxIHED_5 S0 ws S_p pg i ∧ rxmHED_5 S0 ws S_p pg i < rxmHED_4 S0 ws S pg i := by
  obtain ⟨hi, ps, pa, tc, yr, hw, h15, hpg, hvb, hv, hx⟩ := hinv
  obtain ⟨ps_, pa_, tc_, yr_, hw2, hps, hpf, hL⟩ := hP
  have w0 := hw.symm.trans hw2
  have w1 : ps = ps_ := Option.some.inj (congrArg (fun l => l[1]?) w0)
  have w2 : pa = pa_ := Option.some.inj (congrArg (fun l => l[2]?) w0)
  have w3 : tc = tc_ := Option.some.inj (congrArg (fun l => l[3]?) w0)
  have w4 : yr = yr_ := Option.some.inj (congrArg (fun l => l[4]?) w0)
  subst w1 w2 w3 w4
  have hpt : pg.toNat ∈ rkPg := by
    have e : pg = 77 ∨ pg = 87 ∨ pg = 97 ∨ pg = 107 ∨ pg = 117 ∨ pg = 127 := by omega
    rcases e with rfl | rfl | rfl | rfl | rfl | rfl <;> decide
  have hp20 : rkPq S0 pg.toNat := by
    have g := (hpf.2.1 (S0 1 15).toNat (by omega)).2
    rw [show 77 + 10 * (S0 1 15).toNat = pg.toNat by omega] at g
    exact g
  have hEq := tqEq_sm hin (by decide +kernel) hpt
  have hQ : ∀ (L : List rkQ), rkHl S0 pg.toNat L → rkLn L → ∀ (q : rkQ) (L1 L2 : List rkQ), L = L1 ++ q :: L2 → (L1.length : Int) = i → tqQ S (rkVv ps (S0 8 ps) (S0 6 ps) (S0 7 ps) pa tc yr (S0 19 1)) pg i q := fun L hl hn q L1 L2 h1 h2 => by
    have hl2 := rkHl_eq hl hEq
    have g := hl2.2.2.2
    rw [h1] at g
    have g := rkPd_at g
    rw [show 0 + (L1.length : Int) = i by omega] at g
    exact ⟨⟨by omega, hpt⟩, rkPq_eq hp20 hEq, g, rkQl_m (hn q (by rw [h1]; exact List.mem_append_right _ (List.mem_cons_self ..))).1 (hn q (by rw [h1]; exact List.mem_append_right _ (List.mem_cons_self ..))).2, hvb, hv, by omega, by omega⟩
  rcases hL with g_ | ⟨g_, Lx, hlx, hnx⟩
  · exfalso
    omega
  rw [← hpg] at hlx
  refine ⟨?_, fun S_p hq _ hsm => ⟨⟨hi, ps, pa, tc, yr, hw2, h15, hpg, hvb, (fun k a b => (rz_fd hsm (p := 22) (n := 8) (c := 1018) (k := 0) (by decide +kernel) (by decide) (by decide +kernel) (k - 1) (by omega) (by omega)).trans (hv k a b)), fun L hl hn => ?_⟩, by unfold rxmHED_4 rxmHED_5; omega⟩⟩
  · obtain ⟨q, L1, L2, h1, h2, h3, h4⟩ := hx Lx hlx hnx
    exact ⟨pg, i, q, _, rfl, hQ Lx hlx hnx q L1 L2 h1 h2, (hnx q (by rw [h1]; exact List.mem_append_right _ (List.mem_cons_self ..))).1⟩
  · obtain ⟨q, L1, L2, h1, h2, h3, h4⟩ := hx L hl hn
    obtain ⟨-, p2, c2, hw3, h⟩ := hq
    have k1 : pg = p2 := Option.some.inj (congrArg (fun l : List Int => l[1]?) hw3)
    have k2 : i = c2 := Option.some.inj (congrArg (fun l : List Int => l[2]?) hw3)
    subst k1
    subst k2
    exact ⟨L1 ++ [q], L2, by rw [h1, List.append_assoc]; rfl, by simp only [List.length_append, List.length_cons, List.length_nil]; omega, rkHr_go h4 (h q _ (hQ L hl hn q L1 L2 h1 h2) (hn q (by rw [h1]; exact List.mem_append_right _ (List.mem_cons_self ..))).1 h3)⟩
theorem rxsHED_4 {X : (Nat → Int → Int) → Prop} {S0 : Nat → Int → Int} {ws : List Int} (hP : rxPHED S0 ws) : rx_obK X S0 rxCHED.2.2.1 rxCHCD.2.2.1 (rxIHED S0 ws) (rxmHED S0 ws) 4 5 rxzHED_4 rxzHED_5 [.inr (3, (0, 1)), .inr (3, (8, 0)), .inr (0, (9, 0))] none rxPHCD rxPSHCD := by
  intro S r hinv hXS I0 hin hs_ hf_
  have b_ := bx_bds_sat hs_
  have f_ := bx_fcl_ok hs_.1 hf_
  obtain ⟨⟨l8, u8⟩, ⟨l9, u9⟩, -⟩ := b_
  have g := rxkHED_4 hP hin I0 hinv l8 u8 l9 u9
  have ea : List.map (bx_num r) [.inr (3, (0, 1)), .inr (3, (8, 0)), .inr (0, (9, 0))] = [1, (r 8), (r 9)] := by
    simp only [List.map_cons, List.map_nil, bx_xv_ok hs_.1]
    rfl
  rw [ea]
  refine ⟨g.1, fun S_p w r_p hPS hX_p I1 hsm hr hw hs_p => ?_⟩
  have hw : w = none := hPS.1
  subst hw
  have g2 := g.2 S_p hPS I1 hsm
  show rxIHED_5 S0 ws S_p (r_p 8) (r_p 9) ∧ rxmHED_5 S0 ws S_p (r_p 8) (r_p 9) < _
  rw [hr 8 (by decide), hr 9 (by decide)]
  exact g2
theorem rxcHED_0_0 {S0 : Nat → Int → Int} {ws : List Int} {S : Nat → Int → Int} {ps pa tc yr x12 x13 x14 x15 x16 x17 x18 x19 x20 : Int} (hP : rxPHED S0 ws) (hin : bx_same rxL (bx_mdl rxCHED.2.2.1) S0 S) (I0 : bx_Inv rxL S) (hinv : rxIHED_0 S0 ws S ps pa tc yr) (l8 : 0 ≤ ps) (u8 : ps ≤ 7) (l9 : 0 ≤ pa) (u9 : pa ≤ 5) (l10 : (-1) ≤ tc) (u10 : tc ≤ 7) (l11 : 0 ≤ yr) (u11 : yr ≤ 300) (l12 : 0 ≤ x12) (u12 : x12 ≤ 300) (l13 : 0 ≤ x13) (u13 : x13 ≤ 5) (l14 : 1 ≤ x14) (u14 : x14 ≤ 6) (l15 : 1 ≤ x15) (u15 : x15 ≤ 8) (l16 : 0 ≤ x16) (u16 : x16 ≤ 9) (l17 : 0 ≤ x17) (u17 : x17 ≤ 200) (l18 : 0 ≤ x18) (u18 : x18 ≤ 300) (l19 : 0 ≤ x19) (u19 : x19 ≤ 300) (l20 : 0 ≤ x20) (u20 : x20 ≤ 1522) (f0 : ps < x15) (f1 : x13 < x14) (e19 : S 19 2 = x12) (e15 : (bx_up (bx_up (bx_up S 21 0 x12) 21 1 1) 21 2 0) 1 15 = x13) (e14 : (bx_up (bx_up (bx_up S 21 0 x12) 21 1 1) 21 2 0) 1 14 = x14) (e13 : (bx_up (bx_up (bx_up S 21 0 x12) 21 1 1) 21 2 0) 5 0 = x15) (e11 : (bx_up (bx_up (bx_up (bx_up S 21 0 x12) 21 1 1) 21 2 0) 22 0 ps) 8 ps = x16) (e9 : (bx_up (bx_up (bx_up (bx_up (bx_up S 21 0 x12) 21 1 1) 21 2 0) 22 0 ps) 22 1 x16) 6 ps = x17) (e7 : (bx_up (bx_up (bx_up (bx_up (bx_up (bx_up S 21 0 x12) 21 1 1) 21 2 0) 22 0 ps) 22 1 x16) 22 2 x17) 7 ps = x18) (e2 : (bx_up (bx_up (bx_up (bx_up (bx_up (bx_up (bx_up (bx_up (bx_up (bx_up S 21 0 x12) 21 1 1) 21 2 0) 22 0 ps) 22 1 x16) 22 2 x17) 22 3 x18) 22 4 pa) 22 5 tc) 22 6 yr) 19 1 = x19) (e0 : (bx_up (bx_up (bx_up (bx_up (bx_up (bx_up (bx_up (bx_up (bx_up (bx_up (bx_up S 21 0 x12) 21 1 1) 21 2 0) 22 0 ps) 22 1 x16) 22 2 x17) 22 3 x18) 22 4 pa) 22 5 tc) 22 6 yr) 22 7 x19) 20 x13 = x20) : (True) ∧ (True) ∧ rxIHED_1 S0 ws (bx_up (bx_up (bx_up (bx_up (bx_up (bx_up (bx_up (bx_up (bx_up (bx_up (bx_up S 21 0 x12) 21 1 1) 21 2 0) 22 0 ps) 22 1 x16) 22 2 x17) 22 3 x18) 22 4 pa) 22 5 tc) 22 6 yr) 22 7 x19) x20 0 ∧ rxmHED_1 S0 ws (bx_up (bx_up (bx_up (bx_up (bx_up (bx_up (bx_up (bx_up (bx_up (bx_up (bx_up S 21 0 x12) 21 1 1) 21 2 0) 22 0 ps) 22 1 x16) 22 2 x17) 22 3 x18) 22 4 pa) 22 5 tc) 22 6 yr) 22 7 x19) x20 0 < rxmHED_0 S0 ws S ps pa tc yr := by
  obtain ⟨rfl, hw⟩ := hinv
  obtain ⟨ps_, pa_, tc_, yr_, hw2, hps, hpf, hL⟩ := hP
  have w0 := hw.symm.trans hw2
  have w1 : ps = ps_ := Option.some.inj (congrArg (fun l => l[1]?) w0)
  have w2 : pa = pa_ := Option.some.inj (congrArg (fun l => l[2]?) w0)
  have w3 : tc = tc_ := Option.some.inj (congrArg (fun l => l[3]?) w0)
  have w4 : yr = yr_ := Option.some.inj (congrArg (fun l => l[4]?) w0)
  subst w1 w2 w3 w4
  have z15 : S 1 15 = x13 := (((bx_up_ne (by omega)).trans ((bx_up_ne (by omega)).trans ((bx_up_ne (by omega))))).symm.trans e15)
  have y8 : S 8 ps = x16 := (((bx_up_ne (by omega)).trans ((bx_up_ne (by omega)).trans ((bx_up_ne (by omega)).trans ((bx_up_ne (by omega)))))).symm.trans e11)
  have y6 : S 6 ps = x17 := (((bx_up_ne (by omega)).trans ((bx_up_ne (by omega)).trans ((bx_up_ne (by omega)).trans ((bx_up_ne (by omega)).trans ((bx_up_ne (by omega))))))).symm.trans e9)
  have y7 : S 7 ps = x18 := (((bx_up_ne (by omega)).trans ((bx_up_ne (by omega)).trans ((bx_up_ne (by omega)).trans ((bx_up_ne (by omega)).trans ((bx_up_ne (by omega)).trans ((bx_up_ne (by omega)))))))).symm.trans e7)
  have y1 : S 19 1 = x19 := (((bx_up_ne (by omega)).trans ((bx_up_ne (by omega)).trans ((bx_up_ne (by omega)).trans ((bx_up_ne (by omega)).trans ((bx_up_ne (by omega)).trans ((bx_up_ne (by omega)).trans ((bx_up_ne (by omega)).trans ((bx_up_ne (by omega)).trans ((bx_up_ne (by omega)).trans ((bx_up_ne (by omega)))))))))))).symm.trans e2)
  have zt : S 19 2 = x12 := e19
  have z20 : S 20 x13 = x20 := (((bx_up_ne (by omega)).trans ((bx_up_ne (by omega)).trans ((bx_up_ne (by omega)).trans ((bx_up_ne (by omega)).trans ((bx_up_ne (by omega)).trans ((bx_up_ne (by omega)).trans ((bx_up_ne (by omega)).trans ((bx_up_ne (by omega)).trans ((bx_up_ne (by omega)).trans ((bx_up_ne (by omega)).trans ((bx_up_ne (by omega))))))))))))).symm.trans e0)
  have g20 := (hpf.2.1 x13.toNat (by omega)).1
  rw [Int.toNat_of_nonneg (show (0 : Int) ≤ x13 by omega)] at g20
  have epg : x20 = 77 + 10 * S 1 15 := by
    rw [z20] at g20
    omega
  refine ⟨trivial, trivial, ⟨ps, pa, tc, yr, hw2, ⟨by omega, by omega⟩, epg, ?_, ?_, fun L hl hn => ⟨[], L, rfl, rfl, fun z g => ?_⟩⟩, by unfold rxmHED_0 rxmHED_1; omega⟩
  · exact rkVv_k (P := fun _ v => -2147483648 ≤ v ∧ v ≤ 2147483647) (by first | omega | (dsimp only; omega)) (by first | omega | (dsimp only; omega)) (by first | omega | (dsimp only; omega)) (by first | omega | (dsimp only; omega)) (by first | omega | (dsimp only; omega)) (by first | omega | (dsimp only; omega)) (by first | omega | (dsimp only; omega)) (by first | omega | (dsimp only; omega))
  · exact rkVv_k (P := fun k v => (bx_up (bx_up (bx_up (bx_up (bx_up (bx_up (bx_up (bx_up (bx_up (bx_up (bx_up S 21 0 x12) 21 1 1) 21 2 0) 22 0 ps) 22 1 x16) 22 2 x17) 22 3 x18) 22 4 pa) 22 5 tc) 22 6 yr) 22 7 x19) 22 (k - 1) = v) (((bx_up_ne (by omega)).trans ((bx_up_ne (by omega)).trans ((bx_up_ne (by omega)).trans ((bx_up_ne (by omega)).trans ((bx_up_ne (by omega)).trans ((bx_up_ne (by omega)).trans ((bx_up_ne (by omega))))))))).trans bx_up_at) ((((bx_up_ne (by omega)).trans ((bx_up_ne (by omega)).trans ((bx_up_ne (by omega)).trans ((bx_up_ne (by omega)).trans ((bx_up_ne (by omega)).trans ((bx_up_ne (by omega)))))))).trans bx_up_at).trans y8.symm) ((((bx_up_ne (by omega)).trans ((bx_up_ne (by omega)).trans ((bx_up_ne (by omega)).trans ((bx_up_ne (by omega)).trans ((bx_up_ne (by omega))))))).trans bx_up_at).trans y6.symm) ((((bx_up_ne (by omega)).trans ((bx_up_ne (by omega)).trans ((bx_up_ne (by omega)).trans ((bx_up_ne (by omega)))))).trans bx_up_at).trans y7.symm) (((bx_up_ne (by omega)).trans ((bx_up_ne (by omega)).trans ((bx_up_ne (by omega))))).trans bx_up_at) (((bx_up_ne (by omega)).trans ((bx_up_ne (by omega)))).trans bx_up_at) (((bx_up_ne (by omega))).trans bx_up_at) ((bx_up_at).trans y1.symm)
  · unfold hd3 at g
    rw [show (bx_up (bx_up (bx_up (bx_up (bx_up (bx_up (bx_up (bx_up (bx_up (bx_up (bx_up S 21 0 x12) 21 1 1) 21 2 0) 22 0 ps) 22 1 x16) 22 2 x17) 22 3 x18) 22 4 pa) 22 5 tc) 22 6 yr) 22 7 x19) 21 0 = S 19 2 from (((bx_up_ne (by omega)).trans ((bx_up_ne (by omega)).trans ((bx_up_ne (by omega)).trans ((bx_up_ne (by omega)).trans ((bx_up_ne (by omega)).trans ((bx_up_ne (by omega)).trans ((bx_up_ne (by omega)).trans ((bx_up_ne (by omega)).trans ((bx_up_ne (by omega)).trans ((bx_up_ne (by omega)))))))))))).trans bx_up_at).trans zt.symm, show (bx_up (bx_up (bx_up (bx_up (bx_up (bx_up (bx_up (bx_up (bx_up (bx_up (bx_up S 21 0 x12) 21 1 1) 21 2 0) 22 0 ps) 22 1 x16) 22 2 x17) 22 3 x18) 22 4 pa) 22 5 tc) 22 6 yr) 22 7 x19) 21 1 = 1 from ((bx_up_ne (by omega)).trans ((bx_up_ne (by omega)).trans ((bx_up_ne (by omega)).trans ((bx_up_ne (by omega)).trans ((bx_up_ne (by omega)).trans ((bx_up_ne (by omega)).trans ((bx_up_ne (by omega)).trans ((bx_up_ne (by omega)).trans ((bx_up_ne (by omega))))))))))).trans bx_up_at, show (bx_up (bx_up (bx_up (bx_up (bx_up (bx_up (bx_up (bx_up (bx_up (bx_up (bx_up S 21 0 x12) 21 1 1) 21 2 0) 22 0 ps) 22 1 x16) 22 2 x17) 22 3 x18) 22 4 pa) 22 5 tc) 22 6 yr) 22 7 x19) 21 2 = 0 from ((bx_up_ne (by omega)).trans ((bx_up_ne (by omega)).trans ((bx_up_ne (by omega)).trans ((bx_up_ne (by omega)).trans ((bx_up_ne (by omega)).trans ((bx_up_ne (by omega)).trans ((bx_up_ne (by omega)).trans ((bx_up_ne (by omega)))))))))).trans bx_up_at] at g
    exact g
theorem rxgHED_0_0 {X : (Nat → Int → Int) → Prop} {S0 : Nat → Int → Int} {ws : List Int} (hP : rxPHED S0 ws) : bx_obC rxL X S0 rxCHED.2.2.1 (rxIHED S0 ws) (rxmHED S0 ws) 0 rxzHED_0 rxoHED_0_0 := by
  intro S S_p r r_p hinv hX hin hsm_ hseg
  obtain ⟨I0, I1, h0_, hr_, b_, f_, d_⟩ := bx_cl (evs := [(0, (0, 20), (13, 0), .inr (3, (20, 0))), (1, (0, 22), (0, 7), .inr (0, (19, 0))), (0, (0, 19), (0, 1), .inr (0, (19, 0))), (1, (0, 22), (0, 6), .inr (0, (11, 0))), (1, (0, 22), (0, 5), .inr (0, (10, 0))), (1, (0, 22), (0, 4), .inr (0, (9, 0))), (1, (0, 22), (0, 3), .inr (0, (18, 0))), (0, (0, 7), (8, 0), .inr (0, (18, 0))), (1, (0, 22), (0, 2), .inr (0, (17, 0))), (0, (0, 6), (8, 0), .inr (0, (17, 0))), (1, (0, 22), (0, 1), .inr (0, (16, 0))), (0, (0, 8), (8, 0), .inr (0, (16, 0))), (1, (0, 22), (0, 0), .inr (0, (8, 0))), (0, (0, 5), (0, 0), .inr (0, (15, 0))), (0, (0, 1), (0, 14), .inr (0, (14, 0))), (0, (0, 1), (0, 15), .inr (0, (13, 0))), (1, (0, 21), (0, 2), .inr (0, (0, 0))), (1, (0, 21), (0, 1), .inr (0, (0, 1))), (1, (0, 21), (0, 0), .inr (0, (12, 0))), (0, (0, 19), (0, 2), .inr (0, (12, 0)))]) (fvs := [(0, (8, 0), (15, 0), (0, 0)), (0, (13, 0), (14, 0), (0, 0))]) hseg (by decide +kernel) (by decide +kernel)
  have hinv : rxIHED_0 S0 ws S (r 8) (r 9) (r 10) (r 11) := hinv
  rw [← hr_ 8 (by decide), ← hr_ 9 (by decide), ← hr_ 10 (by decide), ← hr_ 11 (by decide)] at hinv
  obtain ⟨⟨l8, u8⟩, ⟨l9, u9⟩, ⟨l10, u10⟩, ⟨l11, u11⟩, ⟨l12, u12⟩, ⟨l13, u13⟩, ⟨l14, u14⟩, ⟨l15, u15⟩, ⟨l16, u16⟩, ⟨l17, u17⟩, ⟨l18, u18⟩, ⟨l19, u19⟩, ⟨l20, u20⟩, -⟩ := b_
  obtain ⟨f0, f1, -⟩ := f_
  obtain ⟨e0, ⟨T1, ⟨e2, ⟨T3, ⟨T4, ⟨T5, ⟨T6, ⟨e7, ⟨T8, ⟨e9, ⟨T10, ⟨e11, ⟨T12, ⟨e13, ⟨e14, ⟨e15, ⟨T16, ⟨T17, ⟨T18, ⟨e19, w_⟩, w18⟩, w17⟩, w16⟩⟩⟩⟩, w12⟩⟩, w10⟩⟩, w8⟩⟩, w6⟩, w5⟩, w4⟩, w3⟩⟩, w1⟩⟩ := d_
  subst w1
  subst w3
  subst w4
  subst w5
  subst w6
  subst w8
  subst w10
  subst w12
  subst w16
  subst w17
  subst w18
  subst w_
  have g := rxcHED_0_0 hP hin I0 hinv l8 u8 l9 u9 l10 u10 l11 u11 l12 u12 l13 u13 l14 u14 l15 u15 l16 u16 l17 u17 l18 u18 l19 u19 l20 u20 f0 f1 e19 e15 e14 e13 e11 e9 e7 e2 e0
  refine ⟨bx_narP_ok (l := []) g.1, bx_nfP_ok h0_ (fvs := []) (by decide +kernel) g.2.1, ?_, ?_⟩
  · show rxIHED_1 S0 ws (bx_up (bx_up (bx_up (bx_up (bx_up (bx_up (bx_up (bx_up (bx_up (bx_up (bx_up T18 21 (0) (r_p 12)) 21 (1) (1)) 21 (2) (0)) 22 (0) (r_p 8)) 22 (1) (r_p 16)) 22 (2) (r_p 17)) 22 (3) (r_p 18)) 22 (4) (r_p 9)) 22 (5) (r_p 10)) 22 (6) (r_p 11)) 22 (7) (r_p 19)) (bx_val [(0, 0), (0, 0), (0, 0), (0, 0), (0, 0), (0, 0), (0, 0), (0, 0), (20, 0), (0, 0)] r_p 8) (bx_val [(0, 0), (0, 0), (0, 0), (0, 0), (0, 0), (0, 0), (0, 0), (0, 0), (20, 0), (0, 0)] r_p 9)
    rw [bx_val_x (n := 8) (e := (20, 0)) h0_ rfl, bx_val_x (n := 9) (e := (0, 0)) h0_ rfl]
    exact g.2.2.1
  · show rxmHED_1 S0 ws (bx_up (bx_up (bx_up (bx_up (bx_up (bx_up (bx_up (bx_up (bx_up (bx_up (bx_up T18 21 (0) (r_p 12)) 21 (1) (1)) 21 (2) (0)) 22 (0) (r_p 8)) 22 (1) (r_p 16)) 22 (2) (r_p 17)) 22 (3) (r_p 18)) 22 (4) (r_p 9)) 22 (5) (r_p 10)) 22 (6) (r_p 11)) 22 (7) (r_p 19)) (bx_val [(0, 0), (0, 0), (0, 0), (0, 0), (0, 0), (0, 0), (0, 0), (0, 0), (20, 0), (0, 0)] r_p 8) (bx_val [(0, 0), (0, 0), (0, 0), (0, 0), (0, 0), (0, 0), (0, 0), (0, 0), (20, 0), (0, 0)] r_p 9) < rxmHED_0 S0 ws T18 (r 8) (r 9) (r 10) (r 11)
    rw [bx_val_x (n := 8) (e := (20, 0)) h0_ rfl, bx_val_x (n := 9) (e := (0, 0)) h0_ rfl, ← hr_ 8 (by decide), ← hr_ 9 (by decide), ← hr_ 10 (by decide), ← hr_ 11 (by decide)]
    exact g.2.2.2
theorem rxdHED_0_0 {S0 : Nat → Int → Int} {ws : List Int} {S : Nat → Int → Int} {ps pa tc yr x12 x13 : Int} (hP : rxPHED S0 ws) (hin : bx_same rxL (bx_mdl rxCHED.2.2.1) S0 S) (hin2 : bx_same rxL (bx_mdl rxCHED.2.2.1) S (bx_up (bx_up (bx_up S 21 0 x12) 21 1 1) 21 2 0)) (I0 : bx_Inv rxL S) (I1 : bx_Inv rxL (bx_up (bx_up (bx_up S 21 0 x12) 21 1 1) 21 2 0)) (hinv : rxIHED_0 S0 ws S ps pa tc yr) (l8 : 0 ≤ ps) (u8 : ps ≤ 7) (l9 : 0 ≤ pa) (u9 : pa ≤ 5) (l10 : (-1) ≤ tc) (u10 : tc ≤ 7) (l11 : 0 ≤ yr) (u11 : yr ≤ 300) (l12 : 0 ≤ x12) (u12 : x12 ≤ 300) (l13 : (-1) ≤ x13) (u13 : x13 ≤ (-1)) (e4 : S 19 2 = x12) (e0 : (bx_up (bx_up (bx_up S 21 0 x12) 21 1 1) 21 2 0) 1 15 = x13) : (True) ∧ rxPSHED S0 ws (bx_up (bx_up (bx_up S 21 0 x12) 21 1 1) 21 2 0) none := by
  obtain ⟨rfl, hw⟩ := hinv
  obtain ⟨ps_, pa_, tc_, yr_, hw2, hps, hpf, hL⟩ := hP
  have w0 := hw.symm.trans hw2
  have w1 : ps = ps_ := Option.some.inj (congrArg (fun l => l[1]?) w0)
  have w2 : pa = pa_ := Option.some.inj (congrArg (fun l => l[2]?) w0)
  have w3 : tc = tc_ := Option.some.inj (congrArg (fun l => l[3]?) w0)
  have w4 : yr = yr_ := Option.some.inj (congrArg (fun l => l[4]?) w0)
  subst w1 w2 w3 w4
  have z15 : S 1 15 = x13 := (((bx_up_ne (by omega)).trans ((bx_up_ne (by omega)).trans ((bx_up_ne (by omega))))).symm.trans e0)
  have zt : S 19 2 = x12 := e4
  by_cases g : S 1 15 = -1
  · refine ⟨trivial, rfl, ps, pa, tc, yr, hw2, Or.inl ⟨g, ?_⟩⟩
    unfold hd3
    rw [zt]
    rw [show (bx_up (bx_up (bx_up S 21 0 x12) 21 1 1) 21 2 0) 21 0 = x12 from ((bx_up_ne (by omega)).trans ((bx_up_ne (by omega)))).trans bx_up_at, show (bx_up (bx_up (bx_up S 21 0 x12) 21 1 1) 21 2 0) 21 1 = 1 from ((bx_up_ne (by omega))).trans bx_up_at, show (bx_up (bx_up (bx_up S 21 0 x12) 21 1 1) 21 2 0) 21 2 = 0 from bx_up_at]
  · exfalso
    rcases hL with g2 | ⟨g2, -⟩
    · exact g g2
    · have b := I0 1 15 (by decide) (by decide)
      have b : -1 ≤ S 1 15 ∧ S 1 15 ≤ 5 := b
      have b6 := I0 1 14 (by decide) (by decide)
      have b6 : 0 ≤ S 1 14 ∧ S 1 14 ≤ 6 := b6
      omega
theorem rxfHED_0_0 {X : (Nat → Int → Int) → Prop} {S0 : Nat → Int → Int} {ws : List Int} (hP : rxPHED S0 ws) : bx_obE rxL X S0 rxCHED.2.2.1 (rxIHED S0 ws) (rxPSHED S0 ws) 0 rxzHED_0 rxeHED_0_0 := by
  intro S S_p r r_p hinv hX hin hsm_ hseg
  obtain ⟨I0, I1, h0_, hr_, b_, f_, d_⟩ := bx_cl (evs := [(0, (0, 1), (0, 15), .inr (0, (13, 0))), (1, (0, 21), (0, 2), .inr (0, (0, 0))), (1, (0, 21), (0, 1), .inr (0, (0, 1))), (1, (0, 21), (0, 0), .inr (0, (12, 0))), (0, (0, 19), (0, 2), .inr (0, (12, 0)))]) (fvs := []) hseg (by decide +kernel) (by decide +kernel)
  have hinv : rxIHED_0 S0 ws S (r 8) (r 9) (r 10) (r 11) := hinv
  rw [← hr_ 8 (by decide), ← hr_ 9 (by decide), ← hr_ 10 (by decide), ← hr_ 11 (by decide)] at hinv
  obtain ⟨⟨l8, u8⟩, ⟨l9, u9⟩, ⟨l10, u10⟩, ⟨l11, u11⟩, ⟨l12, u12⟩, ⟨l13, u13⟩, -⟩ := b_
  obtain ⟨e0, ⟨T1, ⟨T2, ⟨T3, ⟨e4, w_⟩, w3⟩, w2⟩, w1⟩⟩ := d_
  subst w1
  subst w2
  subst w3
  subst w_
  have g := rxdHED_0_0 hP hin hsm_ I0 I1 hinv l8 u8 l9 u9 l10 u10 l11 u11 l12 u12 l13 u13 e4 e0
  refine ⟨bx_narP_ok (l := []) g.1, ?_⟩
  exact g.2
theorem rxdHED_0_1 {S0 : Nat → Int → Int} {ws : List Int} {S : Nat → Int → Int} {ps pa tc yr x12 x13 x14 : Int} (hP : rxPHED S0 ws) (hin : bx_same rxL (bx_mdl rxCHED.2.2.1) S0 S) (hin2 : bx_same rxL (bx_mdl rxCHED.2.2.1) S (bx_up (bx_up (bx_up S 21 0 x12) 21 1 1) 21 2 0)) (I0 : bx_Inv rxL S) (I1 : bx_Inv rxL (bx_up (bx_up (bx_up S 21 0 x12) 21 1 1) 21 2 0)) (hinv : rxIHED_0 S0 ws S ps pa tc yr) (l8 : 0 ≤ ps) (u8 : ps ≤ 7) (l9 : 0 ≤ pa) (u9 : pa ≤ 5) (l10 : (-1) ≤ tc) (u10 : tc ≤ 7) (l11 : 0 ≤ yr) (u11 : yr ≤ 300) (l12 : 0 ≤ x12) (u12 : x12 ≤ 300) (l13 : 0 ≤ x13) (u13 : x13 ≤ 5) (l14 : 0 ≤ x14) (u14 : x14 ≤ 5) (f0 : x14 ≤ x13) (e5 : S 19 2 = x12) (e1 : (bx_up (bx_up (bx_up S 21 0 x12) 21 1 1) 21 2 0) 1 15 = x13) (e0 : (bx_up (bx_up (bx_up S 21 0 x12) 21 1 1) 21 2 0) 1 14 = x14) : (True) ∧ rxPSHED S0 ws (bx_up (bx_up (bx_up S 21 0 x12) 21 1 1) 21 2 0) none := by
  obtain ⟨rfl, hw⟩ := hinv
  obtain ⟨ps_, pa_, tc_, yr_, hw2, hps, hpf, hL⟩ := hP
  have w0 := hw.symm.trans hw2
  have w1 : ps = ps_ := Option.some.inj (congrArg (fun l => l[1]?) w0)
  have w2 : pa = pa_ := Option.some.inj (congrArg (fun l => l[2]?) w0)
  have w3 : tc = tc_ := Option.some.inj (congrArg (fun l => l[3]?) w0)
  have w4 : yr = yr_ := Option.some.inj (congrArg (fun l => l[4]?) w0)
  subst w1 w2 w3 w4
  have z15 : S 1 15 = x13 := (((bx_up_ne (by omega)).trans ((bx_up_ne (by omega)).trans ((bx_up_ne (by omega))))).symm.trans e1)
  have z14 : S 1 14 = x14 := (((bx_up_ne (by omega)).trans ((bx_up_ne (by omega)).trans ((bx_up_ne (by omega))))).symm.trans e0)
  have zt : S 19 2 = x12 := e5
  by_cases g : S 1 15 = -1
  · refine ⟨trivial, rfl, ps, pa, tc, yr, hw2, Or.inl ⟨g, ?_⟩⟩
    unfold hd3
    rw [zt]
    rw [show (bx_up (bx_up (bx_up S 21 0 x12) 21 1 1) 21 2 0) 21 0 = x12 from ((bx_up_ne (by omega)).trans ((bx_up_ne (by omega)))).trans bx_up_at, show (bx_up (bx_up (bx_up S 21 0 x12) 21 1 1) 21 2 0) 21 1 = 1 from ((bx_up_ne (by omega))).trans bx_up_at, show (bx_up (bx_up (bx_up S 21 0 x12) 21 1 1) 21 2 0) 21 2 = 0 from bx_up_at]
  · exfalso
    rcases hL with g2 | ⟨g2, -⟩
    · exact g g2
    · have b := I0 1 15 (by decide) (by decide)
      have b : -1 ≤ S 1 15 ∧ S 1 15 ≤ 5 := b
      have b6 := I0 1 14 (by decide) (by decide)
      have b6 : 0 ≤ S 1 14 ∧ S 1 14 ≤ 6 := b6
      omega
theorem rxfHED_0_1 {X : (Nat → Int → Int) → Prop} {S0 : Nat → Int → Int} {ws : List Int} (hP : rxPHED S0 ws) : bx_obE rxL X S0 rxCHED.2.2.1 (rxIHED S0 ws) (rxPSHED S0 ws) 0 rxzHED_0 rxeHED_0_1 := by
  intro S S_p r r_p hinv hX hin hsm_ hseg
  obtain ⟨I0, I1, h0_, hr_, b_, f_, d_⟩ := bx_cl (evs := [(0, (0, 1), (0, 14), .inr (0, (14, 0))), (0, (0, 1), (0, 15), .inr (0, (13, 0))), (1, (0, 21), (0, 2), .inr (0, (0, 0))), (1, (0, 21), (0, 1), .inr (0, (0, 1))), (1, (0, 21), (0, 0), .inr (0, (12, 0))), (0, (0, 19), (0, 2), .inr (0, (12, 0)))]) (fvs := [(1, (14, 0), (13, 0), (0, 0))]) hseg (by decide +kernel) (by decide +kernel)
  have hinv : rxIHED_0 S0 ws S (r 8) (r 9) (r 10) (r 11) := hinv
  rw [← hr_ 8 (by decide), ← hr_ 9 (by decide), ← hr_ 10 (by decide), ← hr_ 11 (by decide)] at hinv
  obtain ⟨⟨l8, u8⟩, ⟨l9, u9⟩, ⟨l10, u10⟩, ⟨l11, u11⟩, ⟨l12, u12⟩, ⟨l13, u13⟩, ⟨l14, u14⟩, -⟩ := b_
  obtain ⟨f0, -⟩ := f_
  obtain ⟨e0, ⟨e1, ⟨T2, ⟨T3, ⟨T4, ⟨e5, w_⟩, w4⟩, w3⟩, w2⟩⟩⟩ := d_
  subst w2
  subst w3
  subst w4
  subst w_
  have g := rxdHED_0_1 hP hin hsm_ I0 I1 hinv l8 u8 l9 u9 l10 u10 l11 u11 l12 u12 l13 u13 l14 u14 f0 e5 e1 e0
  refine ⟨bx_narP_ok (l := []) g.1, ?_⟩
  exact g.2
theorem rxdHED_0_2 {S0 : Nat → Int → Int} {ws : List Int} {S : Nat → Int → Int} {ps pa tc yr x12 x13 x14 x15 : Int} (hP : rxPHED S0 ws) (hin : bx_same rxL (bx_mdl rxCHED.2.2.1) S0 S) (hin2 : bx_same rxL (bx_mdl rxCHED.2.2.1) S (bx_up (bx_up (bx_up S 21 0 x12) 21 1 1) 21 2 0)) (I0 : bx_Inv rxL S) (I1 : bx_Inv rxL (bx_up (bx_up (bx_up S 21 0 x12) 21 1 1) 21 2 0)) (hinv : rxIHED_0 S0 ws S ps pa tc yr) (l8 : 0 ≤ ps) (u8 : ps ≤ 7) (l9 : 0 ≤ pa) (u9 : pa ≤ 5) (l10 : (-1) ≤ tc) (u10 : tc ≤ 7) (l11 : 0 ≤ yr) (u11 : yr ≤ 300) (l12 : 0 ≤ x12) (u12 : x12 ≤ 300) (l13 : 0 ≤ x13) (u13 : x13 ≤ 5) (l14 : 1 ≤ x14) (u14 : x14 ≤ 6) (l15 : 0 ≤ x15) (u15 : x15 ≤ 7) (f0 : x15 ≤ ps) (f1 : x13 < x14) (e6 : S 19 2 = x12) (e2 : (bx_up (bx_up (bx_up S 21 0 x12) 21 1 1) 21 2 0) 1 15 = x13) (e1 : (bx_up (bx_up (bx_up S 21 0 x12) 21 1 1) 21 2 0) 1 14 = x14) (e0 : (bx_up (bx_up (bx_up S 21 0 x12) 21 1 1) 21 2 0) 5 0 = x15) : (True) ∧ rxPSHED S0 ws (bx_up (bx_up (bx_up S 21 0 x12) 21 1 1) 21 2 0) none := by
  obtain ⟨rfl, hw⟩ := hinv
  obtain ⟨ps_, pa_, tc_, yr_, hw2, hps, hpf, hL⟩ := hP
  have w0 := hw.symm.trans hw2
  have w1 : ps = ps_ := Option.some.inj (congrArg (fun l => l[1]?) w0)
  have w2 : pa = pa_ := Option.some.inj (congrArg (fun l => l[2]?) w0)
  have w3 : tc = tc_ := Option.some.inj (congrArg (fun l => l[3]?) w0)
  have w4 : yr = yr_ := Option.some.inj (congrArg (fun l => l[4]?) w0)
  subst w1 w2 w3 w4
  have z15 : S 1 15 = x13 := (((bx_up_ne (by omega)).trans ((bx_up_ne (by omega)).trans ((bx_up_ne (by omega))))).symm.trans e2)
  have z14 : S 1 14 = x14 := (((bx_up_ne (by omega)).trans ((bx_up_ne (by omega)).trans ((bx_up_ne (by omega))))).symm.trans e1)
  have zn : S 5 0 = x15 := (((bx_up_ne (by omega)).trans ((bx_up_ne (by omega)).trans ((bx_up_ne (by omega))))).symm.trans e0)
  have zt : S 19 2 = x12 := e6
  by_cases g : S 1 15 = -1
  · refine ⟨trivial, rfl, ps, pa, tc, yr, hw2, Or.inl ⟨g, ?_⟩⟩
    unfold hd3
    rw [zt]
    rw [show (bx_up (bx_up (bx_up S 21 0 x12) 21 1 1) 21 2 0) 21 0 = x12 from ((bx_up_ne (by omega)).trans ((bx_up_ne (by omega)))).trans bx_up_at, show (bx_up (bx_up (bx_up S 21 0 x12) 21 1 1) 21 2 0) 21 1 = 1 from ((bx_up_ne (by omega))).trans bx_up_at, show (bx_up (bx_up (bx_up S 21 0 x12) 21 1 1) 21 2 0) 21 2 = 0 from bx_up_at]
  · exfalso
    rcases hL with g2 | ⟨g2, -⟩
    · exact g g2
    · have b := I0 1 15 (by decide) (by decide)
      have b : -1 ≤ S 1 15 ∧ S 1 15 ≤ 5 := b
      have b6 := I0 1 14 (by decide) (by decide)
      have b6 : 0 ≤ S 1 14 ∧ S 1 14 ≤ 6 := b6
      omega
theorem rxfHED_0_2 {X : (Nat → Int → Int) → Prop} {S0 : Nat → Int → Int} {ws : List Int} (hP : rxPHED S0 ws) : bx_obE rxL X S0 rxCHED.2.2.1 (rxIHED S0 ws) (rxPSHED S0 ws) 0 rxzHED_0 rxeHED_0_2 := by
  intro S S_p r r_p hinv hX hin hsm_ hseg
  obtain ⟨I0, I1, h0_, hr_, b_, f_, d_⟩ := bx_cl (evs := [(0, (0, 5), (0, 0), .inr (0, (15, 0))), (0, (0, 1), (0, 14), .inr (0, (14, 0))), (0, (0, 1), (0, 15), .inr (0, (13, 0))), (1, (0, 21), (0, 2), .inr (0, (0, 0))), (1, (0, 21), (0, 1), .inr (0, (0, 1))), (1, (0, 21), (0, 0), .inr (0, (12, 0))), (0, (0, 19), (0, 2), .inr (0, (12, 0)))]) (fvs := [(1, (15, 0), (8, 0), (0, 0)), (0, (13, 0), (14, 0), (0, 0))]) hseg (by decide +kernel) (by decide +kernel)
  have hinv : rxIHED_0 S0 ws S (r 8) (r 9) (r 10) (r 11) := hinv
  rw [← hr_ 8 (by decide), ← hr_ 9 (by decide), ← hr_ 10 (by decide), ← hr_ 11 (by decide)] at hinv
  obtain ⟨⟨l8, u8⟩, ⟨l9, u9⟩, ⟨l10, u10⟩, ⟨l11, u11⟩, ⟨l12, u12⟩, ⟨l13, u13⟩, ⟨l14, u14⟩, ⟨l15, u15⟩, -⟩ := b_
  obtain ⟨f0, f1, -⟩ := f_
  obtain ⟨e0, ⟨e1, ⟨e2, ⟨T3, ⟨T4, ⟨T5, ⟨e6, w_⟩, w5⟩, w4⟩, w3⟩⟩⟩⟩ := d_
  subst w3
  subst w4
  subst w5
  subst w_
  have g := rxdHED_0_2 hP hin hsm_ I0 I1 hinv l8 u8 l9 u9 l10 u10 l11 u11 l12 u12 l13 u13 l14 u14 l15 u15 f0 f1 e6 e2 e1 e0
  refine ⟨bx_narP_ok (l := []) g.1, ?_⟩
  exact g.2
theorem rxcHED_1_0 {S0 : Nat → Int → Int} {ws : List Int} {S : Nat → Int → Int} {pg i x10 : Int} (hP : rxPHED S0 ws) (hin : bx_same rxL (bx_mdl rxCHED.2.2.1) S0 S) (I0 : bx_Inv rxL S) (hinv : rxIHED_1 S0 ws S pg i) (l8 : 0 ≤ pg) (u8 : pg ≤ 1522) (l9 : 0 ≤ i) (u9 : i ≤ 11) (l10 : 1 ≤ x10) (u10 : x10 ≤ 12) (f0 : i < x10) (e0 : S (pg).toNat 4 = x10) : (True) ∧ (True) ∧ rxIHED_2 S0 ws S pg i ∧ rxmHED_2 S0 ws S pg i < rxmHED_1 S0 ws S pg i := by
  obtain ⟨ps, pa, tc, yr, hw, h15, hpg, hvb, hv, hx⟩ := hinv
  obtain ⟨ps_, pa_, tc_, yr_, hw2, hps, hpf, hL⟩ := hP
  have w0 := hw.symm.trans hw2
  have w1 : ps = ps_ := Option.some.inj (congrArg (fun l => l[1]?) w0)
  have w2 : pa = pa_ := Option.some.inj (congrArg (fun l => l[2]?) w0)
  have w3 : tc = tc_ := Option.some.inj (congrArg (fun l => l[3]?) w0)
  have w4 : yr = yr_ := Option.some.inj (congrArg (fun l => l[4]?) w0)
  subst w1 w2 w3 w4
  have hpt : pg.toNat ∈ rkPg := by
    have e : pg = 77 ∨ pg = 87 ∨ pg = 97 ∨ pg = 107 ∨ pg = 117 ∨ pg = 127 := by omega
    rcases e with rfl | rfl | rfl | rfl | rfl | rfl <;> decide
  have hp20 : rkPq S0 pg.toNat := by
    have g := (hpf.2.1 (S0 1 15).toNat (by omega)).2
    rw [show 77 + 10 * (S0 1 15).toNat = pg.toNat by omega] at g
    exact g
  have hEq := tqEq_sm hin (by decide +kernel) hpt
  have e4 : S0 pg.toNat 4 = x10 := hEq.2.1.symm.trans e0
  exact ⟨trivial, trivial, ⟨by omega, ps, pa, tc, yr, hw2, h15, hpg, hvb, hv, hx⟩, by unfold rxmHED_1 rxmHED_2; omega⟩
theorem rxgHED_1_0 {X : (Nat → Int → Int) → Prop} {S0 : Nat → Int → Int} {ws : List Int} (hP : rxPHED S0 ws) : bx_obC rxL X S0 rxCHED.2.2.1 (rxIHED S0 ws) (rxmHED S0 ws) 1 rxzHED_1 rxoHED_1_0 := by
  intro S S_p r r_p hinv hX hin hsm_ hseg
  obtain ⟨I0, I1, h0_, hr_, b_, f_, d_⟩ := bx_cl (evs := [(0, (8, 0), (0, 4), .inr (0, (10, 0)))]) (fvs := [(0, (9, 0), (10, 0), (0, 0))]) hseg (by decide +kernel) (by decide +kernel)
  have hinv : rxIHED_1 S0 ws S (r 8) (r 9) := hinv
  rw [← hr_ 8 (by decide), ← hr_ 9 (by decide)] at hinv
  obtain ⟨⟨l8, u8⟩, ⟨l9, u9⟩, ⟨l10, u10⟩, -⟩ := b_
  obtain ⟨f0, -⟩ := f_
  obtain ⟨e0, w_⟩ := d_
  subst w_
  have g := rxcHED_1_0 hP hin I0 hinv l8 u8 l9 u9 l10 u10 f0 e0
  refine ⟨bx_narP_ok (l := []) g.1, bx_nfP_ok h0_ (fvs := []) (by decide +kernel) g.2.1, ?_, ?_⟩
  · show rxIHED_2 S0 ws S_p (bx_val [(0, 0), (0, 0), (0, 0), (0, 0), (0, 0), (0, 0), (0, 0), (0, 0), (8, 0), (9, 0)] r_p 8) (bx_val [(0, 0), (0, 0), (0, 0), (0, 0), (0, 0), (0, 0), (0, 0), (0, 0), (8, 0), (9, 0)] r_p 9)
    rw [bx_val_x (n := 8) (e := (8, 0)) h0_ rfl, bx_val_x (n := 9) (e := (9, 0)) h0_ rfl]
    exact g.2.2.1
  · show rxmHED_2 S0 ws S_p (bx_val [(0, 0), (0, 0), (0, 0), (0, 0), (0, 0), (0, 0), (0, 0), (0, 0), (8, 0), (9, 0)] r_p 8) (bx_val [(0, 0), (0, 0), (0, 0), (0, 0), (0, 0), (0, 0), (0, 0), (0, 0), (8, 0), (9, 0)] r_p 9) < rxmHED_1 S0 ws S_p (r 8) (r 9)
    rw [bx_val_x (n := 8) (e := (8, 0)) h0_ rfl, bx_val_x (n := 9) (e := (9, 0)) h0_ rfl, ← hr_ 8 (by decide), ← hr_ 9 (by decide)]
    exact g.2.2.2
theorem rxdHED_1_0 {S0 : Nat → Int → Int} {ws : List Int} {S : Nat → Int → Int} {pg i x10 : Int} (hP : rxPHED S0 ws) (hin : bx_same rxL (bx_mdl rxCHED.2.2.1) S0 S) (hin2 : bx_same rxL (bx_mdl rxCHED.2.2.1) S S) (I0 : bx_Inv rxL S) (I1 : bx_Inv rxL S) (hinv : rxIHED_1 S0 ws S pg i) (l8 : 0 ≤ pg) (u8 : pg ≤ 1522) (l9 : 0 ≤ i) (u9 : i ≤ 12) (l10 : 0 ≤ x10) (u10 : x10 ≤ 12) (f0 : x10 ≤ i) (e0 : S (pg).toNat 4 = x10) : (True) ∧ rxPSHED S0 ws S none := by
  obtain ⟨ps, pa, tc, yr, hw, h15, hpg, hvb, hv, hx⟩ := hinv
  obtain ⟨ps_, pa_, tc_, yr_, hw2, hps, hpf, hL⟩ := hP
  have w0 := hw.symm.trans hw2
  have w1 : ps = ps_ := Option.some.inj (congrArg (fun l => l[1]?) w0)
  have w2 : pa = pa_ := Option.some.inj (congrArg (fun l => l[2]?) w0)
  have w3 : tc = tc_ := Option.some.inj (congrArg (fun l => l[3]?) w0)
  have w4 : yr = yr_ := Option.some.inj (congrArg (fun l => l[4]?) w0)
  subst w1 w2 w3 w4
  have hpt : pg.toNat ∈ rkPg := by
    have e : pg = 77 ∨ pg = 87 ∨ pg = 97 ∨ pg = 107 ∨ pg = 117 ∨ pg = 127 := by omega
    rcases e with rfl | rfl | rfl | rfl | rfl | rfl <;> decide
  have hp20 : rkPq S0 pg.toNat := by
    have g := (hpf.2.1 (S0 1 15).toNat (by omega)).2
    rw [show 77 + 10 * (S0 1 15).toNat = pg.toNat by omega] at g
    exact g
  have hEq := tqEq_sm hin (by decide +kernel) hpt
  have e4 : S0 pg.toNat 4 = x10 := hEq.2.1.symm.trans e0
  refine ⟨trivial, rfl, ps, pa, tc, yr, hw2, Or.inr ⟨by omega, fun L hl hn => ?_⟩⟩
  rw [← hpg] at hl
  obtain ⟨L1, L2, h1, h2, h3⟩ := hx L hl hn
  have hlen := hl.1
  have hlen2 := hl.2.1
  rw [h1] at hlen hlen2
  simp only [List.length_append] at hlen hlen2
  have e : L2 = [] := List.eq_nil_of_length_eq_zero (by omega)
  subst e
  exact h3 _ rfl
theorem rxfHED_1_0 {X : (Nat → Int → Int) → Prop} {S0 : Nat → Int → Int} {ws : List Int} (hP : rxPHED S0 ws) : bx_obE rxL X S0 rxCHED.2.2.1 (rxIHED S0 ws) (rxPSHED S0 ws) 1 rxzHED_1 rxeHED_1_0 := by
  intro S S_p r r_p hinv hX hin hsm_ hseg
  obtain ⟨I0, I1, h0_, hr_, b_, f_, d_⟩ := bx_cl (evs := [(0, (8, 0), (0, 4), .inr (0, (10, 0)))]) (fvs := [(1, (10, 0), (9, 0), (0, 0))]) hseg (by decide +kernel) (by decide +kernel)
  have hinv : rxIHED_1 S0 ws S (r 8) (r 9) := hinv
  rw [← hr_ 8 (by decide), ← hr_ 9 (by decide)] at hinv
  obtain ⟨⟨l8, u8⟩, ⟨l9, u9⟩, ⟨l10, u10⟩, -⟩ := b_
  obtain ⟨f0, -⟩ := f_
  obtain ⟨e0, w_⟩ := d_
  subst w_
  have g := rxdHED_1_0 hP hin hsm_ I0 I1 hinv l8 u8 l9 u9 l10 u10 f0 e0
  refine ⟨bx_narP_ok (l := []) g.1, ?_⟩
  exact g.2
theorem rxcHED_3_0 {S0 : Nat → Int → Int} {ws : List Int} {S : Nat → Int → Int} {pg i so : Int} (hP : rxPHED S0 ws) (hin : bx_same rxL (bx_mdl rxCHED.2.2.1) S0 S) (I0 : bx_Inv rxL S) (hinv : rxIHED_3 S0 ws S pg i so) (l8 : 0 ≤ pg) (u8 : pg ≤ 1522) (l9 : 0 ≤ i) (u9 : i ≤ 11) (l10 : 1 ≤ so) (u10 : so ≤ 1) (f0 : so ≠ 0) : (True) ∧ (True) ∧ rxIHED_4 S0 ws S pg i ∧ rxmHED_4 S0 ws S pg i < rxmHED_3 S0 ws S pg i so := by
  obtain ⟨hi, ps, pa, tc, yr, hw, h15, hpg, hvb, hv, hx⟩ := hinv
  refine ⟨trivial, trivial, ⟨hi, ps, pa, tc, yr, hw, h15, hpg, hvb, hv, fun L hl hn => ?_⟩, by unfold rxmHED_3 rxmHED_4; omega⟩
  obtain ⟨q, L1, L2, h1, h2, h3, h4⟩ := hx L hl hn
  rcases h3 with ⟨a, b⟩ | ⟨a, b⟩
  · exact ⟨q, L1, L2, h1, h2, b, h4⟩
  · exfalso
    omega
theorem rxgHED_3_0 {X : (Nat → Int → Int) → Prop} {S0 : Nat → Int → Int} {ws : List Int} (hP : rxPHED S0 ws) : bx_obC rxL X S0 rxCHED.2.2.1 (rxIHED S0 ws) (rxmHED S0 ws) 3 rxzHED_3 rxoHED_3_0 := by
  intro S S_p r r_p hinv hX hin hsm_ hseg
  obtain ⟨I0, I1, h0_, hr_, b_, f_, d_⟩ := bx_cl (evs := []) (fvs := [(3, (10, 0), (0, 0), (0, 0))]) hseg (by decide +kernel) (by decide +kernel)
  have hinv : rxIHED_3 S0 ws S (r 8) (r 9) (r 10) := hinv
  rw [← hr_ 8 (by decide), ← hr_ 9 (by decide), ← hr_ 10 (by decide)] at hinv
  obtain ⟨⟨l8, u8⟩, ⟨l9, u9⟩, ⟨l10, u10⟩, -⟩ := b_
  obtain ⟨f0, -⟩ := f_
  have w_ := d_
  subst w_
  have g := rxcHED_3_0 hP hin I0 hinv l8 u8 l9 u9 l10 u10 f0
  refine ⟨bx_narP_ok (l := []) g.1, bx_nfP_ok h0_ (fvs := []) (by decide +kernel) g.2.1, ?_, ?_⟩
  · show rxIHED_4 S0 ws S_p (bx_val [(0, 0), (0, 0), (0, 0), (0, 0), (0, 0), (0, 0), (0, 0), (0, 0), (8, 0), (9, 0)] r_p 8) (bx_val [(0, 0), (0, 0), (0, 0), (0, 0), (0, 0), (0, 0), (0, 0), (0, 0), (8, 0), (9, 0)] r_p 9)
    rw [bx_val_x (n := 8) (e := (8, 0)) h0_ rfl, bx_val_x (n := 9) (e := (9, 0)) h0_ rfl]
    exact g.2.2.1
  · show rxmHED_4 S0 ws S_p (bx_val [(0, 0), (0, 0), (0, 0), (0, 0), (0, 0), (0, 0), (0, 0), (0, 0), (8, 0), (9, 0)] r_p 8) (bx_val [(0, 0), (0, 0), (0, 0), (0, 0), (0, 0), (0, 0), (0, 0), (0, 0), (8, 0), (9, 0)] r_p 9) < rxmHED_3 S0 ws S_p (r 8) (r 9) (r 10)
    rw [bx_val_x (n := 8) (e := (8, 0)) h0_ rfl, bx_val_x (n := 9) (e := (9, 0)) h0_ rfl, ← hr_ 8 (by decide), ← hr_ 9 (by decide), ← hr_ 10 (by decide)]
    exact g.2.2.2
theorem rxcHED_3_1 {S0 : Nat → Int → Int} {ws : List Int} {S : Nat → Int → Int} {pg i so : Int} (hP : rxPHED S0 ws) (hin : bx_same rxL (bx_mdl rxCHED.2.2.1) S0 S) (I0 : bx_Inv rxL S) (hinv : rxIHED_3 S0 ws S pg i so) (l8 : 0 ≤ pg) (u8 : pg ≤ 1522) (l9 : 0 ≤ i) (u9 : i ≤ 11) (l10 : 0 ≤ so) (u10 : so ≤ 0) : (True) ∧ (True) ∧ rxIHED_1 S0 ws S pg (i + 1) ∧ rxmHED_1 S0 ws S pg (i + 1) < rxmHED_3 S0 ws S pg i so := by
  obtain ⟨hi, ps, pa, tc, yr, hw, h15, hpg, hvb, hv, hx⟩ := hinv
  refine ⟨trivial, trivial, ⟨ps, pa, tc, yr, hw, h15, hpg, hvb, hv, fun L hl hn => ?_⟩, by unfold rxmHED_3 rxmHED_1; omega⟩
  obtain ⟨q, L1, L2, h1, h2, h3, h4⟩ := hx L hl hn
  rcases h3 with ⟨a, b⟩ | ⟨a, b⟩
  · exfalso
    omega
  · exact ⟨L1 ++ [q], L2, by rw [h1, List.append_assoc]; rfl, by simp only [List.length_append, List.length_cons, List.length_nil]; omega, rkHr_go h4 (Or.inl ⟨b, rfl⟩)⟩
theorem rxgHED_3_1 {X : (Nat → Int → Int) → Prop} {S0 : Nat → Int → Int} {ws : List Int} (hP : rxPHED S0 ws) : bx_obC rxL X S0 rxCHED.2.2.1 (rxIHED S0 ws) (rxmHED S0 ws) 3 rxzHED_3 rxoHED_3_1 := by
  intro S S_p r r_p hinv hX hin hsm_ hseg
  obtain ⟨I0, I1, h0_, hr_, b_, f_, d_⟩ := bx_cl (evs := []) (fvs := []) hseg (by decide +kernel) (by decide +kernel)
  have hinv : rxIHED_3 S0 ws S (r 8) (r 9) (r 10) := hinv
  rw [← hr_ 8 (by decide), ← hr_ 9 (by decide), ← hr_ 10 (by decide)] at hinv
  obtain ⟨⟨l8, u8⟩, ⟨l9, u9⟩, ⟨l10, u10⟩, -⟩ := b_
  have w_ := d_
  subst w_
  have g := rxcHED_3_1 hP hin I0 hinv l8 u8 l9 u9 l10 u10
  refine ⟨bx_narP_ok (l := []) g.1, bx_nfP_ok h0_ (fvs := []) (by decide +kernel) g.2.1, ?_, ?_⟩
  · show rxIHED_1 S0 ws S_p (bx_val [(0, 0), (0, 0), (0, 0), (0, 0), (0, 0), (0, 0), (0, 0), (0, 0), (8, 0), (9, 1)] r_p 8) (bx_val [(0, 0), (0, 0), (0, 0), (0, 0), (0, 0), (0, 0), (0, 0), (0, 0), (8, 0), (9, 1)] r_p 9)
    rw [bx_val_x (n := 8) (e := (8, 0)) h0_ rfl, bx_val_x (n := 9) (e := (9, 1)) h0_ rfl]
    exact g.2.2.1
  · show rxmHED_1 S0 ws S_p (bx_val [(0, 0), (0, 0), (0, 0), (0, 0), (0, 0), (0, 0), (0, 0), (0, 0), (8, 0), (9, 1)] r_p 8) (bx_val [(0, 0), (0, 0), (0, 0), (0, 0), (0, 0), (0, 0), (0, 0), (0, 0), (8, 0), (9, 1)] r_p 9) < rxmHED_3 S0 ws S_p (r 8) (r 9) (r 10)
    rw [bx_val_x (n := 8) (e := (8, 0)) h0_ rfl, bx_val_x (n := 9) (e := (9, 1)) h0_ rfl, ← hr_ 8 (by decide), ← hr_ 9 (by decide), ← hr_ 10 (by decide)]
    exact g.2.2.2
theorem rxcHED_5_0 {S0 : Nat → Int → Int} {ws : List Int} {S : Nat → Int → Int} {pg i : Int} (hP : rxPHED S0 ws) (hin : bx_same rxL (bx_mdl rxCHED.2.2.1) S0 S) (I0 : bx_Inv rxL S) (hinv : rxIHED_5 S0 ws S pg i) (l8 : 0 ≤ pg) (u8 : pg ≤ 1522) (l9 : 0 ≤ i) (u9 : i ≤ 11) : (True) ∧ (True) ∧ rxIHED_1 S0 ws S pg (i + 1) ∧ rxmHED_1 S0 ws S pg (i + 1) < rxmHED_5 S0 ws S pg i := by
  obtain ⟨hi, h⟩ := hinv
  exact ⟨trivial, trivial, h, by unfold rxmHED_5 rxmHED_1; omega⟩
theorem rxgHED_5_0 {X : (Nat → Int → Int) → Prop} {S0 : Nat → Int → Int} {ws : List Int} (hP : rxPHED S0 ws) : bx_obC rxL X S0 rxCHED.2.2.1 (rxIHED S0 ws) (rxmHED S0 ws) 5 rxzHED_5 rxoHED_5_0 := by
  intro S S_p r r_p hinv hX hin hsm_ hseg
  obtain ⟨I0, I1, h0_, hr_, b_, f_, d_⟩ := bx_cl (evs := []) (fvs := []) hseg (by decide +kernel) (by decide +kernel)
  have hinv : rxIHED_5 S0 ws S (r 8) (r 9) := hinv
  rw [← hr_ 8 (by decide), ← hr_ 9 (by decide)] at hinv
  obtain ⟨⟨l8, u8⟩, ⟨l9, u9⟩, -⟩ := b_
  have w_ := d_
  subst w_
  have g := rxcHED_5_0 hP hin I0 hinv l8 u8 l9 u9
  refine ⟨bx_narP_ok (l := []) g.1, bx_nfP_ok h0_ (fvs := []) (by decide +kernel) g.2.1, ?_, ?_⟩
  · show rxIHED_1 S0 ws S_p (bx_val [(0, 0), (0, 0), (0, 0), (0, 0), (0, 0), (0, 0), (0, 0), (0, 0), (8, 0), (9, 1)] r_p 8) (bx_val [(0, 0), (0, 0), (0, 0), (0, 0), (0, 0), (0, 0), (0, 0), (0, 0), (8, 0), (9, 1)] r_p 9)
    rw [bx_val_x (n := 8) (e := (8, 0)) h0_ rfl, bx_val_x (n := 9) (e := (9, 1)) h0_ rfl]
    exact g.2.2.1
  · show rxmHED_1 S0 ws S_p (bx_val [(0, 0), (0, 0), (0, 0), (0, 0), (0, 0), (0, 0), (0, 0), (0, 0), (8, 0), (9, 1)] r_p 8) (bx_val [(0, 0), (0, 0), (0, 0), (0, 0), (0, 0), (0, 0), (0, 0), (0, 0), (8, 0), (9, 1)] r_p 9) < rxmHED_5 S0 ws S_p (r 8) (r 9)
    rw [bx_val_x (n := 8) (e := (8, 0)) h0_ rfl, bx_val_x (n := 9) (e := (9, 1)) h0_ rfl, ← hr_ 8 (by decide), ← hr_ 9 (by decide)]
    exact g.2.2.2
theorem rxgCHED {X : (Nat → Int → Int) → Prop} {S0 : Nat → Int → Int} {ws : List Int} (hP : rxPHED S0 ws) : bx_allI (fun i q => rxUHED q = true ∨ bx_allP (fun o => bx_obC rxL X S0 rxCHED.2.2.1 (rxIHED S0 ws) (rxmHED S0 ws) i q.1 o) q.2.1) 0 rxYHED := ⟨Or.inr ⟨rxgHED_0_0 hP, trivial⟩, Or.inr ⟨rxgHED_1_0 hP, trivial⟩, Or.inl rfl, Or.inr ⟨rxgHED_3_0 hP, rxgHED_3_1 hP, trivial⟩, Or.inl rfl, Or.inr ⟨rxgHED_5_0 hP, trivial⟩, trivial⟩
theorem rxgEHED {X : (Nat → Int → Int) → Prop} {S0 : Nat → Int → Int} {ws : List Int} (hP : rxPHED S0 ws) : bx_allI (fun i q => rxUHED q = true ∨ bx_allP (fun E => bx_obE rxL X S0 rxCHED.2.2.1 (rxIHED S0 ws) (rxPSHED S0 ws) i q.1 E) q.2.2) 0 rxYHED := ⟨Or.inr ⟨rxfHED_0_0 hP, rxfHED_0_1 hP, rxfHED_0_2 hP, trivial⟩, Or.inr ⟨rxfHED_1_0 hP, trivial⟩, Or.inl rfl, Or.inr trivial, Or.inl rfl, Or.inr trivial, trivial⟩
theorem rxuHED {PX : State → Prop} {Dg : va_G} {A : Nat → Prop} {ad xa : Nat → Nat} {l : Launch} {X : (Nat → Int → Int) → Prop} (hPX : rx_PXOK rxNW A PX) (hX : ∀ S S1 : Nat → Int → Int, X S → bx_same rxL (bx_mdl rxCHED.2.2.1) S S1 → X S1) (hQISD : bx_ConP rxG rxNW rxAO PX Dg rxL X vwCl A ad l rxM101 rxCISD rxPISD rxPSISD) (hQHCD : bx_ConP rxG rxNW rxAO PX Dg rxL X vwCl A ad l rxM102 rxCHCD rxPHCD rxPSHCD) {S0 : Nat → Int → Int} {ws : List Int} (hP : rxPHED S0 ws) : ∀ (i : Nat) (q : bx_HE), rxYHED[i]? = some q → rxUHED q = true → ∀ {p : Program} {e : Env} {R : Room} {s : State} {m : MethodId} {args : Array Value} {below : List Frame} {meth : Method} {c : Code} {Q : State → Prop} {H0 : Heap}, rx_Fr rxG rxNW rxAO PX p s m args meth c rxM98 → (∀ q, H0.size ≤ q → A q) → H0 = s.heap → rxM98.2.2.2.2.2.2.1 ≤ R.cells → rxM98.2.2.2.2.2.2.2 ≤ R.slots → rxCHED.2.2.2.1 ≤ R.frames → rxCHED.2.2.2.1 * 40 ≤ R.locals → bx_Step p l e R s m args below meth c Q Dg rxL X vwCl A xa H0 ad rxM98 rxYHED (rxIHED S0 ws) (rxmHED S0 ws) S0 rxCHED.2.2.1 i q := by
  intro i q hq hus p e R s m args below meth c Q H0 hF hA hH0 hmc hms hd hdl
  match i, hq with
  | 0, hq =>
    cases hq
    exact absurd (show false = true from hus) Bool.false_ne_true
  | 1, hq =>
    cases hq
    exact absurd (show false = true from hus) Bool.false_ne_true
  | 2, hq =>
    cases hq
    exact rx_stepC (ins := .invokevirtual 148) (len := 3) (i_p := 3) (M_p := rxM101) (d := rxCHED.2.2.2.1) (as := [.inr (3, (8, 0)), .inr (0, (9, 0)), .inr (3, (0, 22))]) (t := []) (ct := rxCISD) hPX hF rfl hA hH0 hmc hms hd hdl (by decide +kernel) rfl rfl (by decide +kernel) (by decide +kernel) hQISD (by decide +kernel) rfl (Or.inr ⟨_, _, _, 1, rfl, rfl, by omega, rfl, rfl, rfl⟩) (rxsHED_2 hP)
  | 3, hq =>
    cases hq
    exact absurd (show false = true from hus) Bool.false_ne_true
  | 4, hq =>
    cases hq
    exact rx_stepC (ins := .invokevirtual 152) (len := 3) (i_p := 5) (M_p := rxM102) (d := rxCHED.2.2.2.1) (as := [.inr (3, (0, 1)), .inr (3, (8, 0)), .inr (0, (9, 0))]) (t := []) (ct := rxCHCD) hPX hF rfl hA hH0 hmc hms hd hdl (by decide +kernel) rfl rfl (by decide +kernel) (by decide +kernel) hQHCD (by decide +kernel) rfl (Or.inl ⟨rfl, rfl, rfl⟩) (rxsHED_4 hP)
  | 5, hq =>
    cases hq
    exact absurd (show false = true from hus) Bool.false_ne_true
  | n + 6, hq => cases hq
theorem rxQHED {PX : State → Prop} {Dg : va_G} {A : Nat → Prop} {ad xa : Nat → Nat} {l : Launch} {X : (Nat → Int → Int) → Prop} (hPX : rx_PXOK rxNW A PX) (hsl : ∀ s : State, PX s → ∀ o idx n : Nat, rxSl o idx = some n → ∃ tx : String, vk_R (rxNm o) idx tx (ad n) s)
    (hX : ∀ S S_p : Nat → Int → Int, X S → bx_same rxL (bx_mdl rxCHED.2.2.1) S S_p → X S_p)
    (ih : ∀ (j2 : Nat) (ct2 : bx_Ct) (M2 : rx_Mt), ct2 ∈ rxCnE j2 → ct2.2.2.2.1 + 1 ≤ rxCHED.2.2.2.1 → rxT.2.2.2.2.2 j2 = some M2 → bx_Con rxG rxNW rxAO PX Dg rxL X vwCl A ad l M2 ct2) (hQISD : bx_ConP rxG rxNW rxAO PX Dg rxL X vwCl A ad l rxM101 rxCISD rxPISD rxPSISD) (hQHCD : bx_ConP rxG rxNW rxAO PX Dg rxL X vwCl A ad l rxM102 rxCHCD rxPHCD rxPSHCD) : bx_ConP rxG rxNW rxAO PX Dg rxL X vwCl A ad l rxM98 rxCHED rxPHED rxPSHED :=
  rxQof (xa := xa) (Cn := rxCnE) (f := 30000) (j := 98) (tab := rxYHED) (us := rxUHED) hPX hsl hX ih rfl rxYcHED rxIHED rxmHED
    (fun S0 ws r I0 I ht0 ht as he he1 hX0 hI0 hP hs ha => by
      have e := he.symm.trans (show bx_ent0 rxNP rxCHED.1 bx_I0 [] = some ([(0, 0), (0, 0), (0, 0), (0, 0), (0, 0), (0, 0), (0, 0), (0, 0), (0, 7), (0, 5), ((-1), 7), (0, 300)], [], [.inr (3, (0, 1)), .inr (0, (8, 0)), .inr (0, (9, 0)), .inr (0, (10, 0)), .inr (0, (11, 0))]) from rfl)
      cases e
      subst ha
      have h0 : r 0 = 0 := hs.1
      show rxIHED_0 S0 _ S0 (r 8) (r 9) (r 10) (r 11)
      refine ⟨rfl, ?_⟩
      simp only [List.map_cons, List.map_nil, bx_xv_ok h0]
      rfl)
    (fun S0 ws hP => rxuHED (xa := xa) hPX hX hQISD hQHCD hP) (fun S0 ws hP => rxgCHED hP) (fun S0 ws hP => rxgEHED hP)
