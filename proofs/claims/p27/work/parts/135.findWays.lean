noncomputable def rxCFW : bx_Ct := ([(3, (1, 480, 0)), (0, (0, 1, 3)), (0, (0, 0, 3)), (0, (0, 0, 5))], none, [(12, 69), (12, 70), (1094, 0), (1095, 0), (1096, 0), (1097, 0), (1098, 0), (1099, 0), (1100, 0)], 2, [])
noncomputable def rxIFW_0 (S0 : Nat → Int → Int) (ws : List Int) (S : Nat → Int → Int) (m row1 cue : Int) : Prop := S = S0 ∧ ws = [480, m, row1, cue]
noncomputable def rxmFW_0 (S0 : Nat → Int → Int) (ws : List Int) (S : Nat → Int → Int) (m row1 cue : Int) : Nat := 100000000000000
noncomputable def rxzFW_0 : rx_Z := ([(0, 0), (0, 0), (0, 0), (0, 0), (0, 0), (0, 0), (0, 0), (0, 0), (1, 3), (0, 3), (0, 5)], [], [], 0, 0, 0, [(0, .inr (3, (0, 480))), (1, .inr (0, (8, 0))), (2, .inr (0, (9, 0))), (3, .inr (0, (10, 0)))], [])
noncomputable def rxIFW_1 (S0 : Nat → Int → Int) (ws : List Int) (S : Nat → Int → Int) (m row1 cue n k : Int) : Prop := n = S 482 6 ∧ rxOrd S
noncomputable def rxmFW_1 (S0 : Nat → Int → Int) (ws : List Int) (S : Nat → Int → Int) (m row1 cue n k : Int) : Nat := 50000000000000 + (20 - k).toNat
noncomputable def rxzFW_1 : rx_Z := ([(0, 0), (0, 0), (0, 0), (0, 0), (0, 0), (0, 0), (0, 0), (0, 0), (1, 3), (0, 3), (0, 5), (0, 12), (0, 18)], [], [], 0, 0, 22, [(0, .inr (3, (0, 480))), (1, .inr (0, (8, 0))), (2, .inr (0, (9, 0))), (3, .inr (0, (10, 0))), (4, .inr (0, (11, 0))), (5, .inr (0, (12, 0)))], [])
noncomputable def rxIFW_2 (S0 : Nat → Int → Int) (ws : List Int) (S : Nat → Int → Int) (m row1 cue n k : Int) : Prop := n = S 482 6 ∧ rxOrd S
noncomputable def rxmFW_2 (S0 : Nat → Int → Int) (ws : List Int) (S : Nat → Int → Int) (m row1 cue n k : Int) : Nat := 40000000000000 + (20 - k).toNat
noncomputable def rxzFW_2 : rx_Z := ([(0, 0), (0, 0), (0, 0), (0, 0), (0, 0), (0, 0), (0, 0), (0, 0), (1, 3), (0, 3), (0, 5), (0, 12), (0, 12)], [], [], 0, 0, 54, [(0, .inr (3, (0, 480))), (1, .inr (0, (8, 0))), (2, .inr (0, (9, 0))), (3, .inr (0, (10, 0))), (4, .inr (0, (11, 0))), (5, .inr (0, (12, 0)))], [])
noncomputable def rxIFW_3 (S0 : Nat → Int → Int) (ws : List Int) (S : Nat → Int → Int) (m row1 cue n a b c : Int) : Prop := rxOrd S
noncomputable def rxmFW_3 (S0 : Nat → Int → Int) (ws : List Int) (S : Nat → Int → Int) (m row1 cue n a b c : Int) : Nat := 100
noncomputable def rxzFW_3 : rx_Z := ([(0, 0), (0, 0), (0, 0), (0, 0), (0, 0), (0, 0), (0, 0), (0, 0), (1, 3), (0, 3), (0, 5), (0, 0), (1, 3), (0, 3), (0, 5)], [], [], 0, 0, 106, [(0, .inr (3, (0, 480))), (1, .inr (0, (8, 0))), (2, .inr (0, (9, 0))), (3, .inr (0, (10, 0))), (4, .inr (0, (11, 0)))], [.inr (0, (14, 0)), .inr (0, (13, 0)), .inr (0, (12, 0)), .inr (3, (0, 480))])
noncomputable def rxIFW_4 (S0 : Nat → Int → Int) (ws : List Int) (S : Nat → Int → Int) (m row1 cue n a b c : Int) : Prop := rxOrd S
noncomputable def rxmFW_4 (S0 : Nat → Int → Int) (ws : List Int) (S : Nat → Int → Int) (m row1 cue n a b c : Int) : Nat := 50
noncomputable def rxzFW_4 : rx_Z := ([(0, 0), (0, 0), (0, 0), (0, 0), (0, 0), (0, 0), (0, 0), (0, 0), (1, 3), (0, 3), (0, 5), (0, 0), (1, 3), (0, 3), (0, 5)], [], [], 0, 0, 109, [(0, .inr (3, (0, 480))), (1, .inr (0, (8, 0))), (2, .inr (0, (9, 0))), (3, .inr (0, (10, 0))), (4, .inr (0, (11, 0)))], [])
noncomputable def rxIFW_5 (S0 : Nat → Int → Int) (ws : List Int) (S : Nat → Int → Int) (m row1 cue n k : Int) : Prop := k < n ∧ n = S 482 6 ∧ rxOrd S ∧ (∀ j : Int, 0 ≤ j → j < k → 0 ≤ S 519 j ∧ S 519 j ≤ 2) ∧ (0 ≤ k → -1 ≤ S 519 k ∧ S 519 k ≤ 2) ∧ (∀ j : Int, 0 ≤ j → j ≤ k → S 518 j ≤ m)
noncomputable def rxmFW_5 (S0 : Nat → Int → Int) (ws : List Int) (S : Nat → Int → Int) (m row1 cue n k : Int) : Nat := if k < 0 then 5 else 100 * (68719476736 - rxSP (S 519) k).toNat + 10 * (20 - k).toNat + 9
noncomputable def rxzFW_5 : rx_Z := ([(0, 0), (0, 0), (0, 0), (0, 0), (0, 0), (0, 0), (0, 0), (0, 0), (1, 3), (0, 3), (0, 5), (1, 12), ((-1), 11)], [], [], 0, 0, 120, [(0, .inr (3, (0, 480))), (1, .inr (0, (8, 0))), (2, .inr (0, (9, 0))), (3, .inr (0, (10, 0))), (4, .inr (0, (11, 0))), (5, .inr (0, (12, 0)))], [])
noncomputable def rxIFW_6 (S0 : Nat → Int → Int) (ws : List Int) (S : Nat → Int → Int) (m row1 cue n k a : Int) : Prop := a = k ∧ k < n ∧ n = S 482 6 ∧ rxOrd S ∧ (∀ j : Int, 0 ≤ j → j < k → 0 ≤ S 519 j ∧ S 519 j ≤ 2) ∧ (0 ≤ k → -1 ≤ S 519 k ∧ S 519 k ≤ 2) ∧ (∀ j : Int, 0 ≤ j → j ≤ k → S 518 j ≤ m)
noncomputable def rxmFW_6 (S0 : Nat → Int → Int) (ws : List Int) (S : Nat → Int → Int) (m row1 cue n k a : Int) : Nat := 100 * (68719476736 - rxSP (S 519) k).toNat + 10 * (20 - k).toNat + 8
noncomputable def rxzFW_6 : rx_Z := ([(0, 0), (0, 0), (0, 0), (0, 0), (0, 0), (0, 0), (0, 0), (0, 0), (1, 3), (0, 3), (0, 5), (1, 12), (0, 11), (0, 11)], [], [], 0, 0, 128, [(0, .inr (3, (0, 480))), (1, .inr (0, (8, 0))), (2, .inr (0, (9, 0))), (3, .inr (0, (10, 0))), (4, .inr (0, (11, 0))), (5, .inr (0, (12, 0)))], [.inr (0, (13, 0)), .inr (3, (0, 480))])
noncomputable def rxIFW_7 (S0 : Nat → Int → Int) (ws : List Int) (S : Nat → Int → Int) (m row1 cue n k a : Int) : Prop := k < n ∧ n = S 482 6 ∧ rxOrd S ∧ (∀ j : Int, 0 ≤ j → j < k → 0 ≤ S 519 j ∧ S 519 j ≤ 2) ∧ (0 ≤ k → -1 ≤ S 519 k ∧ S 519 k ≤ 2) ∧ (∀ j : Int, 0 ≤ j → j ≤ k → S 518 j ≤ m)
noncomputable def rxmFW_7 (S0 : Nat → Int → Int) (ws : List Int) (S : Nat → Int → Int) (m row1 cue n k a : Int) : Nat := 100 * (68719476736 - rxSP (S 519) k).toNat + 10 * (20 - k).toNat + 7
noncomputable def rxzFW_7 : rx_Z := ([(0, 0), (0, 0), (0, 0), (0, 0), (0, 0), (0, 0), (0, 0), (0, 0), (1, 3), (0, 3), (0, 5), (1, 12), (0, 11), (0, 11)], [], [], 0, 0, 131, [(0, .inr (3, (0, 480))), (1, .inr (0, (8, 0))), (2, .inr (0, (9, 0))), (3, .inr (0, (10, 0))), (4, .inr (0, (11, 0))), (5, .inr (0, (12, 0)))], [])
noncomputable def rxIFW_8 (S0 : Nat → Int → Int) (ws : List Int) (S : Nat → Int → Int) (m row1 cue n k a b : Int) : Prop := a = k ∧ b = m ∧ k < n ∧ n = S 482 6 ∧ rxOrd S ∧ (∀ j : Int, 0 ≤ j → j < k → 0 ≤ S 519 j ∧ S 519 j ≤ 2) ∧ (0 ≤ k → -1 ≤ S 519 k ∧ S 519 k ≤ 2) ∧ (∀ j : Int, 0 ≤ j → j ≤ k → S 518 j ≤ m)
noncomputable def rxmFW_8 (S0 : Nat → Int → Int) (ws : List Int) (S : Nat → Int → Int) (m row1 cue n k a b : Int) : Nat := 100 * (68719476736 - rxSP (S 519) k).toNat + 10 * (20 - k).toNat + 6
noncomputable def rxzFW_8 : rx_Z := ([(0, 0), (0, 0), (0, 0), (0, 0), (0, 0), (0, 0), (0, 0), (0, 0), (1, 3), (0, 3), (0, 5), (1, 12), (0, 11), (0, 11), (1, 3)], [], [], 0, 0, 135, [(0, .inr (3, (0, 480))), (1, .inr (0, (8, 0))), (2, .inr (0, (9, 0))), (3, .inr (0, (10, 0))), (4, .inr (0, (11, 0))), (5, .inr (0, (12, 0)))], [.inr (0, (14, 0)), .inr (0, (13, 0)), .inr (3, (0, 480))])
noncomputable def rxIFW_9 (S0 : Nat → Int → Int) (ws : List Int) (S : Nat → Int → Int) (m row1 cue n k a b go : Int) : Prop := (go = 1 → 0 ≤ S 519 k ∧ S 519 k ≤ 2 ∧ S 518 (k + 1) ≤ m) ∧ k < n ∧ n = S 482 6 ∧ rxOrd S ∧ (∀ j : Int, 0 ≤ j → j < k → 0 ≤ S 519 j ∧ S 519 j ≤ 2) ∧ (∀ j : Int, 0 ≤ j → j ≤ k → S 518 j ≤ m)
noncomputable def rxmFW_9 (S0 : Nat → Int → Int) (ws : List Int) (S : Nat → Int → Int) (m row1 cue n k a b go : Int) : Nat := if go = 1 then 100 * (68719476736 - rxSQ (S 519) k).toNat + 10 * (20 - k).toNat + 5 else if k ≤ 0 then 6 else 100 * (68719476736 - rxSP (S 519) (k + (-1))).toNat + 10 * (21 - k).toNat + 10
noncomputable def rxzFW_9 : rx_Z := ([(0, 0), (0, 0), (0, 0), (0, 0), (0, 0), (0, 0), (0, 0), (0, 0), (1, 3), (0, 3), (0, 5), (1, 12), (0, 11), (0, 11), (1, 3), (0, 1)], [], [], 0, 0, 138, [(0, .inr (3, (0, 480))), (1, .inr (0, (8, 0))), (2, .inr (0, (9, 0))), (3, .inr (0, (10, 0))), (4, .inr (0, (11, 0))), (5, .inr (0, (12, 0)))], [.inr (0, (15, 0))])
noncomputable def rxIFW_10 (S0 : Nat → Int → Int) (ws : List Int) (S : Nat → Int → Int) (m row1 cue n k a b c : Int) : Prop := 0 ≤ S 519 k ∧ k < n ∧ n = S 482 6 ∧ rxOrd S ∧ (∀ j : Int, 0 ≤ j → j < k → 0 ≤ S 519 j ∧ S 519 j ≤ 2) ∧ (0 ≤ k → -1 ≤ S 519 k ∧ S 519 k ≤ 2) ∧ (∀ j : Int, 0 ≤ j → j ≤ k → S 518 j ≤ m)
noncomputable def rxmFW_10 (S0 : Nat → Int → Int) (ws : List Int) (S : Nat → Int → Int) (m row1 cue n k a b c : Int) : Nat := 100 * (68719476736 - rxSQ (S 519) k).toNat + 10 * (20 - k).toNat + 4
noncomputable def rxzFW_10 : rx_Z := ([(0, 0), (0, 0), (0, 0), (0, 0), (0, 0), (0, 0), (0, 0), (0, 0), (1, 3), (0, 3), (0, 5), (1, 12), (0, 11), (1, 3), (0, 3), (0, 5)], [], [], 0, 0, 154, [(0, .inr (3, (0, 480))), (1, .inr (0, (8, 0))), (2, .inr (0, (9, 0))), (3, .inr (0, (10, 0))), (4, .inr (0, (11, 0))), (5, .inr (0, (12, 0)))], [.inr (0, (15, 0)), .inr (0, (14, 0)), .inr (0, (13, 0)), .inr (3, (0, 480))])
noncomputable def rxIFW_11 (S0 : Nat → Int → Int) (ws : List Int) (S : Nat → Int → Int) (m row1 cue n k a b c : Int) : Prop := 0 ≤ S 519 k ∧ k < n ∧ n = S 482 6 ∧ rxOrd S ∧ (∀ j : Int, 0 ≤ j → j < k → 0 ≤ S 519 j ∧ S 519 j ≤ 2) ∧ (0 ≤ k → -1 ≤ S 519 k ∧ S 519 k ≤ 2) ∧ (∀ j : Int, 0 ≤ j → j ≤ k → S 518 j ≤ m)
noncomputable def rxmFW_11 (S0 : Nat → Int → Int) (ws : List Int) (S : Nat → Int → Int) (m row1 cue n k a b c : Int) : Nat := 100 * (68719476736 - rxSQ (S 519) k).toNat + 10 * (20 - k).toNat + 3
noncomputable def rxzFW_11 : rx_Z := ([(0, 0), (0, 0), (0, 0), (0, 0), (0, 0), (0, 0), (0, 0), (0, 0), (1, 3), (0, 3), (0, 5), (1, 12), (0, 11), (1, 3), (0, 3), (0, 5)], [], [], 0, 0, 157, [(0, .inr (3, (0, 480))), (1, .inr (0, (8, 0))), (2, .inr (0, (9, 0))), (3, .inr (0, (10, 0))), (4, .inr (0, (11, 0))), (5, .inr (0, (12, 0)))], [])
noncomputable def rxIFW_12 (S0 : Nat → Int → Int) (ws : List Int) (S : Nat → Int → Int) (m row1 cue n k : Int) : Prop := k + 1 < n ∧ 0 ≤ S 519 k ∧ S 518 (k + 1) ≤ m ∧ k < n ∧ n = S 482 6 ∧ rxOrd S ∧ (∀ j : Int, 0 ≤ j → j < k → 0 ≤ S 519 j ∧ S 519 j ≤ 2) ∧ (0 ≤ k → -1 ≤ S 519 k ∧ S 519 k ≤ 2) ∧ (∀ j : Int, 0 ≤ j → j ≤ k → S 518 j ≤ m)
noncomputable def rxmFW_12 (S0 : Nat → Int → Int) (ws : List Int) (S : Nat → Int → Int) (m row1 cue n k : Int) : Nat := 100 * (68719476736 - rxSQ (S 519) k).toNat + 10 * (20 - k).toNat + 4
noncomputable def rxzFW_12 : rx_Z := ([(0, 0), (0, 0), (0, 0), (0, 0), (0, 0), (0, 0), (0, 0), (0, 0), (1, 3), (0, 3), (0, 5), (1, 12), (0, 10)], [], [], 0, 0, 160, [(0, .inr (3, (0, 480))), (1, .inr (0, (8, 0))), (2, .inr (0, (9, 0))), (3, .inr (0, (10, 0))), (4, .inr (0, (11, 0))), (5, .inr (0, (12, 0)))], [])
noncomputable def rxoFW_0_0 : bx_HO := (([(0, 0), (0, 0), (0, 0), (0, 0), (0, 0), (0, 0), (0, 0), (0, 0), (1, 3), (0, 3), (0, 5), (0, 12)], [], [(((0, 0), 1851192626986356811473809805451311897278520526794510926604140547000000), .inr (0, (0, 0))), (((0, 480), 70), .inr (0, (0, 0))), (((0, 0), 1851192626986356811273103098664536289004699062340675673050316803000000), .inr (0, (0, 0))), (((0, 480), 69), .inr (0, (0, 0))), (((0, 0), 1851192626986356798628580571097672967753946801749054699160600576000000), .inr (0, (11, 0))), (((0, 482), 6), .inr (0, (11, 0))), (((0, 480), 3), .inr (3, (0, 482)))], 0, 0, 22, [(5, .inr (0, (0, 0))), (4, .inr (0, (11, 0))), (0, .inr (3, (0, 480))), (1, .inr (0, (8, 0))), (2, .inr (0, (9, 0))), (3, .inr (0, (10, 0)))], []), [], [], [(0, 0), (0, 0), (0, 0), (0, 0), (0, 0), (0, 0), (0, 0), (0, 0), (8, 0), (9, 0), (10, 0), (11, 0), (0, 0)], 1)
noncomputable def rxoFW_1_0 : bx_HO := (([(0, 0), (0, 0), (0, 0), (0, 0), (0, 0), (0, 0), (0, 0), (0, 0), (1, 3), (0, 3), (0, 5), (0, 12), (0, 17)], [], [(((0, 0), 1851192626986356797424377080872646779465072059483645808823959555000000), .inr (0, (0, (-1)))), (((0, 480), 64), .inr (3, (0, 515))), (((0, 0), 1851192626986356797424377080872646779465072059483645808823369731000000), .inr (0, (0, (-1)))), (((0, 480), 63), .inr (3, (0, 514)))], 0, 0, 22, [(5, .inr (0, (12, 1))), (0, .inr (3, (0, 480))), (1, .inr (0, (8, 0))), (2, .inr (0, (9, 0))), (3, .inr (0, (10, 0))), (4, .inr (0, (11, 0)))], []), [], [], [(0, 0), (0, 0), (0, 0), (0, 0), (0, 0), (0, 0), (0, 0), (0, 0), (8, 0), (9, 0), (10, 0), (11, 0), (12, 1)], 1)
noncomputable def rxoFW_1_1 : bx_HO := (([(0, 0), (0, 0), (0, 0), (0, 0), (0, 0), (0, 0), (0, 0), (0, 0), (1, 3), (0, 3), (0, 5), (0, 12), (18, 18)], [], [], 0, 0, 54, [(5, .inr (0, (0, 0))), (0, .inr (3, (0, 480))), (1, .inr (0, (8, 0))), (2, .inr (0, (9, 0))), (3, .inr (0, (10, 0))), (4, .inr (0, (11, 0)))], []), [], [], [(0, 0), (0, 0), (0, 0), (0, 0), (0, 0), (0, 0), (0, 0), (0, 0), (8, 0), (9, 0), (10, 0), (11, 0), (0, 0)], 2)
noncomputable def rxoFW_2_0 : bx_HO := (([(0, 0), (0, 0), (0, 0), (0, 0), (0, 0), (0, 0), (0, 0), (0, 0), (1, 3), (0, 3), (0, 5), (0, 12), (0, 11)], [], [(((0, 0), 1851192626986356797424377080872646779465072059483645808825139203000000), .inr (0, (0, 0))), (((0, 480), 66), .inr (3, (0, 517))), (((0, 0), 1851192626986356797424377080872646779465072059483645808824549379000000), .inr (0, (0, 0))), (((0, 480), 65), .inr (3, (0, 516)))], 0, 0, 54, [(5, .inr (0, (12, 1))), (0, .inr (3, (0, 480))), (1, .inr (0, (8, 0))), (2, .inr (0, (9, 0))), (3, .inr (0, (10, 0))), (4, .inr (0, (11, 0)))], []), [], [], [(0, 0), (0, 0), (0, 0), (0, 0), (0, 0), (0, 0), (0, 0), (0, 0), (8, 0), (9, 0), (10, 0), (11, 0), (12, 1)], 2)
noncomputable def rxoFW_2_1 : bx_HO := (([(0, 0), (0, 0), (0, 0), (0, 0), (0, 0), (0, 0), (0, 0), (0, 0), (1, 3), (0, 3), (0, 5), (0, 0), (12, 12)], [], [(((0, 0), 1851192626986356797424340330377019318111018015026043177858891779000000), .inr (0, (0, 1))), (((0, 518), 0), .inr (0, (0, 1))), (((0, 480), 67), .inr (3, (0, 518))), (((0, 0), 1851192626986356797424340330377019318111018015026043177855942659000000), .inr (0, (0, 0))), (((0, 513), 0), .inr (0, (0, 0))), (((0, 480), 62), .inr (3, (0, 513)))], 0, 0, 106, [(0, .inr (3, (0, 480))), (1, .inr (0, (8, 0))), (2, .inr (0, (9, 0))), (3, .inr (0, (10, 0))), (4, .inr (0, (11, 0))), (5, .inr (0, (12, 0)))], [.inr (0, (10, 0)), .inr (0, (9, 0)), .inr (0, (8, 0)), .inr (3, (0, 480))]), [], [], [(0, 0), (0, 0), (0, 0), (0, 0), (0, 0), (0, 0), (0, 0), (0, 0), (8, 0), (9, 0), (10, 0), (11, 0), (8, 0), (9, 0), (10, 0)], 3)
noncomputable def rxoFW_2_2 : bx_HO := (([(0, 0), (0, 0), (0, 0), (0, 0), (0, 0), (0, 0), (0, 0), (0, 0), (1, 3), (0, 3), (0, 5), (1, 12), (12, 12)], [(3, (11, 0), (0, 0))], [(((0, 0), 1851192626986356797424340330377019318111018015026043177859481603000000), .inr (0, (0, (-1)))), (((0, 519), 0), .inr (0, (0, (-1)))), (((0, 480), 68), .inr (3, (0, 519))), (((0, 0), 1851192626986356797424340330377019318111018015026043177858891779000000), .inr (0, (0, 1))), (((0, 518), 0), .inr (0, (0, 1))), (((0, 480), 67), .inr (3, (0, 518))), (((0, 0), 1851192626986356797424340330377019318111018015026043177855942659000000), .inr (0, (0, 0))), (((0, 513), 0), .inr (0, (0, 0))), (((0, 480), 62), .inr (3, (0, 513)))], 0, 0, 120, [(5, .inr (0, (0, 0))), (0, .inr (3, (0, 480))), (1, .inr (0, (8, 0))), (2, .inr (0, (9, 0))), (3, .inr (0, (10, 0))), (4, .inr (0, (11, 0)))], []), [], [], [(0, 0), (0, 0), (0, 0), (0, 0), (0, 0), (0, 0), (0, 0), (0, 0), (8, 0), (9, 0), (10, 0), (11, 0), (0, 0)], 5)
noncomputable def rxeFW_4_0 : rx_End × List (Nat × Int × Int) := (([(0, 0), (0, 0), (0, 0), (0, 0), (0, 0), (0, 0), (0, 0), (0, 0), (1, 3), (0, 3), (0, 5), (0, 0), (1, 3), (0, 3), (0, 5)], [], [], none), [])
noncomputable def rxoFW_5_0 : bx_HO := (([(0, 0), (0, 0), (0, 0), (0, 0), (0, 0), (0, 0), (0, 0), (0, 0), (1, 3), (0, 3), (0, 5), (1, 12), (0, 11)], [], [], 0, 0, 128, [(0, .inr (3, (0, 480))), (1, .inr (0, (8, 0))), (2, .inr (0, (9, 0))), (3, .inr (0, (10, 0))), (4, .inr (0, (11, 0))), (5, .inr (0, (12, 0)))], [.inr (0, (12, 0)), .inr (3, (0, 480))]), [], [], [(0, 0), (0, 0), (0, 0), (0, 0), (0, 0), (0, 0), (0, 0), (0, 0), (8, 0), (9, 0), (10, 0), (11, 0), (12, 0), (12, 0)], 6)
noncomputable def rxeFW_5_0 : rx_End × List (Nat × Int × Int) := (([(0, 0), (0, 0), (0, 0), (0, 0), (0, 0), (0, 0), (0, 0), (0, 0), (1, 3), (0, 3), (0, 5), (1, 12), ((-1), (-1))], [], [], none), [])
noncomputable def rxoFW_7_0 : bx_HO := (([(0, 0), (0, 0), (0, 0), (0, 0), (0, 0), (0, 0), (0, 0), (0, 0), (1, 3), (0, 3), (0, 5), (1, 12), (0, 11), (0, 11)], [], [], 0, 0, 135, [(0, .inr (3, (0, 480))), (1, .inr (0, (8, 0))), (2, .inr (0, (9, 0))), (3, .inr (0, (10, 0))), (4, .inr (0, (11, 0))), (5, .inr (0, (12, 0)))], [.inr (0, (8, 0)), .inr (0, (12, 0)), .inr (3, (0, 480))]), [], [], [(0, 0), (0, 0), (0, 0), (0, 0), (0, 0), (0, 0), (0, 0), (0, 0), (8, 0), (9, 0), (10, 0), (11, 0), (12, 0), (12, 0), (8, 0)], 8)
noncomputable def rxoFW_9_0 : bx_HO := (([(0, 0), (0, 0), (0, 0), (0, 0), (0, 0), (0, 0), (0, 0), (0, 0), (1, 3), (0, 3), (0, 5), (1, 12), (0, 11), (0, 11), (1, 3), (1, 1)], [(2, (12, 0), (11, (-1))), (3, (15, 0), (0, 0))], [], 0, 0, 154, [(0, .inr (3, (0, 480))), (1, .inr (0, (8, 0))), (2, .inr (0, (9, 0))), (3, .inr (0, (10, 0))), (4, .inr (0, (11, 0))), (5, .inr (0, (12, 0)))], [.inr (0, (10, 0)), .inr (0, (9, 0)), .inr (0, (8, 0)), .inr (3, (0, 480))]), [], [], [(0, 0), (0, 0), (0, 0), (0, 0), (0, 0), (0, 0), (0, 0), (0, 0), (8, 0), (9, 0), (10, 0), (11, 0), (12, 0), (8, 0), (9, 0), (10, 0)], 10)
noncomputable def rxoFW_9_1 : bx_HO := (([(0, 0), (0, 0), (0, 0), (0, 0), (0, 0), (0, 0), (0, 0), (0, 0), (1, 3), (0, 3), (0, 5), (1, 12), (0, 11), (0, 11), (1, 3), (1, 1)], [(3, (12, 0), (11, (-1))), (3, (15, 0), (0, 0))], [], 0, 0, 160, [(0, .inr (3, (0, 480))), (1, .inr (0, (8, 0))), (2, .inr (0, (9, 0))), (3, .inr (0, (10, 0))), (4, .inr (0, (11, 0))), (5, .inr (0, (12, 0)))], []), [(12, 0, 10)], [], [(0, 0), (0, 0), (0, 0), (0, 0), (0, 0), (0, 0), (0, 0), (0, 0), (8, 0), (9, 0), (10, 0), (11, 0), (12, 0)], 12)
noncomputable def rxoFW_9_2 : bx_HO := (([(0, 0), (0, 0), (0, 0), (0, 0), (0, 0), (0, 0), (0, 0), (0, 0), (1, 3), (0, 3), (0, 5), (1, 12), (0, 11), (0, 11), (1, 3), (0, 0)], [], [], 0, 0, 120, [(5, .inr (0, (12, (-1)))), (0, .inr (3, (0, 480))), (1, .inr (0, (8, 0))), (2, .inr (0, (9, 0))), (3, .inr (0, (10, 0))), (4, .inr (0, (11, 0)))], []), [], [], [(0, 0), (0, 0), (0, 0), (0, 0), (0, 0), (0, 0), (0, 0), (0, 0), (8, 0), (9, 0), (10, 0), (11, 0), (12, (-1))], 5)
noncomputable def rxoFW_11_0 : bx_HO := (([(0, 0), (0, 0), (0, 0), (0, 0), (0, 0), (0, 0), (0, 0), (0, 0), (1, 3), (0, 3), (0, 5), (1, 12), (0, 11), (1, 3), (0, 3), (0, 5)], [], [], 0, 0, 120, [(0, .inr (3, (0, 480))), (1, .inr (0, (8, 0))), (2, .inr (0, (9, 0))), (3, .inr (0, (10, 0))), (4, .inr (0, (11, 0))), (5, .inr (0, (12, 0)))], []), [], [], [(0, 0), (0, 0), (0, 0), (0, 0), (0, 0), (0, 0), (0, 0), (0, 0), (8, 0), (9, 0), (10, 0), (11, 0), (12, 0)], 5)
noncomputable def rxoFW_12_0 : bx_HO := (([(0, 0), (0, 0), (0, 0), (0, 0), (0, 0), (0, 0), (0, 0), (0, 0), (1, 3), (0, 3), (0, 5), (1, 12), (0, 10)], [], [(((0, 0), 1851192626986356797625083787659422387738893523937481062380142595000000), .inr (0, (0, (-1)))), (((0, 480), 68), .inr (3, (0, 519)))], 0, 0, 120, [(5, .inr (0, (12, 1))), (0, .inr (3, (0, 480))), (1, .inr (0, (8, 0))), (2, .inr (0, (9, 0))), (3, .inr (0, (10, 0))), (4, .inr (0, (11, 0)))], []), [], [], [(0, 0), (0, 0), (0, 0), (0, 0), (0, 0), (0, 0), (0, 0), (0, 0), (8, 0), (9, 0), (10, 0), (11, 0), (12, 1)], 5)
noncomputable def rxYFW : List bx_HE := [(rxzFW_0, [rxoFW_0_0], []), (rxzFW_1, [rxoFW_1_0, rxoFW_1_1], []), (rxzFW_2, [rxoFW_2_0, rxoFW_2_1, rxoFW_2_2], []), (rxzFW_3, [], []), (rxzFW_4, [], [rxeFW_4_0]), (rxzFW_5, [rxoFW_5_0], [rxeFW_5_0]), (rxzFW_6, [], []), (rxzFW_7, [rxoFW_7_0], []), (rxzFW_8, [], []), (rxzFW_9, [rxoFW_9_0, rxoFW_9_1, rxoFW_9_2], []), (rxzFW_10, [], []), (rxzFW_11, [rxoFW_11_0], []), (rxzFW_12, [rxoFW_12_0], [])]
noncomputable def rxUFW (q : bx_HE) : Bool := Nat.beq (rx_zpc q.1) 106 || Nat.beq (rx_zpc q.1) 128 || Nat.beq (rx_zpc q.1) 135 || Nat.beq (rx_zpc q.1) 154
noncomputable def rxYBFW : bx_B := (rxV, rxNP, rxDmf, bx_mdH rxCFW.2.2.1)
set_option maxRecDepth 100000 in
theorem rxYcFW : bx_chkH rxYBFW rxM323 rxCFW rxYFW (rxUFW, fun cut z => rx_ex2 (rxCT rxYBFW rxCnE) cut 30000 rxCFW.2.2.2.1 323 z) = true := by decide +kernel
noncomputable def rxIFW (S0 : Nat → Int → Int) (ws : List Int) (i : Nat) : bx_SP := fun S r => match i with | 0 => rxIFW_0 S0 ws S (r 8) (r 9) (r 10) | 1 => rxIFW_1 S0 ws S (r 8) (r 9) (r 10) (r 11) (r 12) | 2 => rxIFW_2 S0 ws S (r 8) (r 9) (r 10) (r 11) (r 12) | 3 => rxIFW_3 S0 ws S (r 8) (r 9) (r 10) (r 11) (r 12) (r 13) (r 14) | 4 => rxIFW_4 S0 ws S (r 8) (r 9) (r 10) (r 11) (r 12) (r 13) (r 14) | 5 => rxIFW_5 S0 ws S (r 8) (r 9) (r 10) (r 11) (r 12) | 6 => rxIFW_6 S0 ws S (r 8) (r 9) (r 10) (r 11) (r 12) (r 13) | 7 => rxIFW_7 S0 ws S (r 8) (r 9) (r 10) (r 11) (r 12) (r 13) | 8 => rxIFW_8 S0 ws S (r 8) (r 9) (r 10) (r 11) (r 12) (r 13) (r 14) | 9 => rxIFW_9 S0 ws S (r 8) (r 9) (r 10) (r 11) (r 12) (r 13) (r 14) (r 15) | 10 => rxIFW_10 S0 ws S (r 8) (r 9) (r 10) (r 11) (r 12) (r 13) (r 14) (r 15) | 11 => rxIFW_11 S0 ws S (r 8) (r 9) (r 10) (r 11) (r 12) (r 13) (r 14) (r 15) | 12 => rxIFW_12 S0 ws S (r 8) (r 9) (r 10) (r 11) (r 12) | _ => False
noncomputable def rxmFW (S0 : Nat → Int → Int) (ws : List Int) (i : Nat) (S : Nat → Int → Int) (r : Nat → Int) : Nat := match i with | 0 => rxmFW_0 S0 ws S (r 8) (r 9) (r 10) | 1 => rxmFW_1 S0 ws S (r 8) (r 9) (r 10) (r 11) (r 12) | 2 => rxmFW_2 S0 ws S (r 8) (r 9) (r 10) (r 11) (r 12) | 3 => rxmFW_3 S0 ws S (r 8) (r 9) (r 10) (r 11) (r 12) (r 13) (r 14) | 4 => rxmFW_4 S0 ws S (r 8) (r 9) (r 10) (r 11) (r 12) (r 13) (r 14) | 5 => rxmFW_5 S0 ws S (r 8) (r 9) (r 10) (r 11) (r 12) | 6 => rxmFW_6 S0 ws S (r 8) (r 9) (r 10) (r 11) (r 12) (r 13) | 7 => rxmFW_7 S0 ws S (r 8) (r 9) (r 10) (r 11) (r 12) (r 13) | 8 => rxmFW_8 S0 ws S (r 8) (r 9) (r 10) (r 11) (r 12) (r 13) (r 14) | 9 => rxmFW_9 S0 ws S (r 8) (r 9) (r 10) (r 11) (r 12) (r 13) (r 14) (r 15) | 10 => rxmFW_10 S0 ws S (r 8) (r 9) (r 10) (r 11) (r 12) (r 13) (r 14) (r 15) | 11 => rxmFW_11 S0 ws S (r 8) (r 9) (r 10) (r 11) (r 12) (r 13) (r 14) (r 15) | 12 => rxmFW_12 S0 ws S (r 8) (r 9) (r 10) (r 11) (r 12) | _ => 0
noncomputable def rxPFW (S0 : Nat → Int → Int) (ws : List Int) : Prop := rxOrd S0
noncomputable def rxPSFW (S0 : Nat → Int → Int) (ws : List Int) (S : Nat → Int → Int) (w : Option Int) : Prop := w = none ∧ rxOrd S
theorem rxkFW_3 {S0 : Nat → Int → Int} {ws : List Int} {S : Nat → Int → Int} {m row1 cue n a b c : Int} (hP : rxPFW S0 ws) (hin : bx_same rxL (bx_mdl rxCFW.2.2.1) S0 S) (I0 : bx_Inv rxL S) (hinv : rxIFW_3 S0 ws S m row1 cue n a b c) (l8 : 1 ≤ m) (u8 : m ≤ 3) (l9 : 0 ≤ row1) (u9 : row1 ≤ 3) (l10 : 0 ≤ cue) (u10 : cue ≤ 5) (l11 : 0 ≤ n) (u11 : n ≤ 0) (l12 : 1 ≤ a) (u12 : a ≤ 3) (l13 : 0 ≤ b) (u13 : b ≤ 3) (l14 : 0 ≤ c) (u14 : c ≤ 5) : rxPME S [480, a, b, c] ∧ ∀ (S_p : Nat → Int → Int), rxPSME S [480, a, b, c] S_p none → bx_Inv rxL S_p → bx_same rxL (bx_mdl rxCME.2.2.1) S S_p → rxIFW_4 S0 ws S_p m row1 cue n a b c ∧ rxmFW_4 S0 ws S_p m row1 cue n a b c < rxmFW_3 S0 ws S m row1 cue n a b c := by
  refine ⟨hinv, fun S_p hq I1 hsm => ⟨?_, by unfold rxmFW_3 rxmFW_4; omega⟩⟩
  have n6 := rxN6 I0
  exact rxOrd_cg hinv (rx_sameR hsm (tc := 0) (n := 6180) (g := 63) rfl (by omega) (by decide +kernel) (by decide +kernel) (by omega) (by omega)) n6.2 (fun j x y => rx_sameR hsm (tc := 0) (n := 12) (g := 93) rfl (by omega) (by decide +kernel) (by decide +kernel) x (by omega))
theorem rxsFW_3 {X : (Nat → Int → Int) → Prop} {S0 : Nat → Int → Int} {ws : List Int} (hP : rxPFW S0 ws) : rx_obK X S0 rxCFW.2.2.1 rxCME.2.2.1 (rxIFW S0 ws) (rxmFW S0 ws) 3 4 rxzFW_3 rxzFW_4 [.inr (3, (0, 480)), .inr (0, (12, 0)), .inr (0, (13, 0)), .inr (0, (14, 0))] none rxPME rxPSME := by
  intro S r hinv hXS I0 hin hs_ hf_
  have b_ := bx_bds_sat hs_
  have f_ := bx_fcl_ok hs_.1 hf_
  obtain ⟨⟨l8, u8⟩, ⟨l9, u9⟩, ⟨l10, u10⟩, ⟨l11, u11⟩, ⟨l12, u12⟩, ⟨l13, u13⟩, ⟨l14, u14⟩, -⟩ := b_
  have g := rxkFW_3 hP hin I0 hinv l8 u8 l9 u9 l10 u10 l11 u11 l12 u12 l13 u13 l14 u14
  have ea : List.map (bx_num r) [.inr (3, (0, 480)), .inr (0, (12, 0)), .inr (0, (13, 0)), .inr (0, (14, 0))] = [480, (r 12), (r 13), (r 14)] := by
    simp only [List.map_cons, List.map_nil, bx_xv_ok hs_.1]
    rfl
  rw [ea]
  refine ⟨g.1, fun S_p w r_p hPS hX_p I1 hsm hr hw hs_p => ?_⟩
  have hw : w = none := hPS.1
  subst hw
  have g2 := g.2 S_p hPS I1 hsm
  show rxIFW_4 S0 ws S_p (r_p 8) (r_p 9) (r_p 10) (r_p 11) (r_p 12) (r_p 13) (r_p 14) ∧ rxmFW_4 S0 ws S_p (r_p 8) (r_p 9) (r_p 10) (r_p 11) (r_p 12) (r_p 13) (r_p 14) < _
  rw [hr 8 (by decide), hr 9 (by decide), hr 10 (by decide), hr 11 (by decide), hr 12 (by decide), hr 13 (by decide), hr 14 (by decide)]
  exact g2
theorem rxkFW_6 {S0 : Nat → Int → Int} {ws : List Int} {S : Nat → Int → Int} {m row1 cue n k a : Int} (hP : rxPFW S0 ws) (hin : bx_same rxL (bx_mdl rxCFW.2.2.1) S0 S) (I0 : bx_Inv rxL S) (hinv : rxIFW_6 S0 ws S m row1 cue n k a) (l8 : 1 ≤ m) (u8 : m ≤ 3) (l9 : 0 ≤ row1) (u9 : row1 ≤ 3) (l10 : 0 ≤ cue) (u10 : cue ≤ 5) (l11 : 1 ≤ n) (u11 : n ≤ 12) (l12 : 0 ≤ k) (u12 : k ≤ 11) (l13 : 0 ≤ a) (u13 : a ≤ 11) : rxPTB S [480, a] ∧ ∀ (S_p : Nat → Int → Int), rxPSTB S [480, a] S_p none → bx_Inv rxL S_p → bx_same rxL (bx_mdl rxCTB.2.2.1) S S_p → rxIFW_7 S0 ws S_p m row1 cue n k a ∧ rxmFW_7 S0 ws S_p m row1 cue n k a < rxmFW_6 S0 ws S m row1 cue n k a := by
  obtain ⟨rfl, h1, h2, h3, h4, h5, h6⟩ := hinv
  refine ⟨⟨a, rfl, h3 a (by omega) (by omega)⟩, fun S_p hq I1 hsm => ?_⟩
  have n6 := rxN6 I0
  have q519 : ∀ j : Int, 0 ≤ j → j < 12 → S_p 519 j = S 519 j := fun j x y => rx_sameR hsm (tc := 0) (n := 12) (g := 100) rfl (by omega) (by decide +kernel) (by decide +kernel) x (by omega)
  have q518 : ∀ j : Int, 0 ≤ j → j < 13 → S_p 518 j = S 518 j := fun j x y => rx_sameR hsm (tc := 0) (n := 13) (g := 99) rfl (by omega) (by decide +kernel) (by decide +kernel) x (by omega)
  have q512 : ∀ j : Int, 0 ≤ j → j < 12 → S_p 512 j = S 512 j := fun j x y => rx_sameR hsm (tc := 0) (n := 12) (g := 93) rfl (by omega) (by decide +kernel) (by decide +kernel) x (by omega)
  have q6 : S_p 482 6 = S 482 6 := rx_sameR hsm (tc := 0) (n := 6180) (g := 63) rfl (by omega) (by decide +kernel) (by decide +kernel) (by omega) (by omega)
  have e := rxSP_cg (f := S 519) (g := S_p 519) (k := a) (fun j x y => q519 j x (by omega)) (by omega)
  refine ⟨⟨h1, by rw [q6]; exact h2, rxOrd_cg h3 q6 n6.2 q512, fun j x y => by rw [q519 j x (by omega)]; exact h4 j x y, fun x => by rw [q519 a x (by omega)]; exact h5 x, fun j x y => by rw [q518 j x (by omega)]; exact h6 j x y⟩, ?_⟩
  unfold rxmFW_6 rxmFW_7
  rw [e]
  omega
theorem rxsFW_6 {X : (Nat → Int → Int) → Prop} {S0 : Nat → Int → Int} {ws : List Int} (hP : rxPFW S0 ws) : rx_obK X S0 rxCFW.2.2.1 rxCTB.2.2.1 (rxIFW S0 ws) (rxmFW S0 ws) 6 7 rxzFW_6 rxzFW_7 [.inr (3, (0, 480)), .inr (0, (13, 0))] none rxPTB rxPSTB := by
  intro S r hinv hXS I0 hin hs_ hf_
  have b_ := bx_bds_sat hs_
  have f_ := bx_fcl_ok hs_.1 hf_
  obtain ⟨⟨l8, u8⟩, ⟨l9, u9⟩, ⟨l10, u10⟩, ⟨l11, u11⟩, ⟨l12, u12⟩, ⟨l13, u13⟩, -⟩ := b_
  have g := rxkFW_6 hP hin I0 hinv l8 u8 l9 u9 l10 u10 l11 u11 l12 u12 l13 u13
  have ea : List.map (bx_num r) [.inr (3, (0, 480)), .inr (0, (13, 0))] = [480, (r 13)] := by
    simp only [List.map_cons, List.map_nil, bx_xv_ok hs_.1]
    rfl
  rw [ea]
  refine ⟨g.1, fun S_p w r_p hPS hX_p I1 hsm hr hw hs_p => ?_⟩
  have hw : w = none := hPS.1
  subst hw
  have g2 := g.2 S_p hPS I1 hsm
  show rxIFW_7 S0 ws S_p (r_p 8) (r_p 9) (r_p 10) (r_p 11) (r_p 12) (r_p 13) ∧ rxmFW_7 S0 ws S_p (r_p 8) (r_p 9) (r_p 10) (r_p 11) (r_p 12) (r_p 13) < _
  rw [hr 8 (by decide), hr 9 (by decide), hr 10 (by decide), hr 11 (by decide), hr 12 (by decide), hr 13 (by decide)]
  exact g2
theorem rxkFW_8 {S0 : Nat → Int → Int} {ws : List Int} {S : Nat → Int → Int} {m row1 cue n k a b : Int} (hP : rxPFW S0 ws) (hin : bx_same rxL (bx_mdl rxCFW.2.2.1) S0 S) (I0 : bx_Inv rxL S) (hinv : rxIFW_8 S0 ws S m row1 cue n k a b) (l8 : 1 ≤ m) (u8 : m ≤ 3) (l9 : 0 ≤ row1) (u9 : row1 ≤ 3) (l10 : 0 ≤ cue) (u10 : cue ≤ 5) (l11 : 1 ≤ n) (u11 : n ≤ 12) (l12 : 0 ≤ k) (u12 : k ≤ 11) (l13 : 0 ≤ a) (u13 : a ≤ 11) (l14 : 1 ≤ b) (u14 : b ≤ 3) : rxPGO S [480, a, b] ∧ ∀ (S_p : Nat → Int → Int) (go : Int), 0 ≤ go → go ≤ 1 → rxPSGO S [480, a, b] S_p (some go) → bx_Inv rxL S_p → bx_same rxL (bx_mdl rxCGO.2.2.1) S S_p → rxIFW_9 S0 ws S_p m row1 cue n k a b go ∧ rxmFW_9 S0 ws S_p m row1 cue n k a b go < rxmFW_8 S0 ws S m row1 cue n k a b := by
  obtain ⟨rfl, hb, h1, h2, h3, h4, h5, h6⟩ := hinv
  have h5a := h5 (by omega)
  refine ⟨⟨a, b, rfl, by omega, h3 a (by omega) (by omega), h5a.1, by omega, by rw [hb]; exact h6 a (by omega) (by omega)⟩, fun S_p go g0 g1 hq I1 hsm => ?_⟩
  obtain ⟨k_p, m_p, hw, r1, r2, r3⟩ := hq
  have hke : a = k_p := Option.some.inj (congrArg (fun l => l[1]?) hw)
  have hme : b = m_p := Option.some.inj (congrArg (fun l => l[2]?) hw)
  subst hke
  subst hme
  have n6 := rxN6 I0
  have q512 : ∀ j : Int, 0 ≤ j → j < 12 → S_p 512 j = S 512 j := fun j x y => rx_sameR hsm (tc := 0) (n := 12) (g := 93) rfl (by omega) (by decide +kernel) (by decide +kernel) x (by omega)
  have q6 : S_p 482 6 = S 482 6 := rx_sameR hsm (tc := 0) (n := 6180) (g := 63) rfl (by omega) (by decide +kernel) (by decide +kernel) (by omega) (by omega)
  have ho := rxOrd_cg h3 q6 n6.2 q512
  refine ⟨⟨fun q => ?_, h1, by rw [q6]; exact h2, ho, fun j x y => by rw [r1 j (by omega)]; exact h4 j x y, fun j x y => by rw [r2 j (by omega)]; exact h6 j x y⟩, ?_⟩
  · obtain ⟨s1, s2, s3⟩ := r3 (by rw [q])
    exact ⟨by omega, s2, by rw [← hb]; exact s3⟩
  · unfold rxmFW_8 rxmFW_9
    have hh := rxSP_hi (f := S 519) (k := a) (by omega) (by omega) (fun j x y => by have := h4 j x y; omega) (by omega)
    by_cases hg : go = 1
    · rw [if_pos hg]
      obtain ⟨s1, s2, s3⟩ := r3 (by rw [hg])
      have e := rxSQ_inc (f := S 519) (g := S_p 519) (k := a) (fun j x y => r1 j (by omega)) s1
      rw [e]
      omega
    · rw [if_neg hg]
      by_cases hk : a ≤ 0
      · rw [if_pos hk]
        omega
      · rw [if_neg hk]
        have p1 := rxSP_pop (f := S 519) (g := S_p 519) (k := a) (by omega) (by omega) (fun j x y => r1 j (by omega)) (by omega)
        have p2 := rxSP_hi (f := S_p 519) (k := a + (-1)) (by omega) (by omega) (fun j x y => by rw [r1 j (by omega)]; have := h4 j x (by omega); omega) (by rw [r1 _ (by omega)]; have := h4 (a + (-1)) (by omega) (by omega); omega)
        omega
theorem rxsFW_8 {X : (Nat → Int → Int) → Prop} {S0 : Nat → Int → Int} {ws : List Int} (hP : rxPFW S0 ws) : rx_obK X S0 rxCFW.2.2.1 rxCGO.2.2.1 (rxIFW S0 ws) (rxmFW S0 ws) 8 9 rxzFW_8 rxzFW_9 [.inr (3, (0, 480)), .inr (0, (13, 0)), .inr (0, (14, 0))] (some 15) rxPGO rxPSGO := by
  intro S r hinv hXS I0 hin hs_ hf_
  have b_ := bx_bds_sat hs_
  have f_ := bx_fcl_ok hs_.1 hf_
  obtain ⟨⟨l8, u8⟩, ⟨l9, u9⟩, ⟨l10, u10⟩, ⟨l11, u11⟩, ⟨l12, u12⟩, ⟨l13, u13⟩, ⟨l14, u14⟩, -⟩ := b_
  have g := rxkFW_8 hP hin I0 hinv l8 u8 l9 u9 l10 u10 l11 u11 l12 u12 l13 u13 l14 u14
  have ea : List.map (bx_num r) [.inr (3, (0, 480)), .inr (0, (13, 0)), .inr (0, (14, 0))] = [480, (r 13), (r 14)] := by
    simp only [List.map_cons, List.map_nil, bx_xv_ok hs_.1]
    rfl
  rw [ea]
  refine ⟨g.1, fun S_p w r_p hPS hX_p I1 hsm hr hw hs_p => ?_⟩
  have hw := hw _ rfl
  subst hw
  have b_p := hs_p.2.2 15 _ _ rfl
  have g2 := g.2 S_p (r_p 15) b_p.1 b_p.2 hPS I1 hsm
  show rxIFW_9 S0 ws S_p (r_p 8) (r_p 9) (r_p 10) (r_p 11) (r_p 12) (r_p 13) (r_p 14) (r_p 15) ∧ rxmFW_9 S0 ws S_p (r_p 8) (r_p 9) (r_p 10) (r_p 11) (r_p 12) (r_p 13) (r_p 14) (r_p 15) < _
  rw [hr 8 (by decide), hr 9 (by decide), hr 10 (by decide), hr 11 (by decide), hr 12 (by decide), hr 13 (by decide), hr 14 (by decide)]
  exact g2
theorem rxkFW_10 {S0 : Nat → Int → Int} {ws : List Int} {S : Nat → Int → Int} {m row1 cue n k a b c : Int} (hP : rxPFW S0 ws) (hin : bx_same rxL (bx_mdl rxCFW.2.2.1) S0 S) (I0 : bx_Inv rxL S) (hinv : rxIFW_10 S0 ws S m row1 cue n k a b c) (l8 : 1 ≤ m) (u8 : m ≤ 3) (l9 : 0 ≤ row1) (u9 : row1 ≤ 3) (l10 : 0 ≤ cue) (u10 : cue ≤ 5) (l11 : 1 ≤ n) (u11 : n ≤ 12) (l12 : 0 ≤ k) (u12 : k ≤ 11) (l13 : 1 ≤ a) (u13 : a ≤ 3) (l14 : 0 ≤ b) (u14 : b ≤ 3) (l15 : 0 ≤ c) (u15 : c ≤ 5) : rxPME S [480, a, b, c] ∧ ∀ (S_p : Nat → Int → Int), rxPSME S [480, a, b, c] S_p none → bx_Inv rxL S_p → bx_same rxL (bx_mdl rxCME.2.2.1) S S_p → rxIFW_11 S0 ws S_p m row1 cue n k a b c ∧ rxmFW_11 S0 ws S_p m row1 cue n k a b c < rxmFW_10 S0 ws S m row1 cue n k a b c := by
  obtain ⟨h0, h1, h2, h3, h4, h5, h6⟩ := hinv
  refine ⟨h3, fun S_p hq I1 hsm => ?_⟩
  have n6 := rxN6 I0
  have q519 : ∀ j : Int, 0 ≤ j → j < 12 → S_p 519 j = S 519 j := fun j x y => rx_sameR hsm (tc := 0) (n := 12) (g := 100) rfl (by omega) (by decide +kernel) (by decide +kernel) x (by omega)
  have q518 : ∀ j : Int, 0 ≤ j → j < 13 → S_p 518 j = S 518 j := fun j x y => rx_sameR hsm (tc := 0) (n := 13) (g := 99) rfl (by omega) (by decide +kernel) (by decide +kernel) x (by omega)
  have q512 : ∀ j : Int, 0 ≤ j → j < 12 → S_p 512 j = S 512 j := fun j x y => rx_sameR hsm (tc := 0) (n := 12) (g := 93) rfl (by omega) (by decide +kernel) (by decide +kernel) x (by omega)
  have q6 : S_p 482 6 = S 482 6 := rx_sameR hsm (tc := 0) (n := 6180) (g := 63) rfl (by omega) (by decide +kernel) (by decide +kernel) (by omega) (by omega)
  have e := rxSQ_cg (f := S 519) (g := S_p 519) (k := k) (fun j x y => q519 j x (by omega)) (by omega)
  refine ⟨⟨by rw [q519 k (by omega) (by omega)]; exact h0, h1, by rw [q6]; exact h2, rxOrd_cg h3 q6 n6.2 q512, fun j x y => by rw [q519 j x (by omega)]; exact h4 j x y, fun x => by rw [q519 k x (by omega)]; exact h5 x, fun j x y => by rw [q518 j x (by omega)]; exact h6 j x y⟩, ?_⟩
  unfold rxmFW_10 rxmFW_11
  rw [e]
  omega
theorem rxsFW_10 {X : (Nat → Int → Int) → Prop} {S0 : Nat → Int → Int} {ws : List Int} (hP : rxPFW S0 ws) : rx_obK X S0 rxCFW.2.2.1 rxCME.2.2.1 (rxIFW S0 ws) (rxmFW S0 ws) 10 11 rxzFW_10 rxzFW_11 [.inr (3, (0, 480)), .inr (0, (13, 0)), .inr (0, (14, 0)), .inr (0, (15, 0))] none rxPME rxPSME := by
  intro S r hinv hXS I0 hin hs_ hf_
  have b_ := bx_bds_sat hs_
  have f_ := bx_fcl_ok hs_.1 hf_
  obtain ⟨⟨l8, u8⟩, ⟨l9, u9⟩, ⟨l10, u10⟩, ⟨l11, u11⟩, ⟨l12, u12⟩, ⟨l13, u13⟩, ⟨l14, u14⟩, ⟨l15, u15⟩, -⟩ := b_
  have g := rxkFW_10 hP hin I0 hinv l8 u8 l9 u9 l10 u10 l11 u11 l12 u12 l13 u13 l14 u14 l15 u15
  have ea : List.map (bx_num r) [.inr (3, (0, 480)), .inr (0, (13, 0)), .inr (0, (14, 0)), .inr (0, (15, 0))] = [480, (r 13), (r 14), (r 15)] := by
    simp only [List.map_cons, List.map_nil, bx_xv_ok hs_.1]
    rfl
  rw [ea]
  refine ⟨g.1, fun S_p w r_p hPS hX_p I1 hsm hr hw hs_p => ?_⟩
  have hw : w = none := hPS.1
  subst hw
  have g2 := g.2 S_p hPS I1 hsm
  show rxIFW_11 S0 ws S_p (r_p 8) (r_p 9) (r_p 10) (r_p 11) (r_p 12) (r_p 13) (r_p 14) (r_p 15) ∧ rxmFW_11 S0 ws S_p (r_p 8) (r_p 9) (r_p 10) (r_p 11) (r_p 12) (r_p 13) (r_p 14) (r_p 15) < _
  rw [hr 8 (by decide), hr 9 (by decide), hr 10 (by decide), hr 11 (by decide), hr 12 (by decide), hr 13 (by decide), hr 14 (by decide), hr 15 (by decide)]
  exact g2
theorem rxcFW_0_0 {S0 : Nat → Int → Int} {ws : List Int} {S : Nat → Int → Int} {m row1 cue x11 : Int} (hP : rxPFW S0 ws) (hin : bx_same rxL (bx_mdl rxCFW.2.2.1) S0 S) (I0 : bx_Inv rxL S) (hinv : rxIFW_0 S0 ws S m row1 cue) (l8 : 1 ≤ m) (u8 : m ≤ 3) (l9 : 0 ≤ row1) (u9 : row1 ≤ 3) (l10 : 0 ≤ cue) (u10 : cue ≤ 5) (l11 : 0 ≤ x11) (u11 : x11 ≤ 12) (e2 : S 482 6 = x11) : (True) ∧ (True) ∧ rxIFW_1 S0 ws (bx_up (bx_up S 480 69 0) 480 70 0) m row1 cue x11 0 ∧ rxmFW_1 S0 ws (bx_up (bx_up S 480 69 0) 480 70 0) m row1 cue x11 0 < rxmFW_0 S0 ws S m row1 cue := by
  obtain ⟨rfl, hw⟩ := hinv
  have h6 := rxN6 I0
  exact ⟨trivial, trivial, ⟨by rw [← e2]; simp [bx_up], rxOrd_cg hP (by simp [bx_up]) h6.2 (fun i _ _ => by simp [bx_up])⟩, by unfold rxmFW_0 rxmFW_1; omega⟩
theorem rxgFW_0_0 {X : (Nat → Int → Int) → Prop} {S0 : Nat → Int → Int} {ws : List Int} (hP : rxPFW S0 ws) : bx_obC rxL X S0 rxCFW.2.2.1 (rxIFW S0 ws) (rxmFW S0 ws) 0 rxzFW_0 rxoFW_0_0 := by
  intro S S_p r r_p hinv hX hin hsm_ hseg
  obtain ⟨I0, I1, h0_, hr_, b_, f_, d_⟩ := bx_cl (evs := [(1, (0, 480), (0, 70), .inr (0, (0, 0))), (1, (0, 480), (0, 69), .inr (0, (0, 0))), (0, (0, 482), (0, 6), .inr (0, (11, 0)))]) (fvs := []) hseg (by decide +kernel) (by decide +kernel)
  have hinv : rxIFW_0 S0 ws S (r 8) (r 9) (r 10) := hinv
  rw [← hr_ 8 (by decide), ← hr_ 9 (by decide), ← hr_ 10 (by decide)] at hinv
  obtain ⟨⟨l8, u8⟩, ⟨l9, u9⟩, ⟨l10, u10⟩, ⟨l11, u11⟩, -⟩ := b_
  obtain ⟨T0, ⟨T1, ⟨e2, w_⟩, w1⟩, w0⟩ := d_
  subst w0
  subst w1
  subst w_
  have g := rxcFW_0_0 hP hin I0 hinv l8 u8 l9 u9 l10 u10 l11 u11 e2
  refine ⟨bx_narP_ok (l := []) g.1, bx_nfP_ok h0_ (fvs := []) (by decide +kernel) g.2.1, ?_, ?_⟩
  · show rxIFW_1 S0 ws (bx_up (bx_up T1 480 (69) (0)) 480 (70) (0)) (bx_val [(0, 0), (0, 0), (0, 0), (0, 0), (0, 0), (0, 0), (0, 0), (0, 0), (8, 0), (9, 0), (10, 0), (11, 0), (0, 0)] r_p 8) (bx_val [(0, 0), (0, 0), (0, 0), (0, 0), (0, 0), (0, 0), (0, 0), (0, 0), (8, 0), (9, 0), (10, 0), (11, 0), (0, 0)] r_p 9) (bx_val [(0, 0), (0, 0), (0, 0), (0, 0), (0, 0), (0, 0), (0, 0), (0, 0), (8, 0), (9, 0), (10, 0), (11, 0), (0, 0)] r_p 10) (bx_val [(0, 0), (0, 0), (0, 0), (0, 0), (0, 0), (0, 0), (0, 0), (0, 0), (8, 0), (9, 0), (10, 0), (11, 0), (0, 0)] r_p 11) (bx_val [(0, 0), (0, 0), (0, 0), (0, 0), (0, 0), (0, 0), (0, 0), (0, 0), (8, 0), (9, 0), (10, 0), (11, 0), (0, 0)] r_p 12)
    rw [bx_val_x (n := 8) (e := (8, 0)) h0_ rfl, bx_val_x (n := 9) (e := (9, 0)) h0_ rfl, bx_val_x (n := 10) (e := (10, 0)) h0_ rfl, bx_val_x (n := 11) (e := (11, 0)) h0_ rfl, bx_val_x (n := 12) (e := (0, 0)) h0_ rfl]
    exact g.2.2.1
  · show rxmFW_1 S0 ws (bx_up (bx_up T1 480 (69) (0)) 480 (70) (0)) (bx_val [(0, 0), (0, 0), (0, 0), (0, 0), (0, 0), (0, 0), (0, 0), (0, 0), (8, 0), (9, 0), (10, 0), (11, 0), (0, 0)] r_p 8) (bx_val [(0, 0), (0, 0), (0, 0), (0, 0), (0, 0), (0, 0), (0, 0), (0, 0), (8, 0), (9, 0), (10, 0), (11, 0), (0, 0)] r_p 9) (bx_val [(0, 0), (0, 0), (0, 0), (0, 0), (0, 0), (0, 0), (0, 0), (0, 0), (8, 0), (9, 0), (10, 0), (11, 0), (0, 0)] r_p 10) (bx_val [(0, 0), (0, 0), (0, 0), (0, 0), (0, 0), (0, 0), (0, 0), (0, 0), (8, 0), (9, 0), (10, 0), (11, 0), (0, 0)] r_p 11) (bx_val [(0, 0), (0, 0), (0, 0), (0, 0), (0, 0), (0, 0), (0, 0), (0, 0), (8, 0), (9, 0), (10, 0), (11, 0), (0, 0)] r_p 12) < rxmFW_0 S0 ws T1 (r 8) (r 9) (r 10)
    rw [bx_val_x (n := 8) (e := (8, 0)) h0_ rfl, bx_val_x (n := 9) (e := (9, 0)) h0_ rfl, bx_val_x (n := 10) (e := (10, 0)) h0_ rfl, bx_val_x (n := 11) (e := (11, 0)) h0_ rfl, bx_val_x (n := 12) (e := (0, 0)) h0_ rfl, ← hr_ 8 (by decide), ← hr_ 9 (by decide), ← hr_ 10 (by decide)]
    exact g.2.2.2
theorem rxcFW_1_0 {S0 : Nat → Int → Int} {ws : List Int} {S : Nat → Int → Int} {m row1 cue n k : Int} (hP : rxPFW S0 ws) (hin : bx_same rxL (bx_mdl rxCFW.2.2.1) S0 S) (I0 : bx_Inv rxL S) (hinv : rxIFW_1 S0 ws S m row1 cue n k) (l8 : 1 ≤ m) (u8 : m ≤ 3) (l9 : 0 ≤ row1) (u9 : row1 ≤ 3) (l10 : 0 ≤ cue) (u10 : cue ≤ 5) (l11 : 0 ≤ n) (u11 : n ≤ 12) (l12 : 0 ≤ k) (u12 : k ≤ 17) : (True) ∧ (True) ∧ rxIFW_1 S0 ws (bx_up (bx_up S 514 k ((-1))) 515 k ((-1))) m row1 cue n (k + 1) ∧ rxmFW_1 S0 ws (bx_up (bx_up S 514 k ((-1))) 515 k ((-1))) m row1 cue n (k + 1) < rxmFW_1 S0 ws S m row1 cue n k := by
  obtain ⟨h1, h2⟩ := hinv
  have h6 := rxN6 I0
  exact ⟨trivial, trivial, ⟨by rw [h1]; simp [bx_up], rxOrd_cg h2 (by simp [bx_up]) h6.2 (fun i _ _ => by simp [bx_up])⟩, by unfold rxmFW_1; omega⟩
theorem rxgFW_1_0 {X : (Nat → Int → Int) → Prop} {S0 : Nat → Int → Int} {ws : List Int} (hP : rxPFW S0 ws) : bx_obC rxL X S0 rxCFW.2.2.1 (rxIFW S0 ws) (rxmFW S0 ws) 1 rxzFW_1 rxoFW_1_0 := by
  intro S S_p r r_p hinv hX hin hsm_ hseg
  obtain ⟨I0, I1, h0_, hr_, b_, f_, d_⟩ := bx_cl (evs := [(1, (0, 515), (12, 0), .inr (0, (0, (-1)))), (1, (0, 514), (12, 0), .inr (0, (0, (-1))))]) (fvs := []) hseg (by decide +kernel) (by decide +kernel)
  have hinv : rxIFW_1 S0 ws S (r 8) (r 9) (r 10) (r 11) (r 12) := hinv
  rw [← hr_ 8 (by decide), ← hr_ 9 (by decide), ← hr_ 10 (by decide), ← hr_ 11 (by decide), ← hr_ 12 (by decide)] at hinv
  obtain ⟨⟨l8, u8⟩, ⟨l9, u9⟩, ⟨l10, u10⟩, ⟨l11, u11⟩, ⟨l12, u12⟩, -⟩ := b_
  obtain ⟨T0, ⟨T1, w_, w1⟩, w0⟩ := d_
  subst w0
  subst w1
  subst w_
  have g := rxcFW_1_0 hP hin I0 hinv l8 u8 l9 u9 l10 u10 l11 u11 l12 u12
  refine ⟨bx_narP_ok (l := []) g.1, bx_nfP_ok h0_ (fvs := []) (by decide +kernel) g.2.1, ?_, ?_⟩
  · show rxIFW_1 S0 ws (bx_up (bx_up T1 514 (r_p 12) ((-1))) 515 (r_p 12) ((-1))) (bx_val [(0, 0), (0, 0), (0, 0), (0, 0), (0, 0), (0, 0), (0, 0), (0, 0), (8, 0), (9, 0), (10, 0), (11, 0), (12, 1)] r_p 8) (bx_val [(0, 0), (0, 0), (0, 0), (0, 0), (0, 0), (0, 0), (0, 0), (0, 0), (8, 0), (9, 0), (10, 0), (11, 0), (12, 1)] r_p 9) (bx_val [(0, 0), (0, 0), (0, 0), (0, 0), (0, 0), (0, 0), (0, 0), (0, 0), (8, 0), (9, 0), (10, 0), (11, 0), (12, 1)] r_p 10) (bx_val [(0, 0), (0, 0), (0, 0), (0, 0), (0, 0), (0, 0), (0, 0), (0, 0), (8, 0), (9, 0), (10, 0), (11, 0), (12, 1)] r_p 11) (bx_val [(0, 0), (0, 0), (0, 0), (0, 0), (0, 0), (0, 0), (0, 0), (0, 0), (8, 0), (9, 0), (10, 0), (11, 0), (12, 1)] r_p 12)
    rw [bx_val_x (n := 8) (e := (8, 0)) h0_ rfl, bx_val_x (n := 9) (e := (9, 0)) h0_ rfl, bx_val_x (n := 10) (e := (10, 0)) h0_ rfl, bx_val_x (n := 11) (e := (11, 0)) h0_ rfl, bx_val_x (n := 12) (e := (12, 1)) h0_ rfl]
    exact g.2.2.1
  · show rxmFW_1 S0 ws (bx_up (bx_up T1 514 (r_p 12) ((-1))) 515 (r_p 12) ((-1))) (bx_val [(0, 0), (0, 0), (0, 0), (0, 0), (0, 0), (0, 0), (0, 0), (0, 0), (8, 0), (9, 0), (10, 0), (11, 0), (12, 1)] r_p 8) (bx_val [(0, 0), (0, 0), (0, 0), (0, 0), (0, 0), (0, 0), (0, 0), (0, 0), (8, 0), (9, 0), (10, 0), (11, 0), (12, 1)] r_p 9) (bx_val [(0, 0), (0, 0), (0, 0), (0, 0), (0, 0), (0, 0), (0, 0), (0, 0), (8, 0), (9, 0), (10, 0), (11, 0), (12, 1)] r_p 10) (bx_val [(0, 0), (0, 0), (0, 0), (0, 0), (0, 0), (0, 0), (0, 0), (0, 0), (8, 0), (9, 0), (10, 0), (11, 0), (12, 1)] r_p 11) (bx_val [(0, 0), (0, 0), (0, 0), (0, 0), (0, 0), (0, 0), (0, 0), (0, 0), (8, 0), (9, 0), (10, 0), (11, 0), (12, 1)] r_p 12) < rxmFW_1 S0 ws T1 (r 8) (r 9) (r 10) (r 11) (r 12)
    rw [bx_val_x (n := 8) (e := (8, 0)) h0_ rfl, bx_val_x (n := 9) (e := (9, 0)) h0_ rfl, bx_val_x (n := 10) (e := (10, 0)) h0_ rfl, bx_val_x (n := 11) (e := (11, 0)) h0_ rfl, bx_val_x (n := 12) (e := (12, 1)) h0_ rfl, ← hr_ 8 (by decide), ← hr_ 9 (by decide), ← hr_ 10 (by decide), ← hr_ 11 (by decide), ← hr_ 12 (by decide)]
    exact g.2.2.2
theorem rxcFW_1_1 {S0 : Nat → Int → Int} {ws : List Int} {S : Nat → Int → Int} {m row1 cue n k : Int} (hP : rxPFW S0 ws) (hin : bx_same rxL (bx_mdl rxCFW.2.2.1) S0 S) (I0 : bx_Inv rxL S) (hinv : rxIFW_1 S0 ws S m row1 cue n k) (l8 : 1 ≤ m) (u8 : m ≤ 3) (l9 : 0 ≤ row1) (u9 : row1 ≤ 3) (l10 : 0 ≤ cue) (u10 : cue ≤ 5) (l11 : 0 ≤ n) (u11 : n ≤ 12) (l12 : 18 ≤ k) (u12 : k ≤ 18) : (True) ∧ (True) ∧ rxIFW_2 S0 ws S m row1 cue n 0 ∧ rxmFW_2 S0 ws S m row1 cue n 0 < rxmFW_1 S0 ws S m row1 cue n k := by
  exact ⟨trivial, trivial, hinv, by unfold rxmFW_1 rxmFW_2; omega⟩
theorem rxgFW_1_1 {X : (Nat → Int → Int) → Prop} {S0 : Nat → Int → Int} {ws : List Int} (hP : rxPFW S0 ws) : bx_obC rxL X S0 rxCFW.2.2.1 (rxIFW S0 ws) (rxmFW S0 ws) 1 rxzFW_1 rxoFW_1_1 := by
  intro S S_p r r_p hinv hX hin hsm_ hseg
  obtain ⟨I0, I1, h0_, hr_, b_, f_, d_⟩ := bx_cl (evs := []) (fvs := []) hseg (by decide +kernel) (by decide +kernel)
  have hinv : rxIFW_1 S0 ws S (r 8) (r 9) (r 10) (r 11) (r 12) := hinv
  rw [← hr_ 8 (by decide), ← hr_ 9 (by decide), ← hr_ 10 (by decide), ← hr_ 11 (by decide), ← hr_ 12 (by decide)] at hinv
  obtain ⟨⟨l8, u8⟩, ⟨l9, u9⟩, ⟨l10, u10⟩, ⟨l11, u11⟩, ⟨l12, u12⟩, -⟩ := b_
  have w_ := d_
  subst w_
  have g := rxcFW_1_1 hP hin I0 hinv l8 u8 l9 u9 l10 u10 l11 u11 l12 u12
  refine ⟨bx_narP_ok (l := []) g.1, bx_nfP_ok h0_ (fvs := []) (by decide +kernel) g.2.1, ?_, ?_⟩
  · show rxIFW_2 S0 ws S_p (bx_val [(0, 0), (0, 0), (0, 0), (0, 0), (0, 0), (0, 0), (0, 0), (0, 0), (8, 0), (9, 0), (10, 0), (11, 0), (0, 0)] r_p 8) (bx_val [(0, 0), (0, 0), (0, 0), (0, 0), (0, 0), (0, 0), (0, 0), (0, 0), (8, 0), (9, 0), (10, 0), (11, 0), (0, 0)] r_p 9) (bx_val [(0, 0), (0, 0), (0, 0), (0, 0), (0, 0), (0, 0), (0, 0), (0, 0), (8, 0), (9, 0), (10, 0), (11, 0), (0, 0)] r_p 10) (bx_val [(0, 0), (0, 0), (0, 0), (0, 0), (0, 0), (0, 0), (0, 0), (0, 0), (8, 0), (9, 0), (10, 0), (11, 0), (0, 0)] r_p 11) (bx_val [(0, 0), (0, 0), (0, 0), (0, 0), (0, 0), (0, 0), (0, 0), (0, 0), (8, 0), (9, 0), (10, 0), (11, 0), (0, 0)] r_p 12)
    rw [bx_val_x (n := 8) (e := (8, 0)) h0_ rfl, bx_val_x (n := 9) (e := (9, 0)) h0_ rfl, bx_val_x (n := 10) (e := (10, 0)) h0_ rfl, bx_val_x (n := 11) (e := (11, 0)) h0_ rfl, bx_val_x (n := 12) (e := (0, 0)) h0_ rfl]
    exact g.2.2.1
  · show rxmFW_2 S0 ws S_p (bx_val [(0, 0), (0, 0), (0, 0), (0, 0), (0, 0), (0, 0), (0, 0), (0, 0), (8, 0), (9, 0), (10, 0), (11, 0), (0, 0)] r_p 8) (bx_val [(0, 0), (0, 0), (0, 0), (0, 0), (0, 0), (0, 0), (0, 0), (0, 0), (8, 0), (9, 0), (10, 0), (11, 0), (0, 0)] r_p 9) (bx_val [(0, 0), (0, 0), (0, 0), (0, 0), (0, 0), (0, 0), (0, 0), (0, 0), (8, 0), (9, 0), (10, 0), (11, 0), (0, 0)] r_p 10) (bx_val [(0, 0), (0, 0), (0, 0), (0, 0), (0, 0), (0, 0), (0, 0), (0, 0), (8, 0), (9, 0), (10, 0), (11, 0), (0, 0)] r_p 11) (bx_val [(0, 0), (0, 0), (0, 0), (0, 0), (0, 0), (0, 0), (0, 0), (0, 0), (8, 0), (9, 0), (10, 0), (11, 0), (0, 0)] r_p 12) < rxmFW_1 S0 ws S_p (r 8) (r 9) (r 10) (r 11) (r 12)
    rw [bx_val_x (n := 8) (e := (8, 0)) h0_ rfl, bx_val_x (n := 9) (e := (9, 0)) h0_ rfl, bx_val_x (n := 10) (e := (10, 0)) h0_ rfl, bx_val_x (n := 11) (e := (11, 0)) h0_ rfl, bx_val_x (n := 12) (e := (0, 0)) h0_ rfl, ← hr_ 8 (by decide), ← hr_ 9 (by decide), ← hr_ 10 (by decide), ← hr_ 11 (by decide), ← hr_ 12 (by decide)]
    exact g.2.2.2
theorem rxcFW_2_0 {S0 : Nat → Int → Int} {ws : List Int} {S : Nat → Int → Int} {m row1 cue n k : Int} (hP : rxPFW S0 ws) (hin : bx_same rxL (bx_mdl rxCFW.2.2.1) S0 S) (I0 : bx_Inv rxL S) (hinv : rxIFW_2 S0 ws S m row1 cue n k) (l8 : 1 ≤ m) (u8 : m ≤ 3) (l9 : 0 ≤ row1) (u9 : row1 ≤ 3) (l10 : 0 ≤ cue) (u10 : cue ≤ 5) (l11 : 0 ≤ n) (u11 : n ≤ 12) (l12 : 0 ≤ k) (u12 : k ≤ 11) : (True) ∧ (True) ∧ rxIFW_2 S0 ws (bx_up (bx_up S 516 k 0) 517 k 0) m row1 cue n (k + 1) ∧ rxmFW_2 S0 ws (bx_up (bx_up S 516 k 0) 517 k 0) m row1 cue n (k + 1) < rxmFW_2 S0 ws S m row1 cue n k := by
  obtain ⟨h1, h2⟩ := hinv
  have h6 := rxN6 I0
  exact ⟨trivial, trivial, ⟨by rw [h1]; simp [bx_up], rxOrd_cg h2 (by simp [bx_up]) h6.2 (fun i _ _ => by simp [bx_up])⟩, by unfold rxmFW_2; omega⟩
theorem rxgFW_2_0 {X : (Nat → Int → Int) → Prop} {S0 : Nat → Int → Int} {ws : List Int} (hP : rxPFW S0 ws) : bx_obC rxL X S0 rxCFW.2.2.1 (rxIFW S0 ws) (rxmFW S0 ws) 2 rxzFW_2 rxoFW_2_0 := by
  intro S S_p r r_p hinv hX hin hsm_ hseg
  obtain ⟨I0, I1, h0_, hr_, b_, f_, d_⟩ := bx_cl (evs := [(1, (0, 517), (12, 0), .inr (0, (0, 0))), (1, (0, 516), (12, 0), .inr (0, (0, 0)))]) (fvs := []) hseg (by decide +kernel) (by decide +kernel)
  have hinv : rxIFW_2 S0 ws S (r 8) (r 9) (r 10) (r 11) (r 12) := hinv
  rw [← hr_ 8 (by decide), ← hr_ 9 (by decide), ← hr_ 10 (by decide), ← hr_ 11 (by decide), ← hr_ 12 (by decide)] at hinv
  obtain ⟨⟨l8, u8⟩, ⟨l9, u9⟩, ⟨l10, u10⟩, ⟨l11, u11⟩, ⟨l12, u12⟩, -⟩ := b_
  obtain ⟨T0, ⟨T1, w_, w1⟩, w0⟩ := d_
  subst w0
  subst w1
  subst w_
  have g := rxcFW_2_0 hP hin I0 hinv l8 u8 l9 u9 l10 u10 l11 u11 l12 u12
  refine ⟨bx_narP_ok (l := []) g.1, bx_nfP_ok h0_ (fvs := []) (by decide +kernel) g.2.1, ?_, ?_⟩
  · show rxIFW_2 S0 ws (bx_up (bx_up T1 516 (r_p 12) (0)) 517 (r_p 12) (0)) (bx_val [(0, 0), (0, 0), (0, 0), (0, 0), (0, 0), (0, 0), (0, 0), (0, 0), (8, 0), (9, 0), (10, 0), (11, 0), (12, 1)] r_p 8) (bx_val [(0, 0), (0, 0), (0, 0), (0, 0), (0, 0), (0, 0), (0, 0), (0, 0), (8, 0), (9, 0), (10, 0), (11, 0), (12, 1)] r_p 9) (bx_val [(0, 0), (0, 0), (0, 0), (0, 0), (0, 0), (0, 0), (0, 0), (0, 0), (8, 0), (9, 0), (10, 0), (11, 0), (12, 1)] r_p 10) (bx_val [(0, 0), (0, 0), (0, 0), (0, 0), (0, 0), (0, 0), (0, 0), (0, 0), (8, 0), (9, 0), (10, 0), (11, 0), (12, 1)] r_p 11) (bx_val [(0, 0), (0, 0), (0, 0), (0, 0), (0, 0), (0, 0), (0, 0), (0, 0), (8, 0), (9, 0), (10, 0), (11, 0), (12, 1)] r_p 12)
    rw [bx_val_x (n := 8) (e := (8, 0)) h0_ rfl, bx_val_x (n := 9) (e := (9, 0)) h0_ rfl, bx_val_x (n := 10) (e := (10, 0)) h0_ rfl, bx_val_x (n := 11) (e := (11, 0)) h0_ rfl, bx_val_x (n := 12) (e := (12, 1)) h0_ rfl]
    exact g.2.2.1
  · show rxmFW_2 S0 ws (bx_up (bx_up T1 516 (r_p 12) (0)) 517 (r_p 12) (0)) (bx_val [(0, 0), (0, 0), (0, 0), (0, 0), (0, 0), (0, 0), (0, 0), (0, 0), (8, 0), (9, 0), (10, 0), (11, 0), (12, 1)] r_p 8) (bx_val [(0, 0), (0, 0), (0, 0), (0, 0), (0, 0), (0, 0), (0, 0), (0, 0), (8, 0), (9, 0), (10, 0), (11, 0), (12, 1)] r_p 9) (bx_val [(0, 0), (0, 0), (0, 0), (0, 0), (0, 0), (0, 0), (0, 0), (0, 0), (8, 0), (9, 0), (10, 0), (11, 0), (12, 1)] r_p 10) (bx_val [(0, 0), (0, 0), (0, 0), (0, 0), (0, 0), (0, 0), (0, 0), (0, 0), (8, 0), (9, 0), (10, 0), (11, 0), (12, 1)] r_p 11) (bx_val [(0, 0), (0, 0), (0, 0), (0, 0), (0, 0), (0, 0), (0, 0), (0, 0), (8, 0), (9, 0), (10, 0), (11, 0), (12, 1)] r_p 12) < rxmFW_2 S0 ws T1 (r 8) (r 9) (r 10) (r 11) (r 12)
    rw [bx_val_x (n := 8) (e := (8, 0)) h0_ rfl, bx_val_x (n := 9) (e := (9, 0)) h0_ rfl, bx_val_x (n := 10) (e := (10, 0)) h0_ rfl, bx_val_x (n := 11) (e := (11, 0)) h0_ rfl, bx_val_x (n := 12) (e := (12, 1)) h0_ rfl, ← hr_ 8 (by decide), ← hr_ 9 (by decide), ← hr_ 10 (by decide), ← hr_ 11 (by decide), ← hr_ 12 (by decide)]
    exact g.2.2.2
theorem rxcFW_2_1 {S0 : Nat → Int → Int} {ws : List Int} {S : Nat → Int → Int} {m row1 cue n k : Int} (hP : rxPFW S0 ws) (hin : bx_same rxL (bx_mdl rxCFW.2.2.1) S0 S) (I0 : bx_Inv rxL S) (hinv : rxIFW_2 S0 ws S m row1 cue n k) (l8 : 1 ≤ m) (u8 : m ≤ 3) (l9 : 0 ≤ row1) (u9 : row1 ≤ 3) (l10 : 0 ≤ cue) (u10 : cue ≤ 5) (l11 : 0 ≤ n) (u11 : n ≤ 0) (l12 : 12 ≤ k) (u12 : k ≤ 12) : (True) ∧ (True) ∧ rxIFW_3 S0 ws (bx_up (bx_up S 513 0 0) 518 0 1) m row1 cue n m row1 cue ∧ rxmFW_3 S0 ws (bx_up (bx_up S 513 0 0) 518 0 1) m row1 cue n m row1 cue < rxmFW_2 S0 ws S m row1 cue n k := by
  obtain ⟨h1, h2⟩ := hinv
  have h6 := rxN6 I0
  exact ⟨trivial, trivial, rxOrd_cg h2 (by simp [bx_up]) h6.2 (fun i _ _ => by simp [bx_up]), by unfold rxmFW_2 rxmFW_3; omega⟩
theorem rxgFW_2_1 {X : (Nat → Int → Int) → Prop} {S0 : Nat → Int → Int} {ws : List Int} (hP : rxPFW S0 ws) : bx_obC rxL X S0 rxCFW.2.2.1 (rxIFW S0 ws) (rxmFW S0 ws) 2 rxzFW_2 rxoFW_2_1 := by
  intro S S_p r r_p hinv hX hin hsm_ hseg
  obtain ⟨I0, I1, h0_, hr_, b_, f_, d_⟩ := bx_cl (evs := [(1, (0, 518), (0, 0), .inr (0, (0, 1))), (1, (0, 513), (0, 0), .inr (0, (0, 0)))]) (fvs := []) hseg (by decide +kernel) (by decide +kernel)
  have hinv : rxIFW_2 S0 ws S (r 8) (r 9) (r 10) (r 11) (r 12) := hinv
  rw [← hr_ 8 (by decide), ← hr_ 9 (by decide), ← hr_ 10 (by decide), ← hr_ 11 (by decide), ← hr_ 12 (by decide)] at hinv
  obtain ⟨⟨l8, u8⟩, ⟨l9, u9⟩, ⟨l10, u10⟩, ⟨l11, u11⟩, ⟨l12, u12⟩, -⟩ := b_
  obtain ⟨T0, ⟨T1, w_, w1⟩, w0⟩ := d_
  subst w0
  subst w1
  subst w_
  have g := rxcFW_2_1 hP hin I0 hinv l8 u8 l9 u9 l10 u10 l11 u11 l12 u12
  refine ⟨bx_narP_ok (l := []) g.1, bx_nfP_ok h0_ (fvs := []) (by decide +kernel) g.2.1, ?_, ?_⟩
  · show rxIFW_3 S0 ws (bx_up (bx_up T1 513 (0) (0)) 518 (0) (1)) (bx_val [(0, 0), (0, 0), (0, 0), (0, 0), (0, 0), (0, 0), (0, 0), (0, 0), (8, 0), (9, 0), (10, 0), (11, 0), (8, 0), (9, 0), (10, 0)] r_p 8) (bx_val [(0, 0), (0, 0), (0, 0), (0, 0), (0, 0), (0, 0), (0, 0), (0, 0), (8, 0), (9, 0), (10, 0), (11, 0), (8, 0), (9, 0), (10, 0)] r_p 9) (bx_val [(0, 0), (0, 0), (0, 0), (0, 0), (0, 0), (0, 0), (0, 0), (0, 0), (8, 0), (9, 0), (10, 0), (11, 0), (8, 0), (9, 0), (10, 0)] r_p 10) (bx_val [(0, 0), (0, 0), (0, 0), (0, 0), (0, 0), (0, 0), (0, 0), (0, 0), (8, 0), (9, 0), (10, 0), (11, 0), (8, 0), (9, 0), (10, 0)] r_p 11) (bx_val [(0, 0), (0, 0), (0, 0), (0, 0), (0, 0), (0, 0), (0, 0), (0, 0), (8, 0), (9, 0), (10, 0), (11, 0), (8, 0), (9, 0), (10, 0)] r_p 12) (bx_val [(0, 0), (0, 0), (0, 0), (0, 0), (0, 0), (0, 0), (0, 0), (0, 0), (8, 0), (9, 0), (10, 0), (11, 0), (8, 0), (9, 0), (10, 0)] r_p 13) (bx_val [(0, 0), (0, 0), (0, 0), (0, 0), (0, 0), (0, 0), (0, 0), (0, 0), (8, 0), (9, 0), (10, 0), (11, 0), (8, 0), (9, 0), (10, 0)] r_p 14)
    rw [bx_val_x (n := 8) (e := (8, 0)) h0_ rfl, bx_val_x (n := 9) (e := (9, 0)) h0_ rfl, bx_val_x (n := 10) (e := (10, 0)) h0_ rfl, bx_val_x (n := 11) (e := (11, 0)) h0_ rfl, bx_val_x (n := 12) (e := (8, 0)) h0_ rfl, bx_val_x (n := 13) (e := (9, 0)) h0_ rfl, bx_val_x (n := 14) (e := (10, 0)) h0_ rfl]
    exact g.2.2.1
  · show rxmFW_3 S0 ws (bx_up (bx_up T1 513 (0) (0)) 518 (0) (1)) (bx_val [(0, 0), (0, 0), (0, 0), (0, 0), (0, 0), (0, 0), (0, 0), (0, 0), (8, 0), (9, 0), (10, 0), (11, 0), (8, 0), (9, 0), (10, 0)] r_p 8) (bx_val [(0, 0), (0, 0), (0, 0), (0, 0), (0, 0), (0, 0), (0, 0), (0, 0), (8, 0), (9, 0), (10, 0), (11, 0), (8, 0), (9, 0), (10, 0)] r_p 9) (bx_val [(0, 0), (0, 0), (0, 0), (0, 0), (0, 0), (0, 0), (0, 0), (0, 0), (8, 0), (9, 0), (10, 0), (11, 0), (8, 0), (9, 0), (10, 0)] r_p 10) (bx_val [(0, 0), (0, 0), (0, 0), (0, 0), (0, 0), (0, 0), (0, 0), (0, 0), (8, 0), (9, 0), (10, 0), (11, 0), (8, 0), (9, 0), (10, 0)] r_p 11) (bx_val [(0, 0), (0, 0), (0, 0), (0, 0), (0, 0), (0, 0), (0, 0), (0, 0), (8, 0), (9, 0), (10, 0), (11, 0), (8, 0), (9, 0), (10, 0)] r_p 12) (bx_val [(0, 0), (0, 0), (0, 0), (0, 0), (0, 0), (0, 0), (0, 0), (0, 0), (8, 0), (9, 0), (10, 0), (11, 0), (8, 0), (9, 0), (10, 0)] r_p 13) (bx_val [(0, 0), (0, 0), (0, 0), (0, 0), (0, 0), (0, 0), (0, 0), (0, 0), (8, 0), (9, 0), (10, 0), (11, 0), (8, 0), (9, 0), (10, 0)] r_p 14) < rxmFW_2 S0 ws T1 (r 8) (r 9) (r 10) (r 11) (r 12)
    rw [bx_val_x (n := 8) (e := (8, 0)) h0_ rfl, bx_val_x (n := 9) (e := (9, 0)) h0_ rfl, bx_val_x (n := 10) (e := (10, 0)) h0_ rfl, bx_val_x (n := 11) (e := (11, 0)) h0_ rfl, bx_val_x (n := 12) (e := (8, 0)) h0_ rfl, bx_val_x (n := 13) (e := (9, 0)) h0_ rfl, bx_val_x (n := 14) (e := (10, 0)) h0_ rfl, ← hr_ 8 (by decide), ← hr_ 9 (by decide), ← hr_ 10 (by decide), ← hr_ 11 (by decide), ← hr_ 12 (by decide)]
    exact g.2.2.2
theorem rxcFW_2_2 {S0 : Nat → Int → Int} {ws : List Int} {S : Nat → Int → Int} {m row1 cue n k : Int} (hP : rxPFW S0 ws) (hin : bx_same rxL (bx_mdl rxCFW.2.2.1) S0 S) (I0 : bx_Inv rxL S) (hinv : rxIFW_2 S0 ws S m row1 cue n k) (l8 : 1 ≤ m) (u8 : m ≤ 3) (l9 : 0 ≤ row1) (u9 : row1 ≤ 3) (l10 : 0 ≤ cue) (u10 : cue ≤ 5) (l11 : 1 ≤ n) (u11 : n ≤ 12) (l12 : 12 ≤ k) (u12 : k ≤ 12) (f0 : n ≠ 0) : (True) ∧ (True) ∧ rxIFW_5 S0 ws (bx_up (bx_up (bx_up S 513 0 0) 518 0 1) 519 0 ((-1))) m row1 cue n 0 ∧ rxmFW_5 S0 ws (bx_up (bx_up (bx_up S 513 0 0) 518 0 1) 519 0 ((-1))) m row1 cue n 0 < rxmFW_2 S0 ws S m row1 cue n k := by
  obtain ⟨h1, h2⟩ := hinv
  have h6 := rxN6 I0
  have t0 : (bx_up (bx_up (bx_up S 513 0 0) 518 0 1) 519 0 ((-1))) 519 0 = -1 := by simp [bx_up]
  have t1 : (bx_up (bx_up (bx_up S 513 0 0) 518 0 1) 519 0 ((-1))) 518 0 = 1 := by simp [bx_up]
  refine ⟨trivial, trivial, ⟨by omega, by rw [h1]; simp [bx_up], rxOrd_cg h2 (by simp [bx_up]) h6.2 (fun i _ _ => by simp [bx_up]), fun j a b => by omega, fun _ => ⟨by omega, by omega⟩, fun j a b => ?_⟩, ?_⟩
  · have hj : j = 0 := by omega
    subst hj
    omega
  · have g := rxSP_lo (f := (bx_up (bx_up (bx_up S 513 0 0) 518 0 1) 519 0 ((-1))) 519) (k := 0) (fun j a b => by omega) (by omega)
    unfold rxmFW_2 rxmFW_5
    rw [if_neg (by omega)]
    omega
theorem rxgFW_2_2 {X : (Nat → Int → Int) → Prop} {S0 : Nat → Int → Int} {ws : List Int} (hP : rxPFW S0 ws) : bx_obC rxL X S0 rxCFW.2.2.1 (rxIFW S0 ws) (rxmFW S0 ws) 2 rxzFW_2 rxoFW_2_2 := by
  intro S S_p r r_p hinv hX hin hsm_ hseg
  obtain ⟨I0, I1, h0_, hr_, b_, f_, d_⟩ := bx_cl (evs := [(1, (0, 519), (0, 0), .inr (0, (0, (-1)))), (1, (0, 518), (0, 0), .inr (0, (0, 1))), (1, (0, 513), (0, 0), .inr (0, (0, 0)))]) (fvs := [(3, (11, 0), (0, 0), (0, 0))]) hseg (by decide +kernel) (by decide +kernel)
  have hinv : rxIFW_2 S0 ws S (r 8) (r 9) (r 10) (r 11) (r 12) := hinv
  rw [← hr_ 8 (by decide), ← hr_ 9 (by decide), ← hr_ 10 (by decide), ← hr_ 11 (by decide), ← hr_ 12 (by decide)] at hinv
  obtain ⟨⟨l8, u8⟩, ⟨l9, u9⟩, ⟨l10, u10⟩, ⟨l11, u11⟩, ⟨l12, u12⟩, -⟩ := b_
  obtain ⟨f0, -⟩ := f_
  obtain ⟨T0, ⟨T1, ⟨T2, w_, w2⟩, w1⟩, w0⟩ := d_
  subst w0
  subst w1
  subst w2
  subst w_
  have g := rxcFW_2_2 hP hin I0 hinv l8 u8 l9 u9 l10 u10 l11 u11 l12 u12 f0
  refine ⟨bx_narP_ok (l := []) g.1, bx_nfP_ok h0_ (fvs := []) (by decide +kernel) g.2.1, ?_, ?_⟩
  · show rxIFW_5 S0 ws (bx_up (bx_up (bx_up T2 513 (0) (0)) 518 (0) (1)) 519 (0) ((-1))) (bx_val [(0, 0), (0, 0), (0, 0), (0, 0), (0, 0), (0, 0), (0, 0), (0, 0), (8, 0), (9, 0), (10, 0), (11, 0), (0, 0)] r_p 8) (bx_val [(0, 0), (0, 0), (0, 0), (0, 0), (0, 0), (0, 0), (0, 0), (0, 0), (8, 0), (9, 0), (10, 0), (11, 0), (0, 0)] r_p 9) (bx_val [(0, 0), (0, 0), (0, 0), (0, 0), (0, 0), (0, 0), (0, 0), (0, 0), (8, 0), (9, 0), (10, 0), (11, 0), (0, 0)] r_p 10) (bx_val [(0, 0), (0, 0), (0, 0), (0, 0), (0, 0), (0, 0), (0, 0), (0, 0), (8, 0), (9, 0), (10, 0), (11, 0), (0, 0)] r_p 11) (bx_val [(0, 0), (0, 0), (0, 0), (0, 0), (0, 0), (0, 0), (0, 0), (0, 0), (8, 0), (9, 0), (10, 0), (11, 0), (0, 0)] r_p 12)
    rw [bx_val_x (n := 8) (e := (8, 0)) h0_ rfl, bx_val_x (n := 9) (e := (9, 0)) h0_ rfl, bx_val_x (n := 10) (e := (10, 0)) h0_ rfl, bx_val_x (n := 11) (e := (11, 0)) h0_ rfl, bx_val_x (n := 12) (e := (0, 0)) h0_ rfl]
    exact g.2.2.1
  · show rxmFW_5 S0 ws (bx_up (bx_up (bx_up T2 513 (0) (0)) 518 (0) (1)) 519 (0) ((-1))) (bx_val [(0, 0), (0, 0), (0, 0), (0, 0), (0, 0), (0, 0), (0, 0), (0, 0), (8, 0), (9, 0), (10, 0), (11, 0), (0, 0)] r_p 8) (bx_val [(0, 0), (0, 0), (0, 0), (0, 0), (0, 0), (0, 0), (0, 0), (0, 0), (8, 0), (9, 0), (10, 0), (11, 0), (0, 0)] r_p 9) (bx_val [(0, 0), (0, 0), (0, 0), (0, 0), (0, 0), (0, 0), (0, 0), (0, 0), (8, 0), (9, 0), (10, 0), (11, 0), (0, 0)] r_p 10) (bx_val [(0, 0), (0, 0), (0, 0), (0, 0), (0, 0), (0, 0), (0, 0), (0, 0), (8, 0), (9, 0), (10, 0), (11, 0), (0, 0)] r_p 11) (bx_val [(0, 0), (0, 0), (0, 0), (0, 0), (0, 0), (0, 0), (0, 0), (0, 0), (8, 0), (9, 0), (10, 0), (11, 0), (0, 0)] r_p 12) < rxmFW_2 S0 ws T2 (r 8) (r 9) (r 10) (r 11) (r 12)
    rw [bx_val_x (n := 8) (e := (8, 0)) h0_ rfl, bx_val_x (n := 9) (e := (9, 0)) h0_ rfl, bx_val_x (n := 10) (e := (10, 0)) h0_ rfl, bx_val_x (n := 11) (e := (11, 0)) h0_ rfl, bx_val_x (n := 12) (e := (0, 0)) h0_ rfl, ← hr_ 8 (by decide), ← hr_ 9 (by decide), ← hr_ 10 (by decide), ← hr_ 11 (by decide), ← hr_ 12 (by decide)]
    exact g.2.2.2
theorem rxdFW_4_0 {S0 : Nat → Int → Int} {ws : List Int} {S : Nat → Int → Int} {m row1 cue n a b c : Int} (hP : rxPFW S0 ws) (hin : bx_same rxL (bx_mdl rxCFW.2.2.1) S0 S) (hin2 : bx_same rxL (bx_mdl rxCFW.2.2.1) S S) (I0 : bx_Inv rxL S) (I1 : bx_Inv rxL S) (hinv : rxIFW_4 S0 ws S m row1 cue n a b c) (l8 : 1 ≤ m) (u8 : m ≤ 3) (l9 : 0 ≤ row1) (u9 : row1 ≤ 3) (l10 : 0 ≤ cue) (u10 : cue ≤ 5) (l11 : 0 ≤ n) (u11 : n ≤ 0) (l12 : 1 ≤ a) (u12 : a ≤ 3) (l13 : 0 ≤ b) (u13 : b ≤ 3) (l14 : 0 ≤ c) (u14 : c ≤ 5) : (True) ∧ rxPSFW S0 ws S none := by
  exact ⟨trivial, rfl, hinv⟩
theorem rxfFW_4_0 {X : (Nat → Int → Int) → Prop} {S0 : Nat → Int → Int} {ws : List Int} (hP : rxPFW S0 ws) : bx_obE rxL X S0 rxCFW.2.2.1 (rxIFW S0 ws) (rxPSFW S0 ws) 4 rxzFW_4 rxeFW_4_0 := by
  intro S S_p r r_p hinv hX hin hsm_ hseg
  obtain ⟨I0, I1, h0_, hr_, b_, f_, d_⟩ := bx_cl (evs := []) (fvs := []) hseg (by decide +kernel) (by decide +kernel)
  have hinv : rxIFW_4 S0 ws S (r 8) (r 9) (r 10) (r 11) (r 12) (r 13) (r 14) := hinv
  rw [← hr_ 8 (by decide), ← hr_ 9 (by decide), ← hr_ 10 (by decide), ← hr_ 11 (by decide), ← hr_ 12 (by decide), ← hr_ 13 (by decide), ← hr_ 14 (by decide)] at hinv
  obtain ⟨⟨l8, u8⟩, ⟨l9, u9⟩, ⟨l10, u10⟩, ⟨l11, u11⟩, ⟨l12, u12⟩, ⟨l13, u13⟩, ⟨l14, u14⟩, -⟩ := b_
  have w_ := d_
  subst w_
  have g := rxdFW_4_0 hP hin hsm_ I0 I1 hinv l8 u8 l9 u9 l10 u10 l11 u11 l12 u12 l13 u13 l14 u14
  refine ⟨bx_narP_ok (l := []) g.1, ?_⟩
  exact g.2
theorem rxcFW_5_0 {S0 : Nat → Int → Int} {ws : List Int} {S : Nat → Int → Int} {m row1 cue n k : Int} (hP : rxPFW S0 ws) (hin : bx_same rxL (bx_mdl rxCFW.2.2.1) S0 S) (I0 : bx_Inv rxL S) (hinv : rxIFW_5 S0 ws S m row1 cue n k) (l8 : 1 ≤ m) (u8 : m ≤ 3) (l9 : 0 ≤ row1) (u9 : row1 ≤ 3) (l10 : 0 ≤ cue) (u10 : cue ≤ 5) (l11 : 1 ≤ n) (u11 : n ≤ 12) (l12 : 0 ≤ k) (u12 : k ≤ 11) : (True) ∧ (True) ∧ rxIFW_6 S0 ws S m row1 cue n k k ∧ rxmFW_6 S0 ws S m row1 cue n k k < rxmFW_5 S0 ws S m row1 cue n k := by
  refine ⟨trivial, trivial, ⟨rfl, hinv⟩, ?_⟩
  unfold rxmFW_5 rxmFW_6
  rw [if_neg (by omega)]
  omega
theorem rxgFW_5_0 {X : (Nat → Int → Int) → Prop} {S0 : Nat → Int → Int} {ws : List Int} (hP : rxPFW S0 ws) : bx_obC rxL X S0 rxCFW.2.2.1 (rxIFW S0 ws) (rxmFW S0 ws) 5 rxzFW_5 rxoFW_5_0 := by
  intro S S_p r r_p hinv hX hin hsm_ hseg
  obtain ⟨I0, I1, h0_, hr_, b_, f_, d_⟩ := bx_cl (evs := []) (fvs := []) hseg (by decide +kernel) (by decide +kernel)
  have hinv : rxIFW_5 S0 ws S (r 8) (r 9) (r 10) (r 11) (r 12) := hinv
  rw [← hr_ 8 (by decide), ← hr_ 9 (by decide), ← hr_ 10 (by decide), ← hr_ 11 (by decide), ← hr_ 12 (by decide)] at hinv
  obtain ⟨⟨l8, u8⟩, ⟨l9, u9⟩, ⟨l10, u10⟩, ⟨l11, u11⟩, ⟨l12, u12⟩, -⟩ := b_
  have w_ := d_
  subst w_
  have g := rxcFW_5_0 hP hin I0 hinv l8 u8 l9 u9 l10 u10 l11 u11 l12 u12
  refine ⟨bx_narP_ok (l := []) g.1, bx_nfP_ok h0_ (fvs := []) (by decide +kernel) g.2.1, ?_, ?_⟩
  · show rxIFW_6 S0 ws S_p (bx_val [(0, 0), (0, 0), (0, 0), (0, 0), (0, 0), (0, 0), (0, 0), (0, 0), (8, 0), (9, 0), (10, 0), (11, 0), (12, 0), (12, 0)] r_p 8) (bx_val [(0, 0), (0, 0), (0, 0), (0, 0), (0, 0), (0, 0), (0, 0), (0, 0), (8, 0), (9, 0), (10, 0), (11, 0), (12, 0), (12, 0)] r_p 9) (bx_val [(0, 0), (0, 0), (0, 0), (0, 0), (0, 0), (0, 0), (0, 0), (0, 0), (8, 0), (9, 0), (10, 0), (11, 0), (12, 0), (12, 0)] r_p 10) (bx_val [(0, 0), (0, 0), (0, 0), (0, 0), (0, 0), (0, 0), (0, 0), (0, 0), (8, 0), (9, 0), (10, 0), (11, 0), (12, 0), (12, 0)] r_p 11) (bx_val [(0, 0), (0, 0), (0, 0), (0, 0), (0, 0), (0, 0), (0, 0), (0, 0), (8, 0), (9, 0), (10, 0), (11, 0), (12, 0), (12, 0)] r_p 12) (bx_val [(0, 0), (0, 0), (0, 0), (0, 0), (0, 0), (0, 0), (0, 0), (0, 0), (8, 0), (9, 0), (10, 0), (11, 0), (12, 0), (12, 0)] r_p 13)
    rw [bx_val_x (n := 8) (e := (8, 0)) h0_ rfl, bx_val_x (n := 9) (e := (9, 0)) h0_ rfl, bx_val_x (n := 10) (e := (10, 0)) h0_ rfl, bx_val_x (n := 11) (e := (11, 0)) h0_ rfl, bx_val_x (n := 12) (e := (12, 0)) h0_ rfl, bx_val_x (n := 13) (e := (12, 0)) h0_ rfl]
    exact g.2.2.1
  · show rxmFW_6 S0 ws S_p (bx_val [(0, 0), (0, 0), (0, 0), (0, 0), (0, 0), (0, 0), (0, 0), (0, 0), (8, 0), (9, 0), (10, 0), (11, 0), (12, 0), (12, 0)] r_p 8) (bx_val [(0, 0), (0, 0), (0, 0), (0, 0), (0, 0), (0, 0), (0, 0), (0, 0), (8, 0), (9, 0), (10, 0), (11, 0), (12, 0), (12, 0)] r_p 9) (bx_val [(0, 0), (0, 0), (0, 0), (0, 0), (0, 0), (0, 0), (0, 0), (0, 0), (8, 0), (9, 0), (10, 0), (11, 0), (12, 0), (12, 0)] r_p 10) (bx_val [(0, 0), (0, 0), (0, 0), (0, 0), (0, 0), (0, 0), (0, 0), (0, 0), (8, 0), (9, 0), (10, 0), (11, 0), (12, 0), (12, 0)] r_p 11) (bx_val [(0, 0), (0, 0), (0, 0), (0, 0), (0, 0), (0, 0), (0, 0), (0, 0), (8, 0), (9, 0), (10, 0), (11, 0), (12, 0), (12, 0)] r_p 12) (bx_val [(0, 0), (0, 0), (0, 0), (0, 0), (0, 0), (0, 0), (0, 0), (0, 0), (8, 0), (9, 0), (10, 0), (11, 0), (12, 0), (12, 0)] r_p 13) < rxmFW_5 S0 ws S_p (r 8) (r 9) (r 10) (r 11) (r 12)
    rw [bx_val_x (n := 8) (e := (8, 0)) h0_ rfl, bx_val_x (n := 9) (e := (9, 0)) h0_ rfl, bx_val_x (n := 10) (e := (10, 0)) h0_ rfl, bx_val_x (n := 11) (e := (11, 0)) h0_ rfl, bx_val_x (n := 12) (e := (12, 0)) h0_ rfl, bx_val_x (n := 13) (e := (12, 0)) h0_ rfl, ← hr_ 8 (by decide), ← hr_ 9 (by decide), ← hr_ 10 (by decide), ← hr_ 11 (by decide), ← hr_ 12 (by decide)]
    exact g.2.2.2
theorem rxdFW_5_0 {S0 : Nat → Int → Int} {ws : List Int} {S : Nat → Int → Int} {m row1 cue n k : Int} (hP : rxPFW S0 ws) (hin : bx_same rxL (bx_mdl rxCFW.2.2.1) S0 S) (hin2 : bx_same rxL (bx_mdl rxCFW.2.2.1) S S) (I0 : bx_Inv rxL S) (I1 : bx_Inv rxL S) (hinv : rxIFW_5 S0 ws S m row1 cue n k) (l8 : 1 ≤ m) (u8 : m ≤ 3) (l9 : 0 ≤ row1) (u9 : row1 ≤ 3) (l10 : 0 ≤ cue) (u10 : cue ≤ 5) (l11 : 1 ≤ n) (u11 : n ≤ 12) (l12 : (-1) ≤ k) (u12 : k ≤ (-1)) : (True) ∧ rxPSFW S0 ws S none := by
  exact ⟨trivial, rfl, hinv.2.2.1⟩
theorem rxfFW_5_0 {X : (Nat → Int → Int) → Prop} {S0 : Nat → Int → Int} {ws : List Int} (hP : rxPFW S0 ws) : bx_obE rxL X S0 rxCFW.2.2.1 (rxIFW S0 ws) (rxPSFW S0 ws) 5 rxzFW_5 rxeFW_5_0 := by
  intro S S_p r r_p hinv hX hin hsm_ hseg
  obtain ⟨I0, I1, h0_, hr_, b_, f_, d_⟩ := bx_cl (evs := []) (fvs := []) hseg (by decide +kernel) (by decide +kernel)
  have hinv : rxIFW_5 S0 ws S (r 8) (r 9) (r 10) (r 11) (r 12) := hinv
  rw [← hr_ 8 (by decide), ← hr_ 9 (by decide), ← hr_ 10 (by decide), ← hr_ 11 (by decide), ← hr_ 12 (by decide)] at hinv
  obtain ⟨⟨l8, u8⟩, ⟨l9, u9⟩, ⟨l10, u10⟩, ⟨l11, u11⟩, ⟨l12, u12⟩, -⟩ := b_
  have w_ := d_
  subst w_
  have g := rxdFW_5_0 hP hin hsm_ I0 I1 hinv l8 u8 l9 u9 l10 u10 l11 u11 l12 u12
  refine ⟨bx_narP_ok (l := []) g.1, ?_⟩
  exact g.2
theorem rxcFW_7_0 {S0 : Nat → Int → Int} {ws : List Int} {S : Nat → Int → Int} {m row1 cue n k a : Int} (hP : rxPFW S0 ws) (hin : bx_same rxL (bx_mdl rxCFW.2.2.1) S0 S) (I0 : bx_Inv rxL S) (hinv : rxIFW_7 S0 ws S m row1 cue n k a) (l8 : 1 ≤ m) (u8 : m ≤ 3) (l9 : 0 ≤ row1) (u9 : row1 ≤ 3) (l10 : 0 ≤ cue) (u10 : cue ≤ 5) (l11 : 1 ≤ n) (u11 : n ≤ 12) (l12 : 0 ≤ k) (u12 : k ≤ 11) (l13 : 0 ≤ a) (u13 : a ≤ 11) : (True) ∧ (True) ∧ rxIFW_8 S0 ws S m row1 cue n k k m ∧ rxmFW_8 S0 ws S m row1 cue n k k m < rxmFW_7 S0 ws S m row1 cue n k a := by
  exact ⟨trivial, trivial, ⟨rfl, rfl, hinv⟩, by unfold rxmFW_7 rxmFW_8; omega⟩
theorem rxgFW_7_0 {X : (Nat → Int → Int) → Prop} {S0 : Nat → Int → Int} {ws : List Int} (hP : rxPFW S0 ws) : bx_obC rxL X S0 rxCFW.2.2.1 (rxIFW S0 ws) (rxmFW S0 ws) 7 rxzFW_7 rxoFW_7_0 := by
  intro S S_p r r_p hinv hX hin hsm_ hseg
  obtain ⟨I0, I1, h0_, hr_, b_, f_, d_⟩ := bx_cl (evs := []) (fvs := []) hseg (by decide +kernel) (by decide +kernel)
  have hinv : rxIFW_7 S0 ws S (r 8) (r 9) (r 10) (r 11) (r 12) (r 13) := hinv
  rw [← hr_ 8 (by decide), ← hr_ 9 (by decide), ← hr_ 10 (by decide), ← hr_ 11 (by decide), ← hr_ 12 (by decide), ← hr_ 13 (by decide)] at hinv
  obtain ⟨⟨l8, u8⟩, ⟨l9, u9⟩, ⟨l10, u10⟩, ⟨l11, u11⟩, ⟨l12, u12⟩, ⟨l13, u13⟩, -⟩ := b_
  have w_ := d_
  subst w_
  have g := rxcFW_7_0 hP hin I0 hinv l8 u8 l9 u9 l10 u10 l11 u11 l12 u12 l13 u13
  refine ⟨bx_narP_ok (l := []) g.1, bx_nfP_ok h0_ (fvs := []) (by decide +kernel) g.2.1, ?_, ?_⟩
  · show rxIFW_8 S0 ws S_p (bx_val [(0, 0), (0, 0), (0, 0), (0, 0), (0, 0), (0, 0), (0, 0), (0, 0), (8, 0), (9, 0), (10, 0), (11, 0), (12, 0), (12, 0), (8, 0)] r_p 8) (bx_val [(0, 0), (0, 0), (0, 0), (0, 0), (0, 0), (0, 0), (0, 0), (0, 0), (8, 0), (9, 0), (10, 0), (11, 0), (12, 0), (12, 0), (8, 0)] r_p 9) (bx_val [(0, 0), (0, 0), (0, 0), (0, 0), (0, 0), (0, 0), (0, 0), (0, 0), (8, 0), (9, 0), (10, 0), (11, 0), (12, 0), (12, 0), (8, 0)] r_p 10) (bx_val [(0, 0), (0, 0), (0, 0), (0, 0), (0, 0), (0, 0), (0, 0), (0, 0), (8, 0), (9, 0), (10, 0), (11, 0), (12, 0), (12, 0), (8, 0)] r_p 11) (bx_val [(0, 0), (0, 0), (0, 0), (0, 0), (0, 0), (0, 0), (0, 0), (0, 0), (8, 0), (9, 0), (10, 0), (11, 0), (12, 0), (12, 0), (8, 0)] r_p 12) (bx_val [(0, 0), (0, 0), (0, 0), (0, 0), (0, 0), (0, 0), (0, 0), (0, 0), (8, 0), (9, 0), (10, 0), (11, 0), (12, 0), (12, 0), (8, 0)] r_p 13) (bx_val [(0, 0), (0, 0), (0, 0), (0, 0), (0, 0), (0, 0), (0, 0), (0, 0), (8, 0), (9, 0), (10, 0), (11, 0), (12, 0), (12, 0), (8, 0)] r_p 14)
    rw [bx_val_x (n := 8) (e := (8, 0)) h0_ rfl, bx_val_x (n := 9) (e := (9, 0)) h0_ rfl, bx_val_x (n := 10) (e := (10, 0)) h0_ rfl, bx_val_x (n := 11) (e := (11, 0)) h0_ rfl, bx_val_x (n := 12) (e := (12, 0)) h0_ rfl, bx_val_x (n := 13) (e := (12, 0)) h0_ rfl, bx_val_x (n := 14) (e := (8, 0)) h0_ rfl]
    exact g.2.2.1
  · show rxmFW_8 S0 ws S_p (bx_val [(0, 0), (0, 0), (0, 0), (0, 0), (0, 0), (0, 0), (0, 0), (0, 0), (8, 0), (9, 0), (10, 0), (11, 0), (12, 0), (12, 0), (8, 0)] r_p 8) (bx_val [(0, 0), (0, 0), (0, 0), (0, 0), (0, 0), (0, 0), (0, 0), (0, 0), (8, 0), (9, 0), (10, 0), (11, 0), (12, 0), (12, 0), (8, 0)] r_p 9) (bx_val [(0, 0), (0, 0), (0, 0), (0, 0), (0, 0), (0, 0), (0, 0), (0, 0), (8, 0), (9, 0), (10, 0), (11, 0), (12, 0), (12, 0), (8, 0)] r_p 10) (bx_val [(0, 0), (0, 0), (0, 0), (0, 0), (0, 0), (0, 0), (0, 0), (0, 0), (8, 0), (9, 0), (10, 0), (11, 0), (12, 0), (12, 0), (8, 0)] r_p 11) (bx_val [(0, 0), (0, 0), (0, 0), (0, 0), (0, 0), (0, 0), (0, 0), (0, 0), (8, 0), (9, 0), (10, 0), (11, 0), (12, 0), (12, 0), (8, 0)] r_p 12) (bx_val [(0, 0), (0, 0), (0, 0), (0, 0), (0, 0), (0, 0), (0, 0), (0, 0), (8, 0), (9, 0), (10, 0), (11, 0), (12, 0), (12, 0), (8, 0)] r_p 13) (bx_val [(0, 0), (0, 0), (0, 0), (0, 0), (0, 0), (0, 0), (0, 0), (0, 0), (8, 0), (9, 0), (10, 0), (11, 0), (12, 0), (12, 0), (8, 0)] r_p 14) < rxmFW_7 S0 ws S_p (r 8) (r 9) (r 10) (r 11) (r 12) (r 13)
    rw [bx_val_x (n := 8) (e := (8, 0)) h0_ rfl, bx_val_x (n := 9) (e := (9, 0)) h0_ rfl, bx_val_x (n := 10) (e := (10, 0)) h0_ rfl, bx_val_x (n := 11) (e := (11, 0)) h0_ rfl, bx_val_x (n := 12) (e := (12, 0)) h0_ rfl, bx_val_x (n := 13) (e := (12, 0)) h0_ rfl, bx_val_x (n := 14) (e := (8, 0)) h0_ rfl, ← hr_ 8 (by decide), ← hr_ 9 (by decide), ← hr_ 10 (by decide), ← hr_ 11 (by decide), ← hr_ 12 (by decide), ← hr_ 13 (by decide)]
    exact g.2.2.2
theorem rxcFW_9_0 {S0 : Nat → Int → Int} {ws : List Int} {S : Nat → Int → Int} {m row1 cue n k a b go : Int} (hP : rxPFW S0 ws) (hin : bx_same rxL (bx_mdl rxCFW.2.2.1) S0 S) (I0 : bx_Inv rxL S) (hinv : rxIFW_9 S0 ws S m row1 cue n k a b go) (l8 : 1 ≤ m) (u8 : m ≤ 3) (l9 : 0 ≤ row1) (u9 : row1 ≤ 3) (l10 : 0 ≤ cue) (u10 : cue ≤ 5) (l11 : 1 ≤ n) (u11 : n ≤ 12) (l12 : 0 ≤ k) (u12 : k ≤ 11) (l13 : 0 ≤ a) (u13 : a ≤ 11) (l14 : 1 ≤ b) (u14 : b ≤ 3) (l15 : 1 ≤ go) (u15 : go ≤ 1) (f0 : k = n + (-1)) (f1 : go ≠ 0) : (True) ∧ (True) ∧ rxIFW_10 S0 ws S m row1 cue n k m row1 cue ∧ rxmFW_10 S0 ws S m row1 cue n k m row1 cue < rxmFW_9 S0 ws S m row1 cue n k a b go := by
  obtain ⟨h0, h1, h2, h3, h4, h6⟩ := hinv
  have h5 := h0 (by omega)
  refine ⟨trivial, trivial, ⟨h5.1, h1, h2, h3, h4, fun _ => ⟨by omega, h5.2.1⟩, h6⟩, ?_⟩
  unfold rxmFW_9 rxmFW_10
  rw [if_pos (by omega)]
  omega
theorem rxgFW_9_0 {X : (Nat → Int → Int) → Prop} {S0 : Nat → Int → Int} {ws : List Int} (hP : rxPFW S0 ws) : bx_obC rxL X S0 rxCFW.2.2.1 (rxIFW S0 ws) (rxmFW S0 ws) 9 rxzFW_9 rxoFW_9_0 := by
  intro S S_p r r_p hinv hX hin hsm_ hseg
  obtain ⟨I0, I1, h0_, hr_, b_, f_, d_⟩ := bx_cl (evs := []) (fvs := [(2, (12, 0), (11, (-1)), (0, 0)), (3, (15, 0), (0, 0), (0, 0))]) hseg (by decide +kernel) (by decide +kernel)
  have hinv : rxIFW_9 S0 ws S (r 8) (r 9) (r 10) (r 11) (r 12) (r 13) (r 14) (r 15) := hinv
  rw [← hr_ 8 (by decide), ← hr_ 9 (by decide), ← hr_ 10 (by decide), ← hr_ 11 (by decide), ← hr_ 12 (by decide), ← hr_ 13 (by decide), ← hr_ 14 (by decide), ← hr_ 15 (by decide)] at hinv
  obtain ⟨⟨l8, u8⟩, ⟨l9, u9⟩, ⟨l10, u10⟩, ⟨l11, u11⟩, ⟨l12, u12⟩, ⟨l13, u13⟩, ⟨l14, u14⟩, ⟨l15, u15⟩, -⟩ := b_
  obtain ⟨f0, f1, -⟩ := f_
  have w_ := d_
  subst w_
  have g := rxcFW_9_0 hP hin I0 hinv l8 u8 l9 u9 l10 u10 l11 u11 l12 u12 l13 u13 l14 u14 l15 u15 f0 f1
  refine ⟨bx_narP_ok (l := []) g.1, bx_nfP_ok h0_ (fvs := []) (by decide +kernel) g.2.1, ?_, ?_⟩
  · show rxIFW_10 S0 ws S_p (bx_val [(0, 0), (0, 0), (0, 0), (0, 0), (0, 0), (0, 0), (0, 0), (0, 0), (8, 0), (9, 0), (10, 0), (11, 0), (12, 0), (8, 0), (9, 0), (10, 0)] r_p 8) (bx_val [(0, 0), (0, 0), (0, 0), (0, 0), (0, 0), (0, 0), (0, 0), (0, 0), (8, 0), (9, 0), (10, 0), (11, 0), (12, 0), (8, 0), (9, 0), (10, 0)] r_p 9) (bx_val [(0, 0), (0, 0), (0, 0), (0, 0), (0, 0), (0, 0), (0, 0), (0, 0), (8, 0), (9, 0), (10, 0), (11, 0), (12, 0), (8, 0), (9, 0), (10, 0)] r_p 10) (bx_val [(0, 0), (0, 0), (0, 0), (0, 0), (0, 0), (0, 0), (0, 0), (0, 0), (8, 0), (9, 0), (10, 0), (11, 0), (12, 0), (8, 0), (9, 0), (10, 0)] r_p 11) (bx_val [(0, 0), (0, 0), (0, 0), (0, 0), (0, 0), (0, 0), (0, 0), (0, 0), (8, 0), (9, 0), (10, 0), (11, 0), (12, 0), (8, 0), (9, 0), (10, 0)] r_p 12) (bx_val [(0, 0), (0, 0), (0, 0), (0, 0), (0, 0), (0, 0), (0, 0), (0, 0), (8, 0), (9, 0), (10, 0), (11, 0), (12, 0), (8, 0), (9, 0), (10, 0)] r_p 13) (bx_val [(0, 0), (0, 0), (0, 0), (0, 0), (0, 0), (0, 0), (0, 0), (0, 0), (8, 0), (9, 0), (10, 0), (11, 0), (12, 0), (8, 0), (9, 0), (10, 0)] r_p 14) (bx_val [(0, 0), (0, 0), (0, 0), (0, 0), (0, 0), (0, 0), (0, 0), (0, 0), (8, 0), (9, 0), (10, 0), (11, 0), (12, 0), (8, 0), (9, 0), (10, 0)] r_p 15)
    rw [bx_val_x (n := 8) (e := (8, 0)) h0_ rfl, bx_val_x (n := 9) (e := (9, 0)) h0_ rfl, bx_val_x (n := 10) (e := (10, 0)) h0_ rfl, bx_val_x (n := 11) (e := (11, 0)) h0_ rfl, bx_val_x (n := 12) (e := (12, 0)) h0_ rfl, bx_val_x (n := 13) (e := (8, 0)) h0_ rfl, bx_val_x (n := 14) (e := (9, 0)) h0_ rfl, bx_val_x (n := 15) (e := (10, 0)) h0_ rfl]
    exact g.2.2.1
  · show rxmFW_10 S0 ws S_p (bx_val [(0, 0), (0, 0), (0, 0), (0, 0), (0, 0), (0, 0), (0, 0), (0, 0), (8, 0), (9, 0), (10, 0), (11, 0), (12, 0), (8, 0), (9, 0), (10, 0)] r_p 8) (bx_val [(0, 0), (0, 0), (0, 0), (0, 0), (0, 0), (0, 0), (0, 0), (0, 0), (8, 0), (9, 0), (10, 0), (11, 0), (12, 0), (8, 0), (9, 0), (10, 0)] r_p 9) (bx_val [(0, 0), (0, 0), (0, 0), (0, 0), (0, 0), (0, 0), (0, 0), (0, 0), (8, 0), (9, 0), (10, 0), (11, 0), (12, 0), (8, 0), (9, 0), (10, 0)] r_p 10) (bx_val [(0, 0), (0, 0), (0, 0), (0, 0), (0, 0), (0, 0), (0, 0), (0, 0), (8, 0), (9, 0), (10, 0), (11, 0), (12, 0), (8, 0), (9, 0), (10, 0)] r_p 11) (bx_val [(0, 0), (0, 0), (0, 0), (0, 0), (0, 0), (0, 0), (0, 0), (0, 0), (8, 0), (9, 0), (10, 0), (11, 0), (12, 0), (8, 0), (9, 0), (10, 0)] r_p 12) (bx_val [(0, 0), (0, 0), (0, 0), (0, 0), (0, 0), (0, 0), (0, 0), (0, 0), (8, 0), (9, 0), (10, 0), (11, 0), (12, 0), (8, 0), (9, 0), (10, 0)] r_p 13) (bx_val [(0, 0), (0, 0), (0, 0), (0, 0), (0, 0), (0, 0), (0, 0), (0, 0), (8, 0), (9, 0), (10, 0), (11, 0), (12, 0), (8, 0), (9, 0), (10, 0)] r_p 14) (bx_val [(0, 0), (0, 0), (0, 0), (0, 0), (0, 0), (0, 0), (0, 0), (0, 0), (8, 0), (9, 0), (10, 0), (11, 0), (12, 0), (8, 0), (9, 0), (10, 0)] r_p 15) < rxmFW_9 S0 ws S_p (r 8) (r 9) (r 10) (r 11) (r 12) (r 13) (r 14) (r 15)
    rw [bx_val_x (n := 8) (e := (8, 0)) h0_ rfl, bx_val_x (n := 9) (e := (9, 0)) h0_ rfl, bx_val_x (n := 10) (e := (10, 0)) h0_ rfl, bx_val_x (n := 11) (e := (11, 0)) h0_ rfl, bx_val_x (n := 12) (e := (12, 0)) h0_ rfl, bx_val_x (n := 13) (e := (8, 0)) h0_ rfl, bx_val_x (n := 14) (e := (9, 0)) h0_ rfl, bx_val_x (n := 15) (e := (10, 0)) h0_ rfl, ← hr_ 8 (by decide), ← hr_ 9 (by decide), ← hr_ 10 (by decide), ← hr_ 11 (by decide), ← hr_ 12 (by decide), ← hr_ 13 (by decide), ← hr_ 14 (by decide), ← hr_ 15 (by decide)]
    exact g.2.2.2
theorem rxcFW_9_1 {S0 : Nat → Int → Int} {ws : List Int} {S : Nat → Int → Int} {m row1 cue n k a b go : Int} (hP : rxPFW S0 ws) (hin : bx_same rxL (bx_mdl rxCFW.2.2.1) S0 S) (I0 : bx_Inv rxL S) (hinv : rxIFW_9 S0 ws S m row1 cue n k a b go) (l8 : 1 ≤ m) (u8 : m ≤ 3) (l9 : 0 ≤ row1) (u9 : row1 ≤ 3) (l10 : 0 ≤ cue) (u10 : cue ≤ 5) (l11 : 1 ≤ n) (u11 : n ≤ 12) (l12 : 0 ≤ k) (u12 : k ≤ 11) (l13 : 0 ≤ a) (u13 : a ≤ 11) (l14 : 1 ≤ b) (u14 : b ≤ 3) (l15 : 1 ≤ go) (u15 : go ≤ 1) (f0 : k ≠ n + (-1)) (f1 : go ≠ 0) : ((0 ≤ k ∧ k ≤ 10) ∧ True) ∧ (True) ∧ rxIFW_12 S0 ws S m row1 cue n k ∧ rxmFW_12 S0 ws S m row1 cue n k < rxmFW_9 S0 ws S m row1 cue n k a b go := by
  obtain ⟨h0, h1, h2, h3, h4, h6⟩ := hinv
  have h5 := h0 (by omega)
  refine ⟨⟨by omega, trivial⟩, trivial, ⟨by omega, h5.1, h5.2.2, h1, h2, h3, h4, fun _ => ⟨by omega, h5.2.1⟩, h6⟩, ?_⟩
  unfold rxmFW_9 rxmFW_12
  rw [if_pos (by omega)]
  omega
theorem rxgFW_9_1 {X : (Nat → Int → Int) → Prop} {S0 : Nat → Int → Int} {ws : List Int} (hP : rxPFW S0 ws) : bx_obC rxL X S0 rxCFW.2.2.1 (rxIFW S0 ws) (rxmFW S0 ws) 9 rxzFW_9 rxoFW_9_1 := by
  intro S S_p r r_p hinv hX hin hsm_ hseg
  obtain ⟨I0, I1, h0_, hr_, b_, f_, d_⟩ := bx_cl (evs := []) (fvs := [(3, (12, 0), (11, (-1)), (0, 0)), (3, (15, 0), (0, 0), (0, 0))]) hseg (by decide +kernel) (by decide +kernel)
  have hinv : rxIFW_9 S0 ws S (r 8) (r 9) (r 10) (r 11) (r 12) (r 13) (r 14) (r 15) := hinv
  rw [← hr_ 8 (by decide), ← hr_ 9 (by decide), ← hr_ 10 (by decide), ← hr_ 11 (by decide), ← hr_ 12 (by decide), ← hr_ 13 (by decide), ← hr_ 14 (by decide), ← hr_ 15 (by decide)] at hinv
  obtain ⟨⟨l8, u8⟩, ⟨l9, u9⟩, ⟨l10, u10⟩, ⟨l11, u11⟩, ⟨l12, u12⟩, ⟨l13, u13⟩, ⟨l14, u14⟩, ⟨l15, u15⟩, -⟩ := b_
  obtain ⟨f0, f1, -⟩ := f_
  have w_ := d_
  subst w_
  have g := rxcFW_9_1 hP hin I0 hinv l8 u8 l9 u9 l10 u10 l11 u11 l12 u12 l13 u13 l14 u14 l15 u15 f0 f1
  refine ⟨bx_narP_ok (l := [(12, 0, 10)]) g.1, bx_nfP_ok h0_ (fvs := []) (by decide +kernel) g.2.1, ?_, ?_⟩
  · show rxIFW_12 S0 ws S_p (bx_val [(0, 0), (0, 0), (0, 0), (0, 0), (0, 0), (0, 0), (0, 0), (0, 0), (8, 0), (9, 0), (10, 0), (11, 0), (12, 0)] r_p 8) (bx_val [(0, 0), (0, 0), (0, 0), (0, 0), (0, 0), (0, 0), (0, 0), (0, 0), (8, 0), (9, 0), (10, 0), (11, 0), (12, 0)] r_p 9) (bx_val [(0, 0), (0, 0), (0, 0), (0, 0), (0, 0), (0, 0), (0, 0), (0, 0), (8, 0), (9, 0), (10, 0), (11, 0), (12, 0)] r_p 10) (bx_val [(0, 0), (0, 0), (0, 0), (0, 0), (0, 0), (0, 0), (0, 0), (0, 0), (8, 0), (9, 0), (10, 0), (11, 0), (12, 0)] r_p 11) (bx_val [(0, 0), (0, 0), (0, 0), (0, 0), (0, 0), (0, 0), (0, 0), (0, 0), (8, 0), (9, 0), (10, 0), (11, 0), (12, 0)] r_p 12)
    rw [bx_val_x (n := 8) (e := (8, 0)) h0_ rfl, bx_val_x (n := 9) (e := (9, 0)) h0_ rfl, bx_val_x (n := 10) (e := (10, 0)) h0_ rfl, bx_val_x (n := 11) (e := (11, 0)) h0_ rfl, bx_val_x (n := 12) (e := (12, 0)) h0_ rfl]
    exact g.2.2.1
  · show rxmFW_12 S0 ws S_p (bx_val [(0, 0), (0, 0), (0, 0), (0, 0), (0, 0), (0, 0), (0, 0), (0, 0), (8, 0), (9, 0), (10, 0), (11, 0), (12, 0)] r_p 8) (bx_val [(0, 0), (0, 0), (0, 0), (0, 0), (0, 0), (0, 0), (0, 0), (0, 0), (8, 0), (9, 0), (10, 0), (11, 0), (12, 0)] r_p 9) (bx_val [(0, 0), (0, 0), (0, 0), (0, 0), (0, 0), (0, 0), (0, 0), (0, 0), (8, 0), (9, 0), (10, 0), (11, 0), (12, 0)] r_p 10) (bx_val [(0, 0), (0, 0), (0, 0), (0, 0), (0, 0), (0, 0), (0, 0), (0, 0), (8, 0), (9, 0), (10, 0), (11, 0), (12, 0)] r_p 11) (bx_val [(0, 0), (0, 0), (0, 0), (0, 0), (0, 0), (0, 0), (0, 0), (0, 0), (8, 0), (9, 0), (10, 0), (11, 0), (12, 0)] r_p 12) < rxmFW_9 S0 ws S_p (r 8) (r 9) (r 10) (r 11) (r 12) (r 13) (r 14) (r 15)
    rw [bx_val_x (n := 8) (e := (8, 0)) h0_ rfl, bx_val_x (n := 9) (e := (9, 0)) h0_ rfl, bx_val_x (n := 10) (e := (10, 0)) h0_ rfl, bx_val_x (n := 11) (e := (11, 0)) h0_ rfl, bx_val_x (n := 12) (e := (12, 0)) h0_ rfl, ← hr_ 8 (by decide), ← hr_ 9 (by decide), ← hr_ 10 (by decide), ← hr_ 11 (by decide), ← hr_ 12 (by decide), ← hr_ 13 (by decide), ← hr_ 14 (by decide), ← hr_ 15 (by decide)]
    exact g.2.2.2
theorem rxcFW_9_2 {S0 : Nat → Int → Int} {ws : List Int} {S : Nat → Int → Int} {m row1 cue n k a b go : Int} (hP : rxPFW S0 ws) (hin : bx_same rxL (bx_mdl rxCFW.2.2.1) S0 S) (I0 : bx_Inv rxL S) (hinv : rxIFW_9 S0 ws S m row1 cue n k a b go) (l8 : 1 ≤ m) (u8 : m ≤ 3) (l9 : 0 ≤ row1) (u9 : row1 ≤ 3) (l10 : 0 ≤ cue) (u10 : cue ≤ 5) (l11 : 1 ≤ n) (u11 : n ≤ 12) (l12 : 0 ≤ k) (u12 : k ≤ 11) (l13 : 0 ≤ a) (u13 : a ≤ 11) (l14 : 1 ≤ b) (u14 : b ≤ 3) (l15 : 0 ≤ go) (u15 : go ≤ 0) : (True) ∧ (True) ∧ rxIFW_5 S0 ws S m row1 cue n (k + (-1)) ∧ rxmFW_5 S0 ws S m row1 cue n (k + (-1)) < rxmFW_9 S0 ws S m row1 cue n k a b go := by
  obtain ⟨h0, h1, h2, h3, h4, h6⟩ := hinv
  refine ⟨trivial, trivial, ⟨by omega, h2, h3, fun j x y => h4 j x (by omega), fun x => ?_, fun j x y => h6 j x (by omega)⟩, ?_⟩
  · have := h4 (k + (-1)) x (by omega)
    omega
  · unfold rxmFW_9 rxmFW_5
    rw [if_neg (show ¬ go = 1 by omega)]
    by_cases hk : k ≤ 0
    · rw [if_pos hk, if_pos (show k + (-1) < 0 by omega)]
      omega
    · rw [if_neg hk, if_neg (show ¬ k + (-1) < 0 by omega)]
      omega
theorem rxgFW_9_2 {X : (Nat → Int → Int) → Prop} {S0 : Nat → Int → Int} {ws : List Int} (hP : rxPFW S0 ws) : bx_obC rxL X S0 rxCFW.2.2.1 (rxIFW S0 ws) (rxmFW S0 ws) 9 rxzFW_9 rxoFW_9_2 := by
  intro S S_p r r_p hinv hX hin hsm_ hseg
  obtain ⟨I0, I1, h0_, hr_, b_, f_, d_⟩ := bx_cl (evs := []) (fvs := []) hseg (by decide +kernel) (by decide +kernel)
  have hinv : rxIFW_9 S0 ws S (r 8) (r 9) (r 10) (r 11) (r 12) (r 13) (r 14) (r 15) := hinv
  rw [← hr_ 8 (by decide), ← hr_ 9 (by decide), ← hr_ 10 (by decide), ← hr_ 11 (by decide), ← hr_ 12 (by decide), ← hr_ 13 (by decide), ← hr_ 14 (by decide), ← hr_ 15 (by decide)] at hinv
  obtain ⟨⟨l8, u8⟩, ⟨l9, u9⟩, ⟨l10, u10⟩, ⟨l11, u11⟩, ⟨l12, u12⟩, ⟨l13, u13⟩, ⟨l14, u14⟩, ⟨l15, u15⟩, -⟩ := b_
  have w_ := d_
  subst w_
  have g := rxcFW_9_2 hP hin I0 hinv l8 u8 l9 u9 l10 u10 l11 u11 l12 u12 l13 u13 l14 u14 l15 u15
  refine ⟨bx_narP_ok (l := []) g.1, bx_nfP_ok h0_ (fvs := []) (by decide +kernel) g.2.1, ?_, ?_⟩
  · show rxIFW_5 S0 ws S_p (bx_val [(0, 0), (0, 0), (0, 0), (0, 0), (0, 0), (0, 0), (0, 0), (0, 0), (8, 0), (9, 0), (10, 0), (11, 0), (12, (-1))] r_p 8) (bx_val [(0, 0), (0, 0), (0, 0), (0, 0), (0, 0), (0, 0), (0, 0), (0, 0), (8, 0), (9, 0), (10, 0), (11, 0), (12, (-1))] r_p 9) (bx_val [(0, 0), (0, 0), (0, 0), (0, 0), (0, 0), (0, 0), (0, 0), (0, 0), (8, 0), (9, 0), (10, 0), (11, 0), (12, (-1))] r_p 10) (bx_val [(0, 0), (0, 0), (0, 0), (0, 0), (0, 0), (0, 0), (0, 0), (0, 0), (8, 0), (9, 0), (10, 0), (11, 0), (12, (-1))] r_p 11) (bx_val [(0, 0), (0, 0), (0, 0), (0, 0), (0, 0), (0, 0), (0, 0), (0, 0), (8, 0), (9, 0), (10, 0), (11, 0), (12, (-1))] r_p 12)
    rw [bx_val_x (n := 8) (e := (8, 0)) h0_ rfl, bx_val_x (n := 9) (e := (9, 0)) h0_ rfl, bx_val_x (n := 10) (e := (10, 0)) h0_ rfl, bx_val_x (n := 11) (e := (11, 0)) h0_ rfl, bx_val_x (n := 12) (e := (12, (-1))) h0_ rfl]
    exact g.2.2.1
  · show rxmFW_5 S0 ws S_p (bx_val [(0, 0), (0, 0), (0, 0), (0, 0), (0, 0), (0, 0), (0, 0), (0, 0), (8, 0), (9, 0), (10, 0), (11, 0), (12, (-1))] r_p 8) (bx_val [(0, 0), (0, 0), (0, 0), (0, 0), (0, 0), (0, 0), (0, 0), (0, 0), (8, 0), (9, 0), (10, 0), (11, 0), (12, (-1))] r_p 9) (bx_val [(0, 0), (0, 0), (0, 0), (0, 0), (0, 0), (0, 0), (0, 0), (0, 0), (8, 0), (9, 0), (10, 0), (11, 0), (12, (-1))] r_p 10) (bx_val [(0, 0), (0, 0), (0, 0), (0, 0), (0, 0), (0, 0), (0, 0), (0, 0), (8, 0), (9, 0), (10, 0), (11, 0), (12, (-1))] r_p 11) (bx_val [(0, 0), (0, 0), (0, 0), (0, 0), (0, 0), (0, 0), (0, 0), (0, 0), (8, 0), (9, 0), (10, 0), (11, 0), (12, (-1))] r_p 12) < rxmFW_9 S0 ws S_p (r 8) (r 9) (r 10) (r 11) (r 12) (r 13) (r 14) (r 15)
    rw [bx_val_x (n := 8) (e := (8, 0)) h0_ rfl, bx_val_x (n := 9) (e := (9, 0)) h0_ rfl, bx_val_x (n := 10) (e := (10, 0)) h0_ rfl, bx_val_x (n := 11) (e := (11, 0)) h0_ rfl, bx_val_x (n := 12) (e := (12, (-1))) h0_ rfl, ← hr_ 8 (by decide), ← hr_ 9 (by decide), ← hr_ 10 (by decide), ← hr_ 11 (by decide), ← hr_ 12 (by decide), ← hr_ 13 (by decide), ← hr_ 14 (by decide), ← hr_ 15 (by decide)]
    exact g.2.2.2
theorem rxcFW_11_0 {S0 : Nat → Int → Int} {ws : List Int} {S : Nat → Int → Int} {m row1 cue n k a b c : Int} (hP : rxPFW S0 ws) (hin : bx_same rxL (bx_mdl rxCFW.2.2.1) S0 S) (I0 : bx_Inv rxL S) (hinv : rxIFW_11 S0 ws S m row1 cue n k a b c) (l8 : 1 ≤ m) (u8 : m ≤ 3) (l9 : 0 ≤ row1) (u9 : row1 ≤ 3) (l10 : 0 ≤ cue) (u10 : cue ≤ 5) (l11 : 1 ≤ n) (u11 : n ≤ 12) (l12 : 0 ≤ k) (u12 : k ≤ 11) (l13 : 1 ≤ a) (u13 : a ≤ 3) (l14 : 0 ≤ b) (u14 : b ≤ 3) (l15 : 0 ≤ c) (u15 : c ≤ 5) : (True) ∧ (True) ∧ rxIFW_5 S0 ws S m row1 cue n k ∧ rxmFW_5 S0 ws S m row1 cue n k < rxmFW_11 S0 ws S m row1 cue n k a b c := by
  obtain ⟨h0, h1, h2, h3, h4, h5, h6⟩ := hinv
  have h5a := h5 (by omega)
  refine ⟨trivial, trivial, ⟨h1, h2, h3, h4, h5, h6⟩, ?_⟩
  have p1 := rxSP_next (f := S 519) (k := k)
  have p2 := rxSP_hi (f := S 519) (k := k) (by omega) (by omega) (fun j x y => by have := h4 j x y; omega) (by omega)
  unfold rxmFW_11 rxmFW_5
  rw [if_neg (by omega)]
  omega
theorem rxgFW_11_0 {X : (Nat → Int → Int) → Prop} {S0 : Nat → Int → Int} {ws : List Int} (hP : rxPFW S0 ws) : bx_obC rxL X S0 rxCFW.2.2.1 (rxIFW S0 ws) (rxmFW S0 ws) 11 rxzFW_11 rxoFW_11_0 := by
  intro S S_p r r_p hinv hX hin hsm_ hseg
  obtain ⟨I0, I1, h0_, hr_, b_, f_, d_⟩ := bx_cl (evs := []) (fvs := []) hseg (by decide +kernel) (by decide +kernel)
  have hinv : rxIFW_11 S0 ws S (r 8) (r 9) (r 10) (r 11) (r 12) (r 13) (r 14) (r 15) := hinv
  rw [← hr_ 8 (by decide), ← hr_ 9 (by decide), ← hr_ 10 (by decide), ← hr_ 11 (by decide), ← hr_ 12 (by decide), ← hr_ 13 (by decide), ← hr_ 14 (by decide), ← hr_ 15 (by decide)] at hinv
  obtain ⟨⟨l8, u8⟩, ⟨l9, u9⟩, ⟨l10, u10⟩, ⟨l11, u11⟩, ⟨l12, u12⟩, ⟨l13, u13⟩, ⟨l14, u14⟩, ⟨l15, u15⟩, -⟩ := b_
  have w_ := d_
  subst w_
  have g := rxcFW_11_0 hP hin I0 hinv l8 u8 l9 u9 l10 u10 l11 u11 l12 u12 l13 u13 l14 u14 l15 u15
  refine ⟨bx_narP_ok (l := []) g.1, bx_nfP_ok h0_ (fvs := []) (by decide +kernel) g.2.1, ?_, ?_⟩
  · show rxIFW_5 S0 ws S_p (bx_val [(0, 0), (0, 0), (0, 0), (0, 0), (0, 0), (0, 0), (0, 0), (0, 0), (8, 0), (9, 0), (10, 0), (11, 0), (12, 0)] r_p 8) (bx_val [(0, 0), (0, 0), (0, 0), (0, 0), (0, 0), (0, 0), (0, 0), (0, 0), (8, 0), (9, 0), (10, 0), (11, 0), (12, 0)] r_p 9) (bx_val [(0, 0), (0, 0), (0, 0), (0, 0), (0, 0), (0, 0), (0, 0), (0, 0), (8, 0), (9, 0), (10, 0), (11, 0), (12, 0)] r_p 10) (bx_val [(0, 0), (0, 0), (0, 0), (0, 0), (0, 0), (0, 0), (0, 0), (0, 0), (8, 0), (9, 0), (10, 0), (11, 0), (12, 0)] r_p 11) (bx_val [(0, 0), (0, 0), (0, 0), (0, 0), (0, 0), (0, 0), (0, 0), (0, 0), (8, 0), (9, 0), (10, 0), (11, 0), (12, 0)] r_p 12)
    rw [bx_val_x (n := 8) (e := (8, 0)) h0_ rfl, bx_val_x (n := 9) (e := (9, 0)) h0_ rfl, bx_val_x (n := 10) (e := (10, 0)) h0_ rfl, bx_val_x (n := 11) (e := (11, 0)) h0_ rfl, bx_val_x (n := 12) (e := (12, 0)) h0_ rfl]
    exact g.2.2.1
  · show rxmFW_5 S0 ws S_p (bx_val [(0, 0), (0, 0), (0, 0), (0, 0), (0, 0), (0, 0), (0, 0), (0, 0), (8, 0), (9, 0), (10, 0), (11, 0), (12, 0)] r_p 8) (bx_val [(0, 0), (0, 0), (0, 0), (0, 0), (0, 0), (0, 0), (0, 0), (0, 0), (8, 0), (9, 0), (10, 0), (11, 0), (12, 0)] r_p 9) (bx_val [(0, 0), (0, 0), (0, 0), (0, 0), (0, 0), (0, 0), (0, 0), (0, 0), (8, 0), (9, 0), (10, 0), (11, 0), (12, 0)] r_p 10) (bx_val [(0, 0), (0, 0), (0, 0), (0, 0), (0, 0), (0, 0), (0, 0), (0, 0), (8, 0), (9, 0), (10, 0), (11, 0), (12, 0)] r_p 11) (bx_val [(0, 0), (0, 0), (0, 0), (0, 0), (0, 0), (0, 0), (0, 0), (0, 0), (8, 0), (9, 0), (10, 0), (11, 0), (12, 0)] r_p 12) < rxmFW_11 S0 ws S_p (r 8) (r 9) (r 10) (r 11) (r 12) (r 13) (r 14) (r 15)
    rw [bx_val_x (n := 8) (e := (8, 0)) h0_ rfl, bx_val_x (n := 9) (e := (9, 0)) h0_ rfl, bx_val_x (n := 10) (e := (10, 0)) h0_ rfl, bx_val_x (n := 11) (e := (11, 0)) h0_ rfl, bx_val_x (n := 12) (e := (12, 0)) h0_ rfl, ← hr_ 8 (by decide), ← hr_ 9 (by decide), ← hr_ 10 (by decide), ← hr_ 11 (by decide), ← hr_ 12 (by decide), ← hr_ 13 (by decide), ← hr_ 14 (by decide), ← hr_ 15 (by decide)]
    exact g.2.2.2
theorem rxcFW_12_0 {S0 : Nat → Int → Int} {ws : List Int} {S : Nat → Int → Int} {m row1 cue n k : Int} (hP : rxPFW S0 ws) (hin : bx_same rxL (bx_mdl rxCFW.2.2.1) S0 S) (I0 : bx_Inv rxL S) (hinv : rxIFW_12 S0 ws S m row1 cue n k) (l8 : 1 ≤ m) (u8 : m ≤ 3) (l9 : 0 ≤ row1) (u9 : row1 ≤ 3) (l10 : 0 ≤ cue) (u10 : cue ≤ 5) (l11 : 1 ≤ n) (u11 : n ≤ 12) (l12 : 0 ≤ k) (u12 : k ≤ 10) : (True) ∧ (True) ∧ rxIFW_5 S0 ws (bx_up S 519 (k + 1) ((-1))) m row1 cue n (k + 1) ∧ rxmFW_5 S0 ws (bx_up S 519 (k + 1) ((-1))) m row1 cue n (k + 1) < rxmFW_12 S0 ws S m row1 cue n k := by
  obtain ⟨hk, h0, hs, h1, h2, h3, h4, h5, h6⟩ := hinv
  have n6 := rxN6 I0
  have hne : ∀ j : Int, j ≠ k + 1 → (bx_up S 519 (k + 1) ((-1))) 519 j = S 519 j := fun j hj => bx_up_ne (by omega)
  have q518 : ∀ j : Int, (bx_up S 519 (k + 1) ((-1))) 518 j = S 518 j := fun j => by simp [bx_up]
  have e := rxSP_push (f := S 519) (g := (bx_up S 519 (k + 1) ((-1))) 519) (k := k) (by omega) (fun j x y => hne j (by omega)) bx_up_at
  refine ⟨trivial, trivial, ⟨hk, by rw [h2]; simp [bx_up], rxOrd_cg h3 (by simp [bx_up]) n6.2 (fun i _ _ => by simp [bx_up]), fun j x y => ?_, fun x => ?_, fun j x y => ?_⟩, ?_⟩
  · rw [hne j (by omega)]
    by_cases hj : j = k
    · subst hj
      exact ⟨h0, (h5 x).2⟩
    · exact h4 j x (by omega)
  · rw [bx_up_at]
    omega
  · rw [q518]
    by_cases hj : j = k + 1
    · subst hj
      exact hs
    · exact h6 j x (by omega)
  · unfold rxmFW_12 rxmFW_5
    rw [if_neg (by omega), e]
    omega
theorem rxgFW_12_0 {X : (Nat → Int → Int) → Prop} {S0 : Nat → Int → Int} {ws : List Int} (hP : rxPFW S0 ws) : bx_obC rxL X S0 rxCFW.2.2.1 (rxIFW S0 ws) (rxmFW S0 ws) 12 rxzFW_12 rxoFW_12_0 := by
  intro S S_p r r_p hinv hX hin hsm_ hseg
  obtain ⟨I0, I1, h0_, hr_, b_, f_, d_⟩ := bx_cl (evs := [(1, (0, 519), (12, 1), .inr (0, (0, (-1))))]) (fvs := []) hseg (by decide +kernel) (by decide +kernel)
  have hinv : rxIFW_12 S0 ws S (r 8) (r 9) (r 10) (r 11) (r 12) := hinv
  rw [← hr_ 8 (by decide), ← hr_ 9 (by decide), ← hr_ 10 (by decide), ← hr_ 11 (by decide), ← hr_ 12 (by decide)] at hinv
  obtain ⟨⟨l8, u8⟩, ⟨l9, u9⟩, ⟨l10, u10⟩, ⟨l11, u11⟩, ⟨l12, u12⟩, -⟩ := b_
  obtain ⟨T0, w_, w0⟩ := d_
  subst w0
  subst w_
  have g := rxcFW_12_0 hP hin I0 hinv l8 u8 l9 u9 l10 u10 l11 u11 l12 u12
  refine ⟨bx_narP_ok (l := []) g.1, bx_nfP_ok h0_ (fvs := []) (by decide +kernel) g.2.1, ?_, ?_⟩
  · show rxIFW_5 S0 ws (bx_up T0 519 (r_p 12 + 1) ((-1))) (bx_val [(0, 0), (0, 0), (0, 0), (0, 0), (0, 0), (0, 0), (0, 0), (0, 0), (8, 0), (9, 0), (10, 0), (11, 0), (12, 1)] r_p 8) (bx_val [(0, 0), (0, 0), (0, 0), (0, 0), (0, 0), (0, 0), (0, 0), (0, 0), (8, 0), (9, 0), (10, 0), (11, 0), (12, 1)] r_p 9) (bx_val [(0, 0), (0, 0), (0, 0), (0, 0), (0, 0), (0, 0), (0, 0), (0, 0), (8, 0), (9, 0), (10, 0), (11, 0), (12, 1)] r_p 10) (bx_val [(0, 0), (0, 0), (0, 0), (0, 0), (0, 0), (0, 0), (0, 0), (0, 0), (8, 0), (9, 0), (10, 0), (11, 0), (12, 1)] r_p 11) (bx_val [(0, 0), (0, 0), (0, 0), (0, 0), (0, 0), (0, 0), (0, 0), (0, 0), (8, 0), (9, 0), (10, 0), (11, 0), (12, 1)] r_p 12)
    rw [bx_val_x (n := 8) (e := (8, 0)) h0_ rfl, bx_val_x (n := 9) (e := (9, 0)) h0_ rfl, bx_val_x (n := 10) (e := (10, 0)) h0_ rfl, bx_val_x (n := 11) (e := (11, 0)) h0_ rfl, bx_val_x (n := 12) (e := (12, 1)) h0_ rfl]
    exact g.2.2.1
  · show rxmFW_5 S0 ws (bx_up T0 519 (r_p 12 + 1) ((-1))) (bx_val [(0, 0), (0, 0), (0, 0), (0, 0), (0, 0), (0, 0), (0, 0), (0, 0), (8, 0), (9, 0), (10, 0), (11, 0), (12, 1)] r_p 8) (bx_val [(0, 0), (0, 0), (0, 0), (0, 0), (0, 0), (0, 0), (0, 0), (0, 0), (8, 0), (9, 0), (10, 0), (11, 0), (12, 1)] r_p 9) (bx_val [(0, 0), (0, 0), (0, 0), (0, 0), (0, 0), (0, 0), (0, 0), (0, 0), (8, 0), (9, 0), (10, 0), (11, 0), (12, 1)] r_p 10) (bx_val [(0, 0), (0, 0), (0, 0), (0, 0), (0, 0), (0, 0), (0, 0), (0, 0), (8, 0), (9, 0), (10, 0), (11, 0), (12, 1)] r_p 11) (bx_val [(0, 0), (0, 0), (0, 0), (0, 0), (0, 0), (0, 0), (0, 0), (0, 0), (8, 0), (9, 0), (10, 0), (11, 0), (12, 1)] r_p 12) < rxmFW_12 S0 ws T0 (r 8) (r 9) (r 10) (r 11) (r 12)
    rw [bx_val_x (n := 8) (e := (8, 0)) h0_ rfl, bx_val_x (n := 9) (e := (9, 0)) h0_ rfl, bx_val_x (n := 10) (e := (10, 0)) h0_ rfl, bx_val_x (n := 11) (e := (11, 0)) h0_ rfl, bx_val_x (n := 12) (e := (12, 1)) h0_ rfl, ← hr_ 8 (by decide), ← hr_ 9 (by decide), ← hr_ 10 (by decide), ← hr_ 11 (by decide), ← hr_ 12 (by decide)]
    exact g.2.2.2
theorem rxgCFW {X : (Nat → Int → Int) → Prop} {S0 : Nat → Int → Int} {ws : List Int} (hP : rxPFW S0 ws) : bx_allI (fun i q => rxUFW q = true ∨ bx_allP (fun o => bx_obC rxL X S0 rxCFW.2.2.1 (rxIFW S0 ws) (rxmFW S0 ws) i q.1 o) q.2.1) 0 rxYFW := ⟨Or.inr ⟨rxgFW_0_0 hP, trivial⟩, Or.inr ⟨rxgFW_1_0 hP, rxgFW_1_1 hP, trivial⟩, Or.inr ⟨rxgFW_2_0 hP, rxgFW_2_1 hP, rxgFW_2_2 hP, trivial⟩, Or.inl rfl, Or.inr trivial, Or.inr ⟨rxgFW_5_0 hP, trivial⟩, Or.inl rfl, Or.inr ⟨rxgFW_7_0 hP, trivial⟩, Or.inl rfl, Or.inr ⟨rxgFW_9_0 hP, rxgFW_9_1 hP, rxgFW_9_2 hP, trivial⟩, Or.inl rfl, Or.inr ⟨rxgFW_11_0 hP, trivial⟩, Or.inr ⟨rxgFW_12_0 hP, trivial⟩, trivial⟩
theorem rxgEFW {X : (Nat → Int → Int) → Prop} {S0 : Nat → Int → Int} {ws : List Int} (hP : rxPFW S0 ws) : bx_allI (fun i q => rxUFW q = true ∨ bx_allP (fun E => bx_obE rxL X S0 rxCFW.2.2.1 (rxIFW S0 ws) (rxPSFW S0 ws) i q.1 E) q.2.2) 0 rxYFW := ⟨Or.inr trivial, Or.inr trivial, Or.inr trivial, Or.inl rfl, Or.inr ⟨rxfFW_4_0 hP, trivial⟩, Or.inr ⟨rxfFW_5_0 hP, trivial⟩, Or.inl rfl, Or.inr trivial, Or.inl rfl, Or.inr trivial, Or.inl rfl, Or.inr trivial, Or.inr trivial, trivial⟩
theorem rxuFW {PX : State → Prop} {Dg : va_G} {A : Nat → Prop} {ad xa : Nat → Nat} {l : Launch} {X : (Nat → Int → Int) → Prop} (hPX : rx_PXOK rxNW A PX) (hX : ∀ S S1 : Nat → Int → Int, X S → bx_same rxL (bx_mdl rxCFW.2.2.1) S S1 → X S1) (hQME : bx_ConP rxG rxNW rxAO PX Dg rxL X vwCl A ad l rxM319 rxCME rxPME rxPSME) (hQTB : bx_ConP rxG rxNW rxAO PX Dg rxL X vwCl A ad l rxM320 rxCTB rxPTB rxPSTB) (hQGO : bx_ConP rxG rxNW rxAO PX Dg rxL X vwCl A ad l rxM321 rxCGO rxPGO rxPSGO) {S0 : Nat → Int → Int} {ws : List Int} (hP : rxPFW S0 ws) : ∀ (i : Nat) (q : bx_HE), rxYFW[i]? = some q → rxUFW q = true → ∀ {p : Program} {e : Env} {R : Room} {s : State} {m : MethodId} {args : Array Value} {below : List Frame} {meth : Method} {c : Code} {Q : State → Prop} {H0 : Heap}, rx_Fr rxG rxNW rxAO PX p s m args meth c rxM323 → (∀ q, H0.size ≤ q → A q) → H0 = s.heap → rxM323.2.2.2.2.2.2.1 ≤ R.cells → rxM323.2.2.2.2.2.2.2 ≤ R.slots → rxCFW.2.2.2.1 ≤ R.frames → rxCFW.2.2.2.1 * 40 ≤ R.locals → bx_Step p l e R s m args below meth c Q Dg rxL X vwCl A xa H0 ad rxM323 rxYFW (rxIFW S0 ws) (rxmFW S0 ws) S0 rxCFW.2.2.1 i q := by
  intro i q hq hus p e R s m args below meth c Q H0 hF hA hH0 hmc hms hd hdl
  match i, hq with
  | 0, hq =>
    cases hq
    exact absurd (show false = true from hus) Bool.false_ne_true
  | 1, hq =>
    cases hq
    exact absurd (show false = true from hus) Bool.false_ne_true
  | 2, hq =>
    cases hq
    exact absurd (show false = true from hus) Bool.false_ne_true
  | 3, hq =>
    cases hq
    exact rx_stepC (ins := .invokevirtual 586) (len := 3) (i_p := 4) (M_p := rxM319) (d := rxCFW.2.2.2.1) (as := [.inr (3, (0, 480)), .inr (0, (12, 0)), .inr (0, (13, 0)), .inr (0, (14, 0))]) (t := []) (ct := rxCME) hPX hF rfl hA hH0 hmc hms hd hdl (by decide +kernel) rfl rfl (by decide +kernel) (by decide +kernel) hQME (by decide +kernel) rfl (Or.inl ⟨rfl, rfl, rfl⟩) (rxsFW_3 hP)
  | 4, hq =>
    cases hq
    exact absurd (show false = true from hus) Bool.false_ne_true
  | 5, hq =>
    cases hq
    exact absurd (show false = true from hus) Bool.false_ne_true
  | 6, hq =>
    cases hq
    exact rx_stepC (ins := .invokevirtual 589) (len := 3) (i_p := 7) (M_p := rxM320) (d := rxCFW.2.2.2.1) (as := [.inr (3, (0, 480)), .inr (0, (13, 0))]) (t := []) (ct := rxCTB) hPX hF rfl hA hH0 hmc hms hd hdl (by decide +kernel) rfl rfl (by decide +kernel) (by decide +kernel) hQTB (by decide +kernel) rfl (Or.inl ⟨rfl, rfl, rfl⟩) (rxsFW_6 hP)
  | 7, hq =>
    cases hq
    exact absurd (show false = true from hus) Bool.false_ne_true
  | 8, hq =>
    cases hq
    exact rx_stepC (ins := .invokevirtual 592) (len := 3) (i_p := 9) (M_p := rxM321) (d := rxCFW.2.2.2.1) (as := [.inr (3, (0, 480)), .inr (0, (13, 0)), .inr (0, (14, 0))]) (t := []) (ct := rxCGO) hPX hF rfl hA hH0 hmc hms hd hdl (by decide +kernel) rfl rfl (by decide +kernel) (by decide +kernel) hQGO (by decide +kernel) rfl (Or.inr ⟨_, _, _, 1, rfl, rfl, by omega, rfl, rfl, rfl⟩) (rxsFW_8 hP)
  | 9, hq =>
    cases hq
    exact absurd (show false = true from hus) Bool.false_ne_true
  | 10, hq =>
    cases hq
    exact rx_stepC (ins := .invokevirtual 586) (len := 3) (i_p := 11) (M_p := rxM319) (d := rxCFW.2.2.2.1) (as := [.inr (3, (0, 480)), .inr (0, (13, 0)), .inr (0, (14, 0)), .inr (0, (15, 0))]) (t := []) (ct := rxCME) hPX hF rfl hA hH0 hmc hms hd hdl (by decide +kernel) rfl rfl (by decide +kernel) (by decide +kernel) hQME (by decide +kernel) rfl (Or.inl ⟨rfl, rfl, rfl⟩) (rxsFW_10 hP)
  | 11, hq =>
    cases hq
    exact absurd (show false = true from hus) Bool.false_ne_true
  | 12, hq =>
    cases hq
    exact absurd (show false = true from hus) Bool.false_ne_true
  | n + 13, hq => cases hq
theorem rxQFW {PX : State → Prop} {Dg : va_G} {A : Nat → Prop} {ad xa : Nat → Nat} {l : Launch} {X : (Nat → Int → Int) → Prop} (hPX : rx_PXOK rxNW A PX) (hsl : ∀ s : State, PX s → ∀ o idx n : Nat, rxSl o idx = some n → ∃ tx : String, vk_R (rxNm o) idx tx (ad n) s)
    (hX : ∀ S S_p : Nat → Int → Int, X S → bx_same rxL (bx_mdl rxCFW.2.2.1) S S_p → X S_p)
    (ih : ∀ (j2 : Nat) (ct2 : bx_Ct) (M2 : rx_Mt), ct2 ∈ rxCnE j2 → ct2.2.2.2.1 + 1 ≤ rxCFW.2.2.2.1 → rxT.2.2.2.2.2 j2 = some M2 → bx_Con rxG rxNW rxAO PX Dg rxL X vwCl A ad l M2 ct2) (hQME : bx_ConP rxG rxNW rxAO PX Dg rxL X vwCl A ad l rxM319 rxCME rxPME rxPSME) (hQTB : bx_ConP rxG rxNW rxAO PX Dg rxL X vwCl A ad l rxM320 rxCTB rxPTB rxPSTB) (hQGO : bx_ConP rxG rxNW rxAO PX Dg rxL X vwCl A ad l rxM321 rxCGO rxPGO rxPSGO) : bx_ConP rxG rxNW rxAO PX Dg rxL X vwCl A ad l rxM323 rxCFW rxPFW rxPSFW :=
  rxQof (xa := xa) (Cn := rxCnE) (f := 30000) (j := 323) (tab := rxYFW) (us := rxUFW) hPX hsl hX ih rfl rxYcFW rxIFW rxmFW
    (fun S0 ws r I0 I ht0 ht as he he1 hX0 hI0 hP hs ha => by
      have e := he.symm.trans (show bx_ent0 rxNP rxCFW.1 bx_I0 [] = some ([(0, 0), (0, 0), (0, 0), (0, 0), (0, 0), (0, 0), (0, 0), (0, 0), (1, 3), (0, 3), (0, 5)], [], [.inr (3, (0, 480)), .inr (0, (8, 0)), .inr (0, (9, 0)), .inr (0, (10, 0))]) from rfl)
      cases e
      subst ha
      have h0 : r 0 = 0 := hs.1
      show rxIFW_0 S0 _ S0 (r 8) (r 9) (r 10)
      refine ⟨rfl, ?_⟩
      simp only [List.map_cons, List.map_nil, bx_xv_ok h0]
      rfl)
    (fun S0 ws hP => rxuFW (xa := xa) hPX hX hQME hQTB hQGO hP) (fun S0 ws hP => rxgCFW hP) (fun S0 ws hP => rxgEFW hP)
