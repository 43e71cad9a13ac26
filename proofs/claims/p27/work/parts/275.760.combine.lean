noncomputable def rxCCMB : bx_Ct := ([(0, (0, 6, 13)), (2, (0, (-9223372036854775808), 9223372036854775807)), (2, (0, (-9223372036854775808), 9223372036854775807))], some (2, (0, (-9223372036854775808), 9223372036854775807)), [], 0, [])
noncomputable def rxICMB_0 (S0 : Nat → Int → Int) (ws : List Int) (S : Nat → Int → Int) (op a b : Int) : Prop := S = S0 ∧ ws = [op, a, b]
noncomputable def rxmCMB_0 (S0 : Nat → Int → Int) (ws : List Int) (S : Nat → Int → Int) (op a b : Int) : Nat := 100
noncomputable def rxzCMB_0 : rx_Z := ([(0, 0), (0, 0), (0, 0), (0, 0), (0, 0), (0, 0), (0, 0), (0, 0), (6, 13), ((-9223372036854775808), 9223372036854775807), ((-9223372036854775808), 9223372036854775807)], [], [], 0, 0, 0, [(0, .inr (0, (8, 0))), (1, .inr (1, (9, 0))), (3, .inr (1, (10, 0)))], [])
noncomputable def rxICMB_1 (S0 : Nat → Int → Int) (ws : List Int) (S : Nat → Int → Int) (a b : Int) : Prop := ws = [6, a, b] ∧ rkIn a ∧ rkIn b ∧ S = S0
noncomputable def rxmCMB_1 (S0 : Nat → Int → Int) (ws : List Int) (S : Nat → Int → Int) (a b : Int) : Nat := 50
noncomputable def rxzCMB_1 : rx_Z := ([(0, 0), (0, 0), (0, 0), (0, 0), (0, 0), (0, 0), (0, 0), (0, 0), ((-9223372036854775808), 9223372036854775807), ((-9223372036854775808), 9223372036854775807)], [], [], 0, 0, 46, [], [.inr (1, (9, 0)), .inr (1, (8, 0))])
noncomputable def rxICMB_2 (S0 : Nat → Int → Int) (ws : List Int) (S : Nat → Int → Int) (a b y : Int) : Prop := ws = [6, a, b] ∧ rkIn a ∧ rkIn b ∧ S = S0 ∧ some y = rkBi 20 a b
noncomputable def rxmCMB_2 (S0 : Nat → Int → Int) (ws : List Int) (S : Nat → Int → Int) (a b y : Int) : Nat := 40
noncomputable def rxzCMB_2 : rx_Z := ([(0, 0), (0, 0), (0, 0), (0, 0), (0, 0), (0, 0), (0, 0), (0, 0), ((-9223372036854775808), 9223372036854775807), ((-9223372036854775808), 9223372036854775807), ((-9223372036854775808), 9223372036854775807)], [], [], 0, 0, 47, [], [.inr (1, (10, 0))])
noncomputable def rxICMB_3 (S0 : Nat → Int → Int) (ws : List Int) (S : Nat → Int → Int) (a b : Int) : Prop := ws = [7, a, b] ∧ rkIn a ∧ rkIn b ∧ S = S0
noncomputable def rxmCMB_3 (S0 : Nat → Int → Int) (ws : List Int) (S : Nat → Int → Int) (a b : Int) : Nat := 50
noncomputable def rxzCMB_3 : rx_Z := ([(0, 0), (0, 0), (0, 0), (0, 0), (0, 0), (0, 0), (0, 0), (0, 0), ((-9223372036854775808), 9223372036854775807), ((-9223372036854775808), 9223372036854775807)], [], [], 0, 0, 50, [], [.inr (1, (9, 0)), .inr (1, (8, 0))])
noncomputable def rxICMB_4 (S0 : Nat → Int → Int) (ws : List Int) (S : Nat → Int → Int) (a b y : Int) : Prop := ws = [7, a, b] ∧ rkIn a ∧ rkIn b ∧ S = S0 ∧ some y = rkBi 21 a b
noncomputable def rxmCMB_4 (S0 : Nat → Int → Int) (ws : List Int) (S : Nat → Int → Int) (a b y : Int) : Nat := 40
noncomputable def rxzCMB_4 : rx_Z := ([(0, 0), (0, 0), (0, 0), (0, 0), (0, 0), (0, 0), (0, 0), (0, 0), ((-9223372036854775808), 9223372036854775807), ((-9223372036854775808), 9223372036854775807), ((-9223372036854775808), 9223372036854775807)], [], [], 0, 0, 51, [], [.inr (1, (10, 0))])
noncomputable def rxICMB_5 (S0 : Nat → Int → Int) (ws : List Int) (S : Nat → Int → Int) (a b : Int) : Prop := ws = [8, a, b] ∧ rkIn a ∧ rkIn b ∧ S = S0
noncomputable def rxmCMB_5 (S0 : Nat → Int → Int) (ws : List Int) (S : Nat → Int → Int) (a b : Int) : Nat := 50
noncomputable def rxzCMB_5 : rx_Z := ([(0, 0), (0, 0), (0, 0), (0, 0), (0, 0), (0, 0), (0, 0), (0, 0), ((-9223372036854775808), 9223372036854775807), ((-9223372036854775808), 9223372036854775807)], [], [], 0, 0, 54, [], [.inr (1, (9, 0)), .inr (1, (8, 0))])
noncomputable def rxICMB_6 (S0 : Nat → Int → Int) (ws : List Int) (S : Nat → Int → Int) (a b y : Int) : Prop := ws = [8, a, b] ∧ rkIn a ∧ rkIn b ∧ S = S0 ∧ some y = rkBi 22 a b
noncomputable def rxmCMB_6 (S0 : Nat → Int → Int) (ws : List Int) (S : Nat → Int → Int) (a b y : Int) : Nat := 40
noncomputable def rxzCMB_6 : rx_Z := ([(0, 0), (0, 0), (0, 0), (0, 0), (0, 0), (0, 0), (0, 0), (0, 0), ((-9223372036854775808), 9223372036854775807), ((-9223372036854775808), 9223372036854775807), ((-9223372036854775808), 9223372036854775807)], [], [], 0, 0, 55, [], [.inr (1, (10, 0))])
noncomputable def rxICMB_7 (S0 : Nat → Int → Int) (ws : List Int) (S : Nat → Int → Int) (a b : Int) : Prop := ws = [9, a, b] ∧ rkIn a ∧ rkIn b ∧ S = S0 ∧ b ≠ 0
noncomputable def rxmCMB_7 (S0 : Nat → Int → Int) (ws : List Int) (S : Nat → Int → Int) (a b : Int) : Nat := 50
noncomputable def rxzCMB_7 : rx_Z := ([(0, 0), (0, 0), (0, 0), (0, 0), (0, 0), (0, 0), (0, 0), (0, 0), ((-9223372036854775808), 9223372036854775807), ((-9223372036854775808), 9223372036854775807)], [], [], 0, 0, 70, [], [.inr (1, (9, 0)), .inr (1, (8, 0))])
noncomputable def rxICMB_8 (S0 : Nat → Int → Int) (ws : List Int) (S : Nat → Int → Int) (a b y : Int) : Prop := ws = [9, a, b] ∧ rkIn a ∧ rkIn b ∧ S = S0 ∧ b ≠ 0 ∧ some y = rkBi 23 a b
noncomputable def rxmCMB_8 (S0 : Nat → Int → Int) (ws : List Int) (S : Nat → Int → Int) (a b y : Int) : Nat := 40
noncomputable def rxzCMB_8 : rx_Z := ([(0, 0), (0, 0), (0, 0), (0, 0), (0, 0), (0, 0), (0, 0), (0, 0), ((-9223372036854775808), 9223372036854775807), ((-9223372036854775808), 9223372036854775807), ((-9223372036854775808), 9223372036854775807)], [], [], 0, 0, 71, [], [.inr (1, (10, 0))])
noncomputable def rxICMB_9 (S0 : Nat → Int → Int) (ws : List Int) (S : Nat → Int → Int) (a b : Int) : Prop := ws = [10, a, b] ∧ rkIn a ∧ rkIn b ∧ S = S0 ∧ b ≠ 0
noncomputable def rxmCMB_9 (S0 : Nat → Int → Int) (ws : List Int) (S : Nat → Int → Int) (a b : Int) : Nat := 50
noncomputable def rxzCMB_9 : rx_Z := ([(0, 0), (0, 0), (0, 0), (0, 0), (0, 0), (0, 0), (0, 0), (0, 0), ((-9223372036854775808), 9223372036854775807), ((-9223372036854775808), 9223372036854775807)], [], [], 0, 0, 86, [], [.inr (1, (9, 0)), .inr (1, (8, 0))])
noncomputable def rxICMB_10 (S0 : Nat → Int → Int) (ws : List Int) (S : Nat → Int → Int) (a b y : Int) : Prop := ws = [10, a, b] ∧ rkIn a ∧ rkIn b ∧ S = S0 ∧ b ≠ 0 ∧ some y = rkBi 24 a b
noncomputable def rxmCMB_10 (S0 : Nat → Int → Int) (ws : List Int) (S : Nat → Int → Int) (a b y : Int) : Nat := 40
noncomputable def rxzCMB_10 : rx_Z := ([(0, 0), (0, 0), (0, 0), (0, 0), (0, 0), (0, 0), (0, 0), (0, 0), ((-9223372036854775808), 9223372036854775807), ((-9223372036854775808), 9223372036854775807), ((-9223372036854775808), 9223372036854775807)], [], [], 0, 0, 87, [], [.inr (1, (10, 0))])
noncomputable def rxoCMB_0_0 : bx_HO := (([(0, 0), (0, 0), (0, 0), (0, 0), (0, 0), (0, 0), (0, 0), (0, 0), (10, 10), ((-9223372036854775808), 9223372036854775807), ((-9223372036854775808), 9223372036854775807)], [(3, (10, 0), (0, 0))], [], 0, 0, 86, [(0, .inr (0, (8, 0))), (1, .inr (1, (9, 0))), (3, .inr (1, (10, 0)))], [.inr (1, (10, 0)), .inr (1, (9, 0))]), [], [], [(0, 0), (0, 0), (0, 0), (0, 0), (0, 0), (0, 0), (0, 0), (0, 0), (9, 0), (10, 0)], 9)
noncomputable def rxoCMB_0_1 : bx_HO := (([(0, 0), (0, 0), (0, 0), (0, 0), (0, 0), (0, 0), (0, 0), (0, 0), (9, 9), ((-9223372036854775808), 9223372036854775807), ((-9223372036854775808), 9223372036854775807)], [(3, (10, 0), (0, 0))], [], 0, 0, 70, [(0, .inr (0, (8, 0))), (1, .inr (1, (9, 0))), (3, .inr (1, (10, 0)))], [.inr (1, (10, 0)), .inr (1, (9, 0))]), [], [], [(0, 0), (0, 0), (0, 0), (0, 0), (0, 0), (0, 0), (0, 0), (0, 0), (9, 0), (10, 0)], 7)
noncomputable def rxoCMB_0_2 : bx_HO := (([(0, 0), (0, 0), (0, 0), (0, 0), (0, 0), (0, 0), (0, 0), (0, 0), (8, 8), ((-9223372036854775808), 9223372036854775807), ((-9223372036854775808), 9223372036854775807)], [], [], 0, 0, 54, [(0, .inr (0, (8, 0))), (1, .inr (1, (9, 0))), (3, .inr (1, (10, 0)))], [.inr (1, (10, 0)), .inr (1, (9, 0))]), [], [], [(0, 0), (0, 0), (0, 0), (0, 0), (0, 0), (0, 0), (0, 0), (0, 0), (9, 0), (10, 0)], 5)
noncomputable def rxoCMB_0_3 : bx_HO := (([(0, 0), (0, 0), (0, 0), (0, 0), (0, 0), (0, 0), (0, 0), (0, 0), (7, 7), ((-9223372036854775808), 9223372036854775807), ((-9223372036854775808), 9223372036854775807)], [], [], 0, 0, 50, [(0, .inr (0, (8, 0))), (1, .inr (1, (9, 0))), (3, .inr (1, (10, 0)))], [.inr (1, (10, 0)), .inr (1, (9, 0))]), [], [], [(0, 0), (0, 0), (0, 0), (0, 0), (0, 0), (0, 0), (0, 0), (0, 0), (9, 0), (10, 0)], 3)
noncomputable def rxoCMB_0_4 : bx_HO := (([(0, 0), (0, 0), (0, 0), (0, 0), (0, 0), (0, 0), (0, 0), (0, 0), (6, 6), ((-9223372036854775808), 9223372036854775807), ((-9223372036854775808), 9223372036854775807)], [], [], 0, 0, 46, [(0, .inr (0, (8, 0))), (1, .inr (1, (9, 0))), (3, .inr (1, (10, 0)))], [.inr (1, (10, 0)), .inr (1, (9, 0))]), [], [], [(0, 0), (0, 0), (0, 0), (0, 0), (0, 0), (0, 0), (0, 0), (0, 0), (9, 0), (10, 0)], 1)
noncomputable def rxeCMB_0_0 : rx_End × List (Nat × Int × Int) := (([(0, 0), (0, 0), (0, 0), (0, 0), (0, 0), (0, 0), (0, 0), (0, 0), (13, 13), ((-9223372036854775808), 9223372036854775807), ((-9223372036854775808), 9223372036854775807)], [(2, (9, 0), (10, 0))], [], some (.inr (1, (0, 1)))), [])
noncomputable def rxeCMB_0_1 : rx_End × List (Nat × Int × Int) := (([(0, 0), (0, 0), (0, 0), (0, 0), (0, 0), (0, 0), (0, 0), (0, 0), (13, 13), ((-9223372036854775808), 9223372036854775807), ((-9223372036854775808), 9223372036854775807)], [(3, (9, 0), (10, 0))], [], some (.inr (1, (0, 0)))), [])
noncomputable def rxeCMB_0_2 : rx_End × List (Nat × Int × Int) := (([(0, 0), (0, 0), (0, 0), (0, 0), (0, 0), (0, 0), (0, 0), (0, 0), (12, 12), ((-9223372036854775807), 9223372036854775807), ((-9223372036854775808), 9223372036854775806)], [(0, (10, 0), (9, 0))], [], some (.inr (1, (0, 1)))), [])
noncomputable def rxeCMB_0_3 : rx_End × List (Nat × Int × Int) := (([(0, 0), (0, 0), (0, 0), (0, 0), (0, 0), (0, 0), (0, 0), (0, 0), (12, 12), ((-9223372036854775808), 9223372036854775807), ((-9223372036854775808), 9223372036854775807)], [(1, (9, 0), (10, 0))], [], some (.inr (1, (0, 0)))), [])
noncomputable def rxeCMB_0_4 : rx_End × List (Nat × Int × Int) := (([(0, 0), (0, 0), (0, 0), (0, 0), (0, 0), (0, 0), (0, 0), (0, 0), (11, 11), ((-9223372036854775808), 9223372036854775806), ((-9223372036854775807), 9223372036854775807)], [(0, (9, 0), (10, 0))], [], some (.inr (1, (0, 1)))), [])
noncomputable def rxeCMB_0_5 : rx_End × List (Nat × Int × Int) := (([(0, 0), (0, 0), (0, 0), (0, 0), (0, 0), (0, 0), (0, 0), (0, 0), (11, 11), ((-9223372036854775808), 9223372036854775807), ((-9223372036854775808), 9223372036854775807)], [(1, (10, 0), (9, 0))], [], some (.inr (1, (0, 0)))), [])
noncomputable def rxeCMB_0_6 : rx_End × List (Nat × Int × Int) := (([(0, 0), (0, 0), (0, 0), (0, 0), (0, 0), (0, 0), (0, 0), (0, 0), (10, 10), ((-9223372036854775808), 9223372036854775807), (0, 0)], [], [], some (.inr (1, (0, (-4000000000000000000))))), [])
noncomputable def rxeCMB_0_7 : rx_End × List (Nat × Int × Int) := (([(0, 0), (0, 0), (0, 0), (0, 0), (0, 0), (0, 0), (0, 0), (0, 0), (9, 9), ((-9223372036854775808), 9223372036854775807), (0, 0)], [], [], some (.inr (1, (0, (-4000000000000000000))))), [])
noncomputable def rxeCMB_2_0 : rx_End × List (Nat × Int × Int) := (([(0, 0), (0, 0), (0, 0), (0, 0), (0, 0), (0, 0), (0, 0), (0, 0), ((-9223372036854775808), 9223372036854775807), ((-9223372036854775808), 9223372036854775807), ((-9223372036854775808), 9223372036854775807)], [], [], some (.inr (1, (10, 0)))), [])
noncomputable def rxeCMB_4_0 : rx_End × List (Nat × Int × Int) := (([(0, 0), (0, 0), (0, 0), (0, 0), (0, 0), (0, 0), (0, 0), (0, 0), ((-9223372036854775808), 9223372036854775807), ((-9223372036854775808), 9223372036854775807), ((-9223372036854775808), 9223372036854775807)], [], [], some (.inr (1, (10, 0)))), [])
noncomputable def rxeCMB_6_0 : rx_End × List (Nat × Int × Int) := (([(0, 0), (0, 0), (0, 0), (0, 0), (0, 0), (0, 0), (0, 0), (0, 0), ((-9223372036854775808), 9223372036854775807), ((-9223372036854775808), 9223372036854775807), ((-9223372036854775808), 9223372036854775807)], [], [], some (.inr (1, (10, 0)))), [])
noncomputable def rxeCMB_8_0 : rx_End × List (Nat × Int × Int) := (([(0, 0), (0, 0), (0, 0), (0, 0), (0, 0), (0, 0), (0, 0), (0, 0), ((-9223372036854775808), 9223372036854775807), ((-9223372036854775808), 9223372036854775807), ((-9223372036854775808), 9223372036854775807)], [], [], some (.inr (1, (10, 0)))), [])
noncomputable def rxeCMB_10_0 : rx_End × List (Nat × Int × Int) := (([(0, 0), (0, 0), (0, 0), (0, 0), (0, 0), (0, 0), (0, 0), (0, 0), ((-9223372036854775808), 9223372036854775807), ((-9223372036854775808), 9223372036854775807), ((-9223372036854775808), 9223372036854775807)], [], [], some (.inr (1, (10, 0)))), [])
noncomputable def rxYCMB : List bx_HE := [(rxzCMB_0, [rxoCMB_0_0, rxoCMB_0_1, rxoCMB_0_2, rxoCMB_0_3, rxoCMB_0_4], [rxeCMB_0_0, rxeCMB_0_1, rxeCMB_0_2, rxeCMB_0_3, rxeCMB_0_4, rxeCMB_0_5, rxeCMB_0_6, rxeCMB_0_7]), (rxzCMB_1, [], []), (rxzCMB_2, [], [rxeCMB_2_0]), (rxzCMB_3, [], []), (rxzCMB_4, [], [rxeCMB_4_0]), (rxzCMB_5, [], []), (rxzCMB_6, [], [rxeCMB_6_0]), (rxzCMB_7, [], []), (rxzCMB_8, [], [rxeCMB_8_0]), (rxzCMB_9, [], []), (rxzCMB_10, [], [rxeCMB_10_0])]
noncomputable def rxUCMB (q : bx_HE) : Bool := Nat.beq (rx_zpc q.1) 46 || Nat.beq (rx_zpc q.1) 50 || Nat.beq (rx_zpc q.1) 54 || Nat.beq (rx_zpc q.1) 70 || Nat.beq (rx_zpc q.1) 86
noncomputable def rxYBCMB : bx_B := (rxV, rxNP, rxDmf, bx_mdH rxCCMB.2.2.1)
set_option maxRecDepth 100000 in
theorem rxYcCMB : bx_chkH rxYBCMB rxM3 rxCCMB rxYCMB (rxUCMB, fun cut z => rx_ex2 (rxCT rxYBCMB rxCnE) cut 30000 rxCCMB.2.2.2.1 3 z) = true := by decide +kernel
noncomputable def rxICMB (S0 : Nat → Int → Int) (ws : List Int) (i : Nat) : bx_SP := fun S r => match i with | 0 => rxICMB_0 S0 ws S (r 8) (r 9) (r 10) | 1 => rxICMB_1 S0 ws S (r 8) (r 9) | 2 => rxICMB_2 S0 ws S (r 8) (r 9) (r 10) | 3 => rxICMB_3 S0 ws S (r 8) (r 9) | 4 => rxICMB_4 S0 ws S (r 8) (r 9) (r 10) | 5 => rxICMB_5 S0 ws S (r 8) (r 9) | 6 => rxICMB_6 S0 ws S (r 8) (r 9) (r 10) | 7 => rxICMB_7 S0 ws S (r 8) (r 9) | 8 => rxICMB_8 S0 ws S (r 8) (r 9) (r 10) | 9 => rxICMB_9 S0 ws S (r 8) (r 9) | 10 => rxICMB_10 S0 ws S (r 8) (r 9) (r 10) | _ => False
noncomputable def rxmCMB (S0 : Nat → Int → Int) (ws : List Int) (i : Nat) (S : Nat → Int → Int) (r : Nat → Int) : Nat := match i with | 0 => rxmCMB_0 S0 ws S (r 8) (r 9) (r 10) | 1 => rxmCMB_1 S0 ws S (r 8) (r 9) | 2 => rxmCMB_2 S0 ws S (r 8) (r 9) (r 10) | 3 => rxmCMB_3 S0 ws S (r 8) (r 9) | 4 => rxmCMB_4 S0 ws S (r 8) (r 9) (r 10) | 5 => rxmCMB_5 S0 ws S (r 8) (r 9) | 6 => rxmCMB_6 S0 ws S (r 8) (r 9) (r 10) | 7 => rxmCMB_7 S0 ws S (r 8) (r 9) | 8 => rxmCMB_8 S0 ws S (r 8) (r 9) (r 10) | 9 => rxmCMB_9 S0 ws S (r 8) (r 9) | 10 => rxmCMB_10 S0 ws S (r 8) (r 9) (r 10) | _ => 0
noncomputable def rxPCMB (S0 : Nat → Int → Int) (ws : List Int) : Prop := ∃ op a b : Int, ws = [op, a, b] ∧ rkIn a ∧ rkIn b
noncomputable def rxPSCMB (S0 : Nat → Int → Int) (ws : List Int) (S : Nat → Int → Int) (w : Option Int) : Prop := ∃ op a b : Int, ws = [op, a, b] ∧ S = S0 ∧ ((∃ z : Int, rkBi (op + 14) a b = some z ∧ w = some z) ∨ (rkBi (op + 14) a b = none ∧ w = some (-4000000000000000000)))
theorem rxbCMB_1 {S0 : Nat → Int → Int} {ws : List Int} {S : Nat → Int → Int} {a b : Int} (hP : rxPCMB S0 ws) (hin : bx_same rxL (bx_mdl rxCCMB.2.2.1) S0 S) (I0 : bx_Inv rxL S) (hinv : rxICMB_1 S0 ws S a b) (l8 : (-9223372036854775808) ≤ a) (u8 : a ≤ 9223372036854775807) (l9 : (-9223372036854775808) ≤ b) (u9 : b ≤ 9223372036854775807) : bx_opcM 40 a b ∧ ∀ y : Int, y = bx_opvM 40 a b → ((-9223372036854775808) ≤ y ∧ y ≤ 9223372036854775807) ∧ rxICMB_2 S0 ws S a b y ∧ rxmCMB_2 S0 ws S a b y < rxmCMB_1 S0 ws S a b := by
  obtain ⟨hw, ⟨ha0, ha1⟩, ⟨hb0, hb1⟩, hS⟩ := hinv
  refine ⟨⟨⟨by omega, by omega⟩, ⟨by omega, by omega⟩, fun _ => ⟨by omega, by omega⟩, fun g => absurd g (by decide), fun g => absurd g (by decide), fun g => by omega⟩, fun y hv => ⟨?_, ⟨hw, ⟨ha0, ha1⟩, ⟨hb0, hb1⟩, hS, (congrArg some hv).trans rkBi_20.symm⟩, by unfold rxmCMB_1 rxmCMB_2; omega⟩⟩
  have hv : y = a + b := hv
  exact ⟨by omega, by omega⟩
theorem rxsCMB_1 {X : (Nat → Int → Int) → Prop} {S0 : Nat → Int → Int} {ws : List Int} (hP : rxPCMB S0 ws) : rx_obBM X S0 rxCCMB.2.2.1 (rxICMB S0 ws) (rxmCMB S0 ws) 1 2 rxzCMB_1 40 (8, 0) (9, 0) (-9223372036854775808) 9223372036854775807 := by
  intro S r hinv hXS I0 hin hs_ hf_
  have b_ := bx_bds_sat hs_
  have f_ := bx_fcl_ok hs_.1 hf_
  obtain ⟨⟨l8, u8⟩, ⟨l9, u9⟩, -⟩ := b_
  have g := rxbCMB_1 hP hin I0 hinv l8 u8 l9 u9
  rw [bx_x_ok hs_.1, bx_x_ok hs_.1]
  refine ⟨g.1, fun r_p hr h0_ hv => ?_⟩
  have g2 := g.2 (r_p 10) hv
  show _ ∧ rxICMB_2 S0 ws S (r_p 8) (r_p 9) (r_p 10) ∧ rxmCMB_2 S0 ws S (r_p 8) (r_p 9) (r_p 10) < _
  rw [hr 8 (by decide), hr 9 (by decide)]
  exact g2
theorem rxbCMB_3 {S0 : Nat → Int → Int} {ws : List Int} {S : Nat → Int → Int} {a b : Int} (hP : rxPCMB S0 ws) (hin : bx_same rxL (bx_mdl rxCCMB.2.2.1) S0 S) (I0 : bx_Inv rxL S) (hinv : rxICMB_3 S0 ws S a b) (l8 : (-9223372036854775808) ≤ a) (u8 : a ≤ 9223372036854775807) (l9 : (-9223372036854775808) ≤ b) (u9 : b ≤ 9223372036854775807) : bx_opcM 41 a b ∧ ∀ y : Int, y = bx_opvM 41 a b → ((-9223372036854775808) ≤ y ∧ y ≤ 9223372036854775807) ∧ rxICMB_4 S0 ws S a b y ∧ rxmCMB_4 S0 ws S a b y < rxmCMB_3 S0 ws S a b := by
  obtain ⟨hw, ⟨ha0, ha1⟩, ⟨hb0, hb1⟩, hS⟩ := hinv
  refine ⟨⟨⟨by omega, by omega⟩, ⟨by omega, by omega⟩, fun g => absurd g (by decide), fun _ => ⟨by omega, by omega⟩, fun g => absurd g (by decide), fun g => by omega⟩, fun y hv => ⟨?_, ⟨hw, ⟨ha0, ha1⟩, ⟨hb0, hb1⟩, hS, (congrArg some hv).trans rkBi_21.symm⟩, by unfold rxmCMB_3 rxmCMB_4; omega⟩⟩
  have hv : y = a - b := hv
  exact ⟨by omega, by omega⟩
theorem rxsCMB_3 {X : (Nat → Int → Int) → Prop} {S0 : Nat → Int → Int} {ws : List Int} (hP : rxPCMB S0 ws) : rx_obBM X S0 rxCCMB.2.2.1 (rxICMB S0 ws) (rxmCMB S0 ws) 3 4 rxzCMB_3 41 (8, 0) (9, 0) (-9223372036854775808) 9223372036854775807 := by
  intro S r hinv hXS I0 hin hs_ hf_
  have b_ := bx_bds_sat hs_
  have f_ := bx_fcl_ok hs_.1 hf_
  obtain ⟨⟨l8, u8⟩, ⟨l9, u9⟩, -⟩ := b_
  have g := rxbCMB_3 hP hin I0 hinv l8 u8 l9 u9
  rw [bx_x_ok hs_.1, bx_x_ok hs_.1]
  refine ⟨g.1, fun r_p hr h0_ hv => ?_⟩
  have g2 := g.2 (r_p 10) hv
  show _ ∧ rxICMB_4 S0 ws S (r_p 8) (r_p 9) (r_p 10) ∧ rxmCMB_4 S0 ws S (r_p 8) (r_p 9) (r_p 10) < _
  rw [hr 8 (by decide), hr 9 (by decide)]
  exact g2
theorem rxbCMB_5 {S0 : Nat → Int → Int} {ws : List Int} {S : Nat → Int → Int} {a b : Int} (hP : rxPCMB S0 ws) (hin : bx_same rxL (bx_mdl rxCCMB.2.2.1) S0 S) (I0 : bx_Inv rxL S) (hinv : rxICMB_5 S0 ws S a b) (l8 : (-9223372036854775808) ≤ a) (u8 : a ≤ 9223372036854775807) (l9 : (-9223372036854775808) ≤ b) (u9 : b ≤ 9223372036854775807) : bx_opcM 42 a b ∧ ∀ y : Int, y = bx_opvM 42 a b → ((-9223372036854775808) ≤ y ∧ y ≤ 9223372036854775807) ∧ rxICMB_6 S0 ws S a b y ∧ rxmCMB_6 S0 ws S a b y < rxmCMB_5 S0 ws S a b := by
  obtain ⟨hw, ⟨ha0, ha1⟩, ⟨hb0, hb1⟩, hS⟩ := hinv
  have m := rkMul_b (a := a) (b := b) ⟨ha0, ha1⟩ ⟨hb0, hb1⟩
  refine ⟨⟨⟨by omega, by omega⟩, ⟨by omega, by omega⟩, fun g => absurd g (by decide), fun g => absurd g (by decide), fun _ => m, fun g => by omega⟩, fun y hv => ⟨?_, ⟨hw, ⟨ha0, ha1⟩, ⟨hb0, hb1⟩, hS, (congrArg some hv).trans rkBi_22.symm⟩, by unfold rxmCMB_5 rxmCMB_6; omega⟩⟩
  have hv : y = a * b := hv
  rw [hv]; exact m
theorem rxsCMB_5 {X : (Nat → Int → Int) → Prop} {S0 : Nat → Int → Int} {ws : List Int} (hP : rxPCMB S0 ws) : rx_obBM X S0 rxCCMB.2.2.1 (rxICMB S0 ws) (rxmCMB S0 ws) 5 6 rxzCMB_5 42 (8, 0) (9, 0) (-9223372036854775808) 9223372036854775807 := by
  intro S r hinv hXS I0 hin hs_ hf_
  have b_ := bx_bds_sat hs_
  have f_ := bx_fcl_ok hs_.1 hf_
  obtain ⟨⟨l8, u8⟩, ⟨l9, u9⟩, -⟩ := b_
  have g := rxbCMB_5 hP hin I0 hinv l8 u8 l9 u9
  rw [bx_x_ok hs_.1, bx_x_ok hs_.1]
  refine ⟨g.1, fun r_p hr h0_ hv => ?_⟩
  have g2 := g.2 (r_p 10) hv
  show _ ∧ rxICMB_6 S0 ws S (r_p 8) (r_p 9) (r_p 10) ∧ rxmCMB_6 S0 ws S (r_p 8) (r_p 9) (r_p 10) < _
  rw [hr 8 (by decide), hr 9 (by decide)]
  exact g2
theorem rxbCMB_7 {S0 : Nat → Int → Int} {ws : List Int} {S : Nat → Int → Int} {a b : Int} (hP : rxPCMB S0 ws) (hin : bx_same rxL (bx_mdl rxCCMB.2.2.1) S0 S) (I0 : bx_Inv rxL S) (hinv : rxICMB_7 S0 ws S a b) (l8 : (-9223372036854775808) ≤ a) (u8 : a ≤ 9223372036854775807) (l9 : (-9223372036854775808) ≤ b) (u9 : b ≤ 9223372036854775807) : bx_opcM 43 a b ∧ ∀ y : Int, y = bx_opvM 43 a b → ((-9223372036854775808) ≤ y ∧ y ≤ 9223372036854775807) ∧ rxICMB_8 S0 ws S a b y ∧ rxmCMB_8 S0 ws S a b y < rxmCMB_7 S0 ws S a b := by
  obtain ⟨hw, ⟨ha0, ha1⟩, ⟨hb0, hb1⟩, hS, hz⟩ := hinv
  refine ⟨⟨⟨by omega, by omega⟩, ⟨by omega, by omega⟩, fun g => absurd g (by decide), fun g => absurd g (by decide), fun g => absurd g (by decide), fun _ => ⟨hz, by omega⟩⟩, fun y hv => ⟨?_, ⟨hw, ⟨ha0, ha1⟩, ⟨hb0, hb1⟩, hS, hz, (congrArg some hv).trans (rkBi_23 hz).symm⟩, by unfold rxmCMB_7 rxmCMB_8; omega⟩⟩
  have hv : y = a.tdiv b := hv
  have z1 : (a.tdiv b).natAbs ≤ a.natAbs := by
    rw [Int.natAbs_tdiv]
    exact Nat.div_le_self _ _
  exact ⟨by omega, by omega⟩
theorem rxsCMB_7 {X : (Nat → Int → Int) → Prop} {S0 : Nat → Int → Int} {ws : List Int} (hP : rxPCMB S0 ws) : rx_obBM X S0 rxCCMB.2.2.1 (rxICMB S0 ws) (rxmCMB S0 ws) 7 8 rxzCMB_7 43 (8, 0) (9, 0) (-9223372036854775808) 9223372036854775807 := by
  intro S r hinv hXS I0 hin hs_ hf_
  have b_ := bx_bds_sat hs_
  have f_ := bx_fcl_ok hs_.1 hf_
  obtain ⟨⟨l8, u8⟩, ⟨l9, u9⟩, -⟩ := b_
  have g := rxbCMB_7 hP hin I0 hinv l8 u8 l9 u9
  rw [bx_x_ok hs_.1, bx_x_ok hs_.1]
  refine ⟨g.1, fun r_p hr h0_ hv => ?_⟩
  have g2 := g.2 (r_p 10) hv
  show _ ∧ rxICMB_8 S0 ws S (r_p 8) (r_p 9) (r_p 10) ∧ rxmCMB_8 S0 ws S (r_p 8) (r_p 9) (r_p 10) < _
  rw [hr 8 (by decide), hr 9 (by decide)]
  exact g2
theorem rxbCMB_9 {S0 : Nat → Int → Int} {ws : List Int} {S : Nat → Int → Int} {a b : Int} (hP : rxPCMB S0 ws) (hin : bx_same rxL (bx_mdl rxCCMB.2.2.1) S0 S) (I0 : bx_Inv rxL S) (hinv : rxICMB_9 S0 ws S a b) (l8 : (-9223372036854775808) ≤ a) (u8 : a ≤ 9223372036854775807) (l9 : (-9223372036854775808) ≤ b) (u9 : b ≤ 9223372036854775807) : bx_opcM 44 a b ∧ ∀ y : Int, y = bx_opvM 44 a b → ((-9223372036854775808) ≤ y ∧ y ≤ 9223372036854775807) ∧ rxICMB_10 S0 ws S a b y ∧ rxmCMB_10 S0 ws S a b y < rxmCMB_9 S0 ws S a b := by
  obtain ⟨hw, ⟨ha0, ha1⟩, ⟨hb0, hb1⟩, hS, hz⟩ := hinv
  refine ⟨⟨⟨by omega, by omega⟩, ⟨by omega, by omega⟩, fun g => absurd g (by decide), fun g => absurd g (by decide), fun g => absurd g (by decide), fun _ => ⟨hz, by omega⟩⟩, fun y hv => ⟨?_, ⟨hw, ⟨ha0, ha1⟩, ⟨hb0, hb1⟩, hS, hz, (congrArg some hv).trans (rkBi_24 hz).symm⟩, by unfold rxmCMB_9 rxmCMB_10; omega⟩⟩
  have hv : y = a.tmod b := hv
  have z1 : (a.tmod b).natAbs ≤ a.natAbs := by
    rw [Int.natAbs_tmod]
    exact Nat.mod_le _ _
  exact ⟨by omega, by omega⟩
theorem rxsCMB_9 {X : (Nat → Int → Int) → Prop} {S0 : Nat → Int → Int} {ws : List Int} (hP : rxPCMB S0 ws) : rx_obBM X S0 rxCCMB.2.2.1 (rxICMB S0 ws) (rxmCMB S0 ws) 9 10 rxzCMB_9 44 (8, 0) (9, 0) (-9223372036854775808) 9223372036854775807 := by
  intro S r hinv hXS I0 hin hs_ hf_
  have b_ := bx_bds_sat hs_
  have f_ := bx_fcl_ok hs_.1 hf_
  obtain ⟨⟨l8, u8⟩, ⟨l9, u9⟩, -⟩ := b_
  have g := rxbCMB_9 hP hin I0 hinv l8 u8 l9 u9
  rw [bx_x_ok hs_.1, bx_x_ok hs_.1]
  refine ⟨g.1, fun r_p hr h0_ hv => ?_⟩
  have g2 := g.2 (r_p 10) hv
  show _ ∧ rxICMB_10 S0 ws S (r_p 8) (r_p 9) (r_p 10) ∧ rxmCMB_10 S0 ws S (r_p 8) (r_p 9) (r_p 10) < _
  rw [hr 8 (by decide), hr 9 (by decide)]
  exact g2
theorem rxcCMB_0_0 {S0 : Nat → Int → Int} {ws : List Int} {S : Nat → Int → Int} {op a b : Int} (hP : rxPCMB S0 ws) (hin : bx_same rxL (bx_mdl rxCCMB.2.2.1) S0 S) (I0 : bx_Inv rxL S) (hinv : rxICMB_0 S0 ws S op a b) (l8 : 10 ≤ op) (u8 : op ≤ 10) (l9 : (-9223372036854775808) ≤ a) (u9 : a ≤ 9223372036854775807) (l10 : (-9223372036854775808) ≤ b) (u10 : b ≤ 9223372036854775807) (f0 : b ≠ 0) : (True) ∧ (True) ∧ rxICMB_9 S0 ws S a b ∧ rxmCMB_9 S0 ws S a b < rxmCMB_0 S0 ws S op a b := by
  obtain ⟨rfl, hw⟩ := hinv
  obtain ⟨op2, a2, b2, hw2, ha, hb⟩ := hP
  have q0 := hw.symm.trans hw2
  have q1 : op = op2 := Option.some.inj (congrArg (fun l => l[0]?) q0)
  have q2 : a = a2 := Option.some.inj (congrArg (fun l => l[1]?) q0)
  have q3 : b = b2 := Option.some.inj (congrArg (fun l => l[2]?) q0)
  subst q1
  subst q2
  subst q3
  have e : op = 10 := by omega
  subst e
  exact ⟨trivial, trivial, ⟨hw, ha, hb, rfl, by omega⟩, by unfold rxmCMB_0 rxmCMB_9; omega⟩
theorem rxgCMB_0_0 {X : (Nat → Int → Int) → Prop} {S0 : Nat → Int → Int} {ws : List Int} (hP : rxPCMB S0 ws) : bx_obC rxL X S0 rxCCMB.2.2.1 (rxICMB S0 ws) (rxmCMB S0 ws) 0 rxzCMB_0 rxoCMB_0_0 := by
  intro S S_p r r_p hinv hX hin hsm_ hseg
  obtain ⟨I0, I1, h0_, hr_, b_, f_, d_⟩ := bx_cl (evs := []) (fvs := [(3, (10, 0), (0, 0), (0, 0))]) hseg (by decide +kernel) (by decide +kernel)
  have hinv : rxICMB_0 S0 ws S (r 8) (r 9) (r 10) := hinv
  rw [← hr_ 8 (by decide), ← hr_ 9 (by decide), ← hr_ 10 (by decide)] at hinv
  obtain ⟨⟨l8, u8⟩, ⟨l9, u9⟩, ⟨l10, u10⟩, -⟩ := b_
  obtain ⟨f0, -⟩ := f_
  have w_ := d_
  subst w_
  have g := rxcCMB_0_0 hP hin I0 hinv l8 u8 l9 u9 l10 u10 f0
  refine ⟨bx_narP_ok (l := []) g.1, bx_nfP_ok h0_ (fvs := []) (by decide +kernel) g.2.1, ?_, ?_⟩
  · show rxICMB_9 S0 ws S_p (bx_val [(0, 0), (0, 0), (0, 0), (0, 0), (0, 0), (0, 0), (0, 0), (0, 0), (9, 0), (10, 0)] r_p 8) (bx_val [(0, 0), (0, 0), (0, 0), (0, 0), (0, 0), (0, 0), (0, 0), (0, 0), (9, 0), (10, 0)] r_p 9)
    rw [bx_val_x (n := 8) (e := (9, 0)) h0_ rfl, bx_val_x (n := 9) (e := (10, 0)) h0_ rfl]
    exact g.2.2.1
  · show rxmCMB_9 S0 ws S_p (bx_val [(0, 0), (0, 0), (0, 0), (0, 0), (0, 0), (0, 0), (0, 0), (0, 0), (9, 0), (10, 0)] r_p 8) (bx_val [(0, 0), (0, 0), (0, 0), (0, 0), (0, 0), (0, 0), (0, 0), (0, 0), (9, 0), (10, 0)] r_p 9) < rxmCMB_0 S0 ws S_p (r 8) (r 9) (r 10)
    rw [bx_val_x (n := 8) (e := (9, 0)) h0_ rfl, bx_val_x (n := 9) (e := (10, 0)) h0_ rfl, ← hr_ 8 (by decide), ← hr_ 9 (by decide), ← hr_ 10 (by decide)]
    exact g.2.2.2
theorem rxcCMB_0_1 {S0 : Nat → Int → Int} {ws : List Int} {S : Nat → Int → Int} {op a b : Int} (hP : rxPCMB S0 ws) (hin : bx_same rxL (bx_mdl rxCCMB.2.2.1) S0 S) (I0 : bx_Inv rxL S) (hinv : rxICMB_0 S0 ws S op a b) (l8 : 9 ≤ op) (u8 : op ≤ 9) (l9 : (-9223372036854775808) ≤ a) (u9 : a ≤ 9223372036854775807) (l10 : (-9223372036854775808) ≤ b) (u10 : b ≤ 9223372036854775807) (f0 : b ≠ 0) : (True) ∧ (True) ∧ rxICMB_7 S0 ws S a b ∧ rxmCMB_7 S0 ws S a b < rxmCMB_0 S0 ws S op a b := by
  obtain ⟨rfl, hw⟩ := hinv
  obtain ⟨op2, a2, b2, hw2, ha, hb⟩ := hP
  have q0 := hw.symm.trans hw2
  have q1 : op = op2 := Option.some.inj (congrArg (fun l => l[0]?) q0)
  have q2 : a = a2 := Option.some.inj (congrArg (fun l => l[1]?) q0)
  have q3 : b = b2 := Option.some.inj (congrArg (fun l => l[2]?) q0)
  subst q1
  subst q2
  subst q3
  have e : op = 9 := by omega
  subst e
  exact ⟨trivial, trivial, ⟨hw, ha, hb, rfl, by omega⟩, by unfold rxmCMB_0 rxmCMB_7; omega⟩
theorem rxgCMB_0_1 {X : (Nat → Int → Int) → Prop} {S0 : Nat → Int → Int} {ws : List Int} (hP : rxPCMB S0 ws) : bx_obC rxL X S0 rxCCMB.2.2.1 (rxICMB S0 ws) (rxmCMB S0 ws) 0 rxzCMB_0 rxoCMB_0_1 := by
  intro S S_p r r_p hinv hX hin hsm_ hseg
  obtain ⟨I0, I1, h0_, hr_, b_, f_, d_⟩ := bx_cl (evs := []) (fvs := [(3, (10, 0), (0, 0), (0, 0))]) hseg (by decide +kernel) (by decide +kernel)
  have hinv : rxICMB_0 S0 ws S (r 8) (r 9) (r 10) := hinv
  rw [← hr_ 8 (by decide), ← hr_ 9 (by decide), ← hr_ 10 (by decide)] at hinv
  obtain ⟨⟨l8, u8⟩, ⟨l9, u9⟩, ⟨l10, u10⟩, -⟩ := b_
  obtain ⟨f0, -⟩ := f_
  have w_ := d_
  subst w_
  have g := rxcCMB_0_1 hP hin I0 hinv l8 u8 l9 u9 l10 u10 f0
  refine ⟨bx_narP_ok (l := []) g.1, bx_nfP_ok h0_ (fvs := []) (by decide +kernel) g.2.1, ?_, ?_⟩
  · show rxICMB_7 S0 ws S_p (bx_val [(0, 0), (0, 0), (0, 0), (0, 0), (0, 0), (0, 0), (0, 0), (0, 0), (9, 0), (10, 0)] r_p 8) (bx_val [(0, 0), (0, 0), (0, 0), (0, 0), (0, 0), (0, 0), (0, 0), (0, 0), (9, 0), (10, 0)] r_p 9)
    rw [bx_val_x (n := 8) (e := (9, 0)) h0_ rfl, bx_val_x (n := 9) (e := (10, 0)) h0_ rfl]
    exact g.2.2.1
  · show rxmCMB_7 S0 ws S_p (bx_val [(0, 0), (0, 0), (0, 0), (0, 0), (0, 0), (0, 0), (0, 0), (0, 0), (9, 0), (10, 0)] r_p 8) (bx_val [(0, 0), (0, 0), (0, 0), (0, 0), (0, 0), (0, 0), (0, 0), (0, 0), (9, 0), (10, 0)] r_p 9) < rxmCMB_0 S0 ws S_p (r 8) (r 9) (r 10)
    rw [bx_val_x (n := 8) (e := (9, 0)) h0_ rfl, bx_val_x (n := 9) (e := (10, 0)) h0_ rfl, ← hr_ 8 (by decide), ← hr_ 9 (by decide), ← hr_ 10 (by decide)]
    exact g.2.2.2
theorem rxcCMB_0_2 {S0 : Nat → Int → Int} {ws : List Int} {S : Nat → Int → Int} {op a b : Int} (hP : rxPCMB S0 ws) (hin : bx_same rxL (bx_mdl rxCCMB.2.2.1) S0 S) (I0 : bx_Inv rxL S) (hinv : rxICMB_0 S0 ws S op a b) (l8 : 8 ≤ op) (u8 : op ≤ 8) (l9 : (-9223372036854775808) ≤ a) (u9 : a ≤ 9223372036854775807) (l10 : (-9223372036854775808) ≤ b) (u10 : b ≤ 9223372036854775807) : (True) ∧ (True) ∧ rxICMB_5 S0 ws S a b ∧ rxmCMB_5 S0 ws S a b < rxmCMB_0 S0 ws S op a b := by
  obtain ⟨rfl, hw⟩ := hinv
  obtain ⟨op2, a2, b2, hw2, ha, hb⟩ := hP
  have q0 := hw.symm.trans hw2
  have q1 : op = op2 := Option.some.inj (congrArg (fun l => l[0]?) q0)
  have q2 : a = a2 := Option.some.inj (congrArg (fun l => l[1]?) q0)
  have q3 : b = b2 := Option.some.inj (congrArg (fun l => l[2]?) q0)
  subst q1
  subst q2
  subst q3
  have e : op = 8 := by omega
  subst e
  exact ⟨trivial, trivial, ⟨hw, ha, hb, rfl⟩, by unfold rxmCMB_0 rxmCMB_5; omega⟩
theorem rxgCMB_0_2 {X : (Nat → Int → Int) → Prop} {S0 : Nat → Int → Int} {ws : List Int} (hP : rxPCMB S0 ws) : bx_obC rxL X S0 rxCCMB.2.2.1 (rxICMB S0 ws) (rxmCMB S0 ws) 0 rxzCMB_0 rxoCMB_0_2 := by
  intro S S_p r r_p hinv hX hin hsm_ hseg
  obtain ⟨I0, I1, h0_, hr_, b_, f_, d_⟩ := bx_cl (evs := []) (fvs := []) hseg (by decide +kernel) (by decide +kernel)
  have hinv : rxICMB_0 S0 ws S (r 8) (r 9) (r 10) := hinv
  rw [← hr_ 8 (by decide), ← hr_ 9 (by decide), ← hr_ 10 (by decide)] at hinv
  obtain ⟨⟨l8, u8⟩, ⟨l9, u9⟩, ⟨l10, u10⟩, -⟩ := b_
  have w_ := d_
  subst w_
  have g := rxcCMB_0_2 hP hin I0 hinv l8 u8 l9 u9 l10 u10
  refine ⟨bx_narP_ok (l := []) g.1, bx_nfP_ok h0_ (fvs := []) (by decide +kernel) g.2.1, ?_, ?_⟩
  · show rxICMB_5 S0 ws S_p (bx_val [(0, 0), (0, 0), (0, 0), (0, 0), (0, 0), (0, 0), (0, 0), (0, 0), (9, 0), (10, 0)] r_p 8) (bx_val [(0, 0), (0, 0), (0, 0), (0, 0), (0, 0), (0, 0), (0, 0), (0, 0), (9, 0), (10, 0)] r_p 9)
    rw [bx_val_x (n := 8) (e := (9, 0)) h0_ rfl, bx_val_x (n := 9) (e := (10, 0)) h0_ rfl]
    exact g.2.2.1
  · show rxmCMB_5 S0 ws S_p (bx_val [(0, 0), (0, 0), (0, 0), (0, 0), (0, 0), (0, 0), (0, 0), (0, 0), (9, 0), (10, 0)] r_p 8) (bx_val [(0, 0), (0, 0), (0, 0), (0, 0), (0, 0), (0, 0), (0, 0), (0, 0), (9, 0), (10, 0)] r_p 9) < rxmCMB_0 S0 ws S_p (r 8) (r 9) (r 10)
    rw [bx_val_x (n := 8) (e := (9, 0)) h0_ rfl, bx_val_x (n := 9) (e := (10, 0)) h0_ rfl, ← hr_ 8 (by decide), ← hr_ 9 (by decide), ← hr_ 10 (by decide)]
    exact g.2.2.2
theorem rxcCMB_0_3 {S0 : Nat → Int → Int} {ws : List Int} {S : Nat → Int → Int} {op a b : Int} (hP : rxPCMB S0 ws) (hin : bx_same rxL (bx_mdl rxCCMB.2.2.1) S0 S) (I0 : bx_Inv rxL S) (hinv : rxICMB_0 S0 ws S op a b) (l8 : 7 ≤ op) (u8 : op ≤ 7) (l9 : (-9223372036854775808) ≤ a) (u9 : a ≤ 9223372036854775807) (l10 : (-9223372036854775808) ≤ b) (u10 : b ≤ 9223372036854775807) : (True) ∧ (True) ∧ rxICMB_3 S0 ws S a b ∧ rxmCMB_3 S0 ws S a b < rxmCMB_0 S0 ws S op a b := by
  obtain ⟨rfl, hw⟩ := hinv
  obtain ⟨op2, a2, b2, hw2, ha, hb⟩ := hP
  have q0 := hw.symm.trans hw2
  have q1 : op = op2 := Option.some.inj (congrArg (fun l => l[0]?) q0)
  have q2 : a = a2 := Option.some.inj (congrArg (fun l => l[1]?) q0)
  have q3 : b = b2 := Option.some.inj (congrArg (fun l => l[2]?) q0)
  subst q1
  subst q2
  subst q3
  have e : op = 7 := by omega
  subst e
  exact ⟨trivial, trivial, ⟨hw, ha, hb, rfl⟩, by unfold rxmCMB_0 rxmCMB_3; omega⟩
theorem rxgCMB_0_3 {X : (Nat → Int → Int) → Prop} {S0 : Nat → Int → Int} {ws : List Int} (hP : rxPCMB S0 ws) : bx_obC rxL X S0 rxCCMB.2.2.1 (rxICMB S0 ws) (rxmCMB S0 ws) 0 rxzCMB_0 rxoCMB_0_3 := by
  intro S S_p r r_p hinv hX hin hsm_ hseg
  obtain ⟨I0, I1, h0_, hr_, b_, f_, d_⟩ := bx_cl (evs := []) (fvs := []) hseg (by decide +kernel) (by decide +kernel)
  have hinv : rxICMB_0 S0 ws S (r 8) (r 9) (r 10) := hinv
  rw [← hr_ 8 (by decide), ← hr_ 9 (by decide), ← hr_ 10 (by decide)] at hinv
  obtain ⟨⟨l8, u8⟩, ⟨l9, u9⟩, ⟨l10, u10⟩, -⟩ := b_
  have w_ := d_
  subst w_
  have g := rxcCMB_0_3 hP hin I0 hinv l8 u8 l9 u9 l10 u10
  refine ⟨bx_narP_ok (l := []) g.1, bx_nfP_ok h0_ (fvs := []) (by decide +kernel) g.2.1, ?_, ?_⟩
  · show rxICMB_3 S0 ws S_p (bx_val [(0, 0), (0, 0), (0, 0), (0, 0), (0, 0), (0, 0), (0, 0), (0, 0), (9, 0), (10, 0)] r_p 8) (bx_val [(0, 0), (0, 0), (0, 0), (0, 0), (0, 0), (0, 0), (0, 0), (0, 0), (9, 0), (10, 0)] r_p 9)
    rw [bx_val_x (n := 8) (e := (9, 0)) h0_ rfl, bx_val_x (n := 9) (e := (10, 0)) h0_ rfl]
    exact g.2.2.1
  · show rxmCMB_3 S0 ws S_p (bx_val [(0, 0), (0, 0), (0, 0), (0, 0), (0, 0), (0, 0), (0, 0), (0, 0), (9, 0), (10, 0)] r_p 8) (bx_val [(0, 0), (0, 0), (0, 0), (0, 0), (0, 0), (0, 0), (0, 0), (0, 0), (9, 0), (10, 0)] r_p 9) < rxmCMB_0 S0 ws S_p (r 8) (r 9) (r 10)
    rw [bx_val_x (n := 8) (e := (9, 0)) h0_ rfl, bx_val_x (n := 9) (e := (10, 0)) h0_ rfl, ← hr_ 8 (by decide), ← hr_ 9 (by decide), ← hr_ 10 (by decide)]
    exact g.2.2.2
theorem rxcCMB_0_4 {S0 : Nat → Int → Int} {ws : List Int} {S : Nat → Int → Int} {op a b : Int} (hP : rxPCMB S0 ws) (hin : bx_same rxL (bx_mdl rxCCMB.2.2.1) S0 S) (I0 : bx_Inv rxL S) (hinv : rxICMB_0 S0 ws S op a b) (l8 : 6 ≤ op) (u8 : op ≤ 6) (l9 : (-9223372036854775808) ≤ a) (u9 : a ≤ 9223372036854775807) (l10 : (-9223372036854775808) ≤ b) (u10 : b ≤ 9223372036854775807) : (True) ∧ (True) ∧ rxICMB_1 S0 ws S a b ∧ rxmCMB_1 S0 ws S a b < rxmCMB_0 S0 ws S op a b := by
  obtain ⟨rfl, hw⟩ := hinv
  obtain ⟨op2, a2, b2, hw2, ha, hb⟩ := hP
  have q0 := hw.symm.trans hw2
  have q1 : op = op2 := Option.some.inj (congrArg (fun l => l[0]?) q0)
  have q2 : a = a2 := Option.some.inj (congrArg (fun l => l[1]?) q0)
  have q3 : b = b2 := Option.some.inj (congrArg (fun l => l[2]?) q0)
  subst q1
  subst q2
  subst q3
  have e : op = 6 := by omega
  subst e
  exact ⟨trivial, trivial, ⟨hw, ha, hb, rfl⟩, by unfold rxmCMB_0 rxmCMB_1; omega⟩
theorem rxgCMB_0_4 {X : (Nat → Int → Int) → Prop} {S0 : Nat → Int → Int} {ws : List Int} (hP : rxPCMB S0 ws) : bx_obC rxL X S0 rxCCMB.2.2.1 (rxICMB S0 ws) (rxmCMB S0 ws) 0 rxzCMB_0 rxoCMB_0_4 := by
  intro S S_p r r_p hinv hX hin hsm_ hseg
  obtain ⟨I0, I1, h0_, hr_, b_, f_, d_⟩ := bx_cl (evs := []) (fvs := []) hseg (by decide +kernel) (by decide +kernel)
  have hinv : rxICMB_0 S0 ws S (r 8) (r 9) (r 10) := hinv
  rw [← hr_ 8 (by decide), ← hr_ 9 (by decide), ← hr_ 10 (by decide)] at hinv
  obtain ⟨⟨l8, u8⟩, ⟨l9, u9⟩, ⟨l10, u10⟩, -⟩ := b_
  have w_ := d_
  subst w_
  have g := rxcCMB_0_4 hP hin I0 hinv l8 u8 l9 u9 l10 u10
  refine ⟨bx_narP_ok (l := []) g.1, bx_nfP_ok h0_ (fvs := []) (by decide +kernel) g.2.1, ?_, ?_⟩
  · show rxICMB_1 S0 ws S_p (bx_val [(0, 0), (0, 0), (0, 0), (0, 0), (0, 0), (0, 0), (0, 0), (0, 0), (9, 0), (10, 0)] r_p 8) (bx_val [(0, 0), (0, 0), (0, 0), (0, 0), (0, 0), (0, 0), (0, 0), (0, 0), (9, 0), (10, 0)] r_p 9)
    rw [bx_val_x (n := 8) (e := (9, 0)) h0_ rfl, bx_val_x (n := 9) (e := (10, 0)) h0_ rfl]
    exact g.2.2.1
  · show rxmCMB_1 S0 ws S_p (bx_val [(0, 0), (0, 0), (0, 0), (0, 0), (0, 0), (0, 0), (0, 0), (0, 0), (9, 0), (10, 0)] r_p 8) (bx_val [(0, 0), (0, 0), (0, 0), (0, 0), (0, 0), (0, 0), (0, 0), (0, 0), (9, 0), (10, 0)] r_p 9) < rxmCMB_0 S0 ws S_p (r 8) (r 9) (r 10)
    rw [bx_val_x (n := 8) (e := (9, 0)) h0_ rfl, bx_val_x (n := 9) (e := (10, 0)) h0_ rfl, ← hr_ 8 (by decide), ← hr_ 9 (by decide), ← hr_ 10 (by decide)]
    exact g.2.2.2
theorem rxdCMB_0_0 {S0 : Nat → Int → Int} {ws : List Int} {S : Nat → Int → Int} {op a b : Int} (hP : rxPCMB S0 ws) (hin : bx_same rxL (bx_mdl rxCCMB.2.2.1) S0 S) (hin2 : bx_same rxL (bx_mdl rxCCMB.2.2.1) S S) (I0 : bx_Inv rxL S) (I1 : bx_Inv rxL S) (hinv : rxICMB_0 S0 ws S op a b) (l8 : 13 ≤ op) (u8 : op ≤ 13) (l9 : (-9223372036854775808) ≤ a) (u9 : a ≤ 9223372036854775807) (l10 : (-9223372036854775808) ≤ b) (u10 : b ≤ 9223372036854775807) (f0 : a = b) : (True) ∧ rxPSCMB S0 ws S (some 1) := by
  obtain ⟨rfl, hw⟩ := hinv
  refine ⟨trivial, op, a, b, hw, rfl, Or.inl ⟨1, ?_, rfl⟩⟩
  have e : op = 11 ∨ op = 12 ∨ op = 13 := by omega
  rcases e with rfl | rfl | rfl
  · exact rkBi_25.trans (congrArg some (by first | exact if_pos (by omega) | exact if_neg (by omega) | (exfalso; omega)))
  · exact rkBi_26.trans (congrArg some (by first | exact if_pos (by omega) | exact if_neg (by omega) | (exfalso; omega)))
  · exact rkBi_27.trans (congrArg some (by first | exact if_pos (by omega) | exact if_neg (by omega) | (exfalso; omega)))
theorem rxfCMB_0_0 {X : (Nat → Int → Int) → Prop} {S0 : Nat → Int → Int} {ws : List Int} (hP : rxPCMB S0 ws) : bx_obE rxL X S0 rxCCMB.2.2.1 (rxICMB S0 ws) (rxPSCMB S0 ws) 0 rxzCMB_0 rxeCMB_0_0 := by
  intro S S_p r r_p hinv hX hin hsm_ hseg
  obtain ⟨I0, I1, h0_, hr_, b_, f_, d_⟩ := bx_cl (evs := []) (fvs := [(2, (9, 0), (10, 0), (0, 0))]) hseg (by decide +kernel) (by decide +kernel)
  have hinv : rxICMB_0 S0 ws S (r 8) (r 9) (r 10) := hinv
  rw [← hr_ 8 (by decide), ← hr_ 9 (by decide), ← hr_ 10 (by decide)] at hinv
  obtain ⟨⟨l8, u8⟩, ⟨l9, u9⟩, ⟨l10, u10⟩, -⟩ := b_
  obtain ⟨f0, -⟩ := f_
  have w_ := d_
  subst w_
  have g := rxdCMB_0_0 hP hin hsm_ I0 I1 hinv l8 u8 l9 u9 l10 u10 f0
  refine ⟨bx_narP_ok (l := []) g.1, ?_⟩
  show rxPSCMB S0 ws S_p (some (bx_num r_p (.inr (1, (0, 1)))))
  rw [bx_xv_ok h0_]
  exact g.2
theorem rxdCMB_0_1 {S0 : Nat → Int → Int} {ws : List Int} {S : Nat → Int → Int} {op a b : Int} (hP : rxPCMB S0 ws) (hin : bx_same rxL (bx_mdl rxCCMB.2.2.1) S0 S) (hin2 : bx_same rxL (bx_mdl rxCCMB.2.2.1) S S) (I0 : bx_Inv rxL S) (I1 : bx_Inv rxL S) (hinv : rxICMB_0 S0 ws S op a b) (l8 : 13 ≤ op) (u8 : op ≤ 13) (l9 : (-9223372036854775808) ≤ a) (u9 : a ≤ 9223372036854775807) (l10 : (-9223372036854775808) ≤ b) (u10 : b ≤ 9223372036854775807) (f0 : a ≠ b) : (True) ∧ rxPSCMB S0 ws S (some 0) := by
  obtain ⟨rfl, hw⟩ := hinv
  refine ⟨trivial, op, a, b, hw, rfl, Or.inl ⟨0, ?_, rfl⟩⟩
  have e : op = 11 ∨ op = 12 ∨ op = 13 := by omega
  rcases e with rfl | rfl | rfl
  · exact rkBi_25.trans (congrArg some (by first | exact if_pos (by omega) | exact if_neg (by omega) | (exfalso; omega)))
  · exact rkBi_26.trans (congrArg some (by first | exact if_pos (by omega) | exact if_neg (by omega) | (exfalso; omega)))
  · exact rkBi_27.trans (congrArg some (by first | exact if_pos (by omega) | exact if_neg (by omega) | (exfalso; omega)))
theorem rxfCMB_0_1 {X : (Nat → Int → Int) → Prop} {S0 : Nat → Int → Int} {ws : List Int} (hP : rxPCMB S0 ws) : bx_obE rxL X S0 rxCCMB.2.2.1 (rxICMB S0 ws) (rxPSCMB S0 ws) 0 rxzCMB_0 rxeCMB_0_1 := by
  intro S S_p r r_p hinv hX hin hsm_ hseg
  obtain ⟨I0, I1, h0_, hr_, b_, f_, d_⟩ := bx_cl (evs := []) (fvs := [(3, (9, 0), (10, 0), (0, 0))]) hseg (by decide +kernel) (by decide +kernel)
  have hinv : rxICMB_0 S0 ws S (r 8) (r 9) (r 10) := hinv
  rw [← hr_ 8 (by decide), ← hr_ 9 (by decide), ← hr_ 10 (by decide)] at hinv
  obtain ⟨⟨l8, u8⟩, ⟨l9, u9⟩, ⟨l10, u10⟩, -⟩ := b_
  obtain ⟨f0, -⟩ := f_
  have w_ := d_
  subst w_
  have g := rxdCMB_0_1 hP hin hsm_ I0 I1 hinv l8 u8 l9 u9 l10 u10 f0
  refine ⟨bx_narP_ok (l := []) g.1, ?_⟩
  show rxPSCMB S0 ws S_p (some (bx_num r_p (.inr (1, (0, 0)))))
  rw [bx_xv_ok h0_]
  exact g.2
theorem rxdCMB_0_2 {S0 : Nat → Int → Int} {ws : List Int} {S : Nat → Int → Int} {op a b : Int} (hP : rxPCMB S0 ws) (hin : bx_same rxL (bx_mdl rxCCMB.2.2.1) S0 S) (hin2 : bx_same rxL (bx_mdl rxCCMB.2.2.1) S S) (I0 : bx_Inv rxL S) (I1 : bx_Inv rxL S) (hinv : rxICMB_0 S0 ws S op a b) (l8 : 12 ≤ op) (u8 : op ≤ 12) (l9 : (-9223372036854775807) ≤ a) (u9 : a ≤ 9223372036854775807) (l10 : (-9223372036854775808) ≤ b) (u10 : b ≤ 9223372036854775806) (f0 : b < a) : (True) ∧ rxPSCMB S0 ws S (some 1) := by
  obtain ⟨rfl, hw⟩ := hinv
  refine ⟨trivial, op, a, b, hw, rfl, Or.inl ⟨1, ?_, rfl⟩⟩
  have e : op = 11 ∨ op = 12 ∨ op = 13 := by omega
  rcases e with rfl | rfl | rfl
  · exact rkBi_25.trans (congrArg some (by first | exact if_pos (by omega) | exact if_neg (by omega) | (exfalso; omega)))
  · exact rkBi_26.trans (congrArg some (by first | exact if_pos (by omega) | exact if_neg (by omega) | (exfalso; omega)))
  · exact rkBi_27.trans (congrArg some (by first | exact if_pos (by omega) | exact if_neg (by omega) | (exfalso; omega)))
theorem rxfCMB_0_2 {X : (Nat → Int → Int) → Prop} {S0 : Nat → Int → Int} {ws : List Int} (hP : rxPCMB S0 ws) : bx_obE rxL X S0 rxCCMB.2.2.1 (rxICMB S0 ws) (rxPSCMB S0 ws) 0 rxzCMB_0 rxeCMB_0_2 := by
  intro S S_p r r_p hinv hX hin hsm_ hseg
  obtain ⟨I0, I1, h0_, hr_, b_, f_, d_⟩ := bx_cl (evs := []) (fvs := [(0, (10, 0), (9, 0), (0, 0))]) hseg (by decide +kernel) (by decide +kernel)
  have hinv : rxICMB_0 S0 ws S (r 8) (r 9) (r 10) := hinv
  rw [← hr_ 8 (by decide), ← hr_ 9 (by decide), ← hr_ 10 (by decide)] at hinv
  obtain ⟨⟨l8, u8⟩, ⟨l9, u9⟩, ⟨l10, u10⟩, -⟩ := b_
  obtain ⟨f0, -⟩ := f_
  have w_ := d_
  subst w_
  have g := rxdCMB_0_2 hP hin hsm_ I0 I1 hinv l8 u8 l9 u9 l10 u10 f0
  refine ⟨bx_narP_ok (l := []) g.1, ?_⟩
  show rxPSCMB S0 ws S_p (some (bx_num r_p (.inr (1, (0, 1)))))
  rw [bx_xv_ok h0_]
  exact g.2
theorem rxdCMB_0_3 {S0 : Nat → Int → Int} {ws : List Int} {S : Nat → Int → Int} {op a b : Int} (hP : rxPCMB S0 ws) (hin : bx_same rxL (bx_mdl rxCCMB.2.2.1) S0 S) (hin2 : bx_same rxL (bx_mdl rxCCMB.2.2.1) S S) (I0 : bx_Inv rxL S) (I1 : bx_Inv rxL S) (hinv : rxICMB_0 S0 ws S op a b) (l8 : 12 ≤ op) (u8 : op ≤ 12) (l9 : (-9223372036854775808) ≤ a) (u9 : a ≤ 9223372036854775807) (l10 : (-9223372036854775808) ≤ b) (u10 : b ≤ 9223372036854775807) (f0 : a ≤ b) : (True) ∧ rxPSCMB S0 ws S (some 0) := by
  obtain ⟨rfl, hw⟩ := hinv
  refine ⟨trivial, op, a, b, hw, rfl, Or.inl ⟨0, ?_, rfl⟩⟩
  have e : op = 11 ∨ op = 12 ∨ op = 13 := by omega
  rcases e with rfl | rfl | rfl
  · exact rkBi_25.trans (congrArg some (by first | exact if_pos (by omega) | exact if_neg (by omega) | (exfalso; omega)))
  · exact rkBi_26.trans (congrArg some (by first | exact if_pos (by omega) | exact if_neg (by omega) | (exfalso; omega)))
  · exact rkBi_27.trans (congrArg some (by first | exact if_pos (by omega) | exact if_neg (by omega) | (exfalso; omega)))
theorem rxfCMB_0_3 {X : (Nat → Int → Int) → Prop} {S0 : Nat → Int → Int} {ws : List Int} (hP : rxPCMB S0 ws) : bx_obE rxL X S0 rxCCMB.2.2.1 (rxICMB S0 ws) (rxPSCMB S0 ws) 0 rxzCMB_0 rxeCMB_0_3 := by
  intro S S_p r r_p hinv hX hin hsm_ hseg
  obtain ⟨I0, I1, h0_, hr_, b_, f_, d_⟩ := bx_cl (evs := []) (fvs := [(1, (9, 0), (10, 0), (0, 0))]) hseg (by decide +kernel) (by decide +kernel)
  have hinv : rxICMB_0 S0 ws S (r 8) (r 9) (r 10) := hinv
  rw [← hr_ 8 (by decide), ← hr_ 9 (by decide), ← hr_ 10 (by decide)] at hinv
  obtain ⟨⟨l8, u8⟩, ⟨l9, u9⟩, ⟨l10, u10⟩, -⟩ := b_
  obtain ⟨f0, -⟩ := f_
  have w_ := d_
  subst w_
  have g := rxdCMB_0_3 hP hin hsm_ I0 I1 hinv l8 u8 l9 u9 l10 u10 f0
  refine ⟨bx_narP_ok (l := []) g.1, ?_⟩
  show rxPSCMB S0 ws S_p (some (bx_num r_p (.inr (1, (0, 0)))))
  rw [bx_xv_ok h0_]
  exact g.2
theorem rxdCMB_0_4 {S0 : Nat → Int → Int} {ws : List Int} {S : Nat → Int → Int} {op a b : Int} (hP : rxPCMB S0 ws) (hin : bx_same rxL (bx_mdl rxCCMB.2.2.1) S0 S) (hin2 : bx_same rxL (bx_mdl rxCCMB.2.2.1) S S) (I0 : bx_Inv rxL S) (I1 : bx_Inv rxL S) (hinv : rxICMB_0 S0 ws S op a b) (l8 : 11 ≤ op) (u8 : op ≤ 11) (l9 : (-9223372036854775808) ≤ a) (u9 : a ≤ 9223372036854775806) (l10 : (-9223372036854775807) ≤ b) (u10 : b ≤ 9223372036854775807) (f0 : a < b) : (True) ∧ rxPSCMB S0 ws S (some 1) := by
  obtain ⟨rfl, hw⟩ := hinv
  refine ⟨trivial, op, a, b, hw, rfl, Or.inl ⟨1, ?_, rfl⟩⟩
  have e : op = 11 ∨ op = 12 ∨ op = 13 := by omega
  rcases e with rfl | rfl | rfl
  · exact rkBi_25.trans (congrArg some (by first | exact if_pos (by omega) | exact if_neg (by omega) | (exfalso; omega)))
  · exact rkBi_26.trans (congrArg some (by first | exact if_pos (by omega) | exact if_neg (by omega) | (exfalso; omega)))
  · exact rkBi_27.trans (congrArg some (by first | exact if_pos (by omega) | exact if_neg (by omega) | (exfalso; omega)))
theorem rxfCMB_0_4 {X : (Nat → Int → Int) → Prop} {S0 : Nat → Int → Int} {ws : List Int} (hP : rxPCMB S0 ws) : bx_obE rxL X S0 rxCCMB.2.2.1 (rxICMB S0 ws) (rxPSCMB S0 ws) 0 rxzCMB_0 rxeCMB_0_4 := by
  intro S S_p r r_p hinv hX hin hsm_ hseg
  obtain ⟨I0, I1, h0_, hr_, b_, f_, d_⟩ := bx_cl (evs := []) (fvs := [(0, (9, 0), (10, 0), (0, 0))]) hseg (by decide +kernel) (by decide +kernel)
  have hinv : rxICMB_0 S0 ws S (r 8) (r 9) (r 10) := hinv
  rw [← hr_ 8 (by decide), ← hr_ 9 (by decide), ← hr_ 10 (by decide)] at hinv
  obtain ⟨⟨l8, u8⟩, ⟨l9, u9⟩, ⟨l10, u10⟩, -⟩ := b_
  obtain ⟨f0, -⟩ := f_
  have w_ := d_
  subst w_
  have g := rxdCMB_0_4 hP hin hsm_ I0 I1 hinv l8 u8 l9 u9 l10 u10 f0
  refine ⟨bx_narP_ok (l := []) g.1, ?_⟩
  show rxPSCMB S0 ws S_p (some (bx_num r_p (.inr (1, (0, 1)))))
  rw [bx_xv_ok h0_]
  exact g.2
theorem rxdCMB_0_5 {S0 : Nat → Int → Int} {ws : List Int} {S : Nat → Int → Int} {op a b : Int} (hP : rxPCMB S0 ws) (hin : bx_same rxL (bx_mdl rxCCMB.2.2.1) S0 S) (hin2 : bx_same rxL (bx_mdl rxCCMB.2.2.1) S S) (I0 : bx_Inv rxL S) (I1 : bx_Inv rxL S) (hinv : rxICMB_0 S0 ws S op a b) (l8 : 11 ≤ op) (u8 : op ≤ 11) (l9 : (-9223372036854775808) ≤ a) (u9 : a ≤ 9223372036854775807) (l10 : (-9223372036854775808) ≤ b) (u10 : b ≤ 9223372036854775807) (f0 : b ≤ a) : (True) ∧ rxPSCMB S0 ws S (some 0) := by
  obtain ⟨rfl, hw⟩ := hinv
  refine ⟨trivial, op, a, b, hw, rfl, Or.inl ⟨0, ?_, rfl⟩⟩
  have e : op = 11 ∨ op = 12 ∨ op = 13 := by omega
  rcases e with rfl | rfl | rfl
  · exact rkBi_25.trans (congrArg some (by first | exact if_pos (by omega) | exact if_neg (by omega) | (exfalso; omega)))
  · exact rkBi_26.trans (congrArg some (by first | exact if_pos (by omega) | exact if_neg (by omega) | (exfalso; omega)))
  · exact rkBi_27.trans (congrArg some (by first | exact if_pos (by omega) | exact if_neg (by omega) | (exfalso; omega)))
theorem rxfCMB_0_5 {X : (Nat → Int → Int) → Prop} {S0 : Nat → Int → Int} {ws : List Int} (hP : rxPCMB S0 ws) : bx_obE rxL X S0 rxCCMB.2.2.1 (rxICMB S0 ws) (rxPSCMB S0 ws) 0 rxzCMB_0 rxeCMB_0_5 := by
  intro S S_p r r_p hinv hX hin hsm_ hseg
  obtain ⟨I0, I1, h0_, hr_, b_, f_, d_⟩ := bx_cl (evs := []) (fvs := [(1, (10, 0), (9, 0), (0, 0))]) hseg (by decide +kernel) (by decide +kernel)
  have hinv : rxICMB_0 S0 ws S (r 8) (r 9) (r 10) := hinv
  rw [← hr_ 8 (by decide), ← hr_ 9 (by decide), ← hr_ 10 (by decide)] at hinv
  obtain ⟨⟨l8, u8⟩, ⟨l9, u9⟩, ⟨l10, u10⟩, -⟩ := b_
  obtain ⟨f0, -⟩ := f_
  have w_ := d_
  subst w_
  have g := rxdCMB_0_5 hP hin hsm_ I0 I1 hinv l8 u8 l9 u9 l10 u10 f0
  refine ⟨bx_narP_ok (l := []) g.1, ?_⟩
  show rxPSCMB S0 ws S_p (some (bx_num r_p (.inr (1, (0, 0)))))
  rw [bx_xv_ok h0_]
  exact g.2
theorem rxdCMB_0_6 {S0 : Nat → Int → Int} {ws : List Int} {S : Nat → Int → Int} {op a b : Int} (hP : rxPCMB S0 ws) (hin : bx_same rxL (bx_mdl rxCCMB.2.2.1) S0 S) (hin2 : bx_same rxL (bx_mdl rxCCMB.2.2.1) S S) (I0 : bx_Inv rxL S) (I1 : bx_Inv rxL S) (hinv : rxICMB_0 S0 ws S op a b) (l8 : 10 ≤ op) (u8 : op ≤ 10) (l9 : (-9223372036854775808) ≤ a) (u9 : a ≤ 9223372036854775807) (l10 : 0 ≤ b) (u10 : b ≤ 0) : (True) ∧ rxPSCMB S0 ws S (some ((-4000000000000000000))) := by
  obtain ⟨rfl, hw⟩ := hinv
  refine ⟨trivial, op, a, b, hw, rfl, Or.inr ⟨?_, rfl⟩⟩
  have e : op = 9 ∨ op = 10 := by omega
  have z : b = 0 := by omega
  rcases e with rfl | rfl
  · exact rkBi_23z z
  · exact rkBi_24z z
theorem rxfCMB_0_6 {X : (Nat → Int → Int) → Prop} {S0 : Nat → Int → Int} {ws : List Int} (hP : rxPCMB S0 ws) : bx_obE rxL X S0 rxCCMB.2.2.1 (rxICMB S0 ws) (rxPSCMB S0 ws) 0 rxzCMB_0 rxeCMB_0_6 := by
  intro S S_p r r_p hinv hX hin hsm_ hseg
  obtain ⟨I0, I1, h0_, hr_, b_, f_, d_⟩ := bx_cl (evs := []) (fvs := []) hseg (by decide +kernel) (by decide +kernel)
  have hinv : rxICMB_0 S0 ws S (r 8) (r 9) (r 10) := hinv
  rw [← hr_ 8 (by decide), ← hr_ 9 (by decide), ← hr_ 10 (by decide)] at hinv
  obtain ⟨⟨l8, u8⟩, ⟨l9, u9⟩, ⟨l10, u10⟩, -⟩ := b_
  have w_ := d_
  subst w_
  have g := rxdCMB_0_6 hP hin hsm_ I0 I1 hinv l8 u8 l9 u9 l10 u10
  refine ⟨bx_narP_ok (l := []) g.1, ?_⟩
  show rxPSCMB S0 ws S_p (some (bx_num r_p (.inr (1, (0, (-4000000000000000000))))))
  rw [bx_xv_ok h0_]
  exact g.2
theorem rxdCMB_0_7 {S0 : Nat → Int → Int} {ws : List Int} {S : Nat → Int → Int} {op a b : Int} (hP : rxPCMB S0 ws) (hin : bx_same rxL (bx_mdl rxCCMB.2.2.1) S0 S) (hin2 : bx_same rxL (bx_mdl rxCCMB.2.2.1) S S) (I0 : bx_Inv rxL S) (I1 : bx_Inv rxL S) (hinv : rxICMB_0 S0 ws S op a b) (l8 : 9 ≤ op) (u8 : op ≤ 9) (l9 : (-9223372036854775808) ≤ a) (u9 : a ≤ 9223372036854775807) (l10 : 0 ≤ b) (u10 : b ≤ 0) : (True) ∧ rxPSCMB S0 ws S (some ((-4000000000000000000))) := by
  obtain ⟨rfl, hw⟩ := hinv
  refine ⟨trivial, op, a, b, hw, rfl, Or.inr ⟨?_, rfl⟩⟩
  have e : op = 9 ∨ op = 10 := by omega
  have z : b = 0 := by omega
  rcases e with rfl | rfl
  · exact rkBi_23z z
  · exact rkBi_24z z
theorem rxfCMB_0_7 {X : (Nat → Int → Int) → Prop} {S0 : Nat → Int → Int} {ws : List Int} (hP : rxPCMB S0 ws) : bx_obE rxL X S0 rxCCMB.2.2.1 (rxICMB S0 ws) (rxPSCMB S0 ws) 0 rxzCMB_0 rxeCMB_0_7 := by
  intro S S_p r r_p hinv hX hin hsm_ hseg
  obtain ⟨I0, I1, h0_, hr_, b_, f_, d_⟩ := bx_cl (evs := []) (fvs := []) hseg (by decide +kernel) (by decide +kernel)
  have hinv : rxICMB_0 S0 ws S (r 8) (r 9) (r 10) := hinv
  rw [← hr_ 8 (by decide), ← hr_ 9 (by decide), ← hr_ 10 (by decide)] at hinv
  obtain ⟨⟨l8, u8⟩, ⟨l9, u9⟩, ⟨l10, u10⟩, -⟩ := b_
  have w_ := d_
  subst w_
  have g := rxdCMB_0_7 hP hin hsm_ I0 I1 hinv l8 u8 l9 u9 l10 u10
  refine ⟨bx_narP_ok (l := []) g.1, ?_⟩
  show rxPSCMB S0 ws S_p (some (bx_num r_p (.inr (1, (0, (-4000000000000000000))))))
  rw [bx_xv_ok h0_]
  exact g.2
theorem rxdCMB_2_0 {S0 : Nat → Int → Int} {ws : List Int} {S : Nat → Int → Int} {a b y : Int} (hP : rxPCMB S0 ws) (hin : bx_same rxL (bx_mdl rxCCMB.2.2.1) S0 S) (hin2 : bx_same rxL (bx_mdl rxCCMB.2.2.1) S S) (I0 : bx_Inv rxL S) (I1 : bx_Inv rxL S) (hinv : rxICMB_2 S0 ws S a b y) (l8 : (-9223372036854775808) ≤ a) (u8 : a ≤ 9223372036854775807) (l9 : (-9223372036854775808) ≤ b) (u9 : b ≤ 9223372036854775807) (l10 : (-9223372036854775808) ≤ y) (u10 : y ≤ 9223372036854775807) : (True) ∧ rxPSCMB S0 ws S (some y) := by
  obtain ⟨hw, -, -, hS, hy⟩ := hinv
  exact ⟨trivial, 6, a, b, hw, hS, Or.inl ⟨y, hy.symm, rfl⟩⟩
theorem rxfCMB_2_0 {X : (Nat → Int → Int) → Prop} {S0 : Nat → Int → Int} {ws : List Int} (hP : rxPCMB S0 ws) : bx_obE rxL X S0 rxCCMB.2.2.1 (rxICMB S0 ws) (rxPSCMB S0 ws) 2 rxzCMB_2 rxeCMB_2_0 := by
  intro S S_p r r_p hinv hX hin hsm_ hseg
  obtain ⟨I0, I1, h0_, hr_, b_, f_, d_⟩ := bx_cl (evs := []) (fvs := []) hseg (by decide +kernel) (by decide +kernel)
  have hinv : rxICMB_2 S0 ws S (r 8) (r 9) (r 10) := hinv
  rw [← hr_ 8 (by decide), ← hr_ 9 (by decide), ← hr_ 10 (by decide)] at hinv
  obtain ⟨⟨l8, u8⟩, ⟨l9, u9⟩, ⟨l10, u10⟩, -⟩ := b_
  have w_ := d_
  subst w_
  have g := rxdCMB_2_0 hP hin hsm_ I0 I1 hinv l8 u8 l9 u9 l10 u10
  refine ⟨bx_narP_ok (l := []) g.1, ?_⟩
  show rxPSCMB S0 ws S_p (some (bx_num r_p (.inr (1, (10, 0)))))
  rw [bx_xv_ok h0_]
  exact g.2
theorem rxdCMB_4_0 {S0 : Nat → Int → Int} {ws : List Int} {S : Nat → Int → Int} {a b y : Int} (hP : rxPCMB S0 ws) (hin : bx_same rxL (bx_mdl rxCCMB.2.2.1) S0 S) (hin2 : bx_same rxL (bx_mdl rxCCMB.2.2.1) S S) (I0 : bx_Inv rxL S) (I1 : bx_Inv rxL S) (hinv : rxICMB_4 S0 ws S a b y) (l8 : (-9223372036854775808) ≤ a) (u8 : a ≤ 9223372036854775807) (l9 : (-9223372036854775808) ≤ b) (u9 : b ≤ 9223372036854775807) (l10 : (-9223372036854775808) ≤ y) (u10 : y ≤ 9223372036854775807) : (True) ∧ rxPSCMB S0 ws S (some y) := by
  obtain ⟨hw, -, -, hS, hy⟩ := hinv
  exact ⟨trivial, 7, a, b, hw, hS, Or.inl ⟨y, hy.symm, rfl⟩⟩
theorem rxfCMB_4_0 {X : (Nat → Int → Int) → Prop} {S0 : Nat → Int → Int} {ws : List Int} (hP : rxPCMB S0 ws) : bx_obE rxL X S0 rxCCMB.2.2.1 (rxICMB S0 ws) (rxPSCMB S0 ws) 4 rxzCMB_4 rxeCMB_4_0 := by
  intro S S_p r r_p hinv hX hin hsm_ hseg
  obtain ⟨I0, I1, h0_, hr_, b_, f_, d_⟩ := bx_cl (evs := []) (fvs := []) hseg (by decide +kernel) (by decide +kernel)
  have hinv : rxICMB_4 S0 ws S (r 8) (r 9) (r 10) := hinv
  rw [← hr_ 8 (by decide), ← hr_ 9 (by decide), ← hr_ 10 (by decide)] at hinv
  obtain ⟨⟨l8, u8⟩, ⟨l9, u9⟩, ⟨l10, u10⟩, -⟩ := b_
  have w_ := d_
  subst w_
  have g := rxdCMB_4_0 hP hin hsm_ I0 I1 hinv l8 u8 l9 u9 l10 u10
  refine ⟨bx_narP_ok (l := []) g.1, ?_⟩
  show rxPSCMB S0 ws S_p (some (bx_num r_p (.inr (1, (10, 0)))))
  rw [bx_xv_ok h0_]
  exact g.2
theorem rxdCMB_6_0 {S0 : Nat → Int → Int} {ws : List Int} {S : Nat → Int → Int} {a b y : Int} (hP : rxPCMB S0 ws) (hin : bx_same rxL (bx_mdl rxCCMB.2.2.1) S0 S) (hin2 : bx_same rxL (bx_mdl rxCCMB.2.2.1) S S) (I0 : bx_Inv rxL S) (I1 : bx_Inv rxL S) (hinv : rxICMB_6 S0 ws S a b y) (l8 : (-9223372036854775808) ≤ a) (u8 : a ≤ 9223372036854775807) (l9 : (-9223372036854775808) ≤ b) (u9 : b ≤ 9223372036854775807) (l10 : (-9223372036854775808) ≤ y) (u10 : y ≤ 9223372036854775807) : (True) ∧ rxPSCMB S0 ws S (some y) := by
  obtain ⟨hw, -, -, hS, hy⟩ := hinv
  exact ⟨trivial, 8, a, b, hw, hS, Or.inl ⟨y, hy.symm, rfl⟩⟩
theorem rxfCMB_6_0 {X : (Nat → Int → Int) → Prop} {S0 : Nat → Int → Int} {ws : List Int} (hP : rxPCMB S0 ws) : bx_obE rxL X S0 rxCCMB.2.2.1 (rxICMB S0 ws) (rxPSCMB S0 ws) 6 rxzCMB_6 rxeCMB_6_0 := by
  intro S S_p r r_p hinv hX hin hsm_ hseg
  obtain ⟨I0, I1, h0_, hr_, b_, f_, d_⟩ := bx_cl (evs := []) (fvs := []) hseg (by decide +kernel) (by decide +kernel)
  have hinv : rxICMB_6 S0 ws S (r 8) (r 9) (r 10) := hinv
  rw [← hr_ 8 (by decide), ← hr_ 9 (by decide), ← hr_ 10 (by decide)] at hinv
  obtain ⟨⟨l8, u8⟩, ⟨l9, u9⟩, ⟨l10, u10⟩, -⟩ := b_
  have w_ := d_
  subst w_
  have g := rxdCMB_6_0 hP hin hsm_ I0 I1 hinv l8 u8 l9 u9 l10 u10
  refine ⟨bx_narP_ok (l := []) g.1, ?_⟩
  show rxPSCMB S0 ws S_p (some (bx_num r_p (.inr (1, (10, 0)))))
  rw [bx_xv_ok h0_]
  exact g.2
theorem rxdCMB_8_0 {S0 : Nat → Int → Int} {ws : List Int} {S : Nat → Int → Int} {a b y : Int} (hP : rxPCMB S0 ws) (hin : bx_same rxL (bx_mdl rxCCMB.2.2.1) S0 S) (hin2 : bx_same rxL (bx_mdl rxCCMB.2.2.1) S S) (I0 : bx_Inv rxL S) (I1 : bx_Inv rxL S) (hinv : rxICMB_8 S0 ws S a b y) (l8 : (-9223372036854775808) ≤ a) (u8 : a ≤ 9223372036854775807) (l9 : (-9223372036854775808) ≤ b) (u9 : b ≤ 9223372036854775807) (l10 : (-9223372036854775808) ≤ y) (u10 : y ≤ 9223372036854775807) : (True) ∧ rxPSCMB S0 ws S (some y) := by
  obtain ⟨hw, -, -, hS, -, hy⟩ := hinv
  exact ⟨trivial, 9, a, b, hw, hS, Or.inl ⟨y, hy.symm, rfl⟩⟩
theorem rxfCMB_8_0 {X : (Nat → Int → Int) → Prop} {S0 : Nat → Int → Int} {ws : List Int} (hP : rxPCMB S0 ws) : bx_obE rxL X S0 rxCCMB.2.2.1 (rxICMB S0 ws) (rxPSCMB S0 ws) 8 rxzCMB_8 rxeCMB_8_0 := by
  intro S S_p r r_p hinv hX hin hsm_ hseg
  obtain ⟨I0, I1, h0_, hr_, b_, f_, d_⟩ := bx_cl (evs := []) (fvs := []) hseg (by decide +kernel) (by decide +kernel)
  have hinv : rxICMB_8 S0 ws S (r 8) (r 9) (r 10) := hinv
  rw [← hr_ 8 (by decide), ← hr_ 9 (by decide), ← hr_ 10 (by decide)] at hinv
  obtain ⟨⟨l8, u8⟩, ⟨l9, u9⟩, ⟨l10, u10⟩, -⟩ := b_
  have w_ := d_
  subst w_
  have g := rxdCMB_8_0 hP hin hsm_ I0 I1 hinv l8 u8 l9 u9 l10 u10
  refine ⟨bx_narP_ok (l := []) g.1, ?_⟩
  show rxPSCMB S0 ws S_p (some (bx_num r_p (.inr (1, (10, 0)))))
  rw [bx_xv_ok h0_]
  exact g.2
theorem rxdCMB_10_0 {S0 : Nat → Int → Int} {ws : List Int} {S : Nat → Int → Int} {a b y : Int} (hP : rxPCMB S0 ws) (hin : bx_same rxL (bx_mdl rxCCMB.2.2.1) S0 S) (hin2 : bx_same rxL (bx_mdl rxCCMB.2.2.1) S S) (I0 : bx_Inv rxL S) (I1 : bx_Inv rxL S) (hinv : rxICMB_10 S0 ws S a b y) (l8 : (-9223372036854775808) ≤ a) (u8 : a ≤ 9223372036854775807) (l9 : (-9223372036854775808) ≤ b) (u9 : b ≤ 9223372036854775807) (l10 : (-9223372036854775808) ≤ y) (u10 : y ≤ 9223372036854775807) : (True) ∧ rxPSCMB S0 ws S (some y) := by
  obtain ⟨hw, -, -, hS, -, hy⟩ := hinv
  exact ⟨trivial, 10, a, b, hw, hS, Or.inl ⟨y, hy.symm, rfl⟩⟩
theorem rxfCMB_10_0 {X : (Nat → Int → Int) → Prop} {S0 : Nat → Int → Int} {ws : List Int} (hP : rxPCMB S0 ws) : bx_obE rxL X S0 rxCCMB.2.2.1 (rxICMB S0 ws) (rxPSCMB S0 ws) 10 rxzCMB_10 rxeCMB_10_0 := by
  intro S S_p r r_p hinv hX hin hsm_ hseg
  obtain ⟨I0, I1, h0_, hr_, b_, f_, d_⟩ := bx_cl (evs := []) (fvs := []) hseg (by decide +kernel) (by decide +kernel)
  have hinv : rxICMB_10 S0 ws S (r 8) (r 9) (r 10) := hinv
  rw [← hr_ 8 (by decide), ← hr_ 9 (by decide), ← hr_ 10 (by decide)] at hinv
  obtain ⟨⟨l8, u8⟩, ⟨l9, u9⟩, ⟨l10, u10⟩, -⟩ := b_
  have w_ := d_
  subst w_
  have g := rxdCMB_10_0 hP hin hsm_ I0 I1 hinv l8 u8 l9 u9 l10 u10
  refine ⟨bx_narP_ok (l := []) g.1, ?_⟩
  show rxPSCMB S0 ws S_p (some (bx_num r_p (.inr (1, (10, 0)))))
  rw [bx_xv_ok h0_]
  exact g.2
theorem rxgCCMB {X : (Nat → Int → Int) → Prop} {S0 : Nat → Int → Int} {ws : List Int} (hP : rxPCMB S0 ws) : bx_allI (fun i q => rxUCMB q = true ∨ bx_allP (fun o => bx_obC rxL X S0 rxCCMB.2.2.1 (rxICMB S0 ws) (rxmCMB S0 ws) i q.1 o) q.2.1) 0 rxYCMB := ⟨Or.inr ⟨rxgCMB_0_0 hP, rxgCMB_0_1 hP, rxgCMB_0_2 hP, rxgCMB_0_3 hP, rxgCMB_0_4 hP, trivial⟩, Or.inl rfl, Or.inr trivial, Or.inl rfl, Or.inr trivial, Or.inl rfl, Or.inr trivial, Or.inl rfl, Or.inr trivial, Or.inl rfl, Or.inr trivial, trivial⟩
theorem rxgECMB {X : (Nat → Int → Int) → Prop} {S0 : Nat → Int → Int} {ws : List Int} (hP : rxPCMB S0 ws) : bx_allI (fun i q => rxUCMB q = true ∨ bx_allP (fun E => bx_obE rxL X S0 rxCCMB.2.2.1 (rxICMB S0 ws) (rxPSCMB S0 ws) i q.1 E) q.2.2) 0 rxYCMB := ⟨Or.inr ⟨rxfCMB_0_0 hP, rxfCMB_0_1 hP, rxfCMB_0_2 hP, rxfCMB_0_3 hP, rxfCMB_0_4 hP, rxfCMB_0_5 hP, rxfCMB_0_6 hP, rxfCMB_0_7 hP, trivial⟩, Or.inl rfl, Or.inr ⟨rxfCMB_2_0 hP, trivial⟩, Or.inl rfl, Or.inr ⟨rxfCMB_4_0 hP, trivial⟩, Or.inl rfl, Or.inr ⟨rxfCMB_6_0 hP, trivial⟩, Or.inl rfl, Or.inr ⟨rxfCMB_8_0 hP, trivial⟩, Or.inl rfl, Or.inr ⟨rxfCMB_10_0 hP, trivial⟩, trivial⟩
theorem rxuCMB {PX : State → Prop} {Dg : va_G} {A : Nat → Prop} {ad xa : Nat → Nat} {l : Launch} {X : (Nat → Int → Int) → Prop} (hPX : rx_PXOK rxNW A PX) (hX : ∀ S S1 : Nat → Int → Int, X S → bx_same rxL (bx_mdl rxCCMB.2.2.1) S S1 → X S1) {S0 : Nat → Int → Int} {ws : List Int} (hP : rxPCMB S0 ws) : ∀ (i : Nat) (q : bx_HE), rxYCMB[i]? = some q → rxUCMB q = true → ∀ {p : Program} {e : Env} {R : Room} {s : State} {m : MethodId} {args : Array Value} {below : List Frame} {meth : Method} {c : Code} {Q : State → Prop} {H0 : Heap}, rx_Fr rxG rxNW rxAO PX p s m args meth c rxM3 → (∀ q, H0.size ≤ q → A q) → H0 = s.heap → rxM3.2.2.2.2.2.2.1 ≤ R.cells → rxM3.2.2.2.2.2.2.2 ≤ R.slots → rxCCMB.2.2.2.1 ≤ R.frames → rxCCMB.2.2.2.1 * 40 ≤ R.locals → bx_Step p l e R s m args below meth c Q Dg rxL X vwCl A xa H0 ad rxM3 rxYCMB (rxICMB S0 ws) (rxmCMB S0 ws) S0 rxCCMB.2.2.1 i q := by
  intro i q hq hus p e R s m args below meth c Q H0 hF hA hH0 hmc hms hd hdl
  match i, hq with
  | 0, hq =>
    cases hq
    exact absurd (show false = true from hus) Bool.false_ne_true
  | 1, hq =>
    cases hq
    exact rx_stepBM (i_p := 2) (o := 40) (a := (8, 0)) (b := (9, 0)) (lo := (-9223372036854775808)) (hi := 9223372036854775807) (t := []) hF (Or.inl ⟨rfl, rfl⟩) (by decide +kernel) rfl rfl rfl rfl (rxsCMB_1 hP)
  | 2, hq =>
    cases hq
    exact absurd (show false = true from hus) Bool.false_ne_true
  | 3, hq =>
    cases hq
    exact rx_stepBM (i_p := 4) (o := 41) (a := (8, 0)) (b := (9, 0)) (lo := (-9223372036854775808)) (hi := 9223372036854775807) (t := []) hF (Or.inr (Or.inl ⟨rfl, rfl⟩)) (by decide +kernel) rfl rfl rfl rfl (rxsCMB_3 hP)
  | 4, hq =>
    cases hq
    exact absurd (show false = true from hus) Bool.false_ne_true
  | 5, hq =>
    cases hq
    exact rx_stepBM (i_p := 6) (o := 42) (a := (8, 0)) (b := (9, 0)) (lo := (-9223372036854775808)) (hi := 9223372036854775807) (t := []) hF (Or.inr (Or.inr (Or.inl ⟨rfl, rfl⟩))) (by decide +kernel) rfl rfl rfl rfl (rxsCMB_5 hP)
  | 6, hq =>
    cases hq
    exact absurd (show false = true from hus) Bool.false_ne_true
  | 7, hq =>
    cases hq
    exact rx_stepBM (i_p := 8) (o := 43) (a := (8, 0)) (b := (9, 0)) (lo := (-9223372036854775808)) (hi := 9223372036854775807) (t := []) hF (Or.inr (Or.inr (Or.inr (Or.inl ⟨rfl, rfl⟩)))) (by decide +kernel) rfl rfl rfl rfl (rxsCMB_7 hP)
  | 8, hq =>
    cases hq
    exact absurd (show false = true from hus) Bool.false_ne_true
  | 9, hq =>
    cases hq
    exact rx_stepBM (i_p := 10) (o := 44) (a := (8, 0)) (b := (9, 0)) (lo := (-9223372036854775808)) (hi := 9223372036854775807) (t := []) hF (Or.inr (Or.inr (Or.inr (Or.inr ⟨rfl, rfl⟩)))) (by decide +kernel) rfl rfl rfl rfl (rxsCMB_9 hP)
  | 10, hq =>
    cases hq
    exact absurd (show false = true from hus) Bool.false_ne_true
  | n + 11, hq => cases hq
theorem rxQCMB {PX : State → Prop} {Dg : va_G} {A : Nat → Prop} {ad xa : Nat → Nat} {l : Launch} {X : (Nat → Int → Int) → Prop} (hPX : rx_PXOK rxNW A PX) (hsl : ∀ s : State, PX s → ∀ o idx n : Nat, rxSl o idx = some n → ∃ tx : String, vk_R (rxNm o) idx tx (ad n) s)
    (hX : ∀ S S_p : Nat → Int → Int, X S → bx_same rxL (bx_mdl rxCCMB.2.2.1) S S_p → X S_p)
    (ih : ∀ (j2 : Nat) (ct2 : bx_Ct) (M2 : rx_Mt), ct2 ∈ rxCnE j2 → ct2.2.2.2.1 + 1 ≤ rxCCMB.2.2.2.1 → rxT.2.2.2.2.2 j2 = some M2 → bx_Con rxG rxNW rxAO PX Dg rxL X vwCl A ad l M2 ct2) : bx_ConP rxG rxNW rxAO PX Dg rxL X vwCl A ad l rxM3 rxCCMB rxPCMB rxPSCMB :=
  rxQof (xa := xa) (Cn := rxCnE) (f := 30000) (j := 3) (tab := rxYCMB) (us := rxUCMB) hPX hsl hX ih rfl rxYcCMB rxICMB rxmCMB
    (fun S0 ws r I0 I ht0 ht as he he1 hX0 hI0 hP hs ha => by
      have e := he.symm.trans (show bx_ent0 rxNP rxCCMB.1 bx_I0 [] = some ([(0, 0), (0, 0), (0, 0), (0, 0), (0, 0), (0, 0), (0, 0), (0, 0), (6, 13), ((-9223372036854775808), 9223372036854775807), ((-9223372036854775808), 9223372036854775807)], [], [.inr (0, (8, 0)), .inr (1, (9, 0)), .inr (1, (10, 0))]) from rfl)
      cases e
      subst ha
      have h0 : r 0 = 0 := hs.1
      show rxICMB_0 S0 _ S0 (r 8) (r 9) (r 10)
      refine ⟨rfl, ?_⟩
      simp only [List.map_cons, List.map_nil, bx_xv_ok h0]
      rfl)
    (fun S0 ws hP => rxuCMB (xa := xa) hPX hX hP) (fun S0 ws hP => rxgCCMB hP) (fun S0 ws hP => rxgECMB hP)
