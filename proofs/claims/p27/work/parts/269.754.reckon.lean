noncomputable def rxCRKN : bx_Ct := ([(3, (1, 480, 0)), (0, (0, 20, 27)), (2, (0, (-9223372036854775808), 9223372036854775807)), (2, (0, (-9223372036854775808), 9223372036854775807))], some (2, (0, (-9223372036854775808), 9223372036854775807)), [(12, 32)], 0, [])
noncomputable def rxIRKN_0 (S0 : Nat → Int → Int) (ws : List Int) (S : Nat → Int → Int) (op a b : Int) : Prop := S = S0 ∧ ws = [480, op, a, b]
noncomputable def rxmRKN_0 (S0 : Nat → Int → Int) (ws : List Int) (S : Nat → Int → Int) (op a b : Int) : Nat := 100
noncomputable def rxzRKN_0 : rx_Z := ([(0, 0), (0, 0), (0, 0), (0, 0), (0, 0), (0, 0), (0, 0), (0, 0), (20, 27), ((-9223372036854775808), 9223372036854775807), ((-9223372036854775808), 9223372036854775807)], [], [], 0, 0, 0, [(0, .inr (3, (0, 480))), (1, .inr (0, (8, 0))), (2, .inr (1, (9, 0))), (4, .inr (1, (10, 0)))], [])
noncomputable def rxIRKN_1 (S0 : Nat → Int → Int) (ws : List Int) (S : Nat → Int → Int) (a b : Int) : Prop := ws = [480, 20, a, b] ∧ rkIn a ∧ rkIn b ∧ S = S0
noncomputable def rxmRKN_1 (S0 : Nat → Int → Int) (ws : List Int) (S : Nat → Int → Int) (a b : Int) : Nat := 50
noncomputable def rxzRKN_1 : rx_Z := ([(0, 0), (0, 0), (0, 0), (0, 0), (0, 0), (0, 0), (0, 0), (0, 0), ((-9223372036854775808), 9223372036854775807), ((-9223372036854775808), 9223372036854775807)], [], [], 0, 0, 47, [(0, .inr (3, (0, 480)))], [.inr (1, (9, 0)), .inr (1, (8, 0))])
noncomputable def rxIRKN_2 (S0 : Nat → Int → Int) (ws : List Int) (S : Nat → Int → Int) (a b y : Int) : Prop := ws = [480, 20, a, b] ∧ rkIn a ∧ rkIn b ∧ S = S0 ∧ some y = rkBi 20 a b
noncomputable def rxmRKN_2 (S0 : Nat → Int → Int) (ws : List Int) (S : Nat → Int → Int) (a b y : Int) : Nat := 40
noncomputable def rxzRKN_2 : rx_Z := ([(0, 0), (0, 0), (0, 0), (0, 0), (0, 0), (0, 0), (0, 0), (0, 0), ((-9223372036854775808), 9223372036854775807), ((-9223372036854775808), 9223372036854775807), ((-9223372036854775808), 9223372036854775807)], [], [], 0, 0, 48, [(0, .inr (3, (0, 480)))], [.inr (1, (10, 0))])
noncomputable def rxIRKN_3 (S0 : Nat → Int → Int) (ws : List Int) (S : Nat → Int → Int) (a b : Int) : Prop := ws = [480, 21, a, b] ∧ rkIn a ∧ rkIn b ∧ S = S0
noncomputable def rxmRKN_3 (S0 : Nat → Int → Int) (ws : List Int) (S : Nat → Int → Int) (a b : Int) : Nat := 50
noncomputable def rxzRKN_3 : rx_Z := ([(0, 0), (0, 0), (0, 0), (0, 0), (0, 0), (0, 0), (0, 0), (0, 0), ((-9223372036854775808), 9223372036854775807), ((-9223372036854775808), 9223372036854775807)], [], [], 0, 0, 52, [(0, .inr (3, (0, 480)))], [.inr (1, (9, 0)), .inr (1, (8, 0))])
noncomputable def rxIRKN_4 (S0 : Nat → Int → Int) (ws : List Int) (S : Nat → Int → Int) (a b y : Int) : Prop := ws = [480, 21, a, b] ∧ rkIn a ∧ rkIn b ∧ S = S0 ∧ some y = rkBi 21 a b
noncomputable def rxmRKN_4 (S0 : Nat → Int → Int) (ws : List Int) (S : Nat → Int → Int) (a b y : Int) : Nat := 40
noncomputable def rxzRKN_4 : rx_Z := ([(0, 0), (0, 0), (0, 0), (0, 0), (0, 0), (0, 0), (0, 0), (0, 0), ((-9223372036854775808), 9223372036854775807), ((-9223372036854775808), 9223372036854775807), ((-9223372036854775808), 9223372036854775807)], [], [], 0, 0, 53, [(0, .inr (3, (0, 480)))], [.inr (1, (10, 0))])
noncomputable def rxIRKN_5 (S0 : Nat → Int → Int) (ws : List Int) (S : Nat → Int → Int) (a b : Int) : Prop := ws = [480, 22, a, b] ∧ rkIn a ∧ rkIn b ∧ S = S0
noncomputable def rxmRKN_5 (S0 : Nat → Int → Int) (ws : List Int) (S : Nat → Int → Int) (a b : Int) : Nat := 50
noncomputable def rxzRKN_5 : rx_Z := ([(0, 0), (0, 0), (0, 0), (0, 0), (0, 0), (0, 0), (0, 0), (0, 0), ((-9223372036854775808), 9223372036854775807), ((-9223372036854775808), 9223372036854775807)], [], [], 0, 0, 57, [(0, .inr (3, (0, 480)))], [.inr (1, (9, 0)), .inr (1, (8, 0))])
noncomputable def rxIRKN_6 (S0 : Nat → Int → Int) (ws : List Int) (S : Nat → Int → Int) (a b y : Int) : Prop := ws = [480, 22, a, b] ∧ rkIn a ∧ rkIn b ∧ S = S0 ∧ some y = rkBi 22 a b
noncomputable def rxmRKN_6 (S0 : Nat → Int → Int) (ws : List Int) (S : Nat → Int → Int) (a b y : Int) : Nat := 40
noncomputable def rxzRKN_6 : rx_Z := ([(0, 0), (0, 0), (0, 0), (0, 0), (0, 0), (0, 0), (0, 0), (0, 0), ((-9223372036854775808), 9223372036854775807), ((-9223372036854775808), 9223372036854775807), ((-9223372036854775808), 9223372036854775807)], [], [], 0, 0, 58, [(0, .inr (3, (0, 480)))], [.inr (1, (10, 0))])
noncomputable def rxIRKN_7 (S0 : Nat → Int → Int) (ws : List Int) (S : Nat → Int → Int) (a b : Int) : Prop := ws = [480, 23, a, b] ∧ rkIn a ∧ rkIn b ∧ b ≠ 0 ∧ S = bx_up S0 480 32 0
noncomputable def rxmRKN_7 (S0 : Nat → Int → Int) (ws : List Int) (S : Nat → Int → Int) (a b : Int) : Nat := 50
noncomputable def rxzRKN_7 : rx_Z := ([(0, 0), (0, 0), (0, 0), (0, 0), (0, 0), (0, 0), (0, 0), (0, 0), ((-9223372036854775808), 9223372036854775807), ((-9223372036854775808), 9223372036854775807)], [], [], 0, 0, 89, [(0, .inr (3, (0, 480)))], [.inr (1, (9, 0)), .inr (1, (8, 0))])
noncomputable def rxIRKN_8 (S0 : Nat → Int → Int) (ws : List Int) (S : Nat → Int → Int) (a b y : Int) : Prop := ws = [480, 23, a, b] ∧ rkIn a ∧ rkIn b ∧ b ≠ 0 ∧ S = bx_up S0 480 32 0 ∧ some y = rkBi 23 a b
noncomputable def rxmRKN_8 (S0 : Nat → Int → Int) (ws : List Int) (S : Nat → Int → Int) (a b y : Int) : Nat := 40
noncomputable def rxzRKN_8 : rx_Z := ([(0, 0), (0, 0), (0, 0), (0, 0), (0, 0), (0, 0), (0, 0), (0, 0), ((-9223372036854775808), 9223372036854775807), ((-9223372036854775808), 9223372036854775807), ((-9223372036854775808), 9223372036854775807)], [], [], 0, 0, 90, [(0, .inr (3, (0, 480)))], [.inr (1, (10, 0))])
noncomputable def rxIRKN_9 (S0 : Nat → Int → Int) (ws : List Int) (S : Nat → Int → Int) (a b : Int) : Prop := ws = [480, 24, a, b] ∧ rkIn a ∧ rkIn b ∧ b ≠ 0 ∧ S = bx_up S0 480 32 0
noncomputable def rxmRKN_9 (S0 : Nat → Int → Int) (ws : List Int) (S : Nat → Int → Int) (a b : Int) : Nat := 50
noncomputable def rxzRKN_9 : rx_Z := ([(0, 0), (0, 0), (0, 0), (0, 0), (0, 0), (0, 0), (0, 0), (0, 0), ((-9223372036854775808), 9223372036854775807), ((-9223372036854775808), 9223372036854775807)], [], [], 0, 0, 121, [(0, .inr (3, (0, 480)))], [.inr (1, (9, 0)), .inr (1, (8, 0))])
noncomputable def rxIRKN_10 (S0 : Nat → Int → Int) (ws : List Int) (S : Nat → Int → Int) (a b y : Int) : Prop := ws = [480, 24, a, b] ∧ rkIn a ∧ rkIn b ∧ b ≠ 0 ∧ S = bx_up S0 480 32 0 ∧ some y = rkBi 24 a b
noncomputable def rxmRKN_10 (S0 : Nat → Int → Int) (ws : List Int) (S : Nat → Int → Int) (a b y : Int) : Nat := 40
noncomputable def rxzRKN_10 : rx_Z := ([(0, 0), (0, 0), (0, 0), (0, 0), (0, 0), (0, 0), (0, 0), (0, 0), ((-9223372036854775808), 9223372036854775807), ((-9223372036854775808), 9223372036854775807), ((-9223372036854775808), 9223372036854775807)], [], [], 0, 0, 122, [(0, .inr (3, (0, 480)))], [.inr (1, (10, 0))])
noncomputable def rxoRKN_0_0 : bx_HO := (([(0, 0), (0, 0), (0, 0), (0, 0), (0, 0), (0, 0), (0, 0), (0, 0), (24, 24), ((-9223372036854775808), 9223372036854775807), ((-9223372036854775808), 9223372036854775807)], [(3, (10, 0), (0, 0))], [(((0, 0), 1851192626986356803846954947553838782873304877548771291558838275000000), .inr (0, (0, 0))), (((0, 480), 32), .inr (0, (0, 0)))], 0, 0, 121, [(0, .inr (3, (0, 480))), (1, .inr (0, (8, 0))), (2, .inr (1, (9, 0))), (4, .inr (1, (10, 0)))], [.inr (1, (10, 0)), .inr (1, (9, 0))]), [], [], [(0, 0), (0, 0), (0, 0), (0, 0), (0, 0), (0, 0), (0, 0), (0, 0), (9, 0), (10, 0)], 9)
noncomputable def rxoRKN_0_1 : bx_HO := (([(0, 0), (0, 0), (0, 0), (0, 0), (0, 0), (0, 0), (0, 0), (0, 0), (23, 23), ((-9223372036854775808), 9223372036854775807), ((-9223372036854775808), 9223372036854775807)], [(3, (10, 0), (0, 0))], [(((0, 0), 1851192626986356803846954947553838782873304877548771291558838275000000), .inr (0, (0, 0))), (((0, 480), 32), .inr (0, (0, 0)))], 0, 0, 89, [(0, .inr (3, (0, 480))), (1, .inr (0, (8, 0))), (2, .inr (1, (9, 0))), (4, .inr (1, (10, 0)))], [.inr (1, (10, 0)), .inr (1, (9, 0))]), [], [], [(0, 0), (0, 0), (0, 0), (0, 0), (0, 0), (0, 0), (0, 0), (0, 0), (9, 0), (10, 0)], 7)
noncomputable def rxoRKN_0_2 : bx_HO := (([(0, 0), (0, 0), (0, 0), (0, 0), (0, 0), (0, 0), (0, 0), (0, 0), (22, 22), ((-9223372036854775808), 9223372036854775807), ((-9223372036854775808), 9223372036854775807)], [], [], 0, 0, 57, [(0, .inr (3, (0, 480))), (1, .inr (0, (8, 0))), (2, .inr (1, (9, 0))), (4, .inr (1, (10, 0)))], [.inr (1, (10, 0)), .inr (1, (9, 0))]), [], [], [(0, 0), (0, 0), (0, 0), (0, 0), (0, 0), (0, 0), (0, 0), (0, 0), (9, 0), (10, 0)], 5)
noncomputable def rxoRKN_0_3 : bx_HO := (([(0, 0), (0, 0), (0, 0), (0, 0), (0, 0), (0, 0), (0, 0), (0, 0), (21, 21), ((-9223372036854775808), 9223372036854775807), ((-9223372036854775808), 9223372036854775807)], [], [], 0, 0, 52, [(0, .inr (3, (0, 480))), (1, .inr (0, (8, 0))), (2, .inr (1, (9, 0))), (4, .inr (1, (10, 0)))], [.inr (1, (10, 0)), .inr (1, (9, 0))]), [], [], [(0, 0), (0, 0), (0, 0), (0, 0), (0, 0), (0, 0), (0, 0), (0, 0), (9, 0), (10, 0)], 3)
noncomputable def rxoRKN_0_4 : bx_HO := (([(0, 0), (0, 0), (0, 0), (0, 0), (0, 0), (0, 0), (0, 0), (0, 0), (20, 20), ((-9223372036854775808), 9223372036854775807), ((-9223372036854775808), 9223372036854775807)], [], [], 0, 0, 47, [(0, .inr (3, (0, 480))), (1, .inr (0, (8, 0))), (2, .inr (1, (9, 0))), (4, .inr (1, (10, 0)))], [.inr (1, (10, 0)), .inr (1, (9, 0))]), [], [], [(0, 0), (0, 0), (0, 0), (0, 0), (0, 0), (0, 0), (0, 0), (0, 0), (9, 0), (10, 0)], 1)
noncomputable def rxeRKN_0_0 : rx_End × List (Nat × Int × Int) := (([(0, 0), (0, 0), (0, 0), (0, 0), (0, 0), (0, 0), (0, 0), (0, 0), (27, 27), ((-9223372036854775808), 9223372036854775807), ((-9223372036854775808), 9223372036854775807)], [(2, (9, 0), (10, 0))], [], some (.inr (1, (0, 1)))), [])
noncomputable def rxeRKN_0_1 : rx_End × List (Nat × Int × Int) := (([(0, 0), (0, 0), (0, 0), (0, 0), (0, 0), (0, 0), (0, 0), (0, 0), (27, 27), ((-9223372036854775808), 9223372036854775807), ((-9223372036854775808), 9223372036854775807)], [(3, (9, 0), (10, 0))], [], some (.inr (1, (0, 0)))), [])
noncomputable def rxeRKN_0_2 : rx_End × List (Nat × Int × Int) := (([(0, 0), (0, 0), (0, 0), (0, 0), (0, 0), (0, 0), (0, 0), (0, 0), (26, 26), ((-9223372036854775807), 9223372036854775807), ((-9223372036854775808), 9223372036854775806)], [(0, (10, 0), (9, 0))], [], some (.inr (1, (0, 1)))), [])
noncomputable def rxeRKN_0_3 : rx_End × List (Nat × Int × Int) := (([(0, 0), (0, 0), (0, 0), (0, 0), (0, 0), (0, 0), (0, 0), (0, 0), (26, 26), ((-9223372036854775808), 9223372036854775807), ((-9223372036854775808), 9223372036854775807)], [(1, (9, 0), (10, 0))], [], some (.inr (1, (0, 0)))), [])
noncomputable def rxeRKN_0_4 : rx_End × List (Nat × Int × Int) := (([(0, 0), (0, 0), (0, 0), (0, 0), (0, 0), (0, 0), (0, 0), (0, 0), (25, 25), ((-9223372036854775808), 9223372036854775806), ((-9223372036854775807), 9223372036854775807)], [(0, (9, 0), (10, 0))], [], some (.inr (1, (0, 1)))), [])
noncomputable def rxeRKN_0_5 : rx_End × List (Nat × Int × Int) := (([(0, 0), (0, 0), (0, 0), (0, 0), (0, 0), (0, 0), (0, 0), (0, 0), (25, 25), ((-9223372036854775808), 9223372036854775807), ((-9223372036854775808), 9223372036854775807)], [(1, (10, 0), (9, 0))], [], some (.inr (1, (0, 0)))), [])
noncomputable def rxeRKN_0_6 : rx_End × List (Nat × Int × Int) := (([(0, 0), (0, 0), (0, 0), (0, 0), (0, 0), (0, 0), (0, 0), (0, 0), (24, 24), ((-9223372036854775808), 9223372036854775807), (0, 0)], [], [(((0, 0), 1851192626986356803846954947553838782873304877548771291558838275000000), .inr (0, (0, 1))), (((0, 480), 32), .inr (0, (0, 1)))], some (.inr (1, (0, 0)))), [])
noncomputable def rxeRKN_0_7 : rx_End × List (Nat × Int × Int) := (([(0, 0), (0, 0), (0, 0), (0, 0), (0, 0), (0, 0), (0, 0), (0, 0), (23, 23), ((-9223372036854775808), 9223372036854775807), (0, 0)], [], [(((0, 0), 1851192626986356803846954947553838782873304877548771291558838275000000), .inr (0, (0, 1))), (((0, 480), 32), .inr (0, (0, 1)))], some (.inr (1, (0, 0)))), [])
noncomputable def rxeRKN_2_0 : rx_End × List (Nat × Int × Int) := (([(0, 0), (0, 0), (0, 0), (0, 0), (0, 0), (0, 0), (0, 0), (0, 0), ((-9223372036854775808), 9223372036854775807), ((-9223372036854775808), 9223372036854775807), ((-9223372036854775808), 9223372036854775807)], [], [], some (.inr (1, (10, 0)))), [])
noncomputable def rxeRKN_4_0 : rx_End × List (Nat × Int × Int) := (([(0, 0), (0, 0), (0, 0), (0, 0), (0, 0), (0, 0), (0, 0), (0, 0), ((-9223372036854775808), 9223372036854775807), ((-9223372036854775808), 9223372036854775807), ((-9223372036854775808), 9223372036854775807)], [], [], some (.inr (1, (10, 0)))), [])
noncomputable def rxeRKN_6_0 : rx_End × List (Nat × Int × Int) := (([(0, 0), (0, 0), (0, 0), (0, 0), (0, 0), (0, 0), (0, 0), (0, 0), ((-9223372036854775808), 9223372036854775807), ((-9223372036854775808), 9223372036854775807), ((-9223372036854775808), 9223372036854775807)], [], [], some (.inr (1, (10, 0)))), [])
noncomputable def rxeRKN_8_0 : rx_End × List (Nat × Int × Int) := (([(0, 0), (0, 0), (0, 0), (0, 0), (0, 0), (0, 0), (0, 0), (0, 0), ((-9223372036854775808), 9223372036854775807), ((-9223372036854775808), 9223372036854775807), ((-9223372036854775808), 9223372036854775807)], [], [], some (.inr (1, (10, 0)))), [])
noncomputable def rxeRKN_10_0 : rx_End × List (Nat × Int × Int) := (([(0, 0), (0, 0), (0, 0), (0, 0), (0, 0), (0, 0), (0, 0), (0, 0), ((-9223372036854775808), 9223372036854775807), ((-9223372036854775808), 9223372036854775807), ((-9223372036854775808), 9223372036854775807)], [], [], some (.inr (1, (10, 0)))), [])
noncomputable def rxYRKN : List bx_HE := [(rxzRKN_0, [rxoRKN_0_0, rxoRKN_0_1, rxoRKN_0_2, rxoRKN_0_3, rxoRKN_0_4], [rxeRKN_0_0, rxeRKN_0_1, rxeRKN_0_2, rxeRKN_0_3, rxeRKN_0_4, rxeRKN_0_5, rxeRKN_0_6, rxeRKN_0_7]), (rxzRKN_1, [], []), (rxzRKN_2, [], [rxeRKN_2_0]), (rxzRKN_3, [], []), (rxzRKN_4, [], [rxeRKN_4_0]), (rxzRKN_5, [], []), (rxzRKN_6, [], [rxeRKN_6_0]), (rxzRKN_7, [], []), (rxzRKN_8, [], [rxeRKN_8_0]), (rxzRKN_9, [], []), (rxzRKN_10, [], [rxeRKN_10_0])]
noncomputable def rxURKN (q : bx_HE) : Bool := Nat.beq (rx_zpc q.1) 47 || Nat.beq (rx_zpc q.1) 52 || Nat.beq (rx_zpc q.1) 57 || Nat.beq (rx_zpc q.1) 89 || Nat.beq (rx_zpc q.1) 121
noncomputable def rxYBRKN : bx_B := (rxV, rxNP, rxDmf, bx_mdH rxCRKN.2.2.1)
set_option maxRecDepth 100000 in
theorem rxYcRKN : bx_chkH rxYBRKN rxM286 rxCRKN rxYRKN (rxURKN, fun cut z => rx_ex2 (rxCT rxYBRKN rxCnE) cut 30000 rxCRKN.2.2.2.1 286 z) = true := by decide +kernel
noncomputable def rxIRKN (S0 : Nat → Int → Int) (ws : List Int) (i : Nat) : bx_SP := fun S r => match i with | 0 => rxIRKN_0 S0 ws S (r 8) (r 9) (r 10) | 1 => rxIRKN_1 S0 ws S (r 8) (r 9) | 2 => rxIRKN_2 S0 ws S (r 8) (r 9) (r 10) | 3 => rxIRKN_3 S0 ws S (r 8) (r 9) | 4 => rxIRKN_4 S0 ws S (r 8) (r 9) (r 10) | 5 => rxIRKN_5 S0 ws S (r 8) (r 9) | 6 => rxIRKN_6 S0 ws S (r 8) (r 9) (r 10) | 7 => rxIRKN_7 S0 ws S (r 8) (r 9) | 8 => rxIRKN_8 S0 ws S (r 8) (r 9) (r 10) | 9 => rxIRKN_9 S0 ws S (r 8) (r 9) | 10 => rxIRKN_10 S0 ws S (r 8) (r 9) (r 10) | _ => False
noncomputable def rxmRKN (S0 : Nat → Int → Int) (ws : List Int) (i : Nat) (S : Nat → Int → Int) (r : Nat → Int) : Nat := match i with | 0 => rxmRKN_0 S0 ws S (r 8) (r 9) (r 10) | 1 => rxmRKN_1 S0 ws S (r 8) (r 9) | 2 => rxmRKN_2 S0 ws S (r 8) (r 9) (r 10) | 3 => rxmRKN_3 S0 ws S (r 8) (r 9) | 4 => rxmRKN_4 S0 ws S (r 8) (r 9) (r 10) | 5 => rxmRKN_5 S0 ws S (r 8) (r 9) | 6 => rxmRKN_6 S0 ws S (r 8) (r 9) (r 10) | 7 => rxmRKN_7 S0 ws S (r 8) (r 9) | 8 => rxmRKN_8 S0 ws S (r 8) (r 9) (r 10) | 9 => rxmRKN_9 S0 ws S (r 8) (r 9) | 10 => rxmRKN_10 S0 ws S (r 8) (r 9) (r 10) | _ => 0
noncomputable def rxPRKN (S0 : Nat → Int → Int) (ws : List Int) : Prop := ∃ op a b : Int, ws = [480, op, a, b] ∧ rkIn a ∧ rkIn b
noncomputable def rxPSRKN (S0 : Nat → Int → Int) (ws : List Int) (S : Nat → Int → Int) (w : Option Int) : Prop := ∃ op a b : Int, ws = [480, op, a, b] ∧ (∀ (p : Nat) (j : Int), ¬ (p = 480 ∧ j = 32) → S p j = S0 p j) ∧ ((∃ z : Int, rkBi op a b = some z ∧ w = some z ∧ (S0 480 32 = 0 → S 480 32 = 0)) ∨ (rkBi op a b = none ∧ S 480 32 = 1))
theorem rxbRKN_1 {S0 : Nat → Int → Int} {ws : List Int} {S : Nat → Int → Int} {a b : Int} (hP : rxPRKN S0 ws) (hin : bx_same rxL (bx_mdl rxCRKN.2.2.1) S0 S) (I0 : bx_Inv rxL S) (hinv : rxIRKN_1 S0 ws S a b) (l8 : (-9223372036854775808) ≤ a) (u8 : a ≤ 9223372036854775807) (l9 : (-9223372036854775808) ≤ b) (u9 : b ≤ 9223372036854775807) : bx_opcM 40 a b ∧ ∀ y : Int, y = bx_opvM 40 a b → ((-9223372036854775808) ≤ y ∧ y ≤ 9223372036854775807) ∧ rxIRKN_2 S0 ws S a b y ∧ rxmRKN_2 S0 ws S a b y < rxmRKN_1 S0 ws S a b := by
  obtain ⟨hw, ⟨ha0, ha1⟩, ⟨hb0, hb1⟩, hS⟩ := hinv
  refine ⟨⟨⟨by omega, by omega⟩, ⟨by omega, by omega⟩, fun _ => ⟨by omega, by omega⟩, fun g => absurd g (by decide), fun g => absurd g (by decide), fun g => by omega⟩, fun y hv => ⟨?_, ⟨hw, ⟨ha0, ha1⟩, ⟨hb0, hb1⟩, hS, (congrArg some hv).trans rkBi_20.symm⟩, by unfold rxmRKN_1 rxmRKN_2; omega⟩⟩
  have hv : y = a + b := hv
  exact ⟨by omega, by omega⟩
theorem rxsRKN_1 {X : (Nat → Int → Int) → Prop} {S0 : Nat → Int → Int} {ws : List Int} (hP : rxPRKN S0 ws) : rx_obBM X S0 rxCRKN.2.2.1 (rxIRKN S0 ws) (rxmRKN S0 ws) 1 2 rxzRKN_1 40 (8, 0) (9, 0) (-9223372036854775808) 9223372036854775807 := by
  intro S r hinv hXS I0 hin hs_ hf_
  have b_ := bx_bds_sat hs_
  have f_ := bx_fcl_ok hs_.1 hf_
  obtain ⟨⟨l8, u8⟩, ⟨l9, u9⟩, -⟩ := b_
  have g := rxbRKN_1 hP hin I0 hinv l8 u8 l9 u9
  rw [bx_x_ok hs_.1, bx_x_ok hs_.1]
  refine ⟨g.1, fun r_p hr h0_ hv => ?_⟩
  have g2 := g.2 (r_p 10) hv
  show _ ∧ rxIRKN_2 S0 ws S (r_p 8) (r_p 9) (r_p 10) ∧ rxmRKN_2 S0 ws S (r_p 8) (r_p 9) (r_p 10) < _
  rw [hr 8 (by decide), hr 9 (by decide)]
  exact g2
theorem rxbRKN_3 {S0 : Nat → Int → Int} {ws : List Int} {S : Nat → Int → Int} {a b : Int} (hP : rxPRKN S0 ws) (hin : bx_same rxL (bx_mdl rxCRKN.2.2.1) S0 S) (I0 : bx_Inv rxL S) (hinv : rxIRKN_3 S0 ws S a b) (l8 : (-9223372036854775808) ≤ a) (u8 : a ≤ 9223372036854775807) (l9 : (-9223372036854775808) ≤ b) (u9 : b ≤ 9223372036854775807) : bx_opcM 41 a b ∧ ∀ y : Int, y = bx_opvM 41 a b → ((-9223372036854775808) ≤ y ∧ y ≤ 9223372036854775807) ∧ rxIRKN_4 S0 ws S a b y ∧ rxmRKN_4 S0 ws S a b y < rxmRKN_3 S0 ws S a b := by
  obtain ⟨hw, ⟨ha0, ha1⟩, ⟨hb0, hb1⟩, hS⟩ := hinv
  refine ⟨⟨⟨by omega, by omega⟩, ⟨by omega, by omega⟩, fun g => absurd g (by decide), fun _ => ⟨by omega, by omega⟩, fun g => absurd g (by decide), fun g => by omega⟩, fun y hv => ⟨?_, ⟨hw, ⟨ha0, ha1⟩, ⟨hb0, hb1⟩, hS, (congrArg some hv).trans rkBi_21.symm⟩, by unfold rxmRKN_3 rxmRKN_4; omega⟩⟩
  have hv : y = a - b := hv
  exact ⟨by omega, by omega⟩
theorem rxsRKN_3 {X : (Nat → Int → Int) → Prop} {S0 : Nat → Int → Int} {ws : List Int} (hP : rxPRKN S0 ws) : rx_obBM X S0 rxCRKN.2.2.1 (rxIRKN S0 ws) (rxmRKN S0 ws) 3 4 rxzRKN_3 41 (8, 0) (9, 0) (-9223372036854775808) 9223372036854775807 := by
  intro S r hinv hXS I0 hin hs_ hf_
  have b_ := bx_bds_sat hs_
  have f_ := bx_fcl_ok hs_.1 hf_
  obtain ⟨⟨l8, u8⟩, ⟨l9, u9⟩, -⟩ := b_
  have g := rxbRKN_3 hP hin I0 hinv l8 u8 l9 u9
  rw [bx_x_ok hs_.1, bx_x_ok hs_.1]
  refine ⟨g.1, fun r_p hr h0_ hv => ?_⟩
  have g2 := g.2 (r_p 10) hv
  show _ ∧ rxIRKN_4 S0 ws S (r_p 8) (r_p 9) (r_p 10) ∧ rxmRKN_4 S0 ws S (r_p 8) (r_p 9) (r_p 10) < _
  rw [hr 8 (by decide), hr 9 (by decide)]
  exact g2
theorem rxbRKN_5 {S0 : Nat → Int → Int} {ws : List Int} {S : Nat → Int → Int} {a b : Int} (hP : rxPRKN S0 ws) (hin : bx_same rxL (bx_mdl rxCRKN.2.2.1) S0 S) (I0 : bx_Inv rxL S) (hinv : rxIRKN_5 S0 ws S a b) (l8 : (-9223372036854775808) ≤ a) (u8 : a ≤ 9223372036854775807) (l9 : (-9223372036854775808) ≤ b) (u9 : b ≤ 9223372036854775807) : bx_opcM 42 a b ∧ ∀ y : Int, y = bx_opvM 42 a b → ((-9223372036854775808) ≤ y ∧ y ≤ 9223372036854775807) ∧ rxIRKN_6 S0 ws S a b y ∧ rxmRKN_6 S0 ws S a b y < rxmRKN_5 S0 ws S a b := by
  obtain ⟨hw, ⟨ha0, ha1⟩, ⟨hb0, hb1⟩, hS⟩ := hinv
  have m := rkMul_b (a := a) (b := b) ⟨ha0, ha1⟩ ⟨hb0, hb1⟩
  refine ⟨⟨⟨by omega, by omega⟩, ⟨by omega, by omega⟩, fun g => absurd g (by decide), fun g => absurd g (by decide), fun _ => m, fun g => by omega⟩, fun y hv => ⟨?_, ⟨hw, ⟨ha0, ha1⟩, ⟨hb0, hb1⟩, hS, (congrArg some hv).trans rkBi_22.symm⟩, by unfold rxmRKN_5 rxmRKN_6; omega⟩⟩
  have hv : y = a * b := hv
  rw [hv]; exact m
theorem rxsRKN_5 {X : (Nat → Int → Int) → Prop} {S0 : Nat → Int → Int} {ws : List Int} (hP : rxPRKN S0 ws) : rx_obBM X S0 rxCRKN.2.2.1 (rxIRKN S0 ws) (rxmRKN S0 ws) 5 6 rxzRKN_5 42 (8, 0) (9, 0) (-9223372036854775808) 9223372036854775807 := by
  intro S r hinv hXS I0 hin hs_ hf_
  have b_ := bx_bds_sat hs_
  have f_ := bx_fcl_ok hs_.1 hf_
  obtain ⟨⟨l8, u8⟩, ⟨l9, u9⟩, -⟩ := b_
  have g := rxbRKN_5 hP hin I0 hinv l8 u8 l9 u9
  rw [bx_x_ok hs_.1, bx_x_ok hs_.1]
  refine ⟨g.1, fun r_p hr h0_ hv => ?_⟩
  have g2 := g.2 (r_p 10) hv
  show _ ∧ rxIRKN_6 S0 ws S (r_p 8) (r_p 9) (r_p 10) ∧ rxmRKN_6 S0 ws S (r_p 8) (r_p 9) (r_p 10) < _
  rw [hr 8 (by decide), hr 9 (by decide)]
  exact g2
theorem rxbRKN_7 {S0 : Nat → Int → Int} {ws : List Int} {S : Nat → Int → Int} {a b : Int} (hP : rxPRKN S0 ws) (hin : bx_same rxL (bx_mdl rxCRKN.2.2.1) S0 S) (I0 : bx_Inv rxL S) (hinv : rxIRKN_7 S0 ws S a b) (l8 : (-9223372036854775808) ≤ a) (u8 : a ≤ 9223372036854775807) (l9 : (-9223372036854775808) ≤ b) (u9 : b ≤ 9223372036854775807) : bx_opcM 43 a b ∧ ∀ y : Int, y = bx_opvM 43 a b → ((-9223372036854775808) ≤ y ∧ y ≤ 9223372036854775807) ∧ rxIRKN_8 S0 ws S a b y ∧ rxmRKN_8 S0 ws S a b y < rxmRKN_7 S0 ws S a b := by
  obtain ⟨hw, ⟨ha0, ha1⟩, ⟨hb0, hb1⟩, hz, hS⟩ := hinv
  refine ⟨⟨⟨by omega, by omega⟩, ⟨by omega, by omega⟩, fun g => absurd g (by decide), fun g => absurd g (by decide), fun g => absurd g (by decide), fun _ => ⟨hz, by omega⟩⟩, fun y hv => ⟨?_, ⟨hw, ⟨ha0, ha1⟩, ⟨hb0, hb1⟩, hz, hS, (congrArg some hv).trans (rkBi_23 hz).symm⟩, by unfold rxmRKN_7 rxmRKN_8; omega⟩⟩
  have hv : y = a.tdiv b := hv
  have z1 : (a.tdiv b).natAbs ≤ a.natAbs := by
    rw [Int.natAbs_tdiv]
    exact Nat.div_le_self _ _
  exact ⟨by omega, by omega⟩
theorem rxsRKN_7 {X : (Nat → Int → Int) → Prop} {S0 : Nat → Int → Int} {ws : List Int} (hP : rxPRKN S0 ws) : rx_obBM X S0 rxCRKN.2.2.1 (rxIRKN S0 ws) (rxmRKN S0 ws) 7 8 rxzRKN_7 43 (8, 0) (9, 0) (-9223372036854775808) 9223372036854775807 := by
  intro S r hinv hXS I0 hin hs_ hf_
  have b_ := bx_bds_sat hs_
  have f_ := bx_fcl_ok hs_.1 hf_
  obtain ⟨⟨l8, u8⟩, ⟨l9, u9⟩, -⟩ := b_
  have g := rxbRKN_7 hP hin I0 hinv l8 u8 l9 u9
  rw [bx_x_ok hs_.1, bx_x_ok hs_.1]
  refine ⟨g.1, fun r_p hr h0_ hv => ?_⟩
  have g2 := g.2 (r_p 10) hv
  show _ ∧ rxIRKN_8 S0 ws S (r_p 8) (r_p 9) (r_p 10) ∧ rxmRKN_8 S0 ws S (r_p 8) (r_p 9) (r_p 10) < _
  rw [hr 8 (by decide), hr 9 (by decide)]
  exact g2
theorem rxbRKN_9 {S0 : Nat → Int → Int} {ws : List Int} {S : Nat → Int → Int} {a b : Int} (hP : rxPRKN S0 ws) (hin : bx_same rxL (bx_mdl rxCRKN.2.2.1) S0 S) (I0 : bx_Inv rxL S) (hinv : rxIRKN_9 S0 ws S a b) (l8 : (-9223372036854775808) ≤ a) (u8 : a ≤ 9223372036854775807) (l9 : (-9223372036854775808) ≤ b) (u9 : b ≤ 9223372036854775807) : bx_opcM 44 a b ∧ ∀ y : Int, y = bx_opvM 44 a b → ((-9223372036854775808) ≤ y ∧ y ≤ 9223372036854775807) ∧ rxIRKN_10 S0 ws S a b y ∧ rxmRKN_10 S0 ws S a b y < rxmRKN_9 S0 ws S a b := by
  obtain ⟨hw, ⟨ha0, ha1⟩, ⟨hb0, hb1⟩, hz, hS⟩ := hinv
  refine ⟨⟨⟨by omega, by omega⟩, ⟨by omega, by omega⟩, fun g => absurd g (by decide), fun g => absurd g (by decide), fun g => absurd g (by decide), fun _ => ⟨hz, by omega⟩⟩, fun y hv => ⟨?_, ⟨hw, ⟨ha0, ha1⟩, ⟨hb0, hb1⟩, hz, hS, (congrArg some hv).trans (rkBi_24 hz).symm⟩, by unfold rxmRKN_9 rxmRKN_10; omega⟩⟩
  have hv : y = a.tmod b := hv
  have z1 : (a.tmod b).natAbs ≤ a.natAbs := by
    rw [Int.natAbs_tmod]
    exact Nat.mod_le _ _
  exact ⟨by omega, by omega⟩
theorem rxsRKN_9 {X : (Nat → Int → Int) → Prop} {S0 : Nat → Int → Int} {ws : List Int} (hP : rxPRKN S0 ws) : rx_obBM X S0 rxCRKN.2.2.1 (rxIRKN S0 ws) (rxmRKN S0 ws) 9 10 rxzRKN_9 44 (8, 0) (9, 0) (-9223372036854775808) 9223372036854775807 := by
  intro S r hinv hXS I0 hin hs_ hf_
  have b_ := bx_bds_sat hs_
  have f_ := bx_fcl_ok hs_.1 hf_
  obtain ⟨⟨l8, u8⟩, ⟨l9, u9⟩, -⟩ := b_
  have g := rxbRKN_9 hP hin I0 hinv l8 u8 l9 u9
  rw [bx_x_ok hs_.1, bx_x_ok hs_.1]
  refine ⟨g.1, fun r_p hr h0_ hv => ?_⟩
  have g2 := g.2 (r_p 10) hv
  show _ ∧ rxIRKN_10 S0 ws S (r_p 8) (r_p 9) (r_p 10) ∧ rxmRKN_10 S0 ws S (r_p 8) (r_p 9) (r_p 10) < _
  rw [hr 8 (by decide), hr 9 (by decide)]
  exact g2
theorem rxcRKN_0_0 {S0 : Nat → Int → Int} {ws : List Int} {S : Nat → Int → Int} {op a b : Int} (hP : rxPRKN S0 ws) (hin : bx_same rxL (bx_mdl rxCRKN.2.2.1) S0 S) (I0 : bx_Inv rxL S) (hinv : rxIRKN_0 S0 ws S op a b) (l8 : 24 ≤ op) (u8 : op ≤ 24) (l9 : (-9223372036854775808) ≤ a) (u9 : a ≤ 9223372036854775807) (l10 : (-9223372036854775808) ≤ b) (u10 : b ≤ 9223372036854775807) (f0 : b ≠ 0) : (True) ∧ (True) ∧ rxIRKN_9 S0 ws (bx_up S 480 32 0) a b ∧ rxmRKN_9 S0 ws (bx_up S 480 32 0) a b < rxmRKN_0 S0 ws S op a b := by
  obtain ⟨rfl, hw⟩ := hinv
  obtain ⟨op2, a2, b2, hw2, ha, hb⟩ := hP
  have q0 := hw.symm.trans hw2
  have q1 : op = op2 := Option.some.inj (congrArg (fun l => l[1]?) q0)
  have q2 : a = a2 := Option.some.inj (congrArg (fun l => l[2]?) q0)
  have q3 : b = b2 := Option.some.inj (congrArg (fun l => l[3]?) q0)
  subst q1
  subst q2
  subst q3
  have e : op = 24 := by omega
  subst e
  exact ⟨trivial, trivial, ⟨hw, ha, hb, by omega, rfl⟩, by unfold rxmRKN_0 rxmRKN_9; omega⟩
theorem rxgRKN_0_0 {X : (Nat → Int → Int) → Prop} {S0 : Nat → Int → Int} {ws : List Int} (hP : rxPRKN S0 ws) : bx_obC rxL X S0 rxCRKN.2.2.1 (rxIRKN S0 ws) (rxmRKN S0 ws) 0 rxzRKN_0 rxoRKN_0_0 := by
  intro S S_p r r_p hinv hX hin hsm_ hseg
  obtain ⟨I0, I1, h0_, hr_, b_, f_, d_⟩ := bx_cl (evs := [(1, (0, 480), (0, 32), .inr (0, (0, 0)))]) (fvs := [(3, (10, 0), (0, 0), (0, 0))]) hseg (by decide +kernel) (by decide +kernel)
  have hinv : rxIRKN_0 S0 ws S (r 8) (r 9) (r 10) := hinv
  rw [← hr_ 8 (by decide), ← hr_ 9 (by decide), ← hr_ 10 (by decide)] at hinv
  obtain ⟨⟨l8, u8⟩, ⟨l9, u9⟩, ⟨l10, u10⟩, -⟩ := b_
  obtain ⟨f0, -⟩ := f_
  obtain ⟨T0, w_, w0⟩ := d_
  subst w0
  subst w_
  have g := rxcRKN_0_0 hP hin I0 hinv l8 u8 l9 u9 l10 u10 f0
  refine ⟨bx_narP_ok (l := []) g.1, bx_nfP_ok h0_ (fvs := []) (by decide +kernel) g.2.1, ?_, ?_⟩
  · show rxIRKN_9 S0 ws (bx_up T0 480 (32) (0)) (bx_val [(0, 0), (0, 0), (0, 0), (0, 0), (0, 0), (0, 0), (0, 0), (0, 0), (9, 0), (10, 0)] r_p 8) (bx_val [(0, 0), (0, 0), (0, 0), (0, 0), (0, 0), (0, 0), (0, 0), (0, 0), (9, 0), (10, 0)] r_p 9)
    rw [bx_val_x (n := 8) (e := (9, 0)) h0_ rfl, bx_val_x (n := 9) (e := (10, 0)) h0_ rfl]
    exact g.2.2.1
  · show rxmRKN_9 S0 ws (bx_up T0 480 (32) (0)) (bx_val [(0, 0), (0, 0), (0, 0), (0, 0), (0, 0), (0, 0), (0, 0), (0, 0), (9, 0), (10, 0)] r_p 8) (bx_val [(0, 0), (0, 0), (0, 0), (0, 0), (0, 0), (0, 0), (0, 0), (0, 0), (9, 0), (10, 0)] r_p 9) < rxmRKN_0 S0 ws T0 (r 8) (r 9) (r 10)
    rw [bx_val_x (n := 8) (e := (9, 0)) h0_ rfl, bx_val_x (n := 9) (e := (10, 0)) h0_ rfl, ← hr_ 8 (by decide), ← hr_ 9 (by decide), ← hr_ 10 (by decide)]
    exact g.2.2.2
theorem rxcRKN_0_1 {S0 : Nat → Int → Int} {ws : List Int} {S : Nat → Int → Int} {op a b : Int} (hP : rxPRKN S0 ws) (hin : bx_same rxL (bx_mdl rxCRKN.2.2.1) S0 S) (I0 : bx_Inv rxL S) (hinv : rxIRKN_0 S0 ws S op a b) (l8 : 23 ≤ op) (u8 : op ≤ 23) (l9 : (-9223372036854775808) ≤ a) (u9 : a ≤ 9223372036854775807) (l10 : (-9223372036854775808) ≤ b) (u10 : b ≤ 9223372036854775807) (f0 : b ≠ 0) : (True) ∧ (True) ∧ rxIRKN_7 S0 ws (bx_up S 480 32 0) a b ∧ rxmRKN_7 S0 ws (bx_up S 480 32 0) a b < rxmRKN_0 S0 ws S op a b := by
  obtain ⟨rfl, hw⟩ := hinv
  obtain ⟨op2, a2, b2, hw2, ha, hb⟩ := hP
  have q0 := hw.symm.trans hw2
  have q1 : op = op2 := Option.some.inj (congrArg (fun l => l[1]?) q0)
  have q2 : a = a2 := Option.some.inj (congrArg (fun l => l[2]?) q0)
  have q3 : b = b2 := Option.some.inj (congrArg (fun l => l[3]?) q0)
  subst q1
  subst q2
  subst q3
  have e : op = 23 := by omega
  subst e
  exact ⟨trivial, trivial, ⟨hw, ha, hb, by omega, rfl⟩, by unfold rxmRKN_0 rxmRKN_7; omega⟩
theorem rxgRKN_0_1 {X : (Nat → Int → Int) → Prop} {S0 : Nat → Int → Int} {ws : List Int} (hP : rxPRKN S0 ws) : bx_obC rxL X S0 rxCRKN.2.2.1 (rxIRKN S0 ws) (rxmRKN S0 ws) 0 rxzRKN_0 rxoRKN_0_1 := by
  intro S S_p r r_p hinv hX hin hsm_ hseg
  obtain ⟨I0, I1, h0_, hr_, b_, f_, d_⟩ := bx_cl (evs := [(1, (0, 480), (0, 32), .inr (0, (0, 0)))]) (fvs := [(3, (10, 0), (0, 0), (0, 0))]) hseg (by decide +kernel) (by decide +kernel)
  have hinv : rxIRKN_0 S0 ws S (r 8) (r 9) (r 10) := hinv
  rw [← hr_ 8 (by decide), ← hr_ 9 (by decide), ← hr_ 10 (by decide)] at hinv
  obtain ⟨⟨l8, u8⟩, ⟨l9, u9⟩, ⟨l10, u10⟩, -⟩ := b_
  obtain ⟨f0, -⟩ := f_
  obtain ⟨T0, w_, w0⟩ := d_
  subst w0
  subst w_
  have g := rxcRKN_0_1 hP hin I0 hinv l8 u8 l9 u9 l10 u10 f0
  refine ⟨bx_narP_ok (l := []) g.1, bx_nfP_ok h0_ (fvs := []) (by decide +kernel) g.2.1, ?_, ?_⟩
  · show rxIRKN_7 S0 ws (bx_up T0 480 (32) (0)) (bx_val [(0, 0), (0, 0), (0, 0), (0, 0), (0, 0), (0, 0), (0, 0), (0, 0), (9, 0), (10, 0)] r_p 8) (bx_val [(0, 0), (0, 0), (0, 0), (0, 0), (0, 0), (0, 0), (0, 0), (0, 0), (9, 0), (10, 0)] r_p 9)
    rw [bx_val_x (n := 8) (e := (9, 0)) h0_ rfl, bx_val_x (n := 9) (e := (10, 0)) h0_ rfl]
    exact g.2.2.1
  · show rxmRKN_7 S0 ws (bx_up T0 480 (32) (0)) (bx_val [(0, 0), (0, 0), (0, 0), (0, 0), (0, 0), (0, 0), (0, 0), (0, 0), (9, 0), (10, 0)] r_p 8) (bx_val [(0, 0), (0, 0), (0, 0), (0, 0), (0, 0), (0, 0), (0, 0), (0, 0), (9, 0), (10, 0)] r_p 9) < rxmRKN_0 S0 ws T0 (r 8) (r 9) (r 10)
    rw [bx_val_x (n := 8) (e := (9, 0)) h0_ rfl, bx_val_x (n := 9) (e := (10, 0)) h0_ rfl, ← hr_ 8 (by decide), ← hr_ 9 (by decide), ← hr_ 10 (by decide)]
    exact g.2.2.2
theorem rxcRKN_0_2 {S0 : Nat → Int → Int} {ws : List Int} {S : Nat → Int → Int} {op a b : Int} (hP : rxPRKN S0 ws) (hin : bx_same rxL (bx_mdl rxCRKN.2.2.1) S0 S) (I0 : bx_Inv rxL S) (hinv : rxIRKN_0 S0 ws S op a b) (l8 : 22 ≤ op) (u8 : op ≤ 22) (l9 : (-9223372036854775808) ≤ a) (u9 : a ≤ 9223372036854775807) (l10 : (-9223372036854775808) ≤ b) (u10 : b ≤ 9223372036854775807) : (True) ∧ (True) ∧ rxIRKN_5 S0 ws S a b ∧ rxmRKN_5 S0 ws S a b < rxmRKN_0 S0 ws S op a b := by
  obtain ⟨rfl, hw⟩ := hinv
  obtain ⟨op2, a2, b2, hw2, ha, hb⟩ := hP
  have q0 := hw.symm.trans hw2
  have q1 : op = op2 := Option.some.inj (congrArg (fun l => l[1]?) q0)
  have q2 : a = a2 := Option.some.inj (congrArg (fun l => l[2]?) q0)
  have q3 : b = b2 := Option.some.inj (congrArg (fun l => l[3]?) q0)
  subst q1
  subst q2
  subst q3
  have e : op = 22 := by omega
  subst e
  exact ⟨trivial, trivial, ⟨hw, ha, hb, rfl⟩, by unfold rxmRKN_0 rxmRKN_5; omega⟩
theorem rxgRKN_0_2 {X : (Nat → Int → Int) → Prop} {S0 : Nat → Int → Int} {ws : List Int} (hP : rxPRKN S0 ws) : bx_obC rxL X S0 rxCRKN.2.2.1 (rxIRKN S0 ws) (rxmRKN S0 ws) 0 rxzRKN_0 rxoRKN_0_2 := by
  intro S S_p r r_p hinv hX hin hsm_ hseg
  obtain ⟨I0, I1, h0_, hr_, b_, f_, d_⟩ := bx_cl (evs := []) (fvs := []) hseg (by decide +kernel) (by decide +kernel)
  have hinv : rxIRKN_0 S0 ws S (r 8) (r 9) (r 10) := hinv
  rw [← hr_ 8 (by decide), ← hr_ 9 (by decide), ← hr_ 10 (by decide)] at hinv
  obtain ⟨⟨l8, u8⟩, ⟨l9, u9⟩, ⟨l10, u10⟩, -⟩ := b_
  have w_ := d_
  subst w_
  have g := rxcRKN_0_2 hP hin I0 hinv l8 u8 l9 u9 l10 u10
  refine ⟨bx_narP_ok (l := []) g.1, bx_nfP_ok h0_ (fvs := []) (by decide +kernel) g.2.1, ?_, ?_⟩
  · show rxIRKN_5 S0 ws S_p (bx_val [(0, 0), (0, 0), (0, 0), (0, 0), (0, 0), (0, 0), (0, 0), (0, 0), (9, 0), (10, 0)] r_p 8) (bx_val [(0, 0), (0, 0), (0, 0), (0, 0), (0, 0), (0, 0), (0, 0), (0, 0), (9, 0), (10, 0)] r_p 9)
    rw [bx_val_x (n := 8) (e := (9, 0)) h0_ rfl, bx_val_x (n := 9) (e := (10, 0)) h0_ rfl]
    exact g.2.2.1
  · show rxmRKN_5 S0 ws S_p (bx_val [(0, 0), (0, 0), (0, 0), (0, 0), (0, 0), (0, 0), (0, 0), (0, 0), (9, 0), (10, 0)] r_p 8) (bx_val [(0, 0), (0, 0), (0, 0), (0, 0), (0, 0), (0, 0), (0, 0), (0, 0), (9, 0), (10, 0)] r_p 9) < rxmRKN_0 S0 ws S_p (r 8) (r 9) (r 10)
    rw [bx_val_x (n := 8) (e := (9, 0)) h0_ rfl, bx_val_x (n := 9) (e := (10, 0)) h0_ rfl, ← hr_ 8 (by decide), ← hr_ 9 (by decide), ← hr_ 10 (by decide)]
    exact g.2.2.2
theorem rxcRKN_0_3 {S0 : Nat → Int → Int} {ws : List Int} {S : Nat → Int → Int} {op a b : Int} (hP : rxPRKN S0 ws) (hin : bx_same rxL (bx_mdl rxCRKN.2.2.1) S0 S) (I0 : bx_Inv rxL S) (hinv : rxIRKN_0 S0 ws S op a b) (l8 : 21 ≤ op) (u8 : op ≤ 21) (l9 : (-9223372036854775808) ≤ a) (u9 : a ≤ 9223372036854775807) (l10 : (-9223372036854775808) ≤ b) (u10 : b ≤ 9223372036854775807) : (True) ∧ (True) ∧ rxIRKN_3 S0 ws S a b ∧ rxmRKN_3 S0 ws S a b < rxmRKN_0 S0 ws S op a b := by
  obtain ⟨rfl, hw⟩ := hinv
  obtain ⟨op2, a2, b2, hw2, ha, hb⟩ := hP
  have q0 := hw.symm.trans hw2
  have q1 : op = op2 := Option.some.inj (congrArg (fun l => l[1]?) q0)
  have q2 : a = a2 := Option.some.inj (congrArg (fun l => l[2]?) q0)
  have q3 : b = b2 := Option.some.inj (congrArg (fun l => l[3]?) q0)
  subst q1
  subst q2
  subst q3
  have e : op = 21 := by omega
  subst e
  exact ⟨trivial, trivial, ⟨hw, ha, hb, rfl⟩, by unfold rxmRKN_0 rxmRKN_3; omega⟩
theorem rxgRKN_0_3 {X : (Nat → Int → Int) → Prop} {S0 : Nat → Int → Int} {ws : List Int} (hP : rxPRKN S0 ws) : bx_obC rxL X S0 rxCRKN.2.2.1 (rxIRKN S0 ws) (rxmRKN S0 ws) 0 rxzRKN_0 rxoRKN_0_3 := by
  intro S S_p r r_p hinv hX hin hsm_ hseg
  obtain ⟨I0, I1, h0_, hr_, b_, f_, d_⟩ := bx_cl (evs := []) (fvs := []) hseg (by decide +kernel) (by decide +kernel)
  have hinv : rxIRKN_0 S0 ws S (r 8) (r 9) (r 10) := hinv
  rw [← hr_ 8 (by decide), ← hr_ 9 (by decide), ← hr_ 10 (by decide)] at hinv
  obtain ⟨⟨l8, u8⟩, ⟨l9, u9⟩, ⟨l10, u10⟩, -⟩ := b_
  have w_ := d_
  subst w_
  have g := rxcRKN_0_3 hP hin I0 hinv l8 u8 l9 u9 l10 u10
  refine ⟨bx_narP_ok (l := []) g.1, bx_nfP_ok h0_ (fvs := []) (by decide +kernel) g.2.1, ?_, ?_⟩
  · show rxIRKN_3 S0 ws S_p (bx_val [(0, 0), (0, 0), (0, 0), (0, 0), (0, 0), (0, 0), (0, 0), (0, 0), (9, 0), (10, 0)] r_p 8) (bx_val [(0, 0), (0, 0), (0, 0), (0, 0), (0, 0), (0, 0), (0, 0), (0, 0), (9, 0), (10, 0)] r_p 9)
    rw [bx_val_x (n := 8) (e := (9, 0)) h0_ rfl, bx_val_x (n := 9) (e := (10, 0)) h0_ rfl]
    exact g.2.2.1
  · show rxmRKN_3 S0 ws S_p (bx_val [(0, 0), (0, 0), (0, 0), (0, 0), (0, 0), (0, 0), (0, 0), (0, 0), (9, 0), (10, 0)] r_p 8) (bx_val [(0, 0), (0, 0), (0, 0), (0, 0), (0, 0), (0, 0), (0, 0), (0, 0), (9, 0), (10, 0)] r_p 9) < rxmRKN_0 S0 ws S_p (r 8) (r 9) (r 10)
    rw [bx_val_x (n := 8) (e := (9, 0)) h0_ rfl, bx_val_x (n := 9) (e := (10, 0)) h0_ rfl, ← hr_ 8 (by decide), ← hr_ 9 (by decide), ← hr_ 10 (by decide)]
    exact g.2.2.2
theorem rxcRKN_0_4 {S0 : Nat → Int → Int} {ws : List Int} {S : Nat → Int → Int} {op a b : Int} (hP : rxPRKN S0 ws) (hin : bx_same rxL (bx_mdl rxCRKN.2.2.1) S0 S) (I0 : bx_Inv rxL S) (hinv : rxIRKN_0 S0 ws S op a b) (l8 : 20 ≤ op) (u8 : op ≤ 20) (l9 : (-9223372036854775808) ≤ a) (u9 : a ≤ 9223372036854775807) (l10 : (-9223372036854775808) ≤ b) (u10 : b ≤ 9223372036854775807) : (True) ∧ (True) ∧ rxIRKN_1 S0 ws S a b ∧ rxmRKN_1 S0 ws S a b < rxmRKN_0 S0 ws S op a b := by
  obtain ⟨rfl, hw⟩ := hinv
  obtain ⟨op2, a2, b2, hw2, ha, hb⟩ := hP
  have q0 := hw.symm.trans hw2
  have q1 : op = op2 := Option.some.inj (congrArg (fun l => l[1]?) q0)
  have q2 : a = a2 := Option.some.inj (congrArg (fun l => l[2]?) q0)
  have q3 : b = b2 := Option.some.inj (congrArg (fun l => l[3]?) q0)
  subst q1
  subst q2
  subst q3
  have e : op = 20 := by omega
  subst e
  exact ⟨trivial, trivial, ⟨hw, ha, hb, rfl⟩, by unfold rxmRKN_0 rxmRKN_1; omega⟩
theorem rxgRKN_0_4 {X : (Nat → Int → Int) → Prop} {S0 : Nat → Int → Int} {ws : List Int} (hP : rxPRKN S0 ws) : bx_obC rxL X S0 rxCRKN.2.2.1 (rxIRKN S0 ws) (rxmRKN S0 ws) 0 rxzRKN_0 rxoRKN_0_4 := by
  intro S S_p r r_p hinv hX hin hsm_ hseg
  obtain ⟨I0, I1, h0_, hr_, b_, f_, d_⟩ := bx_cl (evs := []) (fvs := []) hseg (by decide +kernel) (by decide +kernel)
  have hinv : rxIRKN_0 S0 ws S (r 8) (r 9) (r 10) := hinv
  rw [← hr_ 8 (by decide), ← hr_ 9 (by decide), ← hr_ 10 (by decide)] at hinv
  obtain ⟨⟨l8, u8⟩, ⟨l9, u9⟩, ⟨l10, u10⟩, -⟩ := b_
  have w_ := d_
  subst w_
  have g := rxcRKN_0_4 hP hin I0 hinv l8 u8 l9 u9 l10 u10
  refine ⟨bx_narP_ok (l := []) g.1, bx_nfP_ok h0_ (fvs := []) (by decide +kernel) g.2.1, ?_, ?_⟩
  · show rxIRKN_1 S0 ws S_p (bx_val [(0, 0), (0, 0), (0, 0), (0, 0), (0, 0), (0, 0), (0, 0), (0, 0), (9, 0), (10, 0)] r_p 8) (bx_val [(0, 0), (0, 0), (0, 0), (0, 0), (0, 0), (0, 0), (0, 0), (0, 0), (9, 0), (10, 0)] r_p 9)
    rw [bx_val_x (n := 8) (e := (9, 0)) h0_ rfl, bx_val_x (n := 9) (e := (10, 0)) h0_ rfl]
    exact g.2.2.1
  · show rxmRKN_1 S0 ws S_p (bx_val [(0, 0), (0, 0), (0, 0), (0, 0), (0, 0), (0, 0), (0, 0), (0, 0), (9, 0), (10, 0)] r_p 8) (bx_val [(0, 0), (0, 0), (0, 0), (0, 0), (0, 0), (0, 0), (0, 0), (0, 0), (9, 0), (10, 0)] r_p 9) < rxmRKN_0 S0 ws S_p (r 8) (r 9) (r 10)
    rw [bx_val_x (n := 8) (e := (9, 0)) h0_ rfl, bx_val_x (n := 9) (e := (10, 0)) h0_ rfl, ← hr_ 8 (by decide), ← hr_ 9 (by decide), ← hr_ 10 (by decide)]
    exact g.2.2.2
theorem rxdRKN_0_0 {S0 : Nat → Int → Int} {ws : List Int} {S : Nat → Int → Int} {op a b : Int} (hP : rxPRKN S0 ws) (hin : bx_same rxL (bx_mdl rxCRKN.2.2.1) S0 S) (hin2 : bx_same rxL (bx_mdl rxCRKN.2.2.1) S S) (I0 : bx_Inv rxL S) (I1 : bx_Inv rxL S) (hinv : rxIRKN_0 S0 ws S op a b) (l8 : 27 ≤ op) (u8 : op ≤ 27) (l9 : (-9223372036854775808) ≤ a) (u9 : a ≤ 9223372036854775807) (l10 : (-9223372036854775808) ≤ b) (u10 : b ≤ 9223372036854775807) (f0 : a = b) : (True) ∧ rxPSRKN S0 ws S (some 1) := by
  obtain ⟨rfl, hw⟩ := hinv
  refine ⟨trivial, op, a, b, hw, fun p j n => rfl, Or.inl ⟨1, ?_, rfl, fun g => g⟩⟩
  have e : op = 25 ∨ op = 26 ∨ op = 27 := by omega
  rcases e with rfl | rfl | rfl
  · rw [rkBi_25]; exact congrArg some (by first | exact if_pos (by omega) | exact if_neg (by omega) | (exfalso; omega))
  · rw [rkBi_26]; exact congrArg some (by first | exact if_pos (by omega) | exact if_neg (by omega) | (exfalso; omega))
  · rw [rkBi_27]; exact congrArg some (by first | exact if_pos (by omega) | exact if_neg (by omega) | (exfalso; omega))
theorem rxfRKN_0_0 {X : (Nat → Int → Int) → Prop} {S0 : Nat → Int → Int} {ws : List Int} (hP : rxPRKN S0 ws) : bx_obE rxL X S0 rxCRKN.2.2.1 (rxIRKN S0 ws) (rxPSRKN S0 ws) 0 rxzRKN_0 rxeRKN_0_0 := by
  intro S S_p r r_p hinv hX hin hsm_ hseg
  obtain ⟨I0, I1, h0_, hr_, b_, f_, d_⟩ := bx_cl (evs := []) (fvs := [(2, (9, 0), (10, 0), (0, 0))]) hseg (by decide +kernel) (by decide +kernel)
  have hinv : rxIRKN_0 S0 ws S (r 8) (r 9) (r 10) := hinv
  rw [← hr_ 8 (by decide), ← hr_ 9 (by decide), ← hr_ 10 (by decide)] at hinv
  obtain ⟨⟨l8, u8⟩, ⟨l9, u9⟩, ⟨l10, u10⟩, -⟩ := b_
  obtain ⟨f0, -⟩ := f_
  have w_ := d_
  subst w_
  have g := rxdRKN_0_0 hP hin hsm_ I0 I1 hinv l8 u8 l9 u9 l10 u10 f0
  refine ⟨bx_narP_ok (l := []) g.1, ?_⟩
  show rxPSRKN S0 ws S_p (some (bx_num r_p (.inr (1, (0, 1)))))
  rw [bx_xv_ok h0_]
  exact g.2
theorem rxdRKN_0_1 {S0 : Nat → Int → Int} {ws : List Int} {S : Nat → Int → Int} {op a b : Int} (hP : rxPRKN S0 ws) (hin : bx_same rxL (bx_mdl rxCRKN.2.2.1) S0 S) (hin2 : bx_same rxL (bx_mdl rxCRKN.2.2.1) S S) (I0 : bx_Inv rxL S) (I1 : bx_Inv rxL S) (hinv : rxIRKN_0 S0 ws S op a b) (l8 : 27 ≤ op) (u8 : op ≤ 27) (l9 : (-9223372036854775808) ≤ a) (u9 : a ≤ 9223372036854775807) (l10 : (-9223372036854775808) ≤ b) (u10 : b ≤ 9223372036854775807) (f0 : a ≠ b) : (True) ∧ rxPSRKN S0 ws S (some 0) := by
  obtain ⟨rfl, hw⟩ := hinv
  refine ⟨trivial, op, a, b, hw, fun p j n => rfl, Or.inl ⟨0, ?_, rfl, fun g => g⟩⟩
  have e : op = 25 ∨ op = 26 ∨ op = 27 := by omega
  rcases e with rfl | rfl | rfl
  · rw [rkBi_25]; exact congrArg some (by first | exact if_pos (by omega) | exact if_neg (by omega) | (exfalso; omega))
  · rw [rkBi_26]; exact congrArg some (by first | exact if_pos (by omega) | exact if_neg (by omega) | (exfalso; omega))
  · rw [rkBi_27]; exact congrArg some (by first | exact if_pos (by omega) | exact if_neg (by omega) | (exfalso; omega))
theorem rxfRKN_0_1 {X : (Nat → Int → Int) → Prop} {S0 : Nat → Int → Int} {ws : List Int} (hP : rxPRKN S0 ws) : bx_obE rxL X S0 rxCRKN.2.2.1 (rxIRKN S0 ws) (rxPSRKN S0 ws) 0 rxzRKN_0 rxeRKN_0_1 := by
  intro S S_p r r_p hinv hX hin hsm_ hseg
  obtain ⟨I0, I1, h0_, hr_, b_, f_, d_⟩ := bx_cl (evs := []) (fvs := [(3, (9, 0), (10, 0), (0, 0))]) hseg (by decide +kernel) (by decide +kernel)
  have hinv : rxIRKN_0 S0 ws S (r 8) (r 9) (r 10) := hinv
  rw [← hr_ 8 (by decide), ← hr_ 9 (by decide), ← hr_ 10 (by decide)] at hinv
  obtain ⟨⟨l8, u8⟩, ⟨l9, u9⟩, ⟨l10, u10⟩, -⟩ := b_
  obtain ⟨f0, -⟩ := f_
  have w_ := d_
  subst w_
  have g := rxdRKN_0_1 hP hin hsm_ I0 I1 hinv l8 u8 l9 u9 l10 u10 f0
  refine ⟨bx_narP_ok (l := []) g.1, ?_⟩
  show rxPSRKN S0 ws S_p (some (bx_num r_p (.inr (1, (0, 0)))))
  rw [bx_xv_ok h0_]
  exact g.2
theorem rxdRKN_0_2 {S0 : Nat → Int → Int} {ws : List Int} {S : Nat → Int → Int} {op a b : Int} (hP : rxPRKN S0 ws) (hin : bx_same rxL (bx_mdl rxCRKN.2.2.1) S0 S) (hin2 : bx_same rxL (bx_mdl rxCRKN.2.2.1) S S) (I0 : bx_Inv rxL S) (I1 : bx_Inv rxL S) (hinv : rxIRKN_0 S0 ws S op a b) (l8 : 26 ≤ op) (u8 : op ≤ 26) (l9 : (-9223372036854775807) ≤ a) (u9 : a ≤ 9223372036854775807) (l10 : (-9223372036854775808) ≤ b) (u10 : b ≤ 9223372036854775806) (f0 : b < a) : (True) ∧ rxPSRKN S0 ws S (some 1) := by
  obtain ⟨rfl, hw⟩ := hinv
  refine ⟨trivial, op, a, b, hw, fun p j n => rfl, Or.inl ⟨1, ?_, rfl, fun g => g⟩⟩
  have e : op = 25 ∨ op = 26 ∨ op = 27 := by omega
  rcases e with rfl | rfl | rfl
  · rw [rkBi_25]; exact congrArg some (by first | exact if_pos (by omega) | exact if_neg (by omega) | (exfalso; omega))
  · rw [rkBi_26]; exact congrArg some (by first | exact if_pos (by omega) | exact if_neg (by omega) | (exfalso; omega))
  · rw [rkBi_27]; exact congrArg some (by first | exact if_pos (by omega) | exact if_neg (by omega) | (exfalso; omega))
theorem rxfRKN_0_2 {X : (Nat → Int → Int) → Prop} {S0 : Nat → Int → Int} {ws : List Int} (hP : rxPRKN S0 ws) : bx_obE rxL X S0 rxCRKN.2.2.1 (rxIRKN S0 ws) (rxPSRKN S0 ws) 0 rxzRKN_0 rxeRKN_0_2 := by
  intro S S_p r r_p hinv hX hin hsm_ hseg
  obtain ⟨I0, I1, h0_, hr_, b_, f_, d_⟩ := bx_cl (evs := []) (fvs := [(0, (10, 0), (9, 0), (0, 0))]) hseg (by decide +kernel) (by decide +kernel)
  have hinv : rxIRKN_0 S0 ws S (r 8) (r 9) (r 10) := hinv
  rw [← hr_ 8 (by decide), ← hr_ 9 (by decide), ← hr_ 10 (by decide)] at hinv
  obtain ⟨⟨l8, u8⟩, ⟨l9, u9⟩, ⟨l10, u10⟩, -⟩ := b_
  obtain ⟨f0, -⟩ := f_
  have w_ := d_
  subst w_
  have g := rxdRKN_0_2 hP hin hsm_ I0 I1 hinv l8 u8 l9 u9 l10 u10 f0
  refine ⟨bx_narP_ok (l := []) g.1, ?_⟩
  show rxPSRKN S0 ws S_p (some (bx_num r_p (.inr (1, (0, 1)))))
  rw [bx_xv_ok h0_]
  exact g.2
theorem rxdRKN_0_3 {S0 : Nat → Int → Int} {ws : List Int} {S : Nat → Int → Int} {op a b : Int} (hP : rxPRKN S0 ws) (hin : bx_same rxL (bx_mdl rxCRKN.2.2.1) S0 S) (hin2 : bx_same rxL (bx_mdl rxCRKN.2.2.1) S S) (I0 : bx_Inv rxL S) (I1 : bx_Inv rxL S) (hinv : rxIRKN_0 S0 ws S op a b) (l8 : 26 ≤ op) (u8 : op ≤ 26) (l9 : (-9223372036854775808) ≤ a) (u9 : a ≤ 9223372036854775807) (l10 : (-9223372036854775808) ≤ b) (u10 : b ≤ 9223372036854775807) (f0 : a ≤ b) : (True) ∧ rxPSRKN S0 ws S (some 0) := by
  obtain ⟨rfl, hw⟩ := hinv
  refine ⟨trivial, op, a, b, hw, fun p j n => rfl, Or.inl ⟨0, ?_, rfl, fun g => g⟩⟩
  have e : op = 25 ∨ op = 26 ∨ op = 27 := by omega
  rcases e with rfl | rfl | rfl
  · rw [rkBi_25]; exact congrArg some (by first | exact if_pos (by omega) | exact if_neg (by omega) | (exfalso; omega))
  · rw [rkBi_26]; exact congrArg some (by first | exact if_pos (by omega) | exact if_neg (by omega) | (exfalso; omega))
  · rw [rkBi_27]; exact congrArg some (by first | exact if_pos (by omega) | exact if_neg (by omega) | (exfalso; omega))
theorem rxfRKN_0_3 {X : (Nat → Int → Int) → Prop} {S0 : Nat → Int → Int} {ws : List Int} (hP : rxPRKN S0 ws) : bx_obE rxL X S0 rxCRKN.2.2.1 (rxIRKN S0 ws) (rxPSRKN S0 ws) 0 rxzRKN_0 rxeRKN_0_3 := by
  intro S S_p r r_p hinv hX hin hsm_ hseg
  obtain ⟨I0, I1, h0_, hr_, b_, f_, d_⟩ := bx_cl (evs := []) (fvs := [(1, (9, 0), (10, 0), (0, 0))]) hseg (by decide +kernel) (by decide +kernel)
  have hinv : rxIRKN_0 S0 ws S (r 8) (r 9) (r 10) := hinv
  rw [← hr_ 8 (by decide), ← hr_ 9 (by decide), ← hr_ 10 (by decide)] at hinv
  obtain ⟨⟨l8, u8⟩, ⟨l9, u9⟩, ⟨l10, u10⟩, -⟩ := b_
  obtain ⟨f0, -⟩ := f_
  have w_ := d_
  subst w_
  have g := rxdRKN_0_3 hP hin hsm_ I0 I1 hinv l8 u8 l9 u9 l10 u10 f0
  refine ⟨bx_narP_ok (l := []) g.1, ?_⟩
  show rxPSRKN S0 ws S_p (some (bx_num r_p (.inr (1, (0, 0)))))
  rw [bx_xv_ok h0_]
  exact g.2
theorem rxdRKN_0_4 {S0 : Nat → Int → Int} {ws : List Int} {S : Nat → Int → Int} {op a b : Int} (hP : rxPRKN S0 ws) (hin : bx_same rxL (bx_mdl rxCRKN.2.2.1) S0 S) (hin2 : bx_same rxL (bx_mdl rxCRKN.2.2.1) S S) (I0 : bx_Inv rxL S) (I1 : bx_Inv rxL S) (hinv : rxIRKN_0 S0 ws S op a b) (l8 : 25 ≤ op) (u8 : op ≤ 25) (l9 : (-9223372036854775808) ≤ a) (u9 : a ≤ 9223372036854775806) (l10 : (-9223372036854775807) ≤ b) (u10 : b ≤ 9223372036854775807) (f0 : a < b) : (True) ∧ rxPSRKN S0 ws S (some 1) := by
  obtain ⟨rfl, hw⟩ := hinv
  refine ⟨trivial, op, a, b, hw, fun p j n => rfl, Or.inl ⟨1, ?_, rfl, fun g => g⟩⟩
  have e : op = 25 ∨ op = 26 ∨ op = 27 := by omega
  rcases e with rfl | rfl | rfl
  · rw [rkBi_25]; exact congrArg some (by first | exact if_pos (by omega) | exact if_neg (by omega) | (exfalso; omega))
  · rw [rkBi_26]; exact congrArg some (by first | exact if_pos (by omega) | exact if_neg (by omega) | (exfalso; omega))
  · rw [rkBi_27]; exact congrArg some (by first | exact if_pos (by omega) | exact if_neg (by omega) | (exfalso; omega))
theorem rxfRKN_0_4 {X : (Nat → Int → Int) → Prop} {S0 : Nat → Int → Int} {ws : List Int} (hP : rxPRKN S0 ws) : bx_obE rxL X S0 rxCRKN.2.2.1 (rxIRKN S0 ws) (rxPSRKN S0 ws) 0 rxzRKN_0 rxeRKN_0_4 := by
  intro S S_p r r_p hinv hX hin hsm_ hseg
  obtain ⟨I0, I1, h0_, hr_, b_, f_, d_⟩ := bx_cl (evs := []) (fvs := [(0, (9, 0), (10, 0), (0, 0))]) hseg (by decide +kernel) (by decide +kernel)
  have hinv : rxIRKN_0 S0 ws S (r 8) (r 9) (r 10) := hinv
  rw [← hr_ 8 (by decide), ← hr_ 9 (by decide), ← hr_ 10 (by decide)] at hinv
  obtain ⟨⟨l8, u8⟩, ⟨l9, u9⟩, ⟨l10, u10⟩, -⟩ := b_
  obtain ⟨f0, -⟩ := f_
  have w_ := d_
  subst w_
  have g := rxdRKN_0_4 hP hin hsm_ I0 I1 hinv l8 u8 l9 u9 l10 u10 f0
  refine ⟨bx_narP_ok (l := []) g.1, ?_⟩
  show rxPSRKN S0 ws S_p (some (bx_num r_p (.inr (1, (0, 1)))))
  rw [bx_xv_ok h0_]
  exact g.2
theorem rxdRKN_0_5 {S0 : Nat → Int → Int} {ws : List Int} {S : Nat → Int → Int} {op a b : Int} (hP : rxPRKN S0 ws) (hin : bx_same rxL (bx_mdl rxCRKN.2.2.1) S0 S) (hin2 : bx_same rxL (bx_mdl rxCRKN.2.2.1) S S) (I0 : bx_Inv rxL S) (I1 : bx_Inv rxL S) (hinv : rxIRKN_0 S0 ws S op a b) (l8 : 25 ≤ op) (u8 : op ≤ 25) (l9 : (-9223372036854775808) ≤ a) (u9 : a ≤ 9223372036854775807) (l10 : (-9223372036854775808) ≤ b) (u10 : b ≤ 9223372036854775807) (f0 : b ≤ a) : (True) ∧ rxPSRKN S0 ws S (some 0) := by
  obtain ⟨rfl, hw⟩ := hinv
  refine ⟨trivial, op, a, b, hw, fun p j n => rfl, Or.inl ⟨0, ?_, rfl, fun g => g⟩⟩
  have e : op = 25 ∨ op = 26 ∨ op = 27 := by omega
  rcases e with rfl | rfl | rfl
  · rw [rkBi_25]; exact congrArg some (by first | exact if_pos (by omega) | exact if_neg (by omega) | (exfalso; omega))
  · rw [rkBi_26]; exact congrArg some (by first | exact if_pos (by omega) | exact if_neg (by omega) | (exfalso; omega))
  · rw [rkBi_27]; exact congrArg some (by first | exact if_pos (by omega) | exact if_neg (by omega) | (exfalso; omega))
theorem rxfRKN_0_5 {X : (Nat → Int → Int) → Prop} {S0 : Nat → Int → Int} {ws : List Int} (hP : rxPRKN S0 ws) : bx_obE rxL X S0 rxCRKN.2.2.1 (rxIRKN S0 ws) (rxPSRKN S0 ws) 0 rxzRKN_0 rxeRKN_0_5 := by
  intro S S_p r r_p hinv hX hin hsm_ hseg
  obtain ⟨I0, I1, h0_, hr_, b_, f_, d_⟩ := bx_cl (evs := []) (fvs := [(1, (10, 0), (9, 0), (0, 0))]) hseg (by decide +kernel) (by decide +kernel)
  have hinv : rxIRKN_0 S0 ws S (r 8) (r 9) (r 10) := hinv
  rw [← hr_ 8 (by decide), ← hr_ 9 (by decide), ← hr_ 10 (by decide)] at hinv
  obtain ⟨⟨l8, u8⟩, ⟨l9, u9⟩, ⟨l10, u10⟩, -⟩ := b_
  obtain ⟨f0, -⟩ := f_
  have w_ := d_
  subst w_
  have g := rxdRKN_0_5 hP hin hsm_ I0 I1 hinv l8 u8 l9 u9 l10 u10 f0
  refine ⟨bx_narP_ok (l := []) g.1, ?_⟩
  show rxPSRKN S0 ws S_p (some (bx_num r_p (.inr (1, (0, 0)))))
  rw [bx_xv_ok h0_]
  exact g.2
theorem rxdRKN_0_6 {S0 : Nat → Int → Int} {ws : List Int} {S : Nat → Int → Int} {op a b : Int} (hP : rxPRKN S0 ws) (hin : bx_same rxL (bx_mdl rxCRKN.2.2.1) S0 S) (hin2 : bx_same rxL (bx_mdl rxCRKN.2.2.1) S (bx_up S 480 32 1)) (I0 : bx_Inv rxL S) (I1 : bx_Inv rxL (bx_up S 480 32 1)) (hinv : rxIRKN_0 S0 ws S op a b) (l8 : 24 ≤ op) (u8 : op ≤ 24) (l9 : (-9223372036854775808) ≤ a) (u9 : a ≤ 9223372036854775807) (l10 : 0 ≤ b) (u10 : b ≤ 0) : (True) ∧ rxPSRKN S0 ws (bx_up S 480 32 1) (some 0) := by
  obtain ⟨rfl, hw⟩ := hinv
  refine ⟨trivial, op, a, b, hw, fun p j n => bx_up_ne n, Or.inr ⟨?_, bx_up_at⟩⟩
  have e : op = 23 ∨ op = 24 := by omega
  have z : b = 0 := by omega
  rcases e with rfl | rfl
  · exact rkBi_23z z
  · exact rkBi_24z z
theorem rxfRKN_0_6 {X : (Nat → Int → Int) → Prop} {S0 : Nat → Int → Int} {ws : List Int} (hP : rxPRKN S0 ws) : bx_obE rxL X S0 rxCRKN.2.2.1 (rxIRKN S0 ws) (rxPSRKN S0 ws) 0 rxzRKN_0 rxeRKN_0_6 := by
  intro S S_p r r_p hinv hX hin hsm_ hseg
  obtain ⟨I0, I1, h0_, hr_, b_, f_, d_⟩ := bx_cl (evs := [(1, (0, 480), (0, 32), .inr (0, (0, 1)))]) (fvs := []) hseg (by decide +kernel) (by decide +kernel)
  have hinv : rxIRKN_0 S0 ws S (r 8) (r 9) (r 10) := hinv
  rw [← hr_ 8 (by decide), ← hr_ 9 (by decide), ← hr_ 10 (by decide)] at hinv
  obtain ⟨⟨l8, u8⟩, ⟨l9, u9⟩, ⟨l10, u10⟩, -⟩ := b_
  obtain ⟨T0, w_, w0⟩ := d_
  subst w0
  subst w_
  have g := rxdRKN_0_6 hP hin hsm_ I0 I1 hinv l8 u8 l9 u9 l10 u10
  refine ⟨bx_narP_ok (l := []) g.1, ?_⟩
  show rxPSRKN S0 ws (bx_up T0 480 (32) (1)) (some (bx_num r_p (.inr (1, (0, 0)))))
  rw [bx_xv_ok h0_]
  exact g.2
theorem rxdRKN_0_7 {S0 : Nat → Int → Int} {ws : List Int} {S : Nat → Int → Int} {op a b : Int} (hP : rxPRKN S0 ws) (hin : bx_same rxL (bx_mdl rxCRKN.2.2.1) S0 S) (hin2 : bx_same rxL (bx_mdl rxCRKN.2.2.1) S (bx_up S 480 32 1)) (I0 : bx_Inv rxL S) (I1 : bx_Inv rxL (bx_up S 480 32 1)) (hinv : rxIRKN_0 S0 ws S op a b) (l8 : 23 ≤ op) (u8 : op ≤ 23) (l9 : (-9223372036854775808) ≤ a) (u9 : a ≤ 9223372036854775807) (l10 : 0 ≤ b) (u10 : b ≤ 0) : (True) ∧ rxPSRKN S0 ws (bx_up S 480 32 1) (some 0) := by
  obtain ⟨rfl, hw⟩ := hinv
  refine ⟨trivial, op, a, b, hw, fun p j n => bx_up_ne n, Or.inr ⟨?_, bx_up_at⟩⟩
  have e : op = 23 ∨ op = 24 := by omega
  have z : b = 0 := by omega
  rcases e with rfl | rfl
  · exact rkBi_23z z
  · exact rkBi_24z z
theorem rxfRKN_0_7 {X : (Nat → Int → Int) → Prop} {S0 : Nat → Int → Int} {ws : List Int} (hP : rxPRKN S0 ws) : bx_obE rxL X S0 rxCRKN.2.2.1 (rxIRKN S0 ws) (rxPSRKN S0 ws) 0 rxzRKN_0 rxeRKN_0_7 := by
  intro S S_p r r_p hinv hX hin hsm_ hseg
  obtain ⟨I0, I1, h0_, hr_, b_, f_, d_⟩ := bx_cl (evs := [(1, (0, 480), (0, 32), .inr (0, (0, 1)))]) (fvs := []) hseg (by decide +kernel) (by decide +kernel)
  have hinv : rxIRKN_0 S0 ws S (r 8) (r 9) (r 10) := hinv
  rw [← hr_ 8 (by decide), ← hr_ 9 (by decide), ← hr_ 10 (by decide)] at hinv
  obtain ⟨⟨l8, u8⟩, ⟨l9, u9⟩, ⟨l10, u10⟩, -⟩ := b_
  obtain ⟨T0, w_, w0⟩ := d_
  subst w0
  subst w_
  have g := rxdRKN_0_7 hP hin hsm_ I0 I1 hinv l8 u8 l9 u9 l10 u10
  refine ⟨bx_narP_ok (l := []) g.1, ?_⟩
  show rxPSRKN S0 ws (bx_up T0 480 (32) (1)) (some (bx_num r_p (.inr (1, (0, 0)))))
  rw [bx_xv_ok h0_]
  exact g.2
theorem rxdRKN_2_0 {S0 : Nat → Int → Int} {ws : List Int} {S : Nat → Int → Int} {a b y : Int} (hP : rxPRKN S0 ws) (hin : bx_same rxL (bx_mdl rxCRKN.2.2.1) S0 S) (hin2 : bx_same rxL (bx_mdl rxCRKN.2.2.1) S S) (I0 : bx_Inv rxL S) (I1 : bx_Inv rxL S) (hinv : rxIRKN_2 S0 ws S a b y) (l8 : (-9223372036854775808) ≤ a) (u8 : a ≤ 9223372036854775807) (l9 : (-9223372036854775808) ≤ b) (u9 : b ≤ 9223372036854775807) (l10 : (-9223372036854775808) ≤ y) (u10 : y ≤ 9223372036854775807) : (True) ∧ rxPSRKN S0 ws S (some y) := by
  obtain ⟨hw, -, -, hS, hy⟩ := hinv
  subst hS
  exact ⟨trivial, 20, a, b, hw, fun p j n => rfl, Or.inl ⟨y, hy.symm, rfl, fun g => g⟩⟩
theorem rxfRKN_2_0 {X : (Nat → Int → Int) → Prop} {S0 : Nat → Int → Int} {ws : List Int} (hP : rxPRKN S0 ws) : bx_obE rxL X S0 rxCRKN.2.2.1 (rxIRKN S0 ws) (rxPSRKN S0 ws) 2 rxzRKN_2 rxeRKN_2_0 := by
  intro S S_p r r_p hinv hX hin hsm_ hseg
  obtain ⟨I0, I1, h0_, hr_, b_, f_, d_⟩ := bx_cl (evs := []) (fvs := []) hseg (by decide +kernel) (by decide +kernel)
  have hinv : rxIRKN_2 S0 ws S (r 8) (r 9) (r 10) := hinv
  rw [← hr_ 8 (by decide), ← hr_ 9 (by decide), ← hr_ 10 (by decide)] at hinv
  obtain ⟨⟨l8, u8⟩, ⟨l9, u9⟩, ⟨l10, u10⟩, -⟩ := b_
  have w_ := d_
  subst w_
  have g := rxdRKN_2_0 hP hin hsm_ I0 I1 hinv l8 u8 l9 u9 l10 u10
  refine ⟨bx_narP_ok (l := []) g.1, ?_⟩
  show rxPSRKN S0 ws S_p (some (bx_num r_p (.inr (1, (10, 0)))))
  rw [bx_xv_ok h0_]
  exact g.2
theorem rxdRKN_4_0 {S0 : Nat → Int → Int} {ws : List Int} {S : Nat → Int → Int} {a b y : Int} (hP : rxPRKN S0 ws) (hin : bx_same rxL (bx_mdl rxCRKN.2.2.1) S0 S) (hin2 : bx_same rxL (bx_mdl rxCRKN.2.2.1) S S) (I0 : bx_Inv rxL S) (I1 : bx_Inv rxL S) (hinv : rxIRKN_4 S0 ws S a b y) (l8 : (-9223372036854775808) ≤ a) (u8 : a ≤ 9223372036854775807) (l9 : (-9223372036854775808) ≤ b) (u9 : b ≤ 9223372036854775807) (l10 : (-9223372036854775808) ≤ y) (u10 : y ≤ 9223372036854775807) : (True) ∧ rxPSRKN S0 ws S (some y) := by
  obtain ⟨hw, -, -, hS, hy⟩ := hinv
  subst hS
  exact ⟨trivial, 21, a, b, hw, fun p j n => rfl, Or.inl ⟨y, hy.symm, rfl, fun g => g⟩⟩
theorem rxfRKN_4_0 {X : (Nat → Int → Int) → Prop} {S0 : Nat → Int → Int} {ws : List Int} (hP : rxPRKN S0 ws) : bx_obE rxL X S0 rxCRKN.2.2.1 (rxIRKN S0 ws) (rxPSRKN S0 ws) 4 rxzRKN_4 rxeRKN_4_0 := by
  intro S S_p r r_p hinv hX hin hsm_ hseg
  obtain ⟨I0, I1, h0_, hr_, b_, f_, d_⟩ := bx_cl (evs := []) (fvs := []) hseg (by decide +kernel) (by decide +kernel)
  have hinv : rxIRKN_4 S0 ws S (r 8) (r 9) (r 10) := hinv
  rw [← hr_ 8 (by decide), ← hr_ 9 (by decide), ← hr_ 10 (by decide)] at hinv
  obtain ⟨⟨l8, u8⟩, ⟨l9, u9⟩, ⟨l10, u10⟩, -⟩ := b_
  have w_ := d_
  subst w_
  have g := rxdRKN_4_0 hP hin hsm_ I0 I1 hinv l8 u8 l9 u9 l10 u10
  refine ⟨bx_narP_ok (l := []) g.1, ?_⟩
  show rxPSRKN S0 ws S_p (some (bx_num r_p (.inr (1, (10, 0)))))
  rw [bx_xv_ok h0_]
  exact g.2
theorem rxdRKN_6_0 {S0 : Nat → Int → Int} {ws : List Int} {S : Nat → Int → Int} {a b y : Int} (hP : rxPRKN S0 ws) (hin : bx_same rxL (bx_mdl rxCRKN.2.2.1) S0 S) (hin2 : bx_same rxL (bx_mdl rxCRKN.2.2.1) S S) (I0 : bx_Inv rxL S) (I1 : bx_Inv rxL S) (hinv : rxIRKN_6 S0 ws S a b y) (l8 : (-9223372036854775808) ≤ a) (u8 : a ≤ 9223372036854775807) (l9 : (-9223372036854775808) ≤ b) (u9 : b ≤ 9223372036854775807) (l10 : (-9223372036854775808) ≤ y) (u10 : y ≤ 9223372036854775807) : (True) ∧ rxPSRKN S0 ws S (some y) := by
  obtain ⟨hw, -, -, hS, hy⟩ := hinv
  subst hS
  exact ⟨trivial, 22, a, b, hw, fun p j n => rfl, Or.inl ⟨y, hy.symm, rfl, fun g => g⟩⟩
theorem rxfRKN_6_0 {X : (Nat → Int → Int) → Prop} {S0 : Nat → Int → Int} {ws : List Int} (hP : rxPRKN S0 ws) : bx_obE rxL X S0 rxCRKN.2.2.1 (rxIRKN S0 ws) (rxPSRKN S0 ws) 6 rxzRKN_6 rxeRKN_6_0 := by
  intro S S_p r r_p hinv hX hin hsm_ hseg
  obtain ⟨I0, I1, h0_, hr_, b_, f_, d_⟩ := bx_cl (evs := []) (fvs := []) hseg (by decide +kernel) (by decide +kernel)
  have hinv : rxIRKN_6 S0 ws S (r 8) (r 9) (r 10) := hinv
  rw [← hr_ 8 (by decide), ← hr_ 9 (by decide), ← hr_ 10 (by decide)] at hinv
  obtain ⟨⟨l8, u8⟩, ⟨l9, u9⟩, ⟨l10, u10⟩, -⟩ := b_
  have w_ := d_
  subst w_
  have g := rxdRKN_6_0 hP hin hsm_ I0 I1 hinv l8 u8 l9 u9 l10 u10
  refine ⟨bx_narP_ok (l := []) g.1, ?_⟩
  show rxPSRKN S0 ws S_p (some (bx_num r_p (.inr (1, (10, 0)))))
  rw [bx_xv_ok h0_]
  exact g.2
theorem rxdRKN_8_0 {S0 : Nat → Int → Int} {ws : List Int} {S : Nat → Int → Int} {a b y : Int} (hP : rxPRKN S0 ws) (hin : bx_same rxL (bx_mdl rxCRKN.2.2.1) S0 S) (hin2 : bx_same rxL (bx_mdl rxCRKN.2.2.1) S S) (I0 : bx_Inv rxL S) (I1 : bx_Inv rxL S) (hinv : rxIRKN_8 S0 ws S a b y) (l8 : (-9223372036854775808) ≤ a) (u8 : a ≤ 9223372036854775807) (l9 : (-9223372036854775808) ≤ b) (u9 : b ≤ 9223372036854775807) (l10 : (-9223372036854775808) ≤ y) (u10 : y ≤ 9223372036854775807) : (True) ∧ rxPSRKN S0 ws S (some y) := by
  obtain ⟨hw, -, -, hz, hS, hy⟩ := hinv
  subst hS
  exact ⟨trivial, 23, a, b, hw, fun p j n => bx_up_ne n, Or.inl ⟨y, hy.symm, rfl, fun _ => bx_up_at⟩⟩
theorem rxfRKN_8_0 {X : (Nat → Int → Int) → Prop} {S0 : Nat → Int → Int} {ws : List Int} (hP : rxPRKN S0 ws) : bx_obE rxL X S0 rxCRKN.2.2.1 (rxIRKN S0 ws) (rxPSRKN S0 ws) 8 rxzRKN_8 rxeRKN_8_0 := by
  intro S S_p r r_p hinv hX hin hsm_ hseg
  obtain ⟨I0, I1, h0_, hr_, b_, f_, d_⟩ := bx_cl (evs := []) (fvs := []) hseg (by decide +kernel) (by decide +kernel)
  have hinv : rxIRKN_8 S0 ws S (r 8) (r 9) (r 10) := hinv
  rw [← hr_ 8 (by decide), ← hr_ 9 (by decide), ← hr_ 10 (by decide)] at hinv
  obtain ⟨⟨l8, u8⟩, ⟨l9, u9⟩, ⟨l10, u10⟩, -⟩ := b_
  have w_ := d_
  subst w_
  have g := rxdRKN_8_0 hP hin hsm_ I0 I1 hinv l8 u8 l9 u9 l10 u10
  refine ⟨bx_narP_ok (l := []) g.1, ?_⟩
  show rxPSRKN S0 ws S_p (some (bx_num r_p (.inr (1, (10, 0)))))
  rw [bx_xv_ok h0_]
  exact g.2
theorem rxdRKN_10_0 {S0 : Nat → Int → Int} {ws : List Int} {S : Nat → Int → Int} {a b y : Int} (hP : rxPRKN S0 ws) (hin : bx_same rxL (bx_mdl rxCRKN.2.2.1) S0 S) (hin2 : bx_same rxL (bx_mdl rxCRKN.2.2.1) S S) (I0 : bx_Inv rxL S) (I1 : bx_Inv rxL S) (hinv : rxIRKN_10 S0 ws S a b y) (l8 : (-9223372036854775808) ≤ a) (u8 : a ≤ 9223372036854775807) (l9 : (-9223372036854775808) ≤ b) (u9 : b ≤ 9223372036854775807) (l10 : (-9223372036854775808) ≤ y) (u10 : y ≤ 9223372036854775807) : (True) ∧ rxPSRKN S0 ws S (some y) := by
  obtain ⟨hw, -, -, hz, hS, hy⟩ := hinv
  subst hS
  exact ⟨trivial, 24, a, b, hw, fun p j n => bx_up_ne n, Or.inl ⟨y, hy.symm, rfl, fun _ => bx_up_at⟩⟩
theorem rxfRKN_10_0 {X : (Nat → Int → Int) → Prop} {S0 : Nat → Int → Int} {ws : List Int} (hP : rxPRKN S0 ws) : bx_obE rxL X S0 rxCRKN.2.2.1 (rxIRKN S0 ws) (rxPSRKN S0 ws) 10 rxzRKN_10 rxeRKN_10_0 := by
  intro S S_p r r_p hinv hX hin hsm_ hseg
  obtain ⟨I0, I1, h0_, hr_, b_, f_, d_⟩ := bx_cl (evs := []) (fvs := []) hseg (by decide +kernel) (by decide +kernel)
  have hinv : rxIRKN_10 S0 ws S (r 8) (r 9) (r 10) := hinv
  rw [← hr_ 8 (by decide), ← hr_ 9 (by decide), ← hr_ 10 (by decide)] at hinv
  obtain ⟨⟨l8, u8⟩, ⟨l9, u9⟩, ⟨l10, u10⟩, -⟩ := b_
  have w_ := d_
  subst w_
  have g := rxdRKN_10_0 hP hin hsm_ I0 I1 hinv l8 u8 l9 u9 l10 u10
  refine ⟨bx_narP_ok (l := []) g.1, ?_⟩
  show rxPSRKN S0 ws S_p (some (bx_num r_p (.inr (1, (10, 0)))))
  rw [bx_xv_ok h0_]
  exact g.2
theorem rxgCRKN {X : (Nat → Int → Int) → Prop} {S0 : Nat → Int → Int} {ws : List Int} (hP : rxPRKN S0 ws) : bx_allI (fun i q => rxURKN q = true ∨ bx_allP (fun o => bx_obC rxL X S0 rxCRKN.2.2.1 (rxIRKN S0 ws) (rxmRKN S0 ws) i q.1 o) q.2.1) 0 rxYRKN := ⟨Or.inr ⟨rxgRKN_0_0 hP, rxgRKN_0_1 hP, rxgRKN_0_2 hP, rxgRKN_0_3 hP, rxgRKN_0_4 hP, trivial⟩, Or.inl rfl, Or.inr trivial, Or.inl rfl, Or.inr trivial, Or.inl rfl, Or.inr trivial, Or.inl rfl, Or.inr trivial, Or.inl rfl, Or.inr trivial, trivial⟩
theorem rxgERKN {X : (Nat → Int → Int) → Prop} {S0 : Nat → Int → Int} {ws : List Int} (hP : rxPRKN S0 ws) : bx_allI (fun i q => rxURKN q = true ∨ bx_allP (fun E => bx_obE rxL X S0 rxCRKN.2.2.1 (rxIRKN S0 ws) (rxPSRKN S0 ws) i q.1 E) q.2.2) 0 rxYRKN := ⟨Or.inr ⟨rxfRKN_0_0 hP, rxfRKN_0_1 hP, rxfRKN_0_2 hP, rxfRKN_0_3 hP, rxfRKN_0_4 hP, rxfRKN_0_5 hP, rxfRKN_0_6 hP, rxfRKN_0_7 hP, trivial⟩, Or.inl rfl, Or.inr ⟨rxfRKN_2_0 hP, trivial⟩, Or.inl rfl, Or.inr ⟨rxfRKN_4_0 hP, trivial⟩, Or.inl rfl, Or.inr ⟨rxfRKN_6_0 hP, trivial⟩, Or.inl rfl, Or.inr ⟨rxfRKN_8_0 hP, trivial⟩, Or.inl rfl, Or.inr ⟨rxfRKN_10_0 hP, trivial⟩, trivial⟩
theorem rxuRKN {PX : State → Prop} {Dg : va_G} {A : Nat → Prop} {ad xa : Nat → Nat} {l : Launch} {X : (Nat → Int → Int) → Prop} (hPX : rx_PXOK rxNW A PX) (hX : ∀ S S1 : Nat → Int → Int, X S → bx_same rxL (bx_mdl rxCRKN.2.2.1) S S1 → X S1) {S0 : Nat → Int → Int} {ws : List Int} (hP : rxPRKN S0 ws) : ∀ (i : Nat) (q : bx_HE), rxYRKN[i]? = some q → rxURKN q = true → ∀ {p : Program} {e : Env} {R : Room} {s : State} {m : MethodId} {args : Array Value} {below : List Frame} {meth : Method} {c : Code} {Q : State → Prop} {H0 : Heap}, rx_Fr rxG rxNW rxAO PX p s m args meth c rxM286 → (∀ q, H0.size ≤ q → A q) → H0 = s.heap → rxM286.2.2.2.2.2.2.1 ≤ R.cells → rxM286.2.2.2.2.2.2.2 ≤ R.slots → rxCRKN.2.2.2.1 ≤ R.frames → rxCRKN.2.2.2.1 * 40 ≤ R.locals → bx_Step p l e R s m args below meth c Q Dg rxL X vwCl A xa H0 ad rxM286 rxYRKN (rxIRKN S0 ws) (rxmRKN S0 ws) S0 rxCRKN.2.2.1 i q := by
  intro i q hq hus p e R s m args below meth c Q H0 hF hA hH0 hmc hms hd hdl
  match i, hq with
  | 0, hq =>
    cases hq
    exact absurd (show false = true from hus) Bool.false_ne_true
  | 1, hq =>
    cases hq
    exact rx_stepBM (i_p := 2) (o := 40) (a := (8, 0)) (b := (9, 0)) (lo := (-9223372036854775808)) (hi := 9223372036854775807) (t := []) hF (Or.inl ⟨rfl, rfl⟩) (by decide +kernel) rfl rfl rfl rfl (rxsRKN_1 hP)
  | 2, hq =>
    cases hq
    exact absurd (show false = true from hus) Bool.false_ne_true
  | 3, hq =>
    cases hq
    exact rx_stepBM (i_p := 4) (o := 41) (a := (8, 0)) (b := (9, 0)) (lo := (-9223372036854775808)) (hi := 9223372036854775807) (t := []) hF (Or.inr (Or.inl ⟨rfl, rfl⟩)) (by decide +kernel) rfl rfl rfl rfl (rxsRKN_3 hP)
  | 4, hq =>
    cases hq
    exact absurd (show false = true from hus) Bool.false_ne_true
  | 5, hq =>
    cases hq
    exact rx_stepBM (i_p := 6) (o := 42) (a := (8, 0)) (b := (9, 0)) (lo := (-9223372036854775808)) (hi := 9223372036854775807) (t := []) hF (Or.inr (Or.inr (Or.inl ⟨rfl, rfl⟩))) (by decide +kernel) rfl rfl rfl rfl (rxsRKN_5 hP)
  | 6, hq =>
    cases hq
    exact absurd (show false = true from hus) Bool.false_ne_true
  | 7, hq =>
    cases hq
    exact rx_stepBM (i_p := 8) (o := 43) (a := (8, 0)) (b := (9, 0)) (lo := (-9223372036854775808)) (hi := 9223372036854775807) (t := []) hF (Or.inr (Or.inr (Or.inr (Or.inl ⟨rfl, rfl⟩)))) (by decide +kernel) rfl rfl rfl rfl (rxsRKN_7 hP)
  | 8, hq =>
    cases hq
    exact absurd (show false = true from hus) Bool.false_ne_true
  | 9, hq =>
    cases hq
    exact rx_stepBM (i_p := 10) (o := 44) (a := (8, 0)) (b := (9, 0)) (lo := (-9223372036854775808)) (hi := 9223372036854775807) (t := []) hF (Or.inr (Or.inr (Or.inr (Or.inr ⟨rfl, rfl⟩)))) (by decide +kernel) rfl rfl rfl rfl (rxsRKN_9 hP)
  | 10, hq =>
    cases hq
    exact absurd (show false = true from hus) Bool.false_ne_true
  | n + 11, hq => cases hq
theorem rxQRKN {PX : State → Prop} {Dg : va_G} {A : Nat → Prop} {ad xa : Nat → Nat} {l : Launch} {X : (Nat → Int → Int) → Prop} (hPX : rx_PXOK rxNW A PX) (hsl : ∀ s : State, PX s → ∀ o idx n : Nat, rxSl o idx = some n → ∃ tx : String, vk_R (rxNm o) idx tx (ad n) s)
    (hX : ∀ S S_p : Nat → Int → Int, X S → bx_same rxL (bx_mdl rxCRKN.2.2.1) S S_p → X S_p)
    (ih : ∀ (j2 : Nat) (ct2 : bx_Ct) (M2 : rx_Mt), ct2 ∈ rxCnE j2 → ct2.2.2.2.1 + 1 ≤ rxCRKN.2.2.2.1 → rxT.2.2.2.2.2 j2 = some M2 → bx_Con rxG rxNW rxAO PX Dg rxL X vwCl A ad l M2 ct2) : bx_ConP rxG rxNW rxAO PX Dg rxL X vwCl A ad l rxM286 rxCRKN rxPRKN rxPSRKN :=
  rxQof (xa := xa) (Cn := rxCnE) (f := 30000) (j := 286) (tab := rxYRKN) (us := rxURKN) hPX hsl hX ih rfl rxYcRKN rxIRKN rxmRKN
    (fun S0 ws r I0 I ht0 ht as he he1 hX0 hI0 hP hs ha => by
      have e := he.symm.trans (show bx_ent0 rxNP rxCRKN.1 bx_I0 [] = some ([(0, 0), (0, 0), (0, 0), (0, 0), (0, 0), (0, 0), (0, 0), (0, 0), (20, 27), ((-9223372036854775808), 9223372036854775807), ((-9223372036854775808), 9223372036854775807)], [], [.inr (3, (0, 480)), .inr (0, (8, 0)), .inr (1, (9, 0)), .inr (1, (10, 0))]) from rfl)
      cases e
      subst ha
      have h0 : r 0 = 0 := hs.1
      show rxIRKN_0 S0 _ S0 (r 8) (r 9) (r 10)
      refine ⟨rfl, ?_⟩
      simp only [List.map_cons, List.map_nil, bx_xv_ok h0]
      rfl)
    (fun S0 ws hP => rxuRKN (xa := xa) hPX hX hP) (fun S0 ws hP => rxgCRKN hP) (fun S0 ws hP => rxgERKN hP)
