/-! CONTRACT BY HAND, by program (wip/sim/genhand.py): DeadUnderstudiesModel.drift -/
def rxI183_0 (S0 : Nat → Int → Int) (ws : List Int) (S : Nat → Int → Int) (n k : Int) : Prop := S = S0 ∧ ws = [480, n, k]
def rxm183_0 (S0 : Nat → Int → Int) (ws : List Int) (S : Nat → Int → Int) (n k : Int) : Nat := 100000
def rxz183_0 : rx_Z := ([(0, 0), (0, 0), (0, 0), (0, 0), (0, 0), (0, 0), (0, 0), (0, 0), ((-2147483648), 2147483647), ((-2147483648), 2147483647)], [], [], 0, 0, 0, [(0, .inr (3, (0, 480))), (1, .inr (0, (8, 0))), (2, .inr (0, (9, 0)))], [])
def rxI183_1 (S0 : Nat → Int → Int) (ws : List Int) (S : Nat → Int → Int) (n k v i : Int) : Prop := ws = [480, n, k] ∧ (∀ j : Int, S 482 j = S0 482 j) ∧ k ≤ n ∧ ∃ h : Nat, i = (h : Int) + 1 ∧ (h : Int) ≤ k ∧ v = rzCh n k h
def rxm183_1 (S0 : Nat → Int → Int) (ws : List Int) (S : Nat → Int → Int) (n k v i : Int) : Nat := 5000 + 10 * (20 - i).toNat
def rxz183_1 : rx_Z := ([(0, 0), (0, 0), (0, 0), (0, 0), (0, 0), (0, 0), (0, 0), (0, 0), (0, 6), (0, 6), (0, 20), (1, 7)], [], [], 0, 0, 45, [(0, .inr (3, (0, 480))), (1, .inr (0, (8, 0))), (2, .inr (0, (9, 0))), (3, .inr (1, (10, 0))), (5, .inr (0, (11, 0)))], [])
def rxI183_2 (S0 : Nat → Int → Int) (ws : List Int) (S : Nat → Int → Int) (n k i v f : Int) : Prop := ws = [480, n, k] ∧ (∀ j : Int, S 482 j = S0 482 j) ∧ k ≤ n ∧ i ≤ k ∧ f = n - k + i ∧ ∃ h : Nat, i = (h : Int) + 1 ∧ v = rzCh n k h
def rxm183_2 (S0 : Nat → Int → Int) (ws : List Int) (S : Nat → Int → Int) (n k i v f : Int) : Nat := 5000 + 10 * (20 - i).toNat - 1
def rxz183_2 : rx_Z := ([(0, 0), (0, 0), (0, 0), (0, 0), (0, 0), (0, 0), (0, 0), (0, 0), (0, 6), (0, 6), (1, 6), (0, 20), (1, 12)], [], [], 0, 0, 59, [(0, .inr (3, (0, 480))), (1, .inr (0, (8, 0))), (2, .inr (0, (9, 0))), (5, .inr (0, (10, 0)))], [.inr (1, (12, 0)), .inr (1, (11, 0))])
def rxI183_3 (S0 : Nat → Int → Int) (ws : List Int) (S : Nat → Int → Int) (n k i v f y : Int) : Prop := ws = [480, n, k] ∧ (∀ j : Int, S 482 j = S0 482 j) ∧ k ≤ n ∧ i ≤ k ∧ ∃ h : Nat, i = (h : Int) + 1 ∧ y = rzCh n k h * (n - k + i)
def rxm183_3 (S0 : Nat → Int → Int) (ws : List Int) (S : Nat → Int → Int) (n k i v f y : Int) : Nat := 5000 + 10 * (20 - i).toNat - 2
def rxz183_3 : rx_Z := ([(0, 0), (0, 0), (0, 0), (0, 0), (0, 0), (0, 0), (0, 0), (0, 0), (0, 6), (0, 6), (1, 6), (0, 20), (1, 12), (0, 240)], [], [], 0, 0, 60, [(0, .inr (3, (0, 480))), (1, .inr (0, (8, 0))), (2, .inr (0, (9, 0))), (5, .inr (0, (10, 0)))], [.inr (1, (13, 0))])
def rxI183_4 (S0 : Nat → Int → Int) (ws : List Int) (S : Nat → Int → Int) (n k i y g : Int) : Prop := g = i ∧ ws = [480, n, k] ∧ (∀ j : Int, S 482 j = S0 482 j) ∧ k ≤ n ∧ i ≤ k ∧ ∃ h : Nat, i = (h : Int) + 1 ∧ y = rzCh n k h * (n - k + i)
def rxm183_4 (S0 : Nat → Int → Int) (ws : List Int) (S : Nat → Int → Int) (n k i y g : Int) : Nat := 5000 + 10 * (20 - i).toNat - 3
def rxz183_4 : rx_Z := ([(0, 0), (0, 0), (0, 0), (0, 0), (0, 0), (0, 0), (0, 0), (0, 0), (0, 6), (0, 6), (1, 6), (0, 240), (1, 6)], [], [], 0, 0, 63, [(0, .inr (3, (0, 480))), (1, .inr (0, (8, 0))), (2, .inr (0, (9, 0))), (5, .inr (0, (10, 0)))], [.inr (1, (12, 0)), .inr (1, (11, 0))])
def rxI183_5 (S0 : Nat → Int → Int) (ws : List Int) (S : Nat → Int → Int) (n k i y g z : Int) : Prop := ws = [480, n, k] ∧ (∀ j : Int, S 482 j = S0 482 j) ∧ k ≤ n ∧ i ≤ k ∧ ∃ h : Nat, i = (h : Int) + 1 ∧ z = rzCh n k (h + 1)
def rxm183_5 (S0 : Nat → Int → Int) (ws : List Int) (S : Nat → Int → Int) (n k i y g z : Int) : Nat := 5000 + 10 * (20 - i).toNat - 4
def rxz183_5 : rx_Z := ([(0, 0), (0, 0), (0, 0), (0, 0), (0, 0), (0, 0), (0, 0), (0, 0), (0, 6), (0, 6), (1, 6), (0, 240), (1, 6), (0, 20)], [], [], 0, 0, 64, [(0, .inr (3, (0, 480))), (1, .inr (0, (8, 0))), (2, .inr (0, (9, 0))), (5, .inr (0, (10, 0)))], [.inr (1, (13, 0))])
def rxI183_6 (S0 : Nat → Int → Int) (ws : List Int) (S : Nat → Int → Int) (n k v i : Int) : Prop := ws = [480, n, k] ∧ (∀ j : Int, S 482 j = S0 482 j) ∧ k ≤ n ∧ i ≤ n ∧ 0 ≤ (S0 482 9) ∧ (S0 482 9) ≤ 300 ∧ ∃ h : Nat, i = (h : Int) ∧ v = rzCh n k k.toNat * rzWy (S0 482 9) k h
def rxm183_6 (S0 : Nat → Int → Int) (ws : List Int) (S : Nat → Int → Int) (n k v i : Int) : Nat := 1000 + 10 * (20 - i).toNat
def rxz183_6 : rx_Z := ([(0, 0), (0, 0), (0, 0), (0, 0), (0, 0), (0, 0), (0, 0), (0, 0), (0, 6), (0, 6), ((-14580000000000000), 14580000000000000), (0, 6)], [], [], 0, 0, 74, [(0, .inr (3, (0, 480))), (1, .inr (0, (8, 0))), (2, .inr (0, (9, 0))), (3, .inr (1, (10, 0))), (5, .inr (0, (11, 0)))], [])
def rxI183_7 (S0 : Nat → Int → Int) (ws : List Int) (S : Nat → Int → Int) (n k i v f : Int) : Prop := ws = [480, n, k] ∧ (∀ j : Int, S 482 j = S0 482 j) ∧ k ≤ n ∧ i < n ∧ 0 ≤ (S0 482 9) ∧ (S0 482 9) ≤ 300 ∧ f = (if i + 1 ≤ k then (S0 482 9) else 100 - (S0 482 9)) ∧ ∃ h : Nat, i = (h : Int) ∧ v = rzCh n k k.toNat * rzWy (S0 482 9) k h
def rxm183_7 (S0 : Nat → Int → Int) (ws : List Int) (S : Nat → Int → Int) (n k i v f : Int) : Nat := 1000 + 10 * (20 - i).toNat - 1
def rxz183_7 : rx_Z := ([(0, 0), (0, 0), (0, 0), (0, 0), (0, 0), (0, 0), (0, 0), (0, 0), (0, 6), (0, 6), (0, 5), ((-14580000000000000), 14580000000000000), ((-200), 300)], [], [], 0, 0, 109, [(0, .inr (3, (0, 480))), (1, .inr (0, (8, 0))), (2, .inr (0, (9, 0))), (5, .inr (0, (10, 0)))], [.inr (1, (12, 0)), .inr (1, (11, 0))])
def rxI183_8 (S0 : Nat → Int → Int) (ws : List Int) (S : Nat → Int → Int) (n k i v f y : Int) : Prop := ws = [480, n, k] ∧ (∀ j : Int, S 482 j = S0 482 j) ∧ k ≤ n ∧ i < n ∧ 0 ≤ (S0 482 9) ∧ (S0 482 9) ≤ 300 ∧ ∃ h : Nat, i = (h : Int) ∧ y = rzCh n k k.toNat * rzWy (S0 482 9) k (h + 1)
def rxm183_8 (S0 : Nat → Int → Int) (ws : List Int) (S : Nat → Int → Int) (n k i v f y : Int) : Nat := 1000 + 10 * (20 - i).toNat - 2
def rxz183_8 : rx_Z := ([(0, 0), (0, 0), (0, 0), (0, 0), (0, 0), (0, 0), (0, 0), (0, 0), (0, 6), (0, 6), (0, 5), ((-14580000000000000), 14580000000000000), ((-200), 300), ((-14580000000000000), 14580000000000000)], [], [], 0, 0, 110, [(0, .inr (3, (0, 480))), (1, .inr (0, (8, 0))), (2, .inr (0, (9, 0))), (5, .inr (0, (10, 0)))], [.inr (1, (13, 0))])
def rxo183_0_0 : bx_HO := (([(0, 0), (0, 0), (0, 0), (0, 0), (0, 0), (0, 0), (0, 0), (0, 0), (0, 6), (0, 6)], [(1, (9, 0), (8, 0))], [(((0, 0), 1851192626986356797424340330377019318111018015026043177836478467000000), .inr (0, (0, 0))), (((0, 480), 0), .inr (0, (0, 0)))], 0, 0, 45, [(5, .inr (0, (0, 1))), (3, .inr (1, (0, 1))), (0, .inr (3, (0, 480))), (1, .inr (0, (8, 0))), (2, .inr (0, (9, 0)))], []), [], [], [(0, 0), (0, 0), (0, 0), (0, 0), (0, 0), (0, 0), (0, 0), (0, 0), (8, 0), (9, 0), (0, 1), (0, 1)], 1)
def rxe183_0_0 : rx_End × List (Nat × Int × Int) := (([(0, 0), (0, 0), (0, 0), (0, 0), (0, 0), (0, 0), (0, 0), (0, 0), ((-2147483648), (-1)), ((-2147483648), 2147483647)], [], [(((0, 0), 1851192626986356797424340330377019318111018015026043177836478467000000), .inr (0, (0, 0))), (((0, 480), 0), .inr (0, (0, 0)))], some (.inr (1, (0, (-1))))), [])
def rxe183_0_1 : rx_End × List (Nat × Int × Int) := (([(0, 0), (0, 0), (0, 0), (0, 0), (0, 0), (0, 0), (0, 0), (0, 0), (7, 2147483647), ((-2147483648), 2147483647)], [], [(((0, 0), 1851192626986356797424340330377019318111018015026043177836478467000000), .inr (0, (0, 0))), (((0, 480), 0), .inr (0, (0, 0)))], some (.inr (1, (0, (-1))))), [])
def rxe183_0_2 : rx_End × List (Nat × Int × Int) := (([(0, 0), (0, 0), (0, 0), (0, 0), (0, 0), (0, 0), (0, 0), (0, 0), (0, 6), ((-2147483648), (-1))], [], [(((0, 0), 1851192626986356797424340330377019318111018015026043177836478467000000), .inr (0, (0, 0))), (((0, 480), 0), .inr (0, (0, 0)))], some (.inr (1, (0, (-1))))), [])
def rxe183_0_3 : rx_End × List (Nat × Int × Int) := (([(0, 0), (0, 0), (0, 0), (0, 0), (0, 0), (0, 0), (0, 0), (0, 0), (0, 6), (10, 2147483647)], [], [(((0, 0), 1851192626986356797424340330377019318111018015026043177836478467000000), .inr (0, (0, 0))), (((0, 480), 0), .inr (0, (0, 0)))], some (.inr (1, (0, (-1))))), [])
def rxe183_0_4 : rx_End × List (Nat × Int × Int) := (([(0, 0), (0, 0), (0, 0), (0, 0), (0, 0), (0, 0), (0, 0), (0, 0), (0, 6), (1, 9)], [(0, (8, 0), (9, 0))], [(((0, 0), 1851192626986356797424340330377019318111018015026043177836478467000000), .inr (0, (0, 0))), (((0, 480), 0), .inr (0, (0, 0)))], some (.inr (1, (0, 0)))), [])
def rxo183_1_0 : bx_HO := (([(0, 0), (0, 0), (0, 0), (0, 0), (0, 0), (0, 0), (0, 0), (0, 0), (0, 6), (1, 6), (0, 20), (1, 6), ((-6), 5), ((-5), 11)], [(604462909807314587353099000000, (13, 0), (12, 0)), (604462909807314587353097000000, (8, 0), (12, 0)), (1, (11, 0), (9, 0))], [], 0, 0, 59, [(0, .inr (3, (0, 480))), (1, .inr (0, (8, 0))), (2, .inr (0, (9, 0))), (3, .inr (1, (10, 0))), (5, .inr (0, (11, 0)))], [.inr (1, (13, 0)), .inr (1, (10, 0))]), [(13, 1, 12)], [], [(0, 0), (0, 0), (0, 0), (0, 0), (0, 0), (0, 0), (0, 0), (0, 0), (8, 0), (9, 0), (11, 0), (10, 0), (13, 0)], 2)
def rxo183_1_1 : bx_HO := (([(0, 0), (0, 0), (0, 0), (0, 0), (0, 0), (0, 0), (0, 0), (0, 0), (0, 6), (0, 6), (0, 20), (1, 7)], [(0, (9, 0), (11, 0))], [], 0, 0, 74, [(5, .inr (0, (0, 0))), (0, .inr (3, (0, 480))), (1, .inr (0, (8, 0))), (2, .inr (0, (9, 0))), (3, .inr (1, (10, 0)))], []), [], [], [(0, 0), (0, 0), (0, 0), (0, 0), (0, 0), (0, 0), (0, 0), (0, 0), (8, 0), (9, 0), (10, 0), (0, 0)], 6)
def rxo183_3_0 : bx_HO := (([(0, 0), (0, 0), (0, 0), (0, 0), (0, 0), (0, 0), (0, 0), (0, 0), (0, 6), (0, 6), (1, 6), (0, 20), (1, 12), (0, 240)], [], [], 0, 0, 63, [(0, .inr (3, (0, 480))), (1, .inr (0, (8, 0))), (2, .inr (0, (9, 0))), (5, .inr (0, (10, 0)))], [.inr (1, (10, 0)), .inr (1, (13, 0))]), [], [], [(0, 0), (0, 0), (0, 0), (0, 0), (0, 0), (0, 0), (0, 0), (0, 0), (8, 0), (9, 0), (10, 0), (13, 0), (10, 0)], 4)
def rxo183_5_0 : bx_HO := (([(0, 0), (0, 0), (0, 0), (0, 0), (0, 0), (0, 0), (0, 0), (0, 0), (0, 6), (0, 6), (1, 6), (0, 240), (1, 6), (0, 20)], [], [], 0, 0, 45, [(5, .inr (0, (10, 1))), (3, .inr (1, (13, 0))), (0, .inr (3, (0, 480))), (1, .inr (0, (8, 0))), (2, .inr (0, (9, 0)))], []), [], [], [(0, 0), (0, 0), (0, 0), (0, 0), (0, 0), (0, 0), (0, 0), (0, 0), (8, 0), (9, 0), (13, 0), (10, 1)], 1)
def rxo183_6_0 : bx_HO := (([(0, 0), (0, 0), (0, 0), (0, 0), (0, 0), (0, 0), (0, 0), (0, 0), (1, 6), (1, 6), ((-14580000000000000), 14580000000000000), (0, 5), (0, 100)], [(0, (11, 0), (9, 0)), (0, (11, 0), (8, 0))], [(((0, 0), 1851192626986356799230700691457999792575411195110560459822071808000000), .inr (0, (12, 0))), (((0, 482), 9), .inr (0, (12, 0))), (((0, 480), 3), .inr (3, (0, 482)))], 0, 0, 109, [(0, .inr (3, (0, 480))), (1, .inr (0, (8, 0))), (2, .inr (0, (9, 0))), (3, .inr (1, (10, 0))), (5, .inr (0, (11, 0)))], [.inr (1, (12, 0)), .inr (1, (10, 0))]), [], [], [(0, 0), (0, 0), (0, 0), (0, 0), (0, 0), (0, 0), (0, 0), (0, 0), (8, 0), (9, 0), (11, 0), (10, 0), (12, 0)], 7)
def rxo183_6_1 : bx_HO := (([(0, 0), (0, 0), (0, 0), (0, 0), (0, 0), (0, 0), (0, 0), (0, 0), (1, 6), (0, 5), ((-14580000000000000), 14580000000000000), (0, 5), (0, 100), (0, 100)], [(604462909807314587353100000000, (0, 100), (13, 0)), (1, (9, 0), (11, 0)), (0, (11, 0), (8, 0))], [(((0, 0), 1851192626986356799230700691457999792575411195110560459822071808000000), .inr (0, (12, 0))), (((0, 482), 9), .inr (0, (12, 0))), (((0, 480), 3), .inr (3, (0, 482)))], 0, 0, 109, [(0, .inr (3, (0, 480))), (1, .inr (0, (8, 0))), (2, .inr (0, (9, 0))), (3, .inr (1, (10, 0))), (5, .inr (0, (11, 0)))], [.inr (1, (13, 0)), .inr (1, (10, 0))]), [], [], [(0, 0), (0, 0), (0, 0), (0, 0), (0, 0), (0, 0), (0, 0), (0, 0), (8, 0), (9, 0), (11, 0), (10, 0), (13, 0)], 7)
def rxe183_6_0 : rx_End × List (Nat × Int × Int) := (([(0, 0), (0, 0), (0, 0), (0, 0), (0, 0), (0, 0), (0, 0), (0, 0), (0, 6), (0, 6), ((-14580000000000000), 14580000000000000), (0, 6)], [(1, (8, 0), (11, 0))], [], some (.inr (1, (10, 0)))), [])
def rxo183_8_0 : bx_HO := (([(0, 0), (0, 0), (0, 0), (0, 0), (0, 0), (0, 0), (0, 0), (0, 0), (0, 6), (0, 6), (0, 5), ((-14580000000000000), 14580000000000000), ((-200), 300), ((-14580000000000000), 14580000000000000)], [], [], 0, 0, 74, [(5, .inr (0, (10, 1))), (3, .inr (1, (13, 0))), (0, .inr (3, (0, 480))), (1, .inr (0, (8, 0))), (2, .inr (0, (9, 0)))], []), [], [], [(0, 0), (0, 0), (0, 0), (0, 0), (0, 0), (0, 0), (0, 0), (0, 0), (8, 0), (9, 0), (13, 0), (10, 1)], 6)
def rxY183 : List bx_HE := [(rxz183_0, [rxo183_0_0], [rxe183_0_0, rxe183_0_1, rxe183_0_2, rxe183_0_3, rxe183_0_4]), (rxz183_1, [rxo183_1_0, rxo183_1_1], []), (rxz183_2, [], []), (rxz183_3, [rxo183_3_0], []), (rxz183_4, [], []), (rxz183_5, [rxo183_5_0], []), (rxz183_6, [rxo183_6_0, rxo183_6_1], [rxe183_6_0]), (rxz183_7, [], []), (rxz183_8, [rxo183_8_0], [])]
def rxU183 (q : bx_HE) : Bool := Nat.beq (rx_zpc q.1) 59 || Nat.beq (rx_zpc q.1) 63 || Nat.beq (rx_zpc q.1) 109
def rxYB183 : bx_B := (rxV, rxNP, rxDmf, bx_mdH rxC183.2.2.1)
set_option maxRecDepth 100000 in
theorem rxYc183 : bx_chkH rxYB183 rxM183 rxC183 rxY183 (rxU183, fun cut z => rx_ex2 (rxCT rxYB183 rxCnE) cut 30000 rxC183.2.2.2.1 183 z) = true := by decide +kernel
def rxI183 (S0 : Nat → Int → Int) (ws : List Int) (i : Nat) : bx_SP := fun S r => match i with | 0 => rxI183_0 S0 ws S (r 8) (r 9) | 1 => rxI183_1 S0 ws S (r 8) (r 9) (r 10) (r 11) | 2 => rxI183_2 S0 ws S (r 8) (r 9) (r 10) (r 11) (r 12) | 3 => rxI183_3 S0 ws S (r 8) (r 9) (r 10) (r 11) (r 12) (r 13) | 4 => rxI183_4 S0 ws S (r 8) (r 9) (r 10) (r 11) (r 12) | 5 => rxI183_5 S0 ws S (r 8) (r 9) (r 10) (r 11) (r 12) (r 13) | 6 => rxI183_6 S0 ws S (r 8) (r 9) (r 10) (r 11) | 7 => rxI183_7 S0 ws S (r 8) (r 9) (r 10) (r 11) (r 12) | 8 => rxI183_8 S0 ws S (r 8) (r 9) (r 10) (r 11) (r 12) (r 13) | _ => False
def rxm183 (S0 : Nat → Int → Int) (ws : List Int) (i : Nat) (S : Nat → Int → Int) (r : Nat → Int) : Nat := match i with | 0 => rxm183_0 S0 ws S (r 8) (r 9) | 1 => rxm183_1 S0 ws S (r 8) (r 9) (r 10) (r 11) | 2 => rxm183_2 S0 ws S (r 8) (r 9) (r 10) (r 11) (r 12) | 3 => rxm183_3 S0 ws S (r 8) (r 9) (r 10) (r 11) (r 12) (r 13) | 4 => rxm183_4 S0 ws S (r 8) (r 9) (r 10) (r 11) (r 12) | 5 => rxm183_5 S0 ws S (r 8) (r 9) (r 10) (r 11) (r 12) (r 13) | 6 => rxm183_6 S0 ws S (r 8) (r 9) (r 10) (r 11) | 7 => rxm183_7 S0 ws S (r 8) (r 9) (r 10) (r 11) (r 12) | 8 => rxm183_8 S0 ws S (r 8) (r 9) (r 10) (r 11) (r 12) (r 13) | _ => 0
def rxP183 (S0 : Nat → Int → Int) (ws : List Int) : Prop := True
def rxPS183 (S0 : Nat → Int → Int) (ws : List Int) (S : Nat → Int → Int) (w : Option Int) : Prop := ∃ n k : Int, ws = [480, n, k] ∧ (((n < 0 ∨ 6 < n ∨ k < 0 ∨ 9 < k) ∧ w = some (-1) ∧ (∀ j : Int, S 482 j = S0 482 j)) ∨ (0 ≤ n ∧ n ≤ 6 ∧ 0 ≤ k ∧ k ≤ 9 ∧ w = some (rzDr n k (S0 482 9)) ∧ (∀ j : Int, S 482 j = S0 482 j)))
theorem rxb183_2 {S0 : Nat → Int → Int} {ws : List Int} {S : Nat → Int → Int} {n k i v f : Int} (hP : rxP183 S0 ws) (hin : bx_same rxL (bx_mdl rxC183.2.2.1) S0 S) (I0 : bx_Inv rxL S) (hinv : rxI183_2 S0 ws S n k i v f) (l8 : 0 ≤ n) (u8 : n ≤ 6) (l9 : 0 ≤ k) (u9 : k ≤ 6) (l10 : 1 ≤ i) (u10 : i ≤ 6) (l11 : 0 ≤ v) (u11 : v ≤ 20) (l12 : 1 ≤ f) (u12 : f ≤ 12) : bx_opcL 20 v f ∧ ∀ y : Int, y = bx_opvL 20 v f → (0 ≤ y ∧ y ≤ 240) ∧ rxI183_3 S0 ws S n k i v f y ∧ rxm183_3 S0 ws S n k i v f y < rxm183_2 S0 ws S n k i v f := by
  obtain ⟨hw, hF, hkn, hk, hf, h, e1, e2⟩ := hinv
  have b := rz_mb (A := 20) (B := 12) (a := v) (b := f) (by omega) (by omega)
  have b0 := Int.mul_nonneg (show 0 ≤ v by omega) (show 0 ≤ f by omega)
  have ev : ∀ a b : Int, bx_opvL 20 a b = a * b := fun a b => if_pos rfl
  refine ⟨⟨⟨by omega, by omega⟩, ⟨by omega, by omega⟩, ?_⟩, fun y hy => ?_⟩
  · rw [if_pos rfl]; omega
  · rw [ev] at hy
    refine ⟨by omega, ⟨hw, hF, hkn, hk, h, e1, ?_⟩, by unfold rxm183_2 rxm183_3; omega⟩
    rw [hy, e2, hf]
theorem rxs183_2 {X : (Nat → Int → Int) → Prop} {S0 : Nat → Int → Int} {ws : List Int} (hP : rxP183 S0 ws) : rx_obBL X S0 rxC183.2.2.1 (rxI183 S0 ws) (rxm183 S0 ws) 2 3 rxz183_2 20 (11, 0) (12, 0) 0 240 := by
  intro S r hinv hXS I0 hin hs_ hf_
  have b_ := bx_bds_sat hs_
  have f_ := bx_fcl_ok hs_.1 hf_
  obtain ⟨⟨l8, u8⟩, ⟨l9, u9⟩, ⟨l10, u10⟩, ⟨l11, u11⟩, ⟨l12, u12⟩, -⟩ := b_
  have g := rxb183_2 hP hin I0 hinv l8 u8 l9 u9 l10 u10 l11 u11 l12 u12
  rw [bx_x_ok hs_.1, bx_x_ok hs_.1]
  refine ⟨g.1, fun r_p hr h0_ hv => ?_⟩
  have g2 := g.2 (r_p 13) hv
  show _ ∧ rxI183_3 S0 ws S (r_p 8) (r_p 9) (r_p 10) (r_p 11) (r_p 12) (r_p 13) ∧ rxm183_3 S0 ws S (r_p 8) (r_p 9) (r_p 10) (r_p 11) (r_p 12) (r_p 13) < _
  rw [hr 8 (by decide), hr 9 (by decide), hr 10 (by decide), hr 11 (by decide), hr 12 (by decide)]
  exact g2
theorem rxb183_4 {S0 : Nat → Int → Int} {ws : List Int} {S : Nat → Int → Int} {n k i y g : Int} (hP : rxP183 S0 ws) (hin : bx_same rxL (bx_mdl rxC183.2.2.1) S0 S) (I0 : bx_Inv rxL S) (hinv : rxI183_4 S0 ws S n k i y g) (l8 : 0 ≤ n) (u8 : n ≤ 6) (l9 : 0 ≤ k) (u9 : k ≤ 6) (l10 : 1 ≤ i) (u10 : i ≤ 6) (l11 : 0 ≤ y) (u11 : y ≤ 240) (l12 : 1 ≤ g) (u12 : g ≤ 6) : bx_opcL 21 y g ∧ ∀ z : Int, z = bx_opvL 21 y g → (0 ≤ z ∧ z ≤ 20) ∧ rxI183_5 S0 ws S n k i y g z ∧ rxm183_5 S0 ws S n k i y g z < rxm183_4 S0 ws S n k i y g := by
  obtain ⟨hg, hw, hF, hkn, hk, h, e1, e2⟩ := hinv
  have ec : y / g = rzCh n k (h + 1) := by
    show y / g = rzCh n k h * (n - k + ((h : Int) + 1)) / ((h : Int) + 1)
    rw [e2, hg, e1]
  have b := rzCh_b (n := n) (k := k) (by omega) (by omega) (by omega) hkn (h := h + 1) (by omega)
  have ev : bx_opvL 21 y g = y / g := if_neg (by decide)
  refine ⟨⟨⟨by omega, by omega⟩, ⟨by omega, by omega⟩, ?_⟩, fun z hz => ?_⟩
  · rw [if_neg (by decide)]; omega
  · rw [ev, ec] at hz
    exact ⟨by omega, ⟨hw, hF, hkn, hk, h, e1, hz⟩, by unfold rxm183_4 rxm183_5; omega⟩
theorem rxs183_4 {X : (Nat → Int → Int) → Prop} {S0 : Nat → Int → Int} {ws : List Int} (hP : rxP183 S0 ws) : rx_obBL X S0 rxC183.2.2.1 (rxI183 S0 ws) (rxm183 S0 ws) 4 5 rxz183_4 21 (11, 0) (12, 0) 0 20 := by
  intro S r hinv hXS I0 hin hs_ hf_
  have b_ := bx_bds_sat hs_
  have f_ := bx_fcl_ok hs_.1 hf_
  obtain ⟨⟨l8, u8⟩, ⟨l9, u9⟩, ⟨l10, u10⟩, ⟨l11, u11⟩, ⟨l12, u12⟩, -⟩ := b_
  have g := rxb183_4 hP hin I0 hinv l8 u8 l9 u9 l10 u10 l11 u11 l12 u12
  rw [bx_x_ok hs_.1, bx_x_ok hs_.1]
  refine ⟨g.1, fun r_p hr h0_ hv => ?_⟩
  have g2 := g.2 (r_p 13) hv
  show _ ∧ rxI183_5 S0 ws S (r_p 8) (r_p 9) (r_p 10) (r_p 11) (r_p 12) (r_p 13) ∧ rxm183_5 S0 ws S (r_p 8) (r_p 9) (r_p 10) (r_p 11) (r_p 12) (r_p 13) < _
  rw [hr 8 (by decide), hr 9 (by decide), hr 10 (by decide), hr 11 (by decide), hr 12 (by decide)]
  exact g2
theorem rxb183_7 {S0 : Nat → Int → Int} {ws : List Int} {S : Nat → Int → Int} {n k i v f : Int} (hP : rxP183 S0 ws) (hin : bx_same rxL (bx_mdl rxC183.2.2.1) S0 S) (I0 : bx_Inv rxL S) (hinv : rxI183_7 S0 ws S n k i v f) (l8 : 0 ≤ n) (u8 : n ≤ 6) (l9 : 0 ≤ k) (u9 : k ≤ 6) (l10 : 0 ≤ i) (u10 : i ≤ 5) (l11 : (-14580000000000000) ≤ v) (u11 : v ≤ 14580000000000000) (l12 : (-200) ≤ f) (u12 : f ≤ 300) : bx_opcL 20 v f ∧ ∀ y : Int, y = bx_opvL 20 v f → ((-14580000000000000) ≤ y ∧ y ≤ 14580000000000000) ∧ rxI183_8 S0 ws S n k i v f y ∧ rxm183_8 S0 ws S n k i v f y < rxm183_7 S0 ws S n k i v f := by
  obtain ⟨hw, hF, hkn, hi, s0, s1, hf, h, e1, e2⟩ := hinv
  subst e1
  have bc := rzCh_b (n := n) (k := k) (by omega) (by omega) (by omega) hkn (h := k.toNat) (by omega)
  have bw := Nat.le_trans (rzWy_b (k := k) s0 s1 h) (rz_p3' (by omega))
  have bv : v.natAbs ≤ 48600000000000 := by
    rw [e2, Int.natAbs_mul]
    exact Nat.mul_le_mul (show (rzCh n k k.toNat).natAbs ≤ 20 by omega) bw
  have b := rz_mb (A := 48600000000000) (B := 300) (a := v) (b := f) bv (by omega)
  have ev : ∀ a b : Int, bx_opvL 20 a b = a * b := fun a b => if_pos rfl
  refine ⟨⟨⟨by omega, by omega⟩, ⟨by omega, by omega⟩, ?_⟩, fun y hy => ?_⟩
  · rw [if_pos rfl]; omega
  · rw [ev] at hy
    refine ⟨by omega, ⟨hw, hF, hkn, hi, s0, s1, h, rfl, ?_⟩, by unfold rxm183_7 rxm183_8; omega⟩
    rw [hy, e2, hf, Int.mul_assoc]
    rfl
theorem rxs183_7 {X : (Nat → Int → Int) → Prop} {S0 : Nat → Int → Int} {ws : List Int} (hP : rxP183 S0 ws) : rx_obBL X S0 rxC183.2.2.1 (rxI183 S0 ws) (rxm183 S0 ws) 7 8 rxz183_7 20 (11, 0) (12, 0) (-14580000000000000) 14580000000000000 := by
  intro S r hinv hXS I0 hin hs_ hf_
  have b_ := bx_bds_sat hs_
  have f_ := bx_fcl_ok hs_.1 hf_
  obtain ⟨⟨l8, u8⟩, ⟨l9, u9⟩, ⟨l10, u10⟩, ⟨l11, u11⟩, ⟨l12, u12⟩, -⟩ := b_
  have g := rxb183_7 hP hin I0 hinv l8 u8 l9 u9 l10 u10 l11 u11 l12 u12
  rw [bx_x_ok hs_.1, bx_x_ok hs_.1]
  refine ⟨g.1, fun r_p hr h0_ hv => ?_⟩
  have g2 := g.2 (r_p 13) hv
  show _ ∧ rxI183_8 S0 ws S (r_p 8) (r_p 9) (r_p 10) (r_p 11) (r_p 12) (r_p 13) ∧ rxm183_8 S0 ws S (r_p 8) (r_p 9) (r_p 10) (r_p 11) (r_p 12) (r_p 13) < _
  rw [hr 8 (by decide), hr 9 (by decide), hr 10 (by decide), hr 11 (by decide), hr 12 (by decide)]
  exact g2
theorem rxc183_0_0 {S0 : Nat → Int → Int} {ws : List Int} {S : Nat → Int → Int} {n k : Int} (hP : rxP183 S0 ws) (hin : bx_same rxL (bx_mdl rxC183.2.2.1) S0 S) (I0 : bx_Inv rxL S) (hinv : rxI183_0 S0 ws S n k) (l8 : 0 ≤ n) (u8 : n ≤ 6) (l9 : 0 ≤ k) (u9 : k ≤ 6) (f0 : k ≤ n) : (True) ∧ (True) ∧ rxI183_1 S0 ws (bx_up S 480 0 0) n k 1 1 ∧ rxm183_1 S0 ws (bx_up S 480 0 0) n k 1 1 < rxm183_0 S0 ws S n k := by
  obtain ⟨rfl, hw⟩ := hinv
  exact ⟨trivial, trivial, ⟨hw, fun j => bx_up_ne (by omega), by omega, 0, by omega, by omega, rfl⟩, by unfold rxm183_0 rxm183_1; omega⟩
theorem rxg183_0_0 {X : (Nat → Int → Int) → Prop} {S0 : Nat → Int → Int} {ws : List Int} (hP : rxP183 S0 ws) : bx_obC rxL X S0 rxC183.2.2.1 (rxI183 S0 ws) (rxm183 S0 ws) 0 rxz183_0 rxo183_0_0 := by
  intro S S_p r r_p hinv hX hin hsm_ hseg
  obtain ⟨I0, I1, h0_, hr_, b_, f_, d_⟩ := bx_cl (evs := [(1, (0, 480), (0, 0), .inr (0, (0, 0)))]) (fvs := [(1, (9, 0), (8, 0), (0, 0))]) hseg (by decide +kernel) (by decide +kernel)
  have hinv : rxI183_0 S0 ws S (r 8) (r 9) := hinv
  rw [← hr_ 8 (by decide), ← hr_ 9 (by decide)] at hinv
  obtain ⟨⟨l8, u8⟩, ⟨l9, u9⟩, -⟩ := b_
  obtain ⟨f0, -⟩ := f_
  obtain ⟨T0, w_, w0⟩ := d_
  subst w0
  subst w_
  have g := rxc183_0_0 hP hin I0 hinv l8 u8 l9 u9 f0
  refine ⟨bx_narP_ok (l := []) g.1, bx_nfP_ok h0_ (fvs := []) (by decide +kernel) g.2.1, ?_, ?_⟩
  · show rxI183_1 S0 ws (bx_up T0 480 (0) (0)) (bx_val [(0, 0), (0, 0), (0, 0), (0, 0), (0, 0), (0, 0), (0, 0), (0, 0), (8, 0), (9, 0), (0, 1), (0, 1)] r_p 8) (bx_val [(0, 0), (0, 0), (0, 0), (0, 0), (0, 0), (0, 0), (0, 0), (0, 0), (8, 0), (9, 0), (0, 1), (0, 1)] r_p 9) (bx_val [(0, 0), (0, 0), (0, 0), (0, 0), (0, 0), (0, 0), (0, 0), (0, 0), (8, 0), (9, 0), (0, 1), (0, 1)] r_p 10) (bx_val [(0, 0), (0, 0), (0, 0), (0, 0), (0, 0), (0, 0), (0, 0), (0, 0), (8, 0), (9, 0), (0, 1), (0, 1)] r_p 11)
    rw [bx_val_x (n := 8) (e := (8, 0)) h0_ rfl, bx_val_x (n := 9) (e := (9, 0)) h0_ rfl, bx_val_x (n := 10) (e := (0, 1)) h0_ rfl, bx_val_x (n := 11) (e := (0, 1)) h0_ rfl]
    exact g.2.2.1
  · show rxm183_1 S0 ws (bx_up T0 480 (0) (0)) (bx_val [(0, 0), (0, 0), (0, 0), (0, 0), (0, 0), (0, 0), (0, 0), (0, 0), (8, 0), (9, 0), (0, 1), (0, 1)] r_p 8) (bx_val [(0, 0), (0, 0), (0, 0), (0, 0), (0, 0), (0, 0), (0, 0), (0, 0), (8, 0), (9, 0), (0, 1), (0, 1)] r_p 9) (bx_val [(0, 0), (0, 0), (0, 0), (0, 0), (0, 0), (0, 0), (0, 0), (0, 0), (8, 0), (9, 0), (0, 1), (0, 1)] r_p 10) (bx_val [(0, 0), (0, 0), (0, 0), (0, 0), (0, 0), (0, 0), (0, 0), (0, 0), (8, 0), (9, 0), (0, 1), (0, 1)] r_p 11) < rxm183_0 S0 ws T0 (r 8) (r 9)
    rw [bx_val_x (n := 8) (e := (8, 0)) h0_ rfl, bx_val_x (n := 9) (e := (9, 0)) h0_ rfl, bx_val_x (n := 10) (e := (0, 1)) h0_ rfl, bx_val_x (n := 11) (e := (0, 1)) h0_ rfl, ← hr_ 8 (by decide), ← hr_ 9 (by decide)]
    exact g.2.2.2
theorem rxd183_0_0 {S0 : Nat → Int → Int} {ws : List Int} {S : Nat → Int → Int} {n k : Int} (hP : rxP183 S0 ws) (hin : bx_same rxL (bx_mdl rxC183.2.2.1) S0 S) (hin2 : bx_same rxL (bx_mdl rxC183.2.2.1) S (bx_up S 480 0 0)) (I0 : bx_Inv rxL S) (I1 : bx_Inv rxL (bx_up S 480 0 0)) (hinv : rxI183_0 S0 ws S n k) (l8 : (-2147483648) ≤ n) (u8 : n ≤ (-1)) (l9 : (-2147483648) ≤ k) (u9 : k ≤ 2147483647) : (True) ∧ rxPS183 S0 ws (bx_up S 480 0 0) (some ((-1))) := by
  obtain ⟨rfl, hw⟩ := hinv
  exact ⟨trivial, n, k, hw, Or.inl ⟨by omega, rfl, fun j => bx_up_ne (by omega)⟩⟩
theorem rxf183_0_0 {X : (Nat → Int → Int) → Prop} {S0 : Nat → Int → Int} {ws : List Int} (hP : rxP183 S0 ws) : bx_obE rxL X S0 rxC183.2.2.1 (rxI183 S0 ws) (rxPS183 S0 ws) 0 rxz183_0 rxe183_0_0 := by
  intro S S_p r r_p hinv hX hin hsm_ hseg
  obtain ⟨I0, I1, h0_, hr_, b_, f_, d_⟩ := bx_cl (evs := [(1, (0, 480), (0, 0), .inr (0, (0, 0)))]) (fvs := []) hseg (by decide +kernel) (by decide +kernel)
  have hinv : rxI183_0 S0 ws S (r 8) (r 9) := hinv
  rw [← hr_ 8 (by decide), ← hr_ 9 (by decide)] at hinv
  obtain ⟨⟨l8, u8⟩, ⟨l9, u9⟩, -⟩ := b_
  obtain ⟨T0, w_, w0⟩ := d_
  subst w0
  subst w_
  have g := rxd183_0_0 hP hin hsm_ I0 I1 hinv l8 u8 l9 u9
  refine ⟨bx_narP_ok (l := []) g.1, ?_⟩
  show rxPS183 S0 ws (bx_up T0 480 (0) (0)) (some (bx_num r_p (.inr (1, (0, (-1))))))
  rw [bx_xv_ok h0_]
  exact g.2
theorem rxd183_0_1 {S0 : Nat → Int → Int} {ws : List Int} {S : Nat → Int → Int} {n k : Int} (hP : rxP183 S0 ws) (hin : bx_same rxL (bx_mdl rxC183.2.2.1) S0 S) (hin2 : bx_same rxL (bx_mdl rxC183.2.2.1) S (bx_up S 480 0 0)) (I0 : bx_Inv rxL S) (I1 : bx_Inv rxL (bx_up S 480 0 0)) (hinv : rxI183_0 S0 ws S n k) (l8 : 7 ≤ n) (u8 : n ≤ 2147483647) (l9 : (-2147483648) ≤ k) (u9 : k ≤ 2147483647) : (True) ∧ rxPS183 S0 ws (bx_up S 480 0 0) (some ((-1))) := by
  obtain ⟨rfl, hw⟩ := hinv
  exact ⟨trivial, n, k, hw, Or.inl ⟨by omega, rfl, fun j => bx_up_ne (by omega)⟩⟩
theorem rxf183_0_1 {X : (Nat → Int → Int) → Prop} {S0 : Nat → Int → Int} {ws : List Int} (hP : rxP183 S0 ws) : bx_obE rxL X S0 rxC183.2.2.1 (rxI183 S0 ws) (rxPS183 S0 ws) 0 rxz183_0 rxe183_0_1 := by
  intro S S_p r r_p hinv hX hin hsm_ hseg
  obtain ⟨I0, I1, h0_, hr_, b_, f_, d_⟩ := bx_cl (evs := [(1, (0, 480), (0, 0), .inr (0, (0, 0)))]) (fvs := []) hseg (by decide +kernel) (by decide +kernel)
  have hinv : rxI183_0 S0 ws S (r 8) (r 9) := hinv
  rw [← hr_ 8 (by decide), ← hr_ 9 (by decide)] at hinv
  obtain ⟨⟨l8, u8⟩, ⟨l9, u9⟩, -⟩ := b_
  obtain ⟨T0, w_, w0⟩ := d_
  subst w0
  subst w_
  have g := rxd183_0_1 hP hin hsm_ I0 I1 hinv l8 u8 l9 u9
  refine ⟨bx_narP_ok (l := []) g.1, ?_⟩
  show rxPS183 S0 ws (bx_up T0 480 (0) (0)) (some (bx_num r_p (.inr (1, (0, (-1))))))
  rw [bx_xv_ok h0_]
  exact g.2
theorem rxd183_0_2 {S0 : Nat → Int → Int} {ws : List Int} {S : Nat → Int → Int} {n k : Int} (hP : rxP183 S0 ws) (hin : bx_same rxL (bx_mdl rxC183.2.2.1) S0 S) (hin2 : bx_same rxL (bx_mdl rxC183.2.2.1) S (bx_up S 480 0 0)) (I0 : bx_Inv rxL S) (I1 : bx_Inv rxL (bx_up S 480 0 0)) (hinv : rxI183_0 S0 ws S n k) (l8 : 0 ≤ n) (u8 : n ≤ 6) (l9 : (-2147483648) ≤ k) (u9 : k ≤ (-1)) : (True) ∧ rxPS183 S0 ws (bx_up S 480 0 0) (some ((-1))) := by
  obtain ⟨rfl, hw⟩ := hinv
  exact ⟨trivial, n, k, hw, Or.inl ⟨by omega, rfl, fun j => bx_up_ne (by omega)⟩⟩
theorem rxf183_0_2 {X : (Nat → Int → Int) → Prop} {S0 : Nat → Int → Int} {ws : List Int} (hP : rxP183 S0 ws) : bx_obE rxL X S0 rxC183.2.2.1 (rxI183 S0 ws) (rxPS183 S0 ws) 0 rxz183_0 rxe183_0_2 := by
  intro S S_p r r_p hinv hX hin hsm_ hseg
  obtain ⟨I0, I1, h0_, hr_, b_, f_, d_⟩ := bx_cl (evs := [(1, (0, 480), (0, 0), .inr (0, (0, 0)))]) (fvs := []) hseg (by decide +kernel) (by decide +kernel)
  have hinv : rxI183_0 S0 ws S (r 8) (r 9) := hinv
  rw [← hr_ 8 (by decide), ← hr_ 9 (by decide)] at hinv
  obtain ⟨⟨l8, u8⟩, ⟨l9, u9⟩, -⟩ := b_
  obtain ⟨T0, w_, w0⟩ := d_
  subst w0
  subst w_
  have g := rxd183_0_2 hP hin hsm_ I0 I1 hinv l8 u8 l9 u9
  refine ⟨bx_narP_ok (l := []) g.1, ?_⟩
  show rxPS183 S0 ws (bx_up T0 480 (0) (0)) (some (bx_num r_p (.inr (1, (0, (-1))))))
  rw [bx_xv_ok h0_]
  exact g.2
theorem rxd183_0_3 {S0 : Nat → Int → Int} {ws : List Int} {S : Nat → Int → Int} {n k : Int} (hP : rxP183 S0 ws) (hin : bx_same rxL (bx_mdl rxC183.2.2.1) S0 S) (hin2 : bx_same rxL (bx_mdl rxC183.2.2.1) S (bx_up S 480 0 0)) (I0 : bx_Inv rxL S) (I1 : bx_Inv rxL (bx_up S 480 0 0)) (hinv : rxI183_0 S0 ws S n k) (l8 : 0 ≤ n) (u8 : n ≤ 6) (l9 : 10 ≤ k) (u9 : k ≤ 2147483647) : (True) ∧ rxPS183 S0 ws (bx_up S 480 0 0) (some ((-1))) := by
  obtain ⟨rfl, hw⟩ := hinv
  exact ⟨trivial, n, k, hw, Or.inl ⟨by omega, rfl, fun j => bx_up_ne (by omega)⟩⟩
theorem rxf183_0_3 {X : (Nat → Int → Int) → Prop} {S0 : Nat → Int → Int} {ws : List Int} (hP : rxP183 S0 ws) : bx_obE rxL X S0 rxC183.2.2.1 (rxI183 S0 ws) (rxPS183 S0 ws) 0 rxz183_0 rxe183_0_3 := by
  intro S S_p r r_p hinv hX hin hsm_ hseg
  obtain ⟨I0, I1, h0_, hr_, b_, f_, d_⟩ := bx_cl (evs := [(1, (0, 480), (0, 0), .inr (0, (0, 0)))]) (fvs := []) hseg (by decide +kernel) (by decide +kernel)
  have hinv : rxI183_0 S0 ws S (r 8) (r 9) := hinv
  rw [← hr_ 8 (by decide), ← hr_ 9 (by decide)] at hinv
  obtain ⟨⟨l8, u8⟩, ⟨l9, u9⟩, -⟩ := b_
  obtain ⟨T0, w_, w0⟩ := d_
  subst w0
  subst w_
  have g := rxd183_0_3 hP hin hsm_ I0 I1 hinv l8 u8 l9 u9
  refine ⟨bx_narP_ok (l := []) g.1, ?_⟩
  show rxPS183 S0 ws (bx_up T0 480 (0) (0)) (some (bx_num r_p (.inr (1, (0, (-1))))))
  rw [bx_xv_ok h0_]
  exact g.2
theorem rxd183_0_4 {S0 : Nat → Int → Int} {ws : List Int} {S : Nat → Int → Int} {n k : Int} (hP : rxP183 S0 ws) (hin : bx_same rxL (bx_mdl rxC183.2.2.1) S0 S) (hin2 : bx_same rxL (bx_mdl rxC183.2.2.1) S (bx_up S 480 0 0)) (I0 : bx_Inv rxL S) (I1 : bx_Inv rxL (bx_up S 480 0 0)) (hinv : rxI183_0 S0 ws S n k) (l8 : 0 ≤ n) (u8 : n ≤ 6) (l9 : 1 ≤ k) (u9 : k ≤ 9) (f0 : n < k) : (True) ∧ rxPS183 S0 ws (bx_up S 480 0 0) (some 0) := by
  obtain ⟨rfl, hw⟩ := hinv
  exact ⟨trivial, n, k, hw, Or.inr ⟨by omega, by omega, by omega, by omega, congrArg some (by unfold rzDr; rw [if_pos (by omega)]), fun j => bx_up_ne (by omega)⟩⟩
theorem rxf183_0_4 {X : (Nat → Int → Int) → Prop} {S0 : Nat → Int → Int} {ws : List Int} (hP : rxP183 S0 ws) : bx_obE rxL X S0 rxC183.2.2.1 (rxI183 S0 ws) (rxPS183 S0 ws) 0 rxz183_0 rxe183_0_4 := by
  intro S S_p r r_p hinv hX hin hsm_ hseg
  obtain ⟨I0, I1, h0_, hr_, b_, f_, d_⟩ := bx_cl (evs := [(1, (0, 480), (0, 0), .inr (0, (0, 0)))]) (fvs := [(0, (8, 0), (9, 0), (0, 0))]) hseg (by decide +kernel) (by decide +kernel)
  have hinv : rxI183_0 S0 ws S (r 8) (r 9) := hinv
  rw [← hr_ 8 (by decide), ← hr_ 9 (by decide)] at hinv
  obtain ⟨⟨l8, u8⟩, ⟨l9, u9⟩, -⟩ := b_
  obtain ⟨f0, -⟩ := f_
  obtain ⟨T0, w_, w0⟩ := d_
  subst w0
  subst w_
  have g := rxd183_0_4 hP hin hsm_ I0 I1 hinv l8 u8 l9 u9 f0
  refine ⟨bx_narP_ok (l := []) g.1, ?_⟩
  show rxPS183 S0 ws (bx_up T0 480 (0) (0)) (some (bx_num r_p (.inr (1, (0, 0)))))
  rw [bx_xv_ok h0_]
  exact g.2
theorem rxc183_1_0 {S0 : Nat → Int → Int} {ws : List Int} {S : Nat → Int → Int} {n k v i x12 x13 : Int} (hP : rxP183 S0 ws) (hin : bx_same rxL (bx_mdl rxC183.2.2.1) S0 S) (I0 : bx_Inv rxL S) (hinv : rxI183_1 S0 ws S n k v i) (l8 : 0 ≤ n) (u8 : n ≤ 6) (l9 : 1 ≤ k) (u9 : k ≤ 6) (l10 : 0 ≤ v) (u10 : v ≤ 20) (l11 : 1 ≤ i) (u11 : i ≤ 6) (l12 : (-6) ≤ x12) (u12 : x12 ≤ 5) (l13 : (-5) ≤ x13) (u13 : x13 ≤ 11) (f0 : x13 = x12 + i) (f1 : n = x12 + k) (f2 : i ≤ k) : ((1 ≤ x13 ∧ x13 ≤ 12) ∧ True) ∧ (True) ∧ rxI183_2 S0 ws S n k i v x13 ∧ rxm183_2 S0 ws S n k i v x13 < rxm183_1 S0 ws S n k v i := by
  obtain ⟨hw, hF, hkn, h, e1, e2, e3⟩ := hinv
  exact ⟨⟨⟨by omega, by omega⟩, trivial⟩, trivial, ⟨hw, hF, hkn, by omega, by omega, h, e1, e3⟩, by unfold rxm183_1 rxm183_2; omega⟩
theorem rxg183_1_0 {X : (Nat → Int → Int) → Prop} {S0 : Nat → Int → Int} {ws : List Int} (hP : rxP183 S0 ws) : bx_obC rxL X S0 rxC183.2.2.1 (rxI183 S0 ws) (rxm183 S0 ws) 1 rxz183_1 rxo183_1_0 := by
  intro S S_p r r_p hinv hX hin hsm_ hseg
  obtain ⟨I0, I1, h0_, hr_, b_, f_, d_⟩ := bx_cl (evs := []) (fvs := [(5, (13, 0), (12, 0), (11, 0)), (5, (8, 0), (12, 0), (9, 0)), (1, (11, 0), (9, 0), (0, 0))]) hseg (by decide +kernel) (by decide +kernel)
  have hinv : rxI183_1 S0 ws S (r 8) (r 9) (r 10) (r 11) := hinv
  rw [← hr_ 8 (by decide), ← hr_ 9 (by decide), ← hr_ 10 (by decide), ← hr_ 11 (by decide)] at hinv
  obtain ⟨⟨l8, u8⟩, ⟨l9, u9⟩, ⟨l10, u10⟩, ⟨l11, u11⟩, ⟨l12, u12⟩, ⟨l13, u13⟩, -⟩ := b_
  obtain ⟨f0, f1, f2, -⟩ := f_
  have w_ := d_
  subst w_
  have g := rxc183_1_0 hP hin I0 hinv l8 u8 l9 u9 l10 u10 l11 u11 l12 u12 l13 u13 f0 f1 f2
  refine ⟨bx_narP_ok (l := [(13, 1, 12)]) g.1, bx_nfP_ok h0_ (fvs := []) (by decide +kernel) g.2.1, ?_, ?_⟩
  · show rxI183_2 S0 ws S_p (bx_val [(0, 0), (0, 0), (0, 0), (0, 0), (0, 0), (0, 0), (0, 0), (0, 0), (8, 0), (9, 0), (11, 0), (10, 0), (13, 0)] r_p 8) (bx_val [(0, 0), (0, 0), (0, 0), (0, 0), (0, 0), (0, 0), (0, 0), (0, 0), (8, 0), (9, 0), (11, 0), (10, 0), (13, 0)] r_p 9) (bx_val [(0, 0), (0, 0), (0, 0), (0, 0), (0, 0), (0, 0), (0, 0), (0, 0), (8, 0), (9, 0), (11, 0), (10, 0), (13, 0)] r_p 10) (bx_val [(0, 0), (0, 0), (0, 0), (0, 0), (0, 0), (0, 0), (0, 0), (0, 0), (8, 0), (9, 0), (11, 0), (10, 0), (13, 0)] r_p 11) (bx_val [(0, 0), (0, 0), (0, 0), (0, 0), (0, 0), (0, 0), (0, 0), (0, 0), (8, 0), (9, 0), (11, 0), (10, 0), (13, 0)] r_p 12)
    rw [bx_val_x (n := 8) (e := (8, 0)) h0_ rfl, bx_val_x (n := 9) (e := (9, 0)) h0_ rfl, bx_val_x (n := 10) (e := (11, 0)) h0_ rfl, bx_val_x (n := 11) (e := (10, 0)) h0_ rfl, bx_val_x (n := 12) (e := (13, 0)) h0_ rfl]
    exact g.2.2.1
  · show rxm183_2 S0 ws S_p (bx_val [(0, 0), (0, 0), (0, 0), (0, 0), (0, 0), (0, 0), (0, 0), (0, 0), (8, 0), (9, 0), (11, 0), (10, 0), (13, 0)] r_p 8) (bx_val [(0, 0), (0, 0), (0, 0), (0, 0), (0, 0), (0, 0), (0, 0), (0, 0), (8, 0), (9, 0), (11, 0), (10, 0), (13, 0)] r_p 9) (bx_val [(0, 0), (0, 0), (0, 0), (0, 0), (0, 0), (0, 0), (0, 0), (0, 0), (8, 0), (9, 0), (11, 0), (10, 0), (13, 0)] r_p 10) (bx_val [(0, 0), (0, 0), (0, 0), (0, 0), (0, 0), (0, 0), (0, 0), (0, 0), (8, 0), (9, 0), (11, 0), (10, 0), (13, 0)] r_p 11) (bx_val [(0, 0), (0, 0), (0, 0), (0, 0), (0, 0), (0, 0), (0, 0), (0, 0), (8, 0), (9, 0), (11, 0), (10, 0), (13, 0)] r_p 12) < rxm183_1 S0 ws S_p (r 8) (r 9) (r 10) (r 11)
    rw [bx_val_x (n := 8) (e := (8, 0)) h0_ rfl, bx_val_x (n := 9) (e := (9, 0)) h0_ rfl, bx_val_x (n := 10) (e := (11, 0)) h0_ rfl, bx_val_x (n := 11) (e := (10, 0)) h0_ rfl, bx_val_x (n := 12) (e := (13, 0)) h0_ rfl, ← hr_ 8 (by decide), ← hr_ 9 (by decide), ← hr_ 10 (by decide), ← hr_ 11 (by decide)]
    exact g.2.2.2
theorem rxc183_1_1 {S0 : Nat → Int → Int} {ws : List Int} {S : Nat → Int → Int} {n k v i : Int} (hP : rxP183 S0 ws) (hin : bx_same rxL (bx_mdl rxC183.2.2.1) S0 S) (I0 : bx_Inv rxL S) (hinv : rxI183_1 S0 ws S n k v i) (l8 : 0 ≤ n) (u8 : n ≤ 6) (l9 : 0 ≤ k) (u9 : k ≤ 6) (l10 : 0 ≤ v) (u10 : v ≤ 20) (l11 : 1 ≤ i) (u11 : i ≤ 7) (f0 : k < i) : (True) ∧ (True) ∧ rxI183_6 S0 ws S n k v 0 ∧ rxm183_6 S0 ws S n k v 0 < rxm183_1 S0 ws S n k v i := by
  obtain ⟨hw, hF, hkn, h, e1, e2, e3⟩ := hinv
  have g := rx_inv I0 (p := 482) (j := 9) (by omega) rxW482 (by omega) (by omega) rfl
  have g : 0 ≤ S 482 9 ∧ S 482 9 ≤ 100 := g
  have hF9 := hF 9
  exact ⟨trivial, trivial, ⟨hw, hF, hkn, by omega, by omega, by omega, 0, by omega, by rw [show k.toNat = h by omega]; exact e3.trans (Int.mul_one _).symm⟩, by unfold rxm183_1 rxm183_6; omega⟩
theorem rxg183_1_1 {X : (Nat → Int → Int) → Prop} {S0 : Nat → Int → Int} {ws : List Int} (hP : rxP183 S0 ws) : bx_obC rxL X S0 rxC183.2.2.1 (rxI183 S0 ws) (rxm183 S0 ws) 1 rxz183_1 rxo183_1_1 := by
  intro S S_p r r_p hinv hX hin hsm_ hseg
  obtain ⟨I0, I1, h0_, hr_, b_, f_, d_⟩ := bx_cl (evs := []) (fvs := [(0, (9, 0), (11, 0), (0, 0))]) hseg (by decide +kernel) (by decide +kernel)
  have hinv : rxI183_1 S0 ws S (r 8) (r 9) (r 10) (r 11) := hinv
  rw [← hr_ 8 (by decide), ← hr_ 9 (by decide), ← hr_ 10 (by decide), ← hr_ 11 (by decide)] at hinv
  obtain ⟨⟨l8, u8⟩, ⟨l9, u9⟩, ⟨l10, u10⟩, ⟨l11, u11⟩, -⟩ := b_
  obtain ⟨f0, -⟩ := f_
  have w_ := d_
  subst w_
  have g := rxc183_1_1 hP hin I0 hinv l8 u8 l9 u9 l10 u10 l11 u11 f0
  refine ⟨bx_narP_ok (l := []) g.1, bx_nfP_ok h0_ (fvs := []) (by decide +kernel) g.2.1, ?_, ?_⟩
  · show rxI183_6 S0 ws S_p (bx_val [(0, 0), (0, 0), (0, 0), (0, 0), (0, 0), (0, 0), (0, 0), (0, 0), (8, 0), (9, 0), (10, 0), (0, 0)] r_p 8) (bx_val [(0, 0), (0, 0), (0, 0), (0, 0), (0, 0), (0, 0), (0, 0), (0, 0), (8, 0), (9, 0), (10, 0), (0, 0)] r_p 9) (bx_val [(0, 0), (0, 0), (0, 0), (0, 0), (0, 0), (0, 0), (0, 0), (0, 0), (8, 0), (9, 0), (10, 0), (0, 0)] r_p 10) (bx_val [(0, 0), (0, 0), (0, 0), (0, 0), (0, 0), (0, 0), (0, 0), (0, 0), (8, 0), (9, 0), (10, 0), (0, 0)] r_p 11)
    rw [bx_val_x (n := 8) (e := (8, 0)) h0_ rfl, bx_val_x (n := 9) (e := (9, 0)) h0_ rfl, bx_val_x (n := 10) (e := (10, 0)) h0_ rfl, bx_val_x (n := 11) (e := (0, 0)) h0_ rfl]
    exact g.2.2.1
  · show rxm183_6 S0 ws S_p (bx_val [(0, 0), (0, 0), (0, 0), (0, 0), (0, 0), (0, 0), (0, 0), (0, 0), (8, 0), (9, 0), (10, 0), (0, 0)] r_p 8) (bx_val [(0, 0), (0, 0), (0, 0), (0, 0), (0, 0), (0, 0), (0, 0), (0, 0), (8, 0), (9, 0), (10, 0), (0, 0)] r_p 9) (bx_val [(0, 0), (0, 0), (0, 0), (0, 0), (0, 0), (0, 0), (0, 0), (0, 0), (8, 0), (9, 0), (10, 0), (0, 0)] r_p 10) (bx_val [(0, 0), (0, 0), (0, 0), (0, 0), (0, 0), (0, 0), (0, 0), (0, 0), (8, 0), (9, 0), (10, 0), (0, 0)] r_p 11) < rxm183_1 S0 ws S_p (r 8) (r 9) (r 10) (r 11)
    rw [bx_val_x (n := 8) (e := (8, 0)) h0_ rfl, bx_val_x (n := 9) (e := (9, 0)) h0_ rfl, bx_val_x (n := 10) (e := (10, 0)) h0_ rfl, bx_val_x (n := 11) (e := (0, 0)) h0_ rfl, ← hr_ 8 (by decide), ← hr_ 9 (by decide), ← hr_ 10 (by decide), ← hr_ 11 (by decide)]
    exact g.2.2.2
theorem rxc183_3_0 {S0 : Nat → Int → Int} {ws : List Int} {S : Nat → Int → Int} {n k i v f y : Int} (hP : rxP183 S0 ws) (hin : bx_same rxL (bx_mdl rxC183.2.2.1) S0 S) (I0 : bx_Inv rxL S) (hinv : rxI183_3 S0 ws S n k i v f y) (l8 : 0 ≤ n) (u8 : n ≤ 6) (l9 : 0 ≤ k) (u9 : k ≤ 6) (l10 : 1 ≤ i) (u10 : i ≤ 6) (l11 : 0 ≤ v) (u11 : v ≤ 20) (l12 : 1 ≤ f) (u12 : f ≤ 12) (l13 : 0 ≤ y) (u13 : y ≤ 240) : (True) ∧ (True) ∧ rxI183_4 S0 ws S n k i y i ∧ rxm183_4 S0 ws S n k i y i < rxm183_3 S0 ws S n k i v f y := by
  exact ⟨trivial, trivial, ⟨rfl, hinv⟩, by unfold rxm183_3 rxm183_4; omega⟩
theorem rxg183_3_0 {X : (Nat → Int → Int) → Prop} {S0 : Nat → Int → Int} {ws : List Int} (hP : rxP183 S0 ws) : bx_obC rxL X S0 rxC183.2.2.1 (rxI183 S0 ws) (rxm183 S0 ws) 3 rxz183_3 rxo183_3_0 := by
  intro S S_p r r_p hinv hX hin hsm_ hseg
  obtain ⟨I0, I1, h0_, hr_, b_, f_, d_⟩ := bx_cl (evs := []) (fvs := []) hseg (by decide +kernel) (by decide +kernel)
  have hinv : rxI183_3 S0 ws S (r 8) (r 9) (r 10) (r 11) (r 12) (r 13) := hinv
  rw [← hr_ 8 (by decide), ← hr_ 9 (by decide), ← hr_ 10 (by decide), ← hr_ 11 (by decide), ← hr_ 12 (by decide), ← hr_ 13 (by decide)] at hinv
  obtain ⟨⟨l8, u8⟩, ⟨l9, u9⟩, ⟨l10, u10⟩, ⟨l11, u11⟩, ⟨l12, u12⟩, ⟨l13, u13⟩, -⟩ := b_
  have w_ := d_
  subst w_
  have g := rxc183_3_0 hP hin I0 hinv l8 u8 l9 u9 l10 u10 l11 u11 l12 u12 l13 u13
  refine ⟨bx_narP_ok (l := []) g.1, bx_nfP_ok h0_ (fvs := []) (by decide +kernel) g.2.1, ?_, ?_⟩
  · show rxI183_4 S0 ws S_p (bx_val [(0, 0), (0, 0), (0, 0), (0, 0), (0, 0), (0, 0), (0, 0), (0, 0), (8, 0), (9, 0), (10, 0), (13, 0), (10, 0)] r_p 8) (bx_val [(0, 0), (0, 0), (0, 0), (0, 0), (0, 0), (0, 0), (0, 0), (0, 0), (8, 0), (9, 0), (10, 0), (13, 0), (10, 0)] r_p 9) (bx_val [(0, 0), (0, 0), (0, 0), (0, 0), (0, 0), (0, 0), (0, 0), (0, 0), (8, 0), (9, 0), (10, 0), (13, 0), (10, 0)] r_p 10) (bx_val [(0, 0), (0, 0), (0, 0), (0, 0), (0, 0), (0, 0), (0, 0), (0, 0), (8, 0), (9, 0), (10, 0), (13, 0), (10, 0)] r_p 11) (bx_val [(0, 0), (0, 0), (0, 0), (0, 0), (0, 0), (0, 0), (0, 0), (0, 0), (8, 0), (9, 0), (10, 0), (13, 0), (10, 0)] r_p 12)
    rw [bx_val_x (n := 8) (e := (8, 0)) h0_ rfl, bx_val_x (n := 9) (e := (9, 0)) h0_ rfl, bx_val_x (n := 10) (e := (10, 0)) h0_ rfl, bx_val_x (n := 11) (e := (13, 0)) h0_ rfl, bx_val_x (n := 12) (e := (10, 0)) h0_ rfl]
    exact g.2.2.1
  · show rxm183_4 S0 ws S_p (bx_val [(0, 0), (0, 0), (0, 0), (0, 0), (0, 0), (0, 0), (0, 0), (0, 0), (8, 0), (9, 0), (10, 0), (13, 0), (10, 0)] r_p 8) (bx_val [(0, 0), (0, 0), (0, 0), (0, 0), (0, 0), (0, 0), (0, 0), (0, 0), (8, 0), (9, 0), (10, 0), (13, 0), (10, 0)] r_p 9) (bx_val [(0, 0), (0, 0), (0, 0), (0, 0), (0, 0), (0, 0), (0, 0), (0, 0), (8, 0), (9, 0), (10, 0), (13, 0), (10, 0)] r_p 10) (bx_val [(0, 0), (0, 0), (0, 0), (0, 0), (0, 0), (0, 0), (0, 0), (0, 0), (8, 0), (9, 0), (10, 0), (13, 0), (10, 0)] r_p 11) (bx_val [(0, 0), (0, 0), (0, 0), (0, 0), (0, 0), (0, 0), (0, 0), (0, 0), (8, 0), (9, 0), (10, 0), (13, 0), (10, 0)] r_p 12) < rxm183_3 S0 ws S_p (r 8) (r 9) (r 10) (r 11) (r 12) (r 13)
    rw [bx_val_x (n := 8) (e := (8, 0)) h0_ rfl, bx_val_x (n := 9) (e := (9, 0)) h0_ rfl, bx_val_x (n := 10) (e := (10, 0)) h0_ rfl, bx_val_x (n := 11) (e := (13, 0)) h0_ rfl, bx_val_x (n := 12) (e := (10, 0)) h0_ rfl, ← hr_ 8 (by decide), ← hr_ 9 (by decide), ← hr_ 10 (by decide), ← hr_ 11 (by decide), ← hr_ 12 (by decide), ← hr_ 13 (by decide)]
    exact g.2.2.2
theorem rxc183_5_0 {S0 : Nat → Int → Int} {ws : List Int} {S : Nat → Int → Int} {n k i y g z : Int} (hP : rxP183 S0 ws) (hin : bx_same rxL (bx_mdl rxC183.2.2.1) S0 S) (I0 : bx_Inv rxL S) (hinv : rxI183_5 S0 ws S n k i y g z) (l8 : 0 ≤ n) (u8 : n ≤ 6) (l9 : 0 ≤ k) (u9 : k ≤ 6) (l10 : 1 ≤ i) (u10 : i ≤ 6) (l11 : 0 ≤ y) (u11 : y ≤ 240) (l12 : 1 ≤ g) (u12 : g ≤ 6) (l13 : 0 ≤ z) (u13 : z ≤ 20) : (True) ∧ (True) ∧ rxI183_1 S0 ws S n k z (i + 1) ∧ rxm183_1 S0 ws S n k z (i + 1) < rxm183_5 S0 ws S n k i y g z := by
  obtain ⟨hw, hF, hkn, hi, h, e1, e2⟩ := hinv
  exact ⟨trivial, trivial, ⟨hw, hF, hkn, h + 1, by omega, by omega, e2⟩, by unfold rxm183_5 rxm183_1; omega⟩
theorem rxg183_5_0 {X : (Nat → Int → Int) → Prop} {S0 : Nat → Int → Int} {ws : List Int} (hP : rxP183 S0 ws) : bx_obC rxL X S0 rxC183.2.2.1 (rxI183 S0 ws) (rxm183 S0 ws) 5 rxz183_5 rxo183_5_0 := by
  intro S S_p r r_p hinv hX hin hsm_ hseg
  obtain ⟨I0, I1, h0_, hr_, b_, f_, d_⟩ := bx_cl (evs := []) (fvs := []) hseg (by decide +kernel) (by decide +kernel)
  have hinv : rxI183_5 S0 ws S (r 8) (r 9) (r 10) (r 11) (r 12) (r 13) := hinv
  rw [← hr_ 8 (by decide), ← hr_ 9 (by decide), ← hr_ 10 (by decide), ← hr_ 11 (by decide), ← hr_ 12 (by decide), ← hr_ 13 (by decide)] at hinv
  obtain ⟨⟨l8, u8⟩, ⟨l9, u9⟩, ⟨l10, u10⟩, ⟨l11, u11⟩, ⟨l12, u12⟩, ⟨l13, u13⟩, -⟩ := b_
  have w_ := d_
  subst w_
  have g := rxc183_5_0 hP hin I0 hinv l8 u8 l9 u9 l10 u10 l11 u11 l12 u12 l13 u13
  refine ⟨bx_narP_ok (l := []) g.1, bx_nfP_ok h0_ (fvs := []) (by decide +kernel) g.2.1, ?_, ?_⟩
  · show rxI183_1 S0 ws S_p (bx_val [(0, 0), (0, 0), (0, 0), (0, 0), (0, 0), (0, 0), (0, 0), (0, 0), (8, 0), (9, 0), (13, 0), (10, 1)] r_p 8) (bx_val [(0, 0), (0, 0), (0, 0), (0, 0), (0, 0), (0, 0), (0, 0), (0, 0), (8, 0), (9, 0), (13, 0), (10, 1)] r_p 9) (bx_val [(0, 0), (0, 0), (0, 0), (0, 0), (0, 0), (0, 0), (0, 0), (0, 0), (8, 0), (9, 0), (13, 0), (10, 1)] r_p 10) (bx_val [(0, 0), (0, 0), (0, 0), (0, 0), (0, 0), (0, 0), (0, 0), (0, 0), (8, 0), (9, 0), (13, 0), (10, 1)] r_p 11)
    rw [bx_val_x (n := 8) (e := (8, 0)) h0_ rfl, bx_val_x (n := 9) (e := (9, 0)) h0_ rfl, bx_val_x (n := 10) (e := (13, 0)) h0_ rfl, bx_val_x (n := 11) (e := (10, 1)) h0_ rfl]
    exact g.2.2.1
  · show rxm183_1 S0 ws S_p (bx_val [(0, 0), (0, 0), (0, 0), (0, 0), (0, 0), (0, 0), (0, 0), (0, 0), (8, 0), (9, 0), (13, 0), (10, 1)] r_p 8) (bx_val [(0, 0), (0, 0), (0, 0), (0, 0), (0, 0), (0, 0), (0, 0), (0, 0), (8, 0), (9, 0), (13, 0), (10, 1)] r_p 9) (bx_val [(0, 0), (0, 0), (0, 0), (0, 0), (0, 0), (0, 0), (0, 0), (0, 0), (8, 0), (9, 0), (13, 0), (10, 1)] r_p 10) (bx_val [(0, 0), (0, 0), (0, 0), (0, 0), (0, 0), (0, 0), (0, 0), (0, 0), (8, 0), (9, 0), (13, 0), (10, 1)] r_p 11) < rxm183_5 S0 ws S_p (r 8) (r 9) (r 10) (r 11) (r 12) (r 13)
    rw [bx_val_x (n := 8) (e := (8, 0)) h0_ rfl, bx_val_x (n := 9) (e := (9, 0)) h0_ rfl, bx_val_x (n := 10) (e := (13, 0)) h0_ rfl, bx_val_x (n := 11) (e := (10, 1)) h0_ rfl, ← hr_ 8 (by decide), ← hr_ 9 (by decide), ← hr_ 10 (by decide), ← hr_ 11 (by decide), ← hr_ 12 (by decide), ← hr_ 13 (by decide)]
    exact g.2.2.2
theorem rxc183_6_0 {S0 : Nat → Int → Int} {ws : List Int} {S : Nat → Int → Int} {n k v i x12 : Int} (hP : rxP183 S0 ws) (hin : bx_same rxL (bx_mdl rxC183.2.2.1) S0 S) (I0 : bx_Inv rxL S) (hinv : rxI183_6 S0 ws S n k v i) (l8 : 1 ≤ n) (u8 : n ≤ 6) (l9 : 1 ≤ k) (u9 : k ≤ 6) (l10 : (-14580000000000000) ≤ v) (u10 : v ≤ 14580000000000000) (l11 : 0 ≤ i) (u11 : i ≤ 5) (l12 : 0 ≤ x12) (u12 : x12 ≤ 100) (f0 : i < k) (f1 : i < n) (e0 : S 482 9 = x12) : (True) ∧ (True) ∧ rxI183_7 S0 ws S n k i v x12 ∧ rxm183_7 S0 ws S n k i v x12 < rxm183_6 S0 ws S n k v i := by
  obtain ⟨hw, hF, hkn, hi, s0, s1, h, e1, e2⟩ := hinv
  have hF9 := hF 9
  exact ⟨trivial, trivial, ⟨hw, hF, hkn, by omega, s0, s1, by rw [if_pos (by omega)]; omega, h, e1, e2⟩, by unfold rxm183_6 rxm183_7; omega⟩
theorem rxg183_6_0 {X : (Nat → Int → Int) → Prop} {S0 : Nat → Int → Int} {ws : List Int} (hP : rxP183 S0 ws) : bx_obC rxL X S0 rxC183.2.2.1 (rxI183 S0 ws) (rxm183 S0 ws) 6 rxz183_6 rxo183_6_0 := by
  intro S S_p r r_p hinv hX hin hsm_ hseg
  obtain ⟨I0, I1, h0_, hr_, b_, f_, d_⟩ := bx_cl (evs := [(0, (0, 482), (0, 9), .inr (0, (12, 0)))]) (fvs := [(0, (11, 0), (9, 0), (0, 0)), (0, (11, 0), (8, 0), (0, 0))]) hseg (by decide +kernel) (by decide +kernel)
  have hinv : rxI183_6 S0 ws S (r 8) (r 9) (r 10) (r 11) := hinv
  rw [← hr_ 8 (by decide), ← hr_ 9 (by decide), ← hr_ 10 (by decide), ← hr_ 11 (by decide)] at hinv
  obtain ⟨⟨l8, u8⟩, ⟨l9, u9⟩, ⟨l10, u10⟩, ⟨l11, u11⟩, ⟨l12, u12⟩, -⟩ := b_
  obtain ⟨f0, f1, -⟩ := f_
  obtain ⟨e0, w_⟩ := d_
  subst w_
  have g := rxc183_6_0 hP hin I0 hinv l8 u8 l9 u9 l10 u10 l11 u11 l12 u12 f0 f1 e0
  refine ⟨bx_narP_ok (l := []) g.1, bx_nfP_ok h0_ (fvs := []) (by decide +kernel) g.2.1, ?_, ?_⟩
  · show rxI183_7 S0 ws S_p (bx_val [(0, 0), (0, 0), (0, 0), (0, 0), (0, 0), (0, 0), (0, 0), (0, 0), (8, 0), (9, 0), (11, 0), (10, 0), (12, 0)] r_p 8) (bx_val [(0, 0), (0, 0), (0, 0), (0, 0), (0, 0), (0, 0), (0, 0), (0, 0), (8, 0), (9, 0), (11, 0), (10, 0), (12, 0)] r_p 9) (bx_val [(0, 0), (0, 0), (0, 0), (0, 0), (0, 0), (0, 0), (0, 0), (0, 0), (8, 0), (9, 0), (11, 0), (10, 0), (12, 0)] r_p 10) (bx_val [(0, 0), (0, 0), (0, 0), (0, 0), (0, 0), (0, 0), (0, 0), (0, 0), (8, 0), (9, 0), (11, 0), (10, 0), (12, 0)] r_p 11) (bx_val [(0, 0), (0, 0), (0, 0), (0, 0), (0, 0), (0, 0), (0, 0), (0, 0), (8, 0), (9, 0), (11, 0), (10, 0), (12, 0)] r_p 12)
    rw [bx_val_x (n := 8) (e := (8, 0)) h0_ rfl, bx_val_x (n := 9) (e := (9, 0)) h0_ rfl, bx_val_x (n := 10) (e := (11, 0)) h0_ rfl, bx_val_x (n := 11) (e := (10, 0)) h0_ rfl, bx_val_x (n := 12) (e := (12, 0)) h0_ rfl]
    exact g.2.2.1
  · show rxm183_7 S0 ws S_p (bx_val [(0, 0), (0, 0), (0, 0), (0, 0), (0, 0), (0, 0), (0, 0), (0, 0), (8, 0), (9, 0), (11, 0), (10, 0), (12, 0)] r_p 8) (bx_val [(0, 0), (0, 0), (0, 0), (0, 0), (0, 0), (0, 0), (0, 0), (0, 0), (8, 0), (9, 0), (11, 0), (10, 0), (12, 0)] r_p 9) (bx_val [(0, 0), (0, 0), (0, 0), (0, 0), (0, 0), (0, 0), (0, 0), (0, 0), (8, 0), (9, 0), (11, 0), (10, 0), (12, 0)] r_p 10) (bx_val [(0, 0), (0, 0), (0, 0), (0, 0), (0, 0), (0, 0), (0, 0), (0, 0), (8, 0), (9, 0), (11, 0), (10, 0), (12, 0)] r_p 11) (bx_val [(0, 0), (0, 0), (0, 0), (0, 0), (0, 0), (0, 0), (0, 0), (0, 0), (8, 0), (9, 0), (11, 0), (10, 0), (12, 0)] r_p 12) < rxm183_6 S0 ws S_p (r 8) (r 9) (r 10) (r 11)
    rw [bx_val_x (n := 8) (e := (8, 0)) h0_ rfl, bx_val_x (n := 9) (e := (9, 0)) h0_ rfl, bx_val_x (n := 10) (e := (11, 0)) h0_ rfl, bx_val_x (n := 11) (e := (10, 0)) h0_ rfl, bx_val_x (n := 12) (e := (12, 0)) h0_ rfl, ← hr_ 8 (by decide), ← hr_ 9 (by decide), ← hr_ 10 (by decide), ← hr_ 11 (by decide)]
    exact g.2.2.2
theorem rxc183_6_1 {S0 : Nat → Int → Int} {ws : List Int} {S : Nat → Int → Int} {n k v i x12 x13 : Int} (hP : rxP183 S0 ws) (hin : bx_same rxL (bx_mdl rxC183.2.2.1) S0 S) (I0 : bx_Inv rxL S) (hinv : rxI183_6 S0 ws S n k v i) (l8 : 1 ≤ n) (u8 : n ≤ 6) (l9 : 0 ≤ k) (u9 : k ≤ 5) (l10 : (-14580000000000000) ≤ v) (u10 : v ≤ 14580000000000000) (l11 : 0 ≤ i) (u11 : i ≤ 5) (l12 : 0 ≤ x12) (u12 : x12 ≤ 100) (l13 : 0 ≤ x13) (u13 : x13 ≤ 100) (f0 : 100 = x13 + x12) (f1 : k ≤ i) (f2 : i < n) (e0 : S 482 9 = x12) : (True) ∧ (True) ∧ rxI183_7 S0 ws S n k i v x13 ∧ rxm183_7 S0 ws S n k i v x13 < rxm183_6 S0 ws S n k v i := by
  obtain ⟨hw, hF, hkn, hi, s0, s1, h, e1, e2⟩ := hinv
  have hF9 := hF 9
  exact ⟨trivial, trivial, ⟨hw, hF, hkn, by omega, s0, s1, by rw [if_neg (by omega)]; omega, h, e1, e2⟩, by unfold rxm183_6 rxm183_7; omega⟩
theorem rxg183_6_1 {X : (Nat → Int → Int) → Prop} {S0 : Nat → Int → Int} {ws : List Int} (hP : rxP183 S0 ws) : bx_obC rxL X S0 rxC183.2.2.1 (rxI183 S0 ws) (rxm183 S0 ws) 6 rxz183_6 rxo183_6_1 := by
  intro S S_p r r_p hinv hX hin hsm_ hseg
  obtain ⟨I0, I1, h0_, hr_, b_, f_, d_⟩ := bx_cl (evs := [(0, (0, 482), (0, 9), .inr (0, (12, 0)))]) (fvs := [(5, (0, 100), (13, 0), (12, 0)), (1, (9, 0), (11, 0), (0, 0)), (0, (11, 0), (8, 0), (0, 0))]) hseg (by decide +kernel) (by decide +kernel)
  have hinv : rxI183_6 S0 ws S (r 8) (r 9) (r 10) (r 11) := hinv
  rw [← hr_ 8 (by decide), ← hr_ 9 (by decide), ← hr_ 10 (by decide), ← hr_ 11 (by decide)] at hinv
  obtain ⟨⟨l8, u8⟩, ⟨l9, u9⟩, ⟨l10, u10⟩, ⟨l11, u11⟩, ⟨l12, u12⟩, ⟨l13, u13⟩, -⟩ := b_
  obtain ⟨f0, f1, f2, -⟩ := f_
  obtain ⟨e0, w_⟩ := d_
  subst w_
  have g := rxc183_6_1 hP hin I0 hinv l8 u8 l9 u9 l10 u10 l11 u11 l12 u12 l13 u13 f0 f1 f2 e0
  refine ⟨bx_narP_ok (l := []) g.1, bx_nfP_ok h0_ (fvs := []) (by decide +kernel) g.2.1, ?_, ?_⟩
  · show rxI183_7 S0 ws S_p (bx_val [(0, 0), (0, 0), (0, 0), (0, 0), (0, 0), (0, 0), (0, 0), (0, 0), (8, 0), (9, 0), (11, 0), (10, 0), (13, 0)] r_p 8) (bx_val [(0, 0), (0, 0), (0, 0), (0, 0), (0, 0), (0, 0), (0, 0), (0, 0), (8, 0), (9, 0), (11, 0), (10, 0), (13, 0)] r_p 9) (bx_val [(0, 0), (0, 0), (0, 0), (0, 0), (0, 0), (0, 0), (0, 0), (0, 0), (8, 0), (9, 0), (11, 0), (10, 0), (13, 0)] r_p 10) (bx_val [(0, 0), (0, 0), (0, 0), (0, 0), (0, 0), (0, 0), (0, 0), (0, 0), (8, 0), (9, 0), (11, 0), (10, 0), (13, 0)] r_p 11) (bx_val [(0, 0), (0, 0), (0, 0), (0, 0), (0, 0), (0, 0), (0, 0), (0, 0), (8, 0), (9, 0), (11, 0), (10, 0), (13, 0)] r_p 12)
    rw [bx_val_x (n := 8) (e := (8, 0)) h0_ rfl, bx_val_x (n := 9) (e := (9, 0)) h0_ rfl, bx_val_x (n := 10) (e := (11, 0)) h0_ rfl, bx_val_x (n := 11) (e := (10, 0)) h0_ rfl, bx_val_x (n := 12) (e := (13, 0)) h0_ rfl]
    exact g.2.2.1
  · show rxm183_7 S0 ws S_p (bx_val [(0, 0), (0, 0), (0, 0), (0, 0), (0, 0), (0, 0), (0, 0), (0, 0), (8, 0), (9, 0), (11, 0), (10, 0), (13, 0)] r_p 8) (bx_val [(0, 0), (0, 0), (0, 0), (0, 0), (0, 0), (0, 0), (0, 0), (0, 0), (8, 0), (9, 0), (11, 0), (10, 0), (13, 0)] r_p 9) (bx_val [(0, 0), (0, 0), (0, 0), (0, 0), (0, 0), (0, 0), (0, 0), (0, 0), (8, 0), (9, 0), (11, 0), (10, 0), (13, 0)] r_p 10) (bx_val [(0, 0), (0, 0), (0, 0), (0, 0), (0, 0), (0, 0), (0, 0), (0, 0), (8, 0), (9, 0), (11, 0), (10, 0), (13, 0)] r_p 11) (bx_val [(0, 0), (0, 0), (0, 0), (0, 0), (0, 0), (0, 0), (0, 0), (0, 0), (8, 0), (9, 0), (11, 0), (10, 0), (13, 0)] r_p 12) < rxm183_6 S0 ws S_p (r 8) (r 9) (r 10) (r 11)
    rw [bx_val_x (n := 8) (e := (8, 0)) h0_ rfl, bx_val_x (n := 9) (e := (9, 0)) h0_ rfl, bx_val_x (n := 10) (e := (11, 0)) h0_ rfl, bx_val_x (n := 11) (e := (10, 0)) h0_ rfl, bx_val_x (n := 12) (e := (13, 0)) h0_ rfl, ← hr_ 8 (by decide), ← hr_ 9 (by decide), ← hr_ 10 (by decide), ← hr_ 11 (by decide)]
    exact g.2.2.2
theorem rxd183_6_0 {S0 : Nat → Int → Int} {ws : List Int} {S : Nat → Int → Int} {n k v i : Int} (hP : rxP183 S0 ws) (hin : bx_same rxL (bx_mdl rxC183.2.2.1) S0 S) (hin2 : bx_same rxL (bx_mdl rxC183.2.2.1) S S) (I0 : bx_Inv rxL S) (I1 : bx_Inv rxL S) (hinv : rxI183_6 S0 ws S n k v i) (l8 : 0 ≤ n) (u8 : n ≤ 6) (l9 : 0 ≤ k) (u9 : k ≤ 6) (l10 : (-14580000000000000) ≤ v) (u10 : v ≤ 14580000000000000) (l11 : 0 ≤ i) (u11 : i ≤ 6) (f0 : n ≤ i) : (True) ∧ rxPS183 S0 ws S (some v) := by
  obtain ⟨hw, hF, hkn, hi, s0, s1, h, e1, e2⟩ := hinv
  exact ⟨trivial, n, k, hw, Or.inr ⟨by omega, by omega, by omega, by omega, congrArg some (by unfold rzDr; rw [if_neg (by omega), show n.toNat = h by omega, Int.mul_comm]; exact e2), hF⟩⟩
theorem rxf183_6_0 {X : (Nat → Int → Int) → Prop} {S0 : Nat → Int → Int} {ws : List Int} (hP : rxP183 S0 ws) : bx_obE rxL X S0 rxC183.2.2.1 (rxI183 S0 ws) (rxPS183 S0 ws) 6 rxz183_6 rxe183_6_0 := by
  intro S S_p r r_p hinv hX hin hsm_ hseg
  obtain ⟨I0, I1, h0_, hr_, b_, f_, d_⟩ := bx_cl (evs := []) (fvs := [(1, (8, 0), (11, 0), (0, 0))]) hseg (by decide +kernel) (by decide +kernel)
  have hinv : rxI183_6 S0 ws S (r 8) (r 9) (r 10) (r 11) := hinv
  rw [← hr_ 8 (by decide), ← hr_ 9 (by decide), ← hr_ 10 (by decide), ← hr_ 11 (by decide)] at hinv
  obtain ⟨⟨l8, u8⟩, ⟨l9, u9⟩, ⟨l10, u10⟩, ⟨l11, u11⟩, -⟩ := b_
  obtain ⟨f0, -⟩ := f_
  have w_ := d_
  subst w_
  have g := rxd183_6_0 hP hin hsm_ I0 I1 hinv l8 u8 l9 u9 l10 u10 l11 u11 f0
  refine ⟨bx_narP_ok (l := []) g.1, ?_⟩
  show rxPS183 S0 ws S_p (some (bx_num r_p (.inr (1, (10, 0)))))
  rw [bx_xv_ok h0_]
  exact g.2
theorem rxc183_8_0 {S0 : Nat → Int → Int} {ws : List Int} {S : Nat → Int → Int} {n k i v f y : Int} (hP : rxP183 S0 ws) (hin : bx_same rxL (bx_mdl rxC183.2.2.1) S0 S) (I0 : bx_Inv rxL S) (hinv : rxI183_8 S0 ws S n k i v f y) (l8 : 0 ≤ n) (u8 : n ≤ 6) (l9 : 0 ≤ k) (u9 : k ≤ 6) (l10 : 0 ≤ i) (u10 : i ≤ 5) (l11 : (-14580000000000000) ≤ v) (u11 : v ≤ 14580000000000000) (l12 : (-200) ≤ f) (u12 : f ≤ 300) (l13 : (-14580000000000000) ≤ y) (u13 : y ≤ 14580000000000000) : (True) ∧ (True) ∧ rxI183_6 S0 ws S n k y (i + 1) ∧ rxm183_6 S0 ws S n k y (i + 1) < rxm183_8 S0 ws S n k i v f y := by
  obtain ⟨hw, hF, hkn, hi, s0, s1, h, e1, e2⟩ := hinv
  exact ⟨trivial, trivial, ⟨hw, hF, hkn, by omega, s0, s1, h + 1, by omega, e2⟩, by unfold rxm183_8 rxm183_6; omega⟩
theorem rxg183_8_0 {X : (Nat → Int → Int) → Prop} {S0 : Nat → Int → Int} {ws : List Int} (hP : rxP183 S0 ws) : bx_obC rxL X S0 rxC183.2.2.1 (rxI183 S0 ws) (rxm183 S0 ws) 8 rxz183_8 rxo183_8_0 := by
  intro S S_p r r_p hinv hX hin hsm_ hseg
  obtain ⟨I0, I1, h0_, hr_, b_, f_, d_⟩ := bx_cl (evs := []) (fvs := []) hseg (by decide +kernel) (by decide +kernel)
  have hinv : rxI183_8 S0 ws S (r 8) (r 9) (r 10) (r 11) (r 12) (r 13) := hinv
  rw [← hr_ 8 (by decide), ← hr_ 9 (by decide), ← hr_ 10 (by decide), ← hr_ 11 (by decide), ← hr_ 12 (by decide), ← hr_ 13 (by decide)] at hinv
  obtain ⟨⟨l8, u8⟩, ⟨l9, u9⟩, ⟨l10, u10⟩, ⟨l11, u11⟩, ⟨l12, u12⟩, ⟨l13, u13⟩, -⟩ := b_
  have w_ := d_
  subst w_
  have g := rxc183_8_0 hP hin I0 hinv l8 u8 l9 u9 l10 u10 l11 u11 l12 u12 l13 u13
  refine ⟨bx_narP_ok (l := []) g.1, bx_nfP_ok h0_ (fvs := []) (by decide +kernel) g.2.1, ?_, ?_⟩
  · show rxI183_6 S0 ws S_p (bx_val [(0, 0), (0, 0), (0, 0), (0, 0), (0, 0), (0, 0), (0, 0), (0, 0), (8, 0), (9, 0), (13, 0), (10, 1)] r_p 8) (bx_val [(0, 0), (0, 0), (0, 0), (0, 0), (0, 0), (0, 0), (0, 0), (0, 0), (8, 0), (9, 0), (13, 0), (10, 1)] r_p 9) (bx_val [(0, 0), (0, 0), (0, 0), (0, 0), (0, 0), (0, 0), (0, 0), (0, 0), (8, 0), (9, 0), (13, 0), (10, 1)] r_p 10) (bx_val [(0, 0), (0, 0), (0, 0), (0, 0), (0, 0), (0, 0), (0, 0), (0, 0), (8, 0), (9, 0), (13, 0), (10, 1)] r_p 11)
    rw [bx_val_x (n := 8) (e := (8, 0)) h0_ rfl, bx_val_x (n := 9) (e := (9, 0)) h0_ rfl, bx_val_x (n := 10) (e := (13, 0)) h0_ rfl, bx_val_x (n := 11) (e := (10, 1)) h0_ rfl]
    exact g.2.2.1
  · show rxm183_6 S0 ws S_p (bx_val [(0, 0), (0, 0), (0, 0), (0, 0), (0, 0), (0, 0), (0, 0), (0, 0), (8, 0), (9, 0), (13, 0), (10, 1)] r_p 8) (bx_val [(0, 0), (0, 0), (0, 0), (0, 0), (0, 0), (0, 0), (0, 0), (0, 0), (8, 0), (9, 0), (13, 0), (10, 1)] r_p 9) (bx_val [(0, 0), (0, 0), (0, 0), (0, 0), (0, 0), (0, 0), (0, 0), (0, 0), (8, 0), (9, 0), (13, 0), (10, 1)] r_p 10) (bx_val [(0, 0), (0, 0), (0, 0), (0, 0), (0, 0), (0, 0), (0, 0), (0, 0), (8, 0), (9, 0), (13, 0), (10, 1)] r_p 11) < rxm183_8 S0 ws S_p (r 8) (r 9) (r 10) (r 11) (r 12) (r 13)
    rw [bx_val_x (n := 8) (e := (8, 0)) h0_ rfl, bx_val_x (n := 9) (e := (9, 0)) h0_ rfl, bx_val_x (n := 10) (e := (13, 0)) h0_ rfl, bx_val_x (n := 11) (e := (10, 1)) h0_ rfl, ← hr_ 8 (by decide), ← hr_ 9 (by decide), ← hr_ 10 (by decide), ← hr_ 11 (by decide), ← hr_ 12 (by decide), ← hr_ 13 (by decide)]
    exact g.2.2.2
theorem rxgC183 {X : (Nat → Int → Int) → Prop} {S0 : Nat → Int → Int} {ws : List Int} (hP : rxP183 S0 ws) : bx_allI (fun i q => rxU183 q = true ∨ bx_allP (fun o => bx_obC rxL X S0 rxC183.2.2.1 (rxI183 S0 ws) (rxm183 S0 ws) i q.1 o) q.2.1) 0 rxY183 := ⟨Or.inr ⟨rxg183_0_0 hP, trivial⟩, Or.inr ⟨rxg183_1_0 hP, rxg183_1_1 hP, trivial⟩, Or.inl rfl, Or.inr ⟨rxg183_3_0 hP, trivial⟩, Or.inl rfl, Or.inr ⟨rxg183_5_0 hP, trivial⟩, Or.inr ⟨rxg183_6_0 hP, rxg183_6_1 hP, trivial⟩, Or.inl rfl, Or.inr ⟨rxg183_8_0 hP, trivial⟩, trivial⟩
theorem rxgE183 {X : (Nat → Int → Int) → Prop} {S0 : Nat → Int → Int} {ws : List Int} (hP : rxP183 S0 ws) : bx_allI (fun i q => rxU183 q = true ∨ bx_allP (fun E => bx_obE rxL X S0 rxC183.2.2.1 (rxI183 S0 ws) (rxPS183 S0 ws) i q.1 E) q.2.2) 0 rxY183 := ⟨Or.inr ⟨rxf183_0_0 hP, rxf183_0_1 hP, rxf183_0_2 hP, rxf183_0_3 hP, rxf183_0_4 hP, trivial⟩, Or.inr trivial, Or.inl rfl, Or.inr trivial, Or.inl rfl, Or.inr trivial, Or.inr ⟨rxf183_6_0 hP, trivial⟩, Or.inl rfl, Or.inr trivial, trivial⟩
theorem rxu183 {PX : State → Prop} {Dg : va_G} {A : Nat → Prop} {ad xa : Nat → Nat} {l : Launch} {X : (Nat → Int → Int) → Prop} (hPX : rx_PXOK rxNW A PX) (hX : ∀ S S1 : Nat → Int → Int, X S → bx_same rxL (bx_mdl rxC183.2.2.1) S S1 → X S1) {S0 : Nat → Int → Int} {ws : List Int} (hP : rxP183 S0 ws) : ∀ (i : Nat) (q : bx_HE), rxY183[i]? = some q → rxU183 q = true → ∀ {p : Program} {e : Env} {R : Room} {s : State} {m : MethodId} {args : Array Value} {below : List Frame} {meth : Method} {c : Code} {Q : State → Prop} {H0 : Heap}, rx_Fr rxG rxNW rxAO PX p s m args meth c rxM183 → (∀ q, H0.size ≤ q → A q) → H0 = s.heap → rxM183.2.2.2.2.2.2.1 ≤ R.cells → rxM183.2.2.2.2.2.2.2 ≤ R.slots → rxC183.2.2.2.1 ≤ R.frames → rxC183.2.2.2.1 * 40 ≤ R.locals → bx_Step p l e R s m args below meth c Q Dg rxL X vwCl A xa H0 ad rxM183 rxY183 (rxI183 S0 ws) (rxm183 S0 ws) S0 rxC183.2.2.1 i q := by
  intro i q hq hus p e R s m args below meth c Q H0 hF hA hH0 hmc hms hd hdl
  match i, hq with
  | 0, hq =>
    cases hq
    exact absurd (show false = true from hus) Bool.false_ne_true
  | 1, hq =>
    cases hq
    exact absurd (show false = true from hus) Bool.false_ne_true
  | 2, hq =>
    cases hq
    exact rx_stepBL (i_p := 3) (o := 20) (a := (11, 0)) (b := (12, 0)) (lo := 0) (hi := 240) (t := []) hF (Or.inl ⟨rfl, rfl⟩) (by decide +kernel) rfl rfl rfl rfl (rxs183_2 hP)
  | 3, hq =>
    cases hq
    exact absurd (show false = true from hus) Bool.false_ne_true
  | 4, hq =>
    cases hq
    exact rx_stepBL (i_p := 5) (o := 21) (a := (11, 0)) (b := (12, 0)) (lo := 0) (hi := 20) (t := []) hF (Or.inr ⟨rfl, rfl⟩) (by decide +kernel) rfl rfl rfl rfl (rxs183_4 hP)
  | 5, hq =>
    cases hq
    exact absurd (show false = true from hus) Bool.false_ne_true
  | 6, hq =>
    cases hq
    exact absurd (show false = true from hus) Bool.false_ne_true
  | 7, hq =>
    cases hq
    exact rx_stepBL (i_p := 8) (o := 20) (a := (11, 0)) (b := (12, 0)) (lo := (-14580000000000000)) (hi := 14580000000000000) (t := []) hF (Or.inl ⟨rfl, rfl⟩) (by decide +kernel) rfl rfl rfl rfl (rxs183_7 hP)
  | 8, hq =>
    cases hq
    exact absurd (show false = true from hus) Bool.false_ne_true
  | n + 9, hq => cases hq
theorem rxQ183 {PX : State → Prop} {Dg : va_G} {A : Nat → Prop} {ad xa : Nat → Nat} {l : Launch} {X : (Nat → Int → Int) → Prop} (hPX : rx_PXOK rxNW A PX) (hsl : ∀ s : State, PX s → ∀ o idx n : Nat, rxSl o idx = some n → ∃ tx : String, vk_R (rxNm o) idx tx (ad n) s)
    (hX : ∀ S S_p : Nat → Int → Int, X S → bx_same rxL (bx_mdl rxC183.2.2.1) S S_p → X S_p)
    (ih : ∀ (j2 : Nat) (ct2 : bx_Ct) (M2 : rx_Mt), ct2 ∈ rxCnE j2 → ct2.2.2.2.1 + 1 ≤ rxC183.2.2.2.1 → rxT.2.2.2.2.2 j2 = some M2 → bx_Con rxG rxNW rxAO PX Dg rxL X vwCl A ad l M2 ct2) : bx_ConP rxG rxNW rxAO PX Dg rxL X vwCl A ad l rxM183 rxC183 rxP183 rxPS183 :=
  rxQof (xa := xa) (Cn := rxCnE) (f := 30000) (j := 183) (tab := rxY183) (us := rxU183) hPX hsl hX ih rfl rxYc183 rxI183 rxm183
    (fun S0 ws r I0 I ht0 ht as he he1 hX0 hI0 hP hs ha => by
      have e := he.symm.trans (show bx_ent0 rxNP rxC183.1 bx_I0 [] = some ([(0, 0), (0, 0), (0, 0), (0, 0), (0, 0), (0, 0), (0, 0), (0, 0), ((-2147483648), 2147483647), ((-2147483648), 2147483647)], [], [.inr (3, (0, 480)), .inr (0, (8, 0)), .inr (0, (9, 0))]) from rfl)
      cases e
      subst ha
      have h0 : r 0 = 0 := hs.1
      show rxI183_0 S0 _ S0 (r 8) (r 9)
      refine ⟨rfl, ?_⟩
      simp only [List.map_cons, List.map_nil, bx_xv_ok h0]
      rfl)
    (fun S0 ws hP => rxu183 (xa := xa) hPX hX hP) (fun S0 ws hP => rxgC183 hP) (fun S0 ws hP => rxgE183 hP)
set_option maxHeartbeats 1000000 in
theorem rzQ183 {PX : State → Prop} {Dg : va_G} {A : Nat → Prop} {ad : Nat → Nat} {l : Launch} (hPX : rx_PXOK rxNW A PX) (hsl : ∀ s : State, PX s → ∀ o idx n : Nat, rxSl o idx = some n → ∃ tx : String, vk_R (rxNm o) idx tx (ad n) s) : bx_ConP rxG rxNW rxAO PX Dg rxL rxX vwCl A ad l rxM183 rxC183 (fun _ _ => True) rxPS183 := by
  have q183 := rxQ183 (PX := PX) (Dg := Dg) (A := A) (ad := ad) (xa := fun n => n) (l := l) (X := rxX) hPX hsl (fun _ _ h hm => rxX_of (by decide +kernel) h hm) (fun _ _ _ h => absurd h List.not_mem_nil)
  exact fun S0 ws h1 h2 h3 _ => q183 S0 ws h1 h2 h3 trivial
