def rxCmLGN : List (Nat × Nat) := [(4, 9), (4, 10), (1047, 0), (1048, 0), (1049, 0)]
def rxCLGN (v : Nat) : bx_Ct := ([(3, (1, 451, 0)), (0, (0, 0, 11)), (0, (0, 0, 17)), (0, (0, 1, 3))], none, rxCmLGN, 2 * v + 2, [])
def rxCmLEX : List (Nat × Nat) := [(4, 9), (4, 10), (1047, 0), (1048, 0), (1049, 0)]
def rxCLEX (v : Nat) : bx_Ct := ([(3, (1, 451, 0)), (0, (0, 0, 12)), (0, (0, 0, 2)), (0, (0, 1, 3))], none, rxCmLEX, 2 * v + 3, [])
def rxPLEX (v : Nat) (S0 : Nat → Int → Int) (ws : List Int) : Prop := ∃ k s t : Int, ws = [451, k, s, t] ∧ k ≤ S0 451 0 ∧ ldPb S0 ∧ S0 451 9 + ((ldTS S0 k s t).length : Int) ≤ 600000 ∧ 12 ≤ k + (v : Int)
def rxPSLEX (S0 : Nat → Int → Int) (ws : List Int) (S : Nat → Int → Int) (w : Option Int) : Prop := w = none ∧ ∃ k s t : Int, ws = [451, k, s, t] ∧ ldEnd S0 S k (ldTS S0 k s t)
def rxPLGN (v : Nat) (S0 : Nat → Int → Int) (ws : List Int) : Prop := ∃ k r t : Int, ws = [451, k, r, t] ∧ k < S0 451 0 ∧ ldPb S0 ∧ S0 451 9 + ((ldGS S0 k r t).length : Int) ≤ 600000 ∧ 12 ≤ k + (v : Int) ∧ 1 ≤ v
def rxPSLGN (S0 : Nat → Int → Int) (ws : List Int) (S : Nat → Int → Int) (w : Option Int) : Prop := w = none ∧ ∃ k r t : Int, ws = [451, k, r, t] ∧ ldEnd S0 S (k + 1) (ldGS S0 k r t)
/-! CONTRACT BY HAND, by program (wip/sim/genhand.py): DeadUnderstudies$Least.goOn -/
def rxILGN_0 (S0 : Nat → Int → Int) (ws : List Int) (S : Nat → Int → Int) (k r t : Int) : Prop := S = S0 ∧ ws = [451, k, r, t]
def rxmLGN_0 (S0 : Nat → Int → Int) (ws : List Int) (S : Nat → Int → Int) (k r t : Int) : Nat := 10000
def rxzLGN_0 : rx_Z := ([(0, 0), (0, 0), (0, 0), (0, 0), (0, 0), (0, 0), (0, 0), (0, 0), (0, 11), (0, 17), (1, 3)], [], [], 0, 0, 0, [(0, .inr (3, (0, 451))), (1, .inr (0, (8, 0))), (2, .inr (0, (9, 0))), (3, .inr (0, (10, 0)))], [])
def rxILGN_1 (S0 : Nat → Int → Int) (ws : List Int) (S : Nat → Int → Int) (k r t a : Int) : Prop := S = S0 ∧ ws = [451, k, r, t] ∧ a = k
def rxmLGN_1 (S0 : Nat → Int → Int) (ws : List Int) (S : Nat → Int → Int) (k r t a : Int) : Nat := 9000
def rxzLGN_1 : rx_Z := ([(0, 0), (0, 0), (0, 0), (0, 0), (0, 0), (0, 0), (0, 0), (0, 0), (0, 11), (0, 17), (1, 3), (0, 11)], [], [], 0, 0, 16, [(0, .inr (3, (0, 451))), (1, .inr (0, (8, 0))), (2, .inr (0, (9, 0))), (3, .inr (0, (10, 0)))], [.inr (0, (11, 0)), .inr (3, (0, 451))])
def rxILGN_2 (S0 : Nat → Int → Int) (ws : List Int) (S : Nat → Int → Int) (k r t a er : Int) : Prop := S = S0 ∧ ws = [451, k, r, t] ∧ (er = 1 → ldEs S k) ∧ (er = 0 → ¬ ldEs S k)
def rxmLGN_2 (S0 : Nat → Int → Int) (ws : List Int) (S : Nat → Int → Int) (k r t a er : Int) : Nat := 8000
def rxzLGN_2 : rx_Z := ([(0, 0), (0, 0), (0, 0), (0, 0), (0, 0), (0, 0), (0, 0), (0, 0), (0, 11), (0, 17), (1, 3), (0, 11), (0, 1)], [], [], 0, 0, 19, [(0, .inr (3, (0, 451))), (1, .inr (0, (8, 0))), (2, .inr (0, (9, 0))), (3, .inr (0, (10, 0)))], [.inr (0, (12, 0))])
def rxILGN_3 (S0 : Nat → Int → Int) (ws : List Int) (S : Nat → Int → Int) (k r t k1 a : Int) : Prop := S = S0 ∧ ws = [451, k, r, t] ∧ k1 = k + 1 ∧ a = k ∧ (ldEs S k ∨ S 458 r ≠ -1)
def rxmLGN_3 (S0 : Nat → Int → Int) (ws : List Int) (S : Nat → Int → Int) (k r t k1 a : Int) : Nat := 7000
def rxzLGN_3 : rx_Z := ([(0, 0), (0, 0), (0, 0), (0, 0), (0, 0), (0, 0), (0, 0), (0, 0), (0, 11), (0, 17), (1, 3), (1, 12), (0, 11)], [], [], 0, 0, 37, [(0, .inr (3, (0, 451))), (1, .inr (0, (8, 0))), (2, .inr (0, (9, 0))), (3, .inr (0, (10, 0)))], [.inr (0, (12, 0)), .inr (3, (0, 451)), .inr (0, (11, 0)), .inr (3, (0, 451))])
def rxILGN_4 (S0 : Nat → Int → Int) (ws : List Int) (S : Nat → Int → Int) (k r t k1 a er : Int) : Prop := S = S0 ∧ ws = [451, k, r, t] ∧ k1 = k + 1 ∧ (ldEs S k ∨ S 458 r ≠ -1) ∧ (er = 1 → ldEs S k) ∧ (er = 0 → ¬ ldEs S k)
def rxmLGN_4 (S0 : Nat → Int → Int) (ws : List Int) (S : Nat → Int → Int) (k r t k1 a er : Int) : Nat := 6000
def rxzLGN_4 : rx_Z := ([(0, 0), (0, 0), (0, 0), (0, 0), (0, 0), (0, 0), (0, 0), (0, 0), (0, 11), (0, 17), (1, 3), (1, 12), (0, 11), (0, 1)], [], [], 0, 0, 40, [(0, .inr (3, (0, 451))), (1, .inr (0, (8, 0))), (2, .inr (0, (9, 0))), (3, .inr (0, (10, 0)))], [.inr (0, (13, 0)), .inr (0, (11, 0)), .inr (3, (0, 451))])
def rxILGN_5 (S0 : Nat → Int → Int) (ws : List Int) (S : Nat → Int → Int) (k r t k1 s1 t1 : Int) : Prop := S = S0 ∧ ws = [451, k, r, t] ∧ k1 = k + 1 ∧ t1 = t ∧ (ldEs S k ∨ S 458 r ≠ -1) ∧ (ldEs S k → s1 = 0) ∧ (¬ ldEs S k → s1 = S 458 r)
def rxmLGN_5 (S0 : Nat → Int → Int) (ws : List Int) (S : Nat → Int → Int) (k r t k1 s1 t1 : Int) : Nat := 5000
def rxzLGN_5 : rx_Z := ([(0, 0), (0, 0), (0, 0), (0, 0), (0, 0), (0, 0), (0, 0), (0, 0), (0, 11), (0, 17), (1, 3), (1, 12), (0, 2), (1, 3)], [], [], 0, 0, 54, [(0, .inr (3, (0, 451))), (1, .inr (0, (8, 0))), (2, .inr (0, (9, 0))), (3, .inr (0, (10, 0)))], [.inr (0, (13, 0)), .inr (0, (12, 0)), .inr (0, (11, 0)), .inr (3, (0, 451))])
def rxILGN_6 (S0 : Nat → Int → Int) (ws : List Int) (S : Nat → Int → Int) (k r t k1 s1 t1 : Int) : Prop := ws = [451, k, r, t] ∧ ldEnd S0 S (k + 1) (ldGS S0 k r t)
def rxmLGN_6 (S0 : Nat → Int → Int) (ws : List Int) (S : Nat → Int → Int) (k r t k1 s1 t1 : Int) : Nat := 4000
def rxzLGN_6 : rx_Z := ([(0, 0), (0, 0), (0, 0), (0, 0), (0, 0), (0, 0), (0, 0), (0, 0), (0, 11), (0, 17), (1, 3), (1, 12), (0, 2), (1, 3)], [], [], 0, 0, 57, [(0, .inr (3, (0, 451))), (1, .inr (0, (8, 0))), (2, .inr (0, (9, 0))), (3, .inr (0, (10, 0)))], [])
def rxILGN_7 (S0 : Nat → Int → Int) (ws : List Int) (S : Nat → Int → Int) (k r t x : Int) : Prop := ws = [451, k, r, t] ∧ ¬ ldEs S0 k ∧ S0 458 r = -1 ∧ (∀ j : Int, S 457 j = S0 457 j) ∧ (∀ j : Int, j ≠ r → S 458 j = S0 458 j) ∧ S 458 r < S0 451 5 ∧ (∀ j : Int, j < k + 1 → S 456 j = S0 456 j) ∧ ldO (S0 451 8) (S0 451 6) (ldXs S0 k r t x) (S0 451 9) (S0 451 10) (S 451 9) (S 451 10)
def rxmLGN_7 (S0 : Nat → Int → Int) (ws : List Int) (S : Nat → Int → Int) (k r t x : Int) : Nat := 10 * (20 - x).toNat + 9
def rxzLGN_7 : rx_Z := ([(0, 0), (0, 0), (0, 0), (0, 0), (0, 0), (0, 0), (0, 0), (0, 0), (0, 11), (0, 17), (1, 3), (0, 3)], [], [], 0, 0, 61, [(0, .inr (3, (0, 451))), (1, .inr (0, (8, 0))), (2, .inr (0, (9, 0))), (3, .inr (0, (10, 0))), (4, .inr (0, (11, 0)))], [])
def rxILGN_8 (S0 : Nat → Int → Int) (ws : List Int) (S : Nat → Int → Int) (k r t x k1 s1 t1 : Int) : Prop := k1 = k + 1 ∧ s1 = x ∧ t1 = max t (x + 1) ∧ x ≤ t ∧ x < S0 451 5 ∧ ws = [451, k, r, t] ∧ ¬ ldEs S0 k ∧ S0 458 r = -1 ∧ ldFr S0 S ∧ (∀ j : Int, S 457 j = S0 457 j) ∧ (∀ j : Int, j ≠ r → S 458 j = S0 458 j) ∧ S 458 r = x ∧ (∀ j : Int, j < k + 1 → S 456 j = S0 456 j) ∧ ldO (S0 451 8) (S0 451 6) (ldXs S0 k r t x) (S0 451 9) (S0 451 10) (S 451 9) (S 451 10)
def rxmLGN_8 (S0 : Nat → Int → Int) (ws : List Int) (S : Nat → Int → Int) (k r t x k1 s1 t1 : Int) : Nat := 10 * (20 - x).toNat + 8
def rxzLGN_8 : rx_Z := ([(0, 0), (0, 0), (0, 0), (0, 0), (0, 0), (0, 0), (0, 0), (0, 0), (0, 11), (0, 17), (1, 3), (0, 2), (1, 12), (0, 2), (1, 3)], [], [], 0, 0, 98, [(0, .inr (3, (0, 451))), (1, .inr (0, (8, 0))), (2, .inr (0, (9, 0))), (3, .inr (0, (10, 0))), (4, .inr (0, (11, 0)))], [.inr (0, (14, 0)), .inr (0, (13, 0)), .inr (0, (12, 0)), .inr (3, (0, 451))])
def rxILGN_9 (S0 : Nat → Int → Int) (ws : List Int) (S : Nat → Int → Int) (k r t x k1 s1 t1 : Int) : Prop := ws = [451, k, r, t] ∧ ¬ ldEs S0 k ∧ S0 458 r = -1 ∧ (∀ j : Int, S 457 j = S0 457 j) ∧ (∀ j : Int, j ≠ r → S 458 j = S0 458 j) ∧ S 458 r < S0 451 5 ∧ (∀ j : Int, j < k + 1 → S 456 j = S0 456 j) ∧ ldO (S0 451 8) (S0 451 6) (ldXs S0 k r t (x + 1)) (S0 451 9) (S0 451 10) (S 451 9) (S 451 10)
def rxmLGN_9 (S0 : Nat → Int → Int) (ws : List Int) (S : Nat → Int → Int) (k r t x k1 s1 t1 : Int) : Nat := 10 * (20 - x).toNat + 7
def rxzLGN_9 : rx_Z := ([(0, 0), (0, 0), (0, 0), (0, 0), (0, 0), (0, 0), (0, 0), (0, 0), (0, 11), (0, 17), (1, 3), (0, 2), (1, 12), (0, 2), (1, 3)], [], [], 0, 0, 101, [(0, .inr (3, (0, 451))), (1, .inr (0, (8, 0))), (2, .inr (0, (9, 0))), (3, .inr (0, (10, 0))), (4, .inr (0, (11, 0)))], [])
def rxoLGN_0_0 : bx_HO := (([(0, 0), (0, 0), (0, 0), (0, 0), (0, 0), (0, 0), (0, 0), (0, 0), (0, 11), (0, 17), (1, 3)], [], [(((0, 451), 13), .inr (3, (0, 458)))], 0, 0, 16, [(0, .inr (3, (0, 451))), (1, .inr (0, (8, 0))), (2, .inr (0, (9, 0))), (3, .inr (0, (10, 0)))], [.inr (0, (8, 0)), .inr (3, (0, 451))]), [], [], [(0, 0), (0, 0), (0, 0), (0, 0), (0, 0), (0, 0), (0, 0), (0, 0), (8, 0), (9, 0), (10, 0), (8, 0)], 1)
def rxoLGN_2_0 : bx_HO := (([(0, 0), (0, 0), (0, 0), (0, 0), (0, 0), (0, 0), (0, 0), (0, 0), (0, 11), (0, 17), (1, 3), (0, 11), (0, 0), (0, 2)], [], [(((0, 0), 1851192626986356797424367893248739914126558548369245151048630272000000), .inr (0, (13, 0))), (((0, 451), 13), .inr (3, (0, 458)))], 0, 0, 37, [(0, .inr (3, (0, 451))), (1, .inr (0, (8, 0))), (2, .inr (0, (9, 0))), (3, .inr (0, (10, 0)))], [.inr (0, (8, 0)), .inr (3, (0, 451)), .inr (0, (8, 1)), .inr (3, (0, 451))]), [], [], [(0, 0), (0, 0), (0, 0), (0, 0), (0, 0), (0, 0), (0, 0), (0, 0), (8, 0), (9, 0), (10, 0), (8, 1), (8, 0)], 3)
def rxoLGN_2_1 : bx_HO := (([(0, 0), (0, 0), (0, 0), (0, 0), (0, 0), (0, 0), (0, 0), (0, 0), (0, 11), (0, 17), (1, 3), (0, 11), (0, 0), ((-1), (-1))], [], [(((0, 0), 1851192626986356797424367893248739914126558548369245151048630272000000), .inr (0, (13, 0))), (((0, 451), 13), .inr (3, (0, 458)))], 0, 0, 61, [(4, .inr (0, (0, 0))), (0, .inr (3, (0, 451))), (1, .inr (0, (8, 0))), (2, .inr (0, (9, 0))), (3, .inr (0, (10, 0)))], []), [], [], [(0, 0), (0, 0), (0, 0), (0, 0), (0, 0), (0, 0), (0, 0), (0, 0), (8, 0), (9, 0), (10, 0), (0, 0)], 7)
def rxoLGN_2_2 : bx_HO := (([(0, 0), (0, 0), (0, 0), (0, 0), (0, 0), (0, 0), (0, 0), (0, 0), (0, 11), (0, 17), (1, 3), (0, 11), (1, 1)], [(3, (12, 0), (0, 0))], [], 0, 0, 37, [(0, .inr (3, (0, 451))), (1, .inr (0, (8, 0))), (2, .inr (0, (9, 0))), (3, .inr (0, (10, 0)))], [.inr (0, (8, 0)), .inr (3, (0, 451)), .inr (0, (8, 1)), .inr (3, (0, 451))]), [], [], [(0, 0), (0, 0), (0, 0), (0, 0), (0, 0), (0, 0), (0, 0), (0, 0), (8, 0), (9, 0), (10, 0), (8, 1), (8, 0)], 3)
def rxoLGN_4_0 : bx_HO := (([(0, 0), (0, 0), (0, 0), (0, 0), (0, 0), (0, 0), (0, 0), (0, 0), (0, 11), (0, 17), (1, 3), (1, 12), (0, 11), (1, 1)], [(3, (13, 0), (0, 0))], [], 0, 0, 54, [(0, .inr (3, (0, 451))), (1, .inr (0, (8, 0))), (2, .inr (0, (9, 0))), (3, .inr (0, (10, 0)))], [.inr (0, (10, 0)), .inr (0, (0, 0)), .inr (0, (11, 0)), .inr (3, (0, 451))]), [], [], [(0, 0), (0, 0), (0, 0), (0, 0), (0, 0), (0, 0), (0, 0), (0, 0), (8, 0), (9, 0), (10, 0), (11, 0), (0, 0), (10, 0)], 5)
def rxoLGN_4_1 : bx_HO := (([(0, 0), (0, 0), (0, 0), (0, 0), (0, 0), (0, 0), (0, 0), (0, 0), (0, 11), (0, 17), (1, 3), (1, 12), (0, 11), (0, 0), ((-1), 2)], [], [(((0, 0), 1851192626986356797424367893248739914126558548369245151048630272000000), .inr (0, (14, 0))), (((0, 451), 13), .inr (3, (0, 458)))], 0, 0, 54, [(0, .inr (3, (0, 451))), (1, .inr (0, (8, 0))), (2, .inr (0, (9, 0))), (3, .inr (0, (10, 0)))], [.inr (0, (10, 0)), .inr (0, (14, 0)), .inr (0, (11, 0)), .inr (3, (0, 451))]), [(14, 0, 2)], [], [(0, 0), (0, 0), (0, 0), (0, 0), (0, 0), (0, 0), (0, 0), (0, 0), (8, 0), (9, 0), (10, 0), (11, 0), (14, 0), (10, 0)], 5)
def rxeLGN_6_0 : rx_End × List (Nat × Int × Int) := (([(0, 0), (0, 0), (0, 0), (0, 0), (0, 0), (0, 0), (0, 0), (0, 0), (0, 11), (0, 17), (1, 3), (1, 12), (0, 2), (1, 3)], [], [], none), [])
def rxoLGN_7_0 : bx_HO := (([(0, 0), (0, 0), (0, 0), (0, 0), (0, 0), (0, 0), (0, 0), (0, 0), (0, 11), (0, 17), (1, 3), (0, 2), (1, 3)], [(1, (10, 0), (11, 1)), (0, (11, 0), (12, 0)), (1, (11, 0), (10, 0))], [(((0, 0), 1851192626986356797424367893248739914126558548369245151048630275000000), .inr (0, (11, 0))), (((0, 451), 13), .inr (3, (0, 458))), (((0, 0), 1851192626986356798427873864310897359480125337295219445588492288000000), .inr (0, (12, 0))), (((0, 451), 5), .inr (0, (12, 0)))], 0, 0, 98, [(0, .inr (3, (0, 451))), (1, .inr (0, (8, 0))), (2, .inr (0, (9, 0))), (3, .inr (0, (10, 0))), (4, .inr (0, (11, 0)))], [.inr (0, (11, 1)), .inr (0, (11, 0)), .inr (0, (8, 1)), .inr (3, (0, 451))]), [], [], [(0, 0), (0, 0), (0, 0), (0, 0), (0, 0), (0, 0), (0, 0), (0, 0), (8, 0), (9, 0), (10, 0), (11, 0), (8, 1), (11, 0), (11, 1)], 8)
def rxoLGN_7_1 : bx_HO := (([(0, 0), (0, 0), (0, 0), (0, 0), (0, 0), (0, 0), (0, 0), (0, 0), (0, 11), (0, 17), (2, 3), (0, 1), (1, 3)], [(0, (11, 1), (10, 0)), (0, (11, 0), (12, 0)), (1, (11, 0), (10, 0))], [(((0, 0), 1851192626986356797424367893248739914126558548369245151048630275000000), .inr (0, (11, 0))), (((0, 451), 13), .inr (3, (0, 458))), (((0, 0), 1851192626986356798427873864310897359480125337295219445588492288000000), .inr (0, (12, 0))), (((0, 451), 5), .inr (0, (12, 0)))], 0, 0, 98, [(0, .inr (3, (0, 451))), (1, .inr (0, (8, 0))), (2, .inr (0, (9, 0))), (3, .inr (0, (10, 0))), (4, .inr (0, (11, 0)))], [.inr (0, (10, 0)), .inr (0, (11, 0)), .inr (0, (8, 1)), .inr (3, (0, 451))]), [], [], [(0, 0), (0, 0), (0, 0), (0, 0), (0, 0), (0, 0), (0, 0), (0, 0), (8, 0), (9, 0), (10, 0), (11, 0), (8, 1), (11, 0), (10, 0)], 8)
def rxeLGN_7_0 : rx_End × List (Nat × Int × Int) := (([(0, 0), (0, 0), (0, 0), (0, 0), (0, 0), (0, 0), (0, 0), (0, 0), (0, 11), (0, 17), (1, 3), (0, 3), (0, 3)], [(1, (12, 0), (11, 0)), (1, (11, 0), (10, 0))], [(((0, 0), 1851192626986356797424367893248739914126558548369245151048630275000000), .inr (0, (0, (-1)))), (((0, 451), 13), .inr (3, (0, 458))), (((0, 0), 1851192626986356798427873864310897359480125337295219445588492288000000), .inr (0, (12, 0))), (((0, 451), 5), .inr (0, (12, 0)))], none), [])
def rxeLGN_7_1 : rx_End × List (Nat × Int × Int) := (([(0, 0), (0, 0), (0, 0), (0, 0), (0, 0), (0, 0), (0, 0), (0, 0), (0, 11), (0, 17), (1, 2), (2, 3)], [(0, (10, 0), (11, 0))], [(((0, 0), 1851192626986356797424367893248739914126558548369245151048630275000000), .inr (0, (0, (-1)))), (((0, 451), 13), .inr (3, (0, 458)))], none), [])
def rxoLGN_9_0 : bx_HO := (([(0, 0), (0, 0), (0, 0), (0, 0), (0, 0), (0, 0), (0, 0), (0, 0), (0, 11), (0, 17), (1, 3), (0, 2), (1, 12), (0, 2), (1, 3)], [], [], 0, 0, 61, [(4, .inr (0, (11, 1))), (0, .inr (3, (0, 451))), (1, .inr (0, (8, 0))), (2, .inr (0, (9, 0))), (3, .inr (0, (10, 0)))], []), [], [], [(0, 0), (0, 0), (0, 0), (0, 0), (0, 0), (0, 0), (0, 0), (0, 0), (8, 0), (9, 0), (10, 0), (11, 1)], 7)
def rxYLGN : List bx_HE := [(rxzLGN_0, [rxoLGN_0_0], []), (rxzLGN_1, [], []), (rxzLGN_2, [rxoLGN_2_0, rxoLGN_2_1, rxoLGN_2_2], []), (rxzLGN_3, [], []), (rxzLGN_4, [rxoLGN_4_0, rxoLGN_4_1], []), (rxzLGN_5, [], []), (rxzLGN_6, [], [rxeLGN_6_0]), (rxzLGN_7, [rxoLGN_7_0, rxoLGN_7_1], [rxeLGN_7_0, rxeLGN_7_1]), (rxzLGN_8, [], []), (rxzLGN_9, [rxoLGN_9_0], [])]
def rxULGN (q : bx_HE) : Bool := Nat.beq (rx_zpc q.1) 16 || Nat.beq (rx_zpc q.1) 37 || Nat.beq (rx_zpc q.1) 54 || Nat.beq (rx_zpc q.1) 98
def rxYBLGN : bx_B := (rxV, rxNP, rxDmf, bx_mdH rxCmLGN)
def rxILGN (S0 : Nat → Int → Int) (ws : List Int) (i : Nat) : bx_SP := fun S r => match i with | 0 => rxILGN_0 S0 ws S (r 8) (r 9) (r 10) | 1 => rxILGN_1 S0 ws S (r 8) (r 9) (r 10) (r 11) | 2 => rxILGN_2 S0 ws S (r 8) (r 9) (r 10) (r 11) (r 12) | 3 => rxILGN_3 S0 ws S (r 8) (r 9) (r 10) (r 11) (r 12) | 4 => rxILGN_4 S0 ws S (r 8) (r 9) (r 10) (r 11) (r 12) (r 13) | 5 => rxILGN_5 S0 ws S (r 8) (r 9) (r 10) (r 11) (r 12) (r 13) | 6 => rxILGN_6 S0 ws S (r 8) (r 9) (r 10) (r 11) (r 12) (r 13) | 7 => rxILGN_7 S0 ws S (r 8) (r 9) (r 10) (r 11) | 8 => rxILGN_8 S0 ws S (r 8) (r 9) (r 10) (r 11) (r 12) (r 13) (r 14) | 9 => rxILGN_9 S0 ws S (r 8) (r 9) (r 10) (r 11) (r 12) (r 13) (r 14) | _ => False
def rxmLGN (S0 : Nat → Int → Int) (ws : List Int) (i : Nat) (S : Nat → Int → Int) (r : Nat → Int) : Nat := match i with | 0 => rxmLGN_0 S0 ws S (r 8) (r 9) (r 10) | 1 => rxmLGN_1 S0 ws S (r 8) (r 9) (r 10) (r 11) | 2 => rxmLGN_2 S0 ws S (r 8) (r 9) (r 10) (r 11) (r 12) | 3 => rxmLGN_3 S0 ws S (r 8) (r 9) (r 10) (r 11) (r 12) | 4 => rxmLGN_4 S0 ws S (r 8) (r 9) (r 10) (r 11) (r 12) (r 13) | 5 => rxmLGN_5 S0 ws S (r 8) (r 9) (r 10) (r 11) (r 12) (r 13) | 6 => rxmLGN_6 S0 ws S (r 8) (r 9) (r 10) (r 11) (r 12) (r 13) | 7 => rxmLGN_7 S0 ws S (r 8) (r 9) (r 10) (r 11) | 8 => rxmLGN_8 S0 ws S (r 8) (r 9) (r 10) (r 11) (r 12) (r 13) (r 14) | 9 => rxmLGN_9 S0 ws S (r 8) (r 9) (r 10) (r 11) (r 12) (r 13) (r 14) | _ => 0
theorem rxkLGN_1 {S0 : Nat → Int → Int} {ws : List Int} {S : Nat → Int → Int} {k r t a : Int} {v : Nat} (hP : (rxPLGN v) S0 ws) (hin : bx_same rxL (bx_mdl rxCmLGN) S0 S) (I0 : bx_Inv rxL S) (hinv : rxILGN_1 S0 ws S k r t a) (l8 : 0 ≤ k) (u8 : k ≤ 11) (l9 : 0 ≤ r) (u9 : r ≤ 17) (l10 : 1 ≤ t) (u10 : t ≤ 3) (l11 : 0 ≤ a) (u11 : a ≤ 11) : rxPLER S [451, a] ∧ ∀ (S' : Nat → Int → Int) (er : Int), 0 ≤ er → er ≤ 1 → rxPSLER S [451, a] S' (some er) → bx_Inv rxL S' → bx_same rxL (bx_mdl rxCLER.2.2.1) S S' → rxILGN_2 S0 ws S' k r t a er ∧ rxmLGN_2 S0 ws S' k r t a er < rxmLGN_1 S0 ws S k r t a := by
  obtain ⟨h1, hw, ha⟩ := hinv
  obtain ⟨k9, r9, t9, hw2, hkn, hpb, hlen, hlv, hv1⟩ := hP
  have w0_ : k = k9 := Option.some.inj (congrArg (fun l => l[1]?) (hw.symm.trans hw2))
  subst w0_
  have w1_ : r = r9 := Option.some.inj (congrArg (fun l => l[2]?) (hw.symm.trans hw2))
  subst w1_
  have w2_ : t = t9 := Option.some.inj (congrArg (fun l => l[3]?) (hw.symm.trans hw2))
  subst w2_
  refine ⟨⟨a, rfl, by rw [ha, h1]; exact hkn⟩, fun S' er g0 g1 hq I1 hsm => ?_⟩
  obtain ⟨e, k8, hw8, hc8⟩ := hq
  have w8_ : a = k8 := Option.some.inj (congrArg (fun l => l[1]?) hw8)
  subst w8_
  subst e
  refine ⟨⟨h1, hw, fun q => ?_, fun q => ?_⟩, by unfold rxmLGN_1 rxmLGN_2; omega⟩
  · rcases hc8 with ⟨c1, c2⟩ | ⟨c1, c2⟩
    · rw [← ha]
      exact c2
    · have := Option.some.inj c1
      omega
  · rcases hc8 with ⟨c1, c2⟩ | ⟨c1, c2⟩
    · have := Option.some.inj c1
      omega
    · rw [← ha]
      exact c2
theorem rxsLGN_1 {X : (Nat → Int → Int) → Prop} {S0 : Nat → Int → Int} {ws : List Int} {v : Nat} (hP : (rxPLGN v) S0 ws) : rx_obK X S0 rxCmLGN rxCLER.2.2.1 (rxILGN S0 ws) (rxmLGN S0 ws) 1 2 rxzLGN_1 rxzLGN_2 [.inr (3, (0, 451)), .inr (0, (11, 0))] (some 12) rxPLER rxPSLER := by
  intro S r hinv hXS I0 hin hs_ hf_
  have b_ := bx_bds_sat hs_
  have f_ := bx_fcl_ok hs_.1 hf_
  obtain ⟨⟨l8, u8⟩, ⟨l9, u9⟩, ⟨l10, u10⟩, ⟨l11, u11⟩, -⟩ := b_
  have g := rxkLGN_1 hP hin I0 hinv l8 u8 l9 u9 l10 u10 l11 u11
  have ea : List.map (bx_num r) [.inr (3, (0, 451)), .inr (0, (11, 0))] = [451, (r 11)] := by
    simp only [List.map_cons, List.map_nil, bx_xv_ok hs_.1]
    rfl
  rw [ea]
  refine ⟨g.1, fun S' w r' hPS hX' I1 hsm hr hw hs' => ?_⟩
  have hw := hw _ rfl
  subst hw
  have b' := hs'.2.2 12 _ _ rfl
  have g2 := g.2 S' (r' 12) b'.1 b'.2 hPS I1 hsm
  show rxILGN_2 S0 ws S' (r' 8) (r' 9) (r' 10) (r' 11) (r' 12) ∧ rxmLGN_2 S0 ws S' (r' 8) (r' 9) (r' 10) (r' 11) (r' 12) < _
  rw [hr 8 (by decide), hr 9 (by decide), hr 10 (by decide), hr 11 (by decide)]
  exact g2
theorem rxkLGN_3 {S0 : Nat → Int → Int} {ws : List Int} {S : Nat → Int → Int} {k r t k1 a : Int} {v : Nat} (hP : (rxPLGN v) S0 ws) (hin : bx_same rxL (bx_mdl rxCmLGN) S0 S) (I0 : bx_Inv rxL S) (hinv : rxILGN_3 S0 ws S k r t k1 a) (l8 : 0 ≤ k) (u8 : k ≤ 11) (l9 : 0 ≤ r) (u9 : r ≤ 17) (l10 : 1 ≤ t) (u10 : t ≤ 3) (l11 : 1 ≤ k1) (u11 : k1 ≤ 12) (l12 : 0 ≤ a) (u12 : a ≤ 11) : rxPLER S [451, a] ∧ ∀ (S' : Nat → Int → Int) (er : Int), 0 ≤ er → er ≤ 1 → rxPSLER S [451, a] S' (some er) → bx_Inv rxL S' → bx_same rxL (bx_mdl rxCLER.2.2.1) S S' → rxILGN_4 S0 ws S' k r t k1 a er ∧ rxmLGN_4 S0 ws S' k r t k1 a er < rxmLGN_3 S0 ws S k r t k1 a := by
  obtain ⟨h1, hw, hk1, ha, hc⟩ := hinv
  obtain ⟨k9, r9, t9, hw2, hkn, hpb, hlen, hlv, hv1⟩ := hP
  have w0_ : k = k9 := Option.some.inj (congrArg (fun l => l[1]?) (hw.symm.trans hw2))
  subst w0_
  have w1_ : r = r9 := Option.some.inj (congrArg (fun l => l[2]?) (hw.symm.trans hw2))
  subst w1_
  have w2_ : t = t9 := Option.some.inj (congrArg (fun l => l[3]?) (hw.symm.trans hw2))
  subst w2_
  refine ⟨⟨a, rfl, by rw [ha, h1]; exact hkn⟩, fun S' er g0 g1 hq I1 hsm => ?_⟩
  obtain ⟨e, k8, hw8, hc8⟩ := hq
  have w8_ : a = k8 := Option.some.inj (congrArg (fun l => l[1]?) hw8)
  subst w8_
  subst e
  refine ⟨⟨h1, hw, hk1, hc, fun q => ?_, fun q => ?_⟩, by unfold rxmLGN_3 rxmLGN_4; omega⟩
  · rcases hc8 with ⟨c1, c2⟩ | ⟨c1, c2⟩
    · rw [← ha]
      exact c2
    · have := Option.some.inj c1
      omega
  · rcases hc8 with ⟨c1, c2⟩ | ⟨c1, c2⟩
    · have := Option.some.inj c1
      omega
    · rw [← ha]
      exact c2
theorem rxsLGN_3 {X : (Nat → Int → Int) → Prop} {S0 : Nat → Int → Int} {ws : List Int} {v : Nat} (hP : (rxPLGN v) S0 ws) : rx_obK X S0 rxCmLGN rxCLER.2.2.1 (rxILGN S0 ws) (rxmLGN S0 ws) 3 4 rxzLGN_3 rxzLGN_4 [.inr (3, (0, 451)), .inr (0, (12, 0))] (some 13) rxPLER rxPSLER := by
  intro S r hinv hXS I0 hin hs_ hf_
  have b_ := bx_bds_sat hs_
  have f_ := bx_fcl_ok hs_.1 hf_
  obtain ⟨⟨l8, u8⟩, ⟨l9, u9⟩, ⟨l10, u10⟩, ⟨l11, u11⟩, ⟨l12, u12⟩, -⟩ := b_
  have g := rxkLGN_3 hP hin I0 hinv l8 u8 l9 u9 l10 u10 l11 u11 l12 u12
  have ea : List.map (bx_num r) [.inr (3, (0, 451)), .inr (0, (12, 0))] = [451, (r 12)] := by
    simp only [List.map_cons, List.map_nil, bx_xv_ok hs_.1]
    rfl
  rw [ea]
  refine ⟨g.1, fun S' w r' hPS hX' I1 hsm hr hw hs' => ?_⟩
  have hw := hw _ rfl
  subst hw
  have b' := hs'.2.2 13 _ _ rfl
  have g2 := g.2 S' (r' 13) b'.1 b'.2 hPS I1 hsm
  show rxILGN_4 S0 ws S' (r' 8) (r' 9) (r' 10) (r' 11) (r' 12) (r' 13) ∧ rxmLGN_4 S0 ws S' (r' 8) (r' 9) (r' 10) (r' 11) (r' 12) (r' 13) < _
  rw [hr 8 (by decide), hr 9 (by decide), hr 10 (by decide), hr 11 (by decide), hr 12 (by decide)]
  exact g2
theorem rxkLGN_5 {S0 : Nat → Int → Int} {ws : List Int} {S : Nat → Int → Int} {k r t k1 s1 t1 : Int} {v : Nat} (hP : (rxPLGN v) S0 ws) (hin : bx_same rxL (bx_mdl rxCmLGN) S0 S) (I0 : bx_Inv rxL S) (hinv : rxILGN_5 S0 ws S k r t k1 s1 t1) (l8 : 0 ≤ k) (u8 : k ≤ 11) (l9 : 0 ≤ r) (u9 : r ≤ 17) (l10 : 1 ≤ t) (u10 : t ≤ 3) (l11 : 1 ≤ k1) (u11 : k1 ≤ 12) (l12 : 0 ≤ s1) (u12 : s1 ≤ 2) (l13 : 1 ≤ t1) (u13 : t1 ≤ 3) : (rxPLEX (v - 1)) S [451, k1, s1, t1] ∧ ∀ (S' : Nat → Int → Int), rxPSLEX S [451, k1, s1, t1] S' none → bx_Inv rxL S' → bx_same rxL (bx_mdl rxCmLEX) S S' → rxILGN_6 S0 ws S' k r t k1 s1 t1 ∧ rxmLGN_6 S0 ws S' k r t k1 s1 t1 < rxmLGN_5 S0 ws S k r t k1 s1 t1 := by
  obtain ⟨rfl, hw, hk1, ht1, hc, d1, d0⟩ := hinv
  obtain ⟨k9, r9, t9, hw2, hkn, hpb, hlen, hlv, hv1⟩ := hP
  have w0_ : k = k9 := Option.some.inj (congrArg (fun l => l[1]?) (hw.symm.trans hw2))
  subst w0_
  have w1_ : r = r9 := Option.some.inj (congrArg (fun l => l[2]?) (hw.symm.trans hw2))
  subst w1_
  have w2_ : t = t9 := Option.some.inj (congrArg (fun l => l[3]?) (hw.symm.trans hw2))
  subst w2_
  have eG := ldGS_1 (S := S) (k := k) (r := r) (t := t) (s1 := s1) l8 hkn l9 (by omega) hc ⟨d1, d0⟩
  subst hk1
  subst ht1
  refine ⟨⟨_, _, _, rfl, by omega, hpb, by rw [← eG]; exact hlen, by omega⟩, fun S' hq I1 hsm => ?_⟩
  obtain ⟨-, k8, s8, t8, hw8, h1, h2, h3, h4⟩ := hq
  simp only [List.cons.injEq, and_true, true_and] at hw8
  obtain ⟨e1, e2, e3⟩ := hw8
  rw [← e1, ← e2, ← e3, ← eG] at h4
  exact ⟨⟨hw, h1, h2, fun j hj => h3 j (by omega), h4⟩, by unfold rxmLGN_5 rxmLGN_6; omega⟩
theorem rxsLGN_5 {X : (Nat → Int → Int) → Prop} {S0 : Nat → Int → Int} {ws : List Int} {v : Nat} (hP : (rxPLGN v) S0 ws) : rx_obK X S0 rxCmLGN rxCmLEX (rxILGN S0 ws) (rxmLGN S0 ws) 5 6 rxzLGN_5 rxzLGN_6 [.inr (3, (0, 451)), .inr (0, (11, 0)), .inr (0, (12, 0)), .inr (0, (13, 0))] none (rxPLEX (v - 1)) rxPSLEX := by
  intro S r hinv hXS I0 hin hs_ hf_
  have b_ := bx_bds_sat hs_
  have f_ := bx_fcl_ok hs_.1 hf_
  obtain ⟨⟨l8, u8⟩, ⟨l9, u9⟩, ⟨l10, u10⟩, ⟨l11, u11⟩, ⟨l12, u12⟩, ⟨l13, u13⟩, -⟩ := b_
  have g := rxkLGN_5 hP hin I0 hinv l8 u8 l9 u9 l10 u10 l11 u11 l12 u12 l13 u13
  have ea : List.map (bx_num r) [.inr (3, (0, 451)), .inr (0, (11, 0)), .inr (0, (12, 0)), .inr (0, (13, 0))] = [451, (r 11), (r 12), (r 13)] := by
    simp only [List.map_cons, List.map_nil, bx_xv_ok hs_.1]
    rfl
  rw [ea]
  refine ⟨g.1, fun S' w r' hPS hX' I1 hsm hr hw hs' => ?_⟩
  have hw : w = none := hPS.1
  subst hw
  have g2 := g.2 S' hPS I1 hsm
  show rxILGN_6 S0 ws S' (r' 8) (r' 9) (r' 10) (r' 11) (r' 12) (r' 13) ∧ rxmLGN_6 S0 ws S' (r' 8) (r' 9) (r' 10) (r' 11) (r' 12) (r' 13) < _
  rw [hr 8 (by decide), hr 9 (by decide), hr 10 (by decide), hr 11 (by decide), hr 12 (by decide), hr 13 (by decide)]
  exact g2
theorem rxkLGN_8 {S0 : Nat → Int → Int} {ws : List Int} {S : Nat → Int → Int} {k r t x k1 s1 t1 : Int} {v : Nat} (hP : (rxPLGN v) S0 ws) (hin : bx_same rxL (bx_mdl rxCmLGN) S0 S) (I0 : bx_Inv rxL S) (hinv : rxILGN_8 S0 ws S k r t x k1 s1 t1) (l8 : 0 ≤ k) (u8 : k ≤ 11) (l9 : 0 ≤ r) (u9 : r ≤ 17) (l10 : 1 ≤ t) (u10 : t ≤ 3) (l11 : 0 ≤ x) (u11 : x ≤ 2) (l12 : 1 ≤ k1) (u12 : k1 ≤ 12) (l13 : 0 ≤ s1) (u13 : s1 ≤ 2) (l14 : 1 ≤ t1) (u14 : t1 ≤ 3) : (rxPLEX (v - 1)) S [451, k1, s1, t1] ∧ ∀ (S' : Nat → Int → Int), rxPSLEX S [451, k1, s1, t1] S' none → bx_Inv rxL S' → bx_same rxL (bx_mdl rxCmLEX) S S' → rxILGN_9 S0 ws S' k r t x k1 s1 t1 ∧ rxmLGN_9 S0 ws S' k r t x k1 s1 t1 < rxmLGN_8 S0 ws S k r t x k1 s1 t1 := by
  obtain ⟨hk1, hs1, ht1, hxt, hxm, hw, hne, hg1, hfr, h1, h2, h2b, h3, h4⟩ := hinv
  obtain ⟨k9, r9, t9, hw2, hkn, hpb, hlen, hlv, hv1⟩ := hP
  have w0_ : k = k9 := Option.some.inj (congrArg (fun l => l[1]?) (hw.symm.trans hw2))
  subst w0_
  have w1_ : r = r9 := Option.some.inj (congrArg (fun l => l[2]?) (hw.symm.trans hw2))
  subst w1_
  have w2_ : t = t9 := Option.some.inj (congrArg (fun l => l[3]?) (hw.symm.trans hw2))
  subst w2_
  have hb9 := ld451 I0
  have hf0 := hfr.1
  have hn : S0 451 0 ≤ 12 := by omega
  have eX := ldXS_T (S0 := S0) (S := S) (k := k) (r := r) (t := t) (x := x) hn l8 hkn l9 (by omega) hfr hxt hxm h1 h2 h2b h3
  obtain ⟨p1, p2, p3, p4, p5, p6, p7, p8, p9⟩ := id hpb
  have hb := ldO_b h4 p8 p9 ldXs_le
  have hl := ldXs_l (S := S0) (k := k) (r := r) (t := t) (x := x) (by omega) (by omega)
  rw [ldGS_3 (S := S0) (t := t) l8 hkn l9 (by omega) hne hg1] at hlen
  have h4a := h4.1
  have h4b := h4.2.1
  subst hk1
  subst hs1
  subst ht1
  refine ⟨⟨_, _, _, rfl, by omega, ldPb_cg hpb I0 hfr (fun j a b => ?_) (by omega) (fun q => (h4.2.2.2.2.1 q).trans (p4 q)) hb, by rw [eX]; omega, by omega⟩, fun S' hq I1 hsm => ?_⟩
  · by_cases hj : j = r
    · subst hj
      rw [h2b]
      exact hxm
    · rw [h2 j hj]
      exact p2 j a b
  · obtain ⟨-, k8, s8, t8, hw8, q1, q2, q3, q4⟩ := hq
    simp only [List.cons.injEq, and_true, true_and] at hw8
    obtain ⟨e1, e2, e3⟩ := hw8
    rw [← e1, ← e2, ← e3, eX, hfr.2.2.2.2.1, hfr.2.2.1] at q4
    refine ⟨⟨hw, hne, hg1, fun j => (q1 j).trans (h1 j), fun j hj => (q2 j).trans (h2 j hj), by rw [q2, h2b]; exact hxm, fun j hj => (q3 j (by omega)).trans (h3 j hj), ?_⟩, by unfold rxmLGN_8 rxmLGN_9; omega⟩
    rw [ldXs_s (by omega) (by omega)]
    exact ldO_app h4 q4
theorem rxsLGN_8 {X : (Nat → Int → Int) → Prop} {S0 : Nat → Int → Int} {ws : List Int} {v : Nat} (hP : (rxPLGN v) S0 ws) : rx_obK X S0 rxCmLGN rxCmLEX (rxILGN S0 ws) (rxmLGN S0 ws) 8 9 rxzLGN_8 rxzLGN_9 [.inr (3, (0, 451)), .inr (0, (12, 0)), .inr (0, (13, 0)), .inr (0, (14, 0))] none (rxPLEX (v - 1)) rxPSLEX := by
  intro S r hinv hXS I0 hin hs_ hf_
  have b_ := bx_bds_sat hs_
  have f_ := bx_fcl_ok hs_.1 hf_
  obtain ⟨⟨l8, u8⟩, ⟨l9, u9⟩, ⟨l10, u10⟩, ⟨l11, u11⟩, ⟨l12, u12⟩, ⟨l13, u13⟩, ⟨l14, u14⟩, -⟩ := b_
  have g := rxkLGN_8 hP hin I0 hinv l8 u8 l9 u9 l10 u10 l11 u11 l12 u12 l13 u13 l14 u14
  have ea : List.map (bx_num r) [.inr (3, (0, 451)), .inr (0, (12, 0)), .inr (0, (13, 0)), .inr (0, (14, 0))] = [451, (r 12), (r 13), (r 14)] := by
    simp only [List.map_cons, List.map_nil, bx_xv_ok hs_.1]
    rfl
  rw [ea]
  refine ⟨g.1, fun S' w r' hPS hX' I1 hsm hr hw hs' => ?_⟩
  have hw : w = none := hPS.1
  subst hw
  have g2 := g.2 S' hPS I1 hsm
  show rxILGN_9 S0 ws S' (r' 8) (r' 9) (r' 10) (r' 11) (r' 12) (r' 13) (r' 14) ∧ rxmLGN_9 S0 ws S' (r' 8) (r' 9) (r' 10) (r' 11) (r' 12) (r' 13) (r' 14) < _
  rw [hr 8 (by decide), hr 9 (by decide), hr 10 (by decide), hr 11 (by decide), hr 12 (by decide), hr 13 (by decide), hr 14 (by decide)]
  exact g2
theorem rxcLGN_0_0 {S0 : Nat → Int → Int} {ws : List Int} {S : Nat → Int → Int} {k r t : Int} {v : Nat} (hP : (rxPLGN v) S0 ws) (hin : bx_same rxL (bx_mdl rxCmLGN) S0 S) (I0 : bx_Inv rxL S) (hinv : rxILGN_0 S0 ws S k r t) (l8 : 0 ≤ k) (u8 : k ≤ 11) (l9 : 0 ≤ r) (u9 : r ≤ 17) (l10 : 1 ≤ t) (u10 : t ≤ 3) : (True) ∧ (True) ∧ rxILGN_1 S0 ws S k r t k ∧ rxmLGN_1 S0 ws S k r t k < rxmLGN_0 S0 ws S k r t := by
  obtain ⟨rfl, hw⟩ := hinv
  exact ⟨trivial, trivial, ⟨rfl, hw, rfl⟩, by unfold rxmLGN_0 rxmLGN_1; omega⟩
theorem rxgLGN_0_0 {X : (Nat → Int → Int) → Prop} {S0 : Nat → Int → Int} {ws : List Int} {v : Nat} (hP : (rxPLGN v) S0 ws) : bx_obC rxL X S0 rxCmLGN (rxILGN S0 ws) (rxmLGN S0 ws) 0 rxzLGN_0 rxoLGN_0_0 := by
  intro S S' r r' hinv hX hin hsm_ hseg
  obtain ⟨I0, I1, h0_, hr_, b_, f_, d_⟩ := bx_cl (evs := []) (fvs := []) hseg (by decide +kernel) (by decide +kernel)
  have hinv : rxILGN_0 S0 ws S (r 8) (r 9) (r 10) := hinv
  rw [← hr_ 8 (by decide), ← hr_ 9 (by decide), ← hr_ 10 (by decide)] at hinv
  obtain ⟨⟨l8, u8⟩, ⟨l9, u9⟩, ⟨l10, u10⟩, -⟩ := b_
  have w_ := d_
  subst w_
  have g := rxcLGN_0_0 hP hin I0 hinv l8 u8 l9 u9 l10 u10
  refine ⟨bx_narP_ok (l := []) g.1, bx_nfP_ok h0_ (fvs := []) (by decide +kernel) g.2.1, ?_, ?_⟩
  · show rxILGN_1 S0 ws S' (bx_val [(0, 0), (0, 0), (0, 0), (0, 0), (0, 0), (0, 0), (0, 0), (0, 0), (8, 0), (9, 0), (10, 0), (8, 0)] r' 8) (bx_val [(0, 0), (0, 0), (0, 0), (0, 0), (0, 0), (0, 0), (0, 0), (0, 0), (8, 0), (9, 0), (10, 0), (8, 0)] r' 9) (bx_val [(0, 0), (0, 0), (0, 0), (0, 0), (0, 0), (0, 0), (0, 0), (0, 0), (8, 0), (9, 0), (10, 0), (8, 0)] r' 10) (bx_val [(0, 0), (0, 0), (0, 0), (0, 0), (0, 0), (0, 0), (0, 0), (0, 0), (8, 0), (9, 0), (10, 0), (8, 0)] r' 11)
    rw [bx_val_x (n := 8) (e := (8, 0)) h0_ rfl, bx_val_x (n := 9) (e := (9, 0)) h0_ rfl, bx_val_x (n := 10) (e := (10, 0)) h0_ rfl, bx_val_x (n := 11) (e := (8, 0)) h0_ rfl]
    exact g.2.2.1
  · show rxmLGN_1 S0 ws S' (bx_val [(0, 0), (0, 0), (0, 0), (0, 0), (0, 0), (0, 0), (0, 0), (0, 0), (8, 0), (9, 0), (10, 0), (8, 0)] r' 8) (bx_val [(0, 0), (0, 0), (0, 0), (0, 0), (0, 0), (0, 0), (0, 0), (0, 0), (8, 0), (9, 0), (10, 0), (8, 0)] r' 9) (bx_val [(0, 0), (0, 0), (0, 0), (0, 0), (0, 0), (0, 0), (0, 0), (0, 0), (8, 0), (9, 0), (10, 0), (8, 0)] r' 10) (bx_val [(0, 0), (0, 0), (0, 0), (0, 0), (0, 0), (0, 0), (0, 0), (0, 0), (8, 0), (9, 0), (10, 0), (8, 0)] r' 11) < rxmLGN_0 S0 ws S' (r 8) (r 9) (r 10)
    rw [bx_val_x (n := 8) (e := (8, 0)) h0_ rfl, bx_val_x (n := 9) (e := (9, 0)) h0_ rfl, bx_val_x (n := 10) (e := (10, 0)) h0_ rfl, bx_val_x (n := 11) (e := (8, 0)) h0_ rfl, ← hr_ 8 (by decide), ← hr_ 9 (by decide), ← hr_ 10 (by decide)]
    exact g.2.2.2
theorem rxcLGN_2_0 {S0 : Nat → Int → Int} {ws : List Int} {S : Nat → Int → Int} {k r t a er x13 : Int} {v : Nat} (hP : (rxPLGN v) S0 ws) (hin : bx_same rxL (bx_mdl rxCmLGN) S0 S) (I0 : bx_Inv rxL S) (hinv : rxILGN_2 S0 ws S k r t a er) (l8 : 0 ≤ k) (u8 : k ≤ 11) (l9 : 0 ≤ r) (u9 : r ≤ 17) (l10 : 1 ≤ t) (u10 : t ≤ 3) (l11 : 0 ≤ a) (u11 : a ≤ 11) (l12 : 0 ≤ er) (u12 : er ≤ 0) (l13 : 0 ≤ x13) (u13 : x13 ≤ 2) (e0 : S 458 r = x13) : (True) ∧ (True) ∧ rxILGN_3 S0 ws S k r t (k + 1) k ∧ rxmLGN_3 S0 ws S k r t (k + 1) k < rxmLGN_2 S0 ws S k r t a er := by
  obtain ⟨h1, hw, c1, c0⟩ := hinv
  refine ⟨trivial, trivial, ⟨h1, hw, rfl, rfl, ?_⟩, by unfold rxmLGN_2 rxmLGN_3; omega⟩
  first | exact Or.inl (c1 (by omega)) | exact Or.inr (by omega)
theorem rxgLGN_2_0 {X : (Nat → Int → Int) → Prop} {S0 : Nat → Int → Int} {ws : List Int} {v : Nat} (hP : (rxPLGN v) S0 ws) : bx_obC rxL X S0 rxCmLGN (rxILGN S0 ws) (rxmLGN S0 ws) 2 rxzLGN_2 rxoLGN_2_0 := by
  intro S S' r r' hinv hX hin hsm_ hseg
  obtain ⟨I0, I1, h0_, hr_, b_, f_, d_⟩ := bx_cl (evs := [(0, (0, 458), (9, 0), .inr (0, (13, 0)))]) (fvs := []) hseg (by decide +kernel) (by decide +kernel)
  have hinv : rxILGN_2 S0 ws S (r 8) (r 9) (r 10) (r 11) (r 12) := hinv
  rw [← hr_ 8 (by decide), ← hr_ 9 (by decide), ← hr_ 10 (by decide), ← hr_ 11 (by decide), ← hr_ 12 (by decide)] at hinv
  obtain ⟨⟨l8, u8⟩, ⟨l9, u9⟩, ⟨l10, u10⟩, ⟨l11, u11⟩, ⟨l12, u12⟩, ⟨l13, u13⟩, -⟩ := b_
  obtain ⟨e0, w_⟩ := d_
  subst w_
  have g := rxcLGN_2_0 hP hin I0 hinv l8 u8 l9 u9 l10 u10 l11 u11 l12 u12 l13 u13 e0
  refine ⟨bx_narP_ok (l := []) g.1, bx_nfP_ok h0_ (fvs := []) (by decide +kernel) g.2.1, ?_, ?_⟩
  · show rxILGN_3 S0 ws S' (bx_val [(0, 0), (0, 0), (0, 0), (0, 0), (0, 0), (0, 0), (0, 0), (0, 0), (8, 0), (9, 0), (10, 0), (8, 1), (8, 0)] r' 8) (bx_val [(0, 0), (0, 0), (0, 0), (0, 0), (0, 0), (0, 0), (0, 0), (0, 0), (8, 0), (9, 0), (10, 0), (8, 1), (8, 0)] r' 9) (bx_val [(0, 0), (0, 0), (0, 0), (0, 0), (0, 0), (0, 0), (0, 0), (0, 0), (8, 0), (9, 0), (10, 0), (8, 1), (8, 0)] r' 10) (bx_val [(0, 0), (0, 0), (0, 0), (0, 0), (0, 0), (0, 0), (0, 0), (0, 0), (8, 0), (9, 0), (10, 0), (8, 1), (8, 0)] r' 11) (bx_val [(0, 0), (0, 0), (0, 0), (0, 0), (0, 0), (0, 0), (0, 0), (0, 0), (8, 0), (9, 0), (10, 0), (8, 1), (8, 0)] r' 12)
    rw [bx_val_x (n := 8) (e := (8, 0)) h0_ rfl, bx_val_x (n := 9) (e := (9, 0)) h0_ rfl, bx_val_x (n := 10) (e := (10, 0)) h0_ rfl, bx_val_x (n := 11) (e := (8, 1)) h0_ rfl, bx_val_x (n := 12) (e := (8, 0)) h0_ rfl]
    exact g.2.2.1
  · show rxmLGN_3 S0 ws S' (bx_val [(0, 0), (0, 0), (0, 0), (0, 0), (0, 0), (0, 0), (0, 0), (0, 0), (8, 0), (9, 0), (10, 0), (8, 1), (8, 0)] r' 8) (bx_val [(0, 0), (0, 0), (0, 0), (0, 0), (0, 0), (0, 0), (0, 0), (0, 0), (8, 0), (9, 0), (10, 0), (8, 1), (8, 0)] r' 9) (bx_val [(0, 0), (0, 0), (0, 0), (0, 0), (0, 0), (0, 0), (0, 0), (0, 0), (8, 0), (9, 0), (10, 0), (8, 1), (8, 0)] r' 10) (bx_val [(0, 0), (0, 0), (0, 0), (0, 0), (0, 0), (0, 0), (0, 0), (0, 0), (8, 0), (9, 0), (10, 0), (8, 1), (8, 0)] r' 11) (bx_val [(0, 0), (0, 0), (0, 0), (0, 0), (0, 0), (0, 0), (0, 0), (0, 0), (8, 0), (9, 0), (10, 0), (8, 1), (8, 0)] r' 12) < rxmLGN_2 S0 ws S' (r 8) (r 9) (r 10) (r 11) (r 12)
    rw [bx_val_x (n := 8) (e := (8, 0)) h0_ rfl, bx_val_x (n := 9) (e := (9, 0)) h0_ rfl, bx_val_x (n := 10) (e := (10, 0)) h0_ rfl, bx_val_x (n := 11) (e := (8, 1)) h0_ rfl, bx_val_x (n := 12) (e := (8, 0)) h0_ rfl, ← hr_ 8 (by decide), ← hr_ 9 (by decide), ← hr_ 10 (by decide), ← hr_ 11 (by decide), ← hr_ 12 (by decide)]
    exact g.2.2.2
theorem rxcLGN_2_1 {S0 : Nat → Int → Int} {ws : List Int} {S : Nat → Int → Int} {k r t a er x13 : Int} {v : Nat} (hP : (rxPLGN v) S0 ws) (hin : bx_same rxL (bx_mdl rxCmLGN) S0 S) (I0 : bx_Inv rxL S) (hinv : rxILGN_2 S0 ws S k r t a er) (l8 : 0 ≤ k) (u8 : k ≤ 11) (l9 : 0 ≤ r) (u9 : r ≤ 17) (l10 : 1 ≤ t) (u10 : t ≤ 3) (l11 : 0 ≤ a) (u11 : a ≤ 11) (l12 : 0 ≤ er) (u12 : er ≤ 0) (l13 : (-1) ≤ x13) (u13 : x13 ≤ (-1)) (e0 : S 458 r = x13) : (True) ∧ (True) ∧ rxILGN_7 S0 ws S k r t 0 ∧ rxmLGN_7 S0 ws S k r t 0 < rxmLGN_2 S0 ws S k r t a er := by
  obtain ⟨rfl, hw, c1, c0⟩ := hinv
  obtain ⟨k9, r9, t9, hw2, hkn, hpb, hlen, hlv, hv1⟩ := hP
  have w0_ : k = k9 := Option.some.inj (congrArg (fun l => l[1]?) (hw.symm.trans hw2))
  subst w0_
  have w1_ : r = r9 := Option.some.inj (congrArg (fun l => l[2]?) (hw.symm.trans hw2))
  subst w1_
  have w2_ : t = t9 := Option.some.inj (congrArg (fun l => l[3]?) (hw.symm.trans hw2))
  subst w2_
  exact ⟨trivial, trivial, ⟨hw, c0 (by omega), by omega, fun _ => rfl, fun _ _ => rfl, by have := hpb.1; omega, fun _ _ => rfl, by rw [ldXs_0]; exact ldO_nil hpb.2.2.2.2.2.2.2.1⟩, by unfold rxmLGN_2 rxmLGN_7; omega⟩
theorem rxgLGN_2_1 {X : (Nat → Int → Int) → Prop} {S0 : Nat → Int → Int} {ws : List Int} {v : Nat} (hP : (rxPLGN v) S0 ws) : bx_obC rxL X S0 rxCmLGN (rxILGN S0 ws) (rxmLGN S0 ws) 2 rxzLGN_2 rxoLGN_2_1 := by
  intro S S' r r' hinv hX hin hsm_ hseg
  obtain ⟨I0, I1, h0_, hr_, b_, f_, d_⟩ := bx_cl (evs := [(0, (0, 458), (9, 0), .inr (0, (13, 0)))]) (fvs := []) hseg (by decide +kernel) (by decide +kernel)
  have hinv : rxILGN_2 S0 ws S (r 8) (r 9) (r 10) (r 11) (r 12) := hinv
  rw [← hr_ 8 (by decide), ← hr_ 9 (by decide), ← hr_ 10 (by decide), ← hr_ 11 (by decide), ← hr_ 12 (by decide)] at hinv
  obtain ⟨⟨l8, u8⟩, ⟨l9, u9⟩, ⟨l10, u10⟩, ⟨l11, u11⟩, ⟨l12, u12⟩, ⟨l13, u13⟩, -⟩ := b_
  obtain ⟨e0, w_⟩ := d_
  subst w_
  have g := rxcLGN_2_1 hP hin I0 hinv l8 u8 l9 u9 l10 u10 l11 u11 l12 u12 l13 u13 e0
  refine ⟨bx_narP_ok (l := []) g.1, bx_nfP_ok h0_ (fvs := []) (by decide +kernel) g.2.1, ?_, ?_⟩
  · show rxILGN_7 S0 ws S' (bx_val [(0, 0), (0, 0), (0, 0), (0, 0), (0, 0), (0, 0), (0, 0), (0, 0), (8, 0), (9, 0), (10, 0), (0, 0)] r' 8) (bx_val [(0, 0), (0, 0), (0, 0), (0, 0), (0, 0), (0, 0), (0, 0), (0, 0), (8, 0), (9, 0), (10, 0), (0, 0)] r' 9) (bx_val [(0, 0), (0, 0), (0, 0), (0, 0), (0, 0), (0, 0), (0, 0), (0, 0), (8, 0), (9, 0), (10, 0), (0, 0)] r' 10) (bx_val [(0, 0), (0, 0), (0, 0), (0, 0), (0, 0), (0, 0), (0, 0), (0, 0), (8, 0), (9, 0), (10, 0), (0, 0)] r' 11)
    rw [bx_val_x (n := 8) (e := (8, 0)) h0_ rfl, bx_val_x (n := 9) (e := (9, 0)) h0_ rfl, bx_val_x (n := 10) (e := (10, 0)) h0_ rfl, bx_val_x (n := 11) (e := (0, 0)) h0_ rfl]
    exact g.2.2.1
  · show rxmLGN_7 S0 ws S' (bx_val [(0, 0), (0, 0), (0, 0), (0, 0), (0, 0), (0, 0), (0, 0), (0, 0), (8, 0), (9, 0), (10, 0), (0, 0)] r' 8) (bx_val [(0, 0), (0, 0), (0, 0), (0, 0), (0, 0), (0, 0), (0, 0), (0, 0), (8, 0), (9, 0), (10, 0), (0, 0)] r' 9) (bx_val [(0, 0), (0, 0), (0, 0), (0, 0), (0, 0), (0, 0), (0, 0), (0, 0), (8, 0), (9, 0), (10, 0), (0, 0)] r' 10) (bx_val [(0, 0), (0, 0), (0, 0), (0, 0), (0, 0), (0, 0), (0, 0), (0, 0), (8, 0), (9, 0), (10, 0), (0, 0)] r' 11) < rxmLGN_2 S0 ws S' (r 8) (r 9) (r 10) (r 11) (r 12)
    rw [bx_val_x (n := 8) (e := (8, 0)) h0_ rfl, bx_val_x (n := 9) (e := (9, 0)) h0_ rfl, bx_val_x (n := 10) (e := (10, 0)) h0_ rfl, bx_val_x (n := 11) (e := (0, 0)) h0_ rfl, ← hr_ 8 (by decide), ← hr_ 9 (by decide), ← hr_ 10 (by decide), ← hr_ 11 (by decide), ← hr_ 12 (by decide)]
    exact g.2.2.2
theorem rxcLGN_2_2 {S0 : Nat → Int → Int} {ws : List Int} {S : Nat → Int → Int} {k r t a er : Int} {v : Nat} (hP : (rxPLGN v) S0 ws) (hin : bx_same rxL (bx_mdl rxCmLGN) S0 S) (I0 : bx_Inv rxL S) (hinv : rxILGN_2 S0 ws S k r t a er) (l8 : 0 ≤ k) (u8 : k ≤ 11) (l9 : 0 ≤ r) (u9 : r ≤ 17) (l10 : 1 ≤ t) (u10 : t ≤ 3) (l11 : 0 ≤ a) (u11 : a ≤ 11) (l12 : 1 ≤ er) (u12 : er ≤ 1) (f0 : er ≠ 0) : (True) ∧ (True) ∧ rxILGN_3 S0 ws S k r t (k + 1) k ∧ rxmLGN_3 S0 ws S k r t (k + 1) k < rxmLGN_2 S0 ws S k r t a er := by
  obtain ⟨h1, hw, c1, c0⟩ := hinv
  refine ⟨trivial, trivial, ⟨h1, hw, rfl, rfl, ?_⟩, by unfold rxmLGN_2 rxmLGN_3; omega⟩
  first | exact Or.inl (c1 (by omega)) | exact Or.inr (by omega)
theorem rxgLGN_2_2 {X : (Nat → Int → Int) → Prop} {S0 : Nat → Int → Int} {ws : List Int} {v : Nat} (hP : (rxPLGN v) S0 ws) : bx_obC rxL X S0 rxCmLGN (rxILGN S0 ws) (rxmLGN S0 ws) 2 rxzLGN_2 rxoLGN_2_2 := by
  intro S S' r r' hinv hX hin hsm_ hseg
  obtain ⟨I0, I1, h0_, hr_, b_, f_, d_⟩ := bx_cl (evs := []) (fvs := [(3, (12, 0), (0, 0), (0, 0))]) hseg (by decide +kernel) (by decide +kernel)
  have hinv : rxILGN_2 S0 ws S (r 8) (r 9) (r 10) (r 11) (r 12) := hinv
  rw [← hr_ 8 (by decide), ← hr_ 9 (by decide), ← hr_ 10 (by decide), ← hr_ 11 (by decide), ← hr_ 12 (by decide)] at hinv
  obtain ⟨⟨l8, u8⟩, ⟨l9, u9⟩, ⟨l10, u10⟩, ⟨l11, u11⟩, ⟨l12, u12⟩, -⟩ := b_
  obtain ⟨f0, -⟩ := f_
  have w_ := d_
  subst w_
  have g := rxcLGN_2_2 hP hin I0 hinv l8 u8 l9 u9 l10 u10 l11 u11 l12 u12 f0
  refine ⟨bx_narP_ok (l := []) g.1, bx_nfP_ok h0_ (fvs := []) (by decide +kernel) g.2.1, ?_, ?_⟩
  · show rxILGN_3 S0 ws S' (bx_val [(0, 0), (0, 0), (0, 0), (0, 0), (0, 0), (0, 0), (0, 0), (0, 0), (8, 0), (9, 0), (10, 0), (8, 1), (8, 0)] r' 8) (bx_val [(0, 0), (0, 0), (0, 0), (0, 0), (0, 0), (0, 0), (0, 0), (0, 0), (8, 0), (9, 0), (10, 0), (8, 1), (8, 0)] r' 9) (bx_val [(0, 0), (0, 0), (0, 0), (0, 0), (0, 0), (0, 0), (0, 0), (0, 0), (8, 0), (9, 0), (10, 0), (8, 1), (8, 0)] r' 10) (bx_val [(0, 0), (0, 0), (0, 0), (0, 0), (0, 0), (0, 0), (0, 0), (0, 0), (8, 0), (9, 0), (10, 0), (8, 1), (8, 0)] r' 11) (bx_val [(0, 0), (0, 0), (0, 0), (0, 0), (0, 0), (0, 0), (0, 0), (0, 0), (8, 0), (9, 0), (10, 0), (8, 1), (8, 0)] r' 12)
    rw [bx_val_x (n := 8) (e := (8, 0)) h0_ rfl, bx_val_x (n := 9) (e := (9, 0)) h0_ rfl, bx_val_x (n := 10) (e := (10, 0)) h0_ rfl, bx_val_x (n := 11) (e := (8, 1)) h0_ rfl, bx_val_x (n := 12) (e := (8, 0)) h0_ rfl]
    exact g.2.2.1
  · show rxmLGN_3 S0 ws S' (bx_val [(0, 0), (0, 0), (0, 0), (0, 0), (0, 0), (0, 0), (0, 0), (0, 0), (8, 0), (9, 0), (10, 0), (8, 1), (8, 0)] r' 8) (bx_val [(0, 0), (0, 0), (0, 0), (0, 0), (0, 0), (0, 0), (0, 0), (0, 0), (8, 0), (9, 0), (10, 0), (8, 1), (8, 0)] r' 9) (bx_val [(0, 0), (0, 0), (0, 0), (0, 0), (0, 0), (0, 0), (0, 0), (0, 0), (8, 0), (9, 0), (10, 0), (8, 1), (8, 0)] r' 10) (bx_val [(0, 0), (0, 0), (0, 0), (0, 0), (0, 0), (0, 0), (0, 0), (0, 0), (8, 0), (9, 0), (10, 0), (8, 1), (8, 0)] r' 11) (bx_val [(0, 0), (0, 0), (0, 0), (0, 0), (0, 0), (0, 0), (0, 0), (0, 0), (8, 0), (9, 0), (10, 0), (8, 1), (8, 0)] r' 12) < rxmLGN_2 S0 ws S' (r 8) (r 9) (r 10) (r 11) (r 12)
    rw [bx_val_x (n := 8) (e := (8, 0)) h0_ rfl, bx_val_x (n := 9) (e := (9, 0)) h0_ rfl, bx_val_x (n := 10) (e := (10, 0)) h0_ rfl, bx_val_x (n := 11) (e := (8, 1)) h0_ rfl, bx_val_x (n := 12) (e := (8, 0)) h0_ rfl, ← hr_ 8 (by decide), ← hr_ 9 (by decide), ← hr_ 10 (by decide), ← hr_ 11 (by decide), ← hr_ 12 (by decide)]
    exact g.2.2.2
theorem rxcLGN_4_0 {S0 : Nat → Int → Int} {ws : List Int} {S : Nat → Int → Int} {k r t k1 a er : Int} {v : Nat} (hP : (rxPLGN v) S0 ws) (hin : bx_same rxL (bx_mdl rxCmLGN) S0 S) (I0 : bx_Inv rxL S) (hinv : rxILGN_4 S0 ws S k r t k1 a er) (l8 : 0 ≤ k) (u8 : k ≤ 11) (l9 : 0 ≤ r) (u9 : r ≤ 17) (l10 : 1 ≤ t) (u10 : t ≤ 3) (l11 : 1 ≤ k1) (u11 : k1 ≤ 12) (l12 : 0 ≤ a) (u12 : a ≤ 11) (l13 : 1 ≤ er) (u13 : er ≤ 1) (f0 : er ≠ 0) : (True) ∧ (True) ∧ rxILGN_5 S0 ws S k r t k1 0 t ∧ rxmLGN_5 S0 ws S k r t k1 0 t < rxmLGN_4 S0 ws S k r t k1 a er := by
  obtain ⟨h1, hw, hk1, hc, c1, c0⟩ := hinv
  rcases (show er = 0 ∨ er = 1 by omega) with he | he
  · have hne := c0 he
    have hx : S 458 r ≠ -1 := hc.resolve_left hne
    first | (exfalso; omega) | exact ⟨⟨by omega, trivial⟩, trivial, ⟨h1, hw, hk1, rfl, hc, fun q => absurd q hne, fun _ => by omega⟩, by unfold rxmLGN_4 rxmLGN_5; omega⟩
  · first | (exfalso; omega) | exact ⟨trivial, trivial, ⟨h1, hw, hk1, rfl, hc, fun _ => rfl, fun q => absurd (c1 he) q⟩, by unfold rxmLGN_4 rxmLGN_5; omega⟩
theorem rxgLGN_4_0 {X : (Nat → Int → Int) → Prop} {S0 : Nat → Int → Int} {ws : List Int} {v : Nat} (hP : (rxPLGN v) S0 ws) : bx_obC rxL X S0 rxCmLGN (rxILGN S0 ws) (rxmLGN S0 ws) 4 rxzLGN_4 rxoLGN_4_0 := by
  intro S S' r r' hinv hX hin hsm_ hseg
  obtain ⟨I0, I1, h0_, hr_, b_, f_, d_⟩ := bx_cl (evs := []) (fvs := [(3, (13, 0), (0, 0), (0, 0))]) hseg (by decide +kernel) (by decide +kernel)
  have hinv : rxILGN_4 S0 ws S (r 8) (r 9) (r 10) (r 11) (r 12) (r 13) := hinv
  rw [← hr_ 8 (by decide), ← hr_ 9 (by decide), ← hr_ 10 (by decide), ← hr_ 11 (by decide), ← hr_ 12 (by decide), ← hr_ 13 (by decide)] at hinv
  obtain ⟨⟨l8, u8⟩, ⟨l9, u9⟩, ⟨l10, u10⟩, ⟨l11, u11⟩, ⟨l12, u12⟩, ⟨l13, u13⟩, -⟩ := b_
  obtain ⟨f0, -⟩ := f_
  have w_ := d_
  subst w_
  have g := rxcLGN_4_0 hP hin I0 hinv l8 u8 l9 u9 l10 u10 l11 u11 l12 u12 l13 u13 f0
  refine ⟨bx_narP_ok (l := []) g.1, bx_nfP_ok h0_ (fvs := []) (by decide +kernel) g.2.1, ?_, ?_⟩
  · show rxILGN_5 S0 ws S' (bx_val [(0, 0), (0, 0), (0, 0), (0, 0), (0, 0), (0, 0), (0, 0), (0, 0), (8, 0), (9, 0), (10, 0), (11, 0), (0, 0), (10, 0)] r' 8) (bx_val [(0, 0), (0, 0), (0, 0), (0, 0), (0, 0), (0, 0), (0, 0), (0, 0), (8, 0), (9, 0), (10, 0), (11, 0), (0, 0), (10, 0)] r' 9) (bx_val [(0, 0), (0, 0), (0, 0), (0, 0), (0, 0), (0, 0), (0, 0), (0, 0), (8, 0), (9, 0), (10, 0), (11, 0), (0, 0), (10, 0)] r' 10) (bx_val [(0, 0), (0, 0), (0, 0), (0, 0), (0, 0), (0, 0), (0, 0), (0, 0), (8, 0), (9, 0), (10, 0), (11, 0), (0, 0), (10, 0)] r' 11) (bx_val [(0, 0), (0, 0), (0, 0), (0, 0), (0, 0), (0, 0), (0, 0), (0, 0), (8, 0), (9, 0), (10, 0), (11, 0), (0, 0), (10, 0)] r' 12) (bx_val [(0, 0), (0, 0), (0, 0), (0, 0), (0, 0), (0, 0), (0, 0), (0, 0), (8, 0), (9, 0), (10, 0), (11, 0), (0, 0), (10, 0)] r' 13)
    rw [bx_val_x (n := 8) (e := (8, 0)) h0_ rfl, bx_val_x (n := 9) (e := (9, 0)) h0_ rfl, bx_val_x (n := 10) (e := (10, 0)) h0_ rfl, bx_val_x (n := 11) (e := (11, 0)) h0_ rfl, bx_val_x (n := 12) (e := (0, 0)) h0_ rfl, bx_val_x (n := 13) (e := (10, 0)) h0_ rfl]
    exact g.2.2.1
  · show rxmLGN_5 S0 ws S' (bx_val [(0, 0), (0, 0), (0, 0), (0, 0), (0, 0), (0, 0), (0, 0), (0, 0), (8, 0), (9, 0), (10, 0), (11, 0), (0, 0), (10, 0)] r' 8) (bx_val [(0, 0), (0, 0), (0, 0), (0, 0), (0, 0), (0, 0), (0, 0), (0, 0), (8, 0), (9, 0), (10, 0), (11, 0), (0, 0), (10, 0)] r' 9) (bx_val [(0, 0), (0, 0), (0, 0), (0, 0), (0, 0), (0, 0), (0, 0), (0, 0), (8, 0), (9, 0), (10, 0), (11, 0), (0, 0), (10, 0)] r' 10) (bx_val [(0, 0), (0, 0), (0, 0), (0, 0), (0, 0), (0, 0), (0, 0), (0, 0), (8, 0), (9, 0), (10, 0), (11, 0), (0, 0), (10, 0)] r' 11) (bx_val [(0, 0), (0, 0), (0, 0), (0, 0), (0, 0), (0, 0), (0, 0), (0, 0), (8, 0), (9, 0), (10, 0), (11, 0), (0, 0), (10, 0)] r' 12) (bx_val [(0, 0), (0, 0), (0, 0), (0, 0), (0, 0), (0, 0), (0, 0), (0, 0), (8, 0), (9, 0), (10, 0), (11, 0), (0, 0), (10, 0)] r' 13) < rxmLGN_4 S0 ws S' (r 8) (r 9) (r 10) (r 11) (r 12) (r 13)
    rw [bx_val_x (n := 8) (e := (8, 0)) h0_ rfl, bx_val_x (n := 9) (e := (9, 0)) h0_ rfl, bx_val_x (n := 10) (e := (10, 0)) h0_ rfl, bx_val_x (n := 11) (e := (11, 0)) h0_ rfl, bx_val_x (n := 12) (e := (0, 0)) h0_ rfl, bx_val_x (n := 13) (e := (10, 0)) h0_ rfl, ← hr_ 8 (by decide), ← hr_ 9 (by decide), ← hr_ 10 (by decide), ← hr_ 11 (by decide), ← hr_ 12 (by decide), ← hr_ 13 (by decide)]
    exact g.2.2.2
theorem rxcLGN_4_1 {S0 : Nat → Int → Int} {ws : List Int} {S : Nat → Int → Int} {k r t k1 a er x14 : Int} {v : Nat} (hP : (rxPLGN v) S0 ws) (hin : bx_same rxL (bx_mdl rxCmLGN) S0 S) (I0 : bx_Inv rxL S) (hinv : rxILGN_4 S0 ws S k r t k1 a er) (l8 : 0 ≤ k) (u8 : k ≤ 11) (l9 : 0 ≤ r) (u9 : r ≤ 17) (l10 : 1 ≤ t) (u10 : t ≤ 3) (l11 : 1 ≤ k1) (u11 : k1 ≤ 12) (l12 : 0 ≤ a) (u12 : a ≤ 11) (l13 : 0 ≤ er) (u13 : er ≤ 0) (l14 : (-1) ≤ x14) (u14 : x14 ≤ 2) (e0 : S 458 r = x14) : ((0 ≤ x14 ∧ x14 ≤ 2) ∧ True) ∧ (True) ∧ rxILGN_5 S0 ws S k r t k1 x14 t ∧ rxmLGN_5 S0 ws S k r t k1 x14 t < rxmLGN_4 S0 ws S k r t k1 a er := by
  obtain ⟨h1, hw, hk1, hc, c1, c0⟩ := hinv
  rcases (show er = 0 ∨ er = 1 by omega) with he | he
  · have hne := c0 he
    have hx : S 458 r ≠ -1 := hc.resolve_left hne
    first | (exfalso; omega) | exact ⟨⟨by omega, trivial⟩, trivial, ⟨h1, hw, hk1, rfl, hc, fun q => absurd q hne, fun _ => by omega⟩, by unfold rxmLGN_4 rxmLGN_5; omega⟩
  · first | (exfalso; omega) | exact ⟨trivial, trivial, ⟨h1, hw, hk1, rfl, hc, fun _ => rfl, fun q => absurd (c1 he) q⟩, by unfold rxmLGN_4 rxmLGN_5; omega⟩
theorem rxgLGN_4_1 {X : (Nat → Int → Int) → Prop} {S0 : Nat → Int → Int} {ws : List Int} {v : Nat} (hP : (rxPLGN v) S0 ws) : bx_obC rxL X S0 rxCmLGN (rxILGN S0 ws) (rxmLGN S0 ws) 4 rxzLGN_4 rxoLGN_4_1 := by
  intro S S' r r' hinv hX hin hsm_ hseg
  obtain ⟨I0, I1, h0_, hr_, b_, f_, d_⟩ := bx_cl (evs := [(0, (0, 458), (9, 0), .inr (0, (14, 0)))]) (fvs := []) hseg (by decide +kernel) (by decide +kernel)
  have hinv : rxILGN_4 S0 ws S (r 8) (r 9) (r 10) (r 11) (r 12) (r 13) := hinv
  rw [← hr_ 8 (by decide), ← hr_ 9 (by decide), ← hr_ 10 (by decide), ← hr_ 11 (by decide), ← hr_ 12 (by decide), ← hr_ 13 (by decide)] at hinv
  obtain ⟨⟨l8, u8⟩, ⟨l9, u9⟩, ⟨l10, u10⟩, ⟨l11, u11⟩, ⟨l12, u12⟩, ⟨l13, u13⟩, ⟨l14, u14⟩, -⟩ := b_
  obtain ⟨e0, w_⟩ := d_
  subst w_
  have g := rxcLGN_4_1 hP hin I0 hinv l8 u8 l9 u9 l10 u10 l11 u11 l12 u12 l13 u13 l14 u14 e0
  refine ⟨bx_narP_ok (l := [(14, 0, 2)]) g.1, bx_nfP_ok h0_ (fvs := []) (by decide +kernel) g.2.1, ?_, ?_⟩
  · show rxILGN_5 S0 ws S' (bx_val [(0, 0), (0, 0), (0, 0), (0, 0), (0, 0), (0, 0), (0, 0), (0, 0), (8, 0), (9, 0), (10, 0), (11, 0), (14, 0), (10, 0)] r' 8) (bx_val [(0, 0), (0, 0), (0, 0), (0, 0), (0, 0), (0, 0), (0, 0), (0, 0), (8, 0), (9, 0), (10, 0), (11, 0), (14, 0), (10, 0)] r' 9) (bx_val [(0, 0), (0, 0), (0, 0), (0, 0), (0, 0), (0, 0), (0, 0), (0, 0), (8, 0), (9, 0), (10, 0), (11, 0), (14, 0), (10, 0)] r' 10) (bx_val [(0, 0), (0, 0), (0, 0), (0, 0), (0, 0), (0, 0), (0, 0), (0, 0), (8, 0), (9, 0), (10, 0), (11, 0), (14, 0), (10, 0)] r' 11) (bx_val [(0, 0), (0, 0), (0, 0), (0, 0), (0, 0), (0, 0), (0, 0), (0, 0), (8, 0), (9, 0), (10, 0), (11, 0), (14, 0), (10, 0)] r' 12) (bx_val [(0, 0), (0, 0), (0, 0), (0, 0), (0, 0), (0, 0), (0, 0), (0, 0), (8, 0), (9, 0), (10, 0), (11, 0), (14, 0), (10, 0)] r' 13)
    rw [bx_val_x (n := 8) (e := (8, 0)) h0_ rfl, bx_val_x (n := 9) (e := (9, 0)) h0_ rfl, bx_val_x (n := 10) (e := (10, 0)) h0_ rfl, bx_val_x (n := 11) (e := (11, 0)) h0_ rfl, bx_val_x (n := 12) (e := (14, 0)) h0_ rfl, bx_val_x (n := 13) (e := (10, 0)) h0_ rfl]
    exact g.2.2.1
  · show rxmLGN_5 S0 ws S' (bx_val [(0, 0), (0, 0), (0, 0), (0, 0), (0, 0), (0, 0), (0, 0), (0, 0), (8, 0), (9, 0), (10, 0), (11, 0), (14, 0), (10, 0)] r' 8) (bx_val [(0, 0), (0, 0), (0, 0), (0, 0), (0, 0), (0, 0), (0, 0), (0, 0), (8, 0), (9, 0), (10, 0), (11, 0), (14, 0), (10, 0)] r' 9) (bx_val [(0, 0), (0, 0), (0, 0), (0, 0), (0, 0), (0, 0), (0, 0), (0, 0), (8, 0), (9, 0), (10, 0), (11, 0), (14, 0), (10, 0)] r' 10) (bx_val [(0, 0), (0, 0), (0, 0), (0, 0), (0, 0), (0, 0), (0, 0), (0, 0), (8, 0), (9, 0), (10, 0), (11, 0), (14, 0), (10, 0)] r' 11) (bx_val [(0, 0), (0, 0), (0, 0), (0, 0), (0, 0), (0, 0), (0, 0), (0, 0), (8, 0), (9, 0), (10, 0), (11, 0), (14, 0), (10, 0)] r' 12) (bx_val [(0, 0), (0, 0), (0, 0), (0, 0), (0, 0), (0, 0), (0, 0), (0, 0), (8, 0), (9, 0), (10, 0), (11, 0), (14, 0), (10, 0)] r' 13) < rxmLGN_4 S0 ws S' (r 8) (r 9) (r 10) (r 11) (r 12) (r 13)
    rw [bx_val_x (n := 8) (e := (8, 0)) h0_ rfl, bx_val_x (n := 9) (e := (9, 0)) h0_ rfl, bx_val_x (n := 10) (e := (10, 0)) h0_ rfl, bx_val_x (n := 11) (e := (11, 0)) h0_ rfl, bx_val_x (n := 12) (e := (14, 0)) h0_ rfl, bx_val_x (n := 13) (e := (10, 0)) h0_ rfl, ← hr_ 8 (by decide), ← hr_ 9 (by decide), ← hr_ 10 (by decide), ← hr_ 11 (by decide), ← hr_ 12 (by decide), ← hr_ 13 (by decide)]
    exact g.2.2.2
theorem rxdLGN_6_0 {S0 : Nat → Int → Int} {ws : List Int} {S : Nat → Int → Int} {k r t k1 s1 t1 : Int} {v : Nat} (hP : (rxPLGN v) S0 ws) (hin : bx_same rxL (bx_mdl rxCmLGN) S0 S) (hin2 : bx_same rxL (bx_mdl rxCmLGN) S S) (I0 : bx_Inv rxL S) (I1 : bx_Inv rxL S) (hinv : rxILGN_6 S0 ws S k r t k1 s1 t1) (l8 : 0 ≤ k) (u8 : k ≤ 11) (l9 : 0 ≤ r) (u9 : r ≤ 17) (l10 : 1 ≤ t) (u10 : t ≤ 3) (l11 : 1 ≤ k1) (u11 : k1 ≤ 12) (l12 : 0 ≤ s1) (u12 : s1 ≤ 2) (l13 : 1 ≤ t1) (u13 : t1 ≤ 3) : (True) ∧ rxPSLGN S0 ws S none := by
  exact ⟨trivial, rfl, k, r, t, hinv.1, hinv.2⟩
theorem rxfLGN_6_0 {X : (Nat → Int → Int) → Prop} {S0 : Nat → Int → Int} {ws : List Int} {v : Nat} (hP : (rxPLGN v) S0 ws) : bx_obE rxL X S0 rxCmLGN (rxILGN S0 ws) (rxPSLGN S0 ws) 6 rxzLGN_6 rxeLGN_6_0 := by
  intro S S' r r' hinv hX hin hsm_ hseg
  obtain ⟨I0, I1, h0_, hr_, b_, f_, d_⟩ := bx_cl (evs := []) (fvs := []) hseg (by decide +kernel) (by decide +kernel)
  have hinv : rxILGN_6 S0 ws S (r 8) (r 9) (r 10) (r 11) (r 12) (r 13) := hinv
  rw [← hr_ 8 (by decide), ← hr_ 9 (by decide), ← hr_ 10 (by decide), ← hr_ 11 (by decide), ← hr_ 12 (by decide), ← hr_ 13 (by decide)] at hinv
  obtain ⟨⟨l8, u8⟩, ⟨l9, u9⟩, ⟨l10, u10⟩, ⟨l11, u11⟩, ⟨l12, u12⟩, ⟨l13, u13⟩, -⟩ := b_
  have w_ := d_
  subst w_
  have g := rxdLGN_6_0 hP hin hsm_ I0 I1 hinv l8 u8 l9 u9 l10 u10 l11 u11 l12 u12 l13 u13
  refine ⟨bx_narP_ok (l := []) g.1, ?_⟩
  exact g.2
theorem rxcLGN_7_0 {S0 : Nat → Int → Int} {ws : List Int} {S : Nat → Int → Int} {k r t x x12 : Int} {v : Nat} (hP : (rxPLGN v) S0 ws) (hin : bx_same rxL (bx_mdl rxCmLGN) S0 S) (I0 : bx_Inv rxL S) (hinv : rxILGN_7 S0 ws S k r t x) (l8 : 0 ≤ k) (u8 : k ≤ 11) (l9 : 0 ≤ r) (u9 : r ≤ 17) (l10 : 1 ≤ t) (u10 : t ≤ 3) (l11 : 0 ≤ x) (u11 : x ≤ 2) (l12 : 1 ≤ x12) (u12 : x12 ≤ 3) (f0 : t ≤ x + 1) (f1 : x < x12) (f2 : x ≤ t) (e1 : S 451 5 = x12) : (True) ∧ (True) ∧ rxILGN_8 S0 ws (bx_up S 458 r x) k r t x (k + 1) x (x + 1) ∧ rxmLGN_8 S0 ws (bx_up S 458 r x) k r t x (k + 1) x (x + 1) < rxmLGN_7 S0 ws S k r t x := by
  obtain ⟨hw, hne, hg1, h1, h2, h2b, h3, h4⟩ := hinv
  have fr := ldFr_of hin
  have f5 := fr.2.1
  exact ⟨by first | trivial | exact ⟨by omega, trivial⟩, trivial, ⟨by omega, rfl, by omega, by omega, by omega, hw, hne, hg1, ldFr_tr fr ldFr_up1, fun j => by rw [bx_up_ne (by omega)]; exact h1 j, fun j hj => by rw [bx_up_ne (by omega)]; exact h2 j hj, bx_up_at, fun j hj => by rw [bx_up_ne (by omega)]; exact h3 j hj, by rw [bx_up_ne (by omega), bx_up_ne (by omega)]; exact h4⟩, by unfold rxmLGN_7 rxmLGN_8; omega⟩
theorem rxgLGN_7_0 {X : (Nat → Int → Int) → Prop} {S0 : Nat → Int → Int} {ws : List Int} {v : Nat} (hP : (rxPLGN v) S0 ws) : bx_obC rxL X S0 rxCmLGN (rxILGN S0 ws) (rxmLGN S0 ws) 7 rxzLGN_7 rxoLGN_7_0 := by
  intro S S' r r' hinv hX hin hsm_ hseg
  obtain ⟨I0, I1, h0_, hr_, b_, f_, d_⟩ := bx_cl (evs := [(1, (0, 458), (9, 0), .inr (0, (11, 0))), (0, (0, 451), (0, 5), .inr (0, (12, 0)))]) (fvs := [(1, (10, 0), (11, 1), (0, 0)), (0, (11, 0), (12, 0), (0, 0)), (1, (11, 0), (10, 0), (0, 0))]) hseg (by decide +kernel) (by decide +kernel)
  have hinv : rxILGN_7 S0 ws S (r 8) (r 9) (r 10) (r 11) := hinv
  rw [← hr_ 8 (by decide), ← hr_ 9 (by decide), ← hr_ 10 (by decide), ← hr_ 11 (by decide)] at hinv
  obtain ⟨⟨l8, u8⟩, ⟨l9, u9⟩, ⟨l10, u10⟩, ⟨l11, u11⟩, ⟨l12, u12⟩, -⟩ := b_
  obtain ⟨f0, f1, f2, -⟩ := f_
  obtain ⟨T0, ⟨e1, w_⟩, w0⟩ := d_
  subst w0
  subst w_
  have g := rxcLGN_7_0 hP hin I0 hinv l8 u8 l9 u9 l10 u10 l11 u11 l12 u12 f0 f1 f2 e1
  refine ⟨bx_narP_ok (l := []) g.1, bx_nfP_ok h0_ (fvs := []) (by decide +kernel) g.2.1, ?_, ?_⟩
  · show rxILGN_8 S0 ws (bx_up T0 458 (r' 9) (r' 11)) (bx_val [(0, 0), (0, 0), (0, 0), (0, 0), (0, 0), (0, 0), (0, 0), (0, 0), (8, 0), (9, 0), (10, 0), (11, 0), (8, 1), (11, 0), (11, 1)] r' 8) (bx_val [(0, 0), (0, 0), (0, 0), (0, 0), (0, 0), (0, 0), (0, 0), (0, 0), (8, 0), (9, 0), (10, 0), (11, 0), (8, 1), (11, 0), (11, 1)] r' 9) (bx_val [(0, 0), (0, 0), (0, 0), (0, 0), (0, 0), (0, 0), (0, 0), (0, 0), (8, 0), (9, 0), (10, 0), (11, 0), (8, 1), (11, 0), (11, 1)] r' 10) (bx_val [(0, 0), (0, 0), (0, 0), (0, 0), (0, 0), (0, 0), (0, 0), (0, 0), (8, 0), (9, 0), (10, 0), (11, 0), (8, 1), (11, 0), (11, 1)] r' 11) (bx_val [(0, 0), (0, 0), (0, 0), (0, 0), (0, 0), (0, 0), (0, 0), (0, 0), (8, 0), (9, 0), (10, 0), (11, 0), (8, 1), (11, 0), (11, 1)] r' 12) (bx_val [(0, 0), (0, 0), (0, 0), (0, 0), (0, 0), (0, 0), (0, 0), (0, 0), (8, 0), (9, 0), (10, 0), (11, 0), (8, 1), (11, 0), (11, 1)] r' 13) (bx_val [(0, 0), (0, 0), (0, 0), (0, 0), (0, 0), (0, 0), (0, 0), (0, 0), (8, 0), (9, 0), (10, 0), (11, 0), (8, 1), (11, 0), (11, 1)] r' 14)
    rw [bx_val_x (n := 8) (e := (8, 0)) h0_ rfl, bx_val_x (n := 9) (e := (9, 0)) h0_ rfl, bx_val_x (n := 10) (e := (10, 0)) h0_ rfl, bx_val_x (n := 11) (e := (11, 0)) h0_ rfl, bx_val_x (n := 12) (e := (8, 1)) h0_ rfl, bx_val_x (n := 13) (e := (11, 0)) h0_ rfl, bx_val_x (n := 14) (e := (11, 1)) h0_ rfl]
    exact g.2.2.1
  · show rxmLGN_8 S0 ws (bx_up T0 458 (r' 9) (r' 11)) (bx_val [(0, 0), (0, 0), (0, 0), (0, 0), (0, 0), (0, 0), (0, 0), (0, 0), (8, 0), (9, 0), (10, 0), (11, 0), (8, 1), (11, 0), (11, 1)] r' 8) (bx_val [(0, 0), (0, 0), (0, 0), (0, 0), (0, 0), (0, 0), (0, 0), (0, 0), (8, 0), (9, 0), (10, 0), (11, 0), (8, 1), (11, 0), (11, 1)] r' 9) (bx_val [(0, 0), (0, 0), (0, 0), (0, 0), (0, 0), (0, 0), (0, 0), (0, 0), (8, 0), (9, 0), (10, 0), (11, 0), (8, 1), (11, 0), (11, 1)] r' 10) (bx_val [(0, 0), (0, 0), (0, 0), (0, 0), (0, 0), (0, 0), (0, 0), (0, 0), (8, 0), (9, 0), (10, 0), (11, 0), (8, 1), (11, 0), (11, 1)] r' 11) (bx_val [(0, 0), (0, 0), (0, 0), (0, 0), (0, 0), (0, 0), (0, 0), (0, 0), (8, 0), (9, 0), (10, 0), (11, 0), (8, 1), (11, 0), (11, 1)] r' 12) (bx_val [(0, 0), (0, 0), (0, 0), (0, 0), (0, 0), (0, 0), (0, 0), (0, 0), (8, 0), (9, 0), (10, 0), (11, 0), (8, 1), (11, 0), (11, 1)] r' 13) (bx_val [(0, 0), (0, 0), (0, 0), (0, 0), (0, 0), (0, 0), (0, 0), (0, 0), (8, 0), (9, 0), (10, 0), (11, 0), (8, 1), (11, 0), (11, 1)] r' 14) < rxmLGN_7 S0 ws T0 (r 8) (r 9) (r 10) (r 11)
    rw [bx_val_x (n := 8) (e := (8, 0)) h0_ rfl, bx_val_x (n := 9) (e := (9, 0)) h0_ rfl, bx_val_x (n := 10) (e := (10, 0)) h0_ rfl, bx_val_x (n := 11) (e := (11, 0)) h0_ rfl, bx_val_x (n := 12) (e := (8, 1)) h0_ rfl, bx_val_x (n := 13) (e := (11, 0)) h0_ rfl, bx_val_x (n := 14) (e := (11, 1)) h0_ rfl, ← hr_ 8 (by decide), ← hr_ 9 (by decide), ← hr_ 10 (by decide), ← hr_ 11 (by decide)]
    exact g.2.2.2
theorem rxcLGN_7_1 {S0 : Nat → Int → Int} {ws : List Int} {S : Nat → Int → Int} {k r t x x12 : Int} {v : Nat} (hP : (rxPLGN v) S0 ws) (hin : bx_same rxL (bx_mdl rxCmLGN) S0 S) (I0 : bx_Inv rxL S) (hinv : rxILGN_7 S0 ws S k r t x) (l8 : 0 ≤ k) (u8 : k ≤ 11) (l9 : 0 ≤ r) (u9 : r ≤ 17) (l10 : 2 ≤ t) (u10 : t ≤ 3) (l11 : 0 ≤ x) (u11 : x ≤ 1) (l12 : 1 ≤ x12) (u12 : x12 ≤ 3) (f0 : x + 1 < t) (f1 : x < x12) (f2 : x ≤ t) (e1 : S 451 5 = x12) : (True) ∧ (True) ∧ rxILGN_8 S0 ws (bx_up S 458 r x) k r t x (k + 1) x t ∧ rxmLGN_8 S0 ws (bx_up S 458 r x) k r t x (k + 1) x t < rxmLGN_7 S0 ws S k r t x := by
  obtain ⟨hw, hne, hg1, h1, h2, h2b, h3, h4⟩ := hinv
  have fr := ldFr_of hin
  have f5 := fr.2.1
  exact ⟨by first | trivial | exact ⟨by omega, trivial⟩, trivial, ⟨by omega, rfl, by omega, by omega, by omega, hw, hne, hg1, ldFr_tr fr ldFr_up1, fun j => by rw [bx_up_ne (by omega)]; exact h1 j, fun j hj => by rw [bx_up_ne (by omega)]; exact h2 j hj, bx_up_at, fun j hj => by rw [bx_up_ne (by omega)]; exact h3 j hj, by rw [bx_up_ne (by omega), bx_up_ne (by omega)]; exact h4⟩, by unfold rxmLGN_7 rxmLGN_8; omega⟩
theorem rxgLGN_7_1 {X : (Nat → Int → Int) → Prop} {S0 : Nat → Int → Int} {ws : List Int} {v : Nat} (hP : (rxPLGN v) S0 ws) : bx_obC rxL X S0 rxCmLGN (rxILGN S0 ws) (rxmLGN S0 ws) 7 rxzLGN_7 rxoLGN_7_1 := by
  intro S S' r r' hinv hX hin hsm_ hseg
  obtain ⟨I0, I1, h0_, hr_, b_, f_, d_⟩ := bx_cl (evs := [(1, (0, 458), (9, 0), .inr (0, (11, 0))), (0, (0, 451), (0, 5), .inr (0, (12, 0)))]) (fvs := [(0, (11, 1), (10, 0), (0, 0)), (0, (11, 0), (12, 0), (0, 0)), (1, (11, 0), (10, 0), (0, 0))]) hseg (by decide +kernel) (by decide +kernel)
  have hinv : rxILGN_7 S0 ws S (r 8) (r 9) (r 10) (r 11) := hinv
  rw [← hr_ 8 (by decide), ← hr_ 9 (by decide), ← hr_ 10 (by decide), ← hr_ 11 (by decide)] at hinv
  obtain ⟨⟨l8, u8⟩, ⟨l9, u9⟩, ⟨l10, u10⟩, ⟨l11, u11⟩, ⟨l12, u12⟩, -⟩ := b_
  obtain ⟨f0, f1, f2, -⟩ := f_
  obtain ⟨T0, ⟨e1, w_⟩, w0⟩ := d_
  subst w0
  subst w_
  have g := rxcLGN_7_1 hP hin I0 hinv l8 u8 l9 u9 l10 u10 l11 u11 l12 u12 f0 f1 f2 e1
  refine ⟨bx_narP_ok (l := []) g.1, bx_nfP_ok h0_ (fvs := []) (by decide +kernel) g.2.1, ?_, ?_⟩
  · show rxILGN_8 S0 ws (bx_up T0 458 (r' 9) (r' 11)) (bx_val [(0, 0), (0, 0), (0, 0), (0, 0), (0, 0), (0, 0), (0, 0), (0, 0), (8, 0), (9, 0), (10, 0), (11, 0), (8, 1), (11, 0), (10, 0)] r' 8) (bx_val [(0, 0), (0, 0), (0, 0), (0, 0), (0, 0), (0, 0), (0, 0), (0, 0), (8, 0), (9, 0), (10, 0), (11, 0), (8, 1), (11, 0), (10, 0)] r' 9) (bx_val [(0, 0), (0, 0), (0, 0), (0, 0), (0, 0), (0, 0), (0, 0), (0, 0), (8, 0), (9, 0), (10, 0), (11, 0), (8, 1), (11, 0), (10, 0)] r' 10) (bx_val [(0, 0), (0, 0), (0, 0), (0, 0), (0, 0), (0, 0), (0, 0), (0, 0), (8, 0), (9, 0), (10, 0), (11, 0), (8, 1), (11, 0), (10, 0)] r' 11) (bx_val [(0, 0), (0, 0), (0, 0), (0, 0), (0, 0), (0, 0), (0, 0), (0, 0), (8, 0), (9, 0), (10, 0), (11, 0), (8, 1), (11, 0), (10, 0)] r' 12) (bx_val [(0, 0), (0, 0), (0, 0), (0, 0), (0, 0), (0, 0), (0, 0), (0, 0), (8, 0), (9, 0), (10, 0), (11, 0), (8, 1), (11, 0), (10, 0)] r' 13) (bx_val [(0, 0), (0, 0), (0, 0), (0, 0), (0, 0), (0, 0), (0, 0), (0, 0), (8, 0), (9, 0), (10, 0), (11, 0), (8, 1), (11, 0), (10, 0)] r' 14)
    rw [bx_val_x (n := 8) (e := (8, 0)) h0_ rfl, bx_val_x (n := 9) (e := (9, 0)) h0_ rfl, bx_val_x (n := 10) (e := (10, 0)) h0_ rfl, bx_val_x (n := 11) (e := (11, 0)) h0_ rfl, bx_val_x (n := 12) (e := (8, 1)) h0_ rfl, bx_val_x (n := 13) (e := (11, 0)) h0_ rfl, bx_val_x (n := 14) (e := (10, 0)) h0_ rfl]
    exact g.2.2.1
  · show rxmLGN_8 S0 ws (bx_up T0 458 (r' 9) (r' 11)) (bx_val [(0, 0), (0, 0), (0, 0), (0, 0), (0, 0), (0, 0), (0, 0), (0, 0), (8, 0), (9, 0), (10, 0), (11, 0), (8, 1), (11, 0), (10, 0)] r' 8) (bx_val [(0, 0), (0, 0), (0, 0), (0, 0), (0, 0), (0, 0), (0, 0), (0, 0), (8, 0), (9, 0), (10, 0), (11, 0), (8, 1), (11, 0), (10, 0)] r' 9) (bx_val [(0, 0), (0, 0), (0, 0), (0, 0), (0, 0), (0, 0), (0, 0), (0, 0), (8, 0), (9, 0), (10, 0), (11, 0), (8, 1), (11, 0), (10, 0)] r' 10) (bx_val [(0, 0), (0, 0), (0, 0), (0, 0), (0, 0), (0, 0), (0, 0), (0, 0), (8, 0), (9, 0), (10, 0), (11, 0), (8, 1), (11, 0), (10, 0)] r' 11) (bx_val [(0, 0), (0, 0), (0, 0), (0, 0), (0, 0), (0, 0), (0, 0), (0, 0), (8, 0), (9, 0), (10, 0), (11, 0), (8, 1), (11, 0), (10, 0)] r' 12) (bx_val [(0, 0), (0, 0), (0, 0), (0, 0), (0, 0), (0, 0), (0, 0), (0, 0), (8, 0), (9, 0), (10, 0), (11, 0), (8, 1), (11, 0), (10, 0)] r' 13) (bx_val [(0, 0), (0, 0), (0, 0), (0, 0), (0, 0), (0, 0), (0, 0), (0, 0), (8, 0), (9, 0), (10, 0), (11, 0), (8, 1), (11, 0), (10, 0)] r' 14) < rxmLGN_7 S0 ws T0 (r 8) (r 9) (r 10) (r 11)
    rw [bx_val_x (n := 8) (e := (8, 0)) h0_ rfl, bx_val_x (n := 9) (e := (9, 0)) h0_ rfl, bx_val_x (n := 10) (e := (10, 0)) h0_ rfl, bx_val_x (n := 11) (e := (11, 0)) h0_ rfl, bx_val_x (n := 12) (e := (8, 1)) h0_ rfl, bx_val_x (n := 13) (e := (11, 0)) h0_ rfl, bx_val_x (n := 14) (e := (10, 0)) h0_ rfl, ← hr_ 8 (by decide), ← hr_ 9 (by decide), ← hr_ 10 (by decide), ← hr_ 11 (by decide)]
    exact g.2.2.2
theorem rxdLGN_7_0 {S0 : Nat → Int → Int} {ws : List Int} {S : Nat → Int → Int} {k r t x x12 : Int} {v : Nat} (hP : (rxPLGN v) S0 ws) (hin : bx_same rxL (bx_mdl rxCmLGN) S0 S) (hin2 : bx_same rxL (bx_mdl rxCmLGN) S (bx_up S 458 r ((-1)))) (I0 : bx_Inv rxL S) (I1 : bx_Inv rxL (bx_up S 458 r ((-1)))) (hinv : rxILGN_7 S0 ws S k r t x) (l8 : 0 ≤ k) (u8 : k ≤ 11) (l9 : 0 ≤ r) (u9 : r ≤ 17) (l10 : 1 ≤ t) (u10 : t ≤ 3) (l11 : 0 ≤ x) (u11 : x ≤ 3) (l12 : 0 ≤ x12) (u12 : x12 ≤ 3) (f0 : x12 ≤ x) (f1 : x ≤ t) (e1 : S 451 5 = x12) : (True) ∧ rxPSLGN S0 ws (bx_up S 458 r ((-1))) none := by
  obtain ⟨hw, hne, hg1, h1, h2, h2b, h3, h4⟩ := hinv
  obtain ⟨k9, r9, t9, hw2, hkn, hpb, hlen, hlv, hv1⟩ := hP
  have w0_ : k = k9 := Option.some.inj (congrArg (fun l => l[1]?) (hw.symm.trans hw2))
  subst w0_
  have w1_ : r = r9 := Option.some.inj (congrArg (fun l => l[2]?) (hw.symm.trans hw2))
  subst w1_
  have w2_ : t = t9 := Option.some.inj (congrArg (fun l => l[3]?) (hw.symm.trans hw2))
  subst w2_
  have fr := ldFr_of hin
  have f5 := fr.2.1
  refine ⟨trivial, rfl, k, r, t, hw, fun j => by rw [bx_up_ne (by omega)]; exact h1 j, fun j => ?_, fun j hj => by rw [bx_up_ne (by omega)]; exact h3 j hj, ?_⟩
  · by_cases hj : j = r
    · subst hj
      rw [bx_up_at, hg1]
    · rw [bx_up_ne (by omega)]
      exact h2 j hj
  · rw [bx_up_ne (by omega), bx_up_ne (by omega), ldGS_3 l8 hkn l9 (by omega) hne hg1, ← ldXs_e (x := x) (by omega)]
    exact h4
theorem rxfLGN_7_0 {X : (Nat → Int → Int) → Prop} {S0 : Nat → Int → Int} {ws : List Int} {v : Nat} (hP : (rxPLGN v) S0 ws) : bx_obE rxL X S0 rxCmLGN (rxILGN S0 ws) (rxPSLGN S0 ws) 7 rxzLGN_7 rxeLGN_7_0 := by
  intro S S' r r' hinv hX hin hsm_ hseg
  obtain ⟨I0, I1, h0_, hr_, b_, f_, d_⟩ := bx_cl (evs := [(1, (0, 458), (9, 0), .inr (0, (0, (-1)))), (0, (0, 451), (0, 5), .inr (0, (12, 0)))]) (fvs := [(1, (12, 0), (11, 0), (0, 0)), (1, (11, 0), (10, 0), (0, 0))]) hseg (by decide +kernel) (by decide +kernel)
  have hinv : rxILGN_7 S0 ws S (r 8) (r 9) (r 10) (r 11) := hinv
  rw [← hr_ 8 (by decide), ← hr_ 9 (by decide), ← hr_ 10 (by decide), ← hr_ 11 (by decide)] at hinv
  obtain ⟨⟨l8, u8⟩, ⟨l9, u9⟩, ⟨l10, u10⟩, ⟨l11, u11⟩, ⟨l12, u12⟩, -⟩ := b_
  obtain ⟨f0, f1, -⟩ := f_
  obtain ⟨T0, ⟨e1, w_⟩, w0⟩ := d_
  subst w0
  subst w_
  have g := rxdLGN_7_0 hP hin hsm_ I0 I1 hinv l8 u8 l9 u9 l10 u10 l11 u11 l12 u12 f0 f1 e1
  refine ⟨bx_narP_ok (l := []) g.1, ?_⟩
  exact g.2
theorem rxdLGN_7_1 {S0 : Nat → Int → Int} {ws : List Int} {S : Nat → Int → Int} {k r t x : Int} {v : Nat} (hP : (rxPLGN v) S0 ws) (hin : bx_same rxL (bx_mdl rxCmLGN) S0 S) (hin2 : bx_same rxL (bx_mdl rxCmLGN) S (bx_up S 458 r ((-1)))) (I0 : bx_Inv rxL S) (I1 : bx_Inv rxL (bx_up S 458 r ((-1)))) (hinv : rxILGN_7 S0 ws S k r t x) (l8 : 0 ≤ k) (u8 : k ≤ 11) (l9 : 0 ≤ r) (u9 : r ≤ 17) (l10 : 1 ≤ t) (u10 : t ≤ 2) (l11 : 2 ≤ x) (u11 : x ≤ 3) (f0 : t < x) : (True) ∧ rxPSLGN S0 ws (bx_up S 458 r ((-1))) none := by
  obtain ⟨hw, hne, hg1, h1, h2, h2b, h3, h4⟩ := hinv
  obtain ⟨k9, r9, t9, hw2, hkn, hpb, hlen, hlv, hv1⟩ := hP
  have w0_ : k = k9 := Option.some.inj (congrArg (fun l => l[1]?) (hw.symm.trans hw2))
  subst w0_
  have w1_ : r = r9 := Option.some.inj (congrArg (fun l => l[2]?) (hw.symm.trans hw2))
  subst w1_
  have w2_ : t = t9 := Option.some.inj (congrArg (fun l => l[3]?) (hw.symm.trans hw2))
  subst w2_
  have fr := ldFr_of hin
  have f5 := fr.2.1
  refine ⟨trivial, rfl, k, r, t, hw, fun j => by rw [bx_up_ne (by omega)]; exact h1 j, fun j => ?_, fun j hj => by rw [bx_up_ne (by omega)]; exact h3 j hj, ?_⟩
  · by_cases hj : j = r
    · subst hj
      rw [bx_up_at, hg1]
    · rw [bx_up_ne (by omega)]
      exact h2 j hj
  · rw [bx_up_ne (by omega), bx_up_ne (by omega), ldGS_3 l8 hkn l9 (by omega) hne hg1, ← ldXs_e (x := x) (by omega)]
    exact h4
theorem rxfLGN_7_1 {X : (Nat → Int → Int) → Prop} {S0 : Nat → Int → Int} {ws : List Int} {v : Nat} (hP : (rxPLGN v) S0 ws) : bx_obE rxL X S0 rxCmLGN (rxILGN S0 ws) (rxPSLGN S0 ws) 7 rxzLGN_7 rxeLGN_7_1 := by
  intro S S' r r' hinv hX hin hsm_ hseg
  obtain ⟨I0, I1, h0_, hr_, b_, f_, d_⟩ := bx_cl (evs := [(1, (0, 458), (9, 0), .inr (0, (0, (-1))))]) (fvs := [(0, (10, 0), (11, 0), (0, 0))]) hseg (by decide +kernel) (by decide +kernel)
  have hinv : rxILGN_7 S0 ws S (r 8) (r 9) (r 10) (r 11) := hinv
  rw [← hr_ 8 (by decide), ← hr_ 9 (by decide), ← hr_ 10 (by decide), ← hr_ 11 (by decide)] at hinv
  obtain ⟨⟨l8, u8⟩, ⟨l9, u9⟩, ⟨l10, u10⟩, ⟨l11, u11⟩, -⟩ := b_
  obtain ⟨f0, -⟩ := f_
  obtain ⟨T0, w_, w0⟩ := d_
  subst w0
  subst w_
  have g := rxdLGN_7_1 hP hin hsm_ I0 I1 hinv l8 u8 l9 u9 l10 u10 l11 u11 f0
  refine ⟨bx_narP_ok (l := []) g.1, ?_⟩
  exact g.2
theorem rxcLGN_9_0 {S0 : Nat → Int → Int} {ws : List Int} {S : Nat → Int → Int} {k r t x k1 s1 t1 : Int} {v : Nat} (hP : (rxPLGN v) S0 ws) (hin : bx_same rxL (bx_mdl rxCmLGN) S0 S) (I0 : bx_Inv rxL S) (hinv : rxILGN_9 S0 ws S k r t x k1 s1 t1) (l8 : 0 ≤ k) (u8 : k ≤ 11) (l9 : 0 ≤ r) (u9 : r ≤ 17) (l10 : 1 ≤ t) (u10 : t ≤ 3) (l11 : 0 ≤ x) (u11 : x ≤ 2) (l12 : 1 ≤ k1) (u12 : k1 ≤ 12) (l13 : 0 ≤ s1) (u13 : s1 ≤ 2) (l14 : 1 ≤ t1) (u14 : t1 ≤ 3) : (True) ∧ (True) ∧ rxILGN_7 S0 ws S k r t (x + 1) ∧ rxmLGN_7 S0 ws S k r t (x + 1) < rxmLGN_9 S0 ws S k r t x k1 s1 t1 := by
  exact ⟨trivial, trivial, hinv, by unfold rxmLGN_9 rxmLGN_7; omega⟩
theorem rxgLGN_9_0 {X : (Nat → Int → Int) → Prop} {S0 : Nat → Int → Int} {ws : List Int} {v : Nat} (hP : (rxPLGN v) S0 ws) : bx_obC rxL X S0 rxCmLGN (rxILGN S0 ws) (rxmLGN S0 ws) 9 rxzLGN_9 rxoLGN_9_0 := by
  intro S S' r r' hinv hX hin hsm_ hseg
  obtain ⟨I0, I1, h0_, hr_, b_, f_, d_⟩ := bx_cl (evs := []) (fvs := []) hseg (by decide +kernel) (by decide +kernel)
  have hinv : rxILGN_9 S0 ws S (r 8) (r 9) (r 10) (r 11) (r 12) (r 13) (r 14) := hinv
  rw [← hr_ 8 (by decide), ← hr_ 9 (by decide), ← hr_ 10 (by decide), ← hr_ 11 (by decide), ← hr_ 12 (by decide), ← hr_ 13 (by decide), ← hr_ 14 (by decide)] at hinv
  obtain ⟨⟨l8, u8⟩, ⟨l9, u9⟩, ⟨l10, u10⟩, ⟨l11, u11⟩, ⟨l12, u12⟩, ⟨l13, u13⟩, ⟨l14, u14⟩, -⟩ := b_
  have w_ := d_
  subst w_
  have g := rxcLGN_9_0 hP hin I0 hinv l8 u8 l9 u9 l10 u10 l11 u11 l12 u12 l13 u13 l14 u14
  refine ⟨bx_narP_ok (l := []) g.1, bx_nfP_ok h0_ (fvs := []) (by decide +kernel) g.2.1, ?_, ?_⟩
  · show rxILGN_7 S0 ws S' (bx_val [(0, 0), (0, 0), (0, 0), (0, 0), (0, 0), (0, 0), (0, 0), (0, 0), (8, 0), (9, 0), (10, 0), (11, 1)] r' 8) (bx_val [(0, 0), (0, 0), (0, 0), (0, 0), (0, 0), (0, 0), (0, 0), (0, 0), (8, 0), (9, 0), (10, 0), (11, 1)] r' 9) (bx_val [(0, 0), (0, 0), (0, 0), (0, 0), (0, 0), (0, 0), (0, 0), (0, 0), (8, 0), (9, 0), (10, 0), (11, 1)] r' 10) (bx_val [(0, 0), (0, 0), (0, 0), (0, 0), (0, 0), (0, 0), (0, 0), (0, 0), (8, 0), (9, 0), (10, 0), (11, 1)] r' 11)
    rw [bx_val_x (n := 8) (e := (8, 0)) h0_ rfl, bx_val_x (n := 9) (e := (9, 0)) h0_ rfl, bx_val_x (n := 10) (e := (10, 0)) h0_ rfl, bx_val_x (n := 11) (e := (11, 1)) h0_ rfl]
    exact g.2.2.1
  · show rxmLGN_7 S0 ws S' (bx_val [(0, 0), (0, 0), (0, 0), (0, 0), (0, 0), (0, 0), (0, 0), (0, 0), (8, 0), (9, 0), (10, 0), (11, 1)] r' 8) (bx_val [(0, 0), (0, 0), (0, 0), (0, 0), (0, 0), (0, 0), (0, 0), (0, 0), (8, 0), (9, 0), (10, 0), (11, 1)] r' 9) (bx_val [(0, 0), (0, 0), (0, 0), (0, 0), (0, 0), (0, 0), (0, 0), (0, 0), (8, 0), (9, 0), (10, 0), (11, 1)] r' 10) (bx_val [(0, 0), (0, 0), (0, 0), (0, 0), (0, 0), (0, 0), (0, 0), (0, 0), (8, 0), (9, 0), (10, 0), (11, 1)] r' 11) < rxmLGN_9 S0 ws S' (r 8) (r 9) (r 10) (r 11) (r 12) (r 13) (r 14)
    rw [bx_val_x (n := 8) (e := (8, 0)) h0_ rfl, bx_val_x (n := 9) (e := (9, 0)) h0_ rfl, bx_val_x (n := 10) (e := (10, 0)) h0_ rfl, bx_val_x (n := 11) (e := (11, 1)) h0_ rfl, ← hr_ 8 (by decide), ← hr_ 9 (by decide), ← hr_ 10 (by decide), ← hr_ 11 (by decide), ← hr_ 12 (by decide), ← hr_ 13 (by decide), ← hr_ 14 (by decide)]
    exact g.2.2.2
theorem rxgCLGN {v : Nat} {X : (Nat → Int → Int) → Prop} {S0 : Nat → Int → Int} {ws : List Int} (hP : (rxPLGN v) S0 ws) : bx_allI (fun i q => rxULGN q = true ∨ bx_allP (fun o => bx_obC rxL X S0 rxCmLGN (rxILGN S0 ws) (rxmLGN S0 ws) i q.1 o) q.2.1) 0 rxYLGN := ⟨Or.inr ⟨rxgLGN_0_0 hP, trivial⟩, Or.inl rfl, Or.inr ⟨rxgLGN_2_0 hP, rxgLGN_2_1 hP, rxgLGN_2_2 hP, trivial⟩, Or.inl rfl, Or.inr ⟨rxgLGN_4_0 hP, rxgLGN_4_1 hP, trivial⟩, Or.inl rfl, Or.inr trivial, Or.inr ⟨rxgLGN_7_0 hP, rxgLGN_7_1 hP, trivial⟩, Or.inl rfl, Or.inr ⟨rxgLGN_9_0 hP, trivial⟩, trivial⟩
theorem rxgELGN {v : Nat} {X : (Nat → Int → Int) → Prop} {S0 : Nat → Int → Int} {ws : List Int} (hP : (rxPLGN v) S0 ws) : bx_allI (fun i q => rxULGN q = true ∨ bx_allP (fun E => bx_obE rxL X S0 rxCmLGN (rxILGN S0 ws) (rxPSLGN S0 ws) i q.1 E) q.2.2) 0 rxYLGN := ⟨Or.inr trivial, Or.inl rfl, Or.inr trivial, Or.inl rfl, Or.inr trivial, Or.inl rfl, Or.inr ⟨rxfLGN_6_0 hP, trivial⟩, Or.inr ⟨rxfLGN_7_0 hP, rxfLGN_7_1 hP, trivial⟩, Or.inl rfl, Or.inr trivial, trivial⟩
/-! CONTRACT BY HAND, by program (wip/sim/genhand.py): DeadUnderstudies$Least.explore -/
def rxILEX_0 (S0 : Nat → Int → Int) (ws : List Int) (S : Nat → Int → Int) (k s t : Int) : Prop := S = S0 ∧ ws = [451, k, s, t]
def rxmLEX_0 (S0 : Nat → Int → Int) (ws : List Int) (S : Nat → Int → Int) (k s t : Int) : Nat := 1000
def rxzLEX_0 : rx_Z := ([(0, 0), (0, 0), (0, 0), (0, 0), (0, 0), (0, 0), (0, 0), (0, 0), (0, 12), (0, 2), (1, 3)], [], [], 0, 0, 0, [(0, .inr (3, (0, 451))), (1, .inr (0, (8, 0))), (2, .inr (0, (9, 0))), (3, .inr (0, (10, 0)))], [])
def rxILEX_1 (S0 : Nat → Int → Int) (ws : List Int) (S : Nat → Int → Int) (k s t wy : Int) : Prop := S = S0 ∧ ws = [451, k, s, t] ∧ k = S 451 0 ∧ wy = S 451 9
def rxmLEX_1 (S0 : Nat → Int → Int) (ws : List Int) (S : Nat → Int → Int) (k s t wy : Int) : Nat := 900
def rxzLEX_1 : rx_Z := ([(0, 0), (0, 0), (0, 0), (0, 0), (0, 0), (0, 0), (0, 0), (0, 0), (0, 12), (0, 2), (1, 3), (0, 600000)], [], [], 0, 0, 44, [(0, .inr (3, (0, 451))), (1, .inr (0, (8, 0))), (2, .inr (0, (9, 0))), (3, .inr (0, (10, 0)))], [.inr (0, (11, 0)), .inr (3, (0, 451))])
def rxILEX_2 (S0 : Nat → Int → Int) (ws : List Int) (S : Nat → Int → Int) (k s t bt : Int) : Prop := ldU9 S0 S ∧ ws = [451, k, s, t] ∧ k = S0 451 0 ∧ 0 ≤ S0 451 6 ∧ bt = S0 451 10
def rxmLEX_2 (S0 : Nat → Int → Int) (ws : List Int) (S : Nat → Int → Int) (k s t bt : Int) : Nat := 800
def rxzLEX_2 : rx_Z := ([(0, 0), (0, 0), (0, 0), (0, 0), (0, 0), (0, 0), (0, 0), (0, 0), (0, 12), (0, 2), (1, 3), (0, 1023)], [], [], 0, 0, 62, [(0, .inr (3, (0, 451))), (1, .inr (0, (8, 0))), (2, .inr (0, (9, 0))), (3, .inr (0, (10, 0)))], [.inr (3, (0, 451)), .inr (0, (11, 0)), .inr (3, (0, 451))])
def rxILEX_3 (S0 : Nat → Int → Int) (ws : List Int) (S : Nat → Int → Int) (k s t bt wh : Int) : Prop := ldU9 S0 S ∧ ws = [451, k, s, t] ∧ k = S0 451 0 ∧ 0 ≤ S0 451 6 ∧ bt = S0 451 10 ∧ wh = (ldl (S0 451 5) (S0 451 7) (S0 455 (S0 451 6)) (S0 453) (S0 457) (S0 458) (S0 456) : Nat)
def rxmLEX_3 (S0 : Nat → Int → Int) (ws : List Int) (S : Nat → Int → Int) (k s t bt wh : Int) : Nat := 700
def rxzLEX_3 : rx_Z := ([(0, 0), (0, 0), (0, 0), (0, 0), (0, 0), (0, 0), (0, 0), (0, 0), (0, 12), (0, 2), (1, 3), (0, 1023), (0, 1023)], [], [], 0, 0, 65, [(0, .inr (3, (0, 451))), (1, .inr (0, (8, 0))), (2, .inr (0, (9, 0))), (3, .inr (0, (10, 0)))], [.inr (0, (12, 0)), .inr (0, (11, 0)), .inr (3, (0, 451))])
def rxILEX_4 (S0 : Nat → Int → Int) (ws : List Int) (S : Nat → Int → Int) (k s t bt wh bo : Int) : Prop := ldU9 S0 S ∧ ws = [451, k, s, t] ∧ k = S0 451 0 ∧ 0 ≤ S0 451 6 ∧ bo = (((S0 451 10).toNat ||| ldl (S0 451 5) (S0 451 7) (S0 455 (S0 451 6)) (S0 453) (S0 457) (S0 458) (S0 456) : Nat) : Int)
def rxmLEX_4 (S0 : Nat → Int → Int) (ws : List Int) (S : Nat → Int → Int) (k s t bt wh bo : Int) : Nat := 600
def rxzLEX_4 : rx_Z := ([(0, 0), (0, 0), (0, 0), (0, 0), (0, 0), (0, 0), (0, 0), (0, 0), (0, 12), (0, 2), (1, 3), (0, 1023), (0, 1023), (0, 1023)], [], [], 0, 0, 66, [(0, .inr (3, (0, 451))), (1, .inr (0, (8, 0))), (2, .inr (0, (9, 0))), (3, .inr (0, (10, 0)))], [.inr (0, (13, 0)), .inr (3, (0, 451))])
def rxILEX_5 (S0 : Nat → Int → Int) (ws : List Int) (S : Nat → Int → Int) (k s t s2 c : Int) : Prop := S = S0 ∧ ws = [451, k, s, t] ∧ k < S 451 0 ∧ s2 = s ∧ c = S 453 k
def rxmLEX_5 (S0 : Nat → Int → Int) (ws : List Int) (S : Nat → Int → Int) (k s t s2 c : Int) : Nat := 900
def rxzLEX_5 : rx_Z := ([(0, 0), (0, 0), (0, 0), (0, 0), (0, 0), (0, 0), (0, 0), (0, 0), (0, 11), (0, 2), (1, 3), (0, 2), (0, 5)], [], [], 0, 0, 77, [(0, .inr (3, (0, 451))), (1, .inr (0, (8, 0))), (2, .inr (0, (9, 0))), (3, .inr (0, (10, 0)))], [.inr (0, (12, 0)), .inr (0, (11, 0))])
def rxILEX_6 (S0 : Nat → Int → Int) (ws : List Int) (S : Nat → Int → Int) (k s t s2 c r : Int) : Prop := S = S0 ∧ ws = [451, k, s, t] ∧ k < S 451 0 ∧ r = 6 * s + S 453 k
def rxmLEX_6 (S0 : Nat → Int → Int) (ws : List Int) (S : Nat → Int → Int) (k s t s2 c r : Int) : Nat := 800
def rxzLEX_6 : rx_Z := ([(0, 0), (0, 0), (0, 0), (0, 0), (0, 0), (0, 0), (0, 0), (0, 0), (0, 11), (0, 2), (1, 3), (0, 2), (0, 5), (0, 17)], [], [], 0, 0, 80, [(0, .inr (3, (0, 451))), (1, .inr (0, (8, 0))), (2, .inr (0, (9, 0))), (3, .inr (0, (10, 0)))], [.inr (0, (13, 0))])
def rxILEX_7 (S0 : Nat → Int → Int) (ws : List Int) (S : Nat → Int → Int) (k s t r fr : Int) : Prop := S = S0 ∧ ws = [451, k, s, t] ∧ k < S0 451 0 ∧ r = 6 * s + S0 453 k ∧ (fr = 1 → S0 457 r = -1) ∧ (fr = 0 → S0 457 r = S0 454 k)
def rxmLEX_7 (S0 : Nat → Int → Int) (ws : List Int) (S : Nat → Int → Int) (k s t r fr : Int) : Nat := 700
def rxzLEX_7 : rx_Z := ([(0, 0), (0, 0), (0, 0), (0, 0), (0, 0), (0, 0), (0, 0), (0, 0), (0, 11), (0, 2), (1, 3), (0, 17), (0, 1)], [], [], 0, 0, 127, [(0, .inr (3, (0, 451))), (1, .inr (0, (8, 0))), (2, .inr (0, (9, 0))), (3, .inr (0, (10, 0))), (4, .inr (0, (11, 0))), (5, .inr (0, (12, 0)))], [])
def rxILEX_8 (S0 : Nat → Int → Int) (ws : List Int) (S : Nat → Int → Int) (k s t r fr k2 r2 t2 : Int) : Prop := k2 = k ∧ r2 = r ∧ t2 = t ∧ ws = [451, k, s, t] ∧ k < S0 451 0 ∧ r = 6 * s + S0 453 k ∧ (fr = 1 → S0 457 r = -1) ∧ (fr = 0 → S0 457 r = S0 454 k) ∧ ldFr S0 S ∧ S 451 9 = S0 451 9 ∧ S 451 10 = S0 451 10 ∧ S 457 = ldu (S0 457) r (S0 454 k) ∧ S 458 = S0 458 ∧ S 456 = ldu (S0 456) k s
def rxmLEX_8 (S0 : Nat → Int → Int) (ws : List Int) (S : Nat → Int → Int) (k s t r fr k2 r2 t2 : Int) : Nat := 600
def rxzLEX_8 : rx_Z := ([(0, 0), (0, 0), (0, 0), (0, 0), (0, 0), (0, 0), (0, 0), (0, 0), (0, 11), (0, 2), (1, 3), (0, 17), (0, 1), (0, 11), (0, 17), (1, 3)], [], [], 0, 0, 152, [(0, .inr (3, (0, 451))), (1, .inr (0, (8, 0))), (2, .inr (0, (9, 0))), (3, .inr (0, (10, 0))), (4, .inr (0, (11, 0))), (5, .inr (0, (12, 0)))], [.inr (0, (15, 0)), .inr (0, (14, 0)), .inr (0, (13, 0)), .inr (3, (0, 451))])
def rxILEX_9 (S0 : Nat → Int → Int) (ws : List Int) (S : Nat → Int → Int) (k s t r fr k2 r2 t2 : Int) : Prop := ws = [451, k, s, t] ∧ k < S0 451 0 ∧ (fr = 1 → S0 457 r = -1) ∧ (fr = 0 → S0 457 r = S0 454 k) ∧ (∀ j : Int, S 457 j = ldu (S0 457) r (S0 454 k) j) ∧ (∀ j : Int, S 458 j = S0 458 j) ∧ (∀ j : Int, j < k → S 456 j = S0 456 j) ∧ ldO (S0 451 8) (S0 451 6) (ldTS S0 k s t) (S0 451 9) (S0 451 10) (S 451 9) (S 451 10)
def rxmLEX_9 (S0 : Nat → Int → Int) (ws : List Int) (S : Nat → Int → Int) (k s t r fr k2 r2 t2 : Int) : Nat := 500
def rxzLEX_9 : rx_Z := ([(0, 0), (0, 0), (0, 0), (0, 0), (0, 0), (0, 0), (0, 0), (0, 0), (0, 11), (0, 2), (1, 3), (0, 17), (0, 1), (0, 11), (0, 17), (1, 3)], [], [], 0, 0, 155, [(0, .inr (3, (0, 451))), (1, .inr (0, (8, 0))), (2, .inr (0, (9, 0))), (3, .inr (0, (10, 0))), (4, .inr (0, (11, 0))), (5, .inr (0, (12, 0)))], [])
def rxoLEX_0_0 : bx_HO := (([(0, 0), (0, 0), (0, 0), (0, 0), (0, 0), (0, 0), (0, 0), (0, 0), (0, 11), (0, 2), (1, 3), (1, 1), ((-2147483648), 0), ((-2147483648), 2147483647), (1, 12), (0, 5)], [(0, (8, 0), (14, 0)), (3, (13, 0), (0, 1023)), (3, (11, 0), (0, 0))], [(((0, 0), 1851192626986356797424364830707437625680387377997778265131778048000000), .inr (0, (15, 0))), (((0, 451), 2), .inr (3, (0, 453))), (((0, 0), 1851192626986356797424340330377019318111018015026043177819373568000000), .inr (0, (14, 0))), (((0, 451), 0), .inr (0, (14, 0))), (((0, 0), 1851192626986356799431407398244775400849232659564395713357611008000000), .inr (0, (13, 0))), (((0, 451), 10), .inr (0, (13, 0))), (((0, 0), 1851192626986356799230700691457999792575411195110560459803787264000000), .inr (0, (12, 0))), (((0, 451), 9), .inr (0, (12, 0))), (((0, 0), 1851192626986356799029993984671224184301589730656725206249963520000000), .inr (0, (11, 0))), (((0, 451), 8), .inr (0, (11, 0)))], 0, 0, 77, [(0, .inr (3, (0, 451))), (1, .inr (0, (8, 0))), (2, .inr (0, (9, 0))), (3, .inr (0, (10, 0)))], [.inr (0, (15, 0)), .inr (0, (9, 0))]), [], [], [(0, 0), (0, 0), (0, 0), (0, 0), (0, 0), (0, 0), (0, 0), (0, 0), (8, 0), (9, 0), (10, 0), (9, 0), (15, 0)], 5)
def rxoLEX_0_1 : bx_HO := (([(0, 0), (0, 0), (0, 0), (0, 0), (0, 0), (0, 0), (0, 0), (0, 0), (0, 12), (0, 2), (1, 3), (1, 1), ((-2147483648), 0), ((-2147483648), 2147483647), (0, 12)], [(1, (14, 0), (8, 0)), (3, (13, 0), (0, 1023)), (3, (11, 0), (0, 0))], [(((0, 0), 1851192626986356797424340330377019318111018015026043177819373568000000), .inr (0, (14, 0))), (((0, 451), 0), .inr (0, (14, 0))), (((0, 0), 1851192626986356799431407398244775400849232659564395713357611008000000), .inr (0, (13, 0))), (((0, 451), 10), .inr (0, (13, 0))), (((0, 0), 1851192626986356799230700691457999792575411195110560459803787264000000), .inr (0, (12, 0))), (((0, 451), 9), .inr (0, (12, 0))), (((0, 0), 1851192626986356799029993984671224184301589730656725206249963520000000), .inr (0, (11, 0))), (((0, 451), 8), .inr (0, (11, 0)))], 0, 0, 44, [(0, .inr (3, (0, 451))), (1, .inr (0, (8, 0))), (2, .inr (0, (9, 0))), (3, .inr (0, (10, 0)))], [.inr (0, (12, 0)), .inr (3, (0, 451))]), [(12, 0, 600000)], [], [(0, 0), (0, 0), (0, 0), (0, 0), (0, 0), (0, 0), (0, 0), (0, 0), (8, 0), (9, 0), (10, 0), (12, 0)], 1)
def rxoLEX_0_2 : bx_HO := (([(0, 0), (0, 0), (0, 0), (0, 0), (0, 0), (0, 0), (0, 0), (0, 0), (0, 11), (0, 2), (1, 3), (0, 0), ((-2147483648), 2147483647), (1, 12), (0, 5)], [(0, (8, 0), (13, 0)), (3, (12, 0), (0, 1023))], [(((0, 0), 1851192626986356797424364830707437625680387377997778265131778048000000), .inr (0, (14, 0))), (((0, 451), 2), .inr (3, (0, 453))), (((0, 0), 1851192626986356797424340330377019318111018015026043177819373568000000), .inr (0, (13, 0))), (((0, 451), 0), .inr (0, (13, 0))), (((0, 0), 1851192626986356799431407398244775400849232659564395713357611008000000), .inr (0, (12, 0))), (((0, 451), 10), .inr (0, (12, 0))), (((0, 0), 1851192626986356799029993984671224184301589730656725206249963520000000), .inr (0, (11, 0))), (((0, 451), 8), .inr (0, (11, 0)))], 0, 0, 77, [(0, .inr (3, (0, 451))), (1, .inr (0, (8, 0))), (2, .inr (0, (9, 0))), (3, .inr (0, (10, 0)))], [.inr (0, (14, 0)), .inr (0, (9, 0))]), [], [], [(0, 0), (0, 0), (0, 0), (0, 0), (0, 0), (0, 0), (0, 0), (0, 0), (8, 0), (9, 0), (10, 0), (9, 0), (14, 0)], 5)
def rxoLEX_0_3 : bx_HO := (([(0, 0), (0, 0), (0, 0), (0, 0), (0, 0), (0, 0), (0, 0), (0, 0), (0, 12), (0, 2), (1, 3), (0, 0), ((-2147483648), 2147483647), (0, 12), ((-2147483648), 2147483647)], [(1, (13, 0), (8, 0)), (3, (12, 0), (0, 1023))], [(((0, 0), 1851192626986356799230700691457999792575411195110560459803787264000000), .inr (0, (14, 0))), (((0, 451), 9), .inr (0, (14, 0))), (((0, 0), 1851192626986356797424340330377019318111018015026043177819373568000000), .inr (0, (13, 0))), (((0, 451), 0), .inr (0, (13, 0))), (((0, 0), 1851192626986356799431407398244775400849232659564395713357611008000000), .inr (0, (12, 0))), (((0, 451), 10), .inr (0, (12, 0))), (((0, 0), 1851192626986356799029993984671224184301589730656725206249963520000000), .inr (0, (11, 0))), (((0, 451), 8), .inr (0, (11, 0)))], 0, 0, 44, [(0, .inr (3, (0, 451))), (1, .inr (0, (8, 0))), (2, .inr (0, (9, 0))), (3, .inr (0, (10, 0)))], [.inr (0, (14, 0)), .inr (3, (0, 451))]), [(14, 0, 600000)], [], [(0, 0), (0, 0), (0, 0), (0, 0), (0, 0), (0, 0), (0, 0), (0, 0), (8, 0), (9, 0), (10, 0), (14, 0)], 1)
def rxeLEX_0_0 : rx_End × List (Nat × Int × Int) := (([(0, 0), (0, 0), (0, 0), (0, 0), (0, 0), (0, 0), (0, 0), (0, 0), (0, 12), (0, 2), (1, 3), (1, 1), ((-2147483648), 0), (1023, 1023)], [(3, (11, 0), (0, 0))], [(((0, 0), 1851192626986356799431407398244775400849232659564395713357611008000000), .inr (0, (13, 0))), (((0, 451), 10), .inr (0, (13, 0))), (((0, 0), 1851192626986356799230700691457999792575411195110560459803787264000000), .inr (0, (12, 0))), (((0, 451), 9), .inr (0, (12, 0))), (((0, 0), 1851192626986356799029993984671224184301589730656725206249963520000000), .inr (0, (11, 0))), (((0, 451), 8), .inr (0, (11, 0)))], none), [])
def rxeLEX_0_1 : rx_End × List (Nat × Int × Int) := (([(0, 0), (0, 0), (0, 0), (0, 0), (0, 0), (0, 0), (0, 0), (0, 0), (0, 12), (0, 2), (1, 3), (1, 1), (1, 2147483647)], [(3, (11, 0), (0, 0))], [(((0, 0), 1851192626986356799230700691457999792575411195110560459803787264000000), .inr (0, (12, 0))), (((0, 451), 9), .inr (0, (12, 0))), (((0, 0), 1851192626986356799029993984671224184301589730656725206249963520000000), .inr (0, (11, 0))), (((0, 451), 8), .inr (0, (11, 0)))], none), [])
def rxeLEX_0_2 : rx_End × List (Nat × Int × Int) := (([(0, 0), (0, 0), (0, 0), (0, 0), (0, 0), (0, 0), (0, 0), (0, 0), (0, 12), (0, 2), (1, 3), (0, 0), (1023, 1023)], [], [(((0, 0), 1851192626986356799431407398244775400849232659564395713357611008000000), .inr (0, (12, 0))), (((0, 451), 10), .inr (0, (12, 0))), (((0, 0), 1851192626986356799029993984671224184301589730656725206249963520000000), .inr (0, (11, 0))), (((0, 451), 8), .inr (0, (11, 0)))], none), [])
def rxoLEX_1_0 : bx_HO := (([(0, 0), (0, 0), (0, 0), (0, 0), (0, 0), (0, 0), (0, 0), (0, 0), (0, 12), (0, 2), (1, 3), (0, 600000), (0, 3), ((-2147483648), 2147483647)], [], [(((0, 0), 1851192626986356799431407398244775400849232659564395713357611008000000), .inr (0, (13, 0))), (((0, 451), 10), .inr (0, (13, 0))), (((0, 0), 1851192626986356798628580571097672967753946801749054699142316032000000), .inr (0, (12, 0))), (((0, 451), 6), .inr (0, (12, 0))), (((0, 0), 1851192626986356799230700691457999792575411195110560459803787267000000), .inr (0, (11, 1))), (((0, 451), 9), .inr (0, (11, 1)))], 0, 0, 62, [(0, .inr (3, (0, 451))), (1, .inr (0, (8, 0))), (2, .inr (0, (9, 0))), (3, .inr (0, (10, 0)))], [.inr (3, (0, 451)), .inr (0, (13, 0)), .inr (3, (0, 451))]), [(13, 0, 1023)], [], [(0, 0), (0, 0), (0, 0), (0, 0), (0, 0), (0, 0), (0, 0), (0, 0), (8, 0), (9, 0), (10, 0), (13, 0)], 2)
def rxeLEX_1_0 : rx_End × List (Nat × Int × Int) := (([(0, 0), (0, 0), (0, 0), (0, 0), (0, 0), (0, 0), (0, 0), (0, 0), (0, 12), (0, 2), (1, 3), (0, 600000), ((-1), (-1))], [], [(((0, 0), 1851192626986356798628580571097672967753946801749054699142316032000000), .inr (0, (12, 0))), (((0, 451), 6), .inr (0, (12, 0))), (((0, 0), 1851192626986356799230700691457999792575411195110560459803787267000000), .inr (0, (11, 1))), (((0, 451), 9), .inr (0, (11, 1)))], none), [])
def rxeLEX_4_0 : rx_End × List (Nat × Int × Int) := (([(0, 0), (0, 0), (0, 0), (0, 0), (0, 0), (0, 0), (0, 0), (0, 0), (0, 12), (0, 2), (1, 3), (0, 1023), (0, 1023), (0, 1023)], [], [(((0, 0), 1851192626986356799431407398244775400849232659564395713357611011000000), .inr (0, (13, 0))), (((0, 451), 10), .inr (0, (13, 0)))], none), [])
def rxoLEX_6_0 : bx_HO := (([(0, 0), (0, 0), (0, 0), (0, 0), (0, 0), (0, 0), (0, 0), (0, 0), (0, 11), (0, 2), (1, 3), (0, 2), (0, 5), (0, 17), ((-1), (-1))], [], [(((0, 0), 1851192626986356797424380143413949067911243229855112694703652864000000), .inr (0, (14, 0))), (((0, 451), 12), .inr (3, (0, 457)))], 0, 0, 127, [(5, .inr (0, (0, 1))), (4, .inr (0, (13, 0))), (0, .inr (3, (0, 451))), (1, .inr (0, (8, 0))), (2, .inr (0, (9, 0))), (3, .inr (0, (10, 0)))], []), [], [], [(0, 0), (0, 0), (0, 0), (0, 0), (0, 0), (0, 0), (0, 0), (0, 0), (8, 0), (9, 0), (10, 0), (13, 0), (0, 1)], 7)
def rxoLEX_6_1 : bx_HO := (([(0, 0), (0, 0), (0, 0), (0, 0), (0, 0), (0, 0), (0, 0), (0, 0), (0, 11), (0, 2), (1, 3), (0, 2), (0, 5), (0, 17), (0, 9), (0, 9), (0, 9)], [(2, (15, 0), (16, 0))], [(((0, 0), 1851192626986356797424364830707437625680387377997778265132367872000000), .inr (0, (16, 0))), (((0, 451), 3), .inr (3, (0, 454))), (((0, 0), 1851192626986356797424380143413949067911243229855112694703652864000000), .inr (0, (15, 0))), (((0, 0), 1851192626986356797424380143413949067911243229855112694703652864000000), .inr (0, (14, 0))), (((0, 451), 12), .inr (3, (0, 457)))], 0, 0, 127, [(5, .inr (0, (0, 0))), (4, .inr (0, (13, 0))), (0, .inr (3, (0, 451))), (1, .inr (0, (8, 0))), (2, .inr (0, (9, 0))), (3, .inr (0, (10, 0)))], []), [], [], [(0, 0), (0, 0), (0, 0), (0, 0), (0, 0), (0, 0), (0, 0), (0, 0), (8, 0), (9, 0), (10, 0), (13, 0), (0, 0)], 7)
def rxeLEX_6_0 : rx_End × List (Nat × Int × Int) := (([(0, 0), (0, 0), (0, 0), (0, 0), (0, 0), (0, 0), (0, 0), (0, 0), (0, 11), (0, 2), (1, 3), (0, 2), (0, 5), (0, 17), (0, 9), ((-1), 9), (0, 9)], [(3, (15, 0), (16, 0))], [(((0, 0), 1851192626986356797424364830707437625680387377997778265132367872000000), .inr (0, (16, 0))), (((0, 451), 3), .inr (3, (0, 454))), (((0, 0), 1851192626986356797424380143413949067911243229855112694703652864000000), .inr (0, (15, 0))), (((0, 0), 1851192626986356797424380143413949067911243229855112694703652864000000), .inr (0, (14, 0))), (((0, 451), 12), .inr (3, (0, 457)))], none), [])
def rxoLEX_7_0 : bx_HO := (([(0, 0), (0, 0), (0, 0), (0, 0), (0, 0), (0, 0), (0, 0), (0, 0), (0, 11), (0, 2), (1, 3), (0, 17), (0, 1), (0, 9)], [], [(((0, 0), 1851192626986356797424364830707437625680387377997778265133547523000000), .inr (0, (9, 0))), (((0, 451), 11), .inr (3, (0, 456))), (((0, 0), 1851192626986356797424374018331344491018900889112178922875846659000000), .inr (0, (13, 0))), (((0, 0), 1851192626986356797424364830707437625680387377997778265132367872000000), .inr (0, (13, 0))), (((0, 451), 3), .inr (3, (0, 454))), (((0, 451), 12), .inr (3, (0, 457)))], 0, 0, 152, [(0, .inr (3, (0, 451))), (1, .inr (0, (8, 0))), (2, .inr (0, (9, 0))), (3, .inr (0, (10, 0))), (4, .inr (0, (11, 0))), (5, .inr (0, (12, 0)))], [.inr (0, (10, 0)), .inr (0, (11, 0)), .inr (0, (8, 0)), .inr (3, (0, 451))]), [], [], [(0, 0), (0, 0), (0, 0), (0, 0), (0, 0), (0, 0), (0, 0), (0, 0), (8, 0), (9, 0), (10, 0), (11, 0), (12, 0), (8, 0), (11, 0), (10, 0)], 8)
def rxeLEX_9_0 : rx_End × List (Nat × Int × Int) := (([(0, 0), (0, 0), (0, 0), (0, 0), (0, 0), (0, 0), (0, 0), (0, 0), (0, 11), (0, 2), (1, 3), (0, 17), (1, 1), (0, 11), (0, 17), (1, 3)], [(3, (12, 0), (0, 0))], [(((0, 0), 1851192626986356797424374018331344491018900889112178922875846659000000), .inr (0, (0, (-1)))), (((0, 451), 12), .inr (3, (0, 457)))], none), [])
def rxeLEX_9_1 : rx_End × List (Nat × Int × Int) := (([(0, 0), (0, 0), (0, 0), (0, 0), (0, 0), (0, 0), (0, 0), (0, 0), (0, 11), (0, 2), (1, 3), (0, 17), (0, 0), (0, 11), (0, 17), (1, 3)], [], [], none), [])
def rxYLEX : List bx_HE := [(rxzLEX_0, [rxoLEX_0_0, rxoLEX_0_1, rxoLEX_0_2, rxoLEX_0_3], [rxeLEX_0_0, rxeLEX_0_1, rxeLEX_0_2]), (rxzLEX_1, [rxoLEX_1_0], [rxeLEX_1_0]), (rxzLEX_2, [], []), (rxzLEX_3, [], []), (rxzLEX_4, [], [rxeLEX_4_0]), (rxzLEX_5, [], []), (rxzLEX_6, [rxoLEX_6_0, rxoLEX_6_1], [rxeLEX_6_0]), (rxzLEX_7, [rxoLEX_7_0], []), (rxzLEX_8, [], []), (rxzLEX_9, [], [rxeLEX_9_0, rxeLEX_9_1])]
def rxULEX (q : bx_HE) : Bool := Nat.beq (rx_zpc q.1) 62 || Nat.beq (rx_zpc q.1) 65 || Nat.beq (rx_zpc q.1) 77 || Nat.beq (rx_zpc q.1) 152
def rxYBLEX : bx_B := (rxV, rxNP, rxDmf, bx_mdH rxCmLEX)
def rxILEX (S0 : Nat → Int → Int) (ws : List Int) (i : Nat) : bx_SP := fun S r => match i with | 0 => rxILEX_0 S0 ws S (r 8) (r 9) (r 10) | 1 => rxILEX_1 S0 ws S (r 8) (r 9) (r 10) (r 11) | 2 => rxILEX_2 S0 ws S (r 8) (r 9) (r 10) (r 11) | 3 => rxILEX_3 S0 ws S (r 8) (r 9) (r 10) (r 11) (r 12) | 4 => rxILEX_4 S0 ws S (r 8) (r 9) (r 10) (r 11) (r 12) (r 13) | 5 => rxILEX_5 S0 ws S (r 8) (r 9) (r 10) (r 11) (r 12) | 6 => rxILEX_6 S0 ws S (r 8) (r 9) (r 10) (r 11) (r 12) (r 13) | 7 => rxILEX_7 S0 ws S (r 8) (r 9) (r 10) (r 11) (r 12) | 8 => rxILEX_8 S0 ws S (r 8) (r 9) (r 10) (r 11) (r 12) (r 13) (r 14) (r 15) | 9 => rxILEX_9 S0 ws S (r 8) (r 9) (r 10) (r 11) (r 12) (r 13) (r 14) (r 15) | _ => False
def rxmLEX (S0 : Nat → Int → Int) (ws : List Int) (i : Nat) (S : Nat → Int → Int) (r : Nat → Int) : Nat := match i with | 0 => rxmLEX_0 S0 ws S (r 8) (r 9) (r 10) | 1 => rxmLEX_1 S0 ws S (r 8) (r 9) (r 10) (r 11) | 2 => rxmLEX_2 S0 ws S (r 8) (r 9) (r 10) (r 11) | 3 => rxmLEX_3 S0 ws S (r 8) (r 9) (r 10) (r 11) (r 12) | 4 => rxmLEX_4 S0 ws S (r 8) (r 9) (r 10) (r 11) (r 12) (r 13) | 5 => rxmLEX_5 S0 ws S (r 8) (r 9) (r 10) (r 11) (r 12) | 6 => rxmLEX_6 S0 ws S (r 8) (r 9) (r 10) (r 11) (r 12) (r 13) | 7 => rxmLEX_7 S0 ws S (r 8) (r 9) (r 10) (r 11) (r 12) | 8 => rxmLEX_8 S0 ws S (r 8) (r 9) (r 10) (r 11) (r 12) (r 13) (r 14) (r 15) | 9 => rxmLEX_9 S0 ws S (r 8) (r 9) (r 10) (r 11) (r 12) (r 13) (r 14) (r 15) | _ => 0
theorem rxkLEX_2 {S0 : Nat → Int → Int} {ws : List Int} {S : Nat → Int → Int} {k s t bt : Int} {v : Nat} (hP : (rxPLEX v) S0 ws) (hin : bx_same rxL (bx_mdl rxCmLEX) S0 S) (I0 : bx_Inv rxL S) (hinv : rxILEX_2 S0 ws S k s t bt) (l8 : 0 ≤ k) (u8 : k ≤ 12) (l9 : 0 ≤ s) (u9 : s ≤ 2) (l10 : 1 ≤ t) (u10 : t ≤ 3) (l11 : 0 ≤ bt) (u11 : bt ≤ 1023) : rxPLWH S [451] ∧ ∀ (S' : Nat → Int → Int) (wh : Int), 0 ≤ wh → wh ≤ 1023 → rxPSLWH S [451] S' (some wh) → bx_Inv rxL S' → bx_same rxL (bx_mdl rxCLWH.2.2.1) S S' → rxILEX_3 S0 ws S' k s t bt wh ∧ rxmLEX_3 S0 ws S' k s t bt wh < rxmLEX_2 S0 ws S k s t bt := by
  obtain ⟨hu, hw, hk, h6, hb⟩ := hinv
  obtain ⟨k9, s9, t9, hw2, hkn, hpb, hlen, hlv⟩ := hP
  have w0_ : k = k9 := Option.some.inj (congrArg (fun l => l[1]?) (hw.symm.trans hw2))
  subst w0_
  have w1_ : s = s9 := Option.some.inj (congrArg (fun l => l[2]?) (hw.symm.trans hw2))
  subst w1_
  have w2_ : t = t9 := Option.some.inj (congrArg (fun l => l[3]?) (hw.symm.trans hw2))
  subst w2_
  have u : ∀ (j : Int), j ≠ 9 → S 451 j = S0 451 j := fun j hj => hu.2 451 j (fun q => hj q.2)
  have r : ∀ (p : Nat), p ≠ 451 → S p = S0 p := fun p hp => funext fun j => hu.2 p j (fun q => hp q.1)
  refine ⟨⟨by rw [u 6 (by omega)]; exact h6, by rw [u 7 (by omega)]; exact hpb.2.2.2.2.1 h6, by rw [r 458 (by omega), u 5 (by omega)]; exact hpb.2.1, by rw [u 5 (by omega)]; exact hpb.1⟩, fun S' wh g0 g1 hq I1 hsm => ?_⟩
  obtain ⟨e, hr⟩ := hq
  have hr := Option.some.inj hr
  rw [u 5 (by omega), u 7 (by omega), u 6 (by omega), r 455 (by omega), r 453 (by omega), r 457 (by omega), r 458 (by omega), r 456 (by omega)] at hr
  exact ⟨⟨by rw [e]; exact hu, hw, hk, h6, hb, hr⟩, by unfold rxmLEX_2 rxmLEX_3; omega⟩
theorem rxsLEX_2 {X : (Nat → Int → Int) → Prop} {S0 : Nat → Int → Int} {ws : List Int} {v : Nat} (hP : (rxPLEX v) S0 ws) : rx_obK X S0 rxCmLEX rxCLWH.2.2.1 (rxILEX S0 ws) (rxmLEX S0 ws) 2 3 rxzLEX_2 rxzLEX_3 [.inr (3, (0, 451))] (some 12) rxPLWH rxPSLWH := by
  intro S r hinv hXS I0 hin hs_ hf_
  have b_ := bx_bds_sat hs_
  have f_ := bx_fcl_ok hs_.1 hf_
  obtain ⟨⟨l8, u8⟩, ⟨l9, u9⟩, ⟨l10, u10⟩, ⟨l11, u11⟩, -⟩ := b_
  have g := rxkLEX_2 hP hin I0 hinv l8 u8 l9 u9 l10 u10 l11 u11
  have ea : List.map (bx_num r) [.inr (3, (0, 451))] = [451] := by
    simp only [List.map_cons, List.map_nil, bx_xv_ok hs_.1]
    rfl
  rw [ea]
  refine ⟨g.1, fun S' w r' hPS hX' I1 hsm hr hw hs' => ?_⟩
  have hw := hw _ rfl
  subst hw
  have b' := hs'.2.2 12 _ _ rfl
  have g2 := g.2 S' (r' 12) b'.1 b'.2 hPS I1 hsm
  show rxILEX_3 S0 ws S' (r' 8) (r' 9) (r' 10) (r' 11) (r' 12) ∧ rxmLEX_3 S0 ws S' (r' 8) (r' 9) (r' 10) (r' 11) (r' 12) < _
  rw [hr 8 (by decide), hr 9 (by decide), hr 10 (by decide), hr 11 (by decide)]
  exact g2
theorem rxbLEX_3 {S0 : Nat → Int → Int} {ws : List Int} {S : Nat → Int → Int} {k s t bt wh : Int} {v : Nat} (hP : (rxPLEX v) S0 ws) (hin : bx_same rxL (bx_mdl rxCmLEX) S0 S) (I0 : bx_Inv rxL S) (hinv : rxILEX_3 S0 ws S k s t bt wh) (l8 : 0 ≤ k) (u8 : k ≤ 12) (l9 : 0 ≤ s) (u9 : s ≤ 2) (l10 : 1 ≤ t) (u10 : t ≤ 3) (l11 : 0 ≤ bt) (u11 : bt ≤ 1023) (l12 : 0 ≤ wh) (u12 : wh ≤ 1023) : bx_opc 6 bt wh ∧ ∀ bo : Int, bo = bx_opv 6 bt wh → (0 ≤ bo ∧ bo ≤ 1023) ∧ rxILEX_4 S0 ws S k s t bt wh bo ∧ rxmLEX_4 S0 ws S k s t bt wh bo < rxmLEX_3 S0 ws S k s t bt wh := by
  obtain ⟨hu, hw, hk, h6, hb, hwh⟩ := hinv
  refine ⟨⟨by omega, by omega, by omega⟩, fun y hy => ?_⟩
  have hy : y = ((bt.toNat ||| wh.toNat : Nat) : Int) := hy
  have hle := ldor_le (x := bt.toNat) (y := wh.toNat) (by omega) (by omega)
  refine ⟨⟨by omega, by omega⟩, ⟨hu, hw, hk, h6, ?_⟩, by unfold rxmLEX_3 rxmLEX_4; omega⟩
  rw [hy, hwh, hb]
  rfl
theorem rxsLEX_3 {X : (Nat → Int → Int) → Prop} {S0 : Nat → Int → Int} {ws : List Int} {v : Nat} (hP : (rxPLEX v) S0 ws) : rx_obB X S0 rxCmLEX (rxILEX S0 ws) (rxmLEX S0 ws) 3 4 rxzLEX_3 6 (11, 0) (12, 0) 0 1023 := by
  intro S r hinv hXS I0 hin hs_ hf_
  have b_ := bx_bds_sat hs_
  have f_ := bx_fcl_ok hs_.1 hf_
  obtain ⟨⟨l8, u8⟩, ⟨l9, u9⟩, ⟨l10, u10⟩, ⟨l11, u11⟩, ⟨l12, u12⟩, -⟩ := b_
  have g := rxbLEX_3 hP hin I0 hinv l8 u8 l9 u9 l10 u10 l11 u11 l12 u12
  rw [bx_x_ok hs_.1, bx_x_ok hs_.1]
  refine ⟨g.1, fun r' hr h0_ hv => ?_⟩
  have g2 := g.2 (r' 13) hv
  show _ ∧ rxILEX_4 S0 ws S (r' 8) (r' 9) (r' 10) (r' 11) (r' 12) (r' 13) ∧ rxmLEX_4 S0 ws S (r' 8) (r' 9) (r' 10) (r' 11) (r' 12) (r' 13) < _
  rw [hr 8 (by decide), hr 9 (by decide), hr 10 (by decide), hr 11 (by decide), hr 12 (by decide)]
  exact g2
theorem rxkLEX_5 {S0 : Nat → Int → Int} {ws : List Int} {S : Nat → Int → Int} {k s t s2 c : Int} {v : Nat} (hP : (rxPLEX v) S0 ws) (hin : bx_same rxL (bx_mdl rxCmLEX) S0 S) (I0 : bx_Inv rxL S) (hinv : rxILEX_5 S0 ws S k s t s2 c) (l8 : 0 ≤ k) (u8 : k ≤ 11) (l9 : 0 ≤ s) (u9 : s ≤ 2) (l10 : 1 ≤ t) (u10 : t ≤ 3) (l11 : 0 ≤ s2) (u11 : s2 ≤ 2) (l12 : 0 ≤ c) (u12 : c ≤ 5) : rxPLRA S [s2, c] ∧ ∀ (S' : Nat → Int → Int) (r : Int), 0 ≤ r → r ≤ 17 → rxPSLRA S [s2, c] S' (some r) → bx_Inv rxL S' → bx_same rxL (bx_mdl rxCLRA.2.2.1) S S' → rxILEX_6 S0 ws S' k s t s2 c r ∧ rxmLEX_6 S0 ws S' k s t s2 c r < rxmLEX_5 S0 ws S k s t s2 c := by
  obtain ⟨h1, hw, hk, h2, h3⟩ := hinv
  refine ⟨trivial, fun S' r g0 g1 hq I1 hsm => ?_⟩
  obtain ⟨e, s', c', hw2, hr⟩ := hq
  simp only [List.cons.injEq, and_true] at hw2
  obtain ⟨q1, q2⟩ := hw2
  have hr := Option.some.inj hr
  refine ⟨⟨e.trans h1, hw, by rw [e]; exact hk, ?_⟩, by unfold rxmLEX_5 rxmLEX_6; omega⟩
  rw [e]
  omega
theorem rxsLEX_5 {X : (Nat → Int → Int) → Prop} {S0 : Nat → Int → Int} {ws : List Int} {v : Nat} (hP : (rxPLEX v) S0 ws) : rx_obK X S0 rxCmLEX rxCLRA.2.2.1 (rxILEX S0 ws) (rxmLEX S0 ws) 5 6 rxzLEX_5 rxzLEX_6 [.inr (0, (11, 0)), .inr (0, (12, 0))] (some 13) rxPLRA rxPSLRA := by
  intro S r hinv hXS I0 hin hs_ hf_
  have b_ := bx_bds_sat hs_
  have f_ := bx_fcl_ok hs_.1 hf_
  obtain ⟨⟨l8, u8⟩, ⟨l9, u9⟩, ⟨l10, u10⟩, ⟨l11, u11⟩, ⟨l12, u12⟩, -⟩ := b_
  have g := rxkLEX_5 hP hin I0 hinv l8 u8 l9 u9 l10 u10 l11 u11 l12 u12
  have ea : List.map (bx_num r) [.inr (0, (11, 0)), .inr (0, (12, 0))] = [(r 11), (r 12)] := by
    simp only [List.map_cons, List.map_nil, bx_xv_ok hs_.1]
    rfl
  rw [ea]
  refine ⟨g.1, fun S' w r' hPS hX' I1 hsm hr hw hs' => ?_⟩
  have hw := hw _ rfl
  subst hw
  have b' := hs'.2.2 13 _ _ rfl
  have g2 := g.2 S' (r' 13) b'.1 b'.2 hPS I1 hsm
  show rxILEX_6 S0 ws S' (r' 8) (r' 9) (r' 10) (r' 11) (r' 12) (r' 13) ∧ rxmLEX_6 S0 ws S' (r' 8) (r' 9) (r' 10) (r' 11) (r' 12) (r' 13) < _
  rw [hr 8 (by decide), hr 9 (by decide), hr 10 (by decide), hr 11 (by decide), hr 12 (by decide)]
  exact g2
theorem rxkLEX_8 {S0 : Nat → Int → Int} {ws : List Int} {S : Nat → Int → Int} {k s t r fr k2 r2 t2 : Int} {v : Nat} (hP : (rxPLEX v) S0 ws) (hin : bx_same rxL (bx_mdl rxCmLEX) S0 S) (I0 : bx_Inv rxL S) (hinv : rxILEX_8 S0 ws S k s t r fr k2 r2 t2) (l8 : 0 ≤ k) (u8 : k ≤ 11) (l9 : 0 ≤ s) (u9 : s ≤ 2) (l10 : 1 ≤ t) (u10 : t ≤ 3) (l11 : 0 ≤ r) (u11 : r ≤ 17) (l12 : 0 ≤ fr) (u12 : fr ≤ 1) (l13 : 0 ≤ k2) (u13 : k2 ≤ 11) (l14 : 0 ≤ r2) (u14 : r2 ≤ 17) (l15 : 1 ≤ t2) (u15 : t2 ≤ 3) : (rxPLGN v) S [451, k2, r2, t2] ∧ ∀ (S' : Nat → Int → Int), rxPSLGN S [451, k2, r2, t2] S' none → bx_Inv rxL S' → bx_same rxL (bx_mdl rxCmLGN) S S' → rxILEX_9 S0 ws S' k s t r fr k2 r2 t2 ∧ rxmLEX_9 S0 ws S' k s t r fr k2 r2 t2 < rxmLEX_8 S0 ws S k s t r fr k2 r2 t2 := by
  obtain ⟨hk2, hr2, ht2, hw, hk, hr, hf1, hf0, hfr, h9, h10, h457, h458, h456⟩ := hinv
  subst hk2
  subst hr2
  subst ht2
  obtain ⟨k9, s9, t9, hw2, hkn, hpb, hlen, hlv⟩ := hP
  have w0_ : k2 = k9 := Option.some.inj (congrArg (fun l => l[1]?) (hw.symm.trans hw2))
  subst w0_
  have w1_ : s = s9 := Option.some.inj (congrArg (fun l => l[2]?) (hw.symm.trans hw2))
  subst w1_
  have w2_ : t2 = t9 := Option.some.inj (congrArg (fun l => l[3]?) (hw.symm.trans hw2))
  subst w2_
  have hb9 := ld451 I0
  have hfr0 := hfr.1
  obtain ⟨p1, p2, p3, p4, p5, p6, p7, p8⟩ := id hpb
  have eT := ldTS_s (S0 := S0) (S := S) (k := k2) (s := s) (t := t2) (r := r2) (by omega) (by omega) hk hr (by omega) (by omega) ((show fr = 1 ∨ fr = 0 by omega).imp hf1 hf0) hfr h457 h458 h456
  refine ⟨⟨k2, r2, t2, rfl, by omega, ldPb_cg hpb I0 hfr (fun j a b => by rw [h458]; exact p2 j a b) (by omega) (fun q => by rw [h10]; exact p4 q) (by rw [h10]; exact p8), by rw [h9, ← eT]; exact hlen, hlv, by omega⟩, fun S' hq I1 hsm => ?_⟩
  obtain ⟨-, k8, r8, t8, hw8, q1, q2, q3, q4⟩ := hq
  simp only [List.cons.injEq, and_true, true_and] at hw8
  obtain ⟨e1, e2, e3⟩ := hw8
  rw [← e1, ← e2, ← e3, ← eT, hfr.2.2.2.2.1, hfr.2.2.1, h9, h10] at q4
  exact ⟨⟨hw, hk, hf1, hf0, fun j => by rw [q1, h457], fun j => by rw [q2, h458], fun j hj => by rw [q3 j (by omega), h456, ldu_ne (by omega)], q4⟩, by unfold rxmLEX_8 rxmLEX_9; omega⟩
theorem rxsLEX_8 {X : (Nat → Int → Int) → Prop} {S0 : Nat → Int → Int} {ws : List Int} {v : Nat} (hP : (rxPLEX v) S0 ws) : rx_obK X S0 rxCmLEX rxCmLGN (rxILEX S0 ws) (rxmLEX S0 ws) 8 9 rxzLEX_8 rxzLEX_9 [.inr (3, (0, 451)), .inr (0, (13, 0)), .inr (0, (14, 0)), .inr (0, (15, 0))] none (rxPLGN v) rxPSLGN := by
  intro S r hinv hXS I0 hin hs_ hf_
  have b_ := bx_bds_sat hs_
  have f_ := bx_fcl_ok hs_.1 hf_
  obtain ⟨⟨l8, u8⟩, ⟨l9, u9⟩, ⟨l10, u10⟩, ⟨l11, u11⟩, ⟨l12, u12⟩, ⟨l13, u13⟩, ⟨l14, u14⟩, ⟨l15, u15⟩, -⟩ := b_
  have g := rxkLEX_8 hP hin I0 hinv l8 u8 l9 u9 l10 u10 l11 u11 l12 u12 l13 u13 l14 u14 l15 u15
  have ea : List.map (bx_num r) [.inr (3, (0, 451)), .inr (0, (13, 0)), .inr (0, (14, 0)), .inr (0, (15, 0))] = [451, (r 13), (r 14), (r 15)] := by
    simp only [List.map_cons, List.map_nil, bx_xv_ok hs_.1]
    rfl
  rw [ea]
  refine ⟨g.1, fun S' w r' hPS hX' I1 hsm hr hw hs' => ?_⟩
  have hw : w = none := hPS.1
  subst hw
  have g2 := g.2 S' hPS I1 hsm
  show rxILEX_9 S0 ws S' (r' 8) (r' 9) (r' 10) (r' 11) (r' 12) (r' 13) (r' 14) (r' 15) ∧ rxmLEX_9 S0 ws S' (r' 8) (r' 9) (r' 10) (r' 11) (r' 12) (r' 13) (r' 14) (r' 15) < _
  rw [hr 8 (by decide), hr 9 (by decide), hr 10 (by decide), hr 11 (by decide), hr 12 (by decide), hr 13 (by decide), hr 14 (by decide), hr 15 (by decide)]
  exact g2
theorem rxcLEX_0_0 {S0 : Nat → Int → Int} {ws : List Int} {S : Nat → Int → Int} {k s t x11 x12 x13 x14 x15 : Int} {v : Nat} (hP : (rxPLEX v) S0 ws) (hin : bx_same rxL (bx_mdl rxCmLEX) S0 S) (I0 : bx_Inv rxL S) (hinv : rxILEX_0 S0 ws S k s t) (l8 : 0 ≤ k) (u8 : k ≤ 11) (l9 : 0 ≤ s) (u9 : s ≤ 2) (l10 : 1 ≤ t) (u10 : t ≤ 3) (l11 : 1 ≤ x11) (u11 : x11 ≤ 1) (l12 : (-2147483648) ≤ x12) (u12 : x12 ≤ 0) (l13 : (-2147483648) ≤ x13) (u13 : x13 ≤ 2147483647) (l14 : 1 ≤ x14) (u14 : x14 ≤ 12) (l15 : 0 ≤ x15) (u15 : x15 ≤ 5) (f0 : k < x14) (f1 : x13 ≠ 1023) (f2 : x11 ≠ 0) (e4 : S 451 8 = x11) (e3 : S 451 9 = x12) (e2 : S 451 10 = x13) (e1 : S 451 0 = x14) (e0 : S 453 k = x15) : (True) ∧ (True) ∧ rxILEX_5 S0 ws S k s t s x15 ∧ rxmLEX_5 S0 ws S k s t s x15 < rxmLEX_0 S0 ws S k s t := by
  obtain ⟨rfl, hw⟩ := hinv
  exact ⟨by first | trivial | exact ⟨by omega, trivial⟩, trivial, ⟨rfl, hw, by omega, rfl, by omega⟩, by unfold rxmLEX_0 rxmLEX_5; omega⟩
theorem rxgLEX_0_0 {X : (Nat → Int → Int) → Prop} {S0 : Nat → Int → Int} {ws : List Int} {v : Nat} (hP : (rxPLEX v) S0 ws) : bx_obC rxL X S0 rxCmLEX (rxILEX S0 ws) (rxmLEX S0 ws) 0 rxzLEX_0 rxoLEX_0_0 := by
  intro S S' r r' hinv hX hin hsm_ hseg
  obtain ⟨I0, I1, h0_, hr_, b_, f_, d_⟩ := bx_cl (evs := [(0, (0, 453), (8, 0), .inr (0, (15, 0))), (0, (0, 451), (0, 0), .inr (0, (14, 0))), (0, (0, 451), (0, 10), .inr (0, (13, 0))), (0, (0, 451), (0, 9), .inr (0, (12, 0))), (0, (0, 451), (0, 8), .inr (0, (11, 0)))]) (fvs := [(0, (8, 0), (14, 0), (0, 0)), (3, (13, 0), (0, 1023), (0, 0)), (3, (11, 0), (0, 0), (0, 0))]) hseg (by decide +kernel) (by decide +kernel)
  have hinv : rxILEX_0 S0 ws S (r 8) (r 9) (r 10) := hinv
  rw [← hr_ 8 (by decide), ← hr_ 9 (by decide), ← hr_ 10 (by decide)] at hinv
  obtain ⟨⟨l8, u8⟩, ⟨l9, u9⟩, ⟨l10, u10⟩, ⟨l11, u11⟩, ⟨l12, u12⟩, ⟨l13, u13⟩, ⟨l14, u14⟩, ⟨l15, u15⟩, -⟩ := b_
  obtain ⟨f0, f1, f2, -⟩ := f_
  obtain ⟨e0, ⟨e1, ⟨e2, ⟨e3, ⟨e4, w_⟩⟩⟩⟩⟩ := d_
  subst w_
  have g := rxcLEX_0_0 hP hin I0 hinv l8 u8 l9 u9 l10 u10 l11 u11 l12 u12 l13 u13 l14 u14 l15 u15 f0 f1 f2 e4 e3 e2 e1 e0
  refine ⟨bx_narP_ok (l := []) g.1, bx_nfP_ok h0_ (fvs := []) (by decide +kernel) g.2.1, ?_, ?_⟩
  · show rxILEX_5 S0 ws S' (bx_val [(0, 0), (0, 0), (0, 0), (0, 0), (0, 0), (0, 0), (0, 0), (0, 0), (8, 0), (9, 0), (10, 0), (9, 0), (15, 0)] r' 8) (bx_val [(0, 0), (0, 0), (0, 0), (0, 0), (0, 0), (0, 0), (0, 0), (0, 0), (8, 0), (9, 0), (10, 0), (9, 0), (15, 0)] r' 9) (bx_val [(0, 0), (0, 0), (0, 0), (0, 0), (0, 0), (0, 0), (0, 0), (0, 0), (8, 0), (9, 0), (10, 0), (9, 0), (15, 0)] r' 10) (bx_val [(0, 0), (0, 0), (0, 0), (0, 0), (0, 0), (0, 0), (0, 0), (0, 0), (8, 0), (9, 0), (10, 0), (9, 0), (15, 0)] r' 11) (bx_val [(0, 0), (0, 0), (0, 0), (0, 0), (0, 0), (0, 0), (0, 0), (0, 0), (8, 0), (9, 0), (10, 0), (9, 0), (15, 0)] r' 12)
    rw [bx_val_x (n := 8) (e := (8, 0)) h0_ rfl, bx_val_x (n := 9) (e := (9, 0)) h0_ rfl, bx_val_x (n := 10) (e := (10, 0)) h0_ rfl, bx_val_x (n := 11) (e := (9, 0)) h0_ rfl, bx_val_x (n := 12) (e := (15, 0)) h0_ rfl]
    exact g.2.2.1
  · show rxmLEX_5 S0 ws S' (bx_val [(0, 0), (0, 0), (0, 0), (0, 0), (0, 0), (0, 0), (0, 0), (0, 0), (8, 0), (9, 0), (10, 0), (9, 0), (15, 0)] r' 8) (bx_val [(0, 0), (0, 0), (0, 0), (0, 0), (0, 0), (0, 0), (0, 0), (0, 0), (8, 0), (9, 0), (10, 0), (9, 0), (15, 0)] r' 9) (bx_val [(0, 0), (0, 0), (0, 0), (0, 0), (0, 0), (0, 0), (0, 0), (0, 0), (8, 0), (9, 0), (10, 0), (9, 0), (15, 0)] r' 10) (bx_val [(0, 0), (0, 0), (0, 0), (0, 0), (0, 0), (0, 0), (0, 0), (0, 0), (8, 0), (9, 0), (10, 0), (9, 0), (15, 0)] r' 11) (bx_val [(0, 0), (0, 0), (0, 0), (0, 0), (0, 0), (0, 0), (0, 0), (0, 0), (8, 0), (9, 0), (10, 0), (9, 0), (15, 0)] r' 12) < rxmLEX_0 S0 ws S' (r 8) (r 9) (r 10)
    rw [bx_val_x (n := 8) (e := (8, 0)) h0_ rfl, bx_val_x (n := 9) (e := (9, 0)) h0_ rfl, bx_val_x (n := 10) (e := (10, 0)) h0_ rfl, bx_val_x (n := 11) (e := (9, 0)) h0_ rfl, bx_val_x (n := 12) (e := (15, 0)) h0_ rfl, ← hr_ 8 (by decide), ← hr_ 9 (by decide), ← hr_ 10 (by decide)]
    exact g.2.2.2
theorem rxcLEX_0_1 {S0 : Nat → Int → Int} {ws : List Int} {S : Nat → Int → Int} {k s t x11 x12 x13 x14 : Int} {v : Nat} (hP : (rxPLEX v) S0 ws) (hin : bx_same rxL (bx_mdl rxCmLEX) S0 S) (I0 : bx_Inv rxL S) (hinv : rxILEX_0 S0 ws S k s t) (l8 : 0 ≤ k) (u8 : k ≤ 12) (l9 : 0 ≤ s) (u9 : s ≤ 2) (l10 : 1 ≤ t) (u10 : t ≤ 3) (l11 : 1 ≤ x11) (u11 : x11 ≤ 1) (l12 : (-2147483648) ≤ x12) (u12 : x12 ≤ 0) (l13 : (-2147483648) ≤ x13) (u13 : x13 ≤ 2147483647) (l14 : 0 ≤ x14) (u14 : x14 ≤ 12) (f0 : x14 ≤ k) (f1 : x13 ≠ 1023) (f2 : x11 ≠ 0) (e3 : S 451 8 = x11) (e2 : S 451 9 = x12) (e1 : S 451 10 = x13) (e0 : S 451 0 = x14) : ((0 ≤ x12 ∧ x12 ≤ 600000) ∧ True) ∧ (True) ∧ rxILEX_1 S0 ws S k s t x12 ∧ rxmLEX_1 S0 ws S k s t x12 < rxmLEX_0 S0 ws S k s t := by
  obtain ⟨rfl, hw⟩ := hinv
  obtain ⟨k9, s9, t9, hw2, hkn, hpb, hlen, hlv⟩ := hP
  have w0_ : k = k9 := Option.some.inj (congrArg (fun l => l[1]?) (hw.symm.trans hw2))
  subst w0_
  have w1_ : s = s9 := Option.some.inj (congrArg (fun l => l[2]?) (hw.symm.trans hw2))
  subst w1_
  have w2_ : t = t9 := Option.some.inj (congrArg (fun l => l[3]?) (hw.symm.trans hw2))
  subst w2_
  have h9 := hpb.2.2.2.2.2.2.1
  exact ⟨by first | trivial | exact ⟨by omega, trivial⟩, trivial, ⟨rfl, hw, by omega, by omega⟩, by unfold rxmLEX_0 rxmLEX_1; omega⟩
theorem rxgLEX_0_1 {X : (Nat → Int → Int) → Prop} {S0 : Nat → Int → Int} {ws : List Int} {v : Nat} (hP : (rxPLEX v) S0 ws) : bx_obC rxL X S0 rxCmLEX (rxILEX S0 ws) (rxmLEX S0 ws) 0 rxzLEX_0 rxoLEX_0_1 := by
  intro S S' r r' hinv hX hin hsm_ hseg
  obtain ⟨I0, I1, h0_, hr_, b_, f_, d_⟩ := bx_cl (evs := [(0, (0, 451), (0, 0), .inr (0, (14, 0))), (0, (0, 451), (0, 10), .inr (0, (13, 0))), (0, (0, 451), (0, 9), .inr (0, (12, 0))), (0, (0, 451), (0, 8), .inr (0, (11, 0)))]) (fvs := [(1, (14, 0), (8, 0), (0, 0)), (3, (13, 0), (0, 1023), (0, 0)), (3, (11, 0), (0, 0), (0, 0))]) hseg (by decide +kernel) (by decide +kernel)
  have hinv : rxILEX_0 S0 ws S (r 8) (r 9) (r 10) := hinv
  rw [← hr_ 8 (by decide), ← hr_ 9 (by decide), ← hr_ 10 (by decide)] at hinv
  obtain ⟨⟨l8, u8⟩, ⟨l9, u9⟩, ⟨l10, u10⟩, ⟨l11, u11⟩, ⟨l12, u12⟩, ⟨l13, u13⟩, ⟨l14, u14⟩, -⟩ := b_
  obtain ⟨f0, f1, f2, -⟩ := f_
  obtain ⟨e0, ⟨e1, ⟨e2, ⟨e3, w_⟩⟩⟩⟩ := d_
  subst w_
  have g := rxcLEX_0_1 hP hin I0 hinv l8 u8 l9 u9 l10 u10 l11 u11 l12 u12 l13 u13 l14 u14 f0 f1 f2 e3 e2 e1 e0
  refine ⟨bx_narP_ok (l := [(12, 0, 600000)]) g.1, bx_nfP_ok h0_ (fvs := []) (by decide +kernel) g.2.1, ?_, ?_⟩
  · show rxILEX_1 S0 ws S' (bx_val [(0, 0), (0, 0), (0, 0), (0, 0), (0, 0), (0, 0), (0, 0), (0, 0), (8, 0), (9, 0), (10, 0), (12, 0)] r' 8) (bx_val [(0, 0), (0, 0), (0, 0), (0, 0), (0, 0), (0, 0), (0, 0), (0, 0), (8, 0), (9, 0), (10, 0), (12, 0)] r' 9) (bx_val [(0, 0), (0, 0), (0, 0), (0, 0), (0, 0), (0, 0), (0, 0), (0, 0), (8, 0), (9, 0), (10, 0), (12, 0)] r' 10) (bx_val [(0, 0), (0, 0), (0, 0), (0, 0), (0, 0), (0, 0), (0, 0), (0, 0), (8, 0), (9, 0), (10, 0), (12, 0)] r' 11)
    rw [bx_val_x (n := 8) (e := (8, 0)) h0_ rfl, bx_val_x (n := 9) (e := (9, 0)) h0_ rfl, bx_val_x (n := 10) (e := (10, 0)) h0_ rfl, bx_val_x (n := 11) (e := (12, 0)) h0_ rfl]
    exact g.2.2.1
  · show rxmLEX_1 S0 ws S' (bx_val [(0, 0), (0, 0), (0, 0), (0, 0), (0, 0), (0, 0), (0, 0), (0, 0), (8, 0), (9, 0), (10, 0), (12, 0)] r' 8) (bx_val [(0, 0), (0, 0), (0, 0), (0, 0), (0, 0), (0, 0), (0, 0), (0, 0), (8, 0), (9, 0), (10, 0), (12, 0)] r' 9) (bx_val [(0, 0), (0, 0), (0, 0), (0, 0), (0, 0), (0, 0), (0, 0), (0, 0), (8, 0), (9, 0), (10, 0), (12, 0)] r' 10) (bx_val [(0, 0), (0, 0), (0, 0), (0, 0), (0, 0), (0, 0), (0, 0), (0, 0), (8, 0), (9, 0), (10, 0), (12, 0)] r' 11) < rxmLEX_0 S0 ws S' (r 8) (r 9) (r 10)
    rw [bx_val_x (n := 8) (e := (8, 0)) h0_ rfl, bx_val_x (n := 9) (e := (9, 0)) h0_ rfl, bx_val_x (n := 10) (e := (10, 0)) h0_ rfl, bx_val_x (n := 11) (e := (12, 0)) h0_ rfl, ← hr_ 8 (by decide), ← hr_ 9 (by decide), ← hr_ 10 (by decide)]
    exact g.2.2.2
theorem rxcLEX_0_2 {S0 : Nat → Int → Int} {ws : List Int} {S : Nat → Int → Int} {k s t x11 x12 x13 x14 : Int} {v : Nat} (hP : (rxPLEX v) S0 ws) (hin : bx_same rxL (bx_mdl rxCmLEX) S0 S) (I0 : bx_Inv rxL S) (hinv : rxILEX_0 S0 ws S k s t) (l8 : 0 ≤ k) (u8 : k ≤ 11) (l9 : 0 ≤ s) (u9 : s ≤ 2) (l10 : 1 ≤ t) (u10 : t ≤ 3) (l11 : 0 ≤ x11) (u11 : x11 ≤ 0) (l12 : (-2147483648) ≤ x12) (u12 : x12 ≤ 2147483647) (l13 : 1 ≤ x13) (u13 : x13 ≤ 12) (l14 : 0 ≤ x14) (u14 : x14 ≤ 5) (f0 : k < x13) (f1 : x12 ≠ 1023) (e3 : S 451 8 = x11) (e2 : S 451 10 = x12) (e1 : S 451 0 = x13) (e0 : S 453 k = x14) : (True) ∧ (True) ∧ rxILEX_5 S0 ws S k s t s x14 ∧ rxmLEX_5 S0 ws S k s t s x14 < rxmLEX_0 S0 ws S k s t := by
  obtain ⟨rfl, hw⟩ := hinv
  exact ⟨by first | trivial | exact ⟨by omega, trivial⟩, trivial, ⟨rfl, hw, by omega, rfl, by omega⟩, by unfold rxmLEX_0 rxmLEX_5; omega⟩
theorem rxgLEX_0_2 {X : (Nat → Int → Int) → Prop} {S0 : Nat → Int → Int} {ws : List Int} {v : Nat} (hP : (rxPLEX v) S0 ws) : bx_obC rxL X S0 rxCmLEX (rxILEX S0 ws) (rxmLEX S0 ws) 0 rxzLEX_0 rxoLEX_0_2 := by
  intro S S' r r' hinv hX hin hsm_ hseg
  obtain ⟨I0, I1, h0_, hr_, b_, f_, d_⟩ := bx_cl (evs := [(0, (0, 453), (8, 0), .inr (0, (14, 0))), (0, (0, 451), (0, 0), .inr (0, (13, 0))), (0, (0, 451), (0, 10), .inr (0, (12, 0))), (0, (0, 451), (0, 8), .inr (0, (11, 0)))]) (fvs := [(0, (8, 0), (13, 0), (0, 0)), (3, (12, 0), (0, 1023), (0, 0))]) hseg (by decide +kernel) (by decide +kernel)
  have hinv : rxILEX_0 S0 ws S (r 8) (r 9) (r 10) := hinv
  rw [← hr_ 8 (by decide), ← hr_ 9 (by decide), ← hr_ 10 (by decide)] at hinv
  obtain ⟨⟨l8, u8⟩, ⟨l9, u9⟩, ⟨l10, u10⟩, ⟨l11, u11⟩, ⟨l12, u12⟩, ⟨l13, u13⟩, ⟨l14, u14⟩, -⟩ := b_
  obtain ⟨f0, f1, -⟩ := f_
  obtain ⟨e0, ⟨e1, ⟨e2, ⟨e3, w_⟩⟩⟩⟩ := d_
  subst w_
  have g := rxcLEX_0_2 hP hin I0 hinv l8 u8 l9 u9 l10 u10 l11 u11 l12 u12 l13 u13 l14 u14 f0 f1 e3 e2 e1 e0
  refine ⟨bx_narP_ok (l := []) g.1, bx_nfP_ok h0_ (fvs := []) (by decide +kernel) g.2.1, ?_, ?_⟩
  · show rxILEX_5 S0 ws S' (bx_val [(0, 0), (0, 0), (0, 0), (0, 0), (0, 0), (0, 0), (0, 0), (0, 0), (8, 0), (9, 0), (10, 0), (9, 0), (14, 0)] r' 8) (bx_val [(0, 0), (0, 0), (0, 0), (0, 0), (0, 0), (0, 0), (0, 0), (0, 0), (8, 0), (9, 0), (10, 0), (9, 0), (14, 0)] r' 9) (bx_val [(0, 0), (0, 0), (0, 0), (0, 0), (0, 0), (0, 0), (0, 0), (0, 0), (8, 0), (9, 0), (10, 0), (9, 0), (14, 0)] r' 10) (bx_val [(0, 0), (0, 0), (0, 0), (0, 0), (0, 0), (0, 0), (0, 0), (0, 0), (8, 0), (9, 0), (10, 0), (9, 0), (14, 0)] r' 11) (bx_val [(0, 0), (0, 0), (0, 0), (0, 0), (0, 0), (0, 0), (0, 0), (0, 0), (8, 0), (9, 0), (10, 0), (9, 0), (14, 0)] r' 12)
    rw [bx_val_x (n := 8) (e := (8, 0)) h0_ rfl, bx_val_x (n := 9) (e := (9, 0)) h0_ rfl, bx_val_x (n := 10) (e := (10, 0)) h0_ rfl, bx_val_x (n := 11) (e := (9, 0)) h0_ rfl, bx_val_x (n := 12) (e := (14, 0)) h0_ rfl]
    exact g.2.2.1
  · show rxmLEX_5 S0 ws S' (bx_val [(0, 0), (0, 0), (0, 0), (0, 0), (0, 0), (0, 0), (0, 0), (0, 0), (8, 0), (9, 0), (10, 0), (9, 0), (14, 0)] r' 8) (bx_val [(0, 0), (0, 0), (0, 0), (0, 0), (0, 0), (0, 0), (0, 0), (0, 0), (8, 0), (9, 0), (10, 0), (9, 0), (14, 0)] r' 9) (bx_val [(0, 0), (0, 0), (0, 0), (0, 0), (0, 0), (0, 0), (0, 0), (0, 0), (8, 0), (9, 0), (10, 0), (9, 0), (14, 0)] r' 10) (bx_val [(0, 0), (0, 0), (0, 0), (0, 0), (0, 0), (0, 0), (0, 0), (0, 0), (8, 0), (9, 0), (10, 0), (9, 0), (14, 0)] r' 11) (bx_val [(0, 0), (0, 0), (0, 0), (0, 0), (0, 0), (0, 0), (0, 0), (0, 0), (8, 0), (9, 0), (10, 0), (9, 0), (14, 0)] r' 12) < rxmLEX_0 S0 ws S' (r 8) (r 9) (r 10)
    rw [bx_val_x (n := 8) (e := (8, 0)) h0_ rfl, bx_val_x (n := 9) (e := (9, 0)) h0_ rfl, bx_val_x (n := 10) (e := (10, 0)) h0_ rfl, bx_val_x (n := 11) (e := (9, 0)) h0_ rfl, bx_val_x (n := 12) (e := (14, 0)) h0_ rfl, ← hr_ 8 (by decide), ← hr_ 9 (by decide), ← hr_ 10 (by decide)]
    exact g.2.2.2
theorem rxcLEX_0_3 {S0 : Nat → Int → Int} {ws : List Int} {S : Nat → Int → Int} {k s t x11 x12 x13 x14 : Int} {v : Nat} (hP : (rxPLEX v) S0 ws) (hin : bx_same rxL (bx_mdl rxCmLEX) S0 S) (I0 : bx_Inv rxL S) (hinv : rxILEX_0 S0 ws S k s t) (l8 : 0 ≤ k) (u8 : k ≤ 12) (l9 : 0 ≤ s) (u9 : s ≤ 2) (l10 : 1 ≤ t) (u10 : t ≤ 3) (l11 : 0 ≤ x11) (u11 : x11 ≤ 0) (l12 : (-2147483648) ≤ x12) (u12 : x12 ≤ 2147483647) (l13 : 0 ≤ x13) (u13 : x13 ≤ 12) (l14 : (-2147483648) ≤ x14) (u14 : x14 ≤ 2147483647) (f0 : x13 ≤ k) (f1 : x12 ≠ 1023) (e3 : S 451 8 = x11) (e2 : S 451 10 = x12) (e1 : S 451 0 = x13) (e0 : S 451 9 = x14) : ((0 ≤ x14 ∧ x14 ≤ 600000) ∧ True) ∧ (True) ∧ rxILEX_1 S0 ws S k s t x14 ∧ rxmLEX_1 S0 ws S k s t x14 < rxmLEX_0 S0 ws S k s t := by
  obtain ⟨rfl, hw⟩ := hinv
  obtain ⟨k9, s9, t9, hw2, hkn, hpb, hlen, hlv⟩ := hP
  have w0_ : k = k9 := Option.some.inj (congrArg (fun l => l[1]?) (hw.symm.trans hw2))
  subst w0_
  have w1_ : s = s9 := Option.some.inj (congrArg (fun l => l[2]?) (hw.symm.trans hw2))
  subst w1_
  have w2_ : t = t9 := Option.some.inj (congrArg (fun l => l[3]?) (hw.symm.trans hw2))
  subst w2_
  have h9 := hpb.2.2.2.2.2.2.1
  exact ⟨by first | trivial | exact ⟨by omega, trivial⟩, trivial, ⟨rfl, hw, by omega, by omega⟩, by unfold rxmLEX_0 rxmLEX_1; omega⟩
theorem rxgLEX_0_3 {X : (Nat → Int → Int) → Prop} {S0 : Nat → Int → Int} {ws : List Int} {v : Nat} (hP : (rxPLEX v) S0 ws) : bx_obC rxL X S0 rxCmLEX (rxILEX S0 ws) (rxmLEX S0 ws) 0 rxzLEX_0 rxoLEX_0_3 := by
  intro S S' r r' hinv hX hin hsm_ hseg
  obtain ⟨I0, I1, h0_, hr_, b_, f_, d_⟩ := bx_cl (evs := [(0, (0, 451), (0, 9), .inr (0, (14, 0))), (0, (0, 451), (0, 0), .inr (0, (13, 0))), (0, (0, 451), (0, 10), .inr (0, (12, 0))), (0, (0, 451), (0, 8), .inr (0, (11, 0)))]) (fvs := [(1, (13, 0), (8, 0), (0, 0)), (3, (12, 0), (0, 1023), (0, 0))]) hseg (by decide +kernel) (by decide +kernel)
  have hinv : rxILEX_0 S0 ws S (r 8) (r 9) (r 10) := hinv
  rw [← hr_ 8 (by decide), ← hr_ 9 (by decide), ← hr_ 10 (by decide)] at hinv
  obtain ⟨⟨l8, u8⟩, ⟨l9, u9⟩, ⟨l10, u10⟩, ⟨l11, u11⟩, ⟨l12, u12⟩, ⟨l13, u13⟩, ⟨l14, u14⟩, -⟩ := b_
  obtain ⟨f0, f1, -⟩ := f_
  obtain ⟨e0, ⟨e1, ⟨e2, ⟨e3, w_⟩⟩⟩⟩ := d_
  subst w_
  have g := rxcLEX_0_3 hP hin I0 hinv l8 u8 l9 u9 l10 u10 l11 u11 l12 u12 l13 u13 l14 u14 f0 f1 e3 e2 e1 e0
  refine ⟨bx_narP_ok (l := [(14, 0, 600000)]) g.1, bx_nfP_ok h0_ (fvs := []) (by decide +kernel) g.2.1, ?_, ?_⟩
  · show rxILEX_1 S0 ws S' (bx_val [(0, 0), (0, 0), (0, 0), (0, 0), (0, 0), (0, 0), (0, 0), (0, 0), (8, 0), (9, 0), (10, 0), (14, 0)] r' 8) (bx_val [(0, 0), (0, 0), (0, 0), (0, 0), (0, 0), (0, 0), (0, 0), (0, 0), (8, 0), (9, 0), (10, 0), (14, 0)] r' 9) (bx_val [(0, 0), (0, 0), (0, 0), (0, 0), (0, 0), (0, 0), (0, 0), (0, 0), (8, 0), (9, 0), (10, 0), (14, 0)] r' 10) (bx_val [(0, 0), (0, 0), (0, 0), (0, 0), (0, 0), (0, 0), (0, 0), (0, 0), (8, 0), (9, 0), (10, 0), (14, 0)] r' 11)
    rw [bx_val_x (n := 8) (e := (8, 0)) h0_ rfl, bx_val_x (n := 9) (e := (9, 0)) h0_ rfl, bx_val_x (n := 10) (e := (10, 0)) h0_ rfl, bx_val_x (n := 11) (e := (14, 0)) h0_ rfl]
    exact g.2.2.1
  · show rxmLEX_1 S0 ws S' (bx_val [(0, 0), (0, 0), (0, 0), (0, 0), (0, 0), (0, 0), (0, 0), (0, 0), (8, 0), (9, 0), (10, 0), (14, 0)] r' 8) (bx_val [(0, 0), (0, 0), (0, 0), (0, 0), (0, 0), (0, 0), (0, 0), (0, 0), (8, 0), (9, 0), (10, 0), (14, 0)] r' 9) (bx_val [(0, 0), (0, 0), (0, 0), (0, 0), (0, 0), (0, 0), (0, 0), (0, 0), (8, 0), (9, 0), (10, 0), (14, 0)] r' 10) (bx_val [(0, 0), (0, 0), (0, 0), (0, 0), (0, 0), (0, 0), (0, 0), (0, 0), (8, 0), (9, 0), (10, 0), (14, 0)] r' 11) < rxmLEX_0 S0 ws S' (r 8) (r 9) (r 10)
    rw [bx_val_x (n := 8) (e := (8, 0)) h0_ rfl, bx_val_x (n := 9) (e := (9, 0)) h0_ rfl, bx_val_x (n := 10) (e := (10, 0)) h0_ rfl, bx_val_x (n := 11) (e := (14, 0)) h0_ rfl, ← hr_ 8 (by decide), ← hr_ 9 (by decide), ← hr_ 10 (by decide)]
    exact g.2.2.2
theorem rxdLEX_0_0 {S0 : Nat → Int → Int} {ws : List Int} {S : Nat → Int → Int} {k s t x11 x12 x13 : Int} {v : Nat} (hP : (rxPLEX v) S0 ws) (hin : bx_same rxL (bx_mdl rxCmLEX) S0 S) (hin2 : bx_same rxL (bx_mdl rxCmLEX) S S) (I0 : bx_Inv rxL S) (I1 : bx_Inv rxL S) (hinv : rxILEX_0 S0 ws S k s t) (l8 : 0 ≤ k) (u8 : k ≤ 12) (l9 : 0 ≤ s) (u9 : s ≤ 2) (l10 : 1 ≤ t) (u10 : t ≤ 3) (l11 : 1 ≤ x11) (u11 : x11 ≤ 1) (l12 : (-2147483648) ≤ x12) (u12 : x12 ≤ 0) (l13 : 1023 ≤ x13) (u13 : x13 ≤ 1023) (f0 : x11 ≠ 0) (e2 : S 451 8 = x11) (e1 : S 451 9 = x12) (e0 : S 451 10 = x13) : (True) ∧ rxPSLEX S0 ws S none := by
  obtain ⟨rfl, hw⟩ := hinv
  obtain ⟨k9, s9, t9, hw2, hkn, hpb, hlen, hlv⟩ := hP
  have w0_ : k = k9 := Option.some.inj (congrArg (fun l => l[1]?) (hw.symm.trans hw2))
  subst w0_
  have w1_ : s = s9 := Option.some.inj (congrArg (fun l => l[2]?) (hw.symm.trans hw2))
  subst w1_
  have w2_ : t = t9 := Option.some.inj (congrArg (fun l => l[3]?) (hw.symm.trans hw2))
  subst w2_
  refine ⟨trivial, rfl, k, s, t, hw, fun _ => rfl, fun _ => rfl, fun _ _ => rfl, ?_⟩
  first
    | exact ldO_one (by omega) (by omega) (hpb.2.2.1 (by omega))
    | (rcases Int.lt_or_le (S 451 6) 0 with q | q
       · exfalso
         have := hpb.2.2.2.1 q
         omega
       · rw [show S 451 10 = 1023 by omega]
         exact ldO_full q hpb.2.2.1 ldTS_le)
theorem rxfLEX_0_0 {X : (Nat → Int → Int) → Prop} {S0 : Nat → Int → Int} {ws : List Int} {v : Nat} (hP : (rxPLEX v) S0 ws) : bx_obE rxL X S0 rxCmLEX (rxILEX S0 ws) (rxPSLEX S0 ws) 0 rxzLEX_0 rxeLEX_0_0 := by
  intro S S' r r' hinv hX hin hsm_ hseg
  obtain ⟨I0, I1, h0_, hr_, b_, f_, d_⟩ := bx_cl (evs := [(0, (0, 451), (0, 10), .inr (0, (13, 0))), (0, (0, 451), (0, 9), .inr (0, (12, 0))), (0, (0, 451), (0, 8), .inr (0, (11, 0)))]) (fvs := [(3, (11, 0), (0, 0), (0, 0))]) hseg (by decide +kernel) (by decide +kernel)
  have hinv : rxILEX_0 S0 ws S (r 8) (r 9) (r 10) := hinv
  rw [← hr_ 8 (by decide), ← hr_ 9 (by decide), ← hr_ 10 (by decide)] at hinv
  obtain ⟨⟨l8, u8⟩, ⟨l9, u9⟩, ⟨l10, u10⟩, ⟨l11, u11⟩, ⟨l12, u12⟩, ⟨l13, u13⟩, -⟩ := b_
  obtain ⟨f0, -⟩ := f_
  obtain ⟨e0, ⟨e1, ⟨e2, w_⟩⟩⟩ := d_
  subst w_
  have g := rxdLEX_0_0 hP hin hsm_ I0 I1 hinv l8 u8 l9 u9 l10 u10 l11 u11 l12 u12 l13 u13 f0 e2 e1 e0
  refine ⟨bx_narP_ok (l := []) g.1, ?_⟩
  exact g.2
theorem rxdLEX_0_1 {S0 : Nat → Int → Int} {ws : List Int} {S : Nat → Int → Int} {k s t x11 x12 : Int} {v : Nat} (hP : (rxPLEX v) S0 ws) (hin : bx_same rxL (bx_mdl rxCmLEX) S0 S) (hin2 : bx_same rxL (bx_mdl rxCmLEX) S S) (I0 : bx_Inv rxL S) (I1 : bx_Inv rxL S) (hinv : rxILEX_0 S0 ws S k s t) (l8 : 0 ≤ k) (u8 : k ≤ 12) (l9 : 0 ≤ s) (u9 : s ≤ 2) (l10 : 1 ≤ t) (u10 : t ≤ 3) (l11 : 1 ≤ x11) (u11 : x11 ≤ 1) (l12 : 1 ≤ x12) (u12 : x12 ≤ 2147483647) (f0 : x11 ≠ 0) (e1 : S 451 8 = x11) (e0 : S 451 9 = x12) : (True) ∧ rxPSLEX S0 ws S none := by
  obtain ⟨rfl, hw⟩ := hinv
  obtain ⟨k9, s9, t9, hw2, hkn, hpb, hlen, hlv⟩ := hP
  have w0_ : k = k9 := Option.some.inj (congrArg (fun l => l[1]?) (hw.symm.trans hw2))
  subst w0_
  have w1_ : s = s9 := Option.some.inj (congrArg (fun l => l[2]?) (hw.symm.trans hw2))
  subst w1_
  have w2_ : t = t9 := Option.some.inj (congrArg (fun l => l[3]?) (hw.symm.trans hw2))
  subst w2_
  refine ⟨trivial, rfl, k, s, t, hw, fun _ => rfl, fun _ => rfl, fun _ _ => rfl, ?_⟩
  first
    | exact ldO_one (by omega) (by omega) (hpb.2.2.1 (by omega))
    | (rcases Int.lt_or_le (S 451 6) 0 with q | q
       · exfalso
         have := hpb.2.2.2.1 q
         omega
       · rw [show S 451 10 = 1023 by omega]
         exact ldO_full q hpb.2.2.1 ldTS_le)
theorem rxfLEX_0_1 {X : (Nat → Int → Int) → Prop} {S0 : Nat → Int → Int} {ws : List Int} {v : Nat} (hP : (rxPLEX v) S0 ws) : bx_obE rxL X S0 rxCmLEX (rxILEX S0 ws) (rxPSLEX S0 ws) 0 rxzLEX_0 rxeLEX_0_1 := by
  intro S S' r r' hinv hX hin hsm_ hseg
  obtain ⟨I0, I1, h0_, hr_, b_, f_, d_⟩ := bx_cl (evs := [(0, (0, 451), (0, 9), .inr (0, (12, 0))), (0, (0, 451), (0, 8), .inr (0, (11, 0)))]) (fvs := [(3, (11, 0), (0, 0), (0, 0))]) hseg (by decide +kernel) (by decide +kernel)
  have hinv : rxILEX_0 S0 ws S (r 8) (r 9) (r 10) := hinv
  rw [← hr_ 8 (by decide), ← hr_ 9 (by decide), ← hr_ 10 (by decide)] at hinv
  obtain ⟨⟨l8, u8⟩, ⟨l9, u9⟩, ⟨l10, u10⟩, ⟨l11, u11⟩, ⟨l12, u12⟩, -⟩ := b_
  obtain ⟨f0, -⟩ := f_
  obtain ⟨e0, ⟨e1, w_⟩⟩ := d_
  subst w_
  have g := rxdLEX_0_1 hP hin hsm_ I0 I1 hinv l8 u8 l9 u9 l10 u10 l11 u11 l12 u12 f0 e1 e0
  refine ⟨bx_narP_ok (l := []) g.1, ?_⟩
  exact g.2
theorem rxdLEX_0_2 {S0 : Nat → Int → Int} {ws : List Int} {S : Nat → Int → Int} {k s t x11 x12 : Int} {v : Nat} (hP : (rxPLEX v) S0 ws) (hin : bx_same rxL (bx_mdl rxCmLEX) S0 S) (hin2 : bx_same rxL (bx_mdl rxCmLEX) S S) (I0 : bx_Inv rxL S) (I1 : bx_Inv rxL S) (hinv : rxILEX_0 S0 ws S k s t) (l8 : 0 ≤ k) (u8 : k ≤ 12) (l9 : 0 ≤ s) (u9 : s ≤ 2) (l10 : 1 ≤ t) (u10 : t ≤ 3) (l11 : 0 ≤ x11) (u11 : x11 ≤ 0) (l12 : 1023 ≤ x12) (u12 : x12 ≤ 1023) (e1 : S 451 8 = x11) (e0 : S 451 10 = x12) : (True) ∧ rxPSLEX S0 ws S none := by
  obtain ⟨rfl, hw⟩ := hinv
  obtain ⟨k9, s9, t9, hw2, hkn, hpb, hlen, hlv⟩ := hP
  have w0_ : k = k9 := Option.some.inj (congrArg (fun l => l[1]?) (hw.symm.trans hw2))
  subst w0_
  have w1_ : s = s9 := Option.some.inj (congrArg (fun l => l[2]?) (hw.symm.trans hw2))
  subst w1_
  have w2_ : t = t9 := Option.some.inj (congrArg (fun l => l[3]?) (hw.symm.trans hw2))
  subst w2_
  refine ⟨trivial, rfl, k, s, t, hw, fun _ => rfl, fun _ => rfl, fun _ _ => rfl, ?_⟩
  first
    | exact ldO_one (by omega) (by omega) (hpb.2.2.1 (by omega))
    | (rcases Int.lt_or_le (S 451 6) 0 with q | q
       · exfalso
         have := hpb.2.2.2.1 q
         omega
       · rw [show S 451 10 = 1023 by omega]
         exact ldO_full q hpb.2.2.1 ldTS_le)
theorem rxfLEX_0_2 {X : (Nat → Int → Int) → Prop} {S0 : Nat → Int → Int} {ws : List Int} {v : Nat} (hP : (rxPLEX v) S0 ws) : bx_obE rxL X S0 rxCmLEX (rxILEX S0 ws) (rxPSLEX S0 ws) 0 rxzLEX_0 rxeLEX_0_2 := by
  intro S S' r r' hinv hX hin hsm_ hseg
  obtain ⟨I0, I1, h0_, hr_, b_, f_, d_⟩ := bx_cl (evs := [(0, (0, 451), (0, 10), .inr (0, (12, 0))), (0, (0, 451), (0, 8), .inr (0, (11, 0)))]) (fvs := []) hseg (by decide +kernel) (by decide +kernel)
  have hinv : rxILEX_0 S0 ws S (r 8) (r 9) (r 10) := hinv
  rw [← hr_ 8 (by decide), ← hr_ 9 (by decide), ← hr_ 10 (by decide)] at hinv
  obtain ⟨⟨l8, u8⟩, ⟨l9, u9⟩, ⟨l10, u10⟩, ⟨l11, u11⟩, ⟨l12, u12⟩, -⟩ := b_
  obtain ⟨e0, ⟨e1, w_⟩⟩ := d_
  subst w_
  have g := rxdLEX_0_2 hP hin hsm_ I0 I1 hinv l8 u8 l9 u9 l10 u10 l11 u11 l12 u12 e1 e0
  refine ⟨bx_narP_ok (l := []) g.1, ?_⟩
  exact g.2
theorem rxcLEX_1_0 {S0 : Nat → Int → Int} {ws : List Int} {S : Nat → Int → Int} {k s t wy x12 x13 : Int} {v : Nat} (hP : (rxPLEX v) S0 ws) (hin : bx_same rxL (bx_mdl rxCmLEX) S0 S) (I0 : bx_Inv rxL S) (hinv : rxILEX_1 S0 ws S k s t wy) (l8 : 0 ≤ k) (u8 : k ≤ 12) (l9 : 0 ≤ s) (u9 : s ≤ 2) (l10 : 1 ≤ t) (u10 : t ≤ 3) (l11 : 0 ≤ wy) (u11 : wy ≤ 600000) (l12 : 0 ≤ x12) (u12 : x12 ≤ 3) (l13 : (-2147483648) ≤ x13) (u13 : x13 ≤ 2147483647) (e1 : (bx_up S 451 9 (wy + 1)) 451 6 = x12) (e0 : (bx_up S 451 9 (wy + 1)) 451 10 = x13) : ((0 ≤ x13 ∧ x13 ≤ 1023) ∧ True) ∧ (True) ∧ rxILEX_2 S0 ws (bx_up S 451 9 (wy + 1)) k s t x13 ∧ rxmLEX_2 S0 ws (bx_up S 451 9 (wy + 1)) k s t x13 < rxmLEX_1 S0 ws S k s t wy := by
  obtain ⟨rfl, hw, hk, hwy⟩ := hinv
  obtain ⟨k9, s9, t9, hw2, hkn, hpb, hlen, hlv⟩ := hP
  have w0_ : k = k9 := Option.some.inj (congrArg (fun l => l[1]?) (hw.symm.trans hw2))
  subst w0_
  have w1_ : s = s9 := Option.some.inj (congrArg (fun l => l[2]?) (hw.symm.trans hw2))
  subst w1_
  have w2_ : t = t9 := Option.some.inj (congrArg (fun l => l[3]?) (hw.symm.trans hw2))
  subst w2_
  have h10 := hpb.2.2.2.2.2.2.2
  rw [bx_up_ne (by omega)] at e0 e1
  exact ⟨by first | trivial | exact ⟨by omega, trivial⟩, trivial, ⟨⟨by rw [bx_up_at, hwy], fun p j h => bx_up_ne h⟩, hw, hk, by omega, by omega⟩, by unfold rxmLEX_1 rxmLEX_2; omega⟩
theorem rxgLEX_1_0 {X : (Nat → Int → Int) → Prop} {S0 : Nat → Int → Int} {ws : List Int} {v : Nat} (hP : (rxPLEX v) S0 ws) : bx_obC rxL X S0 rxCmLEX (rxILEX S0 ws) (rxmLEX S0 ws) 1 rxzLEX_1 rxoLEX_1_0 := by
  intro S S' r r' hinv hX hin hsm_ hseg
  obtain ⟨I0, I1, h0_, hr_, b_, f_, d_⟩ := bx_cl (evs := [(0, (0, 451), (0, 10), .inr (0, (13, 0))), (0, (0, 451), (0, 6), .inr (0, (12, 0))), (1, (0, 451), (0, 9), .inr (0, (11, 1)))]) (fvs := []) hseg (by decide +kernel) (by decide +kernel)
  have hinv : rxILEX_1 S0 ws S (r 8) (r 9) (r 10) (r 11) := hinv
  rw [← hr_ 8 (by decide), ← hr_ 9 (by decide), ← hr_ 10 (by decide), ← hr_ 11 (by decide)] at hinv
  obtain ⟨⟨l8, u8⟩, ⟨l9, u9⟩, ⟨l10, u10⟩, ⟨l11, u11⟩, ⟨l12, u12⟩, ⟨l13, u13⟩, -⟩ := b_
  obtain ⟨e0, ⟨e1, ⟨T2, w_, w2⟩⟩⟩ := d_
  subst w2
  subst w_
  have g := rxcLEX_1_0 hP hin I0 hinv l8 u8 l9 u9 l10 u10 l11 u11 l12 u12 l13 u13 e1 e0
  refine ⟨bx_narP_ok (l := [(13, 0, 1023)]) g.1, bx_nfP_ok h0_ (fvs := []) (by decide +kernel) g.2.1, ?_, ?_⟩
  · show rxILEX_2 S0 ws (bx_up T2 451 (9) (r' 11 + 1)) (bx_val [(0, 0), (0, 0), (0, 0), (0, 0), (0, 0), (0, 0), (0, 0), (0, 0), (8, 0), (9, 0), (10, 0), (13, 0)] r' 8) (bx_val [(0, 0), (0, 0), (0, 0), (0, 0), (0, 0), (0, 0), (0, 0), (0, 0), (8, 0), (9, 0), (10, 0), (13, 0)] r' 9) (bx_val [(0, 0), (0, 0), (0, 0), (0, 0), (0, 0), (0, 0), (0, 0), (0, 0), (8, 0), (9, 0), (10, 0), (13, 0)] r' 10) (bx_val [(0, 0), (0, 0), (0, 0), (0, 0), (0, 0), (0, 0), (0, 0), (0, 0), (8, 0), (9, 0), (10, 0), (13, 0)] r' 11)
    rw [bx_val_x (n := 8) (e := (8, 0)) h0_ rfl, bx_val_x (n := 9) (e := (9, 0)) h0_ rfl, bx_val_x (n := 10) (e := (10, 0)) h0_ rfl, bx_val_x (n := 11) (e := (13, 0)) h0_ rfl]
    exact g.2.2.1
  · show rxmLEX_2 S0 ws (bx_up T2 451 (9) (r' 11 + 1)) (bx_val [(0, 0), (0, 0), (0, 0), (0, 0), (0, 0), (0, 0), (0, 0), (0, 0), (8, 0), (9, 0), (10, 0), (13, 0)] r' 8) (bx_val [(0, 0), (0, 0), (0, 0), (0, 0), (0, 0), (0, 0), (0, 0), (0, 0), (8, 0), (9, 0), (10, 0), (13, 0)] r' 9) (bx_val [(0, 0), (0, 0), (0, 0), (0, 0), (0, 0), (0, 0), (0, 0), (0, 0), (8, 0), (9, 0), (10, 0), (13, 0)] r' 10) (bx_val [(0, 0), (0, 0), (0, 0), (0, 0), (0, 0), (0, 0), (0, 0), (0, 0), (8, 0), (9, 0), (10, 0), (13, 0)] r' 11) < rxmLEX_1 S0 ws T2 (r 8) (r 9) (r 10) (r 11)
    rw [bx_val_x (n := 8) (e := (8, 0)) h0_ rfl, bx_val_x (n := 9) (e := (9, 0)) h0_ rfl, bx_val_x (n := 10) (e := (10, 0)) h0_ rfl, bx_val_x (n := 11) (e := (13, 0)) h0_ rfl, ← hr_ 8 (by decide), ← hr_ 9 (by decide), ← hr_ 10 (by decide), ← hr_ 11 (by decide)]
    exact g.2.2.2
theorem rxdLEX_1_0 {S0 : Nat → Int → Int} {ws : List Int} {S : Nat → Int → Int} {k s t wy x12 : Int} {v : Nat} (hP : (rxPLEX v) S0 ws) (hin : bx_same rxL (bx_mdl rxCmLEX) S0 S) (hin2 : bx_same rxL (bx_mdl rxCmLEX) S (bx_up S 451 9 (wy + 1))) (I0 : bx_Inv rxL S) (I1 : bx_Inv rxL (bx_up S 451 9 (wy + 1))) (hinv : rxILEX_1 S0 ws S k s t wy) (l8 : 0 ≤ k) (u8 : k ≤ 12) (l9 : 0 ≤ s) (u9 : s ≤ 2) (l10 : 1 ≤ t) (u10 : t ≤ 3) (l11 : 0 ≤ wy) (u11 : wy ≤ 600000) (l12 : (-1) ≤ x12) (u12 : x12 ≤ (-1)) (e0 : (bx_up S 451 9 (wy + 1)) 451 6 = x12) : (True) ∧ rxPSLEX S0 ws (bx_up S 451 9 (wy + 1)) none := by
  obtain ⟨rfl, hw, hk, hwy⟩ := hinv
  obtain ⟨k9, s9, t9, hw2, hkn, hpb, hlen, hlv⟩ := hP
  have w0_ : k = k9 := Option.some.inj (congrArg (fun l => l[1]?) (hw.symm.trans hw2))
  subst w0_
  have w1_ : s = s9 := Option.some.inj (congrArg (fun l => l[2]?) (hw.symm.trans hw2))
  subst w1_
  have w2_ : t = t9 := Option.some.inj (congrArg (fun l => l[3]?) (hw.symm.trans hw2))
  subst w2_
  have h9 := hpb.2.2.2.2.2.2.1
  rw [bx_up_ne (by omega)] at e0
  refine ⟨trivial, rfl, k, s, t, hw, fun j => bx_up_ne (by omega), fun j => bx_up_ne (by omega), fun j _ => bx_up_ne (by omega), ?_⟩
  rw [ldTS_0 hk, bx_up_at, bx_up_ne (by omega), hwy]
  have q := ldO_leaf (one := S 451 8) (ask := S 451 6) (w := S 451 9) (b := S 451 10) (x := (ldDS S).2.2.2.2.2 (ldt 18 (S 457)) (ldt 18 (S 458)) (ldt k (S 456))) h9
  rw [if_neg (by omega)] at q
  exact q
theorem rxfLEX_1_0 {X : (Nat → Int → Int) → Prop} {S0 : Nat → Int → Int} {ws : List Int} {v : Nat} (hP : (rxPLEX v) S0 ws) : bx_obE rxL X S0 rxCmLEX (rxILEX S0 ws) (rxPSLEX S0 ws) 1 rxzLEX_1 rxeLEX_1_0 := by
  intro S S' r r' hinv hX hin hsm_ hseg
  obtain ⟨I0, I1, h0_, hr_, b_, f_, d_⟩ := bx_cl (evs := [(0, (0, 451), (0, 6), .inr (0, (12, 0))), (1, (0, 451), (0, 9), .inr (0, (11, 1)))]) (fvs := []) hseg (by decide +kernel) (by decide +kernel)
  have hinv : rxILEX_1 S0 ws S (r 8) (r 9) (r 10) (r 11) := hinv
  rw [← hr_ 8 (by decide), ← hr_ 9 (by decide), ← hr_ 10 (by decide), ← hr_ 11 (by decide)] at hinv
  obtain ⟨⟨l8, u8⟩, ⟨l9, u9⟩, ⟨l10, u10⟩, ⟨l11, u11⟩, ⟨l12, u12⟩, -⟩ := b_
  obtain ⟨e0, ⟨T1, w_, w1⟩⟩ := d_
  subst w1
  subst w_
  have g := rxdLEX_1_0 hP hin hsm_ I0 I1 hinv l8 u8 l9 u9 l10 u10 l11 u11 l12 u12 e0
  refine ⟨bx_narP_ok (l := []) g.1, ?_⟩
  exact g.2
theorem rxdLEX_4_0 {S0 : Nat → Int → Int} {ws : List Int} {S : Nat → Int → Int} {k s t bt wh bo : Int} {v : Nat} (hP : (rxPLEX v) S0 ws) (hin : bx_same rxL (bx_mdl rxCmLEX) S0 S) (hin2 : bx_same rxL (bx_mdl rxCmLEX) S (bx_up S 451 10 bo)) (I0 : bx_Inv rxL S) (I1 : bx_Inv rxL (bx_up S 451 10 bo)) (hinv : rxILEX_4 S0 ws S k s t bt wh bo) (l8 : 0 ≤ k) (u8 : k ≤ 12) (l9 : 0 ≤ s) (u9 : s ≤ 2) (l10 : 1 ≤ t) (u10 : t ≤ 3) (l11 : 0 ≤ bt) (u11 : bt ≤ 1023) (l12 : 0 ≤ wh) (u12 : wh ≤ 1023) (l13 : 0 ≤ bo) (u13 : bo ≤ 1023) : (True) ∧ rxPSLEX S0 ws (bx_up S 451 10 bo) none := by
  obtain ⟨hu, hw, hk, h6, hbo⟩ := hinv
  obtain ⟨k9, s9, t9, hw2, hkn, hpb, hlen, hlv⟩ := hP
  have w0_ : k = k9 := Option.some.inj (congrArg (fun l => l[1]?) (hw.symm.trans hw2))
  subst w0_
  have w1_ : s = s9 := Option.some.inj (congrArg (fun l => l[2]?) (hw.symm.trans hw2))
  subst w1_
  have w2_ : t = t9 := Option.some.inj (congrArg (fun l => l[3]?) (hw.symm.trans hw2))
  subst w2_
  have u : ∀ (j : Int), j ≠ 9 → S 451 j = S0 451 j := fun j hj => hu.2 451 j (fun q => hj q.2)
  have hb9 := ld451 I0
  rw [u 0 (by omega), u 5 (by omega), u 6 (by omega), u 7 (by omega), u 8 (by omega)] at hb9
  obtain ⟨p1, p2, p3, p4, p5, p6, p7, p8, p9⟩ := id hpb
  have hz : ldt 4 (S0 455) (S0 451 6) = S0 455 (S0 451 6) := ldt_at h6 (by omega)
  have el : (ldDS S0).2.2.2.2.2 (ldt 18 (S0 457)) (ldt 18 (S0 458)) (ldt k (S0 456)) = ldl (S0 451 5) (S0 451 7) (S0 455 (S0 451 6)) (S0 453) (S0 457) (S0 458) (S0 456) := by
    show ldl (S0 451 5) (S0 451 7) (ldt 4 (S0 455) (S0 451 6)) (ldt (S0 451 0) (S0 453)) (ldt 18 (S0 457)) (ldt 18 (S0 458)) (ldt k (S0 456)) = _
    rw [hz, hk]
    refine ldl_t (p6 h6) (fun q => ?_) (p5 h6) (by omega)
    have b6 := ld456 I0 (j := S0 455 (S0 451 6)) q (by have := p6 h6; omega)
    have b3 := ld453 I0 (j := S0 455 (S0 451 6)) q (by have := p6 h6; omega)
    rw [hu.2 456 _ (by omega)] at b6
    rw [hu.2 453 _ (by omega)] at b3
    omega
  refine ⟨trivial, rfl, k, s, t, hw, fun j => (bx_up_ne (by omega)).trans (hu.2 _ _ (by omega)), fun j => (bx_up_ne (by omega)).trans (hu.2 _ _ (by omega)), fun j _ => (bx_up_ne (by omega)).trans (hu.2 _ _ (by omega)), ?_⟩
  rw [ldTS_0 hk, bx_up_at, bx_up_ne (by omega), hu.1, hbo, el]
  have q := ldO_leaf (one := S0 451 8) (ask := S0 451 6) (w := S0 451 9) (b := S0 451 10) (x := ldl (S0 451 5) (S0 451 7) (S0 455 (S0 451 6)) (S0 453) (S0 457) (S0 458) (S0 456)) p7
  rw [if_pos h6] at q
  exact q
theorem rxfLEX_4_0 {X : (Nat → Int → Int) → Prop} {S0 : Nat → Int → Int} {ws : List Int} {v : Nat} (hP : (rxPLEX v) S0 ws) : bx_obE rxL X S0 rxCmLEX (rxILEX S0 ws) (rxPSLEX S0 ws) 4 rxzLEX_4 rxeLEX_4_0 := by
  intro S S' r r' hinv hX hin hsm_ hseg
  obtain ⟨I0, I1, h0_, hr_, b_, f_, d_⟩ := bx_cl (evs := [(1, (0, 451), (0, 10), .inr (0, (13, 0)))]) (fvs := []) hseg (by decide +kernel) (by decide +kernel)
  have hinv : rxILEX_4 S0 ws S (r 8) (r 9) (r 10) (r 11) (r 12) (r 13) := hinv
  rw [← hr_ 8 (by decide), ← hr_ 9 (by decide), ← hr_ 10 (by decide), ← hr_ 11 (by decide), ← hr_ 12 (by decide), ← hr_ 13 (by decide)] at hinv
  obtain ⟨⟨l8, u8⟩, ⟨l9, u9⟩, ⟨l10, u10⟩, ⟨l11, u11⟩, ⟨l12, u12⟩, ⟨l13, u13⟩, -⟩ := b_
  obtain ⟨T0, w_, w0⟩ := d_
  subst w0
  subst w_
  have g := rxdLEX_4_0 hP hin hsm_ I0 I1 hinv l8 u8 l9 u9 l10 u10 l11 u11 l12 u12 l13 u13
  refine ⟨bx_narP_ok (l := []) g.1, ?_⟩
  exact g.2
theorem rxcLEX_6_0 {S0 : Nat → Int → Int} {ws : List Int} {S : Nat → Int → Int} {k s t s2 c r x14 : Int} {v : Nat} (hP : (rxPLEX v) S0 ws) (hin : bx_same rxL (bx_mdl rxCmLEX) S0 S) (I0 : bx_Inv rxL S) (hinv : rxILEX_6 S0 ws S k s t s2 c r) (l8 : 0 ≤ k) (u8 : k ≤ 11) (l9 : 0 ≤ s) (u9 : s ≤ 2) (l10 : 1 ≤ t) (u10 : t ≤ 3) (l11 : 0 ≤ s2) (u11 : s2 ≤ 2) (l12 : 0 ≤ c) (u12 : c ≤ 5) (l13 : 0 ≤ r) (u13 : r ≤ 17) (l14 : (-1) ≤ x14) (u14 : x14 ≤ (-1)) (e0 : S 457 r = x14) : (True) ∧ (True) ∧ rxILEX_7 S0 ws S k s t r 1 ∧ rxmLEX_7 S0 ws S k s t r 1 < rxmLEX_6 S0 ws S k s t s2 c r := by
  obtain ⟨rfl, hw, hk, hr⟩ := hinv
  exact ⟨by first | trivial | exact ⟨by omega, trivial⟩, trivial, ⟨rfl, hw, hk, hr, fun q => by omega, fun q => by omega⟩, by unfold rxmLEX_6 rxmLEX_7; omega⟩
theorem rxgLEX_6_0 {X : (Nat → Int → Int) → Prop} {S0 : Nat → Int → Int} {ws : List Int} {v : Nat} (hP : (rxPLEX v) S0 ws) : bx_obC rxL X S0 rxCmLEX (rxILEX S0 ws) (rxmLEX S0 ws) 6 rxzLEX_6 rxoLEX_6_0 := by
  intro S S' r r' hinv hX hin hsm_ hseg
  obtain ⟨I0, I1, h0_, hr_, b_, f_, d_⟩ := bx_cl (evs := [(0, (0, 457), (13, 0), .inr (0, (14, 0)))]) (fvs := []) hseg (by decide +kernel) (by decide +kernel)
  have hinv : rxILEX_6 S0 ws S (r 8) (r 9) (r 10) (r 11) (r 12) (r 13) := hinv
  rw [← hr_ 8 (by decide), ← hr_ 9 (by decide), ← hr_ 10 (by decide), ← hr_ 11 (by decide), ← hr_ 12 (by decide), ← hr_ 13 (by decide)] at hinv
  obtain ⟨⟨l8, u8⟩, ⟨l9, u9⟩, ⟨l10, u10⟩, ⟨l11, u11⟩, ⟨l12, u12⟩, ⟨l13, u13⟩, ⟨l14, u14⟩, -⟩ := b_
  obtain ⟨e0, w_⟩ := d_
  subst w_
  have g := rxcLEX_6_0 hP hin I0 hinv l8 u8 l9 u9 l10 u10 l11 u11 l12 u12 l13 u13 l14 u14 e0
  refine ⟨bx_narP_ok (l := []) g.1, bx_nfP_ok h0_ (fvs := []) (by decide +kernel) g.2.1, ?_, ?_⟩
  · show rxILEX_7 S0 ws S' (bx_val [(0, 0), (0, 0), (0, 0), (0, 0), (0, 0), (0, 0), (0, 0), (0, 0), (8, 0), (9, 0), (10, 0), (13, 0), (0, 1)] r' 8) (bx_val [(0, 0), (0, 0), (0, 0), (0, 0), (0, 0), (0, 0), (0, 0), (0, 0), (8, 0), (9, 0), (10, 0), (13, 0), (0, 1)] r' 9) (bx_val [(0, 0), (0, 0), (0, 0), (0, 0), (0, 0), (0, 0), (0, 0), (0, 0), (8, 0), (9, 0), (10, 0), (13, 0), (0, 1)] r' 10) (bx_val [(0, 0), (0, 0), (0, 0), (0, 0), (0, 0), (0, 0), (0, 0), (0, 0), (8, 0), (9, 0), (10, 0), (13, 0), (0, 1)] r' 11) (bx_val [(0, 0), (0, 0), (0, 0), (0, 0), (0, 0), (0, 0), (0, 0), (0, 0), (8, 0), (9, 0), (10, 0), (13, 0), (0, 1)] r' 12)
    rw [bx_val_x (n := 8) (e := (8, 0)) h0_ rfl, bx_val_x (n := 9) (e := (9, 0)) h0_ rfl, bx_val_x (n := 10) (e := (10, 0)) h0_ rfl, bx_val_x (n := 11) (e := (13, 0)) h0_ rfl, bx_val_x (n := 12) (e := (0, 1)) h0_ rfl]
    exact g.2.2.1
  · show rxmLEX_7 S0 ws S' (bx_val [(0, 0), (0, 0), (0, 0), (0, 0), (0, 0), (0, 0), (0, 0), (0, 0), (8, 0), (9, 0), (10, 0), (13, 0), (0, 1)] r' 8) (bx_val [(0, 0), (0, 0), (0, 0), (0, 0), (0, 0), (0, 0), (0, 0), (0, 0), (8, 0), (9, 0), (10, 0), (13, 0), (0, 1)] r' 9) (bx_val [(0, 0), (0, 0), (0, 0), (0, 0), (0, 0), (0, 0), (0, 0), (0, 0), (8, 0), (9, 0), (10, 0), (13, 0), (0, 1)] r' 10) (bx_val [(0, 0), (0, 0), (0, 0), (0, 0), (0, 0), (0, 0), (0, 0), (0, 0), (8, 0), (9, 0), (10, 0), (13, 0), (0, 1)] r' 11) (bx_val [(0, 0), (0, 0), (0, 0), (0, 0), (0, 0), (0, 0), (0, 0), (0, 0), (8, 0), (9, 0), (10, 0), (13, 0), (0, 1)] r' 12) < rxmLEX_6 S0 ws S' (r 8) (r 9) (r 10) (r 11) (r 12) (r 13)
    rw [bx_val_x (n := 8) (e := (8, 0)) h0_ rfl, bx_val_x (n := 9) (e := (9, 0)) h0_ rfl, bx_val_x (n := 10) (e := (10, 0)) h0_ rfl, bx_val_x (n := 11) (e := (13, 0)) h0_ rfl, bx_val_x (n := 12) (e := (0, 1)) h0_ rfl, ← hr_ 8 (by decide), ← hr_ 9 (by decide), ← hr_ 10 (by decide), ← hr_ 11 (by decide), ← hr_ 12 (by decide), ← hr_ 13 (by decide)]
    exact g.2.2.2
theorem rxcLEX_6_1 {S0 : Nat → Int → Int} {ws : List Int} {S : Nat → Int → Int} {k s t s2 c r x14 x15 x16 : Int} {v : Nat} (hP : (rxPLEX v) S0 ws) (hin : bx_same rxL (bx_mdl rxCmLEX) S0 S) (I0 : bx_Inv rxL S) (hinv : rxILEX_6 S0 ws S k s t s2 c r) (l8 : 0 ≤ k) (u8 : k ≤ 11) (l9 : 0 ≤ s) (u9 : s ≤ 2) (l10 : 1 ≤ t) (u10 : t ≤ 3) (l11 : 0 ≤ s2) (u11 : s2 ≤ 2) (l12 : 0 ≤ c) (u12 : c ≤ 5) (l13 : 0 ≤ r) (u13 : r ≤ 17) (l14 : 0 ≤ x14) (u14 : x14 ≤ 9) (l15 : 0 ≤ x15) (u15 : x15 ≤ 9) (l16 : 0 ≤ x16) (u16 : x16 ≤ 9) (f0 : x15 = x16) (e2 : S 457 r = x14) (e1 : S 457 r = x15) (e0 : S 454 k = x16) : (True) ∧ (True) ∧ rxILEX_7 S0 ws S k s t r 0 ∧ rxmLEX_7 S0 ws S k s t r 0 < rxmLEX_6 S0 ws S k s t s2 c r := by
  obtain ⟨rfl, hw, hk, hr⟩ := hinv
  exact ⟨by first | trivial | exact ⟨by omega, trivial⟩, trivial, ⟨rfl, hw, hk, hr, fun q => by omega, fun q => by omega⟩, by unfold rxmLEX_6 rxmLEX_7; omega⟩
theorem rxgLEX_6_1 {X : (Nat → Int → Int) → Prop} {S0 : Nat → Int → Int} {ws : List Int} {v : Nat} (hP : (rxPLEX v) S0 ws) : bx_obC rxL X S0 rxCmLEX (rxILEX S0 ws) (rxmLEX S0 ws) 6 rxzLEX_6 rxoLEX_6_1 := by
  intro S S' r r' hinv hX hin hsm_ hseg
  obtain ⟨I0, I1, h0_, hr_, b_, f_, d_⟩ := bx_cl (evs := [(0, (0, 454), (8, 0), .inr (0, (16, 0))), (0, (0, 457), (13, 0), .inr (0, (15, 0))), (0, (0, 457), (13, 0), .inr (0, (14, 0)))]) (fvs := [(2, (15, 0), (16, 0), (0, 0))]) hseg (by decide +kernel) (by decide +kernel)
  have hinv : rxILEX_6 S0 ws S (r 8) (r 9) (r 10) (r 11) (r 12) (r 13) := hinv
  rw [← hr_ 8 (by decide), ← hr_ 9 (by decide), ← hr_ 10 (by decide), ← hr_ 11 (by decide), ← hr_ 12 (by decide), ← hr_ 13 (by decide)] at hinv
  obtain ⟨⟨l8, u8⟩, ⟨l9, u9⟩, ⟨l10, u10⟩, ⟨l11, u11⟩, ⟨l12, u12⟩, ⟨l13, u13⟩, ⟨l14, u14⟩, ⟨l15, u15⟩, ⟨l16, u16⟩, -⟩ := b_
  obtain ⟨f0, -⟩ := f_
  obtain ⟨e0, ⟨e1, ⟨e2, w_⟩⟩⟩ := d_
  subst w_
  have g := rxcLEX_6_1 hP hin I0 hinv l8 u8 l9 u9 l10 u10 l11 u11 l12 u12 l13 u13 l14 u14 l15 u15 l16 u16 f0 e2 e1 e0
  refine ⟨bx_narP_ok (l := []) g.1, bx_nfP_ok h0_ (fvs := []) (by decide +kernel) g.2.1, ?_, ?_⟩
  · show rxILEX_7 S0 ws S' (bx_val [(0, 0), (0, 0), (0, 0), (0, 0), (0, 0), (0, 0), (0, 0), (0, 0), (8, 0), (9, 0), (10, 0), (13, 0), (0, 0)] r' 8) (bx_val [(0, 0), (0, 0), (0, 0), (0, 0), (0, 0), (0, 0), (0, 0), (0, 0), (8, 0), (9, 0), (10, 0), (13, 0), (0, 0)] r' 9) (bx_val [(0, 0), (0, 0), (0, 0), (0, 0), (0, 0), (0, 0), (0, 0), (0, 0), (8, 0), (9, 0), (10, 0), (13, 0), (0, 0)] r' 10) (bx_val [(0, 0), (0, 0), (0, 0), (0, 0), (0, 0), (0, 0), (0, 0), (0, 0), (8, 0), (9, 0), (10, 0), (13, 0), (0, 0)] r' 11) (bx_val [(0, 0), (0, 0), (0, 0), (0, 0), (0, 0), (0, 0), (0, 0), (0, 0), (8, 0), (9, 0), (10, 0), (13, 0), (0, 0)] r' 12)
    rw [bx_val_x (n := 8) (e := (8, 0)) h0_ rfl, bx_val_x (n := 9) (e := (9, 0)) h0_ rfl, bx_val_x (n := 10) (e := (10, 0)) h0_ rfl, bx_val_x (n := 11) (e := (13, 0)) h0_ rfl, bx_val_x (n := 12) (e := (0, 0)) h0_ rfl]
    exact g.2.2.1
  · show rxmLEX_7 S0 ws S' (bx_val [(0, 0), (0, 0), (0, 0), (0, 0), (0, 0), (0, 0), (0, 0), (0, 0), (8, 0), (9, 0), (10, 0), (13, 0), (0, 0)] r' 8) (bx_val [(0, 0), (0, 0), (0, 0), (0, 0), (0, 0), (0, 0), (0, 0), (0, 0), (8, 0), (9, 0), (10, 0), (13, 0), (0, 0)] r' 9) (bx_val [(0, 0), (0, 0), (0, 0), (0, 0), (0, 0), (0, 0), (0, 0), (0, 0), (8, 0), (9, 0), (10, 0), (13, 0), (0, 0)] r' 10) (bx_val [(0, 0), (0, 0), (0, 0), (0, 0), (0, 0), (0, 0), (0, 0), (0, 0), (8, 0), (9, 0), (10, 0), (13, 0), (0, 0)] r' 11) (bx_val [(0, 0), (0, 0), (0, 0), (0, 0), (0, 0), (0, 0), (0, 0), (0, 0), (8, 0), (9, 0), (10, 0), (13, 0), (0, 0)] r' 12) < rxmLEX_6 S0 ws S' (r 8) (r 9) (r 10) (r 11) (r 12) (r 13)
    rw [bx_val_x (n := 8) (e := (8, 0)) h0_ rfl, bx_val_x (n := 9) (e := (9, 0)) h0_ rfl, bx_val_x (n := 10) (e := (10, 0)) h0_ rfl, bx_val_x (n := 11) (e := (13, 0)) h0_ rfl, bx_val_x (n := 12) (e := (0, 0)) h0_ rfl, ← hr_ 8 (by decide), ← hr_ 9 (by decide), ← hr_ 10 (by decide), ← hr_ 11 (by decide), ← hr_ 12 (by decide), ← hr_ 13 (by decide)]
    exact g.2.2.2
theorem rxdLEX_6_0 {S0 : Nat → Int → Int} {ws : List Int} {S : Nat → Int → Int} {k s t s2 c r x14 x15 x16 : Int} {v : Nat} (hP : (rxPLEX v) S0 ws) (hin : bx_same rxL (bx_mdl rxCmLEX) S0 S) (hin2 : bx_same rxL (bx_mdl rxCmLEX) S S) (I0 : bx_Inv rxL S) (I1 : bx_Inv rxL S) (hinv : rxILEX_6 S0 ws S k s t s2 c r) (l8 : 0 ≤ k) (u8 : k ≤ 11) (l9 : 0 ≤ s) (u9 : s ≤ 2) (l10 : 1 ≤ t) (u10 : t ≤ 3) (l11 : 0 ≤ s2) (u11 : s2 ≤ 2) (l12 : 0 ≤ c) (u12 : c ≤ 5) (l13 : 0 ≤ r) (u13 : r ≤ 17) (l14 : 0 ≤ x14) (u14 : x14 ≤ 9) (l15 : (-1) ≤ x15) (u15 : x15 ≤ 9) (l16 : 0 ≤ x16) (u16 : x16 ≤ 9) (f0 : x15 ≠ x16) (e2 : S 457 r = x14) (e1 : S 457 r = x15) (e0 : S 454 k = x16) : (True) ∧ rxPSLEX S0 ws S none := by
  obtain ⟨rfl, hw, hk, hr⟩ := hinv
  obtain ⟨k9, s9, t9, hw2, hkn, hpb, hlen, hlv⟩ := hP
  have w0_ : k = k9 := Option.some.inj (congrArg (fun l => l[1]?) (hw.symm.trans hw2))
  subst w0_
  have w1_ : s = s9 := Option.some.inj (congrArg (fun l => l[2]?) (hw.symm.trans hw2))
  subst w1_
  have w2_ : t = t9 := Option.some.inj (congrArg (fun l => l[3]?) (hw.symm.trans hw2))
  subst w2_
  refine ⟨trivial, rfl, k, s, t, hw, fun _ => rfl, fun _ => rfl, fun _ _ => rfl, ?_⟩
  rw [ldTS_b (r := r) l8 hk hr (by omega) (by omega) ⟨by omega, by omega⟩]
  exact ldO_nil hpb.2.2.2.2.2.2.2.1
theorem rxfLEX_6_0 {X : (Nat → Int → Int) → Prop} {S0 : Nat → Int → Int} {ws : List Int} {v : Nat} (hP : (rxPLEX v) S0 ws) : bx_obE rxL X S0 rxCmLEX (rxILEX S0 ws) (rxPSLEX S0 ws) 6 rxzLEX_6 rxeLEX_6_0 := by
  intro S S' r r' hinv hX hin hsm_ hseg
  obtain ⟨I0, I1, h0_, hr_, b_, f_, d_⟩ := bx_cl (evs := [(0, (0, 454), (8, 0), .inr (0, (16, 0))), (0, (0, 457), (13, 0), .inr (0, (15, 0))), (0, (0, 457), (13, 0), .inr (0, (14, 0)))]) (fvs := [(3, (15, 0), (16, 0), (0, 0))]) hseg (by decide +kernel) (by decide +kernel)
  have hinv : rxILEX_6 S0 ws S (r 8) (r 9) (r 10) (r 11) (r 12) (r 13) := hinv
  rw [← hr_ 8 (by decide), ← hr_ 9 (by decide), ← hr_ 10 (by decide), ← hr_ 11 (by decide), ← hr_ 12 (by decide), ← hr_ 13 (by decide)] at hinv
  obtain ⟨⟨l8, u8⟩, ⟨l9, u9⟩, ⟨l10, u10⟩, ⟨l11, u11⟩, ⟨l12, u12⟩, ⟨l13, u13⟩, ⟨l14, u14⟩, ⟨l15, u15⟩, ⟨l16, u16⟩, -⟩ := b_
  obtain ⟨f0, -⟩ := f_
  obtain ⟨e0, ⟨e1, ⟨e2, w_⟩⟩⟩ := d_
  subst w_
  have g := rxdLEX_6_0 hP hin hsm_ I0 I1 hinv l8 u8 l9 u9 l10 u10 l11 u11 l12 u12 l13 u13 l14 u14 l15 u15 l16 u16 f0 e2 e1 e0
  refine ⟨bx_narP_ok (l := []) g.1, ?_⟩
  exact g.2
theorem rxcLEX_7_0 {S0 : Nat → Int → Int} {ws : List Int} {S : Nat → Int → Int} {k s t r fr x13 : Int} {v : Nat} (hP : (rxPLEX v) S0 ws) (hin : bx_same rxL (bx_mdl rxCmLEX) S0 S) (I0 : bx_Inv rxL S) (hinv : rxILEX_7 S0 ws S k s t r fr) (l8 : 0 ≤ k) (u8 : k ≤ 11) (l9 : 0 ≤ s) (u9 : s ≤ 2) (l10 : 1 ≤ t) (u10 : t ≤ 3) (l11 : 0 ≤ r) (u11 : r ≤ 17) (l12 : 0 ≤ fr) (u12 : fr ≤ 1) (l13 : 0 ≤ x13) (u13 : x13 ≤ 9) (e2 : S 454 k = x13) : (True) ∧ (True) ∧ rxILEX_8 S0 ws (bx_up (bx_up S 457 r x13) 456 k s) k s t r fr k r t ∧ rxmLEX_8 S0 ws (bx_up (bx_up S 457 r x13) 456 k s) k s t r fr k r t < rxmLEX_7 S0 ws S k s t r fr := by
  obtain ⟨rfl, hw, hk, hr, hf1, hf0⟩ := hinv
  refine ⟨by first | trivial | exact ⟨by omega, trivial⟩, trivial, ⟨rfl, rfl, rfl, hw, hk, hr, hf1, hf0, ldFr_up2, (bx_up_ne (by omega)).trans (bx_up_ne (by omega)), (bx_up_ne (by omega)).trans (bx_up_ne (by omega)), ?_, by rw [bx_up_row (by omega), bx_up_row (by omega)], by rw [ldu_bx, bx_up_row (by omega)]⟩, by unfold rxmLEX_7 rxmLEX_8; omega⟩
  rw [bx_up_row (by omega), ldu_bx]
  congr 1
  omega
theorem rxgLEX_7_0 {X : (Nat → Int → Int) → Prop} {S0 : Nat → Int → Int} {ws : List Int} {v : Nat} (hP : (rxPLEX v) S0 ws) : bx_obC rxL X S0 rxCmLEX (rxILEX S0 ws) (rxmLEX S0 ws) 7 rxzLEX_7 rxoLEX_7_0 := by
  intro S S' r r' hinv hX hin hsm_ hseg
  obtain ⟨I0, I1, h0_, hr_, b_, f_, d_⟩ := bx_cl (evs := [(1, (0, 456), (8, 0), .inr (0, (9, 0))), (1, (0, 457), (11, 0), .inr (0, (13, 0))), (0, (0, 454), (8, 0), .inr (0, (13, 0)))]) (fvs := []) hseg (by decide +kernel) (by decide +kernel)
  have hinv : rxILEX_7 S0 ws S (r 8) (r 9) (r 10) (r 11) (r 12) := hinv
  rw [← hr_ 8 (by decide), ← hr_ 9 (by decide), ← hr_ 10 (by decide), ← hr_ 11 (by decide), ← hr_ 12 (by decide)] at hinv
  obtain ⟨⟨l8, u8⟩, ⟨l9, u9⟩, ⟨l10, u10⟩, ⟨l11, u11⟩, ⟨l12, u12⟩, ⟨l13, u13⟩, -⟩ := b_
  obtain ⟨T0, ⟨T1, ⟨e2, w_⟩, w1⟩, w0⟩ := d_
  subst w0
  subst w1
  subst w_
  have g := rxcLEX_7_0 hP hin I0 hinv l8 u8 l9 u9 l10 u10 l11 u11 l12 u12 l13 u13 e2
  refine ⟨bx_narP_ok (l := []) g.1, bx_nfP_ok h0_ (fvs := []) (by decide +kernel) g.2.1, ?_, ?_⟩
  · show rxILEX_8 S0 ws (bx_up (bx_up T1 457 (r' 11) (r' 13)) 456 (r' 8) (r' 9)) (bx_val [(0, 0), (0, 0), (0, 0), (0, 0), (0, 0), (0, 0), (0, 0), (0, 0), (8, 0), (9, 0), (10, 0), (11, 0), (12, 0), (8, 0), (11, 0), (10, 0)] r' 8) (bx_val [(0, 0), (0, 0), (0, 0), (0, 0), (0, 0), (0, 0), (0, 0), (0, 0), (8, 0), (9, 0), (10, 0), (11, 0), (12, 0), (8, 0), (11, 0), (10, 0)] r' 9) (bx_val [(0, 0), (0, 0), (0, 0), (0, 0), (0, 0), (0, 0), (0, 0), (0, 0), (8, 0), (9, 0), (10, 0), (11, 0), (12, 0), (8, 0), (11, 0), (10, 0)] r' 10) (bx_val [(0, 0), (0, 0), (0, 0), (0, 0), (0, 0), (0, 0), (0, 0), (0, 0), (8, 0), (9, 0), (10, 0), (11, 0), (12, 0), (8, 0), (11, 0), (10, 0)] r' 11) (bx_val [(0, 0), (0, 0), (0, 0), (0, 0), (0, 0), (0, 0), (0, 0), (0, 0), (8, 0), (9, 0), (10, 0), (11, 0), (12, 0), (8, 0), (11, 0), (10, 0)] r' 12) (bx_val [(0, 0), (0, 0), (0, 0), (0, 0), (0, 0), (0, 0), (0, 0), (0, 0), (8, 0), (9, 0), (10, 0), (11, 0), (12, 0), (8, 0), (11, 0), (10, 0)] r' 13) (bx_val [(0, 0), (0, 0), (0, 0), (0, 0), (0, 0), (0, 0), (0, 0), (0, 0), (8, 0), (9, 0), (10, 0), (11, 0), (12, 0), (8, 0), (11, 0), (10, 0)] r' 14) (bx_val [(0, 0), (0, 0), (0, 0), (0, 0), (0, 0), (0, 0), (0, 0), (0, 0), (8, 0), (9, 0), (10, 0), (11, 0), (12, 0), (8, 0), (11, 0), (10, 0)] r' 15)
    rw [bx_val_x (n := 8) (e := (8, 0)) h0_ rfl, bx_val_x (n := 9) (e := (9, 0)) h0_ rfl, bx_val_x (n := 10) (e := (10, 0)) h0_ rfl, bx_val_x (n := 11) (e := (11, 0)) h0_ rfl, bx_val_x (n := 12) (e := (12, 0)) h0_ rfl, bx_val_x (n := 13) (e := (8, 0)) h0_ rfl, bx_val_x (n := 14) (e := (11, 0)) h0_ rfl, bx_val_x (n := 15) (e := (10, 0)) h0_ rfl]
    exact g.2.2.1
  · show rxmLEX_8 S0 ws (bx_up (bx_up T1 457 (r' 11) (r' 13)) 456 (r' 8) (r' 9)) (bx_val [(0, 0), (0, 0), (0, 0), (0, 0), (0, 0), (0, 0), (0, 0), (0, 0), (8, 0), (9, 0), (10, 0), (11, 0), (12, 0), (8, 0), (11, 0), (10, 0)] r' 8) (bx_val [(0, 0), (0, 0), (0, 0), (0, 0), (0, 0), (0, 0), (0, 0), (0, 0), (8, 0), (9, 0), (10, 0), (11, 0), (12, 0), (8, 0), (11, 0), (10, 0)] r' 9) (bx_val [(0, 0), (0, 0), (0, 0), (0, 0), (0, 0), (0, 0), (0, 0), (0, 0), (8, 0), (9, 0), (10, 0), (11, 0), (12, 0), (8, 0), (11, 0), (10, 0)] r' 10) (bx_val [(0, 0), (0, 0), (0, 0), (0, 0), (0, 0), (0, 0), (0, 0), (0, 0), (8, 0), (9, 0), (10, 0), (11, 0), (12, 0), (8, 0), (11, 0), (10, 0)] r' 11) (bx_val [(0, 0), (0, 0), (0, 0), (0, 0), (0, 0), (0, 0), (0, 0), (0, 0), (8, 0), (9, 0), (10, 0), (11, 0), (12, 0), (8, 0), (11, 0), (10, 0)] r' 12) (bx_val [(0, 0), (0, 0), (0, 0), (0, 0), (0, 0), (0, 0), (0, 0), (0, 0), (8, 0), (9, 0), (10, 0), (11, 0), (12, 0), (8, 0), (11, 0), (10, 0)] r' 13) (bx_val [(0, 0), (0, 0), (0, 0), (0, 0), (0, 0), (0, 0), (0, 0), (0, 0), (8, 0), (9, 0), (10, 0), (11, 0), (12, 0), (8, 0), (11, 0), (10, 0)] r' 14) (bx_val [(0, 0), (0, 0), (0, 0), (0, 0), (0, 0), (0, 0), (0, 0), (0, 0), (8, 0), (9, 0), (10, 0), (11, 0), (12, 0), (8, 0), (11, 0), (10, 0)] r' 15) < rxmLEX_7 S0 ws T1 (r 8) (r 9) (r 10) (r 11) (r 12)
    rw [bx_val_x (n := 8) (e := (8, 0)) h0_ rfl, bx_val_x (n := 9) (e := (9, 0)) h0_ rfl, bx_val_x (n := 10) (e := (10, 0)) h0_ rfl, bx_val_x (n := 11) (e := (11, 0)) h0_ rfl, bx_val_x (n := 12) (e := (12, 0)) h0_ rfl, bx_val_x (n := 13) (e := (8, 0)) h0_ rfl, bx_val_x (n := 14) (e := (11, 0)) h0_ rfl, bx_val_x (n := 15) (e := (10, 0)) h0_ rfl, ← hr_ 8 (by decide), ← hr_ 9 (by decide), ← hr_ 10 (by decide), ← hr_ 11 (by decide), ← hr_ 12 (by decide)]
    exact g.2.2.2
theorem rxdLEX_9_0 {S0 : Nat → Int → Int} {ws : List Int} {S : Nat → Int → Int} {k s t r fr k2 r2 t2 : Int} {v : Nat} (hP : (rxPLEX v) S0 ws) (hin : bx_same rxL (bx_mdl rxCmLEX) S0 S) (hin2 : bx_same rxL (bx_mdl rxCmLEX) S (bx_up S 457 r ((-1)))) (I0 : bx_Inv rxL S) (I1 : bx_Inv rxL (bx_up S 457 r ((-1)))) (hinv : rxILEX_9 S0 ws S k s t r fr k2 r2 t2) (l8 : 0 ≤ k) (u8 : k ≤ 11) (l9 : 0 ≤ s) (u9 : s ≤ 2) (l10 : 1 ≤ t) (u10 : t ≤ 3) (l11 : 0 ≤ r) (u11 : r ≤ 17) (l12 : 1 ≤ fr) (u12 : fr ≤ 1) (l13 : 0 ≤ k2) (u13 : k2 ≤ 11) (l14 : 0 ≤ r2) (u14 : r2 ≤ 17) (l15 : 1 ≤ t2) (u15 : t2 ≤ 3) (f0 : fr ≠ 0) : (True) ∧ rxPSLEX S0 ws (bx_up S 457 r ((-1))) none := by
  obtain ⟨hw, hk, hf1, hf0, h1, h2, h3, h4⟩ := hinv
  rcases (show fr = 0 ∨ fr = 1 by omega) with hf | hf
  · first
      | (exfalso; omega)
      | (refine ⟨trivial, rfl, k, s, t, hw, fun j => ?_, h2, h3, h4⟩
         rw [h1 j]
         by_cases hj : j = r
         · rw [hj, ldu_at, hf0 hf]
         · rw [ldu_ne hj])
  · first
      | (exfalso; omega)
      | (refine ⟨trivial, rfl, k, s, t, hw, fun j => ?_, fun j => by rw [bx_up_ne (by omega)]; exact h2 j, fun j hj => by rw [bx_up_ne (by omega)]; exact h3 j hj, by rw [bx_up_ne (by omega), bx_up_ne (by omega)]; exact h4⟩
         by_cases hj : j = r
         · rw [hj, bx_up_at, hf1 hf]
         · rw [bx_up_ne (by omega), h1 j, ldu_ne hj])
theorem rxfLEX_9_0 {X : (Nat → Int → Int) → Prop} {S0 : Nat → Int → Int} {ws : List Int} {v : Nat} (hP : (rxPLEX v) S0 ws) : bx_obE rxL X S0 rxCmLEX (rxILEX S0 ws) (rxPSLEX S0 ws) 9 rxzLEX_9 rxeLEX_9_0 := by
  intro S S' r r' hinv hX hin hsm_ hseg
  obtain ⟨I0, I1, h0_, hr_, b_, f_, d_⟩ := bx_cl (evs := [(1, (0, 457), (11, 0), .inr (0, (0, (-1))))]) (fvs := [(3, (12, 0), (0, 0), (0, 0))]) hseg (by decide +kernel) (by decide +kernel)
  have hinv : rxILEX_9 S0 ws S (r 8) (r 9) (r 10) (r 11) (r 12) (r 13) (r 14) (r 15) := hinv
  rw [← hr_ 8 (by decide), ← hr_ 9 (by decide), ← hr_ 10 (by decide), ← hr_ 11 (by decide), ← hr_ 12 (by decide), ← hr_ 13 (by decide), ← hr_ 14 (by decide), ← hr_ 15 (by decide)] at hinv
  obtain ⟨⟨l8, u8⟩, ⟨l9, u9⟩, ⟨l10, u10⟩, ⟨l11, u11⟩, ⟨l12, u12⟩, ⟨l13, u13⟩, ⟨l14, u14⟩, ⟨l15, u15⟩, -⟩ := b_
  obtain ⟨f0, -⟩ := f_
  obtain ⟨T0, w_, w0⟩ := d_
  subst w0
  subst w_
  have g := rxdLEX_9_0 hP hin hsm_ I0 I1 hinv l8 u8 l9 u9 l10 u10 l11 u11 l12 u12 l13 u13 l14 u14 l15 u15 f0
  refine ⟨bx_narP_ok (l := []) g.1, ?_⟩
  exact g.2
theorem rxdLEX_9_1 {S0 : Nat → Int → Int} {ws : List Int} {S : Nat → Int → Int} {k s t r fr k2 r2 t2 : Int} {v : Nat} (hP : (rxPLEX v) S0 ws) (hin : bx_same rxL (bx_mdl rxCmLEX) S0 S) (hin2 : bx_same rxL (bx_mdl rxCmLEX) S S) (I0 : bx_Inv rxL S) (I1 : bx_Inv rxL S) (hinv : rxILEX_9 S0 ws S k s t r fr k2 r2 t2) (l8 : 0 ≤ k) (u8 : k ≤ 11) (l9 : 0 ≤ s) (u9 : s ≤ 2) (l10 : 1 ≤ t) (u10 : t ≤ 3) (l11 : 0 ≤ r) (u11 : r ≤ 17) (l12 : 0 ≤ fr) (u12 : fr ≤ 0) (l13 : 0 ≤ k2) (u13 : k2 ≤ 11) (l14 : 0 ≤ r2) (u14 : r2 ≤ 17) (l15 : 1 ≤ t2) (u15 : t2 ≤ 3) : (True) ∧ rxPSLEX S0 ws S none := by
  obtain ⟨hw, hk, hf1, hf0, h1, h2, h3, h4⟩ := hinv
  rcases (show fr = 0 ∨ fr = 1 by omega) with hf | hf
  · first
      | (exfalso; omega)
      | (refine ⟨trivial, rfl, k, s, t, hw, fun j => ?_, h2, h3, h4⟩
         rw [h1 j]
         by_cases hj : j = r
         · rw [hj, ldu_at, hf0 hf]
         · rw [ldu_ne hj])
  · first
      | (exfalso; omega)
      | (refine ⟨trivial, rfl, k, s, t, hw, fun j => ?_, fun j => by rw [bx_up_ne (by omega)]; exact h2 j, fun j hj => by rw [bx_up_ne (by omega)]; exact h3 j hj, by rw [bx_up_ne (by omega), bx_up_ne (by omega)]; exact h4⟩
         by_cases hj : j = r
         · rw [hj, bx_up_at, hf1 hf]
         · rw [bx_up_ne (by omega), h1 j, ldu_ne hj])
theorem rxfLEX_9_1 {X : (Nat → Int → Int) → Prop} {S0 : Nat → Int → Int} {ws : List Int} {v : Nat} (hP : (rxPLEX v) S0 ws) : bx_obE rxL X S0 rxCmLEX (rxILEX S0 ws) (rxPSLEX S0 ws) 9 rxzLEX_9 rxeLEX_9_1 := by
  intro S S' r r' hinv hX hin hsm_ hseg
  obtain ⟨I0, I1, h0_, hr_, b_, f_, d_⟩ := bx_cl (evs := []) (fvs := []) hseg (by decide +kernel) (by decide +kernel)
  have hinv : rxILEX_9 S0 ws S (r 8) (r 9) (r 10) (r 11) (r 12) (r 13) (r 14) (r 15) := hinv
  rw [← hr_ 8 (by decide), ← hr_ 9 (by decide), ← hr_ 10 (by decide), ← hr_ 11 (by decide), ← hr_ 12 (by decide), ← hr_ 13 (by decide), ← hr_ 14 (by decide), ← hr_ 15 (by decide)] at hinv
  obtain ⟨⟨l8, u8⟩, ⟨l9, u9⟩, ⟨l10, u10⟩, ⟨l11, u11⟩, ⟨l12, u12⟩, ⟨l13, u13⟩, ⟨l14, u14⟩, ⟨l15, u15⟩, -⟩ := b_
  have w_ := d_
  subst w_
  have g := rxdLEX_9_1 hP hin hsm_ I0 I1 hinv l8 u8 l9 u9 l10 u10 l11 u11 l12 u12 l13 u13 l14 u14 l15 u15
  refine ⟨bx_narP_ok (l := []) g.1, ?_⟩
  exact g.2
theorem rxgCLEX {v : Nat} {X : (Nat → Int → Int) → Prop} {S0 : Nat → Int → Int} {ws : List Int} (hP : (rxPLEX v) S0 ws) : bx_allI (fun i q => rxULEX q = true ∨ bx_allP (fun o => bx_obC rxL X S0 rxCmLEX (rxILEX S0 ws) (rxmLEX S0 ws) i q.1 o) q.2.1) 0 rxYLEX := ⟨Or.inr ⟨rxgLEX_0_0 hP, rxgLEX_0_1 hP, rxgLEX_0_2 hP, rxgLEX_0_3 hP, trivial⟩, Or.inr ⟨rxgLEX_1_0 hP, trivial⟩, Or.inl rfl, Or.inl rfl, Or.inr trivial, Or.inl rfl, Or.inr ⟨rxgLEX_6_0 hP, rxgLEX_6_1 hP, trivial⟩, Or.inr ⟨rxgLEX_7_0 hP, trivial⟩, Or.inl rfl, Or.inr trivial, trivial⟩
theorem rxgELEX {v : Nat} {X : (Nat → Int → Int) → Prop} {S0 : Nat → Int → Int} {ws : List Int} (hP : (rxPLEX v) S0 ws) : bx_allI (fun i q => rxULEX q = true ∨ bx_allP (fun E => bx_obE rxL X S0 rxCmLEX (rxILEX S0 ws) (rxPSLEX S0 ws) i q.1 E) q.2.2) 0 rxYLEX := ⟨Or.inr ⟨rxfLEX_0_0 hP, rxfLEX_0_1 hP, rxfLEX_0_2 hP, trivial⟩, Or.inr ⟨rxfLEX_1_0 hP, trivial⟩, Or.inl rfl, Or.inl rfl, Or.inr ⟨rxfLEX_4_0 hP, trivial⟩, Or.inl rfl, Or.inr ⟨rxfLEX_6_0 hP, trivial⟩, Or.inr trivial, Or.inl rfl, Or.inr ⟨rxfLEX_9_0 hP, rxfLEX_9_1 hP, trivial⟩, trivial⟩
set_option maxRecDepth 100000 in
theorem rxYcLEX_0 : bx_chkH rxYBLEX rxM53 (rxCLEX 0) rxYLEX (rxULEX, fun cut z => rx_ex2 (rxCT rxYBLEX rxCnE) cut 30000 (rxCLEX 0).2.2.2.1 53 z) = true := by decide +kernel
theorem rxuLEX_0 {PX : State → Prop} {Dg : va_G} {A : Nat → Prop} {ad xa : Nat → Nat} {l : Launch} {X : (Nat → Int → Int) → Prop} (hPX : rx_PXOK rxNW A PX) (hX : ∀ S S1 : Nat → Int → Int, X S → bx_same rxL (bx_mdl (rxCLEX 0).2.2.1) S S1 → X S1) (hQLWH : bx_ConP rxG rxNW rxAO PX Dg rxL X vwCl A ad l rxM54 rxCLWH rxPLWH rxPSLWH) (hQLRA : bx_ConP rxG rxNW rxAO PX Dg rxL X vwCl A ad l rxM1 rxCLRA rxPLRA rxPSLRA) (hQLGN : bx_ConP rxG rxNW rxAO PX Dg rxL X vwCl A ad l rxM55 (rxCLGN 0) (rxPLGN 0) rxPSLGN) {S0 : Nat → Int → Int} {ws : List Int} (hP : (rxPLEX 0) S0 ws) : ∀ (i : Nat) (q : bx_HE), rxYLEX[i]? = some q → rxULEX q = true → ∀ {p : Program} {e : Env} {R : Room} {s : State} {m : MethodId} {args : Array Value} {below : List Frame} {meth : Method} {c : Code} {Q : State → Prop} {H0 : Heap}, rx_Fr rxG rxNW rxAO PX p s m args meth c rxM53 → (∀ q, H0.size ≤ q → A q) → H0 = s.heap → rxM53.2.2.2.2.2.2.1 ≤ R.cells → rxM53.2.2.2.2.2.2.2 ≤ R.slots → (rxCLEX 0).2.2.2.1 ≤ R.frames → (rxCLEX 0).2.2.2.1 * 40 ≤ R.locals → bx_Step p l e R s m args below meth c Q Dg rxL X vwCl A xa H0 ad rxM53 rxYLEX (rxILEX S0 ws) (rxmLEX S0 ws) S0 (rxCLEX 0).2.2.1 i q := by
  intro i q hq hus p e R s m args below meth c Q H0 hF hA hH0 hmc hms hd hdl
  match i, hq with
  | 0, hq =>
    cases hq
    exact absurd (show false = true from hus) Bool.false_ne_true
  | 1, hq =>
    cases hq
    exact absurd (show false = true from hus) Bool.false_ne_true
  | 2, hq =>
    cases hq
    exact rx_stepC (ins := .invokevirtual 82) (len := 3) (i' := 3) (M' := rxM54) (d := (rxCLEX 0).2.2.2.1) (as := [.inr (3, (0, 451))]) (t := [.inr (0, (11, 0)), .inr (3, (0, 451))]) (ct := rxCLWH) hPX hF rfl hA hH0 hmc hms hd hdl (by decide +kernel) rfl rfl (by decide +kernel) (by decide +kernel) hQLWH (by decide +kernel) rfl (Or.inr ⟨_, _, _, 1, rfl, rfl, by omega, rfl, rfl, rfl⟩) (rxsLEX_2 hP)
  | 3, hq =>
    cases hq
    exact rx_stepB (i' := 4) (o := 6) (a := (11, 0)) (b := (12, 0)) (lo := 0) (hi := 1023) (t := [.inr (3, (0, 451))]) hF (Or.inr (Or.inr (Or.inr ⟨rfl, rfl⟩))) (by decide +kernel) rfl rfl rfl rfl (rxsLEX_3 hP)
  | 4, hq =>
    cases hq
    exact absurd (show false = true from hus) Bool.false_ne_true
  | 5, hq =>
    cases hq
    exact rx_stepC (ins := .invokestatic 86) (len := 3) (i' := 6) (M' := rxM1) (d := (rxCLEX 0).2.2.2.1) (as := [.inr (0, (11, 0)), .inr (0, (12, 0))]) (t := []) (ct := rxCLRA) hPX hF rfl hA hH0 hmc hms hd hdl (by decide +kernel) rfl rfl (by decide +kernel) (by decide +kernel) hQLRA (by decide +kernel) rfl (Or.inr ⟨_, _, _, 1, rfl, rfl, by omega, rfl, rfl, rfl⟩) (rxsLEX_5 hP)
  | 6, hq =>
    cases hq
    exact absurd (show false = true from hus) Bool.false_ne_true
  | 7, hq =>
    cases hq
    exact absurd (show false = true from hus) Bool.false_ne_true
  | 8, hq =>
    cases hq
    exact rx_stepC (ins := .invokevirtual 89) (len := 3) (i' := 9) (M' := rxM55) (d := (rxCLEX 0).2.2.2.1) (as := [.inr (3, (0, 451)), .inr (0, (13, 0)), .inr (0, (14, 0)), .inr (0, (15, 0))]) (t := []) (ct := (rxCLGN 0)) hPX hF rfl hA hH0 hmc hms hd hdl (by decide +kernel) rfl rfl (by decide +kernel) (by decide +kernel) hQLGN (by decide +kernel) rfl (Or.inl ⟨rfl, rfl, rfl⟩) (rxsLEX_8 hP)
  | 9, hq =>
    cases hq
    exact absurd (show false = true from hus) Bool.false_ne_true
  | n + 10, hq => cases hq
theorem rxQLEX_0 {PX : State → Prop} {Dg : va_G} {A : Nat → Prop} {ad xa : Nat → Nat} {l : Launch} {X : (Nat → Int → Int) → Prop} (hPX : rx_PXOK rxNW A PX) (hsl : ∀ s : State, PX s → ∀ o idx n : Nat, rxSl o idx = some n → ∃ tx : String, vk_R (rxNm o) idx tx (ad n) s)
    (hX : ∀ S S' : Nat → Int → Int, X S → bx_same rxL (bx_mdl (rxCLEX 0).2.2.1) S S' → X S')
    (ih : ∀ (j2 : Nat) (ct2 : bx_Ct) (M2 : rx_Mt), ct2 ∈ rxCnE j2 → ct2.2.2.2.1 + 1 ≤ (rxCLEX 0).2.2.2.1 → rxT.2.2.2.2.2 j2 = some M2 → bx_Con rxG rxNW rxAO PX Dg rxL X vwCl A ad l M2 ct2) (hQLWH : bx_ConP rxG rxNW rxAO PX Dg rxL X vwCl A ad l rxM54 rxCLWH rxPLWH rxPSLWH) (hQLRA : bx_ConP rxG rxNW rxAO PX Dg rxL X vwCl A ad l rxM1 rxCLRA rxPLRA rxPSLRA) (hQLGN : bx_ConP rxG rxNW rxAO PX Dg rxL X vwCl A ad l rxM55 (rxCLGN 0) (rxPLGN 0) rxPSLGN) : bx_ConP rxG rxNW rxAO PX Dg rxL X vwCl A ad l rxM53 (rxCLEX 0) (rxPLEX 0) rxPSLEX :=
  rxQof (xa := xa) (Cn := rxCnE) (f := 30000) (j := 53) (tab := rxYLEX) (us := rxULEX) hPX hsl hX ih rfl rxYcLEX_0 rxILEX rxmLEX
    (fun S0 ws r I0 I ht0 ht as he he1 hX0 hI0 hP hs ha => by
      have e := he.symm.trans (show bx_ent0 rxNP (rxCLEX 0).1 bx_I0 [] = some ([(0, 0), (0, 0), (0, 0), (0, 0), (0, 0), (0, 0), (0, 0), (0, 0), (0, 12), (0, 2), (1, 3)], [], [.inr (3, (0, 451)), .inr (0, (8, 0)), .inr (0, (9, 0)), .inr (0, (10, 0))]) from rfl)
      cases e
      subst ha
      have h0 : r 0 = 0 := hs.1
      show rxILEX_0 S0 _ S0 (r 8) (r 9) (r 10)
      refine ⟨rfl, ?_⟩
      simp only [List.map_cons, List.map_nil, bx_xv_ok h0]
      rfl)
    (fun S0 ws hP => rxuLEX_0 (xa := xa) hPX hX hQLWH hQLRA hQLGN hP) (fun S0 ws hP => rxgCLEX hP) (fun S0 ws hP => rxgELEX hP)
set_option maxRecDepth 100000 in
theorem rxYcLGN_1 : bx_chkH rxYBLGN rxM55 (rxCLGN 1) rxYLGN (rxULGN, fun cut z => rx_ex2 (rxCT rxYBLGN rxCnE) cut 30000 (rxCLGN 1).2.2.2.1 55 z) = true := by decide +kernel
theorem rxuLGN_1 {PX : State → Prop} {Dg : va_G} {A : Nat → Prop} {ad xa : Nat → Nat} {l : Launch} {X : (Nat → Int → Int) → Prop} (hPX : rx_PXOK rxNW A PX) (hX : ∀ S S1 : Nat → Int → Int, X S → bx_same rxL (bx_mdl (rxCLGN 1).2.2.1) S S1 → X S1) (hQLER : bx_ConP rxG rxNW rxAO PX Dg rxL X vwCl A ad l rxM56 rxCLER rxPLER rxPSLER) (hQLEX : bx_ConP rxG rxNW rxAO PX Dg rxL X vwCl A ad l rxM53 (rxCLEX 0) (rxPLEX 0) rxPSLEX) {S0 : Nat → Int → Int} {ws : List Int} (hP : (rxPLGN 1) S0 ws) : ∀ (i : Nat) (q : bx_HE), rxYLGN[i]? = some q → rxULGN q = true → ∀ {p : Program} {e : Env} {R : Room} {s : State} {m : MethodId} {args : Array Value} {below : List Frame} {meth : Method} {c : Code} {Q : State → Prop} {H0 : Heap}, rx_Fr rxG rxNW rxAO PX p s m args meth c rxM55 → (∀ q, H0.size ≤ q → A q) → H0 = s.heap → rxM55.2.2.2.2.2.2.1 ≤ R.cells → rxM55.2.2.2.2.2.2.2 ≤ R.slots → (rxCLGN 1).2.2.2.1 ≤ R.frames → (rxCLGN 1).2.2.2.1 * 40 ≤ R.locals → bx_Step p l e R s m args below meth c Q Dg rxL X vwCl A xa H0 ad rxM55 rxYLGN (rxILGN S0 ws) (rxmLGN S0 ws) S0 (rxCLGN 1).2.2.1 i q := by
  intro i q hq hus p e R s m args below meth c Q H0 hF hA hH0 hmc hms hd hdl
  match i, hq with
  | 0, hq =>
    cases hq
    exact absurd (show false = true from hus) Bool.false_ne_true
  | 1, hq =>
    cases hq
    exact rx_stepC (ins := .invokevirtual 92) (len := 3) (i' := 2) (M' := rxM56) (d := (rxCLGN 1).2.2.2.1) (as := [.inr (3, (0, 451)), .inr (0, (11, 0))]) (t := []) (ct := rxCLER) hPX hF rfl hA hH0 hmc hms hd hdl (by decide +kernel) rfl rfl (by decide +kernel) (by decide +kernel) hQLER (by decide +kernel) rfl (Or.inr ⟨_, _, _, 1, rfl, rfl, by omega, rfl, rfl, rfl⟩) (rxsLGN_1 hP)
  | 2, hq =>
    cases hq
    exact absurd (show false = true from hus) Bool.false_ne_true
  | 3, hq =>
    cases hq
    exact rx_stepC (ins := .invokevirtual 92) (len := 3) (i' := 4) (M' := rxM56) (d := (rxCLGN 1).2.2.2.1) (as := [.inr (3, (0, 451)), .inr (0, (12, 0))]) (t := [.inr (0, (11, 0)), .inr (3, (0, 451))]) (ct := rxCLER) hPX hF rfl hA hH0 hmc hms hd hdl (by decide +kernel) rfl rfl (by decide +kernel) (by decide +kernel) hQLER (by decide +kernel) rfl (Or.inr ⟨_, _, _, 1, rfl, rfl, by omega, rfl, rfl, rfl⟩) (rxsLGN_3 hP)
  | 4, hq =>
    cases hq
    exact absurd (show false = true from hus) Bool.false_ne_true
  | 5, hq =>
    cases hq
    exact rx_stepC (ins := .invokevirtual 78) (len := 3) (i' := 6) (M' := rxM53) (d := (rxCLGN 1).2.2.2.1) (as := [.inr (3, (0, 451)), .inr (0, (11, 0)), .inr (0, (12, 0)), .inr (0, (13, 0))]) (t := []) (ct := (rxCLEX 0)) hPX hF rfl hA hH0 hmc hms hd hdl (by decide +kernel) rfl rfl (by decide +kernel) (by decide +kernel) hQLEX (by decide +kernel) rfl (Or.inl ⟨rfl, rfl, rfl⟩) (rxsLGN_5 hP)
  | 6, hq =>
    cases hq
    exact absurd (show false = true from hus) Bool.false_ne_true
  | 7, hq =>
    cases hq
    exact absurd (show false = true from hus) Bool.false_ne_true
  | 8, hq =>
    cases hq
    exact rx_stepC (ins := .invokevirtual 78) (len := 3) (i' := 9) (M' := rxM53) (d := (rxCLGN 1).2.2.2.1) (as := [.inr (3, (0, 451)), .inr (0, (12, 0)), .inr (0, (13, 0)), .inr (0, (14, 0))]) (t := []) (ct := (rxCLEX 0)) hPX hF rfl hA hH0 hmc hms hd hdl (by decide +kernel) rfl rfl (by decide +kernel) (by decide +kernel) hQLEX (by decide +kernel) rfl (Or.inl ⟨rfl, rfl, rfl⟩) (rxsLGN_8 hP)
  | 9, hq =>
    cases hq
    exact absurd (show false = true from hus) Bool.false_ne_true
  | n + 10, hq => cases hq
theorem rxQLGN_1 {PX : State → Prop} {Dg : va_G} {A : Nat → Prop} {ad xa : Nat → Nat} {l : Launch} {X : (Nat → Int → Int) → Prop} (hPX : rx_PXOK rxNW A PX) (hsl : ∀ s : State, PX s → ∀ o idx n : Nat, rxSl o idx = some n → ∃ tx : String, vk_R (rxNm o) idx tx (ad n) s)
    (hX : ∀ S S' : Nat → Int → Int, X S → bx_same rxL (bx_mdl (rxCLGN 1).2.2.1) S S' → X S')
    (ih : ∀ (j2 : Nat) (ct2 : bx_Ct) (M2 : rx_Mt), ct2 ∈ rxCnE j2 → ct2.2.2.2.1 + 1 ≤ (rxCLGN 1).2.2.2.1 → rxT.2.2.2.2.2 j2 = some M2 → bx_Con rxG rxNW rxAO PX Dg rxL X vwCl A ad l M2 ct2) (hQLER : bx_ConP rxG rxNW rxAO PX Dg rxL X vwCl A ad l rxM56 rxCLER rxPLER rxPSLER) (hQLEX : bx_ConP rxG rxNW rxAO PX Dg rxL X vwCl A ad l rxM53 (rxCLEX 0) (rxPLEX 0) rxPSLEX) : bx_ConP rxG rxNW rxAO PX Dg rxL X vwCl A ad l rxM55 (rxCLGN 1) (rxPLGN 1) rxPSLGN :=
  rxQof (xa := xa) (Cn := rxCnE) (f := 30000) (j := 55) (tab := rxYLGN) (us := rxULGN) hPX hsl hX ih rfl rxYcLGN_1 rxILGN rxmLGN
    (fun S0 ws r I0 I ht0 ht as he he1 hX0 hI0 hP hs ha => by
      have e := he.symm.trans (show bx_ent0 rxNP (rxCLGN 1).1 bx_I0 [] = some ([(0, 0), (0, 0), (0, 0), (0, 0), (0, 0), (0, 0), (0, 0), (0, 0), (0, 11), (0, 17), (1, 3)], [], [.inr (3, (0, 451)), .inr (0, (8, 0)), .inr (0, (9, 0)), .inr (0, (10, 0))]) from rfl)
      cases e
      subst ha
      have h0 : r 0 = 0 := hs.1
      show rxILGN_0 S0 _ S0 (r 8) (r 9) (r 10)
      refine ⟨rfl, ?_⟩
      simp only [List.map_cons, List.map_nil, bx_xv_ok h0]
      rfl)
    (fun S0 ws hP => rxuLGN_1 (xa := xa) hPX hX hQLER hQLEX hP) (fun S0 ws hP => rxgCLGN hP) (fun S0 ws hP => rxgELGN hP)
set_option maxRecDepth 100000 in
theorem rxYcLEX_1 : bx_chkH rxYBLEX rxM53 (rxCLEX 1) rxYLEX (rxULEX, fun cut z => rx_ex2 (rxCT rxYBLEX rxCnE) cut 30000 (rxCLEX 1).2.2.2.1 53 z) = true := by decide +kernel
theorem rxuLEX_1 {PX : State → Prop} {Dg : va_G} {A : Nat → Prop} {ad xa : Nat → Nat} {l : Launch} {X : (Nat → Int → Int) → Prop} (hPX : rx_PXOK rxNW A PX) (hX : ∀ S S1 : Nat → Int → Int, X S → bx_same rxL (bx_mdl (rxCLEX 1).2.2.1) S S1 → X S1) (hQLWH : bx_ConP rxG rxNW rxAO PX Dg rxL X vwCl A ad l rxM54 rxCLWH rxPLWH rxPSLWH) (hQLRA : bx_ConP rxG rxNW rxAO PX Dg rxL X vwCl A ad l rxM1 rxCLRA rxPLRA rxPSLRA) (hQLGN : bx_ConP rxG rxNW rxAO PX Dg rxL X vwCl A ad l rxM55 (rxCLGN 1) (rxPLGN 1) rxPSLGN) {S0 : Nat → Int → Int} {ws : List Int} (hP : (rxPLEX 1) S0 ws) : ∀ (i : Nat) (q : bx_HE), rxYLEX[i]? = some q → rxULEX q = true → ∀ {p : Program} {e : Env} {R : Room} {s : State} {m : MethodId} {args : Array Value} {below : List Frame} {meth : Method} {c : Code} {Q : State → Prop} {H0 : Heap}, rx_Fr rxG rxNW rxAO PX p s m args meth c rxM53 → (∀ q, H0.size ≤ q → A q) → H0 = s.heap → rxM53.2.2.2.2.2.2.1 ≤ R.cells → rxM53.2.2.2.2.2.2.2 ≤ R.slots → (rxCLEX 1).2.2.2.1 ≤ R.frames → (rxCLEX 1).2.2.2.1 * 40 ≤ R.locals → bx_Step p l e R s m args below meth c Q Dg rxL X vwCl A xa H0 ad rxM53 rxYLEX (rxILEX S0 ws) (rxmLEX S0 ws) S0 (rxCLEX 1).2.2.1 i q := by
  intro i q hq hus p e R s m args below meth c Q H0 hF hA hH0 hmc hms hd hdl
  match i, hq with
  | 0, hq =>
    cases hq
    exact absurd (show false = true from hus) Bool.false_ne_true
  | 1, hq =>
    cases hq
    exact absurd (show false = true from hus) Bool.false_ne_true
  | 2, hq =>
    cases hq
    exact rx_stepC (ins := .invokevirtual 82) (len := 3) (i' := 3) (M' := rxM54) (d := (rxCLEX 1).2.2.2.1) (as := [.inr (3, (0, 451))]) (t := [.inr (0, (11, 0)), .inr (3, (0, 451))]) (ct := rxCLWH) hPX hF rfl hA hH0 hmc hms hd hdl (by decide +kernel) rfl rfl (by decide +kernel) (by decide +kernel) hQLWH (by decide +kernel) rfl (Or.inr ⟨_, _, _, 1, rfl, rfl, by omega, rfl, rfl, rfl⟩) (rxsLEX_2 hP)
  | 3, hq =>
    cases hq
    exact rx_stepB (i' := 4) (o := 6) (a := (11, 0)) (b := (12, 0)) (lo := 0) (hi := 1023) (t := [.inr (3, (0, 451))]) hF (Or.inr (Or.inr (Or.inr ⟨rfl, rfl⟩))) (by decide +kernel) rfl rfl rfl rfl (rxsLEX_3 hP)
  | 4, hq =>
    cases hq
    exact absurd (show false = true from hus) Bool.false_ne_true
  | 5, hq =>
    cases hq
    exact rx_stepC (ins := .invokestatic 86) (len := 3) (i' := 6) (M' := rxM1) (d := (rxCLEX 1).2.2.2.1) (as := [.inr (0, (11, 0)), .inr (0, (12, 0))]) (t := []) (ct := rxCLRA) hPX hF rfl hA hH0 hmc hms hd hdl (by decide +kernel) rfl rfl (by decide +kernel) (by decide +kernel) hQLRA (by decide +kernel) rfl (Or.inr ⟨_, _, _, 1, rfl, rfl, by omega, rfl, rfl, rfl⟩) (rxsLEX_5 hP)
  | 6, hq =>
    cases hq
    exact absurd (show false = true from hus) Bool.false_ne_true
  | 7, hq =>
    cases hq
    exact absurd (show false = true from hus) Bool.false_ne_true
  | 8, hq =>
    cases hq
    exact rx_stepC (ins := .invokevirtual 89) (len := 3) (i' := 9) (M' := rxM55) (d := (rxCLEX 1).2.2.2.1) (as := [.inr (3, (0, 451)), .inr (0, (13, 0)), .inr (0, (14, 0)), .inr (0, (15, 0))]) (t := []) (ct := (rxCLGN 1)) hPX hF rfl hA hH0 hmc hms hd hdl (by decide +kernel) rfl rfl (by decide +kernel) (by decide +kernel) hQLGN (by decide +kernel) rfl (Or.inl ⟨rfl, rfl, rfl⟩) (rxsLEX_8 hP)
  | 9, hq =>
    cases hq
    exact absurd (show false = true from hus) Bool.false_ne_true
  | n + 10, hq => cases hq
theorem rxQLEX_1 {PX : State → Prop} {Dg : va_G} {A : Nat → Prop} {ad xa : Nat → Nat} {l : Launch} {X : (Nat → Int → Int) → Prop} (hPX : rx_PXOK rxNW A PX) (hsl : ∀ s : State, PX s → ∀ o idx n : Nat, rxSl o idx = some n → ∃ tx : String, vk_R (rxNm o) idx tx (ad n) s)
    (hX : ∀ S S' : Nat → Int → Int, X S → bx_same rxL (bx_mdl (rxCLEX 1).2.2.1) S S' → X S')
    (ih : ∀ (j2 : Nat) (ct2 : bx_Ct) (M2 : rx_Mt), ct2 ∈ rxCnE j2 → ct2.2.2.2.1 + 1 ≤ (rxCLEX 1).2.2.2.1 → rxT.2.2.2.2.2 j2 = some M2 → bx_Con rxG rxNW rxAO PX Dg rxL X vwCl A ad l M2 ct2) (hQLWH : bx_ConP rxG rxNW rxAO PX Dg rxL X vwCl A ad l rxM54 rxCLWH rxPLWH rxPSLWH) (hQLRA : bx_ConP rxG rxNW rxAO PX Dg rxL X vwCl A ad l rxM1 rxCLRA rxPLRA rxPSLRA) (hQLGN : bx_ConP rxG rxNW rxAO PX Dg rxL X vwCl A ad l rxM55 (rxCLGN 1) (rxPLGN 1) rxPSLGN) : bx_ConP rxG rxNW rxAO PX Dg rxL X vwCl A ad l rxM53 (rxCLEX 1) (rxPLEX 1) rxPSLEX :=
  rxQof (xa := xa) (Cn := rxCnE) (f := 30000) (j := 53) (tab := rxYLEX) (us := rxULEX) hPX hsl hX ih rfl rxYcLEX_1 rxILEX rxmLEX
    (fun S0 ws r I0 I ht0 ht as he he1 hX0 hI0 hP hs ha => by
      have e := he.symm.trans (show bx_ent0 rxNP (rxCLEX 1).1 bx_I0 [] = some ([(0, 0), (0, 0), (0, 0), (0, 0), (0, 0), (0, 0), (0, 0), (0, 0), (0, 12), (0, 2), (1, 3)], [], [.inr (3, (0, 451)), .inr (0, (8, 0)), .inr (0, (9, 0)), .inr (0, (10, 0))]) from rfl)
      cases e
      subst ha
      have h0 : r 0 = 0 := hs.1
      show rxILEX_0 S0 _ S0 (r 8) (r 9) (r 10)
      refine ⟨rfl, ?_⟩
      simp only [List.map_cons, List.map_nil, bx_xv_ok h0]
      rfl)
    (fun S0 ws hP => rxuLEX_1 (xa := xa) hPX hX hQLWH hQLRA hQLGN hP) (fun S0 ws hP => rxgCLEX hP) (fun S0 ws hP => rxgELEX hP)
set_option maxRecDepth 100000 in
theorem rxYcLGN_2 : bx_chkH rxYBLGN rxM55 (rxCLGN 2) rxYLGN (rxULGN, fun cut z => rx_ex2 (rxCT rxYBLGN rxCnE) cut 30000 (rxCLGN 2).2.2.2.1 55 z) = true := by decide +kernel
theorem rxuLGN_2 {PX : State → Prop} {Dg : va_G} {A : Nat → Prop} {ad xa : Nat → Nat} {l : Launch} {X : (Nat → Int → Int) → Prop} (hPX : rx_PXOK rxNW A PX) (hX : ∀ S S1 : Nat → Int → Int, X S → bx_same rxL (bx_mdl (rxCLGN 2).2.2.1) S S1 → X S1) (hQLER : bx_ConP rxG rxNW rxAO PX Dg rxL X vwCl A ad l rxM56 rxCLER rxPLER rxPSLER) (hQLEX : bx_ConP rxG rxNW rxAO PX Dg rxL X vwCl A ad l rxM53 (rxCLEX 1) (rxPLEX 1) rxPSLEX) {S0 : Nat → Int → Int} {ws : List Int} (hP : (rxPLGN 2) S0 ws) : ∀ (i : Nat) (q : bx_HE), rxYLGN[i]? = some q → rxULGN q = true → ∀ {p : Program} {e : Env} {R : Room} {s : State} {m : MethodId} {args : Array Value} {below : List Frame} {meth : Method} {c : Code} {Q : State → Prop} {H0 : Heap}, rx_Fr rxG rxNW rxAO PX p s m args meth c rxM55 → (∀ q, H0.size ≤ q → A q) → H0 = s.heap → rxM55.2.2.2.2.2.2.1 ≤ R.cells → rxM55.2.2.2.2.2.2.2 ≤ R.slots → (rxCLGN 2).2.2.2.1 ≤ R.frames → (rxCLGN 2).2.2.2.1 * 40 ≤ R.locals → bx_Step p l e R s m args below meth c Q Dg rxL X vwCl A xa H0 ad rxM55 rxYLGN (rxILGN S0 ws) (rxmLGN S0 ws) S0 (rxCLGN 2).2.2.1 i q := by
  intro i q hq hus p e R s m args below meth c Q H0 hF hA hH0 hmc hms hd hdl
  match i, hq with
  | 0, hq =>
    cases hq
    exact absurd (show false = true from hus) Bool.false_ne_true
  | 1, hq =>
    cases hq
    exact rx_stepC (ins := .invokevirtual 92) (len := 3) (i' := 2) (M' := rxM56) (d := (rxCLGN 2).2.2.2.1) (as := [.inr (3, (0, 451)), .inr (0, (11, 0))]) (t := []) (ct := rxCLER) hPX hF rfl hA hH0 hmc hms hd hdl (by decide +kernel) rfl rfl (by decide +kernel) (by decide +kernel) hQLER (by decide +kernel) rfl (Or.inr ⟨_, _, _, 1, rfl, rfl, by omega, rfl, rfl, rfl⟩) (rxsLGN_1 hP)
  | 2, hq =>
    cases hq
    exact absurd (show false = true from hus) Bool.false_ne_true
  | 3, hq =>
    cases hq
    exact rx_stepC (ins := .invokevirtual 92) (len := 3) (i' := 4) (M' := rxM56) (d := (rxCLGN 2).2.2.2.1) (as := [.inr (3, (0, 451)), .inr (0, (12, 0))]) (t := [.inr (0, (11, 0)), .inr (3, (0, 451))]) (ct := rxCLER) hPX hF rfl hA hH0 hmc hms hd hdl (by decide +kernel) rfl rfl (by decide +kernel) (by decide +kernel) hQLER (by decide +kernel) rfl (Or.inr ⟨_, _, _, 1, rfl, rfl, by omega, rfl, rfl, rfl⟩) (rxsLGN_3 hP)
  | 4, hq =>
    cases hq
    exact absurd (show false = true from hus) Bool.false_ne_true
  | 5, hq =>
    cases hq
    exact rx_stepC (ins := .invokevirtual 78) (len := 3) (i' := 6) (M' := rxM53) (d := (rxCLGN 2).2.2.2.1) (as := [.inr (3, (0, 451)), .inr (0, (11, 0)), .inr (0, (12, 0)), .inr (0, (13, 0))]) (t := []) (ct := (rxCLEX 1)) hPX hF rfl hA hH0 hmc hms hd hdl (by decide +kernel) rfl rfl (by decide +kernel) (by decide +kernel) hQLEX (by decide +kernel) rfl (Or.inl ⟨rfl, rfl, rfl⟩) (rxsLGN_5 hP)
  | 6, hq =>
    cases hq
    exact absurd (show false = true from hus) Bool.false_ne_true
  | 7, hq =>
    cases hq
    exact absurd (show false = true from hus) Bool.false_ne_true
  | 8, hq =>
    cases hq
    exact rx_stepC (ins := .invokevirtual 78) (len := 3) (i' := 9) (M' := rxM53) (d := (rxCLGN 2).2.2.2.1) (as := [.inr (3, (0, 451)), .inr (0, (12, 0)), .inr (0, (13, 0)), .inr (0, (14, 0))]) (t := []) (ct := (rxCLEX 1)) hPX hF rfl hA hH0 hmc hms hd hdl (by decide +kernel) rfl rfl (by decide +kernel) (by decide +kernel) hQLEX (by decide +kernel) rfl (Or.inl ⟨rfl, rfl, rfl⟩) (rxsLGN_8 hP)
  | 9, hq =>
    cases hq
    exact absurd (show false = true from hus) Bool.false_ne_true
  | n + 10, hq => cases hq
theorem rxQLGN_2 {PX : State → Prop} {Dg : va_G} {A : Nat → Prop} {ad xa : Nat → Nat} {l : Launch} {X : (Nat → Int → Int) → Prop} (hPX : rx_PXOK rxNW A PX) (hsl : ∀ s : State, PX s → ∀ o idx n : Nat, rxSl o idx = some n → ∃ tx : String, vk_R (rxNm o) idx tx (ad n) s)
    (hX : ∀ S S' : Nat → Int → Int, X S → bx_same rxL (bx_mdl (rxCLGN 2).2.2.1) S S' → X S')
    (ih : ∀ (j2 : Nat) (ct2 : bx_Ct) (M2 : rx_Mt), ct2 ∈ rxCnE j2 → ct2.2.2.2.1 + 1 ≤ (rxCLGN 2).2.2.2.1 → rxT.2.2.2.2.2 j2 = some M2 → bx_Con rxG rxNW rxAO PX Dg rxL X vwCl A ad l M2 ct2) (hQLER : bx_ConP rxG rxNW rxAO PX Dg rxL X vwCl A ad l rxM56 rxCLER rxPLER rxPSLER) (hQLEX : bx_ConP rxG rxNW rxAO PX Dg rxL X vwCl A ad l rxM53 (rxCLEX 1) (rxPLEX 1) rxPSLEX) : bx_ConP rxG rxNW rxAO PX Dg rxL X vwCl A ad l rxM55 (rxCLGN 2) (rxPLGN 2) rxPSLGN :=
  rxQof (xa := xa) (Cn := rxCnE) (f := 30000) (j := 55) (tab := rxYLGN) (us := rxULGN) hPX hsl hX ih rfl rxYcLGN_2 rxILGN rxmLGN
    (fun S0 ws r I0 I ht0 ht as he he1 hX0 hI0 hP hs ha => by
      have e := he.symm.trans (show bx_ent0 rxNP (rxCLGN 2).1 bx_I0 [] = some ([(0, 0), (0, 0), (0, 0), (0, 0), (0, 0), (0, 0), (0, 0), (0, 0), (0, 11), (0, 17), (1, 3)], [], [.inr (3, (0, 451)), .inr (0, (8, 0)), .inr (0, (9, 0)), .inr (0, (10, 0))]) from rfl)
      cases e
      subst ha
      have h0 : r 0 = 0 := hs.1
      show rxILGN_0 S0 _ S0 (r 8) (r 9) (r 10)
      refine ⟨rfl, ?_⟩
      simp only [List.map_cons, List.map_nil, bx_xv_ok h0]
      rfl)
    (fun S0 ws hP => rxuLGN_2 (xa := xa) hPX hX hQLER hQLEX hP) (fun S0 ws hP => rxgCLGN hP) (fun S0 ws hP => rxgELGN hP)
set_option maxRecDepth 100000 in
theorem rxYcLEX_2 : bx_chkH rxYBLEX rxM53 (rxCLEX 2) rxYLEX (rxULEX, fun cut z => rx_ex2 (rxCT rxYBLEX rxCnE) cut 30000 (rxCLEX 2).2.2.2.1 53 z) = true := by decide +kernel
theorem rxuLEX_2 {PX : State → Prop} {Dg : va_G} {A : Nat → Prop} {ad xa : Nat → Nat} {l : Launch} {X : (Nat → Int → Int) → Prop} (hPX : rx_PXOK rxNW A PX) (hX : ∀ S S1 : Nat → Int → Int, X S → bx_same rxL (bx_mdl (rxCLEX 2).2.2.1) S S1 → X S1) (hQLWH : bx_ConP rxG rxNW rxAO PX Dg rxL X vwCl A ad l rxM54 rxCLWH rxPLWH rxPSLWH) (hQLRA : bx_ConP rxG rxNW rxAO PX Dg rxL X vwCl A ad l rxM1 rxCLRA rxPLRA rxPSLRA) (hQLGN : bx_ConP rxG rxNW rxAO PX Dg rxL X vwCl A ad l rxM55 (rxCLGN 2) (rxPLGN 2) rxPSLGN) {S0 : Nat → Int → Int} {ws : List Int} (hP : (rxPLEX 2) S0 ws) : ∀ (i : Nat) (q : bx_HE), rxYLEX[i]? = some q → rxULEX q = true → ∀ {p : Program} {e : Env} {R : Room} {s : State} {m : MethodId} {args : Array Value} {below : List Frame} {meth : Method} {c : Code} {Q : State → Prop} {H0 : Heap}, rx_Fr rxG rxNW rxAO PX p s m args meth c rxM53 → (∀ q, H0.size ≤ q → A q) → H0 = s.heap → rxM53.2.2.2.2.2.2.1 ≤ R.cells → rxM53.2.2.2.2.2.2.2 ≤ R.slots → (rxCLEX 2).2.2.2.1 ≤ R.frames → (rxCLEX 2).2.2.2.1 * 40 ≤ R.locals → bx_Step p l e R s m args below meth c Q Dg rxL X vwCl A xa H0 ad rxM53 rxYLEX (rxILEX S0 ws) (rxmLEX S0 ws) S0 (rxCLEX 2).2.2.1 i q := by
  intro i q hq hus p e R s m args below meth c Q H0 hF hA hH0 hmc hms hd hdl
  match i, hq with
  | 0, hq =>
    cases hq
    exact absurd (show false = true from hus) Bool.false_ne_true
  | 1, hq =>
    cases hq
    exact absurd (show false = true from hus) Bool.false_ne_true
  | 2, hq =>
    cases hq
    exact rx_stepC (ins := .invokevirtual 82) (len := 3) (i' := 3) (M' := rxM54) (d := (rxCLEX 2).2.2.2.1) (as := [.inr (3, (0, 451))]) (t := [.inr (0, (11, 0)), .inr (3, (0, 451))]) (ct := rxCLWH) hPX hF rfl hA hH0 hmc hms hd hdl (by decide +kernel) rfl rfl (by decide +kernel) (by decide +kernel) hQLWH (by decide +kernel) rfl (Or.inr ⟨_, _, _, 1, rfl, rfl, by omega, rfl, rfl, rfl⟩) (rxsLEX_2 hP)
  | 3, hq =>
    cases hq
    exact rx_stepB (i' := 4) (o := 6) (a := (11, 0)) (b := (12, 0)) (lo := 0) (hi := 1023) (t := [.inr (3, (0, 451))]) hF (Or.inr (Or.inr (Or.inr ⟨rfl, rfl⟩))) (by decide +kernel) rfl rfl rfl rfl (rxsLEX_3 hP)
  | 4, hq =>
    cases hq
    exact absurd (show false = true from hus) Bool.false_ne_true
  | 5, hq =>
    cases hq
    exact rx_stepC (ins := .invokestatic 86) (len := 3) (i' := 6) (M' := rxM1) (d := (rxCLEX 2).2.2.2.1) (as := [.inr (0, (11, 0)), .inr (0, (12, 0))]) (t := []) (ct := rxCLRA) hPX hF rfl hA hH0 hmc hms hd hdl (by decide +kernel) rfl rfl (by decide +kernel) (by decide +kernel) hQLRA (by decide +kernel) rfl (Or.inr ⟨_, _, _, 1, rfl, rfl, by omega, rfl, rfl, rfl⟩) (rxsLEX_5 hP)
  | 6, hq =>
    cases hq
    exact absurd (show false = true from hus) Bool.false_ne_true
  | 7, hq =>
    cases hq
    exact absurd (show false = true from hus) Bool.false_ne_true
  | 8, hq =>
    cases hq
    exact rx_stepC (ins := .invokevirtual 89) (len := 3) (i' := 9) (M' := rxM55) (d := (rxCLEX 2).2.2.2.1) (as := [.inr (3, (0, 451)), .inr (0, (13, 0)), .inr (0, (14, 0)), .inr (0, (15, 0))]) (t := []) (ct := (rxCLGN 2)) hPX hF rfl hA hH0 hmc hms hd hdl (by decide +kernel) rfl rfl (by decide +kernel) (by decide +kernel) hQLGN (by decide +kernel) rfl (Or.inl ⟨rfl, rfl, rfl⟩) (rxsLEX_8 hP)
  | 9, hq =>
    cases hq
    exact absurd (show false = true from hus) Bool.false_ne_true
  | n + 10, hq => cases hq
theorem rxQLEX_2 {PX : State → Prop} {Dg : va_G} {A : Nat → Prop} {ad xa : Nat → Nat} {l : Launch} {X : (Nat → Int → Int) → Prop} (hPX : rx_PXOK rxNW A PX) (hsl : ∀ s : State, PX s → ∀ o idx n : Nat, rxSl o idx = some n → ∃ tx : String, vk_R (rxNm o) idx tx (ad n) s)
    (hX : ∀ S S' : Nat → Int → Int, X S → bx_same rxL (bx_mdl (rxCLEX 2).2.2.1) S S' → X S')
    (ih : ∀ (j2 : Nat) (ct2 : bx_Ct) (M2 : rx_Mt), ct2 ∈ rxCnE j2 → ct2.2.2.2.1 + 1 ≤ (rxCLEX 2).2.2.2.1 → rxT.2.2.2.2.2 j2 = some M2 → bx_Con rxG rxNW rxAO PX Dg rxL X vwCl A ad l M2 ct2) (hQLWH : bx_ConP rxG rxNW rxAO PX Dg rxL X vwCl A ad l rxM54 rxCLWH rxPLWH rxPSLWH) (hQLRA : bx_ConP rxG rxNW rxAO PX Dg rxL X vwCl A ad l rxM1 rxCLRA rxPLRA rxPSLRA) (hQLGN : bx_ConP rxG rxNW rxAO PX Dg rxL X vwCl A ad l rxM55 (rxCLGN 2) (rxPLGN 2) rxPSLGN) : bx_ConP rxG rxNW rxAO PX Dg rxL X vwCl A ad l rxM53 (rxCLEX 2) (rxPLEX 2) rxPSLEX :=
  rxQof (xa := xa) (Cn := rxCnE) (f := 30000) (j := 53) (tab := rxYLEX) (us := rxULEX) hPX hsl hX ih rfl rxYcLEX_2 rxILEX rxmLEX
    (fun S0 ws r I0 I ht0 ht as he he1 hX0 hI0 hP hs ha => by
      have e := he.symm.trans (show bx_ent0 rxNP (rxCLEX 2).1 bx_I0 [] = some ([(0, 0), (0, 0), (0, 0), (0, 0), (0, 0), (0, 0), (0, 0), (0, 0), (0, 12), (0, 2), (1, 3)], [], [.inr (3, (0, 451)), .inr (0, (8, 0)), .inr (0, (9, 0)), .inr (0, (10, 0))]) from rfl)
      cases e
      subst ha
      have h0 : r 0 = 0 := hs.1
      show rxILEX_0 S0 _ S0 (r 8) (r 9) (r 10)
      refine ⟨rfl, ?_⟩
      simp only [List.map_cons, List.map_nil, bx_xv_ok h0]
      rfl)
    (fun S0 ws hP => rxuLEX_2 (xa := xa) hPX hX hQLWH hQLRA hQLGN hP) (fun S0 ws hP => rxgCLEX hP) (fun S0 ws hP => rxgELEX hP)
set_option maxRecDepth 100000 in
theorem rxYcLGN_3 : bx_chkH rxYBLGN rxM55 (rxCLGN 3) rxYLGN (rxULGN, fun cut z => rx_ex2 (rxCT rxYBLGN rxCnE) cut 30000 (rxCLGN 3).2.2.2.1 55 z) = true := by decide +kernel
theorem rxuLGN_3 {PX : State → Prop} {Dg : va_G} {A : Nat → Prop} {ad xa : Nat → Nat} {l : Launch} {X : (Nat → Int → Int) → Prop} (hPX : rx_PXOK rxNW A PX) (hX : ∀ S S1 : Nat → Int → Int, X S → bx_same rxL (bx_mdl (rxCLGN 3).2.2.1) S S1 → X S1) (hQLER : bx_ConP rxG rxNW rxAO PX Dg rxL X vwCl A ad l rxM56 rxCLER rxPLER rxPSLER) (hQLEX : bx_ConP rxG rxNW rxAO PX Dg rxL X vwCl A ad l rxM53 (rxCLEX 2) (rxPLEX 2) rxPSLEX) {S0 : Nat → Int → Int} {ws : List Int} (hP : (rxPLGN 3) S0 ws) : ∀ (i : Nat) (q : bx_HE), rxYLGN[i]? = some q → rxULGN q = true → ∀ {p : Program} {e : Env} {R : Room} {s : State} {m : MethodId} {args : Array Value} {below : List Frame} {meth : Method} {c : Code} {Q : State → Prop} {H0 : Heap}, rx_Fr rxG rxNW rxAO PX p s m args meth c rxM55 → (∀ q, H0.size ≤ q → A q) → H0 = s.heap → rxM55.2.2.2.2.2.2.1 ≤ R.cells → rxM55.2.2.2.2.2.2.2 ≤ R.slots → (rxCLGN 3).2.2.2.1 ≤ R.frames → (rxCLGN 3).2.2.2.1 * 40 ≤ R.locals → bx_Step p l e R s m args below meth c Q Dg rxL X vwCl A xa H0 ad rxM55 rxYLGN (rxILGN S0 ws) (rxmLGN S0 ws) S0 (rxCLGN 3).2.2.1 i q := by
  intro i q hq hus p e R s m args below meth c Q H0 hF hA hH0 hmc hms hd hdl
  match i, hq with
  | 0, hq =>
    cases hq
    exact absurd (show false = true from hus) Bool.false_ne_true
  | 1, hq =>
    cases hq
    exact rx_stepC (ins := .invokevirtual 92) (len := 3) (i' := 2) (M' := rxM56) (d := (rxCLGN 3).2.2.2.1) (as := [.inr (3, (0, 451)), .inr (0, (11, 0))]) (t := []) (ct := rxCLER) hPX hF rfl hA hH0 hmc hms hd hdl (by decide +kernel) rfl rfl (by decide +kernel) (by decide +kernel) hQLER (by decide +kernel) rfl (Or.inr ⟨_, _, _, 1, rfl, rfl, by omega, rfl, rfl, rfl⟩) (rxsLGN_1 hP)
  | 2, hq =>
    cases hq
    exact absurd (show false = true from hus) Bool.false_ne_true
  | 3, hq =>
    cases hq
    exact rx_stepC (ins := .invokevirtual 92) (len := 3) (i' := 4) (M' := rxM56) (d := (rxCLGN 3).2.2.2.1) (as := [.inr (3, (0, 451)), .inr (0, (12, 0))]) (t := [.inr (0, (11, 0)), .inr (3, (0, 451))]) (ct := rxCLER) hPX hF rfl hA hH0 hmc hms hd hdl (by decide +kernel) rfl rfl (by decide +kernel) (by decide +kernel) hQLER (by decide +kernel) rfl (Or.inr ⟨_, _, _, 1, rfl, rfl, by omega, rfl, rfl, rfl⟩) (rxsLGN_3 hP)
  | 4, hq =>
    cases hq
    exact absurd (show false = true from hus) Bool.false_ne_true
  | 5, hq =>
    cases hq
    exact rx_stepC (ins := .invokevirtual 78) (len := 3) (i' := 6) (M' := rxM53) (d := (rxCLGN 3).2.2.2.1) (as := [.inr (3, (0, 451)), .inr (0, (11, 0)), .inr (0, (12, 0)), .inr (0, (13, 0))]) (t := []) (ct := (rxCLEX 2)) hPX hF rfl hA hH0 hmc hms hd hdl (by decide +kernel) rfl rfl (by decide +kernel) (by decide +kernel) hQLEX (by decide +kernel) rfl (Or.inl ⟨rfl, rfl, rfl⟩) (rxsLGN_5 hP)
  | 6, hq =>
    cases hq
    exact absurd (show false = true from hus) Bool.false_ne_true
  | 7, hq =>
    cases hq
    exact absurd (show false = true from hus) Bool.false_ne_true
  | 8, hq =>
    cases hq
    exact rx_stepC (ins := .invokevirtual 78) (len := 3) (i' := 9) (M' := rxM53) (d := (rxCLGN 3).2.2.2.1) (as := [.inr (3, (0, 451)), .inr (0, (12, 0)), .inr (0, (13, 0)), .inr (0, (14, 0))]) (t := []) (ct := (rxCLEX 2)) hPX hF rfl hA hH0 hmc hms hd hdl (by decide +kernel) rfl rfl (by decide +kernel) (by decide +kernel) hQLEX (by decide +kernel) rfl (Or.inl ⟨rfl, rfl, rfl⟩) (rxsLGN_8 hP)
  | 9, hq =>
    cases hq
    exact absurd (show false = true from hus) Bool.false_ne_true
  | n + 10, hq => cases hq
theorem rxQLGN_3 {PX : State → Prop} {Dg : va_G} {A : Nat → Prop} {ad xa : Nat → Nat} {l : Launch} {X : (Nat → Int → Int) → Prop} (hPX : rx_PXOK rxNW A PX) (hsl : ∀ s : State, PX s → ∀ o idx n : Nat, rxSl o idx = some n → ∃ tx : String, vk_R (rxNm o) idx tx (ad n) s)
    (hX : ∀ S S' : Nat → Int → Int, X S → bx_same rxL (bx_mdl (rxCLGN 3).2.2.1) S S' → X S')
    (ih : ∀ (j2 : Nat) (ct2 : bx_Ct) (M2 : rx_Mt), ct2 ∈ rxCnE j2 → ct2.2.2.2.1 + 1 ≤ (rxCLGN 3).2.2.2.1 → rxT.2.2.2.2.2 j2 = some M2 → bx_Con rxG rxNW rxAO PX Dg rxL X vwCl A ad l M2 ct2) (hQLER : bx_ConP rxG rxNW rxAO PX Dg rxL X vwCl A ad l rxM56 rxCLER rxPLER rxPSLER) (hQLEX : bx_ConP rxG rxNW rxAO PX Dg rxL X vwCl A ad l rxM53 (rxCLEX 2) (rxPLEX 2) rxPSLEX) : bx_ConP rxG rxNW rxAO PX Dg rxL X vwCl A ad l rxM55 (rxCLGN 3) (rxPLGN 3) rxPSLGN :=
  rxQof (xa := xa) (Cn := rxCnE) (f := 30000) (j := 55) (tab := rxYLGN) (us := rxULGN) hPX hsl hX ih rfl rxYcLGN_3 rxILGN rxmLGN
    (fun S0 ws r I0 I ht0 ht as he he1 hX0 hI0 hP hs ha => by
      have e := he.symm.trans (show bx_ent0 rxNP (rxCLGN 3).1 bx_I0 [] = some ([(0, 0), (0, 0), (0, 0), (0, 0), (0, 0), (0, 0), (0, 0), (0, 0), (0, 11), (0, 17), (1, 3)], [], [.inr (3, (0, 451)), .inr (0, (8, 0)), .inr (0, (9, 0)), .inr (0, (10, 0))]) from rfl)
      cases e
      subst ha
      have h0 : r 0 = 0 := hs.1
      show rxILGN_0 S0 _ S0 (r 8) (r 9) (r 10)
      refine ⟨rfl, ?_⟩
      simp only [List.map_cons, List.map_nil, bx_xv_ok h0]
      rfl)
    (fun S0 ws hP => rxuLGN_3 (xa := xa) hPX hX hQLER hQLEX hP) (fun S0 ws hP => rxgCLGN hP) (fun S0 ws hP => rxgELGN hP)
set_option maxRecDepth 100000 in
theorem rxYcLEX_3 : bx_chkH rxYBLEX rxM53 (rxCLEX 3) rxYLEX (rxULEX, fun cut z => rx_ex2 (rxCT rxYBLEX rxCnE) cut 30000 (rxCLEX 3).2.2.2.1 53 z) = true := by decide +kernel
theorem rxuLEX_3 {PX : State → Prop} {Dg : va_G} {A : Nat → Prop} {ad xa : Nat → Nat} {l : Launch} {X : (Nat → Int → Int) → Prop} (hPX : rx_PXOK rxNW A PX) (hX : ∀ S S1 : Nat → Int → Int, X S → bx_same rxL (bx_mdl (rxCLEX 3).2.2.1) S S1 → X S1) (hQLWH : bx_ConP rxG rxNW rxAO PX Dg rxL X vwCl A ad l rxM54 rxCLWH rxPLWH rxPSLWH) (hQLRA : bx_ConP rxG rxNW rxAO PX Dg rxL X vwCl A ad l rxM1 rxCLRA rxPLRA rxPSLRA) (hQLGN : bx_ConP rxG rxNW rxAO PX Dg rxL X vwCl A ad l rxM55 (rxCLGN 3) (rxPLGN 3) rxPSLGN) {S0 : Nat → Int → Int} {ws : List Int} (hP : (rxPLEX 3) S0 ws) : ∀ (i : Nat) (q : bx_HE), rxYLEX[i]? = some q → rxULEX q = true → ∀ {p : Program} {e : Env} {R : Room} {s : State} {m : MethodId} {args : Array Value} {below : List Frame} {meth : Method} {c : Code} {Q : State → Prop} {H0 : Heap}, rx_Fr rxG rxNW rxAO PX p s m args meth c rxM53 → (∀ q, H0.size ≤ q → A q) → H0 = s.heap → rxM53.2.2.2.2.2.2.1 ≤ R.cells → rxM53.2.2.2.2.2.2.2 ≤ R.slots → (rxCLEX 3).2.2.2.1 ≤ R.frames → (rxCLEX 3).2.2.2.1 * 40 ≤ R.locals → bx_Step p l e R s m args below meth c Q Dg rxL X vwCl A xa H0 ad rxM53 rxYLEX (rxILEX S0 ws) (rxmLEX S0 ws) S0 (rxCLEX 3).2.2.1 i q := by
  intro i q hq hus p e R s m args below meth c Q H0 hF hA hH0 hmc hms hd hdl
  match i, hq with
  | 0, hq =>
    cases hq
    exact absurd (show false = true from hus) Bool.false_ne_true
  | 1, hq =>
    cases hq
    exact absurd (show false = true from hus) Bool.false_ne_true
  | 2, hq =>
    cases hq
    exact rx_stepC (ins := .invokevirtual 82) (len := 3) (i' := 3) (M' := rxM54) (d := (rxCLEX 3).2.2.2.1) (as := [.inr (3, (0, 451))]) (t := [.inr (0, (11, 0)), .inr (3, (0, 451))]) (ct := rxCLWH) hPX hF rfl hA hH0 hmc hms hd hdl (by decide +kernel) rfl rfl (by decide +kernel) (by decide +kernel) hQLWH (by decide +kernel) rfl (Or.inr ⟨_, _, _, 1, rfl, rfl, by omega, rfl, rfl, rfl⟩) (rxsLEX_2 hP)
  | 3, hq =>
    cases hq
    exact rx_stepB (i' := 4) (o := 6) (a := (11, 0)) (b := (12, 0)) (lo := 0) (hi := 1023) (t := [.inr (3, (0, 451))]) hF (Or.inr (Or.inr (Or.inr ⟨rfl, rfl⟩))) (by decide +kernel) rfl rfl rfl rfl (rxsLEX_3 hP)
  | 4, hq =>
    cases hq
    exact absurd (show false = true from hus) Bool.false_ne_true
  | 5, hq =>
    cases hq
    exact rx_stepC (ins := .invokestatic 86) (len := 3) (i' := 6) (M' := rxM1) (d := (rxCLEX 3).2.2.2.1) (as := [.inr (0, (11, 0)), .inr (0, (12, 0))]) (t := []) (ct := rxCLRA) hPX hF rfl hA hH0 hmc hms hd hdl (by decide +kernel) rfl rfl (by decide +kernel) (by decide +kernel) hQLRA (by decide +kernel) rfl (Or.inr ⟨_, _, _, 1, rfl, rfl, by omega, rfl, rfl, rfl⟩) (rxsLEX_5 hP)
  | 6, hq =>
    cases hq
    exact absurd (show false = true from hus) Bool.false_ne_true
  | 7, hq =>
    cases hq
    exact absurd (show false = true from hus) Bool.false_ne_true
  | 8, hq =>
    cases hq
    exact rx_stepC (ins := .invokevirtual 89) (len := 3) (i' := 9) (M' := rxM55) (d := (rxCLEX 3).2.2.2.1) (as := [.inr (3, (0, 451)), .inr (0, (13, 0)), .inr (0, (14, 0)), .inr (0, (15, 0))]) (t := []) (ct := (rxCLGN 3)) hPX hF rfl hA hH0 hmc hms hd hdl (by decide +kernel) rfl rfl (by decide +kernel) (by decide +kernel) hQLGN (by decide +kernel) rfl (Or.inl ⟨rfl, rfl, rfl⟩) (rxsLEX_8 hP)
  | 9, hq =>
    cases hq
    exact absurd (show false = true from hus) Bool.false_ne_true
  | n + 10, hq => cases hq
theorem rxQLEX_3 {PX : State → Prop} {Dg : va_G} {A : Nat → Prop} {ad xa : Nat → Nat} {l : Launch} {X : (Nat → Int → Int) → Prop} (hPX : rx_PXOK rxNW A PX) (hsl : ∀ s : State, PX s → ∀ o idx n : Nat, rxSl o idx = some n → ∃ tx : String, vk_R (rxNm o) idx tx (ad n) s)
    (hX : ∀ S S' : Nat → Int → Int, X S → bx_same rxL (bx_mdl (rxCLEX 3).2.2.1) S S' → X S')
    (ih : ∀ (j2 : Nat) (ct2 : bx_Ct) (M2 : rx_Mt), ct2 ∈ rxCnE j2 → ct2.2.2.2.1 + 1 ≤ (rxCLEX 3).2.2.2.1 → rxT.2.2.2.2.2 j2 = some M2 → bx_Con rxG rxNW rxAO PX Dg rxL X vwCl A ad l M2 ct2) (hQLWH : bx_ConP rxG rxNW rxAO PX Dg rxL X vwCl A ad l rxM54 rxCLWH rxPLWH rxPSLWH) (hQLRA : bx_ConP rxG rxNW rxAO PX Dg rxL X vwCl A ad l rxM1 rxCLRA rxPLRA rxPSLRA) (hQLGN : bx_ConP rxG rxNW rxAO PX Dg rxL X vwCl A ad l rxM55 (rxCLGN 3) (rxPLGN 3) rxPSLGN) : bx_ConP rxG rxNW rxAO PX Dg rxL X vwCl A ad l rxM53 (rxCLEX 3) (rxPLEX 3) rxPSLEX :=
  rxQof (xa := xa) (Cn := rxCnE) (f := 30000) (j := 53) (tab := rxYLEX) (us := rxULEX) hPX hsl hX ih rfl rxYcLEX_3 rxILEX rxmLEX
    (fun S0 ws r I0 I ht0 ht as he he1 hX0 hI0 hP hs ha => by
      have e := he.symm.trans (show bx_ent0 rxNP (rxCLEX 3).1 bx_I0 [] = some ([(0, 0), (0, 0), (0, 0), (0, 0), (0, 0), (0, 0), (0, 0), (0, 0), (0, 12), (0, 2), (1, 3)], [], [.inr (3, (0, 451)), .inr (0, (8, 0)), .inr (0, (9, 0)), .inr (0, (10, 0))]) from rfl)
      cases e
      subst ha
      have h0 : r 0 = 0 := hs.1
      show rxILEX_0 S0 _ S0 (r 8) (r 9) (r 10)
      refine ⟨rfl, ?_⟩
      simp only [List.map_cons, List.map_nil, bx_xv_ok h0]
      rfl)
    (fun S0 ws hP => rxuLEX_3 (xa := xa) hPX hX hQLWH hQLRA hQLGN hP) (fun S0 ws hP => rxgCLEX hP) (fun S0 ws hP => rxgELEX hP)
set_option maxRecDepth 100000 in
theorem rxYcLGN_4 : bx_chkH rxYBLGN rxM55 (rxCLGN 4) rxYLGN (rxULGN, fun cut z => rx_ex2 (rxCT rxYBLGN rxCnE) cut 30000 (rxCLGN 4).2.2.2.1 55 z) = true := by decide +kernel
theorem rxuLGN_4 {PX : State → Prop} {Dg : va_G} {A : Nat → Prop} {ad xa : Nat → Nat} {l : Launch} {X : (Nat → Int → Int) → Prop} (hPX : rx_PXOK rxNW A PX) (hX : ∀ S S1 : Nat → Int → Int, X S → bx_same rxL (bx_mdl (rxCLGN 4).2.2.1) S S1 → X S1) (hQLER : bx_ConP rxG rxNW rxAO PX Dg rxL X vwCl A ad l rxM56 rxCLER rxPLER rxPSLER) (hQLEX : bx_ConP rxG rxNW rxAO PX Dg rxL X vwCl A ad l rxM53 (rxCLEX 3) (rxPLEX 3) rxPSLEX) {S0 : Nat → Int → Int} {ws : List Int} (hP : (rxPLGN 4) S0 ws) : ∀ (i : Nat) (q : bx_HE), rxYLGN[i]? = some q → rxULGN q = true → ∀ {p : Program} {e : Env} {R : Room} {s : State} {m : MethodId} {args : Array Value} {below : List Frame} {meth : Method} {c : Code} {Q : State → Prop} {H0 : Heap}, rx_Fr rxG rxNW rxAO PX p s m args meth c rxM55 → (∀ q, H0.size ≤ q → A q) → H0 = s.heap → rxM55.2.2.2.2.2.2.1 ≤ R.cells → rxM55.2.2.2.2.2.2.2 ≤ R.slots → (rxCLGN 4).2.2.2.1 ≤ R.frames → (rxCLGN 4).2.2.2.1 * 40 ≤ R.locals → bx_Step p l e R s m args below meth c Q Dg rxL X vwCl A xa H0 ad rxM55 rxYLGN (rxILGN S0 ws) (rxmLGN S0 ws) S0 (rxCLGN 4).2.2.1 i q := by
  intro i q hq hus p e R s m args below meth c Q H0 hF hA hH0 hmc hms hd hdl
  match i, hq with
  | 0, hq =>
    cases hq
    exact absurd (show false = true from hus) Bool.false_ne_true
  | 1, hq =>
    cases hq
    exact rx_stepC (ins := .invokevirtual 92) (len := 3) (i' := 2) (M' := rxM56) (d := (rxCLGN 4).2.2.2.1) (as := [.inr (3, (0, 451)), .inr (0, (11, 0))]) (t := []) (ct := rxCLER) hPX hF rfl hA hH0 hmc hms hd hdl (by decide +kernel) rfl rfl (by decide +kernel) (by decide +kernel) hQLER (by decide +kernel) rfl (Or.inr ⟨_, _, _, 1, rfl, rfl, by omega, rfl, rfl, rfl⟩) (rxsLGN_1 hP)
  | 2, hq =>
    cases hq
    exact absurd (show false = true from hus) Bool.false_ne_true
  | 3, hq =>
    cases hq
    exact rx_stepC (ins := .invokevirtual 92) (len := 3) (i' := 4) (M' := rxM56) (d := (rxCLGN 4).2.2.2.1) (as := [.inr (3, (0, 451)), .inr (0, (12, 0))]) (t := [.inr (0, (11, 0)), .inr (3, (0, 451))]) (ct := rxCLER) hPX hF rfl hA hH0 hmc hms hd hdl (by decide +kernel) rfl rfl (by decide +kernel) (by decide +kernel) hQLER (by decide +kernel) rfl (Or.inr ⟨_, _, _, 1, rfl, rfl, by omega, rfl, rfl, rfl⟩) (rxsLGN_3 hP)
  | 4, hq =>
    cases hq
    exact absurd (show false = true from hus) Bool.false_ne_true
  | 5, hq =>
    cases hq
    exact rx_stepC (ins := .invokevirtual 78) (len := 3) (i' := 6) (M' := rxM53) (d := (rxCLGN 4).2.2.2.1) (as := [.inr (3, (0, 451)), .inr (0, (11, 0)), .inr (0, (12, 0)), .inr (0, (13, 0))]) (t := []) (ct := (rxCLEX 3)) hPX hF rfl hA hH0 hmc hms hd hdl (by decide +kernel) rfl rfl (by decide +kernel) (by decide +kernel) hQLEX (by decide +kernel) rfl (Or.inl ⟨rfl, rfl, rfl⟩) (rxsLGN_5 hP)
  | 6, hq =>
    cases hq
    exact absurd (show false = true from hus) Bool.false_ne_true
  | 7, hq =>
    cases hq
    exact absurd (show false = true from hus) Bool.false_ne_true
  | 8, hq =>
    cases hq
    exact rx_stepC (ins := .invokevirtual 78) (len := 3) (i' := 9) (M' := rxM53) (d := (rxCLGN 4).2.2.2.1) (as := [.inr (3, (0, 451)), .inr (0, (12, 0)), .inr (0, (13, 0)), .inr (0, (14, 0))]) (t := []) (ct := (rxCLEX 3)) hPX hF rfl hA hH0 hmc hms hd hdl (by decide +kernel) rfl rfl (by decide +kernel) (by decide +kernel) hQLEX (by decide +kernel) rfl (Or.inl ⟨rfl, rfl, rfl⟩) (rxsLGN_8 hP)
  | 9, hq =>
    cases hq
    exact absurd (show false = true from hus) Bool.false_ne_true
  | n + 10, hq => cases hq
theorem rxQLGN_4 {PX : State → Prop} {Dg : va_G} {A : Nat → Prop} {ad xa : Nat → Nat} {l : Launch} {X : (Nat → Int → Int) → Prop} (hPX : rx_PXOK rxNW A PX) (hsl : ∀ s : State, PX s → ∀ o idx n : Nat, rxSl o idx = some n → ∃ tx : String, vk_R (rxNm o) idx tx (ad n) s)
    (hX : ∀ S S' : Nat → Int → Int, X S → bx_same rxL (bx_mdl (rxCLGN 4).2.2.1) S S' → X S')
    (ih : ∀ (j2 : Nat) (ct2 : bx_Ct) (M2 : rx_Mt), ct2 ∈ rxCnE j2 → ct2.2.2.2.1 + 1 ≤ (rxCLGN 4).2.2.2.1 → rxT.2.2.2.2.2 j2 = some M2 → bx_Con rxG rxNW rxAO PX Dg rxL X vwCl A ad l M2 ct2) (hQLER : bx_ConP rxG rxNW rxAO PX Dg rxL X vwCl A ad l rxM56 rxCLER rxPLER rxPSLER) (hQLEX : bx_ConP rxG rxNW rxAO PX Dg rxL X vwCl A ad l rxM53 (rxCLEX 3) (rxPLEX 3) rxPSLEX) : bx_ConP rxG rxNW rxAO PX Dg rxL X vwCl A ad l rxM55 (rxCLGN 4) (rxPLGN 4) rxPSLGN :=
  rxQof (xa := xa) (Cn := rxCnE) (f := 30000) (j := 55) (tab := rxYLGN) (us := rxULGN) hPX hsl hX ih rfl rxYcLGN_4 rxILGN rxmLGN
    (fun S0 ws r I0 I ht0 ht as he he1 hX0 hI0 hP hs ha => by
      have e := he.symm.trans (show bx_ent0 rxNP (rxCLGN 4).1 bx_I0 [] = some ([(0, 0), (0, 0), (0, 0), (0, 0), (0, 0), (0, 0), (0, 0), (0, 0), (0, 11), (0, 17), (1, 3)], [], [.inr (3, (0, 451)), .inr (0, (8, 0)), .inr (0, (9, 0)), .inr (0, (10, 0))]) from rfl)
      cases e
      subst ha
      have h0 : r 0 = 0 := hs.1
      show rxILGN_0 S0 _ S0 (r 8) (r 9) (r 10)
      refine ⟨rfl, ?_⟩
      simp only [List.map_cons, List.map_nil, bx_xv_ok h0]
      rfl)
    (fun S0 ws hP => rxuLGN_4 (xa := xa) hPX hX hQLER hQLEX hP) (fun S0 ws hP => rxgCLGN hP) (fun S0 ws hP => rxgELGN hP)
set_option maxRecDepth 100000 in
theorem rxYcLEX_4 : bx_chkH rxYBLEX rxM53 (rxCLEX 4) rxYLEX (rxULEX, fun cut z => rx_ex2 (rxCT rxYBLEX rxCnE) cut 30000 (rxCLEX 4).2.2.2.1 53 z) = true := by decide +kernel
theorem rxuLEX_4 {PX : State → Prop} {Dg : va_G} {A : Nat → Prop} {ad xa : Nat → Nat} {l : Launch} {X : (Nat → Int → Int) → Prop} (hPX : rx_PXOK rxNW A PX) (hX : ∀ S S1 : Nat → Int → Int, X S → bx_same rxL (bx_mdl (rxCLEX 4).2.2.1) S S1 → X S1) (hQLWH : bx_ConP rxG rxNW rxAO PX Dg rxL X vwCl A ad l rxM54 rxCLWH rxPLWH rxPSLWH) (hQLRA : bx_ConP rxG rxNW rxAO PX Dg rxL X vwCl A ad l rxM1 rxCLRA rxPLRA rxPSLRA) (hQLGN : bx_ConP rxG rxNW rxAO PX Dg rxL X vwCl A ad l rxM55 (rxCLGN 4) (rxPLGN 4) rxPSLGN) {S0 : Nat → Int → Int} {ws : List Int} (hP : (rxPLEX 4) S0 ws) : ∀ (i : Nat) (q : bx_HE), rxYLEX[i]? = some q → rxULEX q = true → ∀ {p : Program} {e : Env} {R : Room} {s : State} {m : MethodId} {args : Array Value} {below : List Frame} {meth : Method} {c : Code} {Q : State → Prop} {H0 : Heap}, rx_Fr rxG rxNW rxAO PX p s m args meth c rxM53 → (∀ q, H0.size ≤ q → A q) → H0 = s.heap → rxM53.2.2.2.2.2.2.1 ≤ R.cells → rxM53.2.2.2.2.2.2.2 ≤ R.slots → (rxCLEX 4).2.2.2.1 ≤ R.frames → (rxCLEX 4).2.2.2.1 * 40 ≤ R.locals → bx_Step p l e R s m args below meth c Q Dg rxL X vwCl A xa H0 ad rxM53 rxYLEX (rxILEX S0 ws) (rxmLEX S0 ws) S0 (rxCLEX 4).2.2.1 i q := by
  intro i q hq hus p e R s m args below meth c Q H0 hF hA hH0 hmc hms hd hdl
  match i, hq with
  | 0, hq =>
    cases hq
    exact absurd (show false = true from hus) Bool.false_ne_true
  | 1, hq =>
    cases hq
    exact absurd (show false = true from hus) Bool.false_ne_true
  | 2, hq =>
    cases hq
    exact rx_stepC (ins := .invokevirtual 82) (len := 3) (i' := 3) (M' := rxM54) (d := (rxCLEX 4).2.2.2.1) (as := [.inr (3, (0, 451))]) (t := [.inr (0, (11, 0)), .inr (3, (0, 451))]) (ct := rxCLWH) hPX hF rfl hA hH0 hmc hms hd hdl (by decide +kernel) rfl rfl (by decide +kernel) (by decide +kernel) hQLWH (by decide +kernel) rfl (Or.inr ⟨_, _, _, 1, rfl, rfl, by omega, rfl, rfl, rfl⟩) (rxsLEX_2 hP)
  | 3, hq =>
    cases hq
    exact rx_stepB (i' := 4) (o := 6) (a := (11, 0)) (b := (12, 0)) (lo := 0) (hi := 1023) (t := [.inr (3, (0, 451))]) hF (Or.inr (Or.inr (Or.inr ⟨rfl, rfl⟩))) (by decide +kernel) rfl rfl rfl rfl (rxsLEX_3 hP)
  | 4, hq =>
    cases hq
    exact absurd (show false = true from hus) Bool.false_ne_true
  | 5, hq =>
    cases hq
    exact rx_stepC (ins := .invokestatic 86) (len := 3) (i' := 6) (M' := rxM1) (d := (rxCLEX 4).2.2.2.1) (as := [.inr (0, (11, 0)), .inr (0, (12, 0))]) (t := []) (ct := rxCLRA) hPX hF rfl hA hH0 hmc hms hd hdl (by decide +kernel) rfl rfl (by decide +kernel) (by decide +kernel) hQLRA (by decide +kernel) rfl (Or.inr ⟨_, _, _, 1, rfl, rfl, by omega, rfl, rfl, rfl⟩) (rxsLEX_5 hP)
  | 6, hq =>
    cases hq
    exact absurd (show false = true from hus) Bool.false_ne_true
  | 7, hq =>
    cases hq
    exact absurd (show false = true from hus) Bool.false_ne_true
  | 8, hq =>
    cases hq
    exact rx_stepC (ins := .invokevirtual 89) (len := 3) (i' := 9) (M' := rxM55) (d := (rxCLEX 4).2.2.2.1) (as := [.inr (3, (0, 451)), .inr (0, (13, 0)), .inr (0, (14, 0)), .inr (0, (15, 0))]) (t := []) (ct := (rxCLGN 4)) hPX hF rfl hA hH0 hmc hms hd hdl (by decide +kernel) rfl rfl (by decide +kernel) (by decide +kernel) hQLGN (by decide +kernel) rfl (Or.inl ⟨rfl, rfl, rfl⟩) (rxsLEX_8 hP)
  | 9, hq =>
    cases hq
    exact absurd (show false = true from hus) Bool.false_ne_true
  | n + 10, hq => cases hq
theorem rxQLEX_4 {PX : State → Prop} {Dg : va_G} {A : Nat → Prop} {ad xa : Nat → Nat} {l : Launch} {X : (Nat → Int → Int) → Prop} (hPX : rx_PXOK rxNW A PX) (hsl : ∀ s : State, PX s → ∀ o idx n : Nat, rxSl o idx = some n → ∃ tx : String, vk_R (rxNm o) idx tx (ad n) s)
    (hX : ∀ S S' : Nat → Int → Int, X S → bx_same rxL (bx_mdl (rxCLEX 4).2.2.1) S S' → X S')
    (ih : ∀ (j2 : Nat) (ct2 : bx_Ct) (M2 : rx_Mt), ct2 ∈ rxCnE j2 → ct2.2.2.2.1 + 1 ≤ (rxCLEX 4).2.2.2.1 → rxT.2.2.2.2.2 j2 = some M2 → bx_Con rxG rxNW rxAO PX Dg rxL X vwCl A ad l M2 ct2) (hQLWH : bx_ConP rxG rxNW rxAO PX Dg rxL X vwCl A ad l rxM54 rxCLWH rxPLWH rxPSLWH) (hQLRA : bx_ConP rxG rxNW rxAO PX Dg rxL X vwCl A ad l rxM1 rxCLRA rxPLRA rxPSLRA) (hQLGN : bx_ConP rxG rxNW rxAO PX Dg rxL X vwCl A ad l rxM55 (rxCLGN 4) (rxPLGN 4) rxPSLGN) : bx_ConP rxG rxNW rxAO PX Dg rxL X vwCl A ad l rxM53 (rxCLEX 4) (rxPLEX 4) rxPSLEX :=
  rxQof (xa := xa) (Cn := rxCnE) (f := 30000) (j := 53) (tab := rxYLEX) (us := rxULEX) hPX hsl hX ih rfl rxYcLEX_4 rxILEX rxmLEX
    (fun S0 ws r I0 I ht0 ht as he he1 hX0 hI0 hP hs ha => by
      have e := he.symm.trans (show bx_ent0 rxNP (rxCLEX 4).1 bx_I0 [] = some ([(0, 0), (0, 0), (0, 0), (0, 0), (0, 0), (0, 0), (0, 0), (0, 0), (0, 12), (0, 2), (1, 3)], [], [.inr (3, (0, 451)), .inr (0, (8, 0)), .inr (0, (9, 0)), .inr (0, (10, 0))]) from rfl)
      cases e
      subst ha
      have h0 : r 0 = 0 := hs.1
      show rxILEX_0 S0 _ S0 (r 8) (r 9) (r 10)
      refine ⟨rfl, ?_⟩
      simp only [List.map_cons, List.map_nil, bx_xv_ok h0]
      rfl)
    (fun S0 ws hP => rxuLEX_4 (xa := xa) hPX hX hQLWH hQLRA hQLGN hP) (fun S0 ws hP => rxgCLEX hP) (fun S0 ws hP => rxgELEX hP)
set_option maxRecDepth 100000 in
theorem rxYcLGN_5 : bx_chkH rxYBLGN rxM55 (rxCLGN 5) rxYLGN (rxULGN, fun cut z => rx_ex2 (rxCT rxYBLGN rxCnE) cut 30000 (rxCLGN 5).2.2.2.1 55 z) = true := by decide +kernel
theorem rxuLGN_5 {PX : State → Prop} {Dg : va_G} {A : Nat → Prop} {ad xa : Nat → Nat} {l : Launch} {X : (Nat → Int → Int) → Prop} (hPX : rx_PXOK rxNW A PX) (hX : ∀ S S1 : Nat → Int → Int, X S → bx_same rxL (bx_mdl (rxCLGN 5).2.2.1) S S1 → X S1) (hQLER : bx_ConP rxG rxNW rxAO PX Dg rxL X vwCl A ad l rxM56 rxCLER rxPLER rxPSLER) (hQLEX : bx_ConP rxG rxNW rxAO PX Dg rxL X vwCl A ad l rxM53 (rxCLEX 4) (rxPLEX 4) rxPSLEX) {S0 : Nat → Int → Int} {ws : List Int} (hP : (rxPLGN 5) S0 ws) : ∀ (i : Nat) (q : bx_HE), rxYLGN[i]? = some q → rxULGN q = true → ∀ {p : Program} {e : Env} {R : Room} {s : State} {m : MethodId} {args : Array Value} {below : List Frame} {meth : Method} {c : Code} {Q : State → Prop} {H0 : Heap}, rx_Fr rxG rxNW rxAO PX p s m args meth c rxM55 → (∀ q, H0.size ≤ q → A q) → H0 = s.heap → rxM55.2.2.2.2.2.2.1 ≤ R.cells → rxM55.2.2.2.2.2.2.2 ≤ R.slots → (rxCLGN 5).2.2.2.1 ≤ R.frames → (rxCLGN 5).2.2.2.1 * 40 ≤ R.locals → bx_Step p l e R s m args below meth c Q Dg rxL X vwCl A xa H0 ad rxM55 rxYLGN (rxILGN S0 ws) (rxmLGN S0 ws) S0 (rxCLGN 5).2.2.1 i q := by
  intro i q hq hus p e R s m args below meth c Q H0 hF hA hH0 hmc hms hd hdl
  match i, hq with
  | 0, hq =>
    cases hq
    exact absurd (show false = true from hus) Bool.false_ne_true
  | 1, hq =>
    cases hq
    exact rx_stepC (ins := .invokevirtual 92) (len := 3) (i' := 2) (M' := rxM56) (d := (rxCLGN 5).2.2.2.1) (as := [.inr (3, (0, 451)), .inr (0, (11, 0))]) (t := []) (ct := rxCLER) hPX hF rfl hA hH0 hmc hms hd hdl (by decide +kernel) rfl rfl (by decide +kernel) (by decide +kernel) hQLER (by decide +kernel) rfl (Or.inr ⟨_, _, _, 1, rfl, rfl, by omega, rfl, rfl, rfl⟩) (rxsLGN_1 hP)
  | 2, hq =>
    cases hq
    exact absurd (show false = true from hus) Bool.false_ne_true
  | 3, hq =>
    cases hq
    exact rx_stepC (ins := .invokevirtual 92) (len := 3) (i' := 4) (M' := rxM56) (d := (rxCLGN 5).2.2.2.1) (as := [.inr (3, (0, 451)), .inr (0, (12, 0))]) (t := [.inr (0, (11, 0)), .inr (3, (0, 451))]) (ct := rxCLER) hPX hF rfl hA hH0 hmc hms hd hdl (by decide +kernel) rfl rfl (by decide +kernel) (by decide +kernel) hQLER (by decide +kernel) rfl (Or.inr ⟨_, _, _, 1, rfl, rfl, by omega, rfl, rfl, rfl⟩) (rxsLGN_3 hP)
  | 4, hq =>
    cases hq
    exact absurd (show false = true from hus) Bool.false_ne_true
  | 5, hq =>
    cases hq
    exact rx_stepC (ins := .invokevirtual 78) (len := 3) (i' := 6) (M' := rxM53) (d := (rxCLGN 5).2.2.2.1) (as := [.inr (3, (0, 451)), .inr (0, (11, 0)), .inr (0, (12, 0)), .inr (0, (13, 0))]) (t := []) (ct := (rxCLEX 4)) hPX hF rfl hA hH0 hmc hms hd hdl (by decide +kernel) rfl rfl (by decide +kernel) (by decide +kernel) hQLEX (by decide +kernel) rfl (Or.inl ⟨rfl, rfl, rfl⟩) (rxsLGN_5 hP)
  | 6, hq =>
    cases hq
    exact absurd (show false = true from hus) Bool.false_ne_true
  | 7, hq =>
    cases hq
    exact absurd (show false = true from hus) Bool.false_ne_true
  | 8, hq =>
    cases hq
    exact rx_stepC (ins := .invokevirtual 78) (len := 3) (i' := 9) (M' := rxM53) (d := (rxCLGN 5).2.2.2.1) (as := [.inr (3, (0, 451)), .inr (0, (12, 0)), .inr (0, (13, 0)), .inr (0, (14, 0))]) (t := []) (ct := (rxCLEX 4)) hPX hF rfl hA hH0 hmc hms hd hdl (by decide +kernel) rfl rfl (by decide +kernel) (by decide +kernel) hQLEX (by decide +kernel) rfl (Or.inl ⟨rfl, rfl, rfl⟩) (rxsLGN_8 hP)
  | 9, hq =>
    cases hq
    exact absurd (show false = true from hus) Bool.false_ne_true
  | n + 10, hq => cases hq
theorem rxQLGN_5 {PX : State → Prop} {Dg : va_G} {A : Nat → Prop} {ad xa : Nat → Nat} {l : Launch} {X : (Nat → Int → Int) → Prop} (hPX : rx_PXOK rxNW A PX) (hsl : ∀ s : State, PX s → ∀ o idx n : Nat, rxSl o idx = some n → ∃ tx : String, vk_R (rxNm o) idx tx (ad n) s)
    (hX : ∀ S S' : Nat → Int → Int, X S → bx_same rxL (bx_mdl (rxCLGN 5).2.2.1) S S' → X S')
    (ih : ∀ (j2 : Nat) (ct2 : bx_Ct) (M2 : rx_Mt), ct2 ∈ rxCnE j2 → ct2.2.2.2.1 + 1 ≤ (rxCLGN 5).2.2.2.1 → rxT.2.2.2.2.2 j2 = some M2 → bx_Con rxG rxNW rxAO PX Dg rxL X vwCl A ad l M2 ct2) (hQLER : bx_ConP rxG rxNW rxAO PX Dg rxL X vwCl A ad l rxM56 rxCLER rxPLER rxPSLER) (hQLEX : bx_ConP rxG rxNW rxAO PX Dg rxL X vwCl A ad l rxM53 (rxCLEX 4) (rxPLEX 4) rxPSLEX) : bx_ConP rxG rxNW rxAO PX Dg rxL X vwCl A ad l rxM55 (rxCLGN 5) (rxPLGN 5) rxPSLGN :=
  rxQof (xa := xa) (Cn := rxCnE) (f := 30000) (j := 55) (tab := rxYLGN) (us := rxULGN) hPX hsl hX ih rfl rxYcLGN_5 rxILGN rxmLGN
    (fun S0 ws r I0 I ht0 ht as he he1 hX0 hI0 hP hs ha => by
      have e := he.symm.trans (show bx_ent0 rxNP (rxCLGN 5).1 bx_I0 [] = some ([(0, 0), (0, 0), (0, 0), (0, 0), (0, 0), (0, 0), (0, 0), (0, 0), (0, 11), (0, 17), (1, 3)], [], [.inr (3, (0, 451)), .inr (0, (8, 0)), .inr (0, (9, 0)), .inr (0, (10, 0))]) from rfl)
      cases e
      subst ha
      have h0 : r 0 = 0 := hs.1
      show rxILGN_0 S0 _ S0 (r 8) (r 9) (r 10)
      refine ⟨rfl, ?_⟩
      simp only [List.map_cons, List.map_nil, bx_xv_ok h0]
      rfl)
    (fun S0 ws hP => rxuLGN_5 (xa := xa) hPX hX hQLER hQLEX hP) (fun S0 ws hP => rxgCLGN hP) (fun S0 ws hP => rxgELGN hP)
set_option maxRecDepth 100000 in
theorem rxYcLEX_5 : bx_chkH rxYBLEX rxM53 (rxCLEX 5) rxYLEX (rxULEX, fun cut z => rx_ex2 (rxCT rxYBLEX rxCnE) cut 30000 (rxCLEX 5).2.2.2.1 53 z) = true := by decide +kernel
theorem rxuLEX_5 {PX : State → Prop} {Dg : va_G} {A : Nat → Prop} {ad xa : Nat → Nat} {l : Launch} {X : (Nat → Int → Int) → Prop} (hPX : rx_PXOK rxNW A PX) (hX : ∀ S S1 : Nat → Int → Int, X S → bx_same rxL (bx_mdl (rxCLEX 5).2.2.1) S S1 → X S1) (hQLWH : bx_ConP rxG rxNW rxAO PX Dg rxL X vwCl A ad l rxM54 rxCLWH rxPLWH rxPSLWH) (hQLRA : bx_ConP rxG rxNW rxAO PX Dg rxL X vwCl A ad l rxM1 rxCLRA rxPLRA rxPSLRA) (hQLGN : bx_ConP rxG rxNW rxAO PX Dg rxL X vwCl A ad l rxM55 (rxCLGN 5) (rxPLGN 5) rxPSLGN) {S0 : Nat → Int → Int} {ws : List Int} (hP : (rxPLEX 5) S0 ws) : ∀ (i : Nat) (q : bx_HE), rxYLEX[i]? = some q → rxULEX q = true → ∀ {p : Program} {e : Env} {R : Room} {s : State} {m : MethodId} {args : Array Value} {below : List Frame} {meth : Method} {c : Code} {Q : State → Prop} {H0 : Heap}, rx_Fr rxG rxNW rxAO PX p s m args meth c rxM53 → (∀ q, H0.size ≤ q → A q) → H0 = s.heap → rxM53.2.2.2.2.2.2.1 ≤ R.cells → rxM53.2.2.2.2.2.2.2 ≤ R.slots → (rxCLEX 5).2.2.2.1 ≤ R.frames → (rxCLEX 5).2.2.2.1 * 40 ≤ R.locals → bx_Step p l e R s m args below meth c Q Dg rxL X vwCl A xa H0 ad rxM53 rxYLEX (rxILEX S0 ws) (rxmLEX S0 ws) S0 (rxCLEX 5).2.2.1 i q := by
  intro i q hq hus p e R s m args below meth c Q H0 hF hA hH0 hmc hms hd hdl
  match i, hq with
  | 0, hq =>
    cases hq
    exact absurd (show false = true from hus) Bool.false_ne_true
  | 1, hq =>
    cases hq
    exact absurd (show false = true from hus) Bool.false_ne_true
  | 2, hq =>
    cases hq
    exact rx_stepC (ins := .invokevirtual 82) (len := 3) (i' := 3) (M' := rxM54) (d := (rxCLEX 5).2.2.2.1) (as := [.inr (3, (0, 451))]) (t := [.inr (0, (11, 0)), .inr (3, (0, 451))]) (ct := rxCLWH) hPX hF rfl hA hH0 hmc hms hd hdl (by decide +kernel) rfl rfl (by decide +kernel) (by decide +kernel) hQLWH (by decide +kernel) rfl (Or.inr ⟨_, _, _, 1, rfl, rfl, by omega, rfl, rfl, rfl⟩) (rxsLEX_2 hP)
  | 3, hq =>
    cases hq
    exact rx_stepB (i' := 4) (o := 6) (a := (11, 0)) (b := (12, 0)) (lo := 0) (hi := 1023) (t := [.inr (3, (0, 451))]) hF (Or.inr (Or.inr (Or.inr ⟨rfl, rfl⟩))) (by decide +kernel) rfl rfl rfl rfl (rxsLEX_3 hP)
  | 4, hq =>
    cases hq
    exact absurd (show false = true from hus) Bool.false_ne_true
  | 5, hq =>
    cases hq
    exact rx_stepC (ins := .invokestatic 86) (len := 3) (i' := 6) (M' := rxM1) (d := (rxCLEX 5).2.2.2.1) (as := [.inr (0, (11, 0)), .inr (0, (12, 0))]) (t := []) (ct := rxCLRA) hPX hF rfl hA hH0 hmc hms hd hdl (by decide +kernel) rfl rfl (by decide +kernel) (by decide +kernel) hQLRA (by decide +kernel) rfl (Or.inr ⟨_, _, _, 1, rfl, rfl, by omega, rfl, rfl, rfl⟩) (rxsLEX_5 hP)
  | 6, hq =>
    cases hq
    exact absurd (show false = true from hus) Bool.false_ne_true
  | 7, hq =>
    cases hq
    exact absurd (show false = true from hus) Bool.false_ne_true
  | 8, hq =>
    cases hq
    exact rx_stepC (ins := .invokevirtual 89) (len := 3) (i' := 9) (M' := rxM55) (d := (rxCLEX 5).2.2.2.1) (as := [.inr (3, (0, 451)), .inr (0, (13, 0)), .inr (0, (14, 0)), .inr (0, (15, 0))]) (t := []) (ct := (rxCLGN 5)) hPX hF rfl hA hH0 hmc hms hd hdl (by decide +kernel) rfl rfl (by decide +kernel) (by decide +kernel) hQLGN (by decide +kernel) rfl (Or.inl ⟨rfl, rfl, rfl⟩) (rxsLEX_8 hP)
  | 9, hq =>
    cases hq
    exact absurd (show false = true from hus) Bool.false_ne_true
  | n + 10, hq => cases hq
theorem rxQLEX_5 {PX : State → Prop} {Dg : va_G} {A : Nat → Prop} {ad xa : Nat → Nat} {l : Launch} {X : (Nat → Int → Int) → Prop} (hPX : rx_PXOK rxNW A PX) (hsl : ∀ s : State, PX s → ∀ o idx n : Nat, rxSl o idx = some n → ∃ tx : String, vk_R (rxNm o) idx tx (ad n) s)
    (hX : ∀ S S' : Nat → Int → Int, X S → bx_same rxL (bx_mdl (rxCLEX 5).2.2.1) S S' → X S')
    (ih : ∀ (j2 : Nat) (ct2 : bx_Ct) (M2 : rx_Mt), ct2 ∈ rxCnE j2 → ct2.2.2.2.1 + 1 ≤ (rxCLEX 5).2.2.2.1 → rxT.2.2.2.2.2 j2 = some M2 → bx_Con rxG rxNW rxAO PX Dg rxL X vwCl A ad l M2 ct2) (hQLWH : bx_ConP rxG rxNW rxAO PX Dg rxL X vwCl A ad l rxM54 rxCLWH rxPLWH rxPSLWH) (hQLRA : bx_ConP rxG rxNW rxAO PX Dg rxL X vwCl A ad l rxM1 rxCLRA rxPLRA rxPSLRA) (hQLGN : bx_ConP rxG rxNW rxAO PX Dg rxL X vwCl A ad l rxM55 (rxCLGN 5) (rxPLGN 5) rxPSLGN) : bx_ConP rxG rxNW rxAO PX Dg rxL X vwCl A ad l rxM53 (rxCLEX 5) (rxPLEX 5) rxPSLEX :=
  rxQof (xa := xa) (Cn := rxCnE) (f := 30000) (j := 53) (tab := rxYLEX) (us := rxULEX) hPX hsl hX ih rfl rxYcLEX_5 rxILEX rxmLEX
    (fun S0 ws r I0 I ht0 ht as he he1 hX0 hI0 hP hs ha => by
      have e := he.symm.trans (show bx_ent0 rxNP (rxCLEX 5).1 bx_I0 [] = some ([(0, 0), (0, 0), (0, 0), (0, 0), (0, 0), (0, 0), (0, 0), (0, 0), (0, 12), (0, 2), (1, 3)], [], [.inr (3, (0, 451)), .inr (0, (8, 0)), .inr (0, (9, 0)), .inr (0, (10, 0))]) from rfl)
      cases e
      subst ha
      have h0 : r 0 = 0 := hs.1
      show rxILEX_0 S0 _ S0 (r 8) (r 9) (r 10)
      refine ⟨rfl, ?_⟩
      simp only [List.map_cons, List.map_nil, bx_xv_ok h0]
      rfl)
    (fun S0 ws hP => rxuLEX_5 (xa := xa) hPX hX hQLWH hQLRA hQLGN hP) (fun S0 ws hP => rxgCLEX hP) (fun S0 ws hP => rxgELEX hP)
set_option maxRecDepth 100000 in
theorem rxYcLGN_6 : bx_chkH rxYBLGN rxM55 (rxCLGN 6) rxYLGN (rxULGN, fun cut z => rx_ex2 (rxCT rxYBLGN rxCnE) cut 30000 (rxCLGN 6).2.2.2.1 55 z) = true := by decide +kernel
theorem rxuLGN_6 {PX : State → Prop} {Dg : va_G} {A : Nat → Prop} {ad xa : Nat → Nat} {l : Launch} {X : (Nat → Int → Int) → Prop} (hPX : rx_PXOK rxNW A PX) (hX : ∀ S S1 : Nat → Int → Int, X S → bx_same rxL (bx_mdl (rxCLGN 6).2.2.1) S S1 → X S1) (hQLER : bx_ConP rxG rxNW rxAO PX Dg rxL X vwCl A ad l rxM56 rxCLER rxPLER rxPSLER) (hQLEX : bx_ConP rxG rxNW rxAO PX Dg rxL X vwCl A ad l rxM53 (rxCLEX 5) (rxPLEX 5) rxPSLEX) {S0 : Nat → Int → Int} {ws : List Int} (hP : (rxPLGN 6) S0 ws) : ∀ (i : Nat) (q : bx_HE), rxYLGN[i]? = some q → rxULGN q = true → ∀ {p : Program} {e : Env} {R : Room} {s : State} {m : MethodId} {args : Array Value} {below : List Frame} {meth : Method} {c : Code} {Q : State → Prop} {H0 : Heap}, rx_Fr rxG rxNW rxAO PX p s m args meth c rxM55 → (∀ q, H0.size ≤ q → A q) → H0 = s.heap → rxM55.2.2.2.2.2.2.1 ≤ R.cells → rxM55.2.2.2.2.2.2.2 ≤ R.slots → (rxCLGN 6).2.2.2.1 ≤ R.frames → (rxCLGN 6).2.2.2.1 * 40 ≤ R.locals → bx_Step p l e R s m args below meth c Q Dg rxL X vwCl A xa H0 ad rxM55 rxYLGN (rxILGN S0 ws) (rxmLGN S0 ws) S0 (rxCLGN 6).2.2.1 i q := by
  intro i q hq hus p e R s m args below meth c Q H0 hF hA hH0 hmc hms hd hdl
  match i, hq with
  | 0, hq =>
    cases hq
    exact absurd (show false = true from hus) Bool.false_ne_true
  | 1, hq =>
    cases hq
    exact rx_stepC (ins := .invokevirtual 92) (len := 3) (i' := 2) (M' := rxM56) (d := (rxCLGN 6).2.2.2.1) (as := [.inr (3, (0, 451)), .inr (0, (11, 0))]) (t := []) (ct := rxCLER) hPX hF rfl hA hH0 hmc hms hd hdl (by decide +kernel) rfl rfl (by decide +kernel) (by decide +kernel) hQLER (by decide +kernel) rfl (Or.inr ⟨_, _, _, 1, rfl, rfl, by omega, rfl, rfl, rfl⟩) (rxsLGN_1 hP)
  | 2, hq =>
    cases hq
    exact absurd (show false = true from hus) Bool.false_ne_true
  | 3, hq =>
    cases hq
    exact rx_stepC (ins := .invokevirtual 92) (len := 3) (i' := 4) (M' := rxM56) (d := (rxCLGN 6).2.2.2.1) (as := [.inr (3, (0, 451)), .inr (0, (12, 0))]) (t := [.inr (0, (11, 0)), .inr (3, (0, 451))]) (ct := rxCLER) hPX hF rfl hA hH0 hmc hms hd hdl (by decide +kernel) rfl rfl (by decide +kernel) (by decide +kernel) hQLER (by decide +kernel) rfl (Or.inr ⟨_, _, _, 1, rfl, rfl, by omega, rfl, rfl, rfl⟩) (rxsLGN_3 hP)
  | 4, hq =>
    cases hq
    exact absurd (show false = true from hus) Bool.false_ne_true
  | 5, hq =>
    cases hq
    exact rx_stepC (ins := .invokevirtual 78) (len := 3) (i' := 6) (M' := rxM53) (d := (rxCLGN 6).2.2.2.1) (as := [.inr (3, (0, 451)), .inr (0, (11, 0)), .inr (0, (12, 0)), .inr (0, (13, 0))]) (t := []) (ct := (rxCLEX 5)) hPX hF rfl hA hH0 hmc hms hd hdl (by decide +kernel) rfl rfl (by decide +kernel) (by decide +kernel) hQLEX (by decide +kernel) rfl (Or.inl ⟨rfl, rfl, rfl⟩) (rxsLGN_5 hP)
  | 6, hq =>
    cases hq
    exact absurd (show false = true from hus) Bool.false_ne_true
  | 7, hq =>
    cases hq
    exact absurd (show false = true from hus) Bool.false_ne_true
  | 8, hq =>
    cases hq
    exact rx_stepC (ins := .invokevirtual 78) (len := 3) (i' := 9) (M' := rxM53) (d := (rxCLGN 6).2.2.2.1) (as := [.inr (3, (0, 451)), .inr (0, (12, 0)), .inr (0, (13, 0)), .inr (0, (14, 0))]) (t := []) (ct := (rxCLEX 5)) hPX hF rfl hA hH0 hmc hms hd hdl (by decide +kernel) rfl rfl (by decide +kernel) (by decide +kernel) hQLEX (by decide +kernel) rfl (Or.inl ⟨rfl, rfl, rfl⟩) (rxsLGN_8 hP)
  | 9, hq =>
    cases hq
    exact absurd (show false = true from hus) Bool.false_ne_true
  | n + 10, hq => cases hq
theorem rxQLGN_6 {PX : State → Prop} {Dg : va_G} {A : Nat → Prop} {ad xa : Nat → Nat} {l : Launch} {X : (Nat → Int → Int) → Prop} (hPX : rx_PXOK rxNW A PX) (hsl : ∀ s : State, PX s → ∀ o idx n : Nat, rxSl o idx = some n → ∃ tx : String, vk_R (rxNm o) idx tx (ad n) s)
    (hX : ∀ S S' : Nat → Int → Int, X S → bx_same rxL (bx_mdl (rxCLGN 6).2.2.1) S S' → X S')
    (ih : ∀ (j2 : Nat) (ct2 : bx_Ct) (M2 : rx_Mt), ct2 ∈ rxCnE j2 → ct2.2.2.2.1 + 1 ≤ (rxCLGN 6).2.2.2.1 → rxT.2.2.2.2.2 j2 = some M2 → bx_Con rxG rxNW rxAO PX Dg rxL X vwCl A ad l M2 ct2) (hQLER : bx_ConP rxG rxNW rxAO PX Dg rxL X vwCl A ad l rxM56 rxCLER rxPLER rxPSLER) (hQLEX : bx_ConP rxG rxNW rxAO PX Dg rxL X vwCl A ad l rxM53 (rxCLEX 5) (rxPLEX 5) rxPSLEX) : bx_ConP rxG rxNW rxAO PX Dg rxL X vwCl A ad l rxM55 (rxCLGN 6) (rxPLGN 6) rxPSLGN :=
  rxQof (xa := xa) (Cn := rxCnE) (f := 30000) (j := 55) (tab := rxYLGN) (us := rxULGN) hPX hsl hX ih rfl rxYcLGN_6 rxILGN rxmLGN
    (fun S0 ws r I0 I ht0 ht as he he1 hX0 hI0 hP hs ha => by
      have e := he.symm.trans (show bx_ent0 rxNP (rxCLGN 6).1 bx_I0 [] = some ([(0, 0), (0, 0), (0, 0), (0, 0), (0, 0), (0, 0), (0, 0), (0, 0), (0, 11), (0, 17), (1, 3)], [], [.inr (3, (0, 451)), .inr (0, (8, 0)), .inr (0, (9, 0)), .inr (0, (10, 0))]) from rfl)
      cases e
      subst ha
      have h0 : r 0 = 0 := hs.1
      show rxILGN_0 S0 _ S0 (r 8) (r 9) (r 10)
      refine ⟨rfl, ?_⟩
      simp only [List.map_cons, List.map_nil, bx_xv_ok h0]
      rfl)
    (fun S0 ws hP => rxuLGN_6 (xa := xa) hPX hX hQLER hQLEX hP) (fun S0 ws hP => rxgCLGN hP) (fun S0 ws hP => rxgELGN hP)
set_option maxRecDepth 100000 in
theorem rxYcLEX_6 : bx_chkH rxYBLEX rxM53 (rxCLEX 6) rxYLEX (rxULEX, fun cut z => rx_ex2 (rxCT rxYBLEX rxCnE) cut 30000 (rxCLEX 6).2.2.2.1 53 z) = true := by decide +kernel
theorem rxuLEX_6 {PX : State → Prop} {Dg : va_G} {A : Nat → Prop} {ad xa : Nat → Nat} {l : Launch} {X : (Nat → Int → Int) → Prop} (hPX : rx_PXOK rxNW A PX) (hX : ∀ S S1 : Nat → Int → Int, X S → bx_same rxL (bx_mdl (rxCLEX 6).2.2.1) S S1 → X S1) (hQLWH : bx_ConP rxG rxNW rxAO PX Dg rxL X vwCl A ad l rxM54 rxCLWH rxPLWH rxPSLWH) (hQLRA : bx_ConP rxG rxNW rxAO PX Dg rxL X vwCl A ad l rxM1 rxCLRA rxPLRA rxPSLRA) (hQLGN : bx_ConP rxG rxNW rxAO PX Dg rxL X vwCl A ad l rxM55 (rxCLGN 6) (rxPLGN 6) rxPSLGN) {S0 : Nat → Int → Int} {ws : List Int} (hP : (rxPLEX 6) S0 ws) : ∀ (i : Nat) (q : bx_HE), rxYLEX[i]? = some q → rxULEX q = true → ∀ {p : Program} {e : Env} {R : Room} {s : State} {m : MethodId} {args : Array Value} {below : List Frame} {meth : Method} {c : Code} {Q : State → Prop} {H0 : Heap}, rx_Fr rxG rxNW rxAO PX p s m args meth c rxM53 → (∀ q, H0.size ≤ q → A q) → H0 = s.heap → rxM53.2.2.2.2.2.2.1 ≤ R.cells → rxM53.2.2.2.2.2.2.2 ≤ R.slots → (rxCLEX 6).2.2.2.1 ≤ R.frames → (rxCLEX 6).2.2.2.1 * 40 ≤ R.locals → bx_Step p l e R s m args below meth c Q Dg rxL X vwCl A xa H0 ad rxM53 rxYLEX (rxILEX S0 ws) (rxmLEX S0 ws) S0 (rxCLEX 6).2.2.1 i q := by
  intro i q hq hus p e R s m args below meth c Q H0 hF hA hH0 hmc hms hd hdl
  match i, hq with
  | 0, hq =>
    cases hq
    exact absurd (show false = true from hus) Bool.false_ne_true
  | 1, hq =>
    cases hq
    exact absurd (show false = true from hus) Bool.false_ne_true
  | 2, hq =>
    cases hq
    exact rx_stepC (ins := .invokevirtual 82) (len := 3) (i' := 3) (M' := rxM54) (d := (rxCLEX 6).2.2.2.1) (as := [.inr (3, (0, 451))]) (t := [.inr (0, (11, 0)), .inr (3, (0, 451))]) (ct := rxCLWH) hPX hF rfl hA hH0 hmc hms hd hdl (by decide +kernel) rfl rfl (by decide +kernel) (by decide +kernel) hQLWH (by decide +kernel) rfl (Or.inr ⟨_, _, _, 1, rfl, rfl, by omega, rfl, rfl, rfl⟩) (rxsLEX_2 hP)
  | 3, hq =>
    cases hq
    exact rx_stepB (i' := 4) (o := 6) (a := (11, 0)) (b := (12, 0)) (lo := 0) (hi := 1023) (t := [.inr (3, (0, 451))]) hF (Or.inr (Or.inr (Or.inr ⟨rfl, rfl⟩))) (by decide +kernel) rfl rfl rfl rfl (rxsLEX_3 hP)
  | 4, hq =>
    cases hq
    exact absurd (show false = true from hus) Bool.false_ne_true
  | 5, hq =>
    cases hq
    exact rx_stepC (ins := .invokestatic 86) (len := 3) (i' := 6) (M' := rxM1) (d := (rxCLEX 6).2.2.2.1) (as := [.inr (0, (11, 0)), .inr (0, (12, 0))]) (t := []) (ct := rxCLRA) hPX hF rfl hA hH0 hmc hms hd hdl (by decide +kernel) rfl rfl (by decide +kernel) (by decide +kernel) hQLRA (by decide +kernel) rfl (Or.inr ⟨_, _, _, 1, rfl, rfl, by omega, rfl, rfl, rfl⟩) (rxsLEX_5 hP)
  | 6, hq =>
    cases hq
    exact absurd (show false = true from hus) Bool.false_ne_true
  | 7, hq =>
    cases hq
    exact absurd (show false = true from hus) Bool.false_ne_true
  | 8, hq =>
    cases hq
    exact rx_stepC (ins := .invokevirtual 89) (len := 3) (i' := 9) (M' := rxM55) (d := (rxCLEX 6).2.2.2.1) (as := [.inr (3, (0, 451)), .inr (0, (13, 0)), .inr (0, (14, 0)), .inr (0, (15, 0))]) (t := []) (ct := (rxCLGN 6)) hPX hF rfl hA hH0 hmc hms hd hdl (by decide +kernel) rfl rfl (by decide +kernel) (by decide +kernel) hQLGN (by decide +kernel) rfl (Or.inl ⟨rfl, rfl, rfl⟩) (rxsLEX_8 hP)
  | 9, hq =>
    cases hq
    exact absurd (show false = true from hus) Bool.false_ne_true
  | n + 10, hq => cases hq
theorem rxQLEX_6 {PX : State → Prop} {Dg : va_G} {A : Nat → Prop} {ad xa : Nat → Nat} {l : Launch} {X : (Nat → Int → Int) → Prop} (hPX : rx_PXOK rxNW A PX) (hsl : ∀ s : State, PX s → ∀ o idx n : Nat, rxSl o idx = some n → ∃ tx : String, vk_R (rxNm o) idx tx (ad n) s)
    (hX : ∀ S S' : Nat → Int → Int, X S → bx_same rxL (bx_mdl (rxCLEX 6).2.2.1) S S' → X S')
    (ih : ∀ (j2 : Nat) (ct2 : bx_Ct) (M2 : rx_Mt), ct2 ∈ rxCnE j2 → ct2.2.2.2.1 + 1 ≤ (rxCLEX 6).2.2.2.1 → rxT.2.2.2.2.2 j2 = some M2 → bx_Con rxG rxNW rxAO PX Dg rxL X vwCl A ad l M2 ct2) (hQLWH : bx_ConP rxG rxNW rxAO PX Dg rxL X vwCl A ad l rxM54 rxCLWH rxPLWH rxPSLWH) (hQLRA : bx_ConP rxG rxNW rxAO PX Dg rxL X vwCl A ad l rxM1 rxCLRA rxPLRA rxPSLRA) (hQLGN : bx_ConP rxG rxNW rxAO PX Dg rxL X vwCl A ad l rxM55 (rxCLGN 6) (rxPLGN 6) rxPSLGN) : bx_ConP rxG rxNW rxAO PX Dg rxL X vwCl A ad l rxM53 (rxCLEX 6) (rxPLEX 6) rxPSLEX :=
  rxQof (xa := xa) (Cn := rxCnE) (f := 30000) (j := 53) (tab := rxYLEX) (us := rxULEX) hPX hsl hX ih rfl rxYcLEX_6 rxILEX rxmLEX
    (fun S0 ws r I0 I ht0 ht as he he1 hX0 hI0 hP hs ha => by
      have e := he.symm.trans (show bx_ent0 rxNP (rxCLEX 6).1 bx_I0 [] = some ([(0, 0), (0, 0), (0, 0), (0, 0), (0, 0), (0, 0), (0, 0), (0, 0), (0, 12), (0, 2), (1, 3)], [], [.inr (3, (0, 451)), .inr (0, (8, 0)), .inr (0, (9, 0)), .inr (0, (10, 0))]) from rfl)
      cases e
      subst ha
      have h0 : r 0 = 0 := hs.1
      show rxILEX_0 S0 _ S0 (r 8) (r 9) (r 10)
      refine ⟨rfl, ?_⟩
      simp only [List.map_cons, List.map_nil, bx_xv_ok h0]
      rfl)
    (fun S0 ws hP => rxuLEX_6 (xa := xa) hPX hX hQLWH hQLRA hQLGN hP) (fun S0 ws hP => rxgCLEX hP) (fun S0 ws hP => rxgELEX hP)
set_option maxRecDepth 100000 in
theorem rxYcLGN_7 : bx_chkH rxYBLGN rxM55 (rxCLGN 7) rxYLGN (rxULGN, fun cut z => rx_ex2 (rxCT rxYBLGN rxCnE) cut 30000 (rxCLGN 7).2.2.2.1 55 z) = true := by decide +kernel
theorem rxuLGN_7 {PX : State → Prop} {Dg : va_G} {A : Nat → Prop} {ad xa : Nat → Nat} {l : Launch} {X : (Nat → Int → Int) → Prop} (hPX : rx_PXOK rxNW A PX) (hX : ∀ S S1 : Nat → Int → Int, X S → bx_same rxL (bx_mdl (rxCLGN 7).2.2.1) S S1 → X S1) (hQLER : bx_ConP rxG rxNW rxAO PX Dg rxL X vwCl A ad l rxM56 rxCLER rxPLER rxPSLER) (hQLEX : bx_ConP rxG rxNW rxAO PX Dg rxL X vwCl A ad l rxM53 (rxCLEX 6) (rxPLEX 6) rxPSLEX) {S0 : Nat → Int → Int} {ws : List Int} (hP : (rxPLGN 7) S0 ws) : ∀ (i : Nat) (q : bx_HE), rxYLGN[i]? = some q → rxULGN q = true → ∀ {p : Program} {e : Env} {R : Room} {s : State} {m : MethodId} {args : Array Value} {below : List Frame} {meth : Method} {c : Code} {Q : State → Prop} {H0 : Heap}, rx_Fr rxG rxNW rxAO PX p s m args meth c rxM55 → (∀ q, H0.size ≤ q → A q) → H0 = s.heap → rxM55.2.2.2.2.2.2.1 ≤ R.cells → rxM55.2.2.2.2.2.2.2 ≤ R.slots → (rxCLGN 7).2.2.2.1 ≤ R.frames → (rxCLGN 7).2.2.2.1 * 40 ≤ R.locals → bx_Step p l e R s m args below meth c Q Dg rxL X vwCl A xa H0 ad rxM55 rxYLGN (rxILGN S0 ws) (rxmLGN S0 ws) S0 (rxCLGN 7).2.2.1 i q := by
  intro i q hq hus p e R s m args below meth c Q H0 hF hA hH0 hmc hms hd hdl
  match i, hq with
  | 0, hq =>
    cases hq
    exact absurd (show false = true from hus) Bool.false_ne_true
  | 1, hq =>
    cases hq
    exact rx_stepC (ins := .invokevirtual 92) (len := 3) (i' := 2) (M' := rxM56) (d := (rxCLGN 7).2.2.2.1) (as := [.inr (3, (0, 451)), .inr (0, (11, 0))]) (t := []) (ct := rxCLER) hPX hF rfl hA hH0 hmc hms hd hdl (by decide +kernel) rfl rfl (by decide +kernel) (by decide +kernel) hQLER (by decide +kernel) rfl (Or.inr ⟨_, _, _, 1, rfl, rfl, by omega, rfl, rfl, rfl⟩) (rxsLGN_1 hP)
  | 2, hq =>
    cases hq
    exact absurd (show false = true from hus) Bool.false_ne_true
  | 3, hq =>
    cases hq
    exact rx_stepC (ins := .invokevirtual 92) (len := 3) (i' := 4) (M' := rxM56) (d := (rxCLGN 7).2.2.2.1) (as := [.inr (3, (0, 451)), .inr (0, (12, 0))]) (t := [.inr (0, (11, 0)), .inr (3, (0, 451))]) (ct := rxCLER) hPX hF rfl hA hH0 hmc hms hd hdl (by decide +kernel) rfl rfl (by decide +kernel) (by decide +kernel) hQLER (by decide +kernel) rfl (Or.inr ⟨_, _, _, 1, rfl, rfl, by omega, rfl, rfl, rfl⟩) (rxsLGN_3 hP)
  | 4, hq =>
    cases hq
    exact absurd (show false = true from hus) Bool.false_ne_true
  | 5, hq =>
    cases hq
    exact rx_stepC (ins := .invokevirtual 78) (len := 3) (i' := 6) (M' := rxM53) (d := (rxCLGN 7).2.2.2.1) (as := [.inr (3, (0, 451)), .inr (0, (11, 0)), .inr (0, (12, 0)), .inr (0, (13, 0))]) (t := []) (ct := (rxCLEX 6)) hPX hF rfl hA hH0 hmc hms hd hdl (by decide +kernel) rfl rfl (by decide +kernel) (by decide +kernel) hQLEX (by decide +kernel) rfl (Or.inl ⟨rfl, rfl, rfl⟩) (rxsLGN_5 hP)
  | 6, hq =>
    cases hq
    exact absurd (show false = true from hus) Bool.false_ne_true
  | 7, hq =>
    cases hq
    exact absurd (show false = true from hus) Bool.false_ne_true
  | 8, hq =>
    cases hq
    exact rx_stepC (ins := .invokevirtual 78) (len := 3) (i' := 9) (M' := rxM53) (d := (rxCLGN 7).2.2.2.1) (as := [.inr (3, (0, 451)), .inr (0, (12, 0)), .inr (0, (13, 0)), .inr (0, (14, 0))]) (t := []) (ct := (rxCLEX 6)) hPX hF rfl hA hH0 hmc hms hd hdl (by decide +kernel) rfl rfl (by decide +kernel) (by decide +kernel) hQLEX (by decide +kernel) rfl (Or.inl ⟨rfl, rfl, rfl⟩) (rxsLGN_8 hP)
  | 9, hq =>
    cases hq
    exact absurd (show false = true from hus) Bool.false_ne_true
  | n + 10, hq => cases hq
theorem rxQLGN_7 {PX : State → Prop} {Dg : va_G} {A : Nat → Prop} {ad xa : Nat → Nat} {l : Launch} {X : (Nat → Int → Int) → Prop} (hPX : rx_PXOK rxNW A PX) (hsl : ∀ s : State, PX s → ∀ o idx n : Nat, rxSl o idx = some n → ∃ tx : String, vk_R (rxNm o) idx tx (ad n) s)
    (hX : ∀ S S' : Nat → Int → Int, X S → bx_same rxL (bx_mdl (rxCLGN 7).2.2.1) S S' → X S')
    (ih : ∀ (j2 : Nat) (ct2 : bx_Ct) (M2 : rx_Mt), ct2 ∈ rxCnE j2 → ct2.2.2.2.1 + 1 ≤ (rxCLGN 7).2.2.2.1 → rxT.2.2.2.2.2 j2 = some M2 → bx_Con rxG rxNW rxAO PX Dg rxL X vwCl A ad l M2 ct2) (hQLER : bx_ConP rxG rxNW rxAO PX Dg rxL X vwCl A ad l rxM56 rxCLER rxPLER rxPSLER) (hQLEX : bx_ConP rxG rxNW rxAO PX Dg rxL X vwCl A ad l rxM53 (rxCLEX 6) (rxPLEX 6) rxPSLEX) : bx_ConP rxG rxNW rxAO PX Dg rxL X vwCl A ad l rxM55 (rxCLGN 7) (rxPLGN 7) rxPSLGN :=
  rxQof (xa := xa) (Cn := rxCnE) (f := 30000) (j := 55) (tab := rxYLGN) (us := rxULGN) hPX hsl hX ih rfl rxYcLGN_7 rxILGN rxmLGN
    (fun S0 ws r I0 I ht0 ht as he he1 hX0 hI0 hP hs ha => by
      have e := he.symm.trans (show bx_ent0 rxNP (rxCLGN 7).1 bx_I0 [] = some ([(0, 0), (0, 0), (0, 0), (0, 0), (0, 0), (0, 0), (0, 0), (0, 0), (0, 11), (0, 17), (1, 3)], [], [.inr (3, (0, 451)), .inr (0, (8, 0)), .inr (0, (9, 0)), .inr (0, (10, 0))]) from rfl)
      cases e
      subst ha
      have h0 : r 0 = 0 := hs.1
      show rxILGN_0 S0 _ S0 (r 8) (r 9) (r 10)
      refine ⟨rfl, ?_⟩
      simp only [List.map_cons, List.map_nil, bx_xv_ok h0]
      rfl)
    (fun S0 ws hP => rxuLGN_7 (xa := xa) hPX hX hQLER hQLEX hP) (fun S0 ws hP => rxgCLGN hP) (fun S0 ws hP => rxgELGN hP)
set_option maxRecDepth 100000 in
theorem rxYcLEX_7 : bx_chkH rxYBLEX rxM53 (rxCLEX 7) rxYLEX (rxULEX, fun cut z => rx_ex2 (rxCT rxYBLEX rxCnE) cut 30000 (rxCLEX 7).2.2.2.1 53 z) = true := by decide +kernel
theorem rxuLEX_7 {PX : State → Prop} {Dg : va_G} {A : Nat → Prop} {ad xa : Nat → Nat} {l : Launch} {X : (Nat → Int → Int) → Prop} (hPX : rx_PXOK rxNW A PX) (hX : ∀ S S1 : Nat → Int → Int, X S → bx_same rxL (bx_mdl (rxCLEX 7).2.2.1) S S1 → X S1) (hQLWH : bx_ConP rxG rxNW rxAO PX Dg rxL X vwCl A ad l rxM54 rxCLWH rxPLWH rxPSLWH) (hQLRA : bx_ConP rxG rxNW rxAO PX Dg rxL X vwCl A ad l rxM1 rxCLRA rxPLRA rxPSLRA) (hQLGN : bx_ConP rxG rxNW rxAO PX Dg rxL X vwCl A ad l rxM55 (rxCLGN 7) (rxPLGN 7) rxPSLGN) {S0 : Nat → Int → Int} {ws : List Int} (hP : (rxPLEX 7) S0 ws) : ∀ (i : Nat) (q : bx_HE), rxYLEX[i]? = some q → rxULEX q = true → ∀ {p : Program} {e : Env} {R : Room} {s : State} {m : MethodId} {args : Array Value} {below : List Frame} {meth : Method} {c : Code} {Q : State → Prop} {H0 : Heap}, rx_Fr rxG rxNW rxAO PX p s m args meth c rxM53 → (∀ q, H0.size ≤ q → A q) → H0 = s.heap → rxM53.2.2.2.2.2.2.1 ≤ R.cells → rxM53.2.2.2.2.2.2.2 ≤ R.slots → (rxCLEX 7).2.2.2.1 ≤ R.frames → (rxCLEX 7).2.2.2.1 * 40 ≤ R.locals → bx_Step p l e R s m args below meth c Q Dg rxL X vwCl A xa H0 ad rxM53 rxYLEX (rxILEX S0 ws) (rxmLEX S0 ws) S0 (rxCLEX 7).2.2.1 i q := by
  intro i q hq hus p e R s m args below meth c Q H0 hF hA hH0 hmc hms hd hdl
  match i, hq with
  | 0, hq =>
    cases hq
    exact absurd (show false = true from hus) Bool.false_ne_true
  | 1, hq =>
    cases hq
    exact absurd (show false = true from hus) Bool.false_ne_true
  | 2, hq =>
    cases hq
    exact rx_stepC (ins := .invokevirtual 82) (len := 3) (i' := 3) (M' := rxM54) (d := (rxCLEX 7).2.2.2.1) (as := [.inr (3, (0, 451))]) (t := [.inr (0, (11, 0)), .inr (3, (0, 451))]) (ct := rxCLWH) hPX hF rfl hA hH0 hmc hms hd hdl (by decide +kernel) rfl rfl (by decide +kernel) (by decide +kernel) hQLWH (by decide +kernel) rfl (Or.inr ⟨_, _, _, 1, rfl, rfl, by omega, rfl, rfl, rfl⟩) (rxsLEX_2 hP)
  | 3, hq =>
    cases hq
    exact rx_stepB (i' := 4) (o := 6) (a := (11, 0)) (b := (12, 0)) (lo := 0) (hi := 1023) (t := [.inr (3, (0, 451))]) hF (Or.inr (Or.inr (Or.inr ⟨rfl, rfl⟩))) (by decide +kernel) rfl rfl rfl rfl (rxsLEX_3 hP)
  | 4, hq =>
    cases hq
    exact absurd (show false = true from hus) Bool.false_ne_true
  | 5, hq =>
    cases hq
    exact rx_stepC (ins := .invokestatic 86) (len := 3) (i' := 6) (M' := rxM1) (d := (rxCLEX 7).2.2.2.1) (as := [.inr (0, (11, 0)), .inr (0, (12, 0))]) (t := []) (ct := rxCLRA) hPX hF rfl hA hH0 hmc hms hd hdl (by decide +kernel) rfl rfl (by decide +kernel) (by decide +kernel) hQLRA (by decide +kernel) rfl (Or.inr ⟨_, _, _, 1, rfl, rfl, by omega, rfl, rfl, rfl⟩) (rxsLEX_5 hP)
  | 6, hq =>
    cases hq
    exact absurd (show false = true from hus) Bool.false_ne_true
  | 7, hq =>
    cases hq
    exact absurd (show false = true from hus) Bool.false_ne_true
  | 8, hq =>
    cases hq
    exact rx_stepC (ins := .invokevirtual 89) (len := 3) (i' := 9) (M' := rxM55) (d := (rxCLEX 7).2.2.2.1) (as := [.inr (3, (0, 451)), .inr (0, (13, 0)), .inr (0, (14, 0)), .inr (0, (15, 0))]) (t := []) (ct := (rxCLGN 7)) hPX hF rfl hA hH0 hmc hms hd hdl (by decide +kernel) rfl rfl (by decide +kernel) (by decide +kernel) hQLGN (by decide +kernel) rfl (Or.inl ⟨rfl, rfl, rfl⟩) (rxsLEX_8 hP)
  | 9, hq =>
    cases hq
    exact absurd (show false = true from hus) Bool.false_ne_true
  | n + 10, hq => cases hq
theorem rxQLEX_7 {PX : State → Prop} {Dg : va_G} {A : Nat → Prop} {ad xa : Nat → Nat} {l : Launch} {X : (Nat → Int → Int) → Prop} (hPX : rx_PXOK rxNW A PX) (hsl : ∀ s : State, PX s → ∀ o idx n : Nat, rxSl o idx = some n → ∃ tx : String, vk_R (rxNm o) idx tx (ad n) s)
    (hX : ∀ S S' : Nat → Int → Int, X S → bx_same rxL (bx_mdl (rxCLEX 7).2.2.1) S S' → X S')
    (ih : ∀ (j2 : Nat) (ct2 : bx_Ct) (M2 : rx_Mt), ct2 ∈ rxCnE j2 → ct2.2.2.2.1 + 1 ≤ (rxCLEX 7).2.2.2.1 → rxT.2.2.2.2.2 j2 = some M2 → bx_Con rxG rxNW rxAO PX Dg rxL X vwCl A ad l M2 ct2) (hQLWH : bx_ConP rxG rxNW rxAO PX Dg rxL X vwCl A ad l rxM54 rxCLWH rxPLWH rxPSLWH) (hQLRA : bx_ConP rxG rxNW rxAO PX Dg rxL X vwCl A ad l rxM1 rxCLRA rxPLRA rxPSLRA) (hQLGN : bx_ConP rxG rxNW rxAO PX Dg rxL X vwCl A ad l rxM55 (rxCLGN 7) (rxPLGN 7) rxPSLGN) : bx_ConP rxG rxNW rxAO PX Dg rxL X vwCl A ad l rxM53 (rxCLEX 7) (rxPLEX 7) rxPSLEX :=
  rxQof (xa := xa) (Cn := rxCnE) (f := 30000) (j := 53) (tab := rxYLEX) (us := rxULEX) hPX hsl hX ih rfl rxYcLEX_7 rxILEX rxmLEX
    (fun S0 ws r I0 I ht0 ht as he he1 hX0 hI0 hP hs ha => by
      have e := he.symm.trans (show bx_ent0 rxNP (rxCLEX 7).1 bx_I0 [] = some ([(0, 0), (0, 0), (0, 0), (0, 0), (0, 0), (0, 0), (0, 0), (0, 0), (0, 12), (0, 2), (1, 3)], [], [.inr (3, (0, 451)), .inr (0, (8, 0)), .inr (0, (9, 0)), .inr (0, (10, 0))]) from rfl)
      cases e
      subst ha
      have h0 : r 0 = 0 := hs.1
      show rxILEX_0 S0 _ S0 (r 8) (r 9) (r 10)
      refine ⟨rfl, ?_⟩
      simp only [List.map_cons, List.map_nil, bx_xv_ok h0]
      rfl)
    (fun S0 ws hP => rxuLEX_7 (xa := xa) hPX hX hQLWH hQLRA hQLGN hP) (fun S0 ws hP => rxgCLEX hP) (fun S0 ws hP => rxgELEX hP)
set_option maxRecDepth 100000 in
theorem rxYcLGN_8 : bx_chkH rxYBLGN rxM55 (rxCLGN 8) rxYLGN (rxULGN, fun cut z => rx_ex2 (rxCT rxYBLGN rxCnE) cut 30000 (rxCLGN 8).2.2.2.1 55 z) = true := by decide +kernel
theorem rxuLGN_8 {PX : State → Prop} {Dg : va_G} {A : Nat → Prop} {ad xa : Nat → Nat} {l : Launch} {X : (Nat → Int → Int) → Prop} (hPX : rx_PXOK rxNW A PX) (hX : ∀ S S1 : Nat → Int → Int, X S → bx_same rxL (bx_mdl (rxCLGN 8).2.2.1) S S1 → X S1) (hQLER : bx_ConP rxG rxNW rxAO PX Dg rxL X vwCl A ad l rxM56 rxCLER rxPLER rxPSLER) (hQLEX : bx_ConP rxG rxNW rxAO PX Dg rxL X vwCl A ad l rxM53 (rxCLEX 7) (rxPLEX 7) rxPSLEX) {S0 : Nat → Int → Int} {ws : List Int} (hP : (rxPLGN 8) S0 ws) : ∀ (i : Nat) (q : bx_HE), rxYLGN[i]? = some q → rxULGN q = true → ∀ {p : Program} {e : Env} {R : Room} {s : State} {m : MethodId} {args : Array Value} {below : List Frame} {meth : Method} {c : Code} {Q : State → Prop} {H0 : Heap}, rx_Fr rxG rxNW rxAO PX p s m args meth c rxM55 → (∀ q, H0.size ≤ q → A q) → H0 = s.heap → rxM55.2.2.2.2.2.2.1 ≤ R.cells → rxM55.2.2.2.2.2.2.2 ≤ R.slots → (rxCLGN 8).2.2.2.1 ≤ R.frames → (rxCLGN 8).2.2.2.1 * 40 ≤ R.locals → bx_Step p l e R s m args below meth c Q Dg rxL X vwCl A xa H0 ad rxM55 rxYLGN (rxILGN S0 ws) (rxmLGN S0 ws) S0 (rxCLGN 8).2.2.1 i q := by
  intro i q hq hus p e R s m args below meth c Q H0 hF hA hH0 hmc hms hd hdl
  match i, hq with
  | 0, hq =>
    cases hq
    exact absurd (show false = true from hus) Bool.false_ne_true
  | 1, hq =>
    cases hq
    exact rx_stepC (ins := .invokevirtual 92) (len := 3) (i' := 2) (M' := rxM56) (d := (rxCLGN 8).2.2.2.1) (as := [.inr (3, (0, 451)), .inr (0, (11, 0))]) (t := []) (ct := rxCLER) hPX hF rfl hA hH0 hmc hms hd hdl (by decide +kernel) rfl rfl (by decide +kernel) (by decide +kernel) hQLER (by decide +kernel) rfl (Or.inr ⟨_, _, _, 1, rfl, rfl, by omega, rfl, rfl, rfl⟩) (rxsLGN_1 hP)
  | 2, hq =>
    cases hq
    exact absurd (show false = true from hus) Bool.false_ne_true
  | 3, hq =>
    cases hq
    exact rx_stepC (ins := .invokevirtual 92) (len := 3) (i' := 4) (M' := rxM56) (d := (rxCLGN 8).2.2.2.1) (as := [.inr (3, (0, 451)), .inr (0, (12, 0))]) (t := [.inr (0, (11, 0)), .inr (3, (0, 451))]) (ct := rxCLER) hPX hF rfl hA hH0 hmc hms hd hdl (by decide +kernel) rfl rfl (by decide +kernel) (by decide +kernel) hQLER (by decide +kernel) rfl (Or.inr ⟨_, _, _, 1, rfl, rfl, by omega, rfl, rfl, rfl⟩) (rxsLGN_3 hP)
  | 4, hq =>
    cases hq
    exact absurd (show false = true from hus) Bool.false_ne_true
  | 5, hq =>
    cases hq
    exact rx_stepC (ins := .invokevirtual 78) (len := 3) (i' := 6) (M' := rxM53) (d := (rxCLGN 8).2.2.2.1) (as := [.inr (3, (0, 451)), .inr (0, (11, 0)), .inr (0, (12, 0)), .inr (0, (13, 0))]) (t := []) (ct := (rxCLEX 7)) hPX hF rfl hA hH0 hmc hms hd hdl (by decide +kernel) rfl rfl (by decide +kernel) (by decide +kernel) hQLEX (by decide +kernel) rfl (Or.inl ⟨rfl, rfl, rfl⟩) (rxsLGN_5 hP)
  | 6, hq =>
    cases hq
    exact absurd (show false = true from hus) Bool.false_ne_true
  | 7, hq =>
    cases hq
    exact absurd (show false = true from hus) Bool.false_ne_true
  | 8, hq =>
    cases hq
    exact rx_stepC (ins := .invokevirtual 78) (len := 3) (i' := 9) (M' := rxM53) (d := (rxCLGN 8).2.2.2.1) (as := [.inr (3, (0, 451)), .inr (0, (12, 0)), .inr (0, (13, 0)), .inr (0, (14, 0))]) (t := []) (ct := (rxCLEX 7)) hPX hF rfl hA hH0 hmc hms hd hdl (by decide +kernel) rfl rfl (by decide +kernel) (by decide +kernel) hQLEX (by decide +kernel) rfl (Or.inl ⟨rfl, rfl, rfl⟩) (rxsLGN_8 hP)
  | 9, hq =>
    cases hq
    exact absurd (show false = true from hus) Bool.false_ne_true
  | n + 10, hq => cases hq
theorem rxQLGN_8 {PX : State → Prop} {Dg : va_G} {A : Nat → Prop} {ad xa : Nat → Nat} {l : Launch} {X : (Nat → Int → Int) → Prop} (hPX : rx_PXOK rxNW A PX) (hsl : ∀ s : State, PX s → ∀ o idx n : Nat, rxSl o idx = some n → ∃ tx : String, vk_R (rxNm o) idx tx (ad n) s)
    (hX : ∀ S S' : Nat → Int → Int, X S → bx_same rxL (bx_mdl (rxCLGN 8).2.2.1) S S' → X S')
    (ih : ∀ (j2 : Nat) (ct2 : bx_Ct) (M2 : rx_Mt), ct2 ∈ rxCnE j2 → ct2.2.2.2.1 + 1 ≤ (rxCLGN 8).2.2.2.1 → rxT.2.2.2.2.2 j2 = some M2 → bx_Con rxG rxNW rxAO PX Dg rxL X vwCl A ad l M2 ct2) (hQLER : bx_ConP rxG rxNW rxAO PX Dg rxL X vwCl A ad l rxM56 rxCLER rxPLER rxPSLER) (hQLEX : bx_ConP rxG rxNW rxAO PX Dg rxL X vwCl A ad l rxM53 (rxCLEX 7) (rxPLEX 7) rxPSLEX) : bx_ConP rxG rxNW rxAO PX Dg rxL X vwCl A ad l rxM55 (rxCLGN 8) (rxPLGN 8) rxPSLGN :=
  rxQof (xa := xa) (Cn := rxCnE) (f := 30000) (j := 55) (tab := rxYLGN) (us := rxULGN) hPX hsl hX ih rfl rxYcLGN_8 rxILGN rxmLGN
    (fun S0 ws r I0 I ht0 ht as he he1 hX0 hI0 hP hs ha => by
      have e := he.symm.trans (show bx_ent0 rxNP (rxCLGN 8).1 bx_I0 [] = some ([(0, 0), (0, 0), (0, 0), (0, 0), (0, 0), (0, 0), (0, 0), (0, 0), (0, 11), (0, 17), (1, 3)], [], [.inr (3, (0, 451)), .inr (0, (8, 0)), .inr (0, (9, 0)), .inr (0, (10, 0))]) from rfl)
      cases e
      subst ha
      have h0 : r 0 = 0 := hs.1
      show rxILGN_0 S0 _ S0 (r 8) (r 9) (r 10)
      refine ⟨rfl, ?_⟩
      simp only [List.map_cons, List.map_nil, bx_xv_ok h0]
      rfl)
    (fun S0 ws hP => rxuLGN_8 (xa := xa) hPX hX hQLER hQLEX hP) (fun S0 ws hP => rxgCLGN hP) (fun S0 ws hP => rxgELGN hP)
set_option maxRecDepth 100000 in
theorem rxYcLEX_8 : bx_chkH rxYBLEX rxM53 (rxCLEX 8) rxYLEX (rxULEX, fun cut z => rx_ex2 (rxCT rxYBLEX rxCnE) cut 30000 (rxCLEX 8).2.2.2.1 53 z) = true := by decide +kernel
theorem rxuLEX_8 {PX : State → Prop} {Dg : va_G} {A : Nat → Prop} {ad xa : Nat → Nat} {l : Launch} {X : (Nat → Int → Int) → Prop} (hPX : rx_PXOK rxNW A PX) (hX : ∀ S S1 : Nat → Int → Int, X S → bx_same rxL (bx_mdl (rxCLEX 8).2.2.1) S S1 → X S1) (hQLWH : bx_ConP rxG rxNW rxAO PX Dg rxL X vwCl A ad l rxM54 rxCLWH rxPLWH rxPSLWH) (hQLRA : bx_ConP rxG rxNW rxAO PX Dg rxL X vwCl A ad l rxM1 rxCLRA rxPLRA rxPSLRA) (hQLGN : bx_ConP rxG rxNW rxAO PX Dg rxL X vwCl A ad l rxM55 (rxCLGN 8) (rxPLGN 8) rxPSLGN) {S0 : Nat → Int → Int} {ws : List Int} (hP : (rxPLEX 8) S0 ws) : ∀ (i : Nat) (q : bx_HE), rxYLEX[i]? = some q → rxULEX q = true → ∀ {p : Program} {e : Env} {R : Room} {s : State} {m : MethodId} {args : Array Value} {below : List Frame} {meth : Method} {c : Code} {Q : State → Prop} {H0 : Heap}, rx_Fr rxG rxNW rxAO PX p s m args meth c rxM53 → (∀ q, H0.size ≤ q → A q) → H0 = s.heap → rxM53.2.2.2.2.2.2.1 ≤ R.cells → rxM53.2.2.2.2.2.2.2 ≤ R.slots → (rxCLEX 8).2.2.2.1 ≤ R.frames → (rxCLEX 8).2.2.2.1 * 40 ≤ R.locals → bx_Step p l e R s m args below meth c Q Dg rxL X vwCl A xa H0 ad rxM53 rxYLEX (rxILEX S0 ws) (rxmLEX S0 ws) S0 (rxCLEX 8).2.2.1 i q := by
  intro i q hq hus p e R s m args below meth c Q H0 hF hA hH0 hmc hms hd hdl
  match i, hq with
  | 0, hq =>
    cases hq
    exact absurd (show false = true from hus) Bool.false_ne_true
  | 1, hq =>
    cases hq
    exact absurd (show false = true from hus) Bool.false_ne_true
  | 2, hq =>
    cases hq
    exact rx_stepC (ins := .invokevirtual 82) (len := 3) (i' := 3) (M' := rxM54) (d := (rxCLEX 8).2.2.2.1) (as := [.inr (3, (0, 451))]) (t := [.inr (0, (11, 0)), .inr (3, (0, 451))]) (ct := rxCLWH) hPX hF rfl hA hH0 hmc hms hd hdl (by decide +kernel) rfl rfl (by decide +kernel) (by decide +kernel) hQLWH (by decide +kernel) rfl (Or.inr ⟨_, _, _, 1, rfl, rfl, by omega, rfl, rfl, rfl⟩) (rxsLEX_2 hP)
  | 3, hq =>
    cases hq
    exact rx_stepB (i' := 4) (o := 6) (a := (11, 0)) (b := (12, 0)) (lo := 0) (hi := 1023) (t := [.inr (3, (0, 451))]) hF (Or.inr (Or.inr (Or.inr ⟨rfl, rfl⟩))) (by decide +kernel) rfl rfl rfl rfl (rxsLEX_3 hP)
  | 4, hq =>
    cases hq
    exact absurd (show false = true from hus) Bool.false_ne_true
  | 5, hq =>
    cases hq
    exact rx_stepC (ins := .invokestatic 86) (len := 3) (i' := 6) (M' := rxM1) (d := (rxCLEX 8).2.2.2.1) (as := [.inr (0, (11, 0)), .inr (0, (12, 0))]) (t := []) (ct := rxCLRA) hPX hF rfl hA hH0 hmc hms hd hdl (by decide +kernel) rfl rfl (by decide +kernel) (by decide +kernel) hQLRA (by decide +kernel) rfl (Or.inr ⟨_, _, _, 1, rfl, rfl, by omega, rfl, rfl, rfl⟩) (rxsLEX_5 hP)
  | 6, hq =>
    cases hq
    exact absurd (show false = true from hus) Bool.false_ne_true
  | 7, hq =>
    cases hq
    exact absurd (show false = true from hus) Bool.false_ne_true
  | 8, hq =>
    cases hq
    exact rx_stepC (ins := .invokevirtual 89) (len := 3) (i' := 9) (M' := rxM55) (d := (rxCLEX 8).2.2.2.1) (as := [.inr (3, (0, 451)), .inr (0, (13, 0)), .inr (0, (14, 0)), .inr (0, (15, 0))]) (t := []) (ct := (rxCLGN 8)) hPX hF rfl hA hH0 hmc hms hd hdl (by decide +kernel) rfl rfl (by decide +kernel) (by decide +kernel) hQLGN (by decide +kernel) rfl (Or.inl ⟨rfl, rfl, rfl⟩) (rxsLEX_8 hP)
  | 9, hq =>
    cases hq
    exact absurd (show false = true from hus) Bool.false_ne_true
  | n + 10, hq => cases hq
theorem rxQLEX_8 {PX : State → Prop} {Dg : va_G} {A : Nat → Prop} {ad xa : Nat → Nat} {l : Launch} {X : (Nat → Int → Int) → Prop} (hPX : rx_PXOK rxNW A PX) (hsl : ∀ s : State, PX s → ∀ o idx n : Nat, rxSl o idx = some n → ∃ tx : String, vk_R (rxNm o) idx tx (ad n) s)
    (hX : ∀ S S' : Nat → Int → Int, X S → bx_same rxL (bx_mdl (rxCLEX 8).2.2.1) S S' → X S')
    (ih : ∀ (j2 : Nat) (ct2 : bx_Ct) (M2 : rx_Mt), ct2 ∈ rxCnE j2 → ct2.2.2.2.1 + 1 ≤ (rxCLEX 8).2.2.2.1 → rxT.2.2.2.2.2 j2 = some M2 → bx_Con rxG rxNW rxAO PX Dg rxL X vwCl A ad l M2 ct2) (hQLWH : bx_ConP rxG rxNW rxAO PX Dg rxL X vwCl A ad l rxM54 rxCLWH rxPLWH rxPSLWH) (hQLRA : bx_ConP rxG rxNW rxAO PX Dg rxL X vwCl A ad l rxM1 rxCLRA rxPLRA rxPSLRA) (hQLGN : bx_ConP rxG rxNW rxAO PX Dg rxL X vwCl A ad l rxM55 (rxCLGN 8) (rxPLGN 8) rxPSLGN) : bx_ConP rxG rxNW rxAO PX Dg rxL X vwCl A ad l rxM53 (rxCLEX 8) (rxPLEX 8) rxPSLEX :=
  rxQof (xa := xa) (Cn := rxCnE) (f := 30000) (j := 53) (tab := rxYLEX) (us := rxULEX) hPX hsl hX ih rfl rxYcLEX_8 rxILEX rxmLEX
    (fun S0 ws r I0 I ht0 ht as he he1 hX0 hI0 hP hs ha => by
      have e := he.symm.trans (show bx_ent0 rxNP (rxCLEX 8).1 bx_I0 [] = some ([(0, 0), (0, 0), (0, 0), (0, 0), (0, 0), (0, 0), (0, 0), (0, 0), (0, 12), (0, 2), (1, 3)], [], [.inr (3, (0, 451)), .inr (0, (8, 0)), .inr (0, (9, 0)), .inr (0, (10, 0))]) from rfl)
      cases e
      subst ha
      have h0 : r 0 = 0 := hs.1
      show rxILEX_0 S0 _ S0 (r 8) (r 9) (r 10)
      refine ⟨rfl, ?_⟩
      simp only [List.map_cons, List.map_nil, bx_xv_ok h0]
      rfl)
    (fun S0 ws hP => rxuLEX_8 (xa := xa) hPX hX hQLWH hQLRA hQLGN hP) (fun S0 ws hP => rxgCLEX hP) (fun S0 ws hP => rxgELEX hP)
set_option maxRecDepth 100000 in
theorem rxYcLGN_9 : bx_chkH rxYBLGN rxM55 (rxCLGN 9) rxYLGN (rxULGN, fun cut z => rx_ex2 (rxCT rxYBLGN rxCnE) cut 30000 (rxCLGN 9).2.2.2.1 55 z) = true := by decide +kernel
theorem rxuLGN_9 {PX : State → Prop} {Dg : va_G} {A : Nat → Prop} {ad xa : Nat → Nat} {l : Launch} {X : (Nat → Int → Int) → Prop} (hPX : rx_PXOK rxNW A PX) (hX : ∀ S S1 : Nat → Int → Int, X S → bx_same rxL (bx_mdl (rxCLGN 9).2.2.1) S S1 → X S1) (hQLER : bx_ConP rxG rxNW rxAO PX Dg rxL X vwCl A ad l rxM56 rxCLER rxPLER rxPSLER) (hQLEX : bx_ConP rxG rxNW rxAO PX Dg rxL X vwCl A ad l rxM53 (rxCLEX 8) (rxPLEX 8) rxPSLEX) {S0 : Nat → Int → Int} {ws : List Int} (hP : (rxPLGN 9) S0 ws) : ∀ (i : Nat) (q : bx_HE), rxYLGN[i]? = some q → rxULGN q = true → ∀ {p : Program} {e : Env} {R : Room} {s : State} {m : MethodId} {args : Array Value} {below : List Frame} {meth : Method} {c : Code} {Q : State → Prop} {H0 : Heap}, rx_Fr rxG rxNW rxAO PX p s m args meth c rxM55 → (∀ q, H0.size ≤ q → A q) → H0 = s.heap → rxM55.2.2.2.2.2.2.1 ≤ R.cells → rxM55.2.2.2.2.2.2.2 ≤ R.slots → (rxCLGN 9).2.2.2.1 ≤ R.frames → (rxCLGN 9).2.2.2.1 * 40 ≤ R.locals → bx_Step p l e R s m args below meth c Q Dg rxL X vwCl A xa H0 ad rxM55 rxYLGN (rxILGN S0 ws) (rxmLGN S0 ws) S0 (rxCLGN 9).2.2.1 i q := by
  intro i q hq hus p e R s m args below meth c Q H0 hF hA hH0 hmc hms hd hdl
  match i, hq with
  | 0, hq =>
    cases hq
    exact absurd (show false = true from hus) Bool.false_ne_true
  | 1, hq =>
    cases hq
    exact rx_stepC (ins := .invokevirtual 92) (len := 3) (i' := 2) (M' := rxM56) (d := (rxCLGN 9).2.2.2.1) (as := [.inr (3, (0, 451)), .inr (0, (11, 0))]) (t := []) (ct := rxCLER) hPX hF rfl hA hH0 hmc hms hd hdl (by decide +kernel) rfl rfl (by decide +kernel) (by decide +kernel) hQLER (by decide +kernel) rfl (Or.inr ⟨_, _, _, 1, rfl, rfl, by omega, rfl, rfl, rfl⟩) (rxsLGN_1 hP)
  | 2, hq =>
    cases hq
    exact absurd (show false = true from hus) Bool.false_ne_true
  | 3, hq =>
    cases hq
    exact rx_stepC (ins := .invokevirtual 92) (len := 3) (i' := 4) (M' := rxM56) (d := (rxCLGN 9).2.2.2.1) (as := [.inr (3, (0, 451)), .inr (0, (12, 0))]) (t := [.inr (0, (11, 0)), .inr (3, (0, 451))]) (ct := rxCLER) hPX hF rfl hA hH0 hmc hms hd hdl (by decide +kernel) rfl rfl (by decide +kernel) (by decide +kernel) hQLER (by decide +kernel) rfl (Or.inr ⟨_, _, _, 1, rfl, rfl, by omega, rfl, rfl, rfl⟩) (rxsLGN_3 hP)
  | 4, hq =>
    cases hq
    exact absurd (show false = true from hus) Bool.false_ne_true
  | 5, hq =>
    cases hq
    exact rx_stepC (ins := .invokevirtual 78) (len := 3) (i' := 6) (M' := rxM53) (d := (rxCLGN 9).2.2.2.1) (as := [.inr (3, (0, 451)), .inr (0, (11, 0)), .inr (0, (12, 0)), .inr (0, (13, 0))]) (t := []) (ct := (rxCLEX 8)) hPX hF rfl hA hH0 hmc hms hd hdl (by decide +kernel) rfl rfl (by decide +kernel) (by decide +kernel) hQLEX (by decide +kernel) rfl (Or.inl ⟨rfl, rfl, rfl⟩) (rxsLGN_5 hP)
  | 6, hq =>
    cases hq
    exact absurd (show false = true from hus) Bool.false_ne_true
  | 7, hq =>
    cases hq
    exact absurd (show false = true from hus) Bool.false_ne_true
  | 8, hq =>
    cases hq
    exact rx_stepC (ins := .invokevirtual 78) (len := 3) (i' := 9) (M' := rxM53) (d := (rxCLGN 9).2.2.2.1) (as := [.inr (3, (0, 451)), .inr (0, (12, 0)), .inr (0, (13, 0)), .inr (0, (14, 0))]) (t := []) (ct := (rxCLEX 8)) hPX hF rfl hA hH0 hmc hms hd hdl (by decide +kernel) rfl rfl (by decide +kernel) (by decide +kernel) hQLEX (by decide +kernel) rfl (Or.inl ⟨rfl, rfl, rfl⟩) (rxsLGN_8 hP)
  | 9, hq =>
    cases hq
    exact absurd (show false = true from hus) Bool.false_ne_true
  | n + 10, hq => cases hq
theorem rxQLGN_9 {PX : State → Prop} {Dg : va_G} {A : Nat → Prop} {ad xa : Nat → Nat} {l : Launch} {X : (Nat → Int → Int) → Prop} (hPX : rx_PXOK rxNW A PX) (hsl : ∀ s : State, PX s → ∀ o idx n : Nat, rxSl o idx = some n → ∃ tx : String, vk_R (rxNm o) idx tx (ad n) s)
    (hX : ∀ S S' : Nat → Int → Int, X S → bx_same rxL (bx_mdl (rxCLGN 9).2.2.1) S S' → X S')
    (ih : ∀ (j2 : Nat) (ct2 : bx_Ct) (M2 : rx_Mt), ct2 ∈ rxCnE j2 → ct2.2.2.2.1 + 1 ≤ (rxCLGN 9).2.2.2.1 → rxT.2.2.2.2.2 j2 = some M2 → bx_Con rxG rxNW rxAO PX Dg rxL X vwCl A ad l M2 ct2) (hQLER : bx_ConP rxG rxNW rxAO PX Dg rxL X vwCl A ad l rxM56 rxCLER rxPLER rxPSLER) (hQLEX : bx_ConP rxG rxNW rxAO PX Dg rxL X vwCl A ad l rxM53 (rxCLEX 8) (rxPLEX 8) rxPSLEX) : bx_ConP rxG rxNW rxAO PX Dg rxL X vwCl A ad l rxM55 (rxCLGN 9) (rxPLGN 9) rxPSLGN :=
  rxQof (xa := xa) (Cn := rxCnE) (f := 30000) (j := 55) (tab := rxYLGN) (us := rxULGN) hPX hsl hX ih rfl rxYcLGN_9 rxILGN rxmLGN
    (fun S0 ws r I0 I ht0 ht as he he1 hX0 hI0 hP hs ha => by
      have e := he.symm.trans (show bx_ent0 rxNP (rxCLGN 9).1 bx_I0 [] = some ([(0, 0), (0, 0), (0, 0), (0, 0), (0, 0), (0, 0), (0, 0), (0, 0), (0, 11), (0, 17), (1, 3)], [], [.inr (3, (0, 451)), .inr (0, (8, 0)), .inr (0, (9, 0)), .inr (0, (10, 0))]) from rfl)
      cases e
      subst ha
      have h0 : r 0 = 0 := hs.1
      show rxILGN_0 S0 _ S0 (r 8) (r 9) (r 10)
      refine ⟨rfl, ?_⟩
      simp only [List.map_cons, List.map_nil, bx_xv_ok h0]
      rfl)
    (fun S0 ws hP => rxuLGN_9 (xa := xa) hPX hX hQLER hQLEX hP) (fun S0 ws hP => rxgCLGN hP) (fun S0 ws hP => rxgELGN hP)
set_option maxRecDepth 100000 in
theorem rxYcLEX_9 : bx_chkH rxYBLEX rxM53 (rxCLEX 9) rxYLEX (rxULEX, fun cut z => rx_ex2 (rxCT rxYBLEX rxCnE) cut 30000 (rxCLEX 9).2.2.2.1 53 z) = true := by decide +kernel
theorem rxuLEX_9 {PX : State → Prop} {Dg : va_G} {A : Nat → Prop} {ad xa : Nat → Nat} {l : Launch} {X : (Nat → Int → Int) → Prop} (hPX : rx_PXOK rxNW A PX) (hX : ∀ S S1 : Nat → Int → Int, X S → bx_same rxL (bx_mdl (rxCLEX 9).2.2.1) S S1 → X S1) (hQLWH : bx_ConP rxG rxNW rxAO PX Dg rxL X vwCl A ad l rxM54 rxCLWH rxPLWH rxPSLWH) (hQLRA : bx_ConP rxG rxNW rxAO PX Dg rxL X vwCl A ad l rxM1 rxCLRA rxPLRA rxPSLRA) (hQLGN : bx_ConP rxG rxNW rxAO PX Dg rxL X vwCl A ad l rxM55 (rxCLGN 9) (rxPLGN 9) rxPSLGN) {S0 : Nat → Int → Int} {ws : List Int} (hP : (rxPLEX 9) S0 ws) : ∀ (i : Nat) (q : bx_HE), rxYLEX[i]? = some q → rxULEX q = true → ∀ {p : Program} {e : Env} {R : Room} {s : State} {m : MethodId} {args : Array Value} {below : List Frame} {meth : Method} {c : Code} {Q : State → Prop} {H0 : Heap}, rx_Fr rxG rxNW rxAO PX p s m args meth c rxM53 → (∀ q, H0.size ≤ q → A q) → H0 = s.heap → rxM53.2.2.2.2.2.2.1 ≤ R.cells → rxM53.2.2.2.2.2.2.2 ≤ R.slots → (rxCLEX 9).2.2.2.1 ≤ R.frames → (rxCLEX 9).2.2.2.1 * 40 ≤ R.locals → bx_Step p l e R s m args below meth c Q Dg rxL X vwCl A xa H0 ad rxM53 rxYLEX (rxILEX S0 ws) (rxmLEX S0 ws) S0 (rxCLEX 9).2.2.1 i q := by
  intro i q hq hus p e R s m args below meth c Q H0 hF hA hH0 hmc hms hd hdl
  match i, hq with
  | 0, hq =>
    cases hq
    exact absurd (show false = true from hus) Bool.false_ne_true
  | 1, hq =>
    cases hq
    exact absurd (show false = true from hus) Bool.false_ne_true
  | 2, hq =>
    cases hq
    exact rx_stepC (ins := .invokevirtual 82) (len := 3) (i' := 3) (M' := rxM54) (d := (rxCLEX 9).2.2.2.1) (as := [.inr (3, (0, 451))]) (t := [.inr (0, (11, 0)), .inr (3, (0, 451))]) (ct := rxCLWH) hPX hF rfl hA hH0 hmc hms hd hdl (by decide +kernel) rfl rfl (by decide +kernel) (by decide +kernel) hQLWH (by decide +kernel) rfl (Or.inr ⟨_, _, _, 1, rfl, rfl, by omega, rfl, rfl, rfl⟩) (rxsLEX_2 hP)
  | 3, hq =>
    cases hq
    exact rx_stepB (i' := 4) (o := 6) (a := (11, 0)) (b := (12, 0)) (lo := 0) (hi := 1023) (t := [.inr (3, (0, 451))]) hF (Or.inr (Or.inr (Or.inr ⟨rfl, rfl⟩))) (by decide +kernel) rfl rfl rfl rfl (rxsLEX_3 hP)
  | 4, hq =>
    cases hq
    exact absurd (show false = true from hus) Bool.false_ne_true
  | 5, hq =>
    cases hq
    exact rx_stepC (ins := .invokestatic 86) (len := 3) (i' := 6) (M' := rxM1) (d := (rxCLEX 9).2.2.2.1) (as := [.inr (0, (11, 0)), .inr (0, (12, 0))]) (t := []) (ct := rxCLRA) hPX hF rfl hA hH0 hmc hms hd hdl (by decide +kernel) rfl rfl (by decide +kernel) (by decide +kernel) hQLRA (by decide +kernel) rfl (Or.inr ⟨_, _, _, 1, rfl, rfl, by omega, rfl, rfl, rfl⟩) (rxsLEX_5 hP)
  | 6, hq =>
    cases hq
    exact absurd (show false = true from hus) Bool.false_ne_true
  | 7, hq =>
    cases hq
    exact absurd (show false = true from hus) Bool.false_ne_true
  | 8, hq =>
    cases hq
    exact rx_stepC (ins := .invokevirtual 89) (len := 3) (i' := 9) (M' := rxM55) (d := (rxCLEX 9).2.2.2.1) (as := [.inr (3, (0, 451)), .inr (0, (13, 0)), .inr (0, (14, 0)), .inr (0, (15, 0))]) (t := []) (ct := (rxCLGN 9)) hPX hF rfl hA hH0 hmc hms hd hdl (by decide +kernel) rfl rfl (by decide +kernel) (by decide +kernel) hQLGN (by decide +kernel) rfl (Or.inl ⟨rfl, rfl, rfl⟩) (rxsLEX_8 hP)
  | 9, hq =>
    cases hq
    exact absurd (show false = true from hus) Bool.false_ne_true
  | n + 10, hq => cases hq
theorem rxQLEX_9 {PX : State → Prop} {Dg : va_G} {A : Nat → Prop} {ad xa : Nat → Nat} {l : Launch} {X : (Nat → Int → Int) → Prop} (hPX : rx_PXOK rxNW A PX) (hsl : ∀ s : State, PX s → ∀ o idx n : Nat, rxSl o idx = some n → ∃ tx : String, vk_R (rxNm o) idx tx (ad n) s)
    (hX : ∀ S S' : Nat → Int → Int, X S → bx_same rxL (bx_mdl (rxCLEX 9).2.2.1) S S' → X S')
    (ih : ∀ (j2 : Nat) (ct2 : bx_Ct) (M2 : rx_Mt), ct2 ∈ rxCnE j2 → ct2.2.2.2.1 + 1 ≤ (rxCLEX 9).2.2.2.1 → rxT.2.2.2.2.2 j2 = some M2 → bx_Con rxG rxNW rxAO PX Dg rxL X vwCl A ad l M2 ct2) (hQLWH : bx_ConP rxG rxNW rxAO PX Dg rxL X vwCl A ad l rxM54 rxCLWH rxPLWH rxPSLWH) (hQLRA : bx_ConP rxG rxNW rxAO PX Dg rxL X vwCl A ad l rxM1 rxCLRA rxPLRA rxPSLRA) (hQLGN : bx_ConP rxG rxNW rxAO PX Dg rxL X vwCl A ad l rxM55 (rxCLGN 9) (rxPLGN 9) rxPSLGN) : bx_ConP rxG rxNW rxAO PX Dg rxL X vwCl A ad l rxM53 (rxCLEX 9) (rxPLEX 9) rxPSLEX :=
  rxQof (xa := xa) (Cn := rxCnE) (f := 30000) (j := 53) (tab := rxYLEX) (us := rxULEX) hPX hsl hX ih rfl rxYcLEX_9 rxILEX rxmLEX
    (fun S0 ws r I0 I ht0 ht as he he1 hX0 hI0 hP hs ha => by
      have e := he.symm.trans (show bx_ent0 rxNP (rxCLEX 9).1 bx_I0 [] = some ([(0, 0), (0, 0), (0, 0), (0, 0), (0, 0), (0, 0), (0, 0), (0, 0), (0, 12), (0, 2), (1, 3)], [], [.inr (3, (0, 451)), .inr (0, (8, 0)), .inr (0, (9, 0)), .inr (0, (10, 0))]) from rfl)
      cases e
      subst ha
      have h0 : r 0 = 0 := hs.1
      show rxILEX_0 S0 _ S0 (r 8) (r 9) (r 10)
      refine ⟨rfl, ?_⟩
      simp only [List.map_cons, List.map_nil, bx_xv_ok h0]
      rfl)
    (fun S0 ws hP => rxuLEX_9 (xa := xa) hPX hX hQLWH hQLRA hQLGN hP) (fun S0 ws hP => rxgCLEX hP) (fun S0 ws hP => rxgELEX hP)
set_option maxRecDepth 100000 in
theorem rxYcLGN_10 : bx_chkH rxYBLGN rxM55 (rxCLGN 10) rxYLGN (rxULGN, fun cut z => rx_ex2 (rxCT rxYBLGN rxCnE) cut 30000 (rxCLGN 10).2.2.2.1 55 z) = true := by decide +kernel
theorem rxuLGN_10 {PX : State → Prop} {Dg : va_G} {A : Nat → Prop} {ad xa : Nat → Nat} {l : Launch} {X : (Nat → Int → Int) → Prop} (hPX : rx_PXOK rxNW A PX) (hX : ∀ S S1 : Nat → Int → Int, X S → bx_same rxL (bx_mdl (rxCLGN 10).2.2.1) S S1 → X S1) (hQLER : bx_ConP rxG rxNW rxAO PX Dg rxL X vwCl A ad l rxM56 rxCLER rxPLER rxPSLER) (hQLEX : bx_ConP rxG rxNW rxAO PX Dg rxL X vwCl A ad l rxM53 (rxCLEX 9) (rxPLEX 9) rxPSLEX) {S0 : Nat → Int → Int} {ws : List Int} (hP : (rxPLGN 10) S0 ws) : ∀ (i : Nat) (q : bx_HE), rxYLGN[i]? = some q → rxULGN q = true → ∀ {p : Program} {e : Env} {R : Room} {s : State} {m : MethodId} {args : Array Value} {below : List Frame} {meth : Method} {c : Code} {Q : State → Prop} {H0 : Heap}, rx_Fr rxG rxNW rxAO PX p s m args meth c rxM55 → (∀ q, H0.size ≤ q → A q) → H0 = s.heap → rxM55.2.2.2.2.2.2.1 ≤ R.cells → rxM55.2.2.2.2.2.2.2 ≤ R.slots → (rxCLGN 10).2.2.2.1 ≤ R.frames → (rxCLGN 10).2.2.2.1 * 40 ≤ R.locals → bx_Step p l e R s m args below meth c Q Dg rxL X vwCl A xa H0 ad rxM55 rxYLGN (rxILGN S0 ws) (rxmLGN S0 ws) S0 (rxCLGN 10).2.2.1 i q := by
  intro i q hq hus p e R s m args below meth c Q H0 hF hA hH0 hmc hms hd hdl
  match i, hq with
  | 0, hq =>
    cases hq
    exact absurd (show false = true from hus) Bool.false_ne_true
  | 1, hq =>
    cases hq
    exact rx_stepC (ins := .invokevirtual 92) (len := 3) (i' := 2) (M' := rxM56) (d := (rxCLGN 10).2.2.2.1) (as := [.inr (3, (0, 451)), .inr (0, (11, 0))]) (t := []) (ct := rxCLER) hPX hF rfl hA hH0 hmc hms hd hdl (by decide +kernel) rfl rfl (by decide +kernel) (by decide +kernel) hQLER (by decide +kernel) rfl (Or.inr ⟨_, _, _, 1, rfl, rfl, by omega, rfl, rfl, rfl⟩) (rxsLGN_1 hP)
  | 2, hq =>
    cases hq
    exact absurd (show false = true from hus) Bool.false_ne_true
  | 3, hq =>
    cases hq
    exact rx_stepC (ins := .invokevirtual 92) (len := 3) (i' := 4) (M' := rxM56) (d := (rxCLGN 10).2.2.2.1) (as := [.inr (3, (0, 451)), .inr (0, (12, 0))]) (t := [.inr (0, (11, 0)), .inr (3, (0, 451))]) (ct := rxCLER) hPX hF rfl hA hH0 hmc hms hd hdl (by decide +kernel) rfl rfl (by decide +kernel) (by decide +kernel) hQLER (by decide +kernel) rfl (Or.inr ⟨_, _, _, 1, rfl, rfl, by omega, rfl, rfl, rfl⟩) (rxsLGN_3 hP)
  | 4, hq =>
    cases hq
    exact absurd (show false = true from hus) Bool.false_ne_true
  | 5, hq =>
    cases hq
    exact rx_stepC (ins := .invokevirtual 78) (len := 3) (i' := 6) (M' := rxM53) (d := (rxCLGN 10).2.2.2.1) (as := [.inr (3, (0, 451)), .inr (0, (11, 0)), .inr (0, (12, 0)), .inr (0, (13, 0))]) (t := []) (ct := (rxCLEX 9)) hPX hF rfl hA hH0 hmc hms hd hdl (by decide +kernel) rfl rfl (by decide +kernel) (by decide +kernel) hQLEX (by decide +kernel) rfl (Or.inl ⟨rfl, rfl, rfl⟩) (rxsLGN_5 hP)
  | 6, hq =>
    cases hq
    exact absurd (show false = true from hus) Bool.false_ne_true
  | 7, hq =>
    cases hq
    exact absurd (show false = true from hus) Bool.false_ne_true
  | 8, hq =>
    cases hq
    exact rx_stepC (ins := .invokevirtual 78) (len := 3) (i' := 9) (M' := rxM53) (d := (rxCLGN 10).2.2.2.1) (as := [.inr (3, (0, 451)), .inr (0, (12, 0)), .inr (0, (13, 0)), .inr (0, (14, 0))]) (t := []) (ct := (rxCLEX 9)) hPX hF rfl hA hH0 hmc hms hd hdl (by decide +kernel) rfl rfl (by decide +kernel) (by decide +kernel) hQLEX (by decide +kernel) rfl (Or.inl ⟨rfl, rfl, rfl⟩) (rxsLGN_8 hP)
  | 9, hq =>
    cases hq
    exact absurd (show false = true from hus) Bool.false_ne_true
  | n + 10, hq => cases hq
theorem rxQLGN_10 {PX : State → Prop} {Dg : va_G} {A : Nat → Prop} {ad xa : Nat → Nat} {l : Launch} {X : (Nat → Int → Int) → Prop} (hPX : rx_PXOK rxNW A PX) (hsl : ∀ s : State, PX s → ∀ o idx n : Nat, rxSl o idx = some n → ∃ tx : String, vk_R (rxNm o) idx tx (ad n) s)
    (hX : ∀ S S' : Nat → Int → Int, X S → bx_same rxL (bx_mdl (rxCLGN 10).2.2.1) S S' → X S')
    (ih : ∀ (j2 : Nat) (ct2 : bx_Ct) (M2 : rx_Mt), ct2 ∈ rxCnE j2 → ct2.2.2.2.1 + 1 ≤ (rxCLGN 10).2.2.2.1 → rxT.2.2.2.2.2 j2 = some M2 → bx_Con rxG rxNW rxAO PX Dg rxL X vwCl A ad l M2 ct2) (hQLER : bx_ConP rxG rxNW rxAO PX Dg rxL X vwCl A ad l rxM56 rxCLER rxPLER rxPSLER) (hQLEX : bx_ConP rxG rxNW rxAO PX Dg rxL X vwCl A ad l rxM53 (rxCLEX 9) (rxPLEX 9) rxPSLEX) : bx_ConP rxG rxNW rxAO PX Dg rxL X vwCl A ad l rxM55 (rxCLGN 10) (rxPLGN 10) rxPSLGN :=
  rxQof (xa := xa) (Cn := rxCnE) (f := 30000) (j := 55) (tab := rxYLGN) (us := rxULGN) hPX hsl hX ih rfl rxYcLGN_10 rxILGN rxmLGN
    (fun S0 ws r I0 I ht0 ht as he he1 hX0 hI0 hP hs ha => by
      have e := he.symm.trans (show bx_ent0 rxNP (rxCLGN 10).1 bx_I0 [] = some ([(0, 0), (0, 0), (0, 0), (0, 0), (0, 0), (0, 0), (0, 0), (0, 0), (0, 11), (0, 17), (1, 3)], [], [.inr (3, (0, 451)), .inr (0, (8, 0)), .inr (0, (9, 0)), .inr (0, (10, 0))]) from rfl)
      cases e
      subst ha
      have h0 : r 0 = 0 := hs.1
      show rxILGN_0 S0 _ S0 (r 8) (r 9) (r 10)
      refine ⟨rfl, ?_⟩
      simp only [List.map_cons, List.map_nil, bx_xv_ok h0]
      rfl)
    (fun S0 ws hP => rxuLGN_10 (xa := xa) hPX hX hQLER hQLEX hP) (fun S0 ws hP => rxgCLGN hP) (fun S0 ws hP => rxgELGN hP)
set_option maxRecDepth 100000 in
theorem rxYcLEX_10 : bx_chkH rxYBLEX rxM53 (rxCLEX 10) rxYLEX (rxULEX, fun cut z => rx_ex2 (rxCT rxYBLEX rxCnE) cut 30000 (rxCLEX 10).2.2.2.1 53 z) = true := by decide +kernel
theorem rxuLEX_10 {PX : State → Prop} {Dg : va_G} {A : Nat → Prop} {ad xa : Nat → Nat} {l : Launch} {X : (Nat → Int → Int) → Prop} (hPX : rx_PXOK rxNW A PX) (hX : ∀ S S1 : Nat → Int → Int, X S → bx_same rxL (bx_mdl (rxCLEX 10).2.2.1) S S1 → X S1) (hQLWH : bx_ConP rxG rxNW rxAO PX Dg rxL X vwCl A ad l rxM54 rxCLWH rxPLWH rxPSLWH) (hQLRA : bx_ConP rxG rxNW rxAO PX Dg rxL X vwCl A ad l rxM1 rxCLRA rxPLRA rxPSLRA) (hQLGN : bx_ConP rxG rxNW rxAO PX Dg rxL X vwCl A ad l rxM55 (rxCLGN 10) (rxPLGN 10) rxPSLGN) {S0 : Nat → Int → Int} {ws : List Int} (hP : (rxPLEX 10) S0 ws) : ∀ (i : Nat) (q : bx_HE), rxYLEX[i]? = some q → rxULEX q = true → ∀ {p : Program} {e : Env} {R : Room} {s : State} {m : MethodId} {args : Array Value} {below : List Frame} {meth : Method} {c : Code} {Q : State → Prop} {H0 : Heap}, rx_Fr rxG rxNW rxAO PX p s m args meth c rxM53 → (∀ q, H0.size ≤ q → A q) → H0 = s.heap → rxM53.2.2.2.2.2.2.1 ≤ R.cells → rxM53.2.2.2.2.2.2.2 ≤ R.slots → (rxCLEX 10).2.2.2.1 ≤ R.frames → (rxCLEX 10).2.2.2.1 * 40 ≤ R.locals → bx_Step p l e R s m args below meth c Q Dg rxL X vwCl A xa H0 ad rxM53 rxYLEX (rxILEX S0 ws) (rxmLEX S0 ws) S0 (rxCLEX 10).2.2.1 i q := by
  intro i q hq hus p e R s m args below meth c Q H0 hF hA hH0 hmc hms hd hdl
  match i, hq with
  | 0, hq =>
    cases hq
    exact absurd (show false = true from hus) Bool.false_ne_true
  | 1, hq =>
    cases hq
    exact absurd (show false = true from hus) Bool.false_ne_true
  | 2, hq =>
    cases hq
    exact rx_stepC (ins := .invokevirtual 82) (len := 3) (i' := 3) (M' := rxM54) (d := (rxCLEX 10).2.2.2.1) (as := [.inr (3, (0, 451))]) (t := [.inr (0, (11, 0)), .inr (3, (0, 451))]) (ct := rxCLWH) hPX hF rfl hA hH0 hmc hms hd hdl (by decide +kernel) rfl rfl (by decide +kernel) (by decide +kernel) hQLWH (by decide +kernel) rfl (Or.inr ⟨_, _, _, 1, rfl, rfl, by omega, rfl, rfl, rfl⟩) (rxsLEX_2 hP)
  | 3, hq =>
    cases hq
    exact rx_stepB (i' := 4) (o := 6) (a := (11, 0)) (b := (12, 0)) (lo := 0) (hi := 1023) (t := [.inr (3, (0, 451))]) hF (Or.inr (Or.inr (Or.inr ⟨rfl, rfl⟩))) (by decide +kernel) rfl rfl rfl rfl (rxsLEX_3 hP)
  | 4, hq =>
    cases hq
    exact absurd (show false = true from hus) Bool.false_ne_true
  | 5, hq =>
    cases hq
    exact rx_stepC (ins := .invokestatic 86) (len := 3) (i' := 6) (M' := rxM1) (d := (rxCLEX 10).2.2.2.1) (as := [.inr (0, (11, 0)), .inr (0, (12, 0))]) (t := []) (ct := rxCLRA) hPX hF rfl hA hH0 hmc hms hd hdl (by decide +kernel) rfl rfl (by decide +kernel) (by decide +kernel) hQLRA (by decide +kernel) rfl (Or.inr ⟨_, _, _, 1, rfl, rfl, by omega, rfl, rfl, rfl⟩) (rxsLEX_5 hP)
  | 6, hq =>
    cases hq
    exact absurd (show false = true from hus) Bool.false_ne_true
  | 7, hq =>
    cases hq
    exact absurd (show false = true from hus) Bool.false_ne_true
  | 8, hq =>
    cases hq
    exact rx_stepC (ins := .invokevirtual 89) (len := 3) (i' := 9) (M' := rxM55) (d := (rxCLEX 10).2.2.2.1) (as := [.inr (3, (0, 451)), .inr (0, (13, 0)), .inr (0, (14, 0)), .inr (0, (15, 0))]) (t := []) (ct := (rxCLGN 10)) hPX hF rfl hA hH0 hmc hms hd hdl (by decide +kernel) rfl rfl (by decide +kernel) (by decide +kernel) hQLGN (by decide +kernel) rfl (Or.inl ⟨rfl, rfl, rfl⟩) (rxsLEX_8 hP)
  | 9, hq =>
    cases hq
    exact absurd (show false = true from hus) Bool.false_ne_true
  | n + 10, hq => cases hq
theorem rxQLEX_10 {PX : State → Prop} {Dg : va_G} {A : Nat → Prop} {ad xa : Nat → Nat} {l : Launch} {X : (Nat → Int → Int) → Prop} (hPX : rx_PXOK rxNW A PX) (hsl : ∀ s : State, PX s → ∀ o idx n : Nat, rxSl o idx = some n → ∃ tx : String, vk_R (rxNm o) idx tx (ad n) s)
    (hX : ∀ S S' : Nat → Int → Int, X S → bx_same rxL (bx_mdl (rxCLEX 10).2.2.1) S S' → X S')
    (ih : ∀ (j2 : Nat) (ct2 : bx_Ct) (M2 : rx_Mt), ct2 ∈ rxCnE j2 → ct2.2.2.2.1 + 1 ≤ (rxCLEX 10).2.2.2.1 → rxT.2.2.2.2.2 j2 = some M2 → bx_Con rxG rxNW rxAO PX Dg rxL X vwCl A ad l M2 ct2) (hQLWH : bx_ConP rxG rxNW rxAO PX Dg rxL X vwCl A ad l rxM54 rxCLWH rxPLWH rxPSLWH) (hQLRA : bx_ConP rxG rxNW rxAO PX Dg rxL X vwCl A ad l rxM1 rxCLRA rxPLRA rxPSLRA) (hQLGN : bx_ConP rxG rxNW rxAO PX Dg rxL X vwCl A ad l rxM55 (rxCLGN 10) (rxPLGN 10) rxPSLGN) : bx_ConP rxG rxNW rxAO PX Dg rxL X vwCl A ad l rxM53 (rxCLEX 10) (rxPLEX 10) rxPSLEX :=
  rxQof (xa := xa) (Cn := rxCnE) (f := 30000) (j := 53) (tab := rxYLEX) (us := rxULEX) hPX hsl hX ih rfl rxYcLEX_10 rxILEX rxmLEX
    (fun S0 ws r I0 I ht0 ht as he he1 hX0 hI0 hP hs ha => by
      have e := he.symm.trans (show bx_ent0 rxNP (rxCLEX 10).1 bx_I0 [] = some ([(0, 0), (0, 0), (0, 0), (0, 0), (0, 0), (0, 0), (0, 0), (0, 0), (0, 12), (0, 2), (1, 3)], [], [.inr (3, (0, 451)), .inr (0, (8, 0)), .inr (0, (9, 0)), .inr (0, (10, 0))]) from rfl)
      cases e
      subst ha
      have h0 : r 0 = 0 := hs.1
      show rxILEX_0 S0 _ S0 (r 8) (r 9) (r 10)
      refine ⟨rfl, ?_⟩
      simp only [List.map_cons, List.map_nil, bx_xv_ok h0]
      rfl)
    (fun S0 ws hP => rxuLEX_10 (xa := xa) hPX hX hQLWH hQLRA hQLGN hP) (fun S0 ws hP => rxgCLEX hP) (fun S0 ws hP => rxgELEX hP)
set_option maxRecDepth 100000 in
theorem rxYcLGN_11 : bx_chkH rxYBLGN rxM55 (rxCLGN 11) rxYLGN (rxULGN, fun cut z => rx_ex2 (rxCT rxYBLGN rxCnE) cut 30000 (rxCLGN 11).2.2.2.1 55 z) = true := by decide +kernel
theorem rxuLGN_11 {PX : State → Prop} {Dg : va_G} {A : Nat → Prop} {ad xa : Nat → Nat} {l : Launch} {X : (Nat → Int → Int) → Prop} (hPX : rx_PXOK rxNW A PX) (hX : ∀ S S1 : Nat → Int → Int, X S → bx_same rxL (bx_mdl (rxCLGN 11).2.2.1) S S1 → X S1) (hQLER : bx_ConP rxG rxNW rxAO PX Dg rxL X vwCl A ad l rxM56 rxCLER rxPLER rxPSLER) (hQLEX : bx_ConP rxG rxNW rxAO PX Dg rxL X vwCl A ad l rxM53 (rxCLEX 10) (rxPLEX 10) rxPSLEX) {S0 : Nat → Int → Int} {ws : List Int} (hP : (rxPLGN 11) S0 ws) : ∀ (i : Nat) (q : bx_HE), rxYLGN[i]? = some q → rxULGN q = true → ∀ {p : Program} {e : Env} {R : Room} {s : State} {m : MethodId} {args : Array Value} {below : List Frame} {meth : Method} {c : Code} {Q : State → Prop} {H0 : Heap}, rx_Fr rxG rxNW rxAO PX p s m args meth c rxM55 → (∀ q, H0.size ≤ q → A q) → H0 = s.heap → rxM55.2.2.2.2.2.2.1 ≤ R.cells → rxM55.2.2.2.2.2.2.2 ≤ R.slots → (rxCLGN 11).2.2.2.1 ≤ R.frames → (rxCLGN 11).2.2.2.1 * 40 ≤ R.locals → bx_Step p l e R s m args below meth c Q Dg rxL X vwCl A xa H0 ad rxM55 rxYLGN (rxILGN S0 ws) (rxmLGN S0 ws) S0 (rxCLGN 11).2.2.1 i q := by
  intro i q hq hus p e R s m args below meth c Q H0 hF hA hH0 hmc hms hd hdl
  match i, hq with
  | 0, hq =>
    cases hq
    exact absurd (show false = true from hus) Bool.false_ne_true
  | 1, hq =>
    cases hq
    exact rx_stepC (ins := .invokevirtual 92) (len := 3) (i' := 2) (M' := rxM56) (d := (rxCLGN 11).2.2.2.1) (as := [.inr (3, (0, 451)), .inr (0, (11, 0))]) (t := []) (ct := rxCLER) hPX hF rfl hA hH0 hmc hms hd hdl (by decide +kernel) rfl rfl (by decide +kernel) (by decide +kernel) hQLER (by decide +kernel) rfl (Or.inr ⟨_, _, _, 1, rfl, rfl, by omega, rfl, rfl, rfl⟩) (rxsLGN_1 hP)
  | 2, hq =>
    cases hq
    exact absurd (show false = true from hus) Bool.false_ne_true
  | 3, hq =>
    cases hq
    exact rx_stepC (ins := .invokevirtual 92) (len := 3) (i' := 4) (M' := rxM56) (d := (rxCLGN 11).2.2.2.1) (as := [.inr (3, (0, 451)), .inr (0, (12, 0))]) (t := [.inr (0, (11, 0)), .inr (3, (0, 451))]) (ct := rxCLER) hPX hF rfl hA hH0 hmc hms hd hdl (by decide +kernel) rfl rfl (by decide +kernel) (by decide +kernel) hQLER (by decide +kernel) rfl (Or.inr ⟨_, _, _, 1, rfl, rfl, by omega, rfl, rfl, rfl⟩) (rxsLGN_3 hP)
  | 4, hq =>
    cases hq
    exact absurd (show false = true from hus) Bool.false_ne_true
  | 5, hq =>
    cases hq
    exact rx_stepC (ins := .invokevirtual 78) (len := 3) (i' := 6) (M' := rxM53) (d := (rxCLGN 11).2.2.2.1) (as := [.inr (3, (0, 451)), .inr (0, (11, 0)), .inr (0, (12, 0)), .inr (0, (13, 0))]) (t := []) (ct := (rxCLEX 10)) hPX hF rfl hA hH0 hmc hms hd hdl (by decide +kernel) rfl rfl (by decide +kernel) (by decide +kernel) hQLEX (by decide +kernel) rfl (Or.inl ⟨rfl, rfl, rfl⟩) (rxsLGN_5 hP)
  | 6, hq =>
    cases hq
    exact absurd (show false = true from hus) Bool.false_ne_true
  | 7, hq =>
    cases hq
    exact absurd (show false = true from hus) Bool.false_ne_true
  | 8, hq =>
    cases hq
    exact rx_stepC (ins := .invokevirtual 78) (len := 3) (i' := 9) (M' := rxM53) (d := (rxCLGN 11).2.2.2.1) (as := [.inr (3, (0, 451)), .inr (0, (12, 0)), .inr (0, (13, 0)), .inr (0, (14, 0))]) (t := []) (ct := (rxCLEX 10)) hPX hF rfl hA hH0 hmc hms hd hdl (by decide +kernel) rfl rfl (by decide +kernel) (by decide +kernel) hQLEX (by decide +kernel) rfl (Or.inl ⟨rfl, rfl, rfl⟩) (rxsLGN_8 hP)
  | 9, hq =>
    cases hq
    exact absurd (show false = true from hus) Bool.false_ne_true
  | n + 10, hq => cases hq
theorem rxQLGN_11 {PX : State → Prop} {Dg : va_G} {A : Nat → Prop} {ad xa : Nat → Nat} {l : Launch} {X : (Nat → Int → Int) → Prop} (hPX : rx_PXOK rxNW A PX) (hsl : ∀ s : State, PX s → ∀ o idx n : Nat, rxSl o idx = some n → ∃ tx : String, vk_R (rxNm o) idx tx (ad n) s)
    (hX : ∀ S S' : Nat → Int → Int, X S → bx_same rxL (bx_mdl (rxCLGN 11).2.2.1) S S' → X S')
    (ih : ∀ (j2 : Nat) (ct2 : bx_Ct) (M2 : rx_Mt), ct2 ∈ rxCnE j2 → ct2.2.2.2.1 + 1 ≤ (rxCLGN 11).2.2.2.1 → rxT.2.2.2.2.2 j2 = some M2 → bx_Con rxG rxNW rxAO PX Dg rxL X vwCl A ad l M2 ct2) (hQLER : bx_ConP rxG rxNW rxAO PX Dg rxL X vwCl A ad l rxM56 rxCLER rxPLER rxPSLER) (hQLEX : bx_ConP rxG rxNW rxAO PX Dg rxL X vwCl A ad l rxM53 (rxCLEX 10) (rxPLEX 10) rxPSLEX) : bx_ConP rxG rxNW rxAO PX Dg rxL X vwCl A ad l rxM55 (rxCLGN 11) (rxPLGN 11) rxPSLGN :=
  rxQof (xa := xa) (Cn := rxCnE) (f := 30000) (j := 55) (tab := rxYLGN) (us := rxULGN) hPX hsl hX ih rfl rxYcLGN_11 rxILGN rxmLGN
    (fun S0 ws r I0 I ht0 ht as he he1 hX0 hI0 hP hs ha => by
      have e := he.symm.trans (show bx_ent0 rxNP (rxCLGN 11).1 bx_I0 [] = some ([(0, 0), (0, 0), (0, 0), (0, 0), (0, 0), (0, 0), (0, 0), (0, 0), (0, 11), (0, 17), (1, 3)], [], [.inr (3, (0, 451)), .inr (0, (8, 0)), .inr (0, (9, 0)), .inr (0, (10, 0))]) from rfl)
      cases e
      subst ha
      have h0 : r 0 = 0 := hs.1
      show rxILGN_0 S0 _ S0 (r 8) (r 9) (r 10)
      refine ⟨rfl, ?_⟩
      simp only [List.map_cons, List.map_nil, bx_xv_ok h0]
      rfl)
    (fun S0 ws hP => rxuLGN_11 (xa := xa) hPX hX hQLER hQLEX hP) (fun S0 ws hP => rxgCLGN hP) (fun S0 ws hP => rxgELGN hP)
set_option maxRecDepth 100000 in
theorem rxYcLEX_11 : bx_chkH rxYBLEX rxM53 (rxCLEX 11) rxYLEX (rxULEX, fun cut z => rx_ex2 (rxCT rxYBLEX rxCnE) cut 30000 (rxCLEX 11).2.2.2.1 53 z) = true := by decide +kernel
theorem rxuLEX_11 {PX : State → Prop} {Dg : va_G} {A : Nat → Prop} {ad xa : Nat → Nat} {l : Launch} {X : (Nat → Int → Int) → Prop} (hPX : rx_PXOK rxNW A PX) (hX : ∀ S S1 : Nat → Int → Int, X S → bx_same rxL (bx_mdl (rxCLEX 11).2.2.1) S S1 → X S1) (hQLWH : bx_ConP rxG rxNW rxAO PX Dg rxL X vwCl A ad l rxM54 rxCLWH rxPLWH rxPSLWH) (hQLRA : bx_ConP rxG rxNW rxAO PX Dg rxL X vwCl A ad l rxM1 rxCLRA rxPLRA rxPSLRA) (hQLGN : bx_ConP rxG rxNW rxAO PX Dg rxL X vwCl A ad l rxM55 (rxCLGN 11) (rxPLGN 11) rxPSLGN) {S0 : Nat → Int → Int} {ws : List Int} (hP : (rxPLEX 11) S0 ws) : ∀ (i : Nat) (q : bx_HE), rxYLEX[i]? = some q → rxULEX q = true → ∀ {p : Program} {e : Env} {R : Room} {s : State} {m : MethodId} {args : Array Value} {below : List Frame} {meth : Method} {c : Code} {Q : State → Prop} {H0 : Heap}, rx_Fr rxG rxNW rxAO PX p s m args meth c rxM53 → (∀ q, H0.size ≤ q → A q) → H0 = s.heap → rxM53.2.2.2.2.2.2.1 ≤ R.cells → rxM53.2.2.2.2.2.2.2 ≤ R.slots → (rxCLEX 11).2.2.2.1 ≤ R.frames → (rxCLEX 11).2.2.2.1 * 40 ≤ R.locals → bx_Step p l e R s m args below meth c Q Dg rxL X vwCl A xa H0 ad rxM53 rxYLEX (rxILEX S0 ws) (rxmLEX S0 ws) S0 (rxCLEX 11).2.2.1 i q := by
  intro i q hq hus p e R s m args below meth c Q H0 hF hA hH0 hmc hms hd hdl
  match i, hq with
  | 0, hq =>
    cases hq
    exact absurd (show false = true from hus) Bool.false_ne_true
  | 1, hq =>
    cases hq
    exact absurd (show false = true from hus) Bool.false_ne_true
  | 2, hq =>
    cases hq
    exact rx_stepC (ins := .invokevirtual 82) (len := 3) (i' := 3) (M' := rxM54) (d := (rxCLEX 11).2.2.2.1) (as := [.inr (3, (0, 451))]) (t := [.inr (0, (11, 0)), .inr (3, (0, 451))]) (ct := rxCLWH) hPX hF rfl hA hH0 hmc hms hd hdl (by decide +kernel) rfl rfl (by decide +kernel) (by decide +kernel) hQLWH (by decide +kernel) rfl (Or.inr ⟨_, _, _, 1, rfl, rfl, by omega, rfl, rfl, rfl⟩) (rxsLEX_2 hP)
  | 3, hq =>
    cases hq
    exact rx_stepB (i' := 4) (o := 6) (a := (11, 0)) (b := (12, 0)) (lo := 0) (hi := 1023) (t := [.inr (3, (0, 451))]) hF (Or.inr (Or.inr (Or.inr ⟨rfl, rfl⟩))) (by decide +kernel) rfl rfl rfl rfl (rxsLEX_3 hP)
  | 4, hq =>
    cases hq
    exact absurd (show false = true from hus) Bool.false_ne_true
  | 5, hq =>
    cases hq
    exact rx_stepC (ins := .invokestatic 86) (len := 3) (i' := 6) (M' := rxM1) (d := (rxCLEX 11).2.2.2.1) (as := [.inr (0, (11, 0)), .inr (0, (12, 0))]) (t := []) (ct := rxCLRA) hPX hF rfl hA hH0 hmc hms hd hdl (by decide +kernel) rfl rfl (by decide +kernel) (by decide +kernel) hQLRA (by decide +kernel) rfl (Or.inr ⟨_, _, _, 1, rfl, rfl, by omega, rfl, rfl, rfl⟩) (rxsLEX_5 hP)
  | 6, hq =>
    cases hq
    exact absurd (show false = true from hus) Bool.false_ne_true
  | 7, hq =>
    cases hq
    exact absurd (show false = true from hus) Bool.false_ne_true
  | 8, hq =>
    cases hq
    exact rx_stepC (ins := .invokevirtual 89) (len := 3) (i' := 9) (M' := rxM55) (d := (rxCLEX 11).2.2.2.1) (as := [.inr (3, (0, 451)), .inr (0, (13, 0)), .inr (0, (14, 0)), .inr (0, (15, 0))]) (t := []) (ct := (rxCLGN 11)) hPX hF rfl hA hH0 hmc hms hd hdl (by decide +kernel) rfl rfl (by decide +kernel) (by decide +kernel) hQLGN (by decide +kernel) rfl (Or.inl ⟨rfl, rfl, rfl⟩) (rxsLEX_8 hP)
  | 9, hq =>
    cases hq
    exact absurd (show false = true from hus) Bool.false_ne_true
  | n + 10, hq => cases hq
theorem rxQLEX_11 {PX : State → Prop} {Dg : va_G} {A : Nat → Prop} {ad xa : Nat → Nat} {l : Launch} {X : (Nat → Int → Int) → Prop} (hPX : rx_PXOK rxNW A PX) (hsl : ∀ s : State, PX s → ∀ o idx n : Nat, rxSl o idx = some n → ∃ tx : String, vk_R (rxNm o) idx tx (ad n) s)
    (hX : ∀ S S' : Nat → Int → Int, X S → bx_same rxL (bx_mdl (rxCLEX 11).2.2.1) S S' → X S')
    (ih : ∀ (j2 : Nat) (ct2 : bx_Ct) (M2 : rx_Mt), ct2 ∈ rxCnE j2 → ct2.2.2.2.1 + 1 ≤ (rxCLEX 11).2.2.2.1 → rxT.2.2.2.2.2 j2 = some M2 → bx_Con rxG rxNW rxAO PX Dg rxL X vwCl A ad l M2 ct2) (hQLWH : bx_ConP rxG rxNW rxAO PX Dg rxL X vwCl A ad l rxM54 rxCLWH rxPLWH rxPSLWH) (hQLRA : bx_ConP rxG rxNW rxAO PX Dg rxL X vwCl A ad l rxM1 rxCLRA rxPLRA rxPSLRA) (hQLGN : bx_ConP rxG rxNW rxAO PX Dg rxL X vwCl A ad l rxM55 (rxCLGN 11) (rxPLGN 11) rxPSLGN) : bx_ConP rxG rxNW rxAO PX Dg rxL X vwCl A ad l rxM53 (rxCLEX 11) (rxPLEX 11) rxPSLEX :=
  rxQof (xa := xa) (Cn := rxCnE) (f := 30000) (j := 53) (tab := rxYLEX) (us := rxULEX) hPX hsl hX ih rfl rxYcLEX_11 rxILEX rxmLEX
    (fun S0 ws r I0 I ht0 ht as he he1 hX0 hI0 hP hs ha => by
      have e := he.symm.trans (show bx_ent0 rxNP (rxCLEX 11).1 bx_I0 [] = some ([(0, 0), (0, 0), (0, 0), (0, 0), (0, 0), (0, 0), (0, 0), (0, 0), (0, 12), (0, 2), (1, 3)], [], [.inr (3, (0, 451)), .inr (0, (8, 0)), .inr (0, (9, 0)), .inr (0, (10, 0))]) from rfl)
      cases e
      subst ha
      have h0 : r 0 = 0 := hs.1
      show rxILEX_0 S0 _ S0 (r 8) (r 9) (r 10)
      refine ⟨rfl, ?_⟩
      simp only [List.map_cons, List.map_nil, bx_xv_ok h0]
      rfl)
    (fun S0 ws hP => rxuLEX_11 (xa := xa) hPX hX hQLWH hQLRA hQLGN hP) (fun S0 ws hP => rxgCLEX hP) (fun S0 ws hP => rxgELEX hP)
set_option maxRecDepth 100000 in
theorem rxYcLGN_12 : bx_chkH rxYBLGN rxM55 (rxCLGN 12) rxYLGN (rxULGN, fun cut z => rx_ex2 (rxCT rxYBLGN rxCnE) cut 30000 (rxCLGN 12).2.2.2.1 55 z) = true := by decide +kernel
theorem rxuLGN_12 {PX : State → Prop} {Dg : va_G} {A : Nat → Prop} {ad xa : Nat → Nat} {l : Launch} {X : (Nat → Int → Int) → Prop} (hPX : rx_PXOK rxNW A PX) (hX : ∀ S S1 : Nat → Int → Int, X S → bx_same rxL (bx_mdl (rxCLGN 12).2.2.1) S S1 → X S1) (hQLER : bx_ConP rxG rxNW rxAO PX Dg rxL X vwCl A ad l rxM56 rxCLER rxPLER rxPSLER) (hQLEX : bx_ConP rxG rxNW rxAO PX Dg rxL X vwCl A ad l rxM53 (rxCLEX 11) (rxPLEX 11) rxPSLEX) {S0 : Nat → Int → Int} {ws : List Int} (hP : (rxPLGN 12) S0 ws) : ∀ (i : Nat) (q : bx_HE), rxYLGN[i]? = some q → rxULGN q = true → ∀ {p : Program} {e : Env} {R : Room} {s : State} {m : MethodId} {args : Array Value} {below : List Frame} {meth : Method} {c : Code} {Q : State → Prop} {H0 : Heap}, rx_Fr rxG rxNW rxAO PX p s m args meth c rxM55 → (∀ q, H0.size ≤ q → A q) → H0 = s.heap → rxM55.2.2.2.2.2.2.1 ≤ R.cells → rxM55.2.2.2.2.2.2.2 ≤ R.slots → (rxCLGN 12).2.2.2.1 ≤ R.frames → (rxCLGN 12).2.2.2.1 * 40 ≤ R.locals → bx_Step p l e R s m args below meth c Q Dg rxL X vwCl A xa H0 ad rxM55 rxYLGN (rxILGN S0 ws) (rxmLGN S0 ws) S0 (rxCLGN 12).2.2.1 i q := by
  intro i q hq hus p e R s m args below meth c Q H0 hF hA hH0 hmc hms hd hdl
  match i, hq with
  | 0, hq =>
    cases hq
    exact absurd (show false = true from hus) Bool.false_ne_true
  | 1, hq =>
    cases hq
    exact rx_stepC (ins := .invokevirtual 92) (len := 3) (i' := 2) (M' := rxM56) (d := (rxCLGN 12).2.2.2.1) (as := [.inr (3, (0, 451)), .inr (0, (11, 0))]) (t := []) (ct := rxCLER) hPX hF rfl hA hH0 hmc hms hd hdl (by decide +kernel) rfl rfl (by decide +kernel) (by decide +kernel) hQLER (by decide +kernel) rfl (Or.inr ⟨_, _, _, 1, rfl, rfl, by omega, rfl, rfl, rfl⟩) (rxsLGN_1 hP)
  | 2, hq =>
    cases hq
    exact absurd (show false = true from hus) Bool.false_ne_true
  | 3, hq =>
    cases hq
    exact rx_stepC (ins := .invokevirtual 92) (len := 3) (i' := 4) (M' := rxM56) (d := (rxCLGN 12).2.2.2.1) (as := [.inr (3, (0, 451)), .inr (0, (12, 0))]) (t := [.inr (0, (11, 0)), .inr (3, (0, 451))]) (ct := rxCLER) hPX hF rfl hA hH0 hmc hms hd hdl (by decide +kernel) rfl rfl (by decide +kernel) (by decide +kernel) hQLER (by decide +kernel) rfl (Or.inr ⟨_, _, _, 1, rfl, rfl, by omega, rfl, rfl, rfl⟩) (rxsLGN_3 hP)
  | 4, hq =>
    cases hq
    exact absurd (show false = true from hus) Bool.false_ne_true
  | 5, hq =>
    cases hq
    exact rx_stepC (ins := .invokevirtual 78) (len := 3) (i' := 6) (M' := rxM53) (d := (rxCLGN 12).2.2.2.1) (as := [.inr (3, (0, 451)), .inr (0, (11, 0)), .inr (0, (12, 0)), .inr (0, (13, 0))]) (t := []) (ct := (rxCLEX 11)) hPX hF rfl hA hH0 hmc hms hd hdl (by decide +kernel) rfl rfl (by decide +kernel) (by decide +kernel) hQLEX (by decide +kernel) rfl (Or.inl ⟨rfl, rfl, rfl⟩) (rxsLGN_5 hP)
  | 6, hq =>
    cases hq
    exact absurd (show false = true from hus) Bool.false_ne_true
  | 7, hq =>
    cases hq
    exact absurd (show false = true from hus) Bool.false_ne_true
  | 8, hq =>
    cases hq
    exact rx_stepC (ins := .invokevirtual 78) (len := 3) (i' := 9) (M' := rxM53) (d := (rxCLGN 12).2.2.2.1) (as := [.inr (3, (0, 451)), .inr (0, (12, 0)), .inr (0, (13, 0)), .inr (0, (14, 0))]) (t := []) (ct := (rxCLEX 11)) hPX hF rfl hA hH0 hmc hms hd hdl (by decide +kernel) rfl rfl (by decide +kernel) (by decide +kernel) hQLEX (by decide +kernel) rfl (Or.inl ⟨rfl, rfl, rfl⟩) (rxsLGN_8 hP)
  | 9, hq =>
    cases hq
    exact absurd (show false = true from hus) Bool.false_ne_true
  | n + 10, hq => cases hq
theorem rxQLGN_12 {PX : State → Prop} {Dg : va_G} {A : Nat → Prop} {ad xa : Nat → Nat} {l : Launch} {X : (Nat → Int → Int) → Prop} (hPX : rx_PXOK rxNW A PX) (hsl : ∀ s : State, PX s → ∀ o idx n : Nat, rxSl o idx = some n → ∃ tx : String, vk_R (rxNm o) idx tx (ad n) s)
    (hX : ∀ S S' : Nat → Int → Int, X S → bx_same rxL (bx_mdl (rxCLGN 12).2.2.1) S S' → X S')
    (ih : ∀ (j2 : Nat) (ct2 : bx_Ct) (M2 : rx_Mt), ct2 ∈ rxCnE j2 → ct2.2.2.2.1 + 1 ≤ (rxCLGN 12).2.2.2.1 → rxT.2.2.2.2.2 j2 = some M2 → bx_Con rxG rxNW rxAO PX Dg rxL X vwCl A ad l M2 ct2) (hQLER : bx_ConP rxG rxNW rxAO PX Dg rxL X vwCl A ad l rxM56 rxCLER rxPLER rxPSLER) (hQLEX : bx_ConP rxG rxNW rxAO PX Dg rxL X vwCl A ad l rxM53 (rxCLEX 11) (rxPLEX 11) rxPSLEX) : bx_ConP rxG rxNW rxAO PX Dg rxL X vwCl A ad l rxM55 (rxCLGN 12) (rxPLGN 12) rxPSLGN :=
  rxQof (xa := xa) (Cn := rxCnE) (f := 30000) (j := 55) (tab := rxYLGN) (us := rxULGN) hPX hsl hX ih rfl rxYcLGN_12 rxILGN rxmLGN
    (fun S0 ws r I0 I ht0 ht as he he1 hX0 hI0 hP hs ha => by
      have e := he.symm.trans (show bx_ent0 rxNP (rxCLGN 12).1 bx_I0 [] = some ([(0, 0), (0, 0), (0, 0), (0, 0), (0, 0), (0, 0), (0, 0), (0, 0), (0, 11), (0, 17), (1, 3)], [], [.inr (3, (0, 451)), .inr (0, (8, 0)), .inr (0, (9, 0)), .inr (0, (10, 0))]) from rfl)
      cases e
      subst ha
      have h0 : r 0 = 0 := hs.1
      show rxILGN_0 S0 _ S0 (r 8) (r 9) (r 10)
      refine ⟨rfl, ?_⟩
      simp only [List.map_cons, List.map_nil, bx_xv_ok h0]
      rfl)
    (fun S0 ws hP => rxuLGN_12 (xa := xa) hPX hX hQLER hQLEX hP) (fun S0 ws hP => rxgCLGN hP) (fun S0 ws hP => rxgELGN hP)
set_option maxRecDepth 100000 in
theorem rxYcLEX_12 : bx_chkH rxYBLEX rxM53 (rxCLEX 12) rxYLEX (rxULEX, fun cut z => rx_ex2 (rxCT rxYBLEX rxCnE) cut 30000 (rxCLEX 12).2.2.2.1 53 z) = true := by decide +kernel
theorem rxuLEX_12 {PX : State → Prop} {Dg : va_G} {A : Nat → Prop} {ad xa : Nat → Nat} {l : Launch} {X : (Nat → Int → Int) → Prop} (hPX : rx_PXOK rxNW A PX) (hX : ∀ S S1 : Nat → Int → Int, X S → bx_same rxL (bx_mdl (rxCLEX 12).2.2.1) S S1 → X S1) (hQLWH : bx_ConP rxG rxNW rxAO PX Dg rxL X vwCl A ad l rxM54 rxCLWH rxPLWH rxPSLWH) (hQLRA : bx_ConP rxG rxNW rxAO PX Dg rxL X vwCl A ad l rxM1 rxCLRA rxPLRA rxPSLRA) (hQLGN : bx_ConP rxG rxNW rxAO PX Dg rxL X vwCl A ad l rxM55 (rxCLGN 12) (rxPLGN 12) rxPSLGN) {S0 : Nat → Int → Int} {ws : List Int} (hP : (rxPLEX 12) S0 ws) : ∀ (i : Nat) (q : bx_HE), rxYLEX[i]? = some q → rxULEX q = true → ∀ {p : Program} {e : Env} {R : Room} {s : State} {m : MethodId} {args : Array Value} {below : List Frame} {meth : Method} {c : Code} {Q : State → Prop} {H0 : Heap}, rx_Fr rxG rxNW rxAO PX p s m args meth c rxM53 → (∀ q, H0.size ≤ q → A q) → H0 = s.heap → rxM53.2.2.2.2.2.2.1 ≤ R.cells → rxM53.2.2.2.2.2.2.2 ≤ R.slots → (rxCLEX 12).2.2.2.1 ≤ R.frames → (rxCLEX 12).2.2.2.1 * 40 ≤ R.locals → bx_Step p l e R s m args below meth c Q Dg rxL X vwCl A xa H0 ad rxM53 rxYLEX (rxILEX S0 ws) (rxmLEX S0 ws) S0 (rxCLEX 12).2.2.1 i q := by
  intro i q hq hus p e R s m args below meth c Q H0 hF hA hH0 hmc hms hd hdl
  match i, hq with
  | 0, hq =>
    cases hq
    exact absurd (show false = true from hus) Bool.false_ne_true
  | 1, hq =>
    cases hq
    exact absurd (show false = true from hus) Bool.false_ne_true
  | 2, hq =>
    cases hq
    exact rx_stepC (ins := .invokevirtual 82) (len := 3) (i' := 3) (M' := rxM54) (d := (rxCLEX 12).2.2.2.1) (as := [.inr (3, (0, 451))]) (t := [.inr (0, (11, 0)), .inr (3, (0, 451))]) (ct := rxCLWH) hPX hF rfl hA hH0 hmc hms hd hdl (by decide +kernel) rfl rfl (by decide +kernel) (by decide +kernel) hQLWH (by decide +kernel) rfl (Or.inr ⟨_, _, _, 1, rfl, rfl, by omega, rfl, rfl, rfl⟩) (rxsLEX_2 hP)
  | 3, hq =>
    cases hq
    exact rx_stepB (i' := 4) (o := 6) (a := (11, 0)) (b := (12, 0)) (lo := 0) (hi := 1023) (t := [.inr (3, (0, 451))]) hF (Or.inr (Or.inr (Or.inr ⟨rfl, rfl⟩))) (by decide +kernel) rfl rfl rfl rfl (rxsLEX_3 hP)
  | 4, hq =>
    cases hq
    exact absurd (show false = true from hus) Bool.false_ne_true
  | 5, hq =>
    cases hq
    exact rx_stepC (ins := .invokestatic 86) (len := 3) (i' := 6) (M' := rxM1) (d := (rxCLEX 12).2.2.2.1) (as := [.inr (0, (11, 0)), .inr (0, (12, 0))]) (t := []) (ct := rxCLRA) hPX hF rfl hA hH0 hmc hms hd hdl (by decide +kernel) rfl rfl (by decide +kernel) (by decide +kernel) hQLRA (by decide +kernel) rfl (Or.inr ⟨_, _, _, 1, rfl, rfl, by omega, rfl, rfl, rfl⟩) (rxsLEX_5 hP)
  | 6, hq =>
    cases hq
    exact absurd (show false = true from hus) Bool.false_ne_true
  | 7, hq =>
    cases hq
    exact absurd (show false = true from hus) Bool.false_ne_true
  | 8, hq =>
    cases hq
    exact rx_stepC (ins := .invokevirtual 89) (len := 3) (i' := 9) (M' := rxM55) (d := (rxCLEX 12).2.2.2.1) (as := [.inr (3, (0, 451)), .inr (0, (13, 0)), .inr (0, (14, 0)), .inr (0, (15, 0))]) (t := []) (ct := (rxCLGN 12)) hPX hF rfl hA hH0 hmc hms hd hdl (by decide +kernel) rfl rfl (by decide +kernel) (by decide +kernel) hQLGN (by decide +kernel) rfl (Or.inl ⟨rfl, rfl, rfl⟩) (rxsLEX_8 hP)
  | 9, hq =>
    cases hq
    exact absurd (show false = true from hus) Bool.false_ne_true
  | n + 10, hq => cases hq
theorem rxQLEX_12 {PX : State → Prop} {Dg : va_G} {A : Nat → Prop} {ad xa : Nat → Nat} {l : Launch} {X : (Nat → Int → Int) → Prop} (hPX : rx_PXOK rxNW A PX) (hsl : ∀ s : State, PX s → ∀ o idx n : Nat, rxSl o idx = some n → ∃ tx : String, vk_R (rxNm o) idx tx (ad n) s)
    (hX : ∀ S S' : Nat → Int → Int, X S → bx_same rxL (bx_mdl (rxCLEX 12).2.2.1) S S' → X S')
    (ih : ∀ (j2 : Nat) (ct2 : bx_Ct) (M2 : rx_Mt), ct2 ∈ rxCnE j2 → ct2.2.2.2.1 + 1 ≤ (rxCLEX 12).2.2.2.1 → rxT.2.2.2.2.2 j2 = some M2 → bx_Con rxG rxNW rxAO PX Dg rxL X vwCl A ad l M2 ct2) (hQLWH : bx_ConP rxG rxNW rxAO PX Dg rxL X vwCl A ad l rxM54 rxCLWH rxPLWH rxPSLWH) (hQLRA : bx_ConP rxG rxNW rxAO PX Dg rxL X vwCl A ad l rxM1 rxCLRA rxPLRA rxPSLRA) (hQLGN : bx_ConP rxG rxNW rxAO PX Dg rxL X vwCl A ad l rxM55 (rxCLGN 12) (rxPLGN 12) rxPSLGN) : bx_ConP rxG rxNW rxAO PX Dg rxL X vwCl A ad l rxM53 (rxCLEX 12) (rxPLEX 12) rxPSLEX :=
  rxQof (xa := xa) (Cn := rxCnE) (f := 30000) (j := 53) (tab := rxYLEX) (us := rxULEX) hPX hsl hX ih rfl rxYcLEX_12 rxILEX rxmLEX
    (fun S0 ws r I0 I ht0 ht as he he1 hX0 hI0 hP hs ha => by
      have e := he.symm.trans (show bx_ent0 rxNP (rxCLEX 12).1 bx_I0 [] = some ([(0, 0), (0, 0), (0, 0), (0, 0), (0, 0), (0, 0), (0, 0), (0, 0), (0, 12), (0, 2), (1, 3)], [], [.inr (3, (0, 451)), .inr (0, (8, 0)), .inr (0, (9, 0)), .inr (0, (10, 0))]) from rfl)
      cases e
      subst ha
      have h0 : r 0 = 0 := hs.1
      show rxILEX_0 S0 _ S0 (r 8) (r 9) (r 10)
      refine ⟨rfl, ?_⟩
      simp only [List.map_cons, List.map_nil, bx_xv_ok h0]
      rfl)
    (fun S0 ws hP => rxuLEX_12 (xa := xa) hPX hX hQLWH hQLRA hQLGN hP) (fun S0 ws hP => rxgCLEX hP) (fun S0 ws hP => rxgELEX hP)
def rxCLE12 : bx_Ct := ([(3, (1, 451, 0)), (0, (0, 0, 12)), (0, (0, 0, 2)), (0, (0, 1, 3))], none, rxCmLEX, 27, [])
def rxPLE12 (S0 : Nat → Int → Int) (ws : List Int) : Prop := rxPLEX 12 S0 ws
def rxPSLE12 (S0 : Nat → Int → Int) (ws : List Int) (S : Nat → Int → Int) (w : Option Int) : Prop := rxPSLEX S0 ws S w
theorem rxQLE12 {PX : State → Prop} {Dg : va_G} {A : Nat → Prop} {ad xa : Nat → Nat} {l : Launch} {X : (Nat → Int → Int) → Prop} (hPX : rx_PXOK rxNW A PX) (hsl : ∀ s : State, PX s → ∀ o idx n : Nat, rxSl o idx = some n → ∃ tx : String, vk_R (rxNm o) idx tx (ad n) s)
    (hX : ∀ S S' : Nat → Int → Int, X S → bx_same rxL (bx_mdl rxCmLEX) S S' → X S')
    (_ih : ∀ (j2 : Nat) (ct2 : bx_Ct) (M2 : rx_Mt), ct2 ∈ rxCnE j2 → ct2.2.2.2.1 + 1 ≤ rxCLE12.2.2.2.1 → rxT.2.2.2.2.2 j2 = some M2 → bx_Con rxG rxNW rxAO PX Dg rxL X vwCl A ad l M2 ct2) (hQLWH : bx_ConP rxG rxNW rxAO PX Dg rxL X vwCl A ad l rxM54 rxCLWH rxPLWH rxPSLWH) (hQLRA : bx_ConP rxG rxNW rxAO PX Dg rxL X vwCl A ad l rxM1 rxCLRA rxPLRA rxPSLRA) (hQLER : bx_ConP rxG rxNW rxAO PX Dg rxL X vwCl A ad l rxM56 rxCLER rxPLER rxPSLER) : bx_ConP rxG rxNW rxAO PX Dg rxL X vwCl A ad l rxM53 rxCLE12 rxPLE12 rxPSLE12 := by
  have g0 : bx_ConP rxG rxNW rxAO PX Dg rxL X vwCl A ad l rxM55 (rxCLGN 0) (rxPLGN 0) rxPSLGN := fun S0 ws _ _ _ hp => by
    obtain ⟨_, _, _, _, _, _, _, _, h⟩ := hp
    exact absurd h (by omega)
  have e0 := rxQLEX_0 (xa := xa) hPX hsl hX (fun _ _ _ h => absurd h List.not_mem_nil) hQLWH hQLRA g0
  have g1 := rxQLGN_1 (xa := xa) hPX hsl hX (fun _ _ _ h => absurd h List.not_mem_nil) hQLER e0
  have e1 := rxQLEX_1 (xa := xa) hPX hsl hX (fun _ _ _ h => absurd h List.not_mem_nil) hQLWH hQLRA g1
  have g2 := rxQLGN_2 (xa := xa) hPX hsl hX (fun _ _ _ h => absurd h List.not_mem_nil) hQLER e1
  have e2 := rxQLEX_2 (xa := xa) hPX hsl hX (fun _ _ _ h => absurd h List.not_mem_nil) hQLWH hQLRA g2
  have g3 := rxQLGN_3 (xa := xa) hPX hsl hX (fun _ _ _ h => absurd h List.not_mem_nil) hQLER e2
  have e3 := rxQLEX_3 (xa := xa) hPX hsl hX (fun _ _ _ h => absurd h List.not_mem_nil) hQLWH hQLRA g3
  have g4 := rxQLGN_4 (xa := xa) hPX hsl hX (fun _ _ _ h => absurd h List.not_mem_nil) hQLER e3
  have e4 := rxQLEX_4 (xa := xa) hPX hsl hX (fun _ _ _ h => absurd h List.not_mem_nil) hQLWH hQLRA g4
  have g5 := rxQLGN_5 (xa := xa) hPX hsl hX (fun _ _ _ h => absurd h List.not_mem_nil) hQLER e4
  have e5 := rxQLEX_5 (xa := xa) hPX hsl hX (fun _ _ _ h => absurd h List.not_mem_nil) hQLWH hQLRA g5
  have g6 := rxQLGN_6 (xa := xa) hPX hsl hX (fun _ _ _ h => absurd h List.not_mem_nil) hQLER e5
  have e6 := rxQLEX_6 (xa := xa) hPX hsl hX (fun _ _ _ h => absurd h List.not_mem_nil) hQLWH hQLRA g6
  have g7 := rxQLGN_7 (xa := xa) hPX hsl hX (fun _ _ _ h => absurd h List.not_mem_nil) hQLER e6
  have e7 := rxQLEX_7 (xa := xa) hPX hsl hX (fun _ _ _ h => absurd h List.not_mem_nil) hQLWH hQLRA g7
  have g8 := rxQLGN_8 (xa := xa) hPX hsl hX (fun _ _ _ h => absurd h List.not_mem_nil) hQLER e7
  have e8 := rxQLEX_8 (xa := xa) hPX hsl hX (fun _ _ _ h => absurd h List.not_mem_nil) hQLWH hQLRA g8
  have g9 := rxQLGN_9 (xa := xa) hPX hsl hX (fun _ _ _ h => absurd h List.not_mem_nil) hQLER e8
  have e9 := rxQLEX_9 (xa := xa) hPX hsl hX (fun _ _ _ h => absurd h List.not_mem_nil) hQLWH hQLRA g9
  have g10 := rxQLGN_10 (xa := xa) hPX hsl hX (fun _ _ _ h => absurd h List.not_mem_nil) hQLER e9
  have e10 := rxQLEX_10 (xa := xa) hPX hsl hX (fun _ _ _ h => absurd h List.not_mem_nil) hQLWH hQLRA g10
  have g11 := rxQLGN_11 (xa := xa) hPX hsl hX (fun _ _ _ h => absurd h List.not_mem_nil) hQLER e10
  have e11 := rxQLEX_11 (xa := xa) hPX hsl hX (fun _ _ _ h => absurd h List.not_mem_nil) hQLWH hQLRA g11
  have g12 := rxQLGN_12 (xa := xa) hPX hsl hX (fun _ _ _ h => absurd h List.not_mem_nil) hQLER e11
  have e12 := rxQLEX_12 (xa := xa) hPX hsl hX (fun _ _ _ h => absurd h List.not_mem_nil) hQLWH hQLRA g12
  exact e12
