/-! CONTRACT BY HAND, by program (wip/sim/genhand.py): DeadUnderstudiesModel.put -/
def rxI226_0 (S0 : Nat → Int → Int) (ws : List Int) (S : Nat → Int → Int) (pe wh va : Int) : Prop := S = S0 ∧ ws = [480, pe, wh, va]
def rxm226_0 (S0 : Nat → Int → Int) (ws : List Int) (S : Nat → Int → Int) (pe wh va : Int) : Nat := 100
def rxz226_0 : rx_Z := ([(0, 0), (0, 0), (0, 0), (0, 0), (0, 0), (0, 0), (0, 0), (0, 0), ((-2147483648), 2147483647), ((-2147483648), 2147483647), ((-2147483648), 2147483647)], [], [], 0, 0, 0, [(0, .inr (3, (0, 480))), (1, .inr (0, (8, 0))), (2, .inr (0, (9, 0))), (3, .inr (0, (10, 0)))], [])
def rxe226_0_0 : rx_End × List (Nat × Int × Int) := (([(0, 0), (0, 0), (0, 0), (0, 0), (0, 0), (0, 0), (0, 0), (0, 0), ((-2147483648), 2147483647), (0, 0), ((-2147483648), (-1)), ((-2147483648), 2147483647), ((-2147483648), 2147483647)], [], [(((0, 0), 1851192626986356797625047037163794926384839479479878431390892035000000), .inr (0, (12, 0))), (((0, 481), 1), .inr (0, (12, 0))), (((0, 0), 1851192626986356797625047037163794926384839479479878431390892032000000), .inr (0, (11, 0))), (((0, 480), 2), .inr (3, (0, 481))), (((0, 0), 1851192626986356797625047037163794926384839479479878431390302211000000), .inr (0, (0, (-1)))), (((0, 480), 1), .inr (0, (0, (-1)))), (((0, 0), 1851192626986356797424340330377019318111018015026043177836478467000000), .inr (0, (0, 0))), (((0, 480), 0), .inr (0, (0, 0)))], some (.inr (0, (0, (-1))))), [])
def rxe226_0_1 : rx_End × List (Nat × Int × Int) := (([(0, 0), (0, 0), (0, 0), (0, 0), (0, 0), (0, 0), (0, 0), (0, 0), ((-2147483648), 2147483647), (0, 0), (301, 2147483647), ((-2147483648), 2147483647), ((-2147483648), 2147483647)], [], [(((0, 0), 1851192626986356797625047037163794926384839479479878431390892035000000), .inr (0, (12, 0))), (((0, 481), 1), .inr (0, (12, 0))), (((0, 0), 1851192626986356797625047037163794926384839479479878431390892032000000), .inr (0, (11, 0))), (((0, 480), 2), .inr (3, (0, 481))), (((0, 0), 1851192626986356797625047037163794926384839479479878431390302211000000), .inr (0, (0, (-1)))), (((0, 480), 1), .inr (0, (0, (-1)))), (((0, 0), 1851192626986356797424340330377019318111018015026043177836478467000000), .inr (0, (0, 0))), (((0, 480), 0), .inr (0, (0, 0)))], some (.inr (0, (0, (-1))))), [])
def rxe226_0_2 : rx_End × List (Nat × Int × Int) := (([(0, 0), (0, 0), (0, 0), (0, 0), (0, 0), (0, 0), (0, 0), (0, 0), (0, 7), (0, 0), (0, 200), (1, 8), (0, 21), (0, 200), ((-2147483648), 2147483647), ((-2147483648), 2147483647)], [(1, (10, 0), (13, 0)), (7, (12, 0), (8, 0)), (1, (8, 0), (11, (-1)))], [(((0, 0), 1851192626986356797625047037163794926384839479479878431390892035000000), .inr (0, (15, 0))), (((0, 481), 1), .inr (0, (15, 0))), (((0, 0), 1851192626986356797625047037163794926384839479479878431390892032000000), .inr (0, (14, 0))), (((0, 480), 2), .inr (3, (0, 481))), (((0, 0), 1851192626986356797625047037163794926384839479479878431390302211000000), .inr (0, (0, (-1)))), (((0, 480), 1), .inr (0, (0, (-1)))), (((0, 0), 1851192626986356845192573296125241548634580599496436154614546432000000), .inr (0, (13, 0))), (((0, 0), 1851192626986356797625047037163794926384839479479878431391481856000000), .inr (0, (11, 0))), (((0, 480), 3), .inr (3, (0, 482))), (((0, 0), 1851192626986356797424340330377019318111018015026043177836478467000000), .inr (0, (0, 0))), (((0, 480), 0), .inr (0, (0, 0)))], some (.inr (0, (0, (-1))))), [])
def rxe226_0_3 : rx_End × List (Nat × Int × Int) := (([(0, 0), (0, 0), (0, 0), (0, 0), (0, 0), (0, 0), (0, 0), (0, 0), (0, 7), (0, 0), (1, 300), (1, 8), (0, 21), (0, 200), (0, 21), (0, 300)], [(7, (14, 0), (8, 0)), (0, (13, 0), (10, 0)), (7, (12, 0), (8, 0)), (1, (8, 0), (11, (-1)))], [(((0, 0), 1851192626986356797625047037163794926384839479479878431390302211000000), .inr (0, (0, 0))), (((0, 480), 1), .inr (0, (0, 0))), (((0, 0), 1851192626986356845393286127994621733800744404693205179996176387000000), .inr (0, (10, 0))), (((0, 0), 1851192626986356845393286127994621733800744404693205179996176384000000), .inr (0, (15, 0))), (((0, 0), 1851192626986356845192573296125241548634580599496436154614546432000000), .inr (0, (13, 0))), (((0, 0), 1851192626986356797625047037163794926384839479479878431391481856000000), .inr (0, (11, 0))), (((0, 480), 3), .inr (3, (0, 482))), (((0, 0), 1851192626986356797424340330377019318111018015026043177836478467000000), .inr (0, (0, 0))), (((0, 480), 0), .inr (0, (0, 0)))], some (.inr (0, (15, 0)))), [])
def rxe226_0_4 : rx_End × List (Nat × Int × Int) := (([(0, 0), (0, 0), (0, 0), (0, 0), (0, 0), (0, 0), (0, 0), (0, 0), (0, 2147483647), (0, 0), (0, 300), (0, 8), ((-2147483648), 2147483647), ((-2147483648), 2147483647)], [(0, (11, (-1)), (8, 0))], [(((0, 0), 1851192626986356797825753743950570534658660943933713684944715779000000), .inr (0, (13, 0))), (((0, 481), 2), .inr (0, (13, 0))), (((0, 0), 1851192626986356797825753743950570534658660943933713684944715776000000), .inr (0, (12, 0))), (((0, 480), 2), .inr (3, (0, 481))), (((0, 0), 1851192626986356797625047037163794926384839479479878431390302211000000), .inr (0, (0, (-2)))), (((0, 480), 1), .inr (0, (0, (-2)))), (((0, 0), 1851192626986356797625047037163794926384839479479878431391481856000000), .inr (0, (11, 0))), (((0, 480), 3), .inr (3, (0, 482))), (((0, 0), 1851192626986356797424340330377019318111018015026043177836478467000000), .inr (0, (0, 0))), (((0, 480), 0), .inr (0, (0, 0)))], some (.inr (0, (0, (-2))))), [])
def rxe226_0_5 : rx_End × List (Nat × Int × Int) := (([(0, 0), (0, 0), (0, 0), (0, 0), (0, 0), (0, 0), (0, 0), (0, 0), ((-2147483648), (-1)), (0, 0), (0, 300), (0, 8), ((-2147483648), 2147483647), ((-2147483648), 2147483647)], [], [(((0, 0), 1851192626986356797825753743950570534658660943933713684944715779000000), .inr (0, (13, 0))), (((0, 481), 2), .inr (0, (13, 0))), (((0, 0), 1851192626986356797825753743950570534658660943933713684944715776000000), .inr (0, (12, 0))), (((0, 480), 2), .inr (3, (0, 481))), (((0, 0), 1851192626986356797625047037163794926384839479479878431390302211000000), .inr (0, (0, (-2)))), (((0, 480), 1), .inr (0, (0, (-2)))), (((0, 0), 1851192626986356797625047037163794926384839479479878431391481856000000), .inr (0, (11, 0))), (((0, 480), 3), .inr (3, (0, 482))), (((0, 0), 1851192626986356797424340330377019318111018015026043177836478467000000), .inr (0, (0, 0))), (((0, 480), 0), .inr (0, (0, 0)))], some (.inr (0, (0, (-2))))), [])
def rxe226_0_6 : rx_End × List (Nat × Int × Int) := (([(0, 0), (0, 0), (0, 0), (0, 0), (0, 0), (0, 0), (0, 0), (0, 0), ((-2147483648), 2147483647), (1, 1), ((-2147483648), 0), ((-2147483648), 2147483647), ((-2147483648), 2147483647)], [(3, (9, 0), (0, 0))], [(((0, 0), 1851192626986356797625047037163794926384839479479878431390892035000000), .inr (0, (12, 0))), (((0, 481), 1), .inr (0, (12, 0))), (((0, 0), 1851192626986356797625047037163794926384839479479878431390892032000000), .inr (0, (11, 0))), (((0, 480), 2), .inr (3, (0, 481))), (((0, 0), 1851192626986356797625047037163794926384839479479878431390302211000000), .inr (0, (0, (-1)))), (((0, 480), 1), .inr (0, (0, (-1)))), (((0, 0), 1851192626986356797424340330377019318111018015026043177836478467000000), .inr (0, (0, 0))), (((0, 480), 0), .inr (0, (0, 0)))], some (.inr (0, (0, (-1))))), [])
def rxe226_0_7 : rx_End × List (Nat × Int × Int) := (([(0, 0), (0, 0), (0, 0), (0, 0), (0, 0), (0, 0), (0, 0), (0, 0), ((-2147483648), 2147483647), (1, 1), (10, 2147483647), ((-2147483648), 2147483647), ((-2147483648), 2147483647)], [(3, (9, 0), (0, 0))], [(((0, 0), 1851192626986356797625047037163794926384839479479878431390892035000000), .inr (0, (12, 0))), (((0, 481), 1), .inr (0, (12, 0))), (((0, 0), 1851192626986356797625047037163794926384839479479878431390892032000000), .inr (0, (11, 0))), (((0, 480), 2), .inr (3, (0, 481))), (((0, 0), 1851192626986356797625047037163794926384839479479878431390302211000000), .inr (0, (0, (-1)))), (((0, 480), 1), .inr (0, (0, (-1)))), (((0, 0), 1851192626986356797424340330377019318111018015026043177836478467000000), .inr (0, (0, 0))), (((0, 480), 0), .inr (0, (0, 0)))], some (.inr (0, (0, (-1))))), [])
def rxe226_0_8 : rx_End × List (Nat × Int × Int) := (([(0, 0), (0, 0), (0, 0), (0, 0), (0, 0), (0, 0), (0, 0), (0, 0), (0, 7), (1, 1), (1, 9), (1, 8), (0, 21), (0, 9)], [(7, (12, 0), (8, 0)), (1, (8, 0), (11, (-1))), (3, (9, 0), (0, 0))], [(((0, 0), 1851192626986356797625047037163794926384839479479878431390302211000000), .inr (0, (0, 0))), (((0, 480), 1), .inr (0, (0, 0))), (((0, 0), 1851192626986356845593986709698792765182223528404106661722193923000000), .inr (0, (10, 0))), (((0, 0), 1851192626986356845593986709698792765182223528404106661722193920000000), .inr (0, (13, 0))), (((0, 0), 1851192626986356797625047037163794926384839479479878431391481856000000), .inr (0, (11, 0))), (((0, 480), 3), .inr (3, (0, 482))), (((0, 0), 1851192626986356797424340330377019318111018015026043177836478467000000), .inr (0, (0, 0))), (((0, 480), 0), .inr (0, (0, 0)))], some (.inr (0, (13, 0)))), [])
def rxe226_0_9 : rx_End × List (Nat × Int × Int) := (([(0, 0), (0, 0), (0, 0), (0, 0), (0, 0), (0, 0), (0, 0), (0, 0), (0, 2147483647), (1, 1), (1, 9), (0, 8), ((-2147483648), 2147483647), ((-2147483648), 2147483647)], [(0, (11, (-1)), (8, 0)), (3, (9, 0), (0, 0))], [(((0, 0), 1851192626986356797825753743950570534658660943933713684944715779000000), .inr (0, (13, 0))), (((0, 481), 2), .inr (0, (13, 0))), (((0, 0), 1851192626986356797825753743950570534658660943933713684944715776000000), .inr (0, (12, 0))), (((0, 480), 2), .inr (3, (0, 481))), (((0, 0), 1851192626986356797625047037163794926384839479479878431390302211000000), .inr (0, (0, (-2)))), (((0, 480), 1), .inr (0, (0, (-2)))), (((0, 0), 1851192626986356797625047037163794926384839479479878431391481856000000), .inr (0, (11, 0))), (((0, 480), 3), .inr (3, (0, 482))), (((0, 0), 1851192626986356797424340330377019318111018015026043177836478467000000), .inr (0, (0, 0))), (((0, 480), 0), .inr (0, (0, 0)))], some (.inr (0, (0, (-2))))), [])
def rxe226_0_10 : rx_End × List (Nat × Int × Int) := (([(0, 0), (0, 0), (0, 0), (0, 0), (0, 0), (0, 0), (0, 0), (0, 0), ((-2147483648), (-1)), (1, 1), (1, 9), (0, 8), ((-2147483648), 2147483647), ((-2147483648), 2147483647)], [(3, (9, 0), (0, 0))], [(((0, 0), 1851192626986356797825753743950570534658660943933713684944715779000000), .inr (0, (13, 0))), (((0, 481), 2), .inr (0, (13, 0))), (((0, 0), 1851192626986356797825753743950570534658660943933713684944715776000000), .inr (0, (12, 0))), (((0, 480), 2), .inr (3, (0, 481))), (((0, 0), 1851192626986356797625047037163794926384839479479878431390302211000000), .inr (0, (0, (-2)))), (((0, 480), 1), .inr (0, (0, (-2)))), (((0, 0), 1851192626986356797625047037163794926384839479479878431391481856000000), .inr (0, (11, 0))), (((0, 480), 3), .inr (3, (0, 482))), (((0, 0), 1851192626986356797424340330377019318111018015026043177836478467000000), .inr (0, (0, 0))), (((0, 480), 0), .inr (0, (0, 0)))], some (.inr (0, (0, (-2))))), [])
def rxe226_0_11 : rx_End × List (Nat × Int × Int) := (([(0, 0), (0, 0), (0, 0), (0, 0), (0, 0), (0, 0), (0, 0), (0, 0), ((-2147483648), 2147483647), ((-2147483648), 2147483647), ((-2147483648), 2147483647), ((-2147483648), 2147483647), ((-2147483648), 2147483647)], [(3, (9, 0), (0, 1)), (3, (9, 0), (0, 0))], [(((0, 0), 1851192626986356797625047037163794926384839479479878431390892035000000), .inr (0, (12, 0))), (((0, 481), 1), .inr (0, (12, 0))), (((0, 0), 1851192626986356797625047037163794926384839479479878431390892032000000), .inr (0, (11, 0))), (((0, 480), 2), .inr (3, (0, 481))), (((0, 0), 1851192626986356797625047037163794926384839479479878431390302211000000), .inr (0, (0, (-1)))), (((0, 480), 1), .inr (0, (0, (-1)))), (((0, 0), 1851192626986356797424340330377019318111018015026043177836478467000000), .inr (0, (0, 0))), (((0, 480), 0), .inr (0, (0, 0)))], some (.inr (0, (0, (-1))))), [])
def rxY226 : List bx_HE := [(rxz226_0, [], [rxe226_0_0, rxe226_0_1, rxe226_0_2, rxe226_0_3, rxe226_0_4, rxe226_0_5, rxe226_0_6, rxe226_0_7, rxe226_0_8, rxe226_0_9, rxe226_0_10, rxe226_0_11])]
def rxU226 (q : bx_HE) : Bool := false
def rxYB226 : bx_B := (rxV, rxNP, rxDmf, bx_mdH rxC226.2.2.1)
set_option maxRecDepth 100000 in
theorem rxYc226 : bx_chkH rxYB226 rxM226 rxC226 rxY226 (rxU226, fun cut z => rx_ex2 (rxCT rxYB226 rxCnE) cut 30000 rxC226.2.2.2.1 226 z) = true := by decide +kernel
def rxI226 (S0 : Nat → Int → Int) (ws : List Int) (i : Nat) : bx_SP := fun S r => match i with | 0 => rxI226_0 S0 ws S (r 8) (r 9) (r 10) | _ => False
def rxm226 (S0 : Nat → Int → Int) (ws : List Int) (i : Nat) (S : Nat → Int → Int) (r : Nat → Int) : Nat := match i with | 0 => rxm226_0 S0 ws S (r 8) (r 9) (r 10) | _ => 0
def rxP226 (S0 : Nat → Int → Int) (ws : List Int) : Prop := True
def rxPS226 (S0 : Nat → Int → Int) (ws : List Int) (S : Nat → Int → Int) (w : Option Int) : Prop := ∃ pe wh va : Int, ws = [480, pe, wh, va] ∧ ((((wh = 0 ∧ (va < 0 ∨ 300 < va)) ∨ (wh = 1 ∧ (va < 1 ∨ 9 < va)) ∨ (wh ≠ 0 ∧ wh ≠ 1)) ∧ w = some (-1) ∧ (∀ j : Int, S 482 j = S0 482 j)) ∨ (((wh = 0 ∧ 0 ≤ va ∧ va ≤ 300) ∨ (wh = 1 ∧ 1 ≤ va ∧ va ≤ 9)) ∧ (pe < 0 ∨ S0 482 1 ≤ pe) ∧ w = some (-2) ∧ (∀ j : Int, S 482 j = S0 482 j)) ∨ (wh = 0 ∧ 0 ≤ va ∧ va ≤ 300 ∧ 0 ≤ pe ∧ pe ≤ 7 ∧ pe < S0 482 1 ∧ va ≤ S0 482 (238 + 3 * pe) ∧ w = some (-1) ∧ (∀ j : Int, S 482 j = S0 482 j)) ∨ (wh = 0 ∧ 0 ≤ va ∧ va ≤ 300 ∧ 0 ≤ pe ∧ pe ≤ 7 ∧ pe < S0 482 1 ∧ S0 482 (238 + 3 * pe) < va ∧ w = some (S0 482 (239 + 3 * pe)) ∧ (∀ i : Int, 0 ≤ i → i < 8 → S 482 (238 + 3 * i) = S0 482 (238 + 3 * i)) ∧ (∀ i : Int, 0 ≤ i → i < 8 → S 482 (239 + 3 * i) = if i = pe then va else S0 482 (239 + 3 * i)) ∧ (∀ i : Int, 0 ≤ i → i < 8 → S 482 (240 + 3 * i) = S0 482 (240 + 3 * i))) ∨ (wh = 1 ∧ 1 ≤ va ∧ va ≤ 9 ∧ 0 ≤ pe ∧ pe ≤ 7 ∧ pe < S0 482 1 ∧ w = some (S0 482 (240 + 3 * pe)) ∧ (∀ i : Int, 0 ≤ i → i < 8 → S 482 (238 + 3 * i) = S0 482 (238 + 3 * i)) ∧ (∀ i : Int, 0 ≤ i → i < 8 → S 482 (239 + 3 * i) = S0 482 (239 + 3 * i)) ∧ (∀ i : Int, 0 ≤ i → i < 8 → S 482 (240 + 3 * i) = if i = pe then va else S0 482 (240 + 3 * i))))
theorem rxd226_0_0 {S0 : Nat → Int → Int} {ws : List Int} {S : Nat → Int → Int} {pe wh va x11 x12 : Int} (hP : rxP226 S0 ws) (hin : bx_same rxL (bx_mdl rxC226.2.2.1) S0 S) (hin2 : bx_same rxL (bx_mdl rxC226.2.2.1) S (bx_up (bx_up (bx_up S 480 0 0) 480 1 ((-1))) 481 1 x12)) (I0 : bx_Inv rxL S) (I1 : bx_Inv rxL (bx_up (bx_up (bx_up S 480 0 0) 480 1 ((-1))) 481 1 x12)) (hinv : rxI226_0 S0 ws S pe wh va) (l8 : (-2147483648) ≤ pe) (u8 : pe ≤ 2147483647) (l9 : 0 ≤ wh) (u9 : wh ≤ 0) (l10 : (-2147483648) ≤ va) (u10 : va ≤ (-1)) (l11 : (-2147483648) ≤ x11) (u11 : x11 ≤ 2147483647) (l12 : (-2147483648) ≤ x12) (u12 : x12 ≤ 2147483647) (e1 : (bx_up (bx_up S 480 0 0) 480 1 ((-1))) 481 1 = x11) : (True) ∧ rxPS226 S0 ws (bx_up (bx_up (bx_up S 480 0 0) 480 1 ((-1))) 481 1 x12) (some ((-1))) := by
  obtain ⟨rfl, hw⟩ := hinv
  have e1 := (show _ = S 481 1 from (bx_up_ne (by omega)).trans ((bx_up_ne (by omega)))).symm.trans e1
  refine ⟨trivial, pe, wh, va, hw, Or.inl (⟨?_, ?_, fun j => (bx_up_ne (by omega)).trans ((bx_up_ne (by omega)).trans ((bx_up_ne (by omega))))⟩)⟩ <;> first | omega | exact hin2 | exact congrArg some (by omega) | (intro i i0 i1; simp only [bx_up]; (repeat' split) <;> first | rfl | omega | (simp_all; done) | (simp_all; omega)) | ((repeat (first | rw [bx_up_at] | rw [bx_up_ne (by omega)])); omega) | exact True.intro
theorem rxf226_0_0 {X : (Nat → Int → Int) → Prop} {S0 : Nat → Int → Int} {ws : List Int} (hP : rxP226 S0 ws) : bx_obE rxL X S0 rxC226.2.2.1 (rxI226 S0 ws) (rxPS226 S0 ws) 0 rxz226_0 rxe226_0_0 := by
  intro S S' r r' hinv hX hin hsm_ hseg
  obtain ⟨I0, I1, h0_, hr_, b_, f_, d_⟩ := bx_cl (evs := [(1, (0, 481), (0, 1), .inr (0, (12, 0))), (0, (0, 481), (0, 1), .inr (0, (11, 0))), (1, (0, 480), (0, 1), .inr (0, (0, (-1)))), (1, (0, 480), (0, 0), .inr (0, (0, 0)))]) (fvs := []) hseg (by decide +kernel) (by decide +kernel)
  have hinv : rxI226_0 S0 ws S (r 8) (r 9) (r 10) := hinv
  rw [← hr_ 8 (by decide), ← hr_ 9 (by decide), ← hr_ 10 (by decide)] at hinv
  obtain ⟨⟨l8, u8⟩, ⟨l9, u9⟩, ⟨l10, u10⟩, ⟨l11, u11⟩, ⟨l12, u12⟩, -⟩ := b_
  obtain ⟨T0, ⟨e1, ⟨T2, ⟨T3, w_, w3⟩, w2⟩⟩, w0⟩ := d_
  subst w0
  subst w2
  subst w3
  subst w_
  have g := rxd226_0_0 hP hin hsm_ I0 I1 hinv l8 u8 l9 u9 l10 u10 l11 u11 l12 u12 e1
  refine ⟨bx_narP_ok (l := []) g.1, ?_⟩
  show rxPS226 S0 ws (bx_up (bx_up (bx_up T3 480 (0) (0)) 480 (1) ((-1))) 481 (1) (r' 12)) (some (bx_num r' (.inr (0, (0, (-1))))))
  rw [bx_xv_ok h0_]
  exact g.2
theorem rxd226_0_1 {S0 : Nat → Int → Int} {ws : List Int} {S : Nat → Int → Int} {pe wh va x11 x12 : Int} (hP : rxP226 S0 ws) (hin : bx_same rxL (bx_mdl rxC226.2.2.1) S0 S) (hin2 : bx_same rxL (bx_mdl rxC226.2.2.1) S (bx_up (bx_up (bx_up S 480 0 0) 480 1 ((-1))) 481 1 x12)) (I0 : bx_Inv rxL S) (I1 : bx_Inv rxL (bx_up (bx_up (bx_up S 480 0 0) 480 1 ((-1))) 481 1 x12)) (hinv : rxI226_0 S0 ws S pe wh va) (l8 : (-2147483648) ≤ pe) (u8 : pe ≤ 2147483647) (l9 : 0 ≤ wh) (u9 : wh ≤ 0) (l10 : 301 ≤ va) (u10 : va ≤ 2147483647) (l11 : (-2147483648) ≤ x11) (u11 : x11 ≤ 2147483647) (l12 : (-2147483648) ≤ x12) (u12 : x12 ≤ 2147483647) (e1 : (bx_up (bx_up S 480 0 0) 480 1 ((-1))) 481 1 = x11) : (True) ∧ rxPS226 S0 ws (bx_up (bx_up (bx_up S 480 0 0) 480 1 ((-1))) 481 1 x12) (some ((-1))) := by
  obtain ⟨rfl, hw⟩ := hinv
  have e1 := (show _ = S 481 1 from (bx_up_ne (by omega)).trans ((bx_up_ne (by omega)))).symm.trans e1
  refine ⟨trivial, pe, wh, va, hw, Or.inl (⟨?_, ?_, fun j => (bx_up_ne (by omega)).trans ((bx_up_ne (by omega)).trans ((bx_up_ne (by omega))))⟩)⟩ <;> first | omega | exact hin2 | exact congrArg some (by omega) | (intro i i0 i1; simp only [bx_up]; (repeat' split) <;> first | rfl | omega | (simp_all; done) | (simp_all; omega)) | ((repeat (first | rw [bx_up_at] | rw [bx_up_ne (by omega)])); omega) | exact True.intro
theorem rxf226_0_1 {X : (Nat → Int → Int) → Prop} {S0 : Nat → Int → Int} {ws : List Int} (hP : rxP226 S0 ws) : bx_obE rxL X S0 rxC226.2.2.1 (rxI226 S0 ws) (rxPS226 S0 ws) 0 rxz226_0 rxe226_0_1 := by
  intro S S' r r' hinv hX hin hsm_ hseg
  obtain ⟨I0, I1, h0_, hr_, b_, f_, d_⟩ := bx_cl (evs := [(1, (0, 481), (0, 1), .inr (0, (12, 0))), (0, (0, 481), (0, 1), .inr (0, (11, 0))), (1, (0, 480), (0, 1), .inr (0, (0, (-1)))), (1, (0, 480), (0, 0), .inr (0, (0, 0)))]) (fvs := []) hseg (by decide +kernel) (by decide +kernel)
  have hinv : rxI226_0 S0 ws S (r 8) (r 9) (r 10) := hinv
  rw [← hr_ 8 (by decide), ← hr_ 9 (by decide), ← hr_ 10 (by decide)] at hinv
  obtain ⟨⟨l8, u8⟩, ⟨l9, u9⟩, ⟨l10, u10⟩, ⟨l11, u11⟩, ⟨l12, u12⟩, -⟩ := b_
  obtain ⟨T0, ⟨e1, ⟨T2, ⟨T3, w_, w3⟩, w2⟩⟩, w0⟩ := d_
  subst w0
  subst w2
  subst w3
  subst w_
  have g := rxd226_0_1 hP hin hsm_ I0 I1 hinv l8 u8 l9 u9 l10 u10 l11 u11 l12 u12 e1
  refine ⟨bx_narP_ok (l := []) g.1, ?_⟩
  show rxPS226 S0 ws (bx_up (bx_up (bx_up T3 480 (0) (0)) 480 (1) ((-1))) 481 (1) (r' 12)) (some (bx_num r' (.inr (0, (0, (-1))))))
  rw [bx_xv_ok h0_]
  exact g.2
theorem rxd226_0_2 {S0 : Nat → Int → Int} {ws : List Int} {S : Nat → Int → Int} {pe wh va x11 x12 x13 x14 x15 : Int} (hP : rxP226 S0 ws) (hin : bx_same rxL (bx_mdl rxC226.2.2.1) S0 S) (hin2 : bx_same rxL (bx_mdl rxC226.2.2.1) S (bx_up (bx_up (bx_up S 480 0 0) 480 1 ((-1))) 481 1 x15)) (I0 : bx_Inv rxL S) (I1 : bx_Inv rxL (bx_up (bx_up (bx_up S 480 0 0) 480 1 ((-1))) 481 1 x15)) (hinv : rxI226_0 S0 ws S pe wh va) (l8 : 0 ≤ pe) (u8 : pe ≤ 7) (l9 : 0 ≤ wh) (u9 : wh ≤ 0) (l10 : 0 ≤ va) (u10 : va ≤ 200) (l11 : 1 ≤ x11) (u11 : x11 ≤ 8) (l12 : 0 ≤ x12) (u12 : x12 ≤ 21) (l13 : 0 ≤ x13) (u13 : x13 ≤ 200) (l14 : (-2147483648) ≤ x14) (u14 : x14 ≤ 2147483647) (l15 : (-2147483648) ≤ x15) (u15 : x15 ≤ 2147483647) (f0 : va ≤ x13) (f1 : x12 = 3 * (pe)) (f2 : pe ≤ x11 + (-1)) (e4 : (bx_up S 480 0 0) 482 1 = x11) (e3 : (bx_up S 480 0 0) 482 (x12 + 238) = x13) (e1 : (bx_up (bx_up S 480 0 0) 480 1 ((-1))) 481 1 = x14) : (True) ∧ rxPS226 S0 ws (bx_up (bx_up (bx_up S 480 0 0) 480 1 ((-1))) 481 1 x15) (some ((-1))) := by
  obtain ⟨rfl, hw⟩ := hinv
  have e4 := (show _ = S 482 1 from (bx_up_ne (by omega))).symm.trans e4
  have e1 := (show _ = S 481 1 from (bx_up_ne (by omega)).trans ((bx_up_ne (by omega)))).symm.trans e1
  have e3 : S 482 (238 + 3 * pe) = x13 := by
    rw [show (238 + 3 * pe : Int) = x12 + 238 by omega]
    exact (show _ = S 482 (x12 + 238) from (bx_up_ne (by omega))).symm.trans e3
  refine ⟨trivial, pe, wh, va, hw, Or.inr (Or.inr (Or.inl (⟨?_, ?_, ?_, ?_, ?_, ?_, ?_, ?_, fun j => (bx_up_ne (by omega)).trans ((bx_up_ne (by omega)).trans ((bx_up_ne (by omega))))⟩)))⟩ <;> first | omega | exact hin2 | exact congrArg some (by omega) | (intro i i0 i1; simp only [bx_up]; (repeat' split) <;> first | rfl | omega | (simp_all; done) | (simp_all; omega)) | ((repeat (first | rw [bx_up_at] | rw [bx_up_ne (by omega)])); omega) | exact True.intro
theorem rxf226_0_2 {X : (Nat → Int → Int) → Prop} {S0 : Nat → Int → Int} {ws : List Int} (hP : rxP226 S0 ws) : bx_obE rxL X S0 rxC226.2.2.1 (rxI226 S0 ws) (rxPS226 S0 ws) 0 rxz226_0 rxe226_0_2 := by
  intro S S' r r' hinv hX hin hsm_ hseg
  obtain ⟨I0, I1, h0_, hr_, b_, f_, d_⟩ := bx_cl (evs := [(1, (0, 481), (0, 1), .inr (0, (15, 0))), (0, (0, 481), (0, 1), .inr (0, (14, 0))), (1, (0, 480), (0, 1), .inr (0, (0, (-1)))), (0, (0, 482), (12, 238), .inr (0, (13, 0))), (0, (0, 482), (0, 1), .inr (0, (11, 0))), (1, (0, 480), (0, 0), .inr (0, (0, 0)))]) (fvs := [(1, (10, 0), (13, 0), (0, 0)), (4, (12, 0), (8, 0), (0, 3)), (1, (8, 0), (11, (-1)), (0, 0))]) hseg (by decide +kernel) (by decide +kernel)
  have hinv : rxI226_0 S0 ws S (r 8) (r 9) (r 10) := hinv
  rw [← hr_ 8 (by decide), ← hr_ 9 (by decide), ← hr_ 10 (by decide)] at hinv
  obtain ⟨⟨l8, u8⟩, ⟨l9, u9⟩, ⟨l10, u10⟩, ⟨l11, u11⟩, ⟨l12, u12⟩, ⟨l13, u13⟩, ⟨l14, u14⟩, ⟨l15, u15⟩, -⟩ := b_
  obtain ⟨f0, f1, f2, -⟩ := f_
  obtain ⟨T0, ⟨e1, ⟨T2, ⟨e3, ⟨e4, ⟨T5, w_, w5⟩⟩⟩, w2⟩⟩, w0⟩ := d_
  subst w0
  subst w2
  subst w5
  subst w_
  have g := rxd226_0_2 hP hin hsm_ I0 I1 hinv l8 u8 l9 u9 l10 u10 l11 u11 l12 u12 l13 u13 l14 u14 l15 u15 f0 f1 f2 e4 e3 e1
  refine ⟨bx_narP_ok (l := []) g.1, ?_⟩
  show rxPS226 S0 ws (bx_up (bx_up (bx_up T5 480 (0) (0)) 480 (1) ((-1))) 481 (1) (r' 15)) (some (bx_num r' (.inr (0, (0, (-1))))))
  rw [bx_xv_ok h0_]
  exact g.2
theorem rxd226_0_3 {S0 : Nat → Int → Int} {ws : List Int} {S : Nat → Int → Int} {pe wh va x11 x12 x13 x14 x15 : Int} (hP : rxP226 S0 ws) (hin : bx_same rxL (bx_mdl rxC226.2.2.1) S0 S) (hin2 : bx_same rxL (bx_mdl rxC226.2.2.1) S (bx_up (bx_up (bx_up S 480 0 0) 482 (x14 + 239) va) 480 1 0)) (I0 : bx_Inv rxL S) (I1 : bx_Inv rxL (bx_up (bx_up (bx_up S 480 0 0) 482 (x14 + 239) va) 480 1 0)) (hinv : rxI226_0 S0 ws S pe wh va) (l8 : 0 ≤ pe) (u8 : pe ≤ 7) (l9 : 0 ≤ wh) (u9 : wh ≤ 0) (l10 : 1 ≤ va) (u10 : va ≤ 300) (l11 : 1 ≤ x11) (u11 : x11 ≤ 8) (l12 : 0 ≤ x12) (u12 : x12 ≤ 21) (l13 : 0 ≤ x13) (u13 : x13 ≤ 200) (l14 : 0 ≤ x14) (u14 : x14 ≤ 21) (l15 : 0 ≤ x15) (u15 : x15 ≤ 300) (f0 : x14 = 3 * (pe)) (f1 : x13 < va) (f2 : x12 = 3 * (pe)) (f3 : pe ≤ x11 + (-1)) (e4 : (bx_up S 480 0 0) 482 1 = x11) (e3 : (bx_up S 480 0 0) 482 (x12 + 238) = x13) (e2 : (bx_up S 480 0 0) 482 (x14 + 239) = x15) : (True) ∧ rxPS226 S0 ws (bx_up (bx_up (bx_up S 480 0 0) 482 (x14 + 239) va) 480 1 0) (some x15) := by
  obtain ⟨rfl, hw⟩ := hinv
  have e4 := (show _ = S 482 1 from (bx_up_ne (by omega))).symm.trans e4
  have e3 : S 482 (238 + 3 * pe) = x13 := by
    rw [show (238 + 3 * pe : Int) = x12 + 238 by omega]
    exact (show _ = S 482 (x12 + 238) from (bx_up_ne (by omega))).symm.trans e3
  have e2 : S 482 (239 + 3 * pe) = x15 := by
    rw [show (239 + 3 * pe : Int) = x14 + 239 by omega]
    exact (show _ = S 482 (x14 + 239) from (bx_up_ne (by omega))).symm.trans e2
  refine ⟨trivial, pe, wh, va, hw, Or.inr (Or.inr (Or.inr (Or.inl (⟨?_, ?_, ?_, ?_, ?_, ?_, ?_, ?_, ?_, ?_, ?_⟩))))⟩ <;> first | omega | exact hin2 | exact congrArg some (by omega) | (intro i i0 i1; simp only [bx_up]; (repeat' split) <;> first | rfl | omega | (simp_all; done) | (simp_all; omega)) | ((repeat (first | rw [bx_up_at] | rw [bx_up_ne (by omega)])); omega) | exact True.intro
theorem rxf226_0_3 {X : (Nat → Int → Int) → Prop} {S0 : Nat → Int → Int} {ws : List Int} (hP : rxP226 S0 ws) : bx_obE rxL X S0 rxC226.2.2.1 (rxI226 S0 ws) (rxPS226 S0 ws) 0 rxz226_0 rxe226_0_3 := by
  intro S S' r r' hinv hX hin hsm_ hseg
  obtain ⟨I0, I1, h0_, hr_, b_, f_, d_⟩ := bx_cl (evs := [(1, (0, 480), (0, 1), .inr (0, (0, 0))), (1, (0, 482), (14, 239), .inr (0, (10, 0))), (0, (0, 482), (14, 239), .inr (0, (15, 0))), (0, (0, 482), (12, 238), .inr (0, (13, 0))), (0, (0, 482), (0, 1), .inr (0, (11, 0))), (1, (0, 480), (0, 0), .inr (0, (0, 0)))]) (fvs := [(4, (14, 0), (8, 0), (0, 3)), (0, (13, 0), (10, 0), (0, 0)), (4, (12, 0), (8, 0), (0, 3)), (1, (8, 0), (11, (-1)), (0, 0))]) hseg (by decide +kernel) (by decide +kernel)
  have hinv : rxI226_0 S0 ws S (r 8) (r 9) (r 10) := hinv
  rw [← hr_ 8 (by decide), ← hr_ 9 (by decide), ← hr_ 10 (by decide)] at hinv
  obtain ⟨⟨l8, u8⟩, ⟨l9, u9⟩, ⟨l10, u10⟩, ⟨l11, u11⟩, ⟨l12, u12⟩, ⟨l13, u13⟩, ⟨l14, u14⟩, ⟨l15, u15⟩, -⟩ := b_
  obtain ⟨f0, f1, f2, f3, -⟩ := f_
  obtain ⟨T0, ⟨T1, ⟨e2, ⟨e3, ⟨e4, ⟨T5, w_, w5⟩⟩⟩⟩, w1⟩, w0⟩ := d_
  subst w0
  subst w1
  subst w5
  subst w_
  have g := rxd226_0_3 hP hin hsm_ I0 I1 hinv l8 u8 l9 u9 l10 u10 l11 u11 l12 u12 l13 u13 l14 u14 l15 u15 f0 f1 f2 f3 e4 e3 e2
  refine ⟨bx_narP_ok (l := []) g.1, ?_⟩
  show rxPS226 S0 ws (bx_up (bx_up (bx_up T5 480 (0) (0)) 482 (r' 14 + 239) (r' 10)) 480 (1) (0)) (some (bx_num r' (.inr (0, (15, 0)))))
  rw [bx_xv_ok h0_]
  exact g.2
theorem rxd226_0_4 {S0 : Nat → Int → Int} {ws : List Int} {S : Nat → Int → Int} {pe wh va x11 x12 x13 : Int} (hP : rxP226 S0 ws) (hin : bx_same rxL (bx_mdl rxC226.2.2.1) S0 S) (hin2 : bx_same rxL (bx_mdl rxC226.2.2.1) S (bx_up (bx_up (bx_up S 480 0 0) 480 1 ((-2))) 481 2 x13)) (I0 : bx_Inv rxL S) (I1 : bx_Inv rxL (bx_up (bx_up (bx_up S 480 0 0) 480 1 ((-2))) 481 2 x13)) (hinv : rxI226_0 S0 ws S pe wh va) (l8 : 0 ≤ pe) (u8 : pe ≤ 2147483647) (l9 : 0 ≤ wh) (u9 : wh ≤ 0) (l10 : 0 ≤ va) (u10 : va ≤ 300) (l11 : 0 ≤ x11) (u11 : x11 ≤ 8) (l12 : (-2147483648) ≤ x12) (u12 : x12 ≤ 2147483647) (l13 : (-2147483648) ≤ x13) (u13 : x13 ≤ 2147483647) (f0 : x11 + (-1) < pe) (e3 : (bx_up S 480 0 0) 482 1 = x11) (e1 : (bx_up (bx_up S 480 0 0) 480 1 ((-2))) 481 2 = x12) : (True) ∧ rxPS226 S0 ws (bx_up (bx_up (bx_up S 480 0 0) 480 1 ((-2))) 481 2 x13) (some ((-2))) := by
  obtain ⟨rfl, hw⟩ := hinv
  have e3 := (show _ = S 482 1 from (bx_up_ne (by omega))).symm.trans e3
  have e1 := (show _ = S 481 2 from (bx_up_ne (by omega)).trans ((bx_up_ne (by omega)))).symm.trans e1
  refine ⟨trivial, pe, wh, va, hw, Or.inr (Or.inl (⟨?_, ?_, ?_, fun j => (bx_up_ne (by omega)).trans ((bx_up_ne (by omega)).trans ((bx_up_ne (by omega))))⟩))⟩ <;> first | omega | exact hin2 | exact congrArg some (by omega) | (intro i i0 i1; simp only [bx_up]; (repeat' split) <;> first | rfl | omega | (simp_all; done) | (simp_all; omega)) | ((repeat (first | rw [bx_up_at] | rw [bx_up_ne (by omega)])); omega) | exact True.intro
theorem rxf226_0_4 {X : (Nat → Int → Int) → Prop} {S0 : Nat → Int → Int} {ws : List Int} (hP : rxP226 S0 ws) : bx_obE rxL X S0 rxC226.2.2.1 (rxI226 S0 ws) (rxPS226 S0 ws) 0 rxz226_0 rxe226_0_4 := by
  intro S S' r r' hinv hX hin hsm_ hseg
  obtain ⟨I0, I1, h0_, hr_, b_, f_, d_⟩ := bx_cl (evs := [(1, (0, 481), (0, 2), .inr (0, (13, 0))), (0, (0, 481), (0, 2), .inr (0, (12, 0))), (1, (0, 480), (0, 1), .inr (0, (0, (-2)))), (0, (0, 482), (0, 1), .inr (0, (11, 0))), (1, (0, 480), (0, 0), .inr (0, (0, 0)))]) (fvs := [(0, (11, (-1)), (8, 0), (0, 0))]) hseg (by decide +kernel) (by decide +kernel)
  have hinv : rxI226_0 S0 ws S (r 8) (r 9) (r 10) := hinv
  rw [← hr_ 8 (by decide), ← hr_ 9 (by decide), ← hr_ 10 (by decide)] at hinv
  obtain ⟨⟨l8, u8⟩, ⟨l9, u9⟩, ⟨l10, u10⟩, ⟨l11, u11⟩, ⟨l12, u12⟩, ⟨l13, u13⟩, -⟩ := b_
  obtain ⟨f0, -⟩ := f_
  obtain ⟨T0, ⟨e1, ⟨T2, ⟨e3, ⟨T4, w_, w4⟩⟩, w2⟩⟩, w0⟩ := d_
  subst w0
  subst w2
  subst w4
  subst w_
  have g := rxd226_0_4 hP hin hsm_ I0 I1 hinv l8 u8 l9 u9 l10 u10 l11 u11 l12 u12 l13 u13 f0 e3 e1
  refine ⟨bx_narP_ok (l := []) g.1, ?_⟩
  show rxPS226 S0 ws (bx_up (bx_up (bx_up T4 480 (0) (0)) 480 (1) ((-2))) 481 (2) (r' 13)) (some (bx_num r' (.inr (0, (0, (-2))))))
  rw [bx_xv_ok h0_]
  exact g.2
theorem rxd226_0_5 {S0 : Nat → Int → Int} {ws : List Int} {S : Nat → Int → Int} {pe wh va x11 x12 x13 : Int} (hP : rxP226 S0 ws) (hin : bx_same rxL (bx_mdl rxC226.2.2.1) S0 S) (hin2 : bx_same rxL (bx_mdl rxC226.2.2.1) S (bx_up (bx_up (bx_up S 480 0 0) 480 1 ((-2))) 481 2 x13)) (I0 : bx_Inv rxL S) (I1 : bx_Inv rxL (bx_up (bx_up (bx_up S 480 0 0) 480 1 ((-2))) 481 2 x13)) (hinv : rxI226_0 S0 ws S pe wh va) (l8 : (-2147483648) ≤ pe) (u8 : pe ≤ (-1)) (l9 : 0 ≤ wh) (u9 : wh ≤ 0) (l10 : 0 ≤ va) (u10 : va ≤ 300) (l11 : 0 ≤ x11) (u11 : x11 ≤ 8) (l12 : (-2147483648) ≤ x12) (u12 : x12 ≤ 2147483647) (l13 : (-2147483648) ≤ x13) (u13 : x13 ≤ 2147483647) (e3 : (bx_up S 480 0 0) 482 1 = x11) (e1 : (bx_up (bx_up S 480 0 0) 480 1 ((-2))) 481 2 = x12) : (True) ∧ rxPS226 S0 ws (bx_up (bx_up (bx_up S 480 0 0) 480 1 ((-2))) 481 2 x13) (some ((-2))) := by
  obtain ⟨rfl, hw⟩ := hinv
  have e3 := (show _ = S 482 1 from (bx_up_ne (by omega))).symm.trans e3
  have e1 := (show _ = S 481 2 from (bx_up_ne (by omega)).trans ((bx_up_ne (by omega)))).symm.trans e1
  refine ⟨trivial, pe, wh, va, hw, Or.inr (Or.inl (⟨?_, ?_, ?_, fun j => (bx_up_ne (by omega)).trans ((bx_up_ne (by omega)).trans ((bx_up_ne (by omega))))⟩))⟩ <;> first | omega | exact hin2 | exact congrArg some (by omega) | (intro i i0 i1; simp only [bx_up]; (repeat' split) <;> first | rfl | omega | (simp_all; done) | (simp_all; omega)) | ((repeat (first | rw [bx_up_at] | rw [bx_up_ne (by omega)])); omega) | exact True.intro
theorem rxf226_0_5 {X : (Nat → Int → Int) → Prop} {S0 : Nat → Int → Int} {ws : List Int} (hP : rxP226 S0 ws) : bx_obE rxL X S0 rxC226.2.2.1 (rxI226 S0 ws) (rxPS226 S0 ws) 0 rxz226_0 rxe226_0_5 := by
  intro S S' r r' hinv hX hin hsm_ hseg
  obtain ⟨I0, I1, h0_, hr_, b_, f_, d_⟩ := bx_cl (evs := [(1, (0, 481), (0, 2), .inr (0, (13, 0))), (0, (0, 481), (0, 2), .inr (0, (12, 0))), (1, (0, 480), (0, 1), .inr (0, (0, (-2)))), (0, (0, 482), (0, 1), .inr (0, (11, 0))), (1, (0, 480), (0, 0), .inr (0, (0, 0)))]) (fvs := []) hseg (by decide +kernel) (by decide +kernel)
  have hinv : rxI226_0 S0 ws S (r 8) (r 9) (r 10) := hinv
  rw [← hr_ 8 (by decide), ← hr_ 9 (by decide), ← hr_ 10 (by decide)] at hinv
  obtain ⟨⟨l8, u8⟩, ⟨l9, u9⟩, ⟨l10, u10⟩, ⟨l11, u11⟩, ⟨l12, u12⟩, ⟨l13, u13⟩, -⟩ := b_
  obtain ⟨T0, ⟨e1, ⟨T2, ⟨e3, ⟨T4, w_, w4⟩⟩, w2⟩⟩, w0⟩ := d_
  subst w0
  subst w2
  subst w4
  subst w_
  have g := rxd226_0_5 hP hin hsm_ I0 I1 hinv l8 u8 l9 u9 l10 u10 l11 u11 l12 u12 l13 u13 e3 e1
  refine ⟨bx_narP_ok (l := []) g.1, ?_⟩
  show rxPS226 S0 ws (bx_up (bx_up (bx_up T4 480 (0) (0)) 480 (1) ((-2))) 481 (2) (r' 13)) (some (bx_num r' (.inr (0, (0, (-2))))))
  rw [bx_xv_ok h0_]
  exact g.2
theorem rxd226_0_6 {S0 : Nat → Int → Int} {ws : List Int} {S : Nat → Int → Int} {pe wh va x11 x12 : Int} (hP : rxP226 S0 ws) (hin : bx_same rxL (bx_mdl rxC226.2.2.1) S0 S) (hin2 : bx_same rxL (bx_mdl rxC226.2.2.1) S (bx_up (bx_up (bx_up S 480 0 0) 480 1 ((-1))) 481 1 x12)) (I0 : bx_Inv rxL S) (I1 : bx_Inv rxL (bx_up (bx_up (bx_up S 480 0 0) 480 1 ((-1))) 481 1 x12)) (hinv : rxI226_0 S0 ws S pe wh va) (l8 : (-2147483648) ≤ pe) (u8 : pe ≤ 2147483647) (l9 : 1 ≤ wh) (u9 : wh ≤ 1) (l10 : (-2147483648) ≤ va) (u10 : va ≤ 0) (l11 : (-2147483648) ≤ x11) (u11 : x11 ≤ 2147483647) (l12 : (-2147483648) ≤ x12) (u12 : x12 ≤ 2147483647) (f0 : wh ≠ 0) (e1 : (bx_up (bx_up S 480 0 0) 480 1 ((-1))) 481 1 = x11) : (True) ∧ rxPS226 S0 ws (bx_up (bx_up (bx_up S 480 0 0) 480 1 ((-1))) 481 1 x12) (some ((-1))) := by
  obtain ⟨rfl, hw⟩ := hinv
  have e1 := (show _ = S 481 1 from (bx_up_ne (by omega)).trans ((bx_up_ne (by omega)))).symm.trans e1
  refine ⟨trivial, pe, wh, va, hw, Or.inl (⟨?_, ?_, fun j => (bx_up_ne (by omega)).trans ((bx_up_ne (by omega)).trans ((bx_up_ne (by omega))))⟩)⟩ <;> first | omega | exact hin2 | exact congrArg some (by omega) | (intro i i0 i1; simp only [bx_up]; (repeat' split) <;> first | rfl | omega | (simp_all; done) | (simp_all; omega)) | ((repeat (first | rw [bx_up_at] | rw [bx_up_ne (by omega)])); omega) | exact True.intro
theorem rxf226_0_6 {X : (Nat → Int → Int) → Prop} {S0 : Nat → Int → Int} {ws : List Int} (hP : rxP226 S0 ws) : bx_obE rxL X S0 rxC226.2.2.1 (rxI226 S0 ws) (rxPS226 S0 ws) 0 rxz226_0 rxe226_0_6 := by
  intro S S' r r' hinv hX hin hsm_ hseg
  obtain ⟨I0, I1, h0_, hr_, b_, f_, d_⟩ := bx_cl (evs := [(1, (0, 481), (0, 1), .inr (0, (12, 0))), (0, (0, 481), (0, 1), .inr (0, (11, 0))), (1, (0, 480), (0, 1), .inr (0, (0, (-1)))), (1, (0, 480), (0, 0), .inr (0, (0, 0)))]) (fvs := [(3, (9, 0), (0, 0), (0, 0))]) hseg (by decide +kernel) (by decide +kernel)
  have hinv : rxI226_0 S0 ws S (r 8) (r 9) (r 10) := hinv
  rw [← hr_ 8 (by decide), ← hr_ 9 (by decide), ← hr_ 10 (by decide)] at hinv
  obtain ⟨⟨l8, u8⟩, ⟨l9, u9⟩, ⟨l10, u10⟩, ⟨l11, u11⟩, ⟨l12, u12⟩, -⟩ := b_
  obtain ⟨f0, -⟩ := f_
  obtain ⟨T0, ⟨e1, ⟨T2, ⟨T3, w_, w3⟩, w2⟩⟩, w0⟩ := d_
  subst w0
  subst w2
  subst w3
  subst w_
  have g := rxd226_0_6 hP hin hsm_ I0 I1 hinv l8 u8 l9 u9 l10 u10 l11 u11 l12 u12 f0 e1
  refine ⟨bx_narP_ok (l := []) g.1, ?_⟩
  show rxPS226 S0 ws (bx_up (bx_up (bx_up T3 480 (0) (0)) 480 (1) ((-1))) 481 (1) (r' 12)) (some (bx_num r' (.inr (0, (0, (-1))))))
  rw [bx_xv_ok h0_]
  exact g.2
theorem rxd226_0_7 {S0 : Nat → Int → Int} {ws : List Int} {S : Nat → Int → Int} {pe wh va x11 x12 : Int} (hP : rxP226 S0 ws) (hin : bx_same rxL (bx_mdl rxC226.2.2.1) S0 S) (hin2 : bx_same rxL (bx_mdl rxC226.2.2.1) S (bx_up (bx_up (bx_up S 480 0 0) 480 1 ((-1))) 481 1 x12)) (I0 : bx_Inv rxL S) (I1 : bx_Inv rxL (bx_up (bx_up (bx_up S 480 0 0) 480 1 ((-1))) 481 1 x12)) (hinv : rxI226_0 S0 ws S pe wh va) (l8 : (-2147483648) ≤ pe) (u8 : pe ≤ 2147483647) (l9 : 1 ≤ wh) (u9 : wh ≤ 1) (l10 : 10 ≤ va) (u10 : va ≤ 2147483647) (l11 : (-2147483648) ≤ x11) (u11 : x11 ≤ 2147483647) (l12 : (-2147483648) ≤ x12) (u12 : x12 ≤ 2147483647) (f0 : wh ≠ 0) (e1 : (bx_up (bx_up S 480 0 0) 480 1 ((-1))) 481 1 = x11) : (True) ∧ rxPS226 S0 ws (bx_up (bx_up (bx_up S 480 0 0) 480 1 ((-1))) 481 1 x12) (some ((-1))) := by
  obtain ⟨rfl, hw⟩ := hinv
  have e1 := (show _ = S 481 1 from (bx_up_ne (by omega)).trans ((bx_up_ne (by omega)))).symm.trans e1
  refine ⟨trivial, pe, wh, va, hw, Or.inl (⟨?_, ?_, fun j => (bx_up_ne (by omega)).trans ((bx_up_ne (by omega)).trans ((bx_up_ne (by omega))))⟩)⟩ <;> first | omega | exact hin2 | exact congrArg some (by omega) | (intro i i0 i1; simp only [bx_up]; (repeat' split) <;> first | rfl | omega | (simp_all; done) | (simp_all; omega)) | ((repeat (first | rw [bx_up_at] | rw [bx_up_ne (by omega)])); omega) | exact True.intro
theorem rxf226_0_7 {X : (Nat → Int → Int) → Prop} {S0 : Nat → Int → Int} {ws : List Int} (hP : rxP226 S0 ws) : bx_obE rxL X S0 rxC226.2.2.1 (rxI226 S0 ws) (rxPS226 S0 ws) 0 rxz226_0 rxe226_0_7 := by
  intro S S' r r' hinv hX hin hsm_ hseg
  obtain ⟨I0, I1, h0_, hr_, b_, f_, d_⟩ := bx_cl (evs := [(1, (0, 481), (0, 1), .inr (0, (12, 0))), (0, (0, 481), (0, 1), .inr (0, (11, 0))), (1, (0, 480), (0, 1), .inr (0, (0, (-1)))), (1, (0, 480), (0, 0), .inr (0, (0, 0)))]) (fvs := [(3, (9, 0), (0, 0), (0, 0))]) hseg (by decide +kernel) (by decide +kernel)
  have hinv : rxI226_0 S0 ws S (r 8) (r 9) (r 10) := hinv
  rw [← hr_ 8 (by decide), ← hr_ 9 (by decide), ← hr_ 10 (by decide)] at hinv
  obtain ⟨⟨l8, u8⟩, ⟨l9, u9⟩, ⟨l10, u10⟩, ⟨l11, u11⟩, ⟨l12, u12⟩, -⟩ := b_
  obtain ⟨f0, -⟩ := f_
  obtain ⟨T0, ⟨e1, ⟨T2, ⟨T3, w_, w3⟩, w2⟩⟩, w0⟩ := d_
  subst w0
  subst w2
  subst w3
  subst w_
  have g := rxd226_0_7 hP hin hsm_ I0 I1 hinv l8 u8 l9 u9 l10 u10 l11 u11 l12 u12 f0 e1
  refine ⟨bx_narP_ok (l := []) g.1, ?_⟩
  show rxPS226 S0 ws (bx_up (bx_up (bx_up T3 480 (0) (0)) 480 (1) ((-1))) 481 (1) (r' 12)) (some (bx_num r' (.inr (0, (0, (-1))))))
  rw [bx_xv_ok h0_]
  exact g.2
theorem rxd226_0_8 {S0 : Nat → Int → Int} {ws : List Int} {S : Nat → Int → Int} {pe wh va x11 x12 x13 : Int} (hP : rxP226 S0 ws) (hin : bx_same rxL (bx_mdl rxC226.2.2.1) S0 S) (hin2 : bx_same rxL (bx_mdl rxC226.2.2.1) S (bx_up (bx_up (bx_up S 480 0 0) 482 (x12 + 240) va) 480 1 0)) (I0 : bx_Inv rxL S) (I1 : bx_Inv rxL (bx_up (bx_up (bx_up S 480 0 0) 482 (x12 + 240) va) 480 1 0)) (hinv : rxI226_0 S0 ws S pe wh va) (l8 : 0 ≤ pe) (u8 : pe ≤ 7) (l9 : 1 ≤ wh) (u9 : wh ≤ 1) (l10 : 1 ≤ va) (u10 : va ≤ 9) (l11 : 1 ≤ x11) (u11 : x11 ≤ 8) (l12 : 0 ≤ x12) (u12 : x12 ≤ 21) (l13 : 0 ≤ x13) (u13 : x13 ≤ 9) (f0 : x12 = 3 * (pe)) (f1 : pe ≤ x11 + (-1)) (f2 : wh ≠ 0) (e3 : (bx_up S 480 0 0) 482 1 = x11) (e2 : (bx_up S 480 0 0) 482 (x12 + 240) = x13) : (True) ∧ rxPS226 S0 ws (bx_up (bx_up (bx_up S 480 0 0) 482 (x12 + 240) va) 480 1 0) (some x13) := by
  obtain ⟨rfl, hw⟩ := hinv
  have e3 := (show _ = S 482 1 from (bx_up_ne (by omega))).symm.trans e3
  have e2 : S 482 (240 + 3 * pe) = x13 := by
    rw [show (240 + 3 * pe : Int) = x12 + 240 by omega]
    exact (show _ = S 482 (x12 + 240) from (bx_up_ne (by omega))).symm.trans e2
  refine ⟨trivial, pe, wh, va, hw, Or.inr (Or.inr (Or.inr (Or.inr (⟨?_, ?_, ?_, ?_, ?_, ?_, ?_, ?_, ?_, ?_⟩))))⟩ <;> first | omega | exact hin2 | exact congrArg some (by omega) | (intro i i0 i1; simp only [bx_up]; (repeat' split) <;> first | rfl | omega | (simp_all; done) | (simp_all; omega)) | ((repeat (first | rw [bx_up_at] | rw [bx_up_ne (by omega)])); omega) | exact True.intro
theorem rxf226_0_8 {X : (Nat → Int → Int) → Prop} {S0 : Nat → Int → Int} {ws : List Int} (hP : rxP226 S0 ws) : bx_obE rxL X S0 rxC226.2.2.1 (rxI226 S0 ws) (rxPS226 S0 ws) 0 rxz226_0 rxe226_0_8 := by
  intro S S' r r' hinv hX hin hsm_ hseg
  obtain ⟨I0, I1, h0_, hr_, b_, f_, d_⟩ := bx_cl (evs := [(1, (0, 480), (0, 1), .inr (0, (0, 0))), (1, (0, 482), (12, 240), .inr (0, (10, 0))), (0, (0, 482), (12, 240), .inr (0, (13, 0))), (0, (0, 482), (0, 1), .inr (0, (11, 0))), (1, (0, 480), (0, 0), .inr (0, (0, 0)))]) (fvs := [(4, (12, 0), (8, 0), (0, 3)), (1, (8, 0), (11, (-1)), (0, 0)), (3, (9, 0), (0, 0), (0, 0))]) hseg (by decide +kernel) (by decide +kernel)
  have hinv : rxI226_0 S0 ws S (r 8) (r 9) (r 10) := hinv
  rw [← hr_ 8 (by decide), ← hr_ 9 (by decide), ← hr_ 10 (by decide)] at hinv
  obtain ⟨⟨l8, u8⟩, ⟨l9, u9⟩, ⟨l10, u10⟩, ⟨l11, u11⟩, ⟨l12, u12⟩, ⟨l13, u13⟩, -⟩ := b_
  obtain ⟨f0, f1, f2, -⟩ := f_
  obtain ⟨T0, ⟨T1, ⟨e2, ⟨e3, ⟨T4, w_, w4⟩⟩⟩, w1⟩, w0⟩ := d_
  subst w0
  subst w1
  subst w4
  subst w_
  have g := rxd226_0_8 hP hin hsm_ I0 I1 hinv l8 u8 l9 u9 l10 u10 l11 u11 l12 u12 l13 u13 f0 f1 f2 e3 e2
  refine ⟨bx_narP_ok (l := []) g.1, ?_⟩
  show rxPS226 S0 ws (bx_up (bx_up (bx_up T4 480 (0) (0)) 482 (r' 12 + 240) (r' 10)) 480 (1) (0)) (some (bx_num r' (.inr (0, (13, 0)))))
  rw [bx_xv_ok h0_]
  exact g.2
theorem rxd226_0_9 {S0 : Nat → Int → Int} {ws : List Int} {S : Nat → Int → Int} {pe wh va x11 x12 x13 : Int} (hP : rxP226 S0 ws) (hin : bx_same rxL (bx_mdl rxC226.2.2.1) S0 S) (hin2 : bx_same rxL (bx_mdl rxC226.2.2.1) S (bx_up (bx_up (bx_up S 480 0 0) 480 1 ((-2))) 481 2 x13)) (I0 : bx_Inv rxL S) (I1 : bx_Inv rxL (bx_up (bx_up (bx_up S 480 0 0) 480 1 ((-2))) 481 2 x13)) (hinv : rxI226_0 S0 ws S pe wh va) (l8 : 0 ≤ pe) (u8 : pe ≤ 2147483647) (l9 : 1 ≤ wh) (u9 : wh ≤ 1) (l10 : 1 ≤ va) (u10 : va ≤ 9) (l11 : 0 ≤ x11) (u11 : x11 ≤ 8) (l12 : (-2147483648) ≤ x12) (u12 : x12 ≤ 2147483647) (l13 : (-2147483648) ≤ x13) (u13 : x13 ≤ 2147483647) (f0 : x11 + (-1) < pe) (f1 : wh ≠ 0) (e3 : (bx_up S 480 0 0) 482 1 = x11) (e1 : (bx_up (bx_up S 480 0 0) 480 1 ((-2))) 481 2 = x12) : (True) ∧ rxPS226 S0 ws (bx_up (bx_up (bx_up S 480 0 0) 480 1 ((-2))) 481 2 x13) (some ((-2))) := by
  obtain ⟨rfl, hw⟩ := hinv
  have e3 := (show _ = S 482 1 from (bx_up_ne (by omega))).symm.trans e3
  have e1 := (show _ = S 481 2 from (bx_up_ne (by omega)).trans ((bx_up_ne (by omega)))).symm.trans e1
  refine ⟨trivial, pe, wh, va, hw, Or.inr (Or.inl (⟨?_, ?_, ?_, fun j => (bx_up_ne (by omega)).trans ((bx_up_ne (by omega)).trans ((bx_up_ne (by omega))))⟩))⟩ <;> first | omega | exact hin2 | exact congrArg some (by omega) | (intro i i0 i1; simp only [bx_up]; (repeat' split) <;> first | rfl | omega | (simp_all; done) | (simp_all; omega)) | ((repeat (first | rw [bx_up_at] | rw [bx_up_ne (by omega)])); omega) | exact True.intro
theorem rxf226_0_9 {X : (Nat → Int → Int) → Prop} {S0 : Nat → Int → Int} {ws : List Int} (hP : rxP226 S0 ws) : bx_obE rxL X S0 rxC226.2.2.1 (rxI226 S0 ws) (rxPS226 S0 ws) 0 rxz226_0 rxe226_0_9 := by
  intro S S' r r' hinv hX hin hsm_ hseg
  obtain ⟨I0, I1, h0_, hr_, b_, f_, d_⟩ := bx_cl (evs := [(1, (0, 481), (0, 2), .inr (0, (13, 0))), (0, (0, 481), (0, 2), .inr (0, (12, 0))), (1, (0, 480), (0, 1), .inr (0, (0, (-2)))), (0, (0, 482), (0, 1), .inr (0, (11, 0))), (1, (0, 480), (0, 0), .inr (0, (0, 0)))]) (fvs := [(0, (11, (-1)), (8, 0), (0, 0)), (3, (9, 0), (0, 0), (0, 0))]) hseg (by decide +kernel) (by decide +kernel)
  have hinv : rxI226_0 S0 ws S (r 8) (r 9) (r 10) := hinv
  rw [← hr_ 8 (by decide), ← hr_ 9 (by decide), ← hr_ 10 (by decide)] at hinv
  obtain ⟨⟨l8, u8⟩, ⟨l9, u9⟩, ⟨l10, u10⟩, ⟨l11, u11⟩, ⟨l12, u12⟩, ⟨l13, u13⟩, -⟩ := b_
  obtain ⟨f0, f1, -⟩ := f_
  obtain ⟨T0, ⟨e1, ⟨T2, ⟨e3, ⟨T4, w_, w4⟩⟩, w2⟩⟩, w0⟩ := d_
  subst w0
  subst w2
  subst w4
  subst w_
  have g := rxd226_0_9 hP hin hsm_ I0 I1 hinv l8 u8 l9 u9 l10 u10 l11 u11 l12 u12 l13 u13 f0 f1 e3 e1
  refine ⟨bx_narP_ok (l := []) g.1, ?_⟩
  show rxPS226 S0 ws (bx_up (bx_up (bx_up T4 480 (0) (0)) 480 (1) ((-2))) 481 (2) (r' 13)) (some (bx_num r' (.inr (0, (0, (-2))))))
  rw [bx_xv_ok h0_]
  exact g.2
theorem rxd226_0_10 {S0 : Nat → Int → Int} {ws : List Int} {S : Nat → Int → Int} {pe wh va x11 x12 x13 : Int} (hP : rxP226 S0 ws) (hin : bx_same rxL (bx_mdl rxC226.2.2.1) S0 S) (hin2 : bx_same rxL (bx_mdl rxC226.2.2.1) S (bx_up (bx_up (bx_up S 480 0 0) 480 1 ((-2))) 481 2 x13)) (I0 : bx_Inv rxL S) (I1 : bx_Inv rxL (bx_up (bx_up (bx_up S 480 0 0) 480 1 ((-2))) 481 2 x13)) (hinv : rxI226_0 S0 ws S pe wh va) (l8 : (-2147483648) ≤ pe) (u8 : pe ≤ (-1)) (l9 : 1 ≤ wh) (u9 : wh ≤ 1) (l10 : 1 ≤ va) (u10 : va ≤ 9) (l11 : 0 ≤ x11) (u11 : x11 ≤ 8) (l12 : (-2147483648) ≤ x12) (u12 : x12 ≤ 2147483647) (l13 : (-2147483648) ≤ x13) (u13 : x13 ≤ 2147483647) (f0 : wh ≠ 0) (e3 : (bx_up S 480 0 0) 482 1 = x11) (e1 : (bx_up (bx_up S 480 0 0) 480 1 ((-2))) 481 2 = x12) : (True) ∧ rxPS226 S0 ws (bx_up (bx_up (bx_up S 480 0 0) 480 1 ((-2))) 481 2 x13) (some ((-2))) := by
  obtain ⟨rfl, hw⟩ := hinv
  have e3 := (show _ = S 482 1 from (bx_up_ne (by omega))).symm.trans e3
  have e1 := (show _ = S 481 2 from (bx_up_ne (by omega)).trans ((bx_up_ne (by omega)))).symm.trans e1
  refine ⟨trivial, pe, wh, va, hw, Or.inr (Or.inl (⟨?_, ?_, ?_, fun j => (bx_up_ne (by omega)).trans ((bx_up_ne (by omega)).trans ((bx_up_ne (by omega))))⟩))⟩ <;> first | omega | exact hin2 | exact congrArg some (by omega) | (intro i i0 i1; simp only [bx_up]; (repeat' split) <;> first | rfl | omega | (simp_all; done) | (simp_all; omega)) | ((repeat (first | rw [bx_up_at] | rw [bx_up_ne (by omega)])); omega) | exact True.intro
theorem rxf226_0_10 {X : (Nat → Int → Int) → Prop} {S0 : Nat → Int → Int} {ws : List Int} (hP : rxP226 S0 ws) : bx_obE rxL X S0 rxC226.2.2.1 (rxI226 S0 ws) (rxPS226 S0 ws) 0 rxz226_0 rxe226_0_10 := by
  intro S S' r r' hinv hX hin hsm_ hseg
  obtain ⟨I0, I1, h0_, hr_, b_, f_, d_⟩ := bx_cl (evs := [(1, (0, 481), (0, 2), .inr (0, (13, 0))), (0, (0, 481), (0, 2), .inr (0, (12, 0))), (1, (0, 480), (0, 1), .inr (0, (0, (-2)))), (0, (0, 482), (0, 1), .inr (0, (11, 0))), (1, (0, 480), (0, 0), .inr (0, (0, 0)))]) (fvs := [(3, (9, 0), (0, 0), (0, 0))]) hseg (by decide +kernel) (by decide +kernel)
  have hinv : rxI226_0 S0 ws S (r 8) (r 9) (r 10) := hinv
  rw [← hr_ 8 (by decide), ← hr_ 9 (by decide), ← hr_ 10 (by decide)] at hinv
  obtain ⟨⟨l8, u8⟩, ⟨l9, u9⟩, ⟨l10, u10⟩, ⟨l11, u11⟩, ⟨l12, u12⟩, ⟨l13, u13⟩, -⟩ := b_
  obtain ⟨f0, -⟩ := f_
  obtain ⟨T0, ⟨e1, ⟨T2, ⟨e3, ⟨T4, w_, w4⟩⟩, w2⟩⟩, w0⟩ := d_
  subst w0
  subst w2
  subst w4
  subst w_
  have g := rxd226_0_10 hP hin hsm_ I0 I1 hinv l8 u8 l9 u9 l10 u10 l11 u11 l12 u12 l13 u13 f0 e3 e1
  refine ⟨bx_narP_ok (l := []) g.1, ?_⟩
  show rxPS226 S0 ws (bx_up (bx_up (bx_up T4 480 (0) (0)) 480 (1) ((-2))) 481 (2) (r' 13)) (some (bx_num r' (.inr (0, (0, (-2))))))
  rw [bx_xv_ok h0_]
  exact g.2
theorem rxd226_0_11 {S0 : Nat → Int → Int} {ws : List Int} {S : Nat → Int → Int} {pe wh va x11 x12 : Int} (hP : rxP226 S0 ws) (hin : bx_same rxL (bx_mdl rxC226.2.2.1) S0 S) (hin2 : bx_same rxL (bx_mdl rxC226.2.2.1) S (bx_up (bx_up (bx_up S 480 0 0) 480 1 ((-1))) 481 1 x12)) (I0 : bx_Inv rxL S) (I1 : bx_Inv rxL (bx_up (bx_up (bx_up S 480 0 0) 480 1 ((-1))) 481 1 x12)) (hinv : rxI226_0 S0 ws S pe wh va) (l8 : (-2147483648) ≤ pe) (u8 : pe ≤ 2147483647) (l9 : (-2147483648) ≤ wh) (u9 : wh ≤ 2147483647) (l10 : (-2147483648) ≤ va) (u10 : va ≤ 2147483647) (l11 : (-2147483648) ≤ x11) (u11 : x11 ≤ 2147483647) (l12 : (-2147483648) ≤ x12) (u12 : x12 ≤ 2147483647) (f0 : wh ≠ 1) (f1 : wh ≠ 0) (e1 : (bx_up (bx_up S 480 0 0) 480 1 ((-1))) 481 1 = x11) : (True) ∧ rxPS226 S0 ws (bx_up (bx_up (bx_up S 480 0 0) 480 1 ((-1))) 481 1 x12) (some ((-1))) := by
  obtain ⟨rfl, hw⟩ := hinv
  have e1 := (show _ = S 481 1 from (bx_up_ne (by omega)).trans ((bx_up_ne (by omega)))).symm.trans e1
  refine ⟨trivial, pe, wh, va, hw, Or.inl (⟨?_, ?_, fun j => (bx_up_ne (by omega)).trans ((bx_up_ne (by omega)).trans ((bx_up_ne (by omega))))⟩)⟩ <;> first | omega | exact hin2 | exact congrArg some (by omega) | (intro i i0 i1; simp only [bx_up]; (repeat' split) <;> first | rfl | omega | (simp_all; done) | (simp_all; omega)) | ((repeat (first | rw [bx_up_at] | rw [bx_up_ne (by omega)])); omega) | exact True.intro
theorem rxf226_0_11 {X : (Nat → Int → Int) → Prop} {S0 : Nat → Int → Int} {ws : List Int} (hP : rxP226 S0 ws) : bx_obE rxL X S0 rxC226.2.2.1 (rxI226 S0 ws) (rxPS226 S0 ws) 0 rxz226_0 rxe226_0_11 := by
  intro S S' r r' hinv hX hin hsm_ hseg
  obtain ⟨I0, I1, h0_, hr_, b_, f_, d_⟩ := bx_cl (evs := [(1, (0, 481), (0, 1), .inr (0, (12, 0))), (0, (0, 481), (0, 1), .inr (0, (11, 0))), (1, (0, 480), (0, 1), .inr (0, (0, (-1)))), (1, (0, 480), (0, 0), .inr (0, (0, 0)))]) (fvs := [(3, (9, 0), (0, 1), (0, 0)), (3, (9, 0), (0, 0), (0, 0))]) hseg (by decide +kernel) (by decide +kernel)
  have hinv : rxI226_0 S0 ws S (r 8) (r 9) (r 10) := hinv
  rw [← hr_ 8 (by decide), ← hr_ 9 (by decide), ← hr_ 10 (by decide)] at hinv
  obtain ⟨⟨l8, u8⟩, ⟨l9, u9⟩, ⟨l10, u10⟩, ⟨l11, u11⟩, ⟨l12, u12⟩, -⟩ := b_
  obtain ⟨f0, f1, -⟩ := f_
  obtain ⟨T0, ⟨e1, ⟨T2, ⟨T3, w_, w3⟩, w2⟩⟩, w0⟩ := d_
  subst w0
  subst w2
  subst w3
  subst w_
  have g := rxd226_0_11 hP hin hsm_ I0 I1 hinv l8 u8 l9 u9 l10 u10 l11 u11 l12 u12 f0 f1 e1
  refine ⟨bx_narP_ok (l := []) g.1, ?_⟩
  show rxPS226 S0 ws (bx_up (bx_up (bx_up T3 480 (0) (0)) 480 (1) ((-1))) 481 (1) (r' 12)) (some (bx_num r' (.inr (0, (0, (-1))))))
  rw [bx_xv_ok h0_]
  exact g.2
theorem rxgC226 {X : (Nat → Int → Int) → Prop} {S0 : Nat → Int → Int} {ws : List Int} (hP : rxP226 S0 ws) : bx_allI (fun i q => rxU226 q = true ∨ bx_allP (fun o => bx_obC rxL X S0 rxC226.2.2.1 (rxI226 S0 ws) (rxm226 S0 ws) i q.1 o) q.2.1) 0 rxY226 := ⟨Or.inr trivial, trivial⟩
theorem rxgE226 {X : (Nat → Int → Int) → Prop} {S0 : Nat → Int → Int} {ws : List Int} (hP : rxP226 S0 ws) : bx_allI (fun i q => rxU226 q = true ∨ bx_allP (fun E => bx_obE rxL X S0 rxC226.2.2.1 (rxI226 S0 ws) (rxPS226 S0 ws) i q.1 E) q.2.2) 0 rxY226 := ⟨Or.inr ⟨rxf226_0_0 hP, rxf226_0_1 hP, rxf226_0_2 hP, rxf226_0_3 hP, rxf226_0_4 hP, rxf226_0_5 hP, rxf226_0_6 hP, rxf226_0_7 hP, rxf226_0_8 hP, rxf226_0_9 hP, rxf226_0_10 hP, rxf226_0_11 hP, trivial⟩, trivial⟩
theorem rxQ226 {PX : State → Prop} {Dg : va_G} {A : Nat → Prop} {ad xa : Nat → Nat} {l : Launch} {X : (Nat → Int → Int) → Prop} (hPX : rx_PXOK rxNW A PX) (hsl : ∀ s : State, PX s → ∀ o idx n : Nat, rxSl o idx = some n → ∃ tx : String, vk_R (rxNm o) idx tx (ad n) s)
    (hX : ∀ S S' : Nat → Int → Int, X S → bx_same rxL (bx_mdl rxC226.2.2.1) S S' → X S')
    (ih : ∀ (j2 : Nat) (ct2 : bx_Ct) (M2 : rx_Mt), ct2 ∈ rxCnE j2 → ct2.2.2.2.1 + 1 ≤ rxC226.2.2.2.1 → rxT.2.2.2.2.2 j2 = some M2 → bx_Con rxG rxNW rxAO PX Dg rxL X vwCl A ad l M2 ct2) : bx_ConP rxG rxNW rxAO PX Dg rxL X vwCl A ad l rxM226 rxC226 rxP226 rxPS226 :=
  rxQof (xa := xa) (Cn := rxCnE) (f := 30000) (j := 226) (tab := rxY226) (us := rxU226) hPX hsl hX ih rfl rxYc226 rxI226 rxm226
    (fun S0 ws r I0 I ht0 ht as he he1 hX0 hI0 hP hs ha => by
      have e := he.symm.trans (show bx_ent0 rxNP rxC226.1 bx_I0 [] = some ([(0, 0), (0, 0), (0, 0), (0, 0), (0, 0), (0, 0), (0, 0), (0, 0), ((-2147483648), 2147483647), ((-2147483648), 2147483647), ((-2147483648), 2147483647)], [], [.inr (3, (0, 480)), .inr (0, (8, 0)), .inr (0, (9, 0)), .inr (0, (10, 0))]) from rfl)
      cases e
      subst ha
      have h0 : r 0 = 0 := hs.1
      show rxI226_0 S0 _ S0 (r 8) (r 9) (r 10)
      refine ⟨rfl, ?_⟩
      simp only [List.map_cons, List.map_nil, bx_xv_ok h0]
      rfl)
    (fun S0 ws hP => fun i q hq hus => absurd (show false = true from hus) Bool.false_ne_true) (fun S0 ws hP => rxgC226 hP) (fun S0 ws hP => rxgE226 hP)
set_option maxHeartbeats 1000000 in
theorem rzQ226 {PX : State → Prop} {Dg : va_G} {A : Nat → Prop} {ad : Nat → Nat} {l : Launch} (hPX : rx_PXOK rxNW A PX) (hsl : ∀ s : State, PX s → ∀ o idx n : Nat, rxSl o idx = some n → ∃ tx : String, vk_R (rxNm o) idx tx (ad n) s) : bx_ConP rxG rxNW rxAO PX Dg rxL rxX vwCl A ad l rxM226 rxC226 (fun _ _ => True) rxPS226 := by
  have q226 := rxQ226 (PX := PX) (Dg := Dg) (A := A) (ad := ad) (xa := fun n => n) (l := l) (X := rxX) hPX hsl (fun _ _ h hm => rxX_of (by decide +kernel) h hm) (fun _ _ _ h => absurd h List.not_mem_nil)
  exact fun S0 ws h1 h2 h3 _ => q226 S0 ws h1 h2 h3 trivial
