noncomputable def rxI247_0 (S0 : Nat → Int → Int) (ws : List Int) (S : Nat → Int → Int) (p pa t q : Int) : Prop := S = S0 ∧ ws = [0, p, pa, t, q]
noncomputable def rxm247_0 (S0 : Nat → Int → Int) (ws : List Int) (S : Nat → Int → Int) (p pa t q : Int) : Nat := 100
noncomputable def rxz247_0 : rx_Z := ([(0, 0), (0, 0), (0, 0), (0, 0), (0, 0), (0, 0), (0, 0), (0, 0), ((-2147483648), 2147483647), ((-2147483648), 2147483647), ((-2147483648), 2147483647), ((-2147483648), 2147483647)], [], [], 0, 0, 0, [(0, .inr (3, (0, 0))), (1, .inr (0, (8, 0))), (2, .inr (0, (9, 0))), (3, .inr (0, (10, 0))), (4, .inr (0, (11, 0)))], [])
noncomputable def rxI247_1 (S0 : Nat → Int → Int) (ws : List Int) (S : Nat → Int → Int) (p pa t q y : Int) : Prop := S = S0 ∧ ws = [0, p, pa, t, q] ∧ (0 ≤ p ∧ p < S0 5 0 ∧ 0 ≤ pa ∧ pa < S0 1 0 ∧ (t = -1 ∨ (0 ≤ t ∧ t < S0 5 0)) ∧ 0 ≤ q ∧ q ≤ 2) ∧ y = S0 19 0
noncomputable def rxm247_1 (S0 : Nat → Int → Int) (ws : List Int) (S : Nat → Int → Int) (p pa t q y : Int) : Nat := 50
noncomputable def rxz247_1 : rx_Z := ([(0, 0), (0, 0), (0, 0), (0, 0), (0, 0), (0, 0), (0, 0), (0, 0), (0, 7), (0, 5), ((-1), 7), (0, 2), (0, 300)], [], [], 0, 0, 77, [(0, .inr (3, (0, 0))), (1, .inr (0, (8, 0))), (2, .inr (0, (9, 0))), (3, .inr (0, (10, 0))), (4, .inr (0, (11, 0)))], [.inr (0, (12, 0)), .inr (0, (10, 0)), .inr (0, (9, 0)), .inr (0, (8, 0)), .inr (3, (0, 1))])
noncomputable def rxI247_2 (S0 : Nat → Int → Int) (ws : List Int) (S : Nat → Int → Int) (p pa t q y : Int) : Prop := ws = [0, p, pa, t, q] ∧ (0 ≤ p ∧ p < S0 5 0 ∧ 0 ≤ pa ∧ pa < S0 1 0 ∧ (t = -1 ∨ (0 ≤ t ∧ t < S0 5 0)) ∧ 0 ≤ q ∧ q ≤ 2) ∧ rkDs S0 p pa t (S0 19 0) (hd3 S)
noncomputable def rxm247_2 (S0 : Nat → Int → Int) (ws : List Int) (S : Nat → Int → Int) (p pa t q y : Int) : Nat := 40
noncomputable def rxz247_2 : rx_Z := ([(0, 0), (0, 0), (0, 0), (0, 0), (0, 0), (0, 0), (0, 0), (0, 0), (0, 7), (0, 5), ((-1), 7), (0, 2), (0, 300)], [], [], 0, 0, 80, [(0, .inr (3, (0, 0))), (1, .inr (0, (8, 0))), (2, .inr (0, (9, 0))), (3, .inr (0, (10, 0))), (4, .inr (0, (11, 0)))], [])
noncomputable def rxo247_0_0 : bx_HO := (([(0, 0), (0, 0), (0, 0), (0, 0), (0, 0), (0, 0), (0, 0), (0, 0), (0, 7), (0, 5), (0, 7), (0, 2), (1, 8), (1, 6), (0, 300)], [(0, (10, 0), (12, 0)), (3, (10, 0), (0, (-1))), (0, (9, 0), (13, 0)), (0, (8, 0), (12, 0))], [(((0, 0), 1851192626986356797424340330377019318111018015026043177564569600000000), .inr (0, (14, 0))), (((0, 19), 0), .inr (0, (14, 0))), (((0, 1), 13), .inr (3, (0, 19))), (((0, 0), 1851192626986356797424340330377019318111018015026043177553952768000000), .inr (0, (13, 0))), (((0, 1), 0), .inr (0, (13, 0))), (((0, 0), 1851192626986356797424340330377019318111018015026043177556312064000000), .inr (0, (12, 0))), (((0, 5), 0), .inr (0, (12, 0))), (((0, 1), 4), .inr (3, (0, 5))), (((0, 0), 0), .inr (3, (0, 1)))], 0, 0, 77, [(0, .inr (3, (0, 0))), (1, .inr (0, (8, 0))), (2, .inr (0, (9, 0))), (3, .inr (0, (10, 0))), (4, .inr (0, (11, 0)))], [.inr (0, (14, 0)), .inr (0, (10, 0)), .inr (0, (9, 0)), .inr (0, (8, 0)), .inr (3, (0, 1))]), [], [], [(0, 0), (0, 0), (0, 0), (0, 0), (0, 0), (0, 0), (0, 0), (0, 0), (8, 0), (9, 0), (10, 0), (11, 0), (14, 0)], 1)
noncomputable def rxo247_0_1 : bx_HO := (([(0, 0), (0, 0), (0, 0), (0, 0), (0, 0), (0, 0), (0, 0), (0, 0), (0, 7), (0, 5), ((-1), (-1)), (0, 2), (1, 8), (1, 6), (0, 300)], [(0, (9, 0), (13, 0)), (0, (8, 0), (12, 0))], [(((0, 0), 1851192626986356797424340330377019318111018015026043177564569600000000), .inr (0, (14, 0))), (((0, 19), 0), .inr (0, (14, 0))), (((0, 1), 13), .inr (3, (0, 19))), (((0, 0), 1851192626986356797424340330377019318111018015026043177553952768000000), .inr (0, (13, 0))), (((0, 1), 0), .inr (0, (13, 0))), (((0, 0), 1851192626986356797424340330377019318111018015026043177556312064000000), .inr (0, (12, 0))), (((0, 5), 0), .inr (0, (12, 0))), (((0, 1), 4), .inr (3, (0, 5))), (((0, 0), 0), .inr (3, (0, 1)))], 0, 0, 77, [(0, .inr (3, (0, 0))), (1, .inr (0, (8, 0))), (2, .inr (0, (9, 0))), (3, .inr (0, (10, 0))), (4, .inr (0, (11, 0)))], [.inr (0, (14, 0)), .inr (0, (10, 0)), .inr (0, (9, 0)), .inr (0, (8, 0)), .inr (3, (0, 1))]), [], [], [(0, 0), (0, 0), (0, 0), (0, 0), (0, 0), (0, 0), (0, 0), (0, 0), (8, 0), (9, 0), (10, 0), (11, 0), (14, 0)], 1)
noncomputable def rxe247_0_0 : rx_End × List (Nat × Int × Int) := (([(0, 0), (0, 0), (0, 0), (0, 0), (0, 0), (0, 0), (0, 0), (0, 0), ((-2147483648), (-1)), ((-2147483648), 2147483647), ((-2147483648), 2147483647), ((-2147483648), 2147483647)], [], [(((0, 1), 4), .inr (3, (0, 5))), (((0, 0), 0), .inr (3, (0, 1)))], some (.inr (0, (0, (-1))))), [])
noncomputable def rxe247_0_1 : rx_End × List (Nat × Int × Int) := (([(0, 0), (0, 0), (0, 0), (0, 0), (0, 0), (0, 0), (0, 0), (0, 0), (0, 2147483647), ((-2147483648), 2147483647), ((-2147483648), 2147483647), ((-2147483648), 2147483647), (0, 8)], [(1, (12, 0), (8, 0))], [(((0, 0), 1851192626986356797424340330377019318111018015026043177556312064000000), .inr (0, (12, 0))), (((0, 5), 0), .inr (0, (12, 0))), (((0, 1), 4), .inr (3, (0, 5))), (((0, 0), 0), .inr (3, (0, 1)))], some (.inr (0, (0, (-1))))), [])
noncomputable def rxe247_0_2 : rx_End × List (Nat × Int × Int) := (([(0, 0), (0, 0), (0, 0), (0, 0), (0, 0), (0, 0), (0, 0), (0, 0), (0, 7), ((-2147483648), (-1)), ((-2147483648), 2147483647), ((-2147483648), 2147483647), (1, 8)], [(0, (8, 0), (12, 0))], [(((0, 0), 1851192626986356797424340330377019318111018015026043177556312064000000), .inr (0, (12, 0))), (((0, 5), 0), .inr (0, (12, 0))), (((0, 1), 4), .inr (3, (0, 5))), (((0, 0), 0), .inr (3, (0, 1)))], some (.inr (0, (0, (-1))))), [])
noncomputable def rxe247_0_3 : rx_End × List (Nat × Int × Int) := (([(0, 0), (0, 0), (0, 0), (0, 0), (0, 0), (0, 0), (0, 0), (0, 0), (0, 7), (0, 2147483647), ((-2147483648), 2147483647), ((-2147483648), 2147483647), (1, 8), (0, 6)], [(1, (13, 0), (9, 0)), (0, (8, 0), (12, 0))], [(((0, 0), 1851192626986356797424340330377019318111018015026043177553952768000000), .inr (0, (13, 0))), (((0, 1), 0), .inr (0, (13, 0))), (((0, 0), 1851192626986356797424340330377019318111018015026043177556312064000000), .inr (0, (12, 0))), (((0, 5), 0), .inr (0, (12, 0))), (((0, 1), 4), .inr (3, (0, 5))), (((0, 0), 0), .inr (3, (0, 1)))], some (.inr (0, (0, (-1))))), [])
noncomputable def rxe247_0_4 : rx_End × List (Nat × Int × Int) := (([(0, 0), (0, 0), (0, 0), (0, 0), (0, 0), (0, 0), (0, 0), (0, 0), (0, 7), (0, 5), ((-2147483648), (-2)), ((-2147483648), 2147483647), (1, 8), (1, 6)], [(3, (10, 0), (0, (-1))), (0, (9, 0), (13, 0)), (0, (8, 0), (12, 0))], [(((0, 0), 1851192626986356797424340330377019318111018015026043177553952768000000), .inr (0, (13, 0))), (((0, 1), 0), .inr (0, (13, 0))), (((0, 0), 1851192626986356797424340330377019318111018015026043177556312064000000), .inr (0, (12, 0))), (((0, 5), 0), .inr (0, (12, 0))), (((0, 1), 4), .inr (3, (0, 5))), (((0, 0), 0), .inr (3, (0, 1)))], some (.inr (0, (0, (-1))))), [])
noncomputable def rxe247_0_5 : rx_End × List (Nat × Int × Int) := (([(0, 0), (0, 0), (0, 0), (0, 0), (0, 0), (0, 0), (0, 0), (0, 0), (0, 7), (0, 5), (1, 2147483647), ((-2147483648), 2147483647), (1, 8), (1, 6)], [(1, (12, 0), (10, 0)), (3, (10, 0), (0, (-1))), (0, (9, 0), (13, 0)), (0, (8, 0), (12, 0))], [(((0, 0), 1851192626986356797424340330377019318111018015026043177553952768000000), .inr (0, (13, 0))), (((0, 1), 0), .inr (0, (13, 0))), (((0, 0), 1851192626986356797424340330377019318111018015026043177556312064000000), .inr (0, (12, 0))), (((0, 5), 0), .inr (0, (12, 0))), (((0, 1), 4), .inr (3, (0, 5))), (((0, 0), 0), .inr (3, (0, 1)))], some (.inr (0, (0, (-1))))), [])
noncomputable def rxe247_0_6 : rx_End × List (Nat × Int × Int) := (([(0, 0), (0, 0), (0, 0), (0, 0), (0, 0), (0, 0), (0, 0), (0, 0), (0, 7), (0, 5), (0, 7), (3, 2147483647), (1, 8), (1, 6)], [(0, (10, 0), (12, 0)), (3, (10, 0), (0, (-1))), (0, (9, 0), (13, 0)), (0, (8, 0), (12, 0))], [(((0, 0), 1851192626986356797424340330377019318111018015026043177553952768000000), .inr (0, (13, 0))), (((0, 1), 0), .inr (0, (13, 0))), (((0, 0), 1851192626986356797424340330377019318111018015026043177556312064000000), .inr (0, (12, 0))), (((0, 5), 0), .inr (0, (12, 0))), (((0, 1), 4), .inr (3, (0, 5))), (((0, 0), 0), .inr (3, (0, 1)))], some (.inr (0, (0, (-1))))), [])
noncomputable def rxe247_0_7 : rx_End × List (Nat × Int × Int) := (([(0, 0), (0, 0), (0, 0), (0, 0), (0, 0), (0, 0), (0, 0), (0, 0), (0, 7), (0, 5), (0, 7), ((-2147483648), (-1)), (1, 8), (1, 6)], [(0, (10, 0), (12, 0)), (3, (10, 0), (0, (-1))), (0, (9, 0), (13, 0)), (0, (8, 0), (12, 0))], [(((0, 0), 1851192626986356797424340330377019318111018015026043177553952768000000), .inr (0, (13, 0))), (((0, 1), 0), .inr (0, (13, 0))), (((0, 0), 1851192626986356797424340330377019318111018015026043177556312064000000), .inr (0, (12, 0))), (((0, 5), 0), .inr (0, (12, 0))), (((0, 1), 4), .inr (3, (0, 5))), (((0, 0), 0), .inr (3, (0, 1)))], some (.inr (0, (0, (-1))))), [])
noncomputable def rxe247_0_8 : rx_End × List (Nat × Int × Int) := (([(0, 0), (0, 0), (0, 0), (0, 0), (0, 0), (0, 0), (0, 0), (0, 0), (0, 7), (0, 5), ((-1), (-1)), (3, 2147483647), (1, 8), (1, 6)], [(0, (9, 0), (13, 0)), (0, (8, 0), (12, 0))], [(((0, 0), 1851192626986356797424340330377019318111018015026043177553952768000000), .inr (0, (13, 0))), (((0, 1), 0), .inr (0, (13, 0))), (((0, 0), 1851192626986356797424340330377019318111018015026043177556312064000000), .inr (0, (12, 0))), (((0, 5), 0), .inr (0, (12, 0))), (((0, 1), 4), .inr (3, (0, 5))), (((0, 0), 0), .inr (3, (0, 1)))], some (.inr (0, (0, (-1))))), [])
noncomputable def rxe247_0_9 : rx_End × List (Nat × Int × Int) := (([(0, 0), (0, 0), (0, 0), (0, 0), (0, 0), (0, 0), (0, 0), (0, 0), (0, 7), (0, 5), ((-1), (-1)), ((-2147483648), (-1)), (1, 8), (1, 6)], [(0, (9, 0), (13, 0)), (0, (8, 0), (12, 0))], [(((0, 0), 1851192626986356797424340330377019318111018015026043177553952768000000), .inr (0, (13, 0))), (((0, 1), 0), .inr (0, (13, 0))), (((0, 0), 1851192626986356797424340330377019318111018015026043177556312064000000), .inr (0, (12, 0))), (((0, 5), 0), .inr (0, (12, 0))), (((0, 1), 4), .inr (3, (0, 5))), (((0, 0), 0), .inr (3, (0, 1)))], some (.inr (0, (0, (-1))))), [])
noncomputable def rxe247_2_0 : rx_End × List (Nat × Int × Int) := (([(0, 0), (0, 0), (0, 0), (0, 0), (0, 0), (0, 0), (0, 0), (0, 0), (0, 7), (0, 5), ((-1), 7), (0, 2), (0, 300), (0, 300)], [], [(((0, 0), 1851192626986356797424374018331344491018900889112178922618683392000000), .inr (0, (13, 0))), (((0, 1), 17), .inr (3, (0, 21))), (((0, 0), 0), .inr (3, (0, 1)))], some (.inr (0, (13, 0)))), [])
noncomputable def rxY247 : List bx_HE := [(rxz247_0, [rxo247_0_0, rxo247_0_1], [rxe247_0_0, rxe247_0_1, rxe247_0_2, rxe247_0_3, rxe247_0_4, rxe247_0_5, rxe247_0_6, rxe247_0_7, rxe247_0_8, rxe247_0_9]), (rxz247_1, [], []), (rxz247_2, [], [rxe247_2_0])]
noncomputable def rxU247 (q : bx_HE) : Bool := Nat.beq (rx_zpc q.1) 77
noncomputable def rxYB247 : bx_B := (rxV, rxNP, rxDmf, bx_mdH rxC247.2.2.1)
set_option maxRecDepth 100000 in
theorem rxYc247 : bx_chkH rxYB247 rxM247 rxC247 rxY247 (rxU247, fun cut z => rx_ex2 (rxCT rxYB247 rxCnE) cut 30000 rxC247.2.2.2.1 247 z) = true := by decide +kernel
noncomputable def rxI247 (S0 : Nat → Int → Int) (ws : List Int) (i : Nat) : bx_SP := fun S r => match i with | 0 => rxI247_0 S0 ws S (r 8) (r 9) (r 10) (r 11) | 1 => rxI247_1 S0 ws S (r 8) (r 9) (r 10) (r 11) (r 12) | 2 => rxI247_2 S0 ws S (r 8) (r 9) (r 10) (r 11) (r 12) | _ => False
noncomputable def rxm247 (S0 : Nat → Int → Int) (ws : List Int) (i : Nat) (S : Nat → Int → Int) (r : Nat → Int) : Nat := match i with | 0 => rxm247_0 S0 ws S (r 8) (r 9) (r 10) (r 11) | 1 => rxm247_1 S0 ws S (r 8) (r 9) (r 10) (r 11) (r 12) | 2 => rxm247_2 S0 ws S (r 8) (r 9) (r 10) (r 11) (r 12) | _ => 0
noncomputable def rxP247 (S0 : Nat → Int → Int) (ws : List Int) : Prop := rkDp S0
noncomputable def rxPS247 (S0 : Nat → Int → Int) (ws : List Int) (S : Nat → Int → Int) (w : Option Int) : Prop := ∃ p pa t q : Int, ws = [0, p, pa, t, q] ∧ (((p < 0 ∨ S0 5 0 ≤ p ∨ pa < 0 ∨ S0 1 0 ≤ pa ∨ (t ≠ -1 ∧ (t < 0 ∨ S0 5 0 ≤ t)) ∨ q < 0 ∨ 2 < q) ∧ w = some (-1)) ∨ ((0 ≤ p ∧ p < S0 5 0 ∧ 0 ≤ pa ∧ pa < S0 1 0 ∧ (t = -1 ∨ (0 ≤ t ∧ t < S0 5 0)) ∧ 0 ≤ q ∧ q ≤ 2) ∧ ∃ z : rkH3, rkDs S0 p pa t (S0 19 0) z ∧ ((q = 0 ∧ w = some z.1) ∨ (q = 1 ∧ w = some z.2.1) ∨ (q = 2 ∧ w = some z.2.2))))
theorem rxk247_1 {S0 : Nat → Int → Int} {ws : List Int} {S : Nat → Int → Int} {p pa t q y : Int} (hP : rxP247 S0 ws) (hin : bx_same rxL (bx_mdl rxC247.2.2.1) S0 S) (I0 : bx_Inv rxL S) (hinv : rxI247_1 S0 ws S p pa t q y) (l8 : 0 ≤ p) (u8 : p ≤ 7) (l9 : 0 ≤ pa) (u9 : pa ≤ 5) (l10 : (-1) ≤ t) (u10 : t ≤ 7) (l11 : 0 ≤ q) (u11 : q ≤ 2) (l12 : 0 ≤ y) (u12 : y ≤ 300) : rxPHED S [1, p, pa, t, y] ∧ ∀ (S_p : Nat → Int → Int), rxPSHED S [1, p, pa, t, y] S_p none → bx_Inv rxL S_p → bx_same rxL (bx_mdl rxCHED.2.2.1) S S_p → rxI247_2 S0 ws S_p p pa t q y ∧ rxm247_2 S0 ws S_p p pa t q y < rxm247_1 S0 ws S p pa t q y := by
  obtain ⟨hS, hw, hg, hy⟩ := hinv
  subst hS
  refine ⟨⟨p, pa, t, y, rfl, by omega, hP⟩, fun S_p hq _ hsm => ⟨⟨hw, hg, ?_⟩, by unfold rxm247_1 rxm247_2; omega⟩⟩
  obtain ⟨-, p2, pa2, t2, y2, hw3, h⟩ := hq
  have k0 : p = p2 := Option.some.inj (congrArg (fun l : List Int => l[1]?) hw3)
  have k1 : pa = pa2 := Option.some.inj (congrArg (fun l : List Int => l[2]?) hw3)
  have k2 : t = t2 := Option.some.inj (congrArg (fun l : List Int => l[3]?) hw3)
  have k3 : y = y2 := Option.some.inj (congrArg (fun l : List Int => l[4]?) hw3)
  subst k0
  subst k1
  subst k2
  subst k3
  rw [← hy]
  exact h
theorem rxs247_1 {X : (Nat → Int → Int) → Prop} {S0 : Nat → Int → Int} {ws : List Int} (hP : rxP247 S0 ws) : rx_obK X S0 rxC247.2.2.1 rxCHED.2.2.1 (rxI247 S0 ws) (rxm247 S0 ws) 1 2 rxz247_1 rxz247_2 [.inr (3, (0, 1)), .inr (0, (8, 0)), .inr (0, (9, 0)), .inr (0, (10, 0)), .inr (0, (12, 0))] none rxPHED rxPSHED := by
  intro S r hinv hXS I0 hin hs_ hf_
  have b_ := bx_bds_sat hs_
  have f_ := bx_fcl_ok hs_.1 hf_
  obtain ⟨⟨l8, u8⟩, ⟨l9, u9⟩, ⟨l10, u10⟩, ⟨l11, u11⟩, ⟨l12, u12⟩, -⟩ := b_
  have g := rxk247_1 hP hin I0 hinv l8 u8 l9 u9 l10 u10 l11 u11 l12 u12
  have ea : List.map (bx_num r) [.inr (3, (0, 1)), .inr (0, (8, 0)), .inr (0, (9, 0)), .inr (0, (10, 0)), .inr (0, (12, 0))] = [1, (r 8), (r 9), (r 10), (r 12)] := by
    simp only [List.map_cons, List.map_nil, bx_xv_ok hs_.1]
    rfl
  rw [ea]
  refine ⟨g.1, fun S_p w r_p hPS hX_p I1 hsm hr hw hs_p => ?_⟩
  have hw : w = none := hPS.1
  subst hw
  have g2 := g.2 S_p hPS I1 hsm
  show rxI247_2 S0 ws S_p (r_p 8) (r_p 9) (r_p 10) (r_p 11) (r_p 12) ∧ rxm247_2 S0 ws S_p (r_p 8) (r_p 9) (r_p 10) (r_p 11) (r_p 12) < _
  rw [hr 8 (by decide), hr 9 (by decide), hr 10 (by decide), hr 11 (by decide), hr 12 (by decide)]
  exact g2
theorem rxc247_0_0 {S0 : Nat → Int → Int} {ws : List Int} {S : Nat → Int → Int} {p pa t q x12 x13 x14 : Int} (hP : rxP247 S0 ws) (hin : bx_same rxL (bx_mdl rxC247.2.2.1) S0 S) (I0 : bx_Inv rxL S) (hinv : rxI247_0 S0 ws S p pa t q) (l8 : 0 ≤ p) (u8 : p ≤ 7) (l9 : 0 ≤ pa) (u9 : pa ≤ 5) (l10 : 0 ≤ t) (u10 : t ≤ 7) (l11 : 0 ≤ q) (u11 : q ≤ 2) (l12 : 1 ≤ x12) (u12 : x12 ≤ 8) (l13 : 1 ≤ x13) (u13 : x13 ≤ 6) (l14 : 0 ≤ x14) (u14 : x14 ≤ 300) (f0 : t < x12) (f1 : t ≠ (-1)) (f2 : pa < x13) (f3 : p < x12) (e2 : S 5 0 = x12) (e1 : S 1 0 = x13) (e0 : S 19 0 = x14) : (True) ∧ (True) ∧ rxI247_1 S0 ws S p pa t q x14 ∧ rxm247_1 S0 ws S p pa t q x14 < rxm247_0 S0 ws S p pa t q := by
  obtain ⟨rfl, hw⟩ := hinv
  exact ⟨trivial, trivial, ⟨rfl, hw, by omega, by omega⟩, by unfold rxm247_0 rxm247_1; omega⟩
theorem rxg247_0_0 {X : (Nat → Int → Int) → Prop} {S0 : Nat → Int → Int} {ws : List Int} (hP : rxP247 S0 ws) : bx_obC rxL X S0 rxC247.2.2.1 (rxI247 S0 ws) (rxm247 S0 ws) 0 rxz247_0 rxo247_0_0 := by
  intro S S_p r r_p hinv hX hin hsm_ hseg
  obtain ⟨I0, I1, h0_, hr_, b_, f_, d_⟩ := bx_cl (evs := [(0, (0, 19), (0, 0), .inr (0, (14, 0))), (0, (0, 1), (0, 0), .inr (0, (13, 0))), (0, (0, 5), (0, 0), .inr (0, (12, 0)))]) (fvs := [(0, (10, 0), (12, 0), (0, 0)), (3, (10, 0), (0, (-1)), (0, 0)), (0, (9, 0), (13, 0), (0, 0)), (0, (8, 0), (12, 0), (0, 0))]) hseg (by decide +kernel) (by decide +kernel)
  have hinv : rxI247_0 S0 ws S (r 8) (r 9) (r 10) (r 11) := hinv
  rw [← hr_ 8 (by decide), ← hr_ 9 (by decide), ← hr_ 10 (by decide), ← hr_ 11 (by decide)] at hinv
  obtain ⟨⟨l8, u8⟩, ⟨l9, u9⟩, ⟨l10, u10⟩, ⟨l11, u11⟩, ⟨l12, u12⟩, ⟨l13, u13⟩, ⟨l14, u14⟩, -⟩ := b_
  obtain ⟨f0, f1, f2, f3, -⟩ := f_
  obtain ⟨e0, ⟨e1, ⟨e2, w_⟩⟩⟩ := d_
  subst w_
  have g := rxc247_0_0 hP hin I0 hinv l8 u8 l9 u9 l10 u10 l11 u11 l12 u12 l13 u13 l14 u14 f0 f1 f2 f3 e2 e1 e0
  refine ⟨bx_narP_ok (l := []) g.1, bx_nfP_ok h0_ (fvs := []) (by decide +kernel) g.2.1, ?_, ?_⟩
  · show rxI247_1 S0 ws S_p (bx_val [(0, 0), (0, 0), (0, 0), (0, 0), (0, 0), (0, 0), (0, 0), (0, 0), (8, 0), (9, 0), (10, 0), (11, 0), (14, 0)] r_p 8) (bx_val [(0, 0), (0, 0), (0, 0), (0, 0), (0, 0), (0, 0), (0, 0), (0, 0), (8, 0), (9, 0), (10, 0), (11, 0), (14, 0)] r_p 9) (bx_val [(0, 0), (0, 0), (0, 0), (0, 0), (0, 0), (0, 0), (0, 0), (0, 0), (8, 0), (9, 0), (10, 0), (11, 0), (14, 0)] r_p 10) (bx_val [(0, 0), (0, 0), (0, 0), (0, 0), (0, 0), (0, 0), (0, 0), (0, 0), (8, 0), (9, 0), (10, 0), (11, 0), (14, 0)] r_p 11) (bx_val [(0, 0), (0, 0), (0, 0), (0, 0), (0, 0), (0, 0), (0, 0), (0, 0), (8, 0), (9, 0), (10, 0), (11, 0), (14, 0)] r_p 12)
    rw [bx_val_x (n := 8) (e := (8, 0)) h0_ rfl, bx_val_x (n := 9) (e := (9, 0)) h0_ rfl, bx_val_x (n := 10) (e := (10, 0)) h0_ rfl, bx_val_x (n := 11) (e := (11, 0)) h0_ rfl, bx_val_x (n := 12) (e := (14, 0)) h0_ rfl]
    exact g.2.2.1
  · show rxm247_1 S0 ws S_p (bx_val [(0, 0), (0, 0), (0, 0), (0, 0), (0, 0), (0, 0), (0, 0), (0, 0), (8, 0), (9, 0), (10, 0), (11, 0), (14, 0)] r_p 8) (bx_val [(0, 0), (0, 0), (0, 0), (0, 0), (0, 0), (0, 0), (0, 0), (0, 0), (8, 0), (9, 0), (10, 0), (11, 0), (14, 0)] r_p 9) (bx_val [(0, 0), (0, 0), (0, 0), (0, 0), (0, 0), (0, 0), (0, 0), (0, 0), (8, 0), (9, 0), (10, 0), (11, 0), (14, 0)] r_p 10) (bx_val [(0, 0), (0, 0), (0, 0), (0, 0), (0, 0), (0, 0), (0, 0), (0, 0), (8, 0), (9, 0), (10, 0), (11, 0), (14, 0)] r_p 11) (bx_val [(0, 0), (0, 0), (0, 0), (0, 0), (0, 0), (0, 0), (0, 0), (0, 0), (8, 0), (9, 0), (10, 0), (11, 0), (14, 0)] r_p 12) < rxm247_0 S0 ws S_p (r 8) (r 9) (r 10) (r 11)
    rw [bx_val_x (n := 8) (e := (8, 0)) h0_ rfl, bx_val_x (n := 9) (e := (9, 0)) h0_ rfl, bx_val_x (n := 10) (e := (10, 0)) h0_ rfl, bx_val_x (n := 11) (e := (11, 0)) h0_ rfl, bx_val_x (n := 12) (e := (14, 0)) h0_ rfl, ← hr_ 8 (by decide), ← hr_ 9 (by decide), ← hr_ 10 (by decide), ← hr_ 11 (by decide)]
    exact g.2.2.2
theorem rxc247_0_1 {S0 : Nat → Int → Int} {ws : List Int} {S : Nat → Int → Int} {p pa t q x12 x13 x14 : Int} (hP : rxP247 S0 ws) (hin : bx_same rxL (bx_mdl rxC247.2.2.1) S0 S) (I0 : bx_Inv rxL S) (hinv : rxI247_0 S0 ws S p pa t q) (l8 : 0 ≤ p) (u8 : p ≤ 7) (l9 : 0 ≤ pa) (u9 : pa ≤ 5) (l10 : (-1) ≤ t) (u10 : t ≤ (-1)) (l11 : 0 ≤ q) (u11 : q ≤ 2) (l12 : 1 ≤ x12) (u12 : x12 ≤ 8) (l13 : 1 ≤ x13) (u13 : x13 ≤ 6) (l14 : 0 ≤ x14) (u14 : x14 ≤ 300) (f0 : pa < x13) (f1 : p < x12) (e2 : S 5 0 = x12) (e1 : S 1 0 = x13) (e0 : S 19 0 = x14) : (True) ∧ (True) ∧ rxI247_1 S0 ws S p pa t q x14 ∧ rxm247_1 S0 ws S p pa t q x14 < rxm247_0 S0 ws S p pa t q := by
  obtain ⟨rfl, hw⟩ := hinv
  exact ⟨trivial, trivial, ⟨rfl, hw, by omega, by omega⟩, by unfold rxm247_0 rxm247_1; omega⟩
theorem rxg247_0_1 {X : (Nat → Int → Int) → Prop} {S0 : Nat → Int → Int} {ws : List Int} (hP : rxP247 S0 ws) : bx_obC rxL X S0 rxC247.2.2.1 (rxI247 S0 ws) (rxm247 S0 ws) 0 rxz247_0 rxo247_0_1 := by
  intro S S_p r r_p hinv hX hin hsm_ hseg
  obtain ⟨I0, I1, h0_, hr_, b_, f_, d_⟩ := bx_cl (evs := [(0, (0, 19), (0, 0), .inr (0, (14, 0))), (0, (0, 1), (0, 0), .inr (0, (13, 0))), (0, (0, 5), (0, 0), .inr (0, (12, 0)))]) (fvs := [(0, (9, 0), (13, 0), (0, 0)), (0, (8, 0), (12, 0), (0, 0))]) hseg (by decide +kernel) (by decide +kernel)
  have hinv : rxI247_0 S0 ws S (r 8) (r 9) (r 10) (r 11) := hinv
  rw [← hr_ 8 (by decide), ← hr_ 9 (by decide), ← hr_ 10 (by decide), ← hr_ 11 (by decide)] at hinv
  obtain ⟨⟨l8, u8⟩, ⟨l9, u9⟩, ⟨l10, u10⟩, ⟨l11, u11⟩, ⟨l12, u12⟩, ⟨l13, u13⟩, ⟨l14, u14⟩, -⟩ := b_
  obtain ⟨f0, f1, -⟩ := f_
  obtain ⟨e0, ⟨e1, ⟨e2, w_⟩⟩⟩ := d_
  subst w_
  have g := rxc247_0_1 hP hin I0 hinv l8 u8 l9 u9 l10 u10 l11 u11 l12 u12 l13 u13 l14 u14 f0 f1 e2 e1 e0
  refine ⟨bx_narP_ok (l := []) g.1, bx_nfP_ok h0_ (fvs := []) (by decide +kernel) g.2.1, ?_, ?_⟩
  · show rxI247_1 S0 ws S_p (bx_val [(0, 0), (0, 0), (0, 0), (0, 0), (0, 0), (0, 0), (0, 0), (0, 0), (8, 0), (9, 0), (10, 0), (11, 0), (14, 0)] r_p 8) (bx_val [(0, 0), (0, 0), (0, 0), (0, 0), (0, 0), (0, 0), (0, 0), (0, 0), (8, 0), (9, 0), (10, 0), (11, 0), (14, 0)] r_p 9) (bx_val [(0, 0), (0, 0), (0, 0), (0, 0), (0, 0), (0, 0), (0, 0), (0, 0), (8, 0), (9, 0), (10, 0), (11, 0), (14, 0)] r_p 10) (bx_val [(0, 0), (0, 0), (0, 0), (0, 0), (0, 0), (0, 0), (0, 0), (0, 0), (8, 0), (9, 0), (10, 0), (11, 0), (14, 0)] r_p 11) (bx_val [(0, 0), (0, 0), (0, 0), (0, 0), (0, 0), (0, 0), (0, 0), (0, 0), (8, 0), (9, 0), (10, 0), (11, 0), (14, 0)] r_p 12)
    rw [bx_val_x (n := 8) (e := (8, 0)) h0_ rfl, bx_val_x (n := 9) (e := (9, 0)) h0_ rfl, bx_val_x (n := 10) (e := (10, 0)) h0_ rfl, bx_val_x (n := 11) (e := (11, 0)) h0_ rfl, bx_val_x (n := 12) (e := (14, 0)) h0_ rfl]
    exact g.2.2.1
  · show rxm247_1 S0 ws S_p (bx_val [(0, 0), (0, 0), (0, 0), (0, 0), (0, 0), (0, 0), (0, 0), (0, 0), (8, 0), (9, 0), (10, 0), (11, 0), (14, 0)] r_p 8) (bx_val [(0, 0), (0, 0), (0, 0), (0, 0), (0, 0), (0, 0), (0, 0), (0, 0), (8, 0), (9, 0), (10, 0), (11, 0), (14, 0)] r_p 9) (bx_val [(0, 0), (0, 0), (0, 0), (0, 0), (0, 0), (0, 0), (0, 0), (0, 0), (8, 0), (9, 0), (10, 0), (11, 0), (14, 0)] r_p 10) (bx_val [(0, 0), (0, 0), (0, 0), (0, 0), (0, 0), (0, 0), (0, 0), (0, 0), (8, 0), (9, 0), (10, 0), (11, 0), (14, 0)] r_p 11) (bx_val [(0, 0), (0, 0), (0, 0), (0, 0), (0, 0), (0, 0), (0, 0), (0, 0), (8, 0), (9, 0), (10, 0), (11, 0), (14, 0)] r_p 12) < rxm247_0 S0 ws S_p (r 8) (r 9) (r 10) (r 11)
    rw [bx_val_x (n := 8) (e := (8, 0)) h0_ rfl, bx_val_x (n := 9) (e := (9, 0)) h0_ rfl, bx_val_x (n := 10) (e := (10, 0)) h0_ rfl, bx_val_x (n := 11) (e := (11, 0)) h0_ rfl, bx_val_x (n := 12) (e := (14, 0)) h0_ rfl, ← hr_ 8 (by decide), ← hr_ 9 (by decide), ← hr_ 10 (by decide), ← hr_ 11 (by decide)]
    exact g.2.2.2
theorem rxd247_0_0 {S0 : Nat → Int → Int} {ws : List Int} {S : Nat → Int → Int} {p pa t q : Int} (hP : rxP247 S0 ws) (hin : bx_same rxL (bx_mdl rxC247.2.2.1) S0 S) (hin2 : bx_same rxL (bx_mdl rxC247.2.2.1) S S) (I0 : bx_Inv rxL S) (I1 : bx_Inv rxL S) (hinv : rxI247_0 S0 ws S p pa t q) (l8 : (-2147483648) ≤ p) (u8 : p ≤ (-1)) (l9 : (-2147483648) ≤ pa) (u9 : pa ≤ 2147483647) (l10 : (-2147483648) ≤ t) (u10 : t ≤ 2147483647) (l11 : (-2147483648) ≤ q) (u11 : q ≤ 2147483647) : (True) ∧ rxPS247 S0 ws S (some ((-1))) := by
  obtain ⟨rfl, hw⟩ := hinv
  exact ⟨trivial, p, pa, t, q, hw, Or.inl ⟨by omega, rfl⟩⟩
theorem rxf247_0_0 {X : (Nat → Int → Int) → Prop} {S0 : Nat → Int → Int} {ws : List Int} (hP : rxP247 S0 ws) : bx_obE rxL X S0 rxC247.2.2.1 (rxI247 S0 ws) (rxPS247 S0 ws) 0 rxz247_0 rxe247_0_0 := by
  intro S S_p r r_p hinv hX hin hsm_ hseg
  obtain ⟨I0, I1, h0_, hr_, b_, f_, d_⟩ := bx_cl (evs := []) (fvs := []) hseg (by decide +kernel) (by decide +kernel)
  have hinv : rxI247_0 S0 ws S (r 8) (r 9) (r 10) (r 11) := hinv
  rw [← hr_ 8 (by decide), ← hr_ 9 (by decide), ← hr_ 10 (by decide), ← hr_ 11 (by decide)] at hinv
  obtain ⟨⟨l8, u8⟩, ⟨l9, u9⟩, ⟨l10, u10⟩, ⟨l11, u11⟩, -⟩ := b_
  have w_ := d_
  subst w_
  have g := rxd247_0_0 hP hin hsm_ I0 I1 hinv l8 u8 l9 u9 l10 u10 l11 u11
  refine ⟨bx_narP_ok (l := []) g.1, ?_⟩
  show rxPS247 S0 ws S_p (some (bx_num r_p (.inr (0, (0, (-1))))))
  rw [bx_xv_ok h0_]
  exact g.2
theorem rxd247_0_1 {S0 : Nat → Int → Int} {ws : List Int} {S : Nat → Int → Int} {p pa t q x12 : Int} (hP : rxP247 S0 ws) (hin : bx_same rxL (bx_mdl rxC247.2.2.1) S0 S) (hin2 : bx_same rxL (bx_mdl rxC247.2.2.1) S S) (I0 : bx_Inv rxL S) (I1 : bx_Inv rxL S) (hinv : rxI247_0 S0 ws S p pa t q) (l8 : 0 ≤ p) (u8 : p ≤ 2147483647) (l9 : (-2147483648) ≤ pa) (u9 : pa ≤ 2147483647) (l10 : (-2147483648) ≤ t) (u10 : t ≤ 2147483647) (l11 : (-2147483648) ≤ q) (u11 : q ≤ 2147483647) (l12 : 0 ≤ x12) (u12 : x12 ≤ 8) (f0 : x12 ≤ p) (e0 : S 5 0 = x12) : (True) ∧ rxPS247 S0 ws S (some ((-1))) := by
  obtain ⟨rfl, hw⟩ := hinv
  exact ⟨trivial, p, pa, t, q, hw, Or.inl ⟨by omega, rfl⟩⟩
theorem rxf247_0_1 {X : (Nat → Int → Int) → Prop} {S0 : Nat → Int → Int} {ws : List Int} (hP : rxP247 S0 ws) : bx_obE rxL X S0 rxC247.2.2.1 (rxI247 S0 ws) (rxPS247 S0 ws) 0 rxz247_0 rxe247_0_1 := by
  intro S S_p r r_p hinv hX hin hsm_ hseg
  obtain ⟨I0, I1, h0_, hr_, b_, f_, d_⟩ := bx_cl (evs := [(0, (0, 5), (0, 0), .inr (0, (12, 0)))]) (fvs := [(1, (12, 0), (8, 0), (0, 0))]) hseg (by decide +kernel) (by decide +kernel)
  have hinv : rxI247_0 S0 ws S (r 8) (r 9) (r 10) (r 11) := hinv
  rw [← hr_ 8 (by decide), ← hr_ 9 (by decide), ← hr_ 10 (by decide), ← hr_ 11 (by decide)] at hinv
  obtain ⟨⟨l8, u8⟩, ⟨l9, u9⟩, ⟨l10, u10⟩, ⟨l11, u11⟩, ⟨l12, u12⟩, -⟩ := b_
  obtain ⟨f0, -⟩ := f_
  obtain ⟨e0, w_⟩ := d_
  subst w_
  have g := rxd247_0_1 hP hin hsm_ I0 I1 hinv l8 u8 l9 u9 l10 u10 l11 u11 l12 u12 f0 e0
  refine ⟨bx_narP_ok (l := []) g.1, ?_⟩
  show rxPS247 S0 ws S_p (some (bx_num r_p (.inr (0, (0, (-1))))))
  rw [bx_xv_ok h0_]
  exact g.2
theorem rxd247_0_2 {S0 : Nat → Int → Int} {ws : List Int} {S : Nat → Int → Int} {p pa t q x12 : Int} (hP : rxP247 S0 ws) (hin : bx_same rxL (bx_mdl rxC247.2.2.1) S0 S) (hin2 : bx_same rxL (bx_mdl rxC247.2.2.1) S S) (I0 : bx_Inv rxL S) (I1 : bx_Inv rxL S) (hinv : rxI247_0 S0 ws S p pa t q) (l8 : 0 ≤ p) (u8 : p ≤ 7) (l9 : (-2147483648) ≤ pa) (u9 : pa ≤ (-1)) (l10 : (-2147483648) ≤ t) (u10 : t ≤ 2147483647) (l11 : (-2147483648) ≤ q) (u11 : q ≤ 2147483647) (l12 : 1 ≤ x12) (u12 : x12 ≤ 8) (f0 : p < x12) (e0 : S 5 0 = x12) : (True) ∧ rxPS247 S0 ws S (some ((-1))) := by
  obtain ⟨rfl, hw⟩ := hinv
  exact ⟨trivial, p, pa, t, q, hw, Or.inl ⟨by omega, rfl⟩⟩
theorem rxf247_0_2 {X : (Nat → Int → Int) → Prop} {S0 : Nat → Int → Int} {ws : List Int} (hP : rxP247 S0 ws) : bx_obE rxL X S0 rxC247.2.2.1 (rxI247 S0 ws) (rxPS247 S0 ws) 0 rxz247_0 rxe247_0_2 := by
  intro S S_p r r_p hinv hX hin hsm_ hseg
  obtain ⟨I0, I1, h0_, hr_, b_, f_, d_⟩ := bx_cl (evs := [(0, (0, 5), (0, 0), .inr (0, (12, 0)))]) (fvs := [(0, (8, 0), (12, 0), (0, 0))]) hseg (by decide +kernel) (by decide +kernel)
  have hinv : rxI247_0 S0 ws S (r 8) (r 9) (r 10) (r 11) := hinv
  rw [← hr_ 8 (by decide), ← hr_ 9 (by decide), ← hr_ 10 (by decide), ← hr_ 11 (by decide)] at hinv
  obtain ⟨⟨l8, u8⟩, ⟨l9, u9⟩, ⟨l10, u10⟩, ⟨l11, u11⟩, ⟨l12, u12⟩, -⟩ := b_
  obtain ⟨f0, -⟩ := f_
  obtain ⟨e0, w_⟩ := d_
  subst w_
  have g := rxd247_0_2 hP hin hsm_ I0 I1 hinv l8 u8 l9 u9 l10 u10 l11 u11 l12 u12 f0 e0
  refine ⟨bx_narP_ok (l := []) g.1, ?_⟩
  show rxPS247 S0 ws S_p (some (bx_num r_p (.inr (0, (0, (-1))))))
  rw [bx_xv_ok h0_]
  exact g.2
theorem rxd247_0_3 {S0 : Nat → Int → Int} {ws : List Int} {S : Nat → Int → Int} {p pa t q x12 x13 : Int} (hP : rxP247 S0 ws) (hin : bx_same rxL (bx_mdl rxC247.2.2.1) S0 S) (hin2 : bx_same rxL (bx_mdl rxC247.2.2.1) S S) (I0 : bx_Inv rxL S) (I1 : bx_Inv rxL S) (hinv : rxI247_0 S0 ws S p pa t q) (l8 : 0 ≤ p) (u8 : p ≤ 7) (l9 : 0 ≤ pa) (u9 : pa ≤ 2147483647) (l10 : (-2147483648) ≤ t) (u10 : t ≤ 2147483647) (l11 : (-2147483648) ≤ q) (u11 : q ≤ 2147483647) (l12 : 1 ≤ x12) (u12 : x12 ≤ 8) (l13 : 0 ≤ x13) (u13 : x13 ≤ 6) (f0 : x13 ≤ pa) (f1 : p < x12) (e1 : S 5 0 = x12) (e0 : S 1 0 = x13) : (True) ∧ rxPS247 S0 ws S (some ((-1))) := by
  obtain ⟨rfl, hw⟩ := hinv
  exact ⟨trivial, p, pa, t, q, hw, Or.inl ⟨by omega, rfl⟩⟩
theorem rxf247_0_3 {X : (Nat → Int → Int) → Prop} {S0 : Nat → Int → Int} {ws : List Int} (hP : rxP247 S0 ws) : bx_obE rxL X S0 rxC247.2.2.1 (rxI247 S0 ws) (rxPS247 S0 ws) 0 rxz247_0 rxe247_0_3 := by
  intro S S_p r r_p hinv hX hin hsm_ hseg
  obtain ⟨I0, I1, h0_, hr_, b_, f_, d_⟩ := bx_cl (evs := [(0, (0, 1), (0, 0), .inr (0, (13, 0))), (0, (0, 5), (0, 0), .inr (0, (12, 0)))]) (fvs := [(1, (13, 0), (9, 0), (0, 0)), (0, (8, 0), (12, 0), (0, 0))]) hseg (by decide +kernel) (by decide +kernel)
  have hinv : rxI247_0 S0 ws S (r 8) (r 9) (r 10) (r 11) := hinv
  rw [← hr_ 8 (by decide), ← hr_ 9 (by decide), ← hr_ 10 (by decide), ← hr_ 11 (by decide)] at hinv
  obtain ⟨⟨l8, u8⟩, ⟨l9, u9⟩, ⟨l10, u10⟩, ⟨l11, u11⟩, ⟨l12, u12⟩, ⟨l13, u13⟩, -⟩ := b_
  obtain ⟨f0, f1, -⟩ := f_
  obtain ⟨e0, ⟨e1, w_⟩⟩ := d_
  subst w_
  have g := rxd247_0_3 hP hin hsm_ I0 I1 hinv l8 u8 l9 u9 l10 u10 l11 u11 l12 u12 l13 u13 f0 f1 e1 e0
  refine ⟨bx_narP_ok (l := []) g.1, ?_⟩
  show rxPS247 S0 ws S_p (some (bx_num r_p (.inr (0, (0, (-1))))))
  rw [bx_xv_ok h0_]
  exact g.2
theorem rxd247_0_4 {S0 : Nat → Int → Int} {ws : List Int} {S : Nat → Int → Int} {p pa t q x12 x13 : Int} (hP : rxP247 S0 ws) (hin : bx_same rxL (bx_mdl rxC247.2.2.1) S0 S) (hin2 : bx_same rxL (bx_mdl rxC247.2.2.1) S S) (I0 : bx_Inv rxL S) (I1 : bx_Inv rxL S) (hinv : rxI247_0 S0 ws S p pa t q) (l8 : 0 ≤ p) (u8 : p ≤ 7) (l9 : 0 ≤ pa) (u9 : pa ≤ 5) (l10 : (-2147483648) ≤ t) (u10 : t ≤ (-2)) (l11 : (-2147483648) ≤ q) (u11 : q ≤ 2147483647) (l12 : 1 ≤ x12) (u12 : x12 ≤ 8) (l13 : 1 ≤ x13) (u13 : x13 ≤ 6) (f0 : t ≠ (-1)) (f1 : pa < x13) (f2 : p < x12) (e1 : S 5 0 = x12) (e0 : S 1 0 = x13) : (True) ∧ rxPS247 S0 ws S (some ((-1))) := by
  obtain ⟨rfl, hw⟩ := hinv
  exact ⟨trivial, p, pa, t, q, hw, Or.inl ⟨by omega, rfl⟩⟩
theorem rxf247_0_4 {X : (Nat → Int → Int) → Prop} {S0 : Nat → Int → Int} {ws : List Int} (hP : rxP247 S0 ws) : bx_obE rxL X S0 rxC247.2.2.1 (rxI247 S0 ws) (rxPS247 S0 ws) 0 rxz247_0 rxe247_0_4 := by
  intro S S_p r r_p hinv hX hin hsm_ hseg
  obtain ⟨I0, I1, h0_, hr_, b_, f_, d_⟩ := bx_cl (evs := [(0, (0, 1), (0, 0), .inr (0, (13, 0))), (0, (0, 5), (0, 0), .inr (0, (12, 0)))]) (fvs := [(3, (10, 0), (0, (-1)), (0, 0)), (0, (9, 0), (13, 0), (0, 0)), (0, (8, 0), (12, 0), (0, 0))]) hseg (by decide +kernel) (by decide +kernel)
  have hinv : rxI247_0 S0 ws S (r 8) (r 9) (r 10) (r 11) := hinv
  rw [← hr_ 8 (by decide), ← hr_ 9 (by decide), ← hr_ 10 (by decide), ← hr_ 11 (by decide)] at hinv
  obtain ⟨⟨l8, u8⟩, ⟨l9, u9⟩, ⟨l10, u10⟩, ⟨l11, u11⟩, ⟨l12, u12⟩, ⟨l13, u13⟩, -⟩ := b_
  obtain ⟨f0, f1, f2, -⟩ := f_
  obtain ⟨e0, ⟨e1, w_⟩⟩ := d_
  subst w_
  have g := rxd247_0_4 hP hin hsm_ I0 I1 hinv l8 u8 l9 u9 l10 u10 l11 u11 l12 u12 l13 u13 f0 f1 f2 e1 e0
  refine ⟨bx_narP_ok (l := []) g.1, ?_⟩
  show rxPS247 S0 ws S_p (some (bx_num r_p (.inr (0, (0, (-1))))))
  rw [bx_xv_ok h0_]
  exact g.2
theorem rxd247_0_5 {S0 : Nat → Int → Int} {ws : List Int} {S : Nat → Int → Int} {p pa t q x12 x13 : Int} (hP : rxP247 S0 ws) (hin : bx_same rxL (bx_mdl rxC247.2.2.1) S0 S) (hin2 : bx_same rxL (bx_mdl rxC247.2.2.1) S S) (I0 : bx_Inv rxL S) (I1 : bx_Inv rxL S) (hinv : rxI247_0 S0 ws S p pa t q) (l8 : 0 ≤ p) (u8 : p ≤ 7) (l9 : 0 ≤ pa) (u9 : pa ≤ 5) (l10 : 1 ≤ t) (u10 : t ≤ 2147483647) (l11 : (-2147483648) ≤ q) (u11 : q ≤ 2147483647) (l12 : 1 ≤ x12) (u12 : x12 ≤ 8) (l13 : 1 ≤ x13) (u13 : x13 ≤ 6) (f0 : x12 ≤ t) (f1 : t ≠ (-1)) (f2 : pa < x13) (f3 : p < x12) (e1 : S 5 0 = x12) (e0 : S 1 0 = x13) : (True) ∧ rxPS247 S0 ws S (some ((-1))) := by
  obtain ⟨rfl, hw⟩ := hinv
  exact ⟨trivial, p, pa, t, q, hw, Or.inl ⟨by omega, rfl⟩⟩
theorem rxf247_0_5 {X : (Nat → Int → Int) → Prop} {S0 : Nat → Int → Int} {ws : List Int} (hP : rxP247 S0 ws) : bx_obE rxL X S0 rxC247.2.2.1 (rxI247 S0 ws) (rxPS247 S0 ws) 0 rxz247_0 rxe247_0_5 := by
  intro S S_p r r_p hinv hX hin hsm_ hseg
  obtain ⟨I0, I1, h0_, hr_, b_, f_, d_⟩ := bx_cl (evs := [(0, (0, 1), (0, 0), .inr (0, (13, 0))), (0, (0, 5), (0, 0), .inr (0, (12, 0)))]) (fvs := [(1, (12, 0), (10, 0), (0, 0)), (3, (10, 0), (0, (-1)), (0, 0)), (0, (9, 0), (13, 0), (0, 0)), (0, (8, 0), (12, 0), (0, 0))]) hseg (by decide +kernel) (by decide +kernel)
  have hinv : rxI247_0 S0 ws S (r 8) (r 9) (r 10) (r 11) := hinv
  rw [← hr_ 8 (by decide), ← hr_ 9 (by decide), ← hr_ 10 (by decide), ← hr_ 11 (by decide)] at hinv
  obtain ⟨⟨l8, u8⟩, ⟨l9, u9⟩, ⟨l10, u10⟩, ⟨l11, u11⟩, ⟨l12, u12⟩, ⟨l13, u13⟩, -⟩ := b_
  obtain ⟨f0, f1, f2, f3, -⟩ := f_
  obtain ⟨e0, ⟨e1, w_⟩⟩ := d_
  subst w_
  have g := rxd247_0_5 hP hin hsm_ I0 I1 hinv l8 u8 l9 u9 l10 u10 l11 u11 l12 u12 l13 u13 f0 f1 f2 f3 e1 e0
  refine ⟨bx_narP_ok (l := []) g.1, ?_⟩
  show rxPS247 S0 ws S_p (some (bx_num r_p (.inr (0, (0, (-1))))))
  rw [bx_xv_ok h0_]
  exact g.2
theorem rxd247_0_6 {S0 : Nat → Int → Int} {ws : List Int} {S : Nat → Int → Int} {p pa t q x12 x13 : Int} (hP : rxP247 S0 ws) (hin : bx_same rxL (bx_mdl rxC247.2.2.1) S0 S) (hin2 : bx_same rxL (bx_mdl rxC247.2.2.1) S S) (I0 : bx_Inv rxL S) (I1 : bx_Inv rxL S) (hinv : rxI247_0 S0 ws S p pa t q) (l8 : 0 ≤ p) (u8 : p ≤ 7) (l9 : 0 ≤ pa) (u9 : pa ≤ 5) (l10 : 0 ≤ t) (u10 : t ≤ 7) (l11 : 3 ≤ q) (u11 : q ≤ 2147483647) (l12 : 1 ≤ x12) (u12 : x12 ≤ 8) (l13 : 1 ≤ x13) (u13 : x13 ≤ 6) (f0 : t < x12) (f1 : t ≠ (-1)) (f2 : pa < x13) (f3 : p < x12) (e1 : S 5 0 = x12) (e0 : S 1 0 = x13) : (True) ∧ rxPS247 S0 ws S (some ((-1))) := by
  obtain ⟨rfl, hw⟩ := hinv
  exact ⟨trivial, p, pa, t, q, hw, Or.inl ⟨by omega, rfl⟩⟩
theorem rxf247_0_6 {X : (Nat → Int → Int) → Prop} {S0 : Nat → Int → Int} {ws : List Int} (hP : rxP247 S0 ws) : bx_obE rxL X S0 rxC247.2.2.1 (rxI247 S0 ws) (rxPS247 S0 ws) 0 rxz247_0 rxe247_0_6 := by
  intro S S_p r r_p hinv hX hin hsm_ hseg
  obtain ⟨I0, I1, h0_, hr_, b_, f_, d_⟩ := bx_cl (evs := [(0, (0, 1), (0, 0), .inr (0, (13, 0))), (0, (0, 5), (0, 0), .inr (0, (12, 0)))]) (fvs := [(0, (10, 0), (12, 0), (0, 0)), (3, (10, 0), (0, (-1)), (0, 0)), (0, (9, 0), (13, 0), (0, 0)), (0, (8, 0), (12, 0), (0, 0))]) hseg (by decide +kernel) (by decide +kernel)
  have hinv : rxI247_0 S0 ws S (r 8) (r 9) (r 10) (r 11) := hinv
  rw [← hr_ 8 (by decide), ← hr_ 9 (by decide), ← hr_ 10 (by decide), ← hr_ 11 (by decide)] at hinv
  obtain ⟨⟨l8, u8⟩, ⟨l9, u9⟩, ⟨l10, u10⟩, ⟨l11, u11⟩, ⟨l12, u12⟩, ⟨l13, u13⟩, -⟩ := b_
  obtain ⟨f0, f1, f2, f3, -⟩ := f_
  obtain ⟨e0, ⟨e1, w_⟩⟩ := d_
  subst w_
  have g := rxd247_0_6 hP hin hsm_ I0 I1 hinv l8 u8 l9 u9 l10 u10 l11 u11 l12 u12 l13 u13 f0 f1 f2 f3 e1 e0
  refine ⟨bx_narP_ok (l := []) g.1, ?_⟩
  show rxPS247 S0 ws S_p (some (bx_num r_p (.inr (0, (0, (-1))))))
  rw [bx_xv_ok h0_]
  exact g.2
theorem rxd247_0_7 {S0 : Nat → Int → Int} {ws : List Int} {S : Nat → Int → Int} {p pa t q x12 x13 : Int} (hP : rxP247 S0 ws) (hin : bx_same rxL (bx_mdl rxC247.2.2.1) S0 S) (hin2 : bx_same rxL (bx_mdl rxC247.2.2.1) S S) (I0 : bx_Inv rxL S) (I1 : bx_Inv rxL S) (hinv : rxI247_0 S0 ws S p pa t q) (l8 : 0 ≤ p) (u8 : p ≤ 7) (l9 : 0 ≤ pa) (u9 : pa ≤ 5) (l10 : 0 ≤ t) (u10 : t ≤ 7) (l11 : (-2147483648) ≤ q) (u11 : q ≤ (-1)) (l12 : 1 ≤ x12) (u12 : x12 ≤ 8) (l13 : 1 ≤ x13) (u13 : x13 ≤ 6) (f0 : t < x12) (f1 : t ≠ (-1)) (f2 : pa < x13) (f3 : p < x12) (e1 : S 5 0 = x12) (e0 : S 1 0 = x13) : (True) ∧ rxPS247 S0 ws S (some ((-1))) := by
  obtain ⟨rfl, hw⟩ := hinv
  exact ⟨trivial, p, pa, t, q, hw, Or.inl ⟨by omega, rfl⟩⟩
theorem rxf247_0_7 {X : (Nat → Int → Int) → Prop} {S0 : Nat → Int → Int} {ws : List Int} (hP : rxP247 S0 ws) : bx_obE rxL X S0 rxC247.2.2.1 (rxI247 S0 ws) (rxPS247 S0 ws) 0 rxz247_0 rxe247_0_7 := by
  intro S S_p r r_p hinv hX hin hsm_ hseg
  obtain ⟨I0, I1, h0_, hr_, b_, f_, d_⟩ := bx_cl (evs := [(0, (0, 1), (0, 0), .inr (0, (13, 0))), (0, (0, 5), (0, 0), .inr (0, (12, 0)))]) (fvs := [(0, (10, 0), (12, 0), (0, 0)), (3, (10, 0), (0, (-1)), (0, 0)), (0, (9, 0), (13, 0), (0, 0)), (0, (8, 0), (12, 0), (0, 0))]) hseg (by decide +kernel) (by decide +kernel)
  have hinv : rxI247_0 S0 ws S (r 8) (r 9) (r 10) (r 11) := hinv
  rw [← hr_ 8 (by decide), ← hr_ 9 (by decide), ← hr_ 10 (by decide), ← hr_ 11 (by decide)] at hinv
  obtain ⟨⟨l8, u8⟩, ⟨l9, u9⟩, ⟨l10, u10⟩, ⟨l11, u11⟩, ⟨l12, u12⟩, ⟨l13, u13⟩, -⟩ := b_
  obtain ⟨f0, f1, f2, f3, -⟩ := f_
  obtain ⟨e0, ⟨e1, w_⟩⟩ := d_
  subst w_
  have g := rxd247_0_7 hP hin hsm_ I0 I1 hinv l8 u8 l9 u9 l10 u10 l11 u11 l12 u12 l13 u13 f0 f1 f2 f3 e1 e0
  refine ⟨bx_narP_ok (l := []) g.1, ?_⟩
  show rxPS247 S0 ws S_p (some (bx_num r_p (.inr (0, (0, (-1))))))
  rw [bx_xv_ok h0_]
  exact g.2
theorem rxd247_0_8 {S0 : Nat → Int → Int} {ws : List Int} {S : Nat → Int → Int} {p pa t q x12 x13 : Int} (hP : rxP247 S0 ws) (hin : bx_same rxL (bx_mdl rxC247.2.2.1) S0 S) (hin2 : bx_same rxL (bx_mdl rxC247.2.2.1) S S) (I0 : bx_Inv rxL S) (I1 : bx_Inv rxL S) (hinv : rxI247_0 S0 ws S p pa t q) (l8 : 0 ≤ p) (u8 : p ≤ 7) (l9 : 0 ≤ pa) (u9 : pa ≤ 5) (l10 : (-1) ≤ t) (u10 : t ≤ (-1)) (l11 : 3 ≤ q) (u11 : q ≤ 2147483647) (l12 : 1 ≤ x12) (u12 : x12 ≤ 8) (l13 : 1 ≤ x13) (u13 : x13 ≤ 6) (f0 : pa < x13) (f1 : p < x12) (e1 : S 5 0 = x12) (e0 : S 1 0 = x13) : (True) ∧ rxPS247 S0 ws S (some ((-1))) := by
  obtain ⟨rfl, hw⟩ := hinv
  exact ⟨trivial, p, pa, t, q, hw, Or.inl ⟨by omega, rfl⟩⟩
theorem rxf247_0_8 {X : (Nat → Int → Int) → Prop} {S0 : Nat → Int → Int} {ws : List Int} (hP : rxP247 S0 ws) : bx_obE rxL X S0 rxC247.2.2.1 (rxI247 S0 ws) (rxPS247 S0 ws) 0 rxz247_0 rxe247_0_8 := by
  intro S S_p r r_p hinv hX hin hsm_ hseg
  obtain ⟨I0, I1, h0_, hr_, b_, f_, d_⟩ := bx_cl (evs := [(0, (0, 1), (0, 0), .inr (0, (13, 0))), (0, (0, 5), (0, 0), .inr (0, (12, 0)))]) (fvs := [(0, (9, 0), (13, 0), (0, 0)), (0, (8, 0), (12, 0), (0, 0))]) hseg (by decide +kernel) (by decide +kernel)
  have hinv : rxI247_0 S0 ws S (r 8) (r 9) (r 10) (r 11) := hinv
  rw [← hr_ 8 (by decide), ← hr_ 9 (by decide), ← hr_ 10 (by decide), ← hr_ 11 (by decide)] at hinv
  obtain ⟨⟨l8, u8⟩, ⟨l9, u9⟩, ⟨l10, u10⟩, ⟨l11, u11⟩, ⟨l12, u12⟩, ⟨l13, u13⟩, -⟩ := b_
  obtain ⟨f0, f1, -⟩ := f_
  obtain ⟨e0, ⟨e1, w_⟩⟩ := d_
  subst w_
  have g := rxd247_0_8 hP hin hsm_ I0 I1 hinv l8 u8 l9 u9 l10 u10 l11 u11 l12 u12 l13 u13 f0 f1 e1 e0
  refine ⟨bx_narP_ok (l := []) g.1, ?_⟩
  show rxPS247 S0 ws S_p (some (bx_num r_p (.inr (0, (0, (-1))))))
  rw [bx_xv_ok h0_]
  exact g.2
theorem rxd247_0_9 {S0 : Nat → Int → Int} {ws : List Int} {S : Nat → Int → Int} {p pa t q x12 x13 : Int} (hP : rxP247 S0 ws) (hin : bx_same rxL (bx_mdl rxC247.2.2.1) S0 S) (hin2 : bx_same rxL (bx_mdl rxC247.2.2.1) S S) (I0 : bx_Inv rxL S) (I1 : bx_Inv rxL S) (hinv : rxI247_0 S0 ws S p pa t q) (l8 : 0 ≤ p) (u8 : p ≤ 7) (l9 : 0 ≤ pa) (u9 : pa ≤ 5) (l10 : (-1) ≤ t) (u10 : t ≤ (-1)) (l11 : (-2147483648) ≤ q) (u11 : q ≤ (-1)) (l12 : 1 ≤ x12) (u12 : x12 ≤ 8) (l13 : 1 ≤ x13) (u13 : x13 ≤ 6) (f0 : pa < x13) (f1 : p < x12) (e1 : S 5 0 = x12) (e0 : S 1 0 = x13) : (True) ∧ rxPS247 S0 ws S (some ((-1))) := by
  obtain ⟨rfl, hw⟩ := hinv
  exact ⟨trivial, p, pa, t, q, hw, Or.inl ⟨by omega, rfl⟩⟩
theorem rxf247_0_9 {X : (Nat → Int → Int) → Prop} {S0 : Nat → Int → Int} {ws : List Int} (hP : rxP247 S0 ws) : bx_obE rxL X S0 rxC247.2.2.1 (rxI247 S0 ws) (rxPS247 S0 ws) 0 rxz247_0 rxe247_0_9 := by
  intro S S_p r r_p hinv hX hin hsm_ hseg
  obtain ⟨I0, I1, h0_, hr_, b_, f_, d_⟩ := bx_cl (evs := [(0, (0, 1), (0, 0), .inr (0, (13, 0))), (0, (0, 5), (0, 0), .inr (0, (12, 0)))]) (fvs := [(0, (9, 0), (13, 0), (0, 0)), (0, (8, 0), (12, 0), (0, 0))]) hseg (by decide +kernel) (by decide +kernel)
  have hinv : rxI247_0 S0 ws S (r 8) (r 9) (r 10) (r 11) := hinv
  rw [← hr_ 8 (by decide), ← hr_ 9 (by decide), ← hr_ 10 (by decide), ← hr_ 11 (by decide)] at hinv
  obtain ⟨⟨l8, u8⟩, ⟨l9, u9⟩, ⟨l10, u10⟩, ⟨l11, u11⟩, ⟨l12, u12⟩, ⟨l13, u13⟩, -⟩ := b_
  obtain ⟨f0, f1, -⟩ := f_
  obtain ⟨e0, ⟨e1, w_⟩⟩ := d_
  subst w_
  have g := rxd247_0_9 hP hin hsm_ I0 I1 hinv l8 u8 l9 u9 l10 u10 l11 u11 l12 u12 l13 u13 f0 f1 e1 e0
  refine ⟨bx_narP_ok (l := []) g.1, ?_⟩
  show rxPS247 S0 ws S_p (some (bx_num r_p (.inr (0, (0, (-1))))))
  rw [bx_xv_ok h0_]
  exact g.2
theorem rxd247_2_0 {S0 : Nat → Int → Int} {ws : List Int} {S : Nat → Int → Int} {p pa t q y x13 : Int} (hP : rxP247 S0 ws) (hin : bx_same rxL (bx_mdl rxC247.2.2.1) S0 S) (hin2 : bx_same rxL (bx_mdl rxC247.2.2.1) S S) (I0 : bx_Inv rxL S) (I1 : bx_Inv rxL S) (hinv : rxI247_2 S0 ws S p pa t q y) (l8 : 0 ≤ p) (u8 : p ≤ 7) (l9 : 0 ≤ pa) (u9 : pa ≤ 5) (l10 : (-1) ≤ t) (u10 : t ≤ 7) (l11 : 0 ≤ q) (u11 : q ≤ 2) (l12 : 0 ≤ y) (u12 : y ≤ 300) (l13 : 0 ≤ x13) (u13 : x13 ≤ 300) (e0 : S 21 q = x13) : (True) ∧ rxPS247 S0 ws S (some x13) := by
  obtain ⟨hw, hg, hr⟩ := hinv
  refine ⟨trivial, p, pa, t, q, hw, Or.inr ⟨hg, hd3 S, hr, ?_⟩⟩
  have c : q = 0 ∨ q = 1 ∨ q = 2 := by omega
  rcases c with rfl | rfl | rfl
  · exact Or.inl ⟨rfl, congrArg some e0.symm⟩
  · exact Or.inr (Or.inl ⟨rfl, congrArg some e0.symm⟩)
  · exact Or.inr (Or.inr ⟨rfl, congrArg some e0.symm⟩)
theorem rxf247_2_0 {X : (Nat → Int → Int) → Prop} {S0 : Nat → Int → Int} {ws : List Int} (hP : rxP247 S0 ws) : bx_obE rxL X S0 rxC247.2.2.1 (rxI247 S0 ws) (rxPS247 S0 ws) 2 rxz247_2 rxe247_2_0 := by
  intro S S_p r r_p hinv hX hin hsm_ hseg
  obtain ⟨I0, I1, h0_, hr_, b_, f_, d_⟩ := bx_cl (evs := [(0, (0, 21), (11, 0), .inr (0, (13, 0)))]) (fvs := []) hseg (by decide +kernel) (by decide +kernel)
  have hinv : rxI247_2 S0 ws S (r 8) (r 9) (r 10) (r 11) (r 12) := hinv
  rw [← hr_ 8 (by decide), ← hr_ 9 (by decide), ← hr_ 10 (by decide), ← hr_ 11 (by decide), ← hr_ 12 (by decide)] at hinv
  obtain ⟨⟨l8, u8⟩, ⟨l9, u9⟩, ⟨l10, u10⟩, ⟨l11, u11⟩, ⟨l12, u12⟩, ⟨l13, u13⟩, -⟩ := b_
  obtain ⟨e0, w_⟩ := d_
  subst w_
  have g := rxd247_2_0 hP hin hsm_ I0 I1 hinv l8 u8 l9 u9 l10 u10 l11 u11 l12 u12 l13 u13 e0
  refine ⟨bx_narP_ok (l := []) g.1, ?_⟩
  show rxPS247 S0 ws S_p (some (bx_num r_p (.inr (0, (13, 0)))))
  rw [bx_xv_ok h0_]
  exact g.2
theorem rxgC247 {X : (Nat → Int → Int) → Prop} {S0 : Nat → Int → Int} {ws : List Int} (hP : rxP247 S0 ws) : bx_allI (fun i q => rxU247 q = true ∨ bx_allP (fun o => bx_obC rxL X S0 rxC247.2.2.1 (rxI247 S0 ws) (rxm247 S0 ws) i q.1 o) q.2.1) 0 rxY247 := ⟨Or.inr ⟨rxg247_0_0 hP, rxg247_0_1 hP, trivial⟩, Or.inl rfl, Or.inr trivial, trivial⟩
theorem rxgE247 {X : (Nat → Int → Int) → Prop} {S0 : Nat → Int → Int} {ws : List Int} (hP : rxP247 S0 ws) : bx_allI (fun i q => rxU247 q = true ∨ bx_allP (fun E => bx_obE rxL X S0 rxC247.2.2.1 (rxI247 S0 ws) (rxPS247 S0 ws) i q.1 E) q.2.2) 0 rxY247 := ⟨Or.inr ⟨rxf247_0_0 hP, rxf247_0_1 hP, rxf247_0_2 hP, rxf247_0_3 hP, rxf247_0_4 hP, rxf247_0_5 hP, rxf247_0_6 hP, rxf247_0_7 hP, rxf247_0_8 hP, rxf247_0_9 hP, trivial⟩, Or.inl rfl, Or.inr ⟨rxf247_2_0 hP, trivial⟩, trivial⟩
theorem rxu247 {PX : State → Prop} {Dg : va_G} {A : Nat → Prop} {ad xa : Nat → Nat} {l : Launch} {X : (Nat → Int → Int) → Prop} (hPX : rx_PXOK rxNW A PX) (hX : ∀ S S1 : Nat → Int → Int, X S → bx_same rxL (bx_mdl rxC247.2.2.1) S S1 → X S1) (hQHED : bx_ConP rxG rxNW rxAO PX Dg rxL X vwCl A ad l rxM98 rxCHED rxPHED rxPSHED) {S0 : Nat → Int → Int} {ws : List Int} (hP : rxP247 S0 ws) : ∀ (i : Nat) (q : bx_HE), rxY247[i]? = some q → rxU247 q = true → ∀ {p : Program} {e : Env} {R : Room} {s : State} {m : MethodId} {args : Array Value} {below : List Frame} {meth : Method} {c : Code} {Q : State → Prop} {H0 : Heap}, rx_Fr rxG rxNW rxAO PX p s m args meth c rxM247 → (∀ q, H0.size ≤ q → A q) → H0 = s.heap → rxM247.2.2.2.2.2.2.1 ≤ R.cells → rxM247.2.2.2.2.2.2.2 ≤ R.slots → rxC247.2.2.2.1 ≤ R.frames → rxC247.2.2.2.1 * 40 ≤ R.locals → bx_Step p l e R s m args below meth c Q Dg rxL X vwCl A xa H0 ad rxM247 rxY247 (rxI247 S0 ws) (rxm247 S0 ws) S0 rxC247.2.2.1 i q := by
  intro i q hq hus p e R s m args below meth c Q H0 hF hA hH0 hmc hms hd hdl
  match i, hq with
  | 0, hq =>
    cases hq
    exact absurd (show false = true from hus) Bool.false_ne_true
  | 1, hq =>
    cases hq
    exact rx_stepC (ins := .invokevirtual 236) (len := 3) (i_p := 2) (M_p := rxM98) (d := rxC247.2.2.2.1) (as := [.inr (3, (0, 1)), .inr (0, (8, 0)), .inr (0, (9, 0)), .inr (0, (10, 0)), .inr (0, (12, 0))]) (t := []) (ct := rxCHED) hPX hF rfl hA hH0 hmc hms hd hdl (by decide +kernel) rfl rfl (by decide +kernel) (by decide +kernel) hQHED (by decide +kernel) rfl (Or.inl ⟨rfl, rfl, rfl⟩) (rxs247_1 hP)
  | 2, hq =>
    cases hq
    exact absurd (show false = true from hus) Bool.false_ne_true
  | n + 3, hq => cases hq
theorem rxQ247 {PX : State → Prop} {Dg : va_G} {A : Nat → Prop} {ad xa : Nat → Nat} {l : Launch} {X : (Nat → Int → Int) → Prop} (hPX : rx_PXOK rxNW A PX) (hsl : ∀ s : State, PX s → ∀ o idx n : Nat, rxSl o idx = some n → ∃ tx : String, vk_R (rxNm o) idx tx (ad n) s)
    (hX : ∀ S S_p : Nat → Int → Int, X S → bx_same rxL (bx_mdl rxC247.2.2.1) S S_p → X S_p)
    (ih : ∀ (j2 : Nat) (ct2 : bx_Ct) (M2 : rx_Mt), ct2 ∈ rxCnE j2 → ct2.2.2.2.1 + 1 ≤ rxC247.2.2.2.1 → rxT.2.2.2.2.2 j2 = some M2 → bx_Con rxG rxNW rxAO PX Dg rxL X vwCl A ad l M2 ct2) (hQHED : bx_ConP rxG rxNW rxAO PX Dg rxL X vwCl A ad l rxM98 rxCHED rxPHED rxPSHED) : bx_ConP rxG rxNW rxAO PX Dg rxL X vwCl A ad l rxM247 rxC247 rxP247 rxPS247 :=
  rxQof (xa := xa) (Cn := rxCnE) (f := 30000) (j := 247) (tab := rxY247) (us := rxU247) hPX hsl hX ih rfl rxYc247 rxI247 rxm247
    (fun S0 ws r I0 I ht0 ht as he he1 hX0 hI0 hP hs ha => by
      have e := he.symm.trans (show bx_ent0 rxNP rxC247.1 bx_I0 [] = some ([(0, 0), (0, 0), (0, 0), (0, 0), (0, 0), (0, 0), (0, 0), (0, 0), ((-2147483648), 2147483647), ((-2147483648), 2147483647), ((-2147483648), 2147483647), ((-2147483648), 2147483647)], [], [.inr (3, (0, 0)), .inr (0, (8, 0)), .inr (0, (9, 0)), .inr (0, (10, 0)), .inr (0, (11, 0))]) from rfl)
      cases e
      subst ha
      have h0 : r 0 = 0 := hs.1
      show rxI247_0 S0 _ S0 (r 8) (r 9) (r 10) (r 11)
      refine ⟨rfl, ?_⟩
      simp only [List.map_cons, List.map_nil, bx_xv_ok h0]
      rfl)
    (fun S0 ws hP => rxu247 (xa := xa) hPX hX hQHED hP) (fun S0 ws hP => rxgC247 hP) (fun S0 ws hP => rxgE247 hP)
