section
noncomputable def rxIPLP_0 (S0 : Nat → Int → Int) (ws : List Int) (S : Nat → Int → Int) (pa : Int) : Prop := S = S0 ∧ ws = [0, pa]
noncomputable def rxmPLP_0 (S0 : Nat → Int → Int) (ws : List Int) (S : Nat → Int → Int) (pa : Int) : Nat := 100
noncomputable def rxzPLP_0 : rx_Z := ([(0, 0), (0, 0), (0, 0), (0, 0), (0, 0), (0, 0), (0, 0), (0, 0), ((-2147483648), 2147483647)], [], [], 0, 0, 0, [(0, .inr (3, (0, 0))), (1, .inr (0, (8, 0)))], [])
noncomputable def rxIPLP_1 (S0 : Nat → Int → Int) (ws : List Int) (S : Nat → Int → Int) (pa : Int) : Prop := S = S0 ∧ (pa < 0 ∨ S0 1 0 ≤ pa) ∧ ws = [0, pa]
noncomputable def rxmPLP_1 (S0 : Nat → Int → Int) (ws : List Int) (S : Nat → Int → Int) (pa : Int) : Nat := 90
noncomputable def rxzPLP_1 : rx_Z := ([(0, 0), (0, 0), (0, 0), (0, 0), (0, 0), (0, 0), (0, 0), (0, 0), ((-2147483648), 2147483647)], [], [], 0, 0, 14, [(0, .inr (3, (0, 0))), (1, .inr (0, (8, 0)))], [.inr (0, (0, (-2))), .inr (3, (0, 0))])
noncomputable def rxIPLP_2 (S0 : Nat → Int → Int) (ws : List Int) (S : Nat → Int → Int) (pa res : Int) : Prop := res = -2 ∧ (pa < 0 ∨ S0 1 0 ≤ pa) ∧ ws = [0, pa] ∧ S 0 4 = S0 0 4 ∧ S 412 4 = S0 412 4 ∧ rkPO S0 S ∧ rjdSm S0 S
noncomputable def rxmPLP_2 (S0 : Nat → Int → Int) (ws : List Int) (S : Nat → Int → Int) (pa res : Int) : Nat := 80
noncomputable def rxzPLP_2 : rx_Z := ([(0, 0), (0, 0), (0, 0), (0, 0), (0, 0), (0, 0), (0, 0), (0, 0), ((-2147483648), 2147483647), ((-6), (-1))], [], [], 0, 0, 17, [(0, .inr (3, (0, 0))), (1, .inr (0, (8, 0)))], [.inr (0, (9, 0))])
noncomputable def rxIPLP_3 (S0 : Nat → Int → Int) (ws : List Int) (S : Nat → Int → Int) (pa nb : Int) : Prop := S = S0 ∧ 0 ≤ pa ∧ pa < S0 1 0 ∧ nb = S0 0 4 ∧ ws = [0, pa]
noncomputable def rxmPLP_3 (S0 : Nat → Int → Int) (ws : List Int) (S : Nat → Int → Int) (pa nb : Int) : Nat := 70
noncomputable def rxzPLP_3 : rx_Z := ([(0, 0), (0, 0), (0, 0), (0, 0), (0, 0), (0, 0), (0, 0), (0, 0), (0, 5), (0, 400)], [], [], 0, 0, 35, [(0, .inr (3, (0, 0))), (1, .inr (0, (8, 0)))], [.inr (3, (0, 427)), .inr (0, (0, 1)), .inr (0, (9, 0)), .inr (3, (0, 411)), .inr (3, (0, 412))])
noncomputable def rxIPLP_4 (S0 : Nat → Int → Int) (ws : List Int) (S : Nat → Int → Int) (pa nb res : Int) : Prop := 0 ≤ pa ∧ pa < S0 1 0 ∧ ws = [0, pa] ∧ (∃ r : rzR, rzText (decide ((1 : Int) = 1)) (rzCut (S0 411)) (S0 0 4) r ∧ ((res = 1 ∧ r.1 = true ∧ S 412 4 = -1) ∨ (res = 0 ∧ r.1 = false ∧ S 412 4 = r.2.1))) ∧ (res = 1 → (∃ L : List rkQ, rkText true (rzCut (S0 411)) (S0 0 4) L ∧ rkHl S 427 L ∧ ∀ q ∈ L, rjQl q)) ∧ rkPO S0 S ∧ rjdSm S0 S
noncomputable def rxmPLP_4 (S0 : Nat → Int → Int) (ws : List Int) (S : Nat → Int → Int) (pa nb res : Int) : Nat := 60
noncomputable def rxzPLP_4 : rx_Z := ([(0, 0), (0, 0), (0, 0), (0, 0), (0, 0), (0, 0), (0, 0), (0, 0), (0, 5), (0, 400), (0, 1)], [], [], 0, 0, 38, [(0, .inr (3, (0, 0))), (1, .inr (0, (8, 0)))], [.inr (0, (10, 0))])
noncomputable def rxIPLP_5 (S0 : Nat → Int → Int) (ws : List Int) (S : Nat → Int → Int) (pa : Int) : Prop := 0 ≤ pa ∧ pa < S0 1 0 ∧ ws = [0, pa] ∧ S 0 4 = 0 ∧ (∃ r : rzR, rzText (decide ((1 : Int) = 1)) (rzCut (S0 411)) (S0 0 4) r ∧ r.1 = false ∧ S 412 4 = r.2.1) ∧ rkPO S0 S ∧ rjdSm S0 S
noncomputable def rxmPLP_5 (S0 : Nat → Int → Int) (ws : List Int) (S : Nat → Int → Int) (pa : Int) : Nat := 50
noncomputable def rxzPLP_5 : rx_Z := ([(0, 0), (0, 0), (0, 0), (0, 0), (0, 0), (0, 0), (0, 0), (0, 0), (0, 5)], [], [], 0, 0, 70, [(0, .inr (3, (0, 0))), (1, .inr (0, (8, 0)))], [.inr (0, (0, (-6))), .inr (3, (0, 0))])
noncomputable def rxIPLP_6 (S0 : Nat → Int → Int) (ws : List Int) (S : Nat → Int → Int) (pa res : Int) : Prop := res = -6 ∧ 0 ≤ pa ∧ pa < S0 1 0 ∧ ws = [0, pa] ∧ S 0 4 = 0 ∧ (∃ r : rzR, rzText (decide ((1 : Int) = 1)) (rzCut (S0 411)) (S0 0 4) r ∧ r.1 = false ∧ S 412 4 = r.2.1) ∧ rkPO S0 S ∧ rjdSm S0 S
noncomputable def rxmPLP_6 (S0 : Nat → Int → Int) (ws : List Int) (S : Nat → Int → Int) (pa res : Int) : Nat := 40
noncomputable def rxzPLP_6 : rx_Z := ([(0, 0), (0, 0), (0, 0), (0, 0), (0, 0), (0, 0), (0, 0), (0, 0), (0, 5), ((-6), (-1))], [], [], 0, 0, 73, [(0, .inr (3, (0, 0))), (1, .inr (0, (8, 0)))], [.inr (0, (9, 0))])
noncomputable def rxIPLP_7 (S0 : Nat → Int → Int) (ws : List Int) (S : Nat → Int → Int) (pa : Int) : Prop := 0 ≤ pa ∧ pa < S0 1 0 ∧ ws = [0, pa] ∧ S 0 4 = 0 ∧ (∃ r : rzR, rzText (decide ((1 : Int) = 1)) (rzCut (S0 411)) (S0 0 4) r ∧ r.1 = true ∧ S 412 4 = -1) ∧ (∃ L : List rkQ, rkText true (rzCut (S0 411)) (S0 0 4) L ∧ rkHl S 427 L ∧ ∀ q ∈ L, rjQl q) ∧ rkPO S0 S ∧ rjdSm S0 S
noncomputable def rxmPLP_7 (S0 : Nat → Int → Int) (ws : List Int) (S : Nat → Int → Int) (pa : Int) : Nat := 50
noncomputable def rxzPLP_7 : rx_Z := ([(0, 0), (0, 0), (0, 0), (0, 0), (0, 0), (0, 0), (0, 0), (0, 0), (0, 5)], [], [], 0, 0, 58, [(0, .inr (3, (0, 0))), (1, .inr (0, (8, 0)))], [.inr (0, (8, 0)), .inr (3, (0, 427)), .inr (3, (0, 1)), .inr (3, (0, 0))])
noncomputable def rxIPLP_8 (S0 : Nat → Int → Int) (ws : List Int) (S : Nat → Int → Int) (pa n : Int) : Prop := 0 ≤ pa ∧ pa < S0 1 0 ∧ ws = [0, pa] ∧ S 0 4 = 0 ∧ (∃ r : rzR, rzText (decide ((1 : Int) = 1)) (rzCut (S0 411)) (S0 0 4) r ∧ r.1 = true ∧ S 412 4 = -1) ∧ (rjdOp S0 S pa ∧ ∃ L : List rkQ, rkText true (rzCut (S0 411)) (S0 0 4) L ∧ ∀ s0 : Int → Int, rjdRw S0 pa s0 → ∃ s : Int → Int, rjL pa (S0 19 1) L s0 0 s n ∧ rjdRw S pa s) ∧ rkOe S0 S
noncomputable def rxmPLP_8 (S0 : Nat → Int → Int) (ws : List Int) (S : Nat → Int → Int) (pa n : Int) : Nat := 40
noncomputable def rxzPLP_8 : rx_Z := ([(0, 0), (0, 0), (0, 0), (0, 0), (0, 0), (0, 0), (0, 0), (0, 0), (0, 5), ((-2147483648), 2147483647)], [], [], 0, 0, 61, [(0, .inr (3, (0, 0))), (1, .inr (0, (8, 0)))], [.inr (0, (9, 0)), .inr (3, (0, 0))])
noncomputable def rxoPLP_0_0 : bx_HO := (([(0, 0), (0, 0), (0, 0), (0, 0), (0, 0), (0, 0), (0, 0), (0, 0), ((-2147483648), (-1))], [], [(((0, 0), 0), .inr (3, (0, 1)))], 0, 0, 14, [(0, .inr (3, (0, 0))), (1, .inr (0, (8, 0)))], [.inr (0, (0, (-2))), .inr (3, (0, 0))]), [], [], [(0, 0), (0, 0), (0, 0), (0, 0), (0, 0), (0, 0), (0, 0), (0, 0), (8, 0)], 1)
noncomputable def rxoPLP_0_1 : bx_HO := (([(0, 0), (0, 0), (0, 0), (0, 0), (0, 0), (0, 0), (0, 0), (0, 0), (0, 2147483647), (0, 6)], [(1, (9, 0), (8, 0))], [(((0, 0), 1851192626986356797424340330377019318111018015026043177553952768000000), .inr (0, (9, 0))), (((0, 1), 0), .inr (0, (9, 0))), (((0, 0), 0), .inr (3, (0, 1)))], 0, 0, 14, [(0, .inr (3, (0, 0))), (1, .inr (0, (8, 0)))], [.inr (0, (0, (-2))), .inr (3, (0, 0))]), [], [], [(0, 0), (0, 0), (0, 0), (0, 0), (0, 0), (0, 0), (0, 0), (0, 0), (8, 0)], 1)
noncomputable def rxoPLP_0_2 : bx_HO := (([(0, 0), (0, 0), (0, 0), (0, 0), (0, 0), (0, 0), (0, 0), (0, 0), (0, 5), (1, 6), (0, 400)], [(0, (8, 0), (9, 0))], [(((0, 0), 6), .inr (3, (0, 427))), (((0, 0), 1851192626986356798227167157524121751206303872841384191768657920000000), .inr (0, (10, 0))), (((0, 0), 4), .inr (0, (10, 0))), (((0, 0), 3), .inr (3, (0, 411))), (((0, 0), 5), .inr (3, (0, 412))), (((0, 0), 1851192626986356797424340330377019318111018015026043177553952768000000), .inr (0, (9, 0))), (((0, 1), 0), .inr (0, (9, 0))), (((0, 0), 0), .inr (3, (0, 1)))], 0, 0, 35, [(0, .inr (3, (0, 0))), (1, .inr (0, (8, 0)))], [.inr (3, (0, 427)), .inr (0, (0, 1)), .inr (0, (10, 0)), .inr (3, (0, 411)), .inr (3, (0, 412))]), [], [], [(0, 0), (0, 0), (0, 0), (0, 0), (0, 0), (0, 0), (0, 0), (0, 0), (8, 0), (10, 0)], 3)
noncomputable def rxePLP_2_0 : rx_End × List (Nat × Int × Int) := (([(0, 0), (0, 0), (0, 0), (0, 0), (0, 0), (0, 0), (0, 0), (0, 0), ((-2147483648), 2147483647), ((-6), (-1))], [], [], some (.inr (0, (9, 0)))), [])
noncomputable def rxoPLP_4_0 : bx_HO := (([(0, 0), (0, 0), (0, 0), (0, 0), (0, 0), (0, 0), (0, 0), (0, 0), (0, 5), (0, 400), (1, 1)], [(3, (10, 0), (0, 0))], [(((0, 0), 6), .inr (3, (0, 427))), (((0, 0), 0), .inr (3, (0, 1))), (((0, 0), 1851192626986356798227167157524121751206303872841384191768657923000000), .inr (0, (0, 0))), (((0, 0), 4), .inr (0, (0, 0)))], 0, 0, 58, [(2, .inr (0, (10, 0))), (0, .inr (3, (0, 0))), (1, .inr (0, (8, 0)))], [.inr (0, (8, 0)), .inr (3, (0, 427)), .inr (3, (0, 1)), .inr (3, (0, 0))]), [], [], [(0, 0), (0, 0), (0, 0), (0, 0), (0, 0), (0, 0), (0, 0), (0, 0), (8, 0)], 7)
noncomputable def rxoPLP_4_1 : bx_HO := (([(0, 0), (0, 0), (0, 0), (0, 0), (0, 0), (0, 0), (0, 0), (0, 0), (0, 5), (0, 400), (0, 0)], [], [(((0, 0), 1851192626986356798227167157524121751206303872841384191768657923000000), .inr (0, (0, 0))), (((0, 0), 4), .inr (0, (0, 0)))], 0, 0, 70, [(2, .inr (0, (10, 0))), (0, .inr (3, (0, 0))), (1, .inr (0, (8, 0)))], [.inr (0, (0, (-6))), .inr (3, (0, 0))]), [], [], [(0, 0), (0, 0), (0, 0), (0, 0), (0, 0), (0, 0), (0, 0), (0, 0), (8, 0)], 5)
noncomputable def rxePLP_6_0 : rx_End × List (Nat × Int × Int) := (([(0, 0), (0, 0), (0, 0), (0, 0), (0, 0), (0, 0), (0, 0), (0, 0), (0, 5), ((-6), (-1))], [], [], some (.inr (0, (9, 0)))), [])
noncomputable def rxePLP_8_0 : rx_End × List (Nat × Int × Int) := (([(0, 0), (0, 0), (0, 0), (0, 0), (0, 0), (0, 0), (0, 0), (0, 0), (0, 5), ((-2147483648), 2147483647)], [], [(((0, 0), 1851192626986356799029993984671224184301589730656725205983952899000000), .inr (0, (0, 0))), (((0, 0), 8), .inr (0, (0, 0)))], some (.inr (0, (9, 0)))), [])
noncomputable def rxYPLP : List bx_HE := [(rxzPLP_0, [rxoPLP_0_0, rxoPLP_0_1, rxoPLP_0_2], []), (rxzPLP_1, [], []), (rxzPLP_2, [], [rxePLP_2_0]), (rxzPLP_3, [], []), (rxzPLP_4, [rxoPLP_4_0, rxoPLP_4_1], []), (rxzPLP_5, [], []), (rxzPLP_6, [], [rxePLP_6_0]), (rxzPLP_7, [], []), (rxzPLP_8, [], [rxePLP_8_0])]
noncomputable def rxUPLP (q : bx_HE) : Bool := Nat.beq (rx_zpc q.1) 14 || Nat.beq (rx_zpc q.1) 35 || Nat.beq (rx_zpc q.1) 70 || Nat.beq (rx_zpc q.1) 58
noncomputable def rxYBPLP : bx_B := (rxV, rxNP, rxDmf, bx_mdH rxC239.2.2.1)
set_option maxRecDepth 100000 in
theorem rxYcPLP : bx_chkH rxYBPLP rxM239 rxC239 rxYPLP (rxUPLP, fun cut z => rx_ex2 (rxCT rxYBPLP rxCnE) cut 30000 rxC239.2.2.2.1 239 z) = true := by decide +kernel
noncomputable def rxIPLP (S0 : Nat → Int → Int) (ws : List Int) (i : Nat) : bx_SP := fun S r => match i with | 0 => rxIPLP_0 S0 ws S (r 8) | 1 => rxIPLP_1 S0 ws S (r 8) | 2 => rxIPLP_2 S0 ws S (r 8) (r 9) | 3 => rxIPLP_3 S0 ws S (r 8) (r 9) | 4 => rxIPLP_4 S0 ws S (r 8) (r 9) (r 10) | 5 => rxIPLP_5 S0 ws S (r 8) | 6 => rxIPLP_6 S0 ws S (r 8) (r 9) | 7 => rxIPLP_7 S0 ws S (r 8) | 8 => rxIPLP_8 S0 ws S (r 8) (r 9) | _ => False
noncomputable def rxmPLP (S0 : Nat → Int → Int) (ws : List Int) (i : Nat) (S : Nat → Int → Int) (r : Nat → Int) : Nat := match i with | 0 => rxmPLP_0 S0 ws S (r 8) | 1 => rxmPLP_1 S0 ws S (r 8) | 2 => rxmPLP_2 S0 ws S (r 8) (r 9) | 3 => rxmPLP_3 S0 ws S (r 8) (r 9) | 4 => rxmPLP_4 S0 ws S (r 8) (r 9) (r 10) | 5 => rxmPLP_5 S0 ws S (r 8) | 6 => rxmPLP_6 S0 ws S (r 8) (r 9) | 7 => rxmPLP_7 S0 ws S (r 8) | 8 => rxmPLP_8 S0 ws S (r 8) (r 9) | _ => 0
noncomputable def rxPPLP (S0 : Nat → Int → Int) (ws : List Int) : Prop := rkPl S0 ∧ ∀ pa : Int, 0 ≤ pa → pa < S0 1 0 → ∃ s0 : Int → Int, rjdRw S0 pa s0
noncomputable def rxPSPLP (S0 : Nat → Int → Int) (ws : List Int) (S : Nat → Int → Int) (w : Option Int) : Prop := rkOe S0 S ∧ ∃ pa : Int, ws = [0, pa] ∧ (((pa < 0 ∨ S0 1 0 ≤ pa) ∧ w = some (-2) ∧ S 0 4 = S0 0 4 ∧ S 412 4 = S0 412 4 ∧ rjdSm S0 S) ∨ (0 ≤ pa ∧ pa < S0 1 0 ∧ S 0 4 = 0 ∧ ∃ r : rzR, rzText (decide ((1 : Int) = 1)) (rzCut (S0 411)) (S0 0 4) r ∧ ((r.1 = true ∧ S 412 4 = -1 ∧ ∃ (L : List rkQ) (n : Int), rkText true (rzCut (S0 411)) (S0 0 4) L ∧ w = some n ∧ rjdOp S0 S pa ∧ ∀ s0 : Int → Int, rjdRw S0 pa s0 → ∃ s : Int → Int, rjL pa (S0 19 1) L s0 0 s n ∧ rjdRw S pa s) ∨ (r.1 = false ∧ w = some (-6) ∧ S 412 4 = r.2.1 ∧ rjdSm S0 S))))
theorem rxkPLP_1 {S0 : Nat → Int → Int} {ws : List Int} {S : Nat → Int → Int} {pa : Int} (hP : rxPPLP S0 ws) (hin : bx_same rxL (bx_mdl rxC239.2.2.1) S0 S) (I0 : bx_Inv rxL S) (hinv : rxIPLP_1 S0 ws S pa) (l8 : (-2147483648) ≤ pa) (u8 : pa ≤ 2147483647) : rxP110 S [0, (-2)] ∧ ∀ (S_p : Nat → Int → Int) (res : Int), (-6) ≤ res → res ≤ (-1) → rxPS110 S [0, (-2)] S_p (some res) → bx_Inv rxL S_p → bx_same rxL (bx_mdl rxC110.2.2.1) S S_p → rxIPLP_2 S0 ws S_p pa res ∧ rxmPLP_2 S0 ws S_p pa res < rxmPLP_1 S0 ws S pa := by
  obtain ⟨rfl, hg, hw⟩ := hinv
  refine ⟨trivial, fun S_p res _ _ hq _ hsm => ⟨⟨?_, hg, hw, (hsm 0 4 (by decide) (by decide) (by decide +kernel)), (hsm 412 4 (by decide) (by decide) (by decide +kernel)), rkPO_sm hsm (by decide +kernel) (rkPO_rf (rkPp_of hP.1.1)), rjdSm_sm hsm (by decide +kernel)⟩, by unfold rxmPLP_1 rxmPLP_2; omega⟩⟩
  obtain ⟨c, hc, hr⟩ := hq
  simp only [List.cons.injEq, and_true, true_and] at hc
  simp only [Option.some.injEq] at hr
  omega
theorem rxsPLP_1 {X : (Nat → Int → Int) → Prop} {S0 : Nat → Int → Int} {ws : List Int} (hP : rxPPLP S0 ws) : rx_obK X S0 rxC239.2.2.1 rxC110.2.2.1 (rxIPLP S0 ws) (rxmPLP S0 ws) 1 2 rxzPLP_1 rxzPLP_2 [.inr (3, (0, 0)), .inr (0, (0, (-2)))] (some 9) rxP110 rxPS110 := by
  intro S r hinv hXS I0 hin hs_ hf_
  have b_ := bx_bds_sat hs_
  have f_ := bx_fcl_ok hs_.1 hf_
  obtain ⟨⟨l8, u8⟩, -⟩ := b_
  have g := rxkPLP_1 hP hin I0 hinv l8 u8
  have ea : List.map (bx_num r) [.inr (3, (0, 0)), .inr (0, (0, (-2)))] = [0, -2] := by
    simp only [List.map_cons, List.map_nil, bx_xv_ok hs_.1]
    rfl
  rw [ea]
  refine ⟨g.1, fun S_p w r_p hPS hX_p I1 hsm hr hw hs_p => ?_⟩
  have hw := hw _ rfl
  subst hw
  have b_p := hs_p.2.2 9 _ _ rfl
  have g2 := g.2 S_p (r_p 9) b_p.1 b_p.2 hPS I1 hsm
  show rxIPLP_2 S0 ws S_p (r_p 8) (r_p 9) ∧ rxmPLP_2 S0 ws S_p (r_p 8) (r_p 9) < _
  rw [hr 8 (by decide)]
  exact g2
theorem rxkPLP_3 {S0 : Nat → Int → Int} {ws : List Int} {S : Nat → Int → Int} {pa nb : Int} (hP : rxPPLP S0 ws) (hin : bx_same rxL (bx_mdl rxC239.2.2.1) S0 S) (I0 : bx_Inv rxL S) (hinv : rxIPLP_3 S0 ws S pa nb) (l8 : 0 ≤ pa) (u8 : pa ≤ 5) (l9 : 0 ≤ nb) (u9 : nb ≤ 400) : rxPRDXO S [412, 411, nb, 1, 427] ∧ ∀ (S_p : Nat → Int → Int) (res : Int), 0 ≤ res → res ≤ 1 → rxPSRDXO S [412, 411, nb, 1, 427] S_p (some res) → bx_Inv rxL S_p → bx_same rxL (bx_mdl rxCRDXO.2.2.1) S S_p → rxIPLP_4 S0 ws S_p pa nb res ∧ rxmPLP_4 S0 ws S_p pa nb res < rxmPLP_3 S0 ws S pa nb := by
  obtain ⟨hS, p0, p1, hnb, hw⟩ := hinv
  subst hS
  have hPp : rkPp S := rkPp_of hP.1.1
  refine ⟨trivial, fun S_p res _ _ hq I1 hsm => ⟨?_, by unfold rxmPLP_3 rxmPLP_4; omega⟩⟩
  obtain ⟨⟨⟨nb2, ap2, hw2, r, r1, r2⟩, nb3, ap3, hw3, h⟩, hO⟩ := hq
  have e1 : nb = nb2 := Option.some.inj (congrArg (fun l : List Int => l[2]?) hw2)
  have e2 : (1 : Int) = ap2 := Option.some.inj (congrArg (fun l : List Int => l[3]?) hw2)
  subst e2
  rw [← e1, hnb] at r1
  have e3 : nb = nb3 := Option.some.inj (congrArg (fun l : List Int => l[2]?) hw3)
  have e4 : (1 : Int) = ap3 := Option.some.inj (congrArg (fun l : List Int => l[3]?) hw3)
  subst e4
  refine ⟨p0, p1, hw, ?_, fun g => ?_, hO hPp, rjdSm_sm hsm (by decide +kernel)⟩
  · rcases r2 with ⟨a, b, c⟩ | ⟨a, b, c⟩
    · exact ⟨r, r1, Or.inl ⟨Option.some.inj a, b, c⟩⟩
    · exact ⟨r, r1, Or.inr ⟨Option.some.inj a, b, c⟩⟩
  · subst g
    obtain ⟨L, t1, t2, t3, t4, t5⟩ := h rfl hPp
    have b0 : 0 ≤ S_p 427 0 ∧ S_p 427 0 ≤ 400 := I1 427 0 (by decide) (by decide)
    rw [show decide ((1 : Int) = 1) = true from by decide, ← e3, hnb] at t1
    exact ⟨L, t1, ⟨t2, by omega, b0.2, by rw [rkAt_427]; exact t4⟩, rkText_pl t1⟩
theorem rxsPLP_3 {X : (Nat → Int → Int) → Prop} {S0 : Nat → Int → Int} {ws : List Int} (hP : rxPPLP S0 ws) : rx_obK X S0 rxC239.2.2.1 rxCRDXO.2.2.1 (rxIPLP S0 ws) (rxmPLP S0 ws) 3 4 rxzPLP_3 rxzPLP_4 [.inr (3, (0, 412)), .inr (3, (0, 411)), .inr (0, (9, 0)), .inr (0, (0, 1)), .inr (3, (0, 427))] (some 10) rxPRDXO rxPSRDXO := by
  intro S r hinv hXS I0 hin hs_ hf_
  have b_ := bx_bds_sat hs_
  have f_ := bx_fcl_ok hs_.1 hf_
  obtain ⟨⟨l8, u8⟩, ⟨l9, u9⟩, -⟩ := b_
  have g := rxkPLP_3 hP hin I0 hinv l8 u8 l9 u9
  have ea : List.map (bx_num r) [.inr (3, (0, 412)), .inr (3, (0, 411)), .inr (0, (9, 0)), .inr (0, (0, 1)), .inr (3, (0, 427))] = [412, 411, (r 9), 1, 427] := by
    simp only [List.map_cons, List.map_nil, bx_xv_ok hs_.1]
    rfl
  rw [ea]
  refine ⟨g.1, fun S_p w r_p hPS hX_p I1 hsm hr hw hs_p => ?_⟩
  have hw := hw _ rfl
  subst hw
  have b_p := hs_p.2.2 10 _ _ rfl
  have g2 := g.2 S_p (r_p 10) b_p.1 b_p.2 hPS I1 hsm
  show rxIPLP_4 S0 ws S_p (r_p 8) (r_p 9) (r_p 10) ∧ rxmPLP_4 S0 ws S_p (r_p 8) (r_p 9) (r_p 10) < _
  rw [hr 8 (by decide), hr 9 (by decide)]
  exact g2
theorem rxkPLP_5 {S0 : Nat → Int → Int} {ws : List Int} {S : Nat → Int → Int} {pa : Int} (hP : rxPPLP S0 ws) (hin : bx_same rxL (bx_mdl rxC239.2.2.1) S0 S) (I0 : bx_Inv rxL S) (hinv : rxIPLP_5 S0 ws S pa) (l8 : 0 ≤ pa) (u8 : pa ≤ 5) : rxP110 S [0, (-6)] ∧ ∀ (S_p : Nat → Int → Int) (res : Int), (-6) ≤ res → res ≤ (-1) → rxPS110 S [0, (-6)] S_p (some res) → bx_Inv rxL S_p → bx_same rxL (bx_mdl rxC110.2.2.1) S S_p → rxIPLP_6 S0 ws S_p pa res ∧ rxmPLP_6 S0 ws S_p pa res < rxmPLP_5 S0 ws S pa := by
  obtain ⟨p0, p1, hw, h4, ⟨r, r1, r2, r3⟩, ho, hs⟩ := hinv
  refine ⟨trivial, fun S_p res _ _ hq _ hsm => ⟨⟨?_, p0, p1, hw, (hsm 0 4 (by decide) (by decide) (by decide +kernel)).trans h4, ⟨r, r1, r2, (hsm 412 4 (by decide) (by decide) (by decide +kernel)).trans r3⟩, rkPO_sm hsm (by decide +kernel) ho, rjdSm_t hs (rjdSm_sm hsm (by decide +kernel))⟩, by unfold rxmPLP_5 rxmPLP_6; omega⟩⟩
  obtain ⟨c, hc, hr⟩ := hq
  simp only [List.cons.injEq, and_true, true_and] at hc
  simp only [Option.some.injEq] at hr
  omega
theorem rxsPLP_5 {X : (Nat → Int → Int) → Prop} {S0 : Nat → Int → Int} {ws : List Int} (hP : rxPPLP S0 ws) : rx_obK X S0 rxC239.2.2.1 rxC110.2.2.1 (rxIPLP S0 ws) (rxmPLP S0 ws) 5 6 rxzPLP_5 rxzPLP_6 [.inr (3, (0, 0)), .inr (0, (0, (-6)))] (some 9) rxP110 rxPS110 := by
  intro S r hinv hXS I0 hin hs_ hf_
  have b_ := bx_bds_sat hs_
  have f_ := bx_fcl_ok hs_.1 hf_
  obtain ⟨⟨l8, u8⟩, -⟩ := b_
  have g := rxkPLP_5 hP hin I0 hinv l8 u8
  have ea : List.map (bx_num r) [.inr (3, (0, 0)), .inr (0, (0, (-6)))] = [0, -6] := by
    simp only [List.map_cons, List.map_nil, bx_xv_ok hs_.1]
    rfl
  rw [ea]
  refine ⟨g.1, fun S_p w r_p hPS hX_p I1 hsm hr hw hs_p => ?_⟩
  have hw := hw _ rfl
  subst hw
  have b_p := hs_p.2.2 9 _ _ rfl
  have g2 := g.2 S_p (r_p 9) b_p.1 b_p.2 hPS I1 hsm
  show rxIPLP_6 S0 ws S_p (r_p 8) (r_p 9) ∧ rxmPLP_6 S0 ws S_p (r_p 8) (r_p 9) < _
  rw [hr 8 (by decide)]
  exact g2
theorem rxkPLP_7 {S0 : Nat → Int → Int} {ws : List Int} {S : Nat → Int → Int} {pa : Int} (hP : rxPPLP S0 ws) (hin : bx_same rxL (bx_mdl rxC239.2.2.1) S0 S) (I0 : bx_Inv rxL S) (hinv : rxIPLP_7 S0 ws S pa) (l8 : 0 ≤ pa) (u8 : pa ≤ 5) : rxPPFM S [1, 427, pa] ∧ ∀ (S_p : Nat → Int → Int) (n : Int), (-2147483648) ≤ n → n ≤ 2147483647 → rxPSPFM S [1, 427, pa] S_p (some n) → bx_Inv rxL S_p → bx_same rxL (bx_mdl rxCPFM.2.2.1) S S_p → rxIPLP_8 S0 ws S_p pa n ∧ rxmPLP_8 S0 ws S_p pa n < rxmPLP_7 S0 ws S pa := by
  obtain ⟨p0, p1, hw, h4, ⟨r, r1, r2, r3⟩, ⟨L, l1, l2, l3⟩, ho, hs⟩ := hinv
  have hPl := rkPl_sm hin (by decide +kernel) hP.1
  have hmo : S 19 1 = S0 19 1 := hin 19 1 (by decide) (by decide) (by decide +kernel)
  have hrw : ∀ s0 : Int → Int, rjdRw S0 pa s0 → rjdRw S pa s0 := fun s0 h => rjdRw_sm p0 (by omega) h hs
  obtain ⟨s0, hs0⟩ := hP.2 pa p0 p1
  refine ⟨⟨pa, L, s0, rfl, hPl, l2, l3, hrw s0 hs0⟩, fun S_p n _ _ hq _ hsm => ⟨⟨p0, p1, hw, (hsm 0 4 (by decide) (by decide) (by decide +kernel)).trans h4, ⟨r, r1, r2, (hsm 412 4 (by decide) (by decide) (by decide +kernel)).trans r3⟩, ?_, rkOe_sm hsm (by decide +kernel) (rkOe_of ho.2)⟩, by unfold rxmPLP_7 rxmPLP_8; omega⟩⟩
  obtain ⟨p2, n2, hw3, hn, hop, h8⟩ := hq
  have k1 : pa = p2 := Option.some.inj (congrArg (fun l : List Int => l[2]?) hw3)
  have k2 := Option.some.inj hn
  subst k1
  subst k2
  refine ⟨fun p t a b c d e => (hop p t a b c d e).trans (hs p t a b c), L, l1, fun s1 h1 => ?_⟩
  obtain ⟨s, g1, g2⟩ := h8 L s1 l2 l3 (hrw s1 h1)
  rw [hmo] at g1
  exact ⟨s, g1, g2⟩
theorem rxsPLP_7 {X : (Nat → Int → Int) → Prop} {S0 : Nat → Int → Int} {ws : List Int} (hP : rxPPLP S0 ws) : rx_obK X S0 rxC239.2.2.1 rxCPFM.2.2.1 (rxIPLP S0 ws) (rxmPLP S0 ws) 7 8 rxzPLP_7 rxzPLP_8 [.inr (3, (0, 1)), .inr (3, (0, 427)), .inr (0, (8, 0))] (some 9) rxPPFM rxPSPFM := by
  intro S r hinv hXS I0 hin hs_ hf_
  have b_ := bx_bds_sat hs_
  have f_ := bx_fcl_ok hs_.1 hf_
  obtain ⟨⟨l8, u8⟩, -⟩ := b_
  have g := rxkPLP_7 hP hin I0 hinv l8 u8
  have ea : List.map (bx_num r) [.inr (3, (0, 1)), .inr (3, (0, 427)), .inr (0, (8, 0))] = [1, 427, (r 8)] := by
    simp only [List.map_cons, List.map_nil, bx_xv_ok hs_.1]
    rfl
  rw [ea]
  refine ⟨g.1, fun S_p w r_p hPS hX_p I1 hsm hr hw hs_p => ?_⟩
  have hw := hw _ rfl
  subst hw
  have b_p := hs_p.2.2 9 _ _ rfl
  have g2 := g.2 S_p (r_p 9) b_p.1 b_p.2 hPS I1 hsm
  show rxIPLP_8 S0 ws S_p (r_p 8) (r_p 9) ∧ rxmPLP_8 S0 ws S_p (r_p 8) (r_p 9) < _
  rw [hr 8 (by decide)]
  exact g2
theorem rxcPLP_0_0 {S0 : Nat → Int → Int} {ws : List Int} {S : Nat → Int → Int} {pa : Int} (hP : rxPPLP S0 ws) (hin : bx_same rxL (bx_mdl rxC239.2.2.1) S0 S) (I0 : bx_Inv rxL S) (hinv : rxIPLP_0 S0 ws S pa) (l8 : (-2147483648) ≤ pa) (u8 : pa ≤ (-1)) : (True) ∧ (True) ∧ rxIPLP_1 S0 ws S pa ∧ rxmPLP_1 S0 ws S pa < rxmPLP_0 S0 ws S pa := by
  obtain ⟨rfl, hw⟩ := hinv
  exact ⟨trivial, trivial, ⟨rfl, by omega, hw⟩, by unfold rxmPLP_0 rxmPLP_1; omega⟩
theorem rxgPLP_0_0 {X : (Nat → Int → Int) → Prop} {S0 : Nat → Int → Int} {ws : List Int} (hP : rxPPLP S0 ws) : bx_obC rxL X S0 rxC239.2.2.1 (rxIPLP S0 ws) (rxmPLP S0 ws) 0 rxzPLP_0 rxoPLP_0_0 := by
  intro S S_p r r_p hinv hX hin hsm_ hseg
  obtain ⟨I0, I1, h0_, hr_, b_, f_, d_⟩ := bx_cl (evs := []) (fvs := []) hseg (by decide +kernel) (by decide +kernel)
  have hinv : rxIPLP_0 S0 ws S (r 8) := hinv
  rw [← hr_ 8 (by decide)] at hinv
  obtain ⟨⟨l8, u8⟩, -⟩ := b_
  have w_ := d_
  subst w_
  have g := rxcPLP_0_0 hP hin I0 hinv l8 u8
  refine ⟨bx_narP_ok (l := []) g.1, bx_nfP_ok h0_ (fvs := []) (by decide +kernel) g.2.1, ?_, ?_⟩
  · show rxIPLP_1 S0 ws S_p (bx_val [(0, 0), (0, 0), (0, 0), (0, 0), (0, 0), (0, 0), (0, 0), (0, 0), (8, 0)] r_p 8)
    rw [bx_val_x (n := 8) (e := (8, 0)) h0_ rfl]
    exact g.2.2.1
  · show rxmPLP_1 S0 ws S_p (bx_val [(0, 0), (0, 0), (0, 0), (0, 0), (0, 0), (0, 0), (0, 0), (0, 0), (8, 0)] r_p 8) < rxmPLP_0 S0 ws S_p (r 8)
    rw [bx_val_x (n := 8) (e := (8, 0)) h0_ rfl, ← hr_ 8 (by decide)]
    exact g.2.2.2
theorem rxcPLP_0_1 {S0 : Nat → Int → Int} {ws : List Int} {S : Nat → Int → Int} {pa x9 : Int} (hP : rxPPLP S0 ws) (hin : bx_same rxL (bx_mdl rxC239.2.2.1) S0 S) (I0 : bx_Inv rxL S) (hinv : rxIPLP_0 S0 ws S pa) (l8 : 0 ≤ pa) (u8 : pa ≤ 2147483647) (l9 : 0 ≤ x9) (u9 : x9 ≤ 6) (f0 : x9 ≤ pa) (e0 : S 1 0 = x9) : (True) ∧ (True) ∧ rxIPLP_1 S0 ws S pa ∧ rxmPLP_1 S0 ws S pa < rxmPLP_0 S0 ws S pa := by
  obtain ⟨rfl, hw⟩ := hinv
  exact ⟨trivial, trivial, ⟨rfl, by omega, hw⟩, by unfold rxmPLP_0 rxmPLP_1; omega⟩
theorem rxgPLP_0_1 {X : (Nat → Int → Int) → Prop} {S0 : Nat → Int → Int} {ws : List Int} (hP : rxPPLP S0 ws) : bx_obC rxL X S0 rxC239.2.2.1 (rxIPLP S0 ws) (rxmPLP S0 ws) 0 rxzPLP_0 rxoPLP_0_1 := by
  intro S S_p r r_p hinv hX hin hsm_ hseg
  obtain ⟨I0, I1, h0_, hr_, b_, f_, d_⟩ := bx_cl (evs := [(0, (0, 1), (0, 0), .inr (0, (9, 0)))]) (fvs := [(1, (9, 0), (8, 0), (0, 0))]) hseg (by decide +kernel) (by decide +kernel)
  have hinv : rxIPLP_0 S0 ws S (r 8) := hinv
  rw [← hr_ 8 (by decide)] at hinv
  obtain ⟨⟨l8, u8⟩, ⟨l9, u9⟩, -⟩ := b_
  obtain ⟨f0, -⟩ := f_
  obtain ⟨e0, w_⟩ := d_
  subst w_
  have g := rxcPLP_0_1 hP hin I0 hinv l8 u8 l9 u9 f0 e0
  refine ⟨bx_narP_ok (l := []) g.1, bx_nfP_ok h0_ (fvs := []) (by decide +kernel) g.2.1, ?_, ?_⟩
  · show rxIPLP_1 S0 ws S_p (bx_val [(0, 0), (0, 0), (0, 0), (0, 0), (0, 0), (0, 0), (0, 0), (0, 0), (8, 0)] r_p 8)
    rw [bx_val_x (n := 8) (e := (8, 0)) h0_ rfl]
    exact g.2.2.1
  · show rxmPLP_1 S0 ws S_p (bx_val [(0, 0), (0, 0), (0, 0), (0, 0), (0, 0), (0, 0), (0, 0), (0, 0), (8, 0)] r_p 8) < rxmPLP_0 S0 ws S_p (r 8)
    rw [bx_val_x (n := 8) (e := (8, 0)) h0_ rfl, ← hr_ 8 (by decide)]
    exact g.2.2.2
theorem rxcPLP_0_2 {S0 : Nat → Int → Int} {ws : List Int} {S : Nat → Int → Int} {pa x9 x10 : Int} (hP : rxPPLP S0 ws) (hin : bx_same rxL (bx_mdl rxC239.2.2.1) S0 S) (I0 : bx_Inv rxL S) (hinv : rxIPLP_0 S0 ws S pa) (l8 : 0 ≤ pa) (u8 : pa ≤ 5) (l9 : 1 ≤ x9) (u9 : x9 ≤ 6) (l10 : 0 ≤ x10) (u10 : x10 ≤ 400) (f0 : pa < x9) (e1 : S 1 0 = x9) (e0 : S 0 4 = x10) : (True) ∧ (True) ∧ rxIPLP_3 S0 ws S pa x10 ∧ rxmPLP_3 S0 ws S pa x10 < rxmPLP_0 S0 ws S pa := by
  obtain ⟨rfl, hw⟩ := hinv
  exact ⟨trivial, trivial, ⟨rfl, by omega, by omega, e0.symm, hw⟩, by unfold rxmPLP_0 rxmPLP_3; omega⟩
theorem rxgPLP_0_2 {X : (Nat → Int → Int) → Prop} {S0 : Nat → Int → Int} {ws : List Int} (hP : rxPPLP S0 ws) : bx_obC rxL X S0 rxC239.2.2.1 (rxIPLP S0 ws) (rxmPLP S0 ws) 0 rxzPLP_0 rxoPLP_0_2 := by
  intro S S_p r r_p hinv hX hin hsm_ hseg
  obtain ⟨I0, I1, h0_, hr_, b_, f_, d_⟩ := bx_cl (evs := [(0, (0, 0), (0, 4), .inr (0, (10, 0))), (0, (0, 1), (0, 0), .inr (0, (9, 0)))]) (fvs := [(0, (8, 0), (9, 0), (0, 0))]) hseg (by decide +kernel) (by decide +kernel)
  have hinv : rxIPLP_0 S0 ws S (r 8) := hinv
  rw [← hr_ 8 (by decide)] at hinv
  obtain ⟨⟨l8, u8⟩, ⟨l9, u9⟩, ⟨l10, u10⟩, -⟩ := b_
  obtain ⟨f0, -⟩ := f_
  obtain ⟨e0, ⟨e1, w_⟩⟩ := d_
  subst w_
  have g := rxcPLP_0_2 hP hin I0 hinv l8 u8 l9 u9 l10 u10 f0 e1 e0
  refine ⟨bx_narP_ok (l := []) g.1, bx_nfP_ok h0_ (fvs := []) (by decide +kernel) g.2.1, ?_, ?_⟩
  · show rxIPLP_3 S0 ws S_p (bx_val [(0, 0), (0, 0), (0, 0), (0, 0), (0, 0), (0, 0), (0, 0), (0, 0), (8, 0), (10, 0)] r_p 8) (bx_val [(0, 0), (0, 0), (0, 0), (0, 0), (0, 0), (0, 0), (0, 0), (0, 0), (8, 0), (10, 0)] r_p 9)
    rw [bx_val_x (n := 8) (e := (8, 0)) h0_ rfl, bx_val_x (n := 9) (e := (10, 0)) h0_ rfl]
    exact g.2.2.1
  · show rxmPLP_3 S0 ws S_p (bx_val [(0, 0), (0, 0), (0, 0), (0, 0), (0, 0), (0, 0), (0, 0), (0, 0), (8, 0), (10, 0)] r_p 8) (bx_val [(0, 0), (0, 0), (0, 0), (0, 0), (0, 0), (0, 0), (0, 0), (0, 0), (8, 0), (10, 0)] r_p 9) < rxmPLP_0 S0 ws S_p (r 8)
    rw [bx_val_x (n := 8) (e := (8, 0)) h0_ rfl, bx_val_x (n := 9) (e := (10, 0)) h0_ rfl, ← hr_ 8 (by decide)]
    exact g.2.2.2
theorem rxdPLP_2_0 {S0 : Nat → Int → Int} {ws : List Int} {S : Nat → Int → Int} {pa res : Int} (hP : rxPPLP S0 ws) (hin : bx_same rxL (bx_mdl rxC239.2.2.1) S0 S) (hin2 : bx_same rxL (bx_mdl rxC239.2.2.1) S S) (I0 : bx_Inv rxL S) (I1 : bx_Inv rxL S) (hinv : rxIPLP_2 S0 ws S pa res) (l8 : (-2147483648) ≤ pa) (u8 : pa ≤ 2147483647) (l9 : (-6) ≤ res) (u9 : res ≤ (-1)) : (True) ∧ rxPSPLP S0 ws S (some res) := by
  obtain ⟨hr, hg, hw, h4, h5, ho, hs⟩ := hinv
  exact ⟨trivial, rkOe_of ho.2, pa, hw, Or.inl ⟨hg, congrArg some hr, h4, h5, hs⟩⟩
theorem rxfPLP_2_0 {X : (Nat → Int → Int) → Prop} {S0 : Nat → Int → Int} {ws : List Int} (hP : rxPPLP S0 ws) : bx_obE rxL X S0 rxC239.2.2.1 (rxIPLP S0 ws) (rxPSPLP S0 ws) 2 rxzPLP_2 rxePLP_2_0 := by
  intro S S_p r r_p hinv hX hin hsm_ hseg
  obtain ⟨I0, I1, h0_, hr_, b_, f_, d_⟩ := bx_cl (evs := []) (fvs := []) hseg (by decide +kernel) (by decide +kernel)
  have hinv : rxIPLP_2 S0 ws S (r 8) (r 9) := hinv
  rw [← hr_ 8 (by decide), ← hr_ 9 (by decide)] at hinv
  obtain ⟨⟨l8, u8⟩, ⟨l9, u9⟩, -⟩ := b_
  have w_ := d_
  subst w_
  have g := rxdPLP_2_0 hP hin hsm_ I0 I1 hinv l8 u8 l9 u9
  refine ⟨bx_narP_ok (l := []) g.1, ?_⟩
  show rxPSPLP S0 ws S_p (some (bx_num r_p (.inr (0, (9, 0)))))
  rw [bx_xv_ok h0_]
  exact g.2
theorem rxcPLP_4_0 {S0 : Nat → Int → Int} {ws : List Int} {S : Nat → Int → Int} {pa nb res : Int} (hP : rxPPLP S0 ws) (hin : bx_same rxL (bx_mdl rxC239.2.2.1) S0 S) (I0 : bx_Inv rxL S) (hinv : rxIPLP_4 S0 ws S pa nb res) (l8 : 0 ≤ pa) (u8 : pa ≤ 5) (l9 : 0 ≤ nb) (u9 : nb ≤ 400) (l10 : 1 ≤ res) (u10 : res ≤ 1) (f0 : res ≠ 0) : (True) ∧ (True) ∧ rxIPLP_7 S0 ws (bx_up S 0 4 0) pa ∧ rxmPLP_7 S0 ws (bx_up S 0 4 0) pa < rxmPLP_4 S0 ws S pa nb res := by
  obtain ⟨p0, p1, hw, ⟨r, r1, r2⟩, ht, ho, hs⟩ := hinv
  rcases r2 with ⟨a, b, c⟩ | ⟨a, b, c⟩
  · obtain ⟨L, l1, l2, l3⟩ := ht (by omega)
    exact ⟨trivial, trivial, ⟨p0, p1, hw, bx_up_at, ⟨r, r1, b, ((bx_up_ne (by omega))).trans c⟩, ⟨L, l1, rkHl_eq l2 ⟨(bx_up_ne (by omega)), (bx_up_ne (by omega)), ⟨(bx_up_ne (by omega)), (bx_up_ne (by omega)), (bx_up_ne (by omega))⟩, fun _ _ _ => ⟨(bx_up_ne (by omega)), (bx_up_ne (by omega))⟩, fun _ _ _ _ _ _ => (bx_up_ne (by omega))⟩, l3⟩, (rkPO_up (q := 0) (by decide +kernel) (fun g => absurd g.1 (by decide)) ho), fun p t a b c => ((bx_up_ne (by omega))).trans (hs p t a b c)⟩, by unfold rxmPLP_4 rxmPLP_7; omega⟩
  · omega
theorem rxgPLP_4_0 {X : (Nat → Int → Int) → Prop} {S0 : Nat → Int → Int} {ws : List Int} (hP : rxPPLP S0 ws) : bx_obC rxL X S0 rxC239.2.2.1 (rxIPLP S0 ws) (rxmPLP S0 ws) 4 rxzPLP_4 rxoPLP_4_0 := by
  intro S S_p r r_p hinv hX hin hsm_ hseg
  obtain ⟨I0, I1, h0_, hr_, b_, f_, d_⟩ := bx_cl (evs := [(1, (0, 0), (0, 4), .inr (0, (0, 0)))]) (fvs := [(3, (10, 0), (0, 0), (0, 0))]) hseg (by decide +kernel) (by decide +kernel)
  have hinv : rxIPLP_4 S0 ws S (r 8) (r 9) (r 10) := hinv
  rw [← hr_ 8 (by decide), ← hr_ 9 (by decide), ← hr_ 10 (by decide)] at hinv
  obtain ⟨⟨l8, u8⟩, ⟨l9, u9⟩, ⟨l10, u10⟩, -⟩ := b_
  obtain ⟨f0, -⟩ := f_
  obtain ⟨T0, w_, w0⟩ := d_
  subst w0
  subst w_
  have g := rxcPLP_4_0 hP hin I0 hinv l8 u8 l9 u9 l10 u10 f0
  refine ⟨bx_narP_ok (l := []) g.1, bx_nfP_ok h0_ (fvs := []) (by decide +kernel) g.2.1, ?_, ?_⟩
  · show rxIPLP_7 S0 ws (bx_up T0 0 (4) (0)) (bx_val [(0, 0), (0, 0), (0, 0), (0, 0), (0, 0), (0, 0), (0, 0), (0, 0), (8, 0)] r_p 8)
    rw [bx_val_x (n := 8) (e := (8, 0)) h0_ rfl]
    exact g.2.2.1
  · show rxmPLP_7 S0 ws (bx_up T0 0 (4) (0)) (bx_val [(0, 0), (0, 0), (0, 0), (0, 0), (0, 0), (0, 0), (0, 0), (0, 0), (8, 0)] r_p 8) < rxmPLP_4 S0 ws T0 (r 8) (r 9) (r 10)
    rw [bx_val_x (n := 8) (e := (8, 0)) h0_ rfl, ← hr_ 8 (by decide), ← hr_ 9 (by decide), ← hr_ 10 (by decide)]
    exact g.2.2.2
theorem rxcPLP_4_1 {S0 : Nat → Int → Int} {ws : List Int} {S : Nat → Int → Int} {pa nb res : Int} (hP : rxPPLP S0 ws) (hin : bx_same rxL (bx_mdl rxC239.2.2.1) S0 S) (I0 : bx_Inv rxL S) (hinv : rxIPLP_4 S0 ws S pa nb res) (l8 : 0 ≤ pa) (u8 : pa ≤ 5) (l9 : 0 ≤ nb) (u9 : nb ≤ 400) (l10 : 0 ≤ res) (u10 : res ≤ 0) : (True) ∧ (True) ∧ rxIPLP_5 S0 ws (bx_up S 0 4 0) pa ∧ rxmPLP_5 S0 ws (bx_up S 0 4 0) pa < rxmPLP_4 S0 ws S pa nb res := by
  obtain ⟨p0, p1, hw, ⟨r, r1, r2⟩, ht, ho, hs⟩ := hinv
  rcases r2 with ⟨a, b, c⟩ | ⟨a, b, c⟩
  · omega
  · exact ⟨trivial, trivial, ⟨p0, p1, hw, bx_up_at, ⟨r, r1, b, ((bx_up_ne (by omega))).trans c⟩, (rkPO_up (q := 0) (by decide +kernel) (fun g => absurd g.1 (by decide)) ho), fun p t a b c => ((bx_up_ne (by omega))).trans (hs p t a b c)⟩, by unfold rxmPLP_4 rxmPLP_5; omega⟩
theorem rxgPLP_4_1 {X : (Nat → Int → Int) → Prop} {S0 : Nat → Int → Int} {ws : List Int} (hP : rxPPLP S0 ws) : bx_obC rxL X S0 rxC239.2.2.1 (rxIPLP S0 ws) (rxmPLP S0 ws) 4 rxzPLP_4 rxoPLP_4_1 := by
  intro S S_p r r_p hinv hX hin hsm_ hseg
  obtain ⟨I0, I1, h0_, hr_, b_, f_, d_⟩ := bx_cl (evs := [(1, (0, 0), (0, 4), .inr (0, (0, 0)))]) (fvs := []) hseg (by decide +kernel) (by decide +kernel)
  have hinv : rxIPLP_4 S0 ws S (r 8) (r 9) (r 10) := hinv
  rw [← hr_ 8 (by decide), ← hr_ 9 (by decide), ← hr_ 10 (by decide)] at hinv
  obtain ⟨⟨l8, u8⟩, ⟨l9, u9⟩, ⟨l10, u10⟩, -⟩ := b_
  obtain ⟨T0, w_, w0⟩ := d_
  subst w0
  subst w_
  have g := rxcPLP_4_1 hP hin I0 hinv l8 u8 l9 u9 l10 u10
  refine ⟨bx_narP_ok (l := []) g.1, bx_nfP_ok h0_ (fvs := []) (by decide +kernel) g.2.1, ?_, ?_⟩
  · show rxIPLP_5 S0 ws (bx_up T0 0 (4) (0)) (bx_val [(0, 0), (0, 0), (0, 0), (0, 0), (0, 0), (0, 0), (0, 0), (0, 0), (8, 0)] r_p 8)
    rw [bx_val_x (n := 8) (e := (8, 0)) h0_ rfl]
    exact g.2.2.1
  · show rxmPLP_5 S0 ws (bx_up T0 0 (4) (0)) (bx_val [(0, 0), (0, 0), (0, 0), (0, 0), (0, 0), (0, 0), (0, 0), (0, 0), (8, 0)] r_p 8) < rxmPLP_4 S0 ws T0 (r 8) (r 9) (r 10)
    rw [bx_val_x (n := 8) (e := (8, 0)) h0_ rfl, ← hr_ 8 (by decide), ← hr_ 9 (by decide), ← hr_ 10 (by decide)]
    exact g.2.2.2
theorem rxdPLP_6_0 {S0 : Nat → Int → Int} {ws : List Int} {S : Nat → Int → Int} {pa res : Int} (hP : rxPPLP S0 ws) (hin : bx_same rxL (bx_mdl rxC239.2.2.1) S0 S) (hin2 : bx_same rxL (bx_mdl rxC239.2.2.1) S S) (I0 : bx_Inv rxL S) (I1 : bx_Inv rxL S) (hinv : rxIPLP_6 S0 ws S pa res) (l8 : 0 ≤ pa) (u8 : pa ≤ 5) (l9 : (-6) ≤ res) (u9 : res ≤ (-1)) : (True) ∧ rxPSPLP S0 ws S (some res) := by
  obtain ⟨hr, p0, p1, hw, h4, ⟨r, r1, r2, r3⟩, ho, hs⟩ := hinv
  exact ⟨trivial, rkOe_of ho.2, pa, hw, Or.inr ⟨p0, p1, h4, r, r1, Or.inr ⟨r2, congrArg some hr, r3, hs⟩⟩⟩
theorem rxfPLP_6_0 {X : (Nat → Int → Int) → Prop} {S0 : Nat → Int → Int} {ws : List Int} (hP : rxPPLP S0 ws) : bx_obE rxL X S0 rxC239.2.2.1 (rxIPLP S0 ws) (rxPSPLP S0 ws) 6 rxzPLP_6 rxePLP_6_0 := by
  intro S S_p r r_p hinv hX hin hsm_ hseg
  obtain ⟨I0, I1, h0_, hr_, b_, f_, d_⟩ := bx_cl (evs := []) (fvs := []) hseg (by decide +kernel) (by decide +kernel)
  have hinv : rxIPLP_6 S0 ws S (r 8) (r 9) := hinv
  rw [← hr_ 8 (by decide), ← hr_ 9 (by decide)] at hinv
  obtain ⟨⟨l8, u8⟩, ⟨l9, u9⟩, -⟩ := b_
  have w_ := d_
  subst w_
  have g := rxdPLP_6_0 hP hin hsm_ I0 I1 hinv l8 u8 l9 u9
  refine ⟨bx_narP_ok (l := []) g.1, ?_⟩
  show rxPSPLP S0 ws S_p (some (bx_num r_p (.inr (0, (9, 0)))))
  rw [bx_xv_ok h0_]
  exact g.2
theorem rxdPLP_8_0 {S0 : Nat → Int → Int} {ws : List Int} {S : Nat → Int → Int} {pa n : Int} (hP : rxPPLP S0 ws) (hin : bx_same rxL (bx_mdl rxC239.2.2.1) S0 S) (hin2 : bx_same rxL (bx_mdl rxC239.2.2.1) S (bx_up S 0 8 0)) (I0 : bx_Inv rxL S) (I1 : bx_Inv rxL (bx_up S 0 8 0)) (hinv : rxIPLP_8 S0 ws S pa n) (l8 : 0 ≤ pa) (u8 : pa ≤ 5) (l9 : (-2147483648) ≤ n) (u9 : n ≤ 2147483647) : (True) ∧ rxPSPLP S0 ws (bx_up S 0 8 0) (some n) := by
  obtain ⟨p0, p1, hw, h4, ⟨r, r1, r2, r3⟩, ⟨hop, L, l1, l2⟩, ho⟩ := hinv
  refine ⟨trivial, (rkOe_up (q := 0) (by decide +kernel) ho), pa, hw, Or.inr ⟨p0, p1, ((bx_up_ne (by omega))).trans h4, r, r1, Or.inl ⟨r2, ((bx_up_ne (by omega))).trans r3, L, n, l1, rfl, fun p t a b c d e => ((bx_up_ne (by omega))).trans (hop p t a b c d e), fun s0 hr => ?_⟩⟩⟩
  obtain ⟨s, g1, g2⟩ := l2 s0 hr
  exact ⟨s, g1, fun t a b => ⟨(g2 t a b).1, ((bx_up_ne (by omega))).trans (g2 t a b).2.1, ((bx_up_ne (by omega))).trans (g2 t a b).2.2⟩⟩
theorem rxfPLP_8_0 {X : (Nat → Int → Int) → Prop} {S0 : Nat → Int → Int} {ws : List Int} (hP : rxPPLP S0 ws) : bx_obE rxL X S0 rxC239.2.2.1 (rxIPLP S0 ws) (rxPSPLP S0 ws) 8 rxzPLP_8 rxePLP_8_0 := by
  intro S S_p r r_p hinv hX hin hsm_ hseg
  obtain ⟨I0, I1, h0_, hr_, b_, f_, d_⟩ := bx_cl (evs := [(1, (0, 0), (0, 8), .inr (0, (0, 0)))]) (fvs := []) hseg (by decide +kernel) (by decide +kernel)
  have hinv : rxIPLP_8 S0 ws S (r 8) (r 9) := hinv
  rw [← hr_ 8 (by decide), ← hr_ 9 (by decide)] at hinv
  obtain ⟨⟨l8, u8⟩, ⟨l9, u9⟩, -⟩ := b_
  obtain ⟨T0, w_, w0⟩ := d_
  subst w0
  subst w_
  have g := rxdPLP_8_0 hP hin hsm_ I0 I1 hinv l8 u8 l9 u9
  refine ⟨bx_narP_ok (l := []) g.1, ?_⟩
  show rxPSPLP S0 ws (bx_up T0 0 (8) (0)) (some (bx_num r_p (.inr (0, (9, 0)))))
  rw [bx_xv_ok h0_]
  exact g.2
theorem rxgCPLP {X : (Nat → Int → Int) → Prop} {S0 : Nat → Int → Int} {ws : List Int} (hP : rxPPLP S0 ws) : bx_allI (fun i q => rxUPLP q = true ∨ bx_allP (fun o => bx_obC rxL X S0 rxC239.2.2.1 (rxIPLP S0 ws) (rxmPLP S0 ws) i q.1 o) q.2.1) 0 rxYPLP := ⟨Or.inr ⟨rxgPLP_0_0 hP, rxgPLP_0_1 hP, rxgPLP_0_2 hP, trivial⟩, Or.inl rfl, Or.inr trivial, Or.inl rfl, Or.inr ⟨rxgPLP_4_0 hP, rxgPLP_4_1 hP, trivial⟩, Or.inl rfl, Or.inr trivial, Or.inl rfl, Or.inr trivial, trivial⟩
theorem rxgEPLP {X : (Nat → Int → Int) → Prop} {S0 : Nat → Int → Int} {ws : List Int} (hP : rxPPLP S0 ws) : bx_allI (fun i q => rxUPLP q = true ∨ bx_allP (fun E => bx_obE rxL X S0 rxC239.2.2.1 (rxIPLP S0 ws) (rxPSPLP S0 ws) i q.1 E) q.2.2) 0 rxYPLP := ⟨Or.inr trivial, Or.inl rfl, Or.inr ⟨rxfPLP_2_0 hP, trivial⟩, Or.inl rfl, Or.inr trivial, Or.inl rfl, Or.inr ⟨rxfPLP_6_0 hP, trivial⟩, Or.inl rfl, Or.inr ⟨rxfPLP_8_0 hP, trivial⟩, trivial⟩
theorem rxuPLP {PX : State → Prop} {Dg : va_G} {A : Nat → Prop} {ad xa : Nat → Nat} {l : Launch} {X : (Nat → Int → Int) → Prop} (hPX : rx_PXOK rxNW A PX) (hX : ∀ S S1 : Nat → Int → Int, X S → bx_same rxL (bx_mdl rxC239.2.2.1) S S1 → X S1) (hQ110 : bx_ConP rxG rxNW rxAO PX Dg rxL X vwCl A ad l rxM110 rxC110 rxP110 rxPS110) (hQRDXO : bx_ConP rxG rxNW rxAO PX Dg rxL X vwCl A ad l rxM119 rxCRDXO rxPRDXO rxPSRDXO) (hQPFM : bx_ConP rxG rxNW rxAO PX Dg rxL X vwCl A ad l rxM120 rxCPFM rxPPFM rxPSPFM) {S0 : Nat → Int → Int} {ws : List Int} (hP : rxPPLP S0 ws) : ∀ (i : Nat) (q : bx_HE), rxYPLP[i]? = some q → rxUPLP q = true → ∀ {p : Program} {e : Env} {R : Room} {s : State} {m : MethodId} {args : Array Value} {below : List Frame} {meth : Method} {c : Code} {Q : State → Prop} {H0 : Heap}, rx_Fr rxG rxNW rxAO PX p s m args meth c rxM239 → (∀ q, H0.size ≤ q → A q) → H0 = s.heap → rxM239.2.2.2.2.2.2.1 ≤ R.cells → rxM239.2.2.2.2.2.2.2 ≤ R.slots → rxC239.2.2.2.1 ≤ R.frames → rxC239.2.2.2.1 * 40 ≤ R.locals → bx_Step p l e R s m args below meth c Q Dg rxL X vwCl A xa H0 ad rxM239 rxYPLP (rxIPLP S0 ws) (rxmPLP S0 ws) S0 rxC239.2.2.1 i q := by
  intro i q hq hus p e R s m args below meth c Q H0 hF hA hH0 hmc hms hd hdl
  match i, hq with
  | 0, hq =>
    cases hq
    exact absurd (show false = true from hus) Bool.false_ne_true
  | 1, hq =>
    cases hq
    exact rx_stepC (ins := .invokevirtual 110) (len := 3) (i_p := 2) (M_p := rxM110) (d := rxC239.2.2.2.1) (as := [.inr (3, (0, 0)), .inr (0, (0, (-2)))]) (t := []) (ct := rxC110) hPX hF rfl hA hH0 hmc hms hd hdl (by decide +kernel) rfl rfl (by decide +kernel) (by decide +kernel) hQ110 (by decide +kernel) rfl (Or.inr ⟨_, _, _, 1, rfl, rfl, by omega, rfl, rfl, rfl⟩) (rxsPLP_1 hP)
  | 2, hq =>
    cases hq
    exact absurd (show false = true from hus) Bool.false_ne_true
  | 3, hq =>
    cases hq
    exact rx_stepC (ins := .invokevirtual 212) (len := 3) (i_p := 4) (M_p := rxM119) (d := rxC239.2.2.2.1) (as := [.inr (3, (0, 412)), .inr (3, (0, 411)), .inr (0, (9, 0)), .inr (0, (0, 1)), .inr (3, (0, 427))]) (t := []) (ct := rxCRDXO) hPX hF rfl hA hH0 hmc hms hd hdl (by decide +kernel) rfl rfl (by decide +kernel) (by decide +kernel) hQRDXO (by decide +kernel) rfl (Or.inr ⟨_, _, _, 1, rfl, rfl, by omega, rfl, rfl, rfl⟩) (rxsPLP_3 hP)
  | 4, hq =>
    cases hq
    exact absurd (show false = true from hus) Bool.false_ne_true
  | 5, hq =>
    cases hq
    exact rx_stepC (ins := .invokevirtual 110) (len := 3) (i_p := 6) (M_p := rxM110) (d := rxC239.2.2.2.1) (as := [.inr (3, (0, 0)), .inr (0, (0, (-6)))]) (t := []) (ct := rxC110) hPX hF rfl hA hH0 hmc hms hd hdl (by decide +kernel) rfl rfl (by decide +kernel) (by decide +kernel) hQ110 (by decide +kernel) rfl (Or.inr ⟨_, _, _, 1, rfl, rfl, by omega, rfl, rfl, rfl⟩) (rxsPLP_5 hP)
  | 6, hq =>
    cases hq
    exact absurd (show false = true from hus) Bool.false_ne_true
  | 7, hq =>
    cases hq
    exact rx_stepC (ins := .invokevirtual 216) (len := 3) (i_p := 8) (M_p := rxM120) (d := rxC239.2.2.2.1) (as := [.inr (3, (0, 1)), .inr (3, (0, 427)), .inr (0, (8, 0))]) (t := [.inr (3, (0, 0))]) (ct := rxCPFM) hPX hF rfl hA hH0 hmc hms hd hdl (by decide +kernel) rfl rfl (by decide +kernel) (by decide +kernel) hQPFM (by decide +kernel) rfl (Or.inr ⟨_, _, _, 1, rfl, rfl, by omega, rfl, rfl, rfl⟩) (rxsPLP_7 hP)
  | 8, hq =>
    cases hq
    exact absurd (show false = true from hus) Bool.false_ne_true
  | n + 9, hq => cases hq
theorem rxQPLP {PX : State → Prop} {Dg : va_G} {A : Nat → Prop} {ad xa : Nat → Nat} {l : Launch} {X : (Nat → Int → Int) → Prop} (hPX : rx_PXOK rxNW A PX) (hsl : ∀ s : State, PX s → ∀ o idx n : Nat, rxSl o idx = some n → ∃ tx : String, vk_R (rxNm o) idx tx (ad n) s)
    (hX : ∀ S S_p : Nat → Int → Int, X S → bx_same rxL (bx_mdl rxC239.2.2.1) S S_p → X S_p)
    (ih : ∀ (j2 : Nat) (ct2 : bx_Ct) (M2 : rx_Mt), ct2 ∈ rxCnE j2 → ct2.2.2.2.1 + 1 ≤ rxC239.2.2.2.1 → rxT.2.2.2.2.2 j2 = some M2 → bx_Con rxG rxNW rxAO PX Dg rxL X vwCl A ad l M2 ct2) (hQ110 : bx_ConP rxG rxNW rxAO PX Dg rxL X vwCl A ad l rxM110 rxC110 rxP110 rxPS110) (hQRDXO : bx_ConP rxG rxNW rxAO PX Dg rxL X vwCl A ad l rxM119 rxCRDXO rxPRDXO rxPSRDXO) (hQPFM : bx_ConP rxG rxNW rxAO PX Dg rxL X vwCl A ad l rxM120 rxCPFM rxPPFM rxPSPFM) : bx_ConP rxG rxNW rxAO PX Dg rxL X vwCl A ad l rxM239 rxC239 rxPPLP rxPSPLP :=
  rxQof (xa := xa) (Cn := rxCnE) (f := 30000) (j := 239) (tab := rxYPLP) (us := rxUPLP) hPX hsl hX ih rfl rxYcPLP rxIPLP rxmPLP
    (fun S0 ws r I0 I ht0 ht as he he1 hX0 hI0 hP hs ha => by
      have e := he.symm.trans (show bx_ent0 rxNP rxC239.1 bx_I0 [] = some ([(0, 0), (0, 0), (0, 0), (0, 0), (0, 0), (0, 0), (0, 0), (0, 0), ((-2147483648), 2147483647)], [], [.inr (3, (0, 0)), .inr (0, (8, 0))]) from rfl)
      cases e
      subst ha
      have h0 : r 0 = 0 := hs.1
      show rxIPLP_0 S0 _ S0 (r 8)
      refine ⟨rfl, ?_⟩
      simp only [List.map_cons, List.map_nil, bx_xv_ok h0]
      rfl)
    (fun S0 ws hP => rxuPLP (xa := xa) hPX hX hQ110 hQRDXO hQPFM hP) (fun S0 ws hP => rxgCPLP hP) (fun S0 ws hP => rxgEPLP hP)
end
section
noncomputable def rzPT242T (S0 : Nat → Int → Int) (ws : List Int) (S : Nat → Int → Int) (w : Option Int) : Prop := (rzCk S0 → (S0 482 3 = 6 ∧ w = some (-5) ∧ S 480 8 = 0 ∧ S 480 13 = S0 480 13 ∧ S 482 3 = S0 482 3) ∨ (S0 482 3 ≠ 6 ∧ S 480 8 = 0 ∧ ∃ r : rzR, rzText (decide ((0 : Int) = 1)) (rzCut (S0 485)) (S0 480 8) r ∧ ((r.1 = true ∧ w = some (S0 482 3) ∧ S 480 13 = -1 ∧ S 482 3 = S0 482 3 + 1) ∨ (r.1 = false ∧ w = some (-6) ∧ S 480 13 = r.2.1 ∧ S 482 3 = S0 482 3)))) ∧ (rzCk S0 → rkLw S0 S)
set_option maxHeartbeats 1000000 in
theorem rzQ242T {PX : State → Prop} {Dg : va_G} {A : Nat → Prop} {ad : Nat → Nat} {l : Launch} (hPX : rx_PXOK rxNW A PX) (hsl : ∀ s : State, PX s → ∀ o idx n : Nat, rxSl o idx = some n → ∃ tx : String, vk_R (rxNm o) idx tx (ad n) s) : bx_ConP rxG rxNW rxAO PX Dg rxL rxX vwCl A ad l rxM242 rxC242 (fun _ _ => True) rzPT242T := by
  have qNXX := rxQNXX (PX := PX) (Dg := Dg) (A := A) (ad := ad) (xa := fun n => n) (l := l) (X := (fun _ => True)) hPX hsl (fun _ _ h _ => h) (fun _ _ _ h => absurd h List.not_mem_nil)
  have qBGW := rxQBGW (PX := PX) (Dg := Dg) (A := A) (ad := ad) (xa := fun n => n) (l := l) (X := (fun _ => True)) hPX hsl (fun _ _ h _ => h) (fun _ _ _ h => absurd h List.not_mem_nil) qNXX
  have qBXW := rxQBXW (PX := PX) (Dg := Dg) (A := A) (ad := ad) (xa := fun n => n) (l := l) (X := (fun _ => True)) hPX hsl (fun _ _ h _ => h) (fun _ _ _ h => absurd h List.not_mem_nil) qBGW
  have qMUW := rxQMUW (PX := PX) (Dg := Dg) (A := A) (ad := ad) (xa := fun n => n) (l := l) (X := (fun _ => True)) hPX hsl (fun _ _ h _ => h) (fun _ _ _ h => absurd h List.not_mem_nil) qNXX
  have qPU := rxQPU (PX := PX) (Dg := Dg) (A := A) (ad := ad) (xa := fun n => n) (l := l) (X := (fun _ => True)) hPX hsl (fun _ _ h _ => h) (fun _ _ _ h => absurd h List.not_mem_nil)
  have qOBK := rxQOBK (PX := PX) (Dg := Dg) (A := A) (ad := ad) (xa := fun n => n) (l := l) (X := (fun _ => True)) hPX hsl (fun _ _ h _ => h) (fun _ _ _ h => absurd h List.not_mem_nil) qMUW qPU
  have qPPW := rxQPPW (PX := PX) (Dg := Dg) (A := A) (ad := ad) (xa := fun n => n) (l := l) (X := (fun _ => True)) hPX hsl (fun _ _ h _ => h) (fun _ _ _ h => absurd h List.not_mem_nil)
  have qPAW := rxQPAW (PX := PX) (Dg := Dg) (A := A) (ad := ad) (xa := fun n => n) (l := l) (X := (fun _ => True)) hPX hsl (fun _ _ h _ => h) (fun _ _ _ h => absurd h List.not_mem_nil)
  have qEM := rxQEM (PX := PX) (Dg := Dg) (A := A) (ad := ad) (xa := fun n => n) (l := l) (X := (fun _ => True)) hPX hsl (fun _ _ h _ => h) (fun _ _ _ h => absurd h List.not_mem_nil)
  have qLFK := rxQLFK (PX := PX) (Dg := Dg) (A := A) (ad := ad) (xa := fun n => n) (l := l) (X := (fun _ => True)) hPX hsl (fun _ _ h _ => h) (fun _ _ _ h => absurd h List.not_mem_nil) qMUW qEM
  have qRPK := rxQRPK (PX := PX) (Dg := Dg) (A := A) (ad := ad) (xa := fun n => n) (l := l) (X := (fun _ => True)) hPX hsl (fun _ _ h _ => h) (fun _ _ _ h => absurd h List.not_mem_nil) qOBK qPPW qPAW qLFK
  have qRNK := rxQRNK (PX := PX) (Dg := Dg) (A := A) (ad := ad) (xa := fun n => n) (l := l) (X := (fun _ => True)) hPX hsl (fun _ _ h _ => h) (fun _ _ _ h => absurd h List.not_mem_nil) qPU qNXX qOBK qRPK
  have qBIK := rxQBIK (PX := PX) (Dg := Dg) (A := A) (ad := ad) (xa := fun n => n) (l := l) (X := (fun _ => True)) hPX hsl (fun _ _ h _ => h) (fun _ _ _ h => absurd h List.not_mem_nil)
  have qSTK := rxQSTK (PX := PX) (Dg := Dg) (A := A) (ad := ad) (xa := fun n => n) (l := l) (X := (fun _ => True)) hPX hsl (fun _ _ h _ => h) (fun _ _ _ h => absurd h List.not_mem_nil) qEM
  have qIN := rxQIN (PX := PX) (Dg := Dg) (A := A) (ad := ad) (xa := fun n => n) (l := l) (X := (fun _ => True)) hPX hsl (fun _ _ h _ => h) (fun _ _ _ h => absurd h List.not_mem_nil)
  have qISW := rxQISW (PX := PX) (Dg := Dg) (A := A) (ad := ad) (xa := fun n => n) (l := l) (X := (fun _ => True)) hPX hsl (fun _ _ h _ => h) (fun _ _ _ h => absurd h List.not_mem_nil)
  have qICW := rxQICW (PX := PX) (Dg := Dg) (A := A) (ad := ad) (xa := fun n => n) (l := l) (X := (fun _ => True)) hPX hsl (fun _ _ h _ => h) (fun _ _ _ h => absurd h List.not_mem_nil)
  have qBSK := rxQBSK (PX := PX) (Dg := Dg) (A := A) (ad := ad) (xa := fun n => n) (l := l) (X := (fun _ => True)) hPX hsl (fun _ _ h _ => h) (fun _ _ _ h => absurd h List.not_mem_nil) qBIK qSTK qPU qNXX qIN qISW qMUW qICW
  have qBTK := rxQBTK (PX := PX) (Dg := Dg) (A := A) (ad := ad) (xa := fun n => n) (l := l) (X := (fun _ => True)) hPX hsl (fun _ _ h _ => h) (fun _ _ _ h => absurd h List.not_mem_nil) qSTK qPU qEM qNXX qIN qISW qMUW
  have qREXK := rxQREXK (PX := PX) (Dg := Dg) (A := A) (ad := ad) (xa := fun n => n) (l := l) (X := (fun _ => True)) hPX hsl (fun _ _ h _ => h) (fun _ _ _ h => absurd h List.not_mem_nil) qRNK qRPK qBSK qBTK qSTK
  have qRLK := rxQRLK (PX := PX) (Dg := Dg) (A := A) (ad := ad) (xa := fun n => n) (l := l) (X := (fun _ => True)) hPX hsl (fun _ _ h _ => h) (fun _ _ _ h => absurd h List.not_mem_nil) qMUW qREXK qNXX
  have qETW := rxQETW (PX := PX) (Dg := Dg) (A := A) (ad := ad) (xa := fun n => n) (l := l) (X := (fun _ => True)) hPX hsl (fun _ _ h _ => h) (fun _ _ _ h => absurd h List.not_mem_nil) qMUW
  have qLAWK := rxQLAWK (PX := PX) (Dg := Dg) (A := A) (ad := ad) (xa := fun n => n) (l := l) (X := (fun _ => True)) hPX hsl (fun _ _ h _ => h) (fun _ _ _ h => absurd h List.not_mem_nil) qBXW qRLK qNXX qETW
  exact rx_conW (rx_conX qLAWK (fun S0 ws h => h) (fun S0 ws S w _ _ h => h.1.1)) (fun _ _ _ _ h => ⟨h.1.2, h.2⟩)
end
section
set_option maxHeartbeats 1000000 in
theorem rzQ241T {PX : State → Prop} {Dg : va_G} {A : Nat → Prop} {ad : Nat → Nat} {l : Launch} (hPX : rx_PXOK rxNW A PX) (hsl : ∀ s : State, PX s → ∀ o idx n : Nat, rxSl o idx = some n → ∃ tx : String, vk_R (rxNm o) idx tx (ad n) s) (ih : ∀ (j : Nat) (ct : bx_Ct) (M : rx_Mt), ct ∈ rxCn j → rxT.2.2.2.2.2 j = some M → bx_Con rxG rxNW rxAO PX Dg rxL rxX vwCl A ad l M ct) {av : Nat → Nat} (hstr : rx_hstr PX A ad av) (hstr3 : rx_hstr3 PX A ad av) : bx_ConP rxG rxNW rxAO PX Dg rxL rxX vwCl A ad l rxM241 rxC241 (fun S0 _ => rkPf S0) rxPSLWDK := by
  have q110 := rxQ110 (PX := PX) (Dg := Dg) (A := A) (ad := ad) (xa := fun n => n) (l := l) (X := rxX) hPX hsl (fun _ _ h hm => rxX_of (by decide +kernel) h hm) (fun _ _ _ h => absurd h List.not_mem_nil)
  have qAD := rxQAD (PX := PX) (Dg := Dg) (A := A) (ad := ad) (xa := fun n => n) (l := l) (X := rxX) hPX hsl (fun _ _ h hm => rxX_of (by decide +kernel) h hm) (fun _ _ _ h => absurd h List.not_mem_nil)
  have qIWX := rxQIWX (PX := PX) (Dg := Dg) (A := A) (ad := ad) (xa := fun n => n) (l := l) (X := rxX) hPX hsl (fun _ _ h hm => rxX_of (by decide +kernel) h hm) (fun _ _ _ h => absurd h List.not_mem_nil) hstr hstr3
  have qTKW := rxQTKW (PX := PX) (Dg := Dg) (A := A) (ad := ad) (xa := fun n => n) (l := l) (X := rxX) hPX hsl (fun _ _ h hm => rxX_of (by decide +kernel) h hm) (fun _ _ _ h => absurd h List.not_mem_nil) qIWX qAD
  have qNUM := rxQNUM (PX := PX) (Dg := Dg) (A := A) (ad := ad) (xa := fun n => n) (l := l) (X := rxX) hPX hsl (fun _ _ h hm => rxX_of (by decide +kernel) h hm) (fun _ _ _ h => absurd h List.not_mem_nil)
  have qPLH := rxQPLH (PX := PX) (Dg := Dg) (A := A) (ad := ad) (xa := fun n => n) (l := l) (X := rxX) hPX hsl (fun _ _ h hm => rxX_of (by decide +kernel) h hm) (fun _ _ _ h => absurd h List.not_mem_nil) qIWX qNUM
  have qOCO := rxQOCO (PX := PX) (Dg := Dg) (A := A) (ad := ad) (xa := fun n => n) (l := l) (X := rxX) hPX hsl (fun _ _ h hm => rxX_of (by decide +kernel) h hm) (fun _ _ _ h => absurd h List.not_mem_nil)
  have qSHO := rxQSHO (PX := PX) (Dg := Dg) (A := A) (ad := ad) (xa := fun n => n) (l := l) (X := rxX) hPX hsl (fun _ _ h hm => rxX_of (by decide +kernel) h hm) (fun _ _ _ h => absurd h List.not_mem_nil)
  have qNMH := rxQNMH (PX := PX) (Dg := Dg) (A := A) (ad := ad) (xa := fun n => n) (l := l) (X := rxX) hPX hsl (fun _ _ h hm => rxX_of (by decide +kernel) h hm) (fun _ _ _ h => absurd h List.not_mem_nil) qIWX
  have qIPT := rxQIPT (PX := PX) (Dg := Dg) (A := A) (ad := ad) (xa := fun n => n) (l := l) (X := rxX) hPX hsl (fun _ _ h hm => rxX_of (by decide +kernel) h hm) (fun _ _ _ h => absurd h List.not_mem_nil) qNMH
  have qRPDO := rxQRPDO (PX := PX) (Dg := Dg) (A := A) (ad := ad) (xa := fun n => n) (l := l) (X := rxX) hPX hsl (fun _ _ h hm => rxX_of (by decide +kernel) h hm) (fun _ _ _ h => absurd h List.not_mem_nil) qNUM qNMH qAD
  have qRODO := rxQRODO (PX := PX) (Dg := Dg) (A := A) (ad := ad) (xa := fun n => n) (l := l) (X := rxX) hPX hsl (fun _ _ h hm => rxX_of (by decide +kernel) h hm) (fun _ _ _ h => absurd h List.not_mem_nil) qIWX qAD
  have qSTD := rxQSTD (PX := PX) (Dg := Dg) (A := A) (ad := ad) (xa := fun n => n) (l := l) (X := rxX) hPX hsl (fun _ _ h hm => rxX_of (by decide +kernel) h hm) (fun _ _ _ h => absurd h List.not_mem_nil)
  have qRDDO := rxQRDDO (PX := PX) (Dg := Dg) (A := A) (ad := ad) (xa := fun n => n) (l := l) (X := rxX) hPX hsl (fun _ _ h hm => rxX_of (by decide +kernel) h hm) (fun _ _ _ h => absurd h List.not_mem_nil) qSTD
  have qRCDO := rxQRCDO (PX := PX) (Dg := Dg) (A := A) (ad := ad) (xa := fun n => n) (l := l) (X := rxX) hPX hsl (fun _ _ h hm => rxX_of (by decide +kernel) h hm) (fun _ _ _ h => absurd h List.not_mem_nil) qRDDO qAD
  have qOPH := rxQOPH (PX := PX) (Dg := Dg) (A := A) (ad := ad) (xa := fun n => n) (l := l) (X := rxX) hPX hsl (fun _ _ h hm => rxX_of (by decide +kernel) h hm) (fun _ _ _ h => absurd h List.not_mem_nil) qIWX
  have qCEDO := rxQCEDO (PX := PX) (Dg := Dg) (A := A) (ad := ad) (xa := fun n => n) (l := l) (X := rxX) hPX hsl (fun _ _ h hm => rxX_of (by decide +kernel) h hm) (fun _ _ _ h => absurd h List.not_mem_nil) qRDDO
  have qROPO := rxQROPO (PX := PX) (Dg := Dg) (A := A) (ad := ad) (xa := fun n => n) (l := l) (X := rxX) hPX hsl (fun _ _ h hm => rxX_of (by decide +kernel) h hm) (fun _ _ _ h => absurd h List.not_mem_nil) qSTD qRDDO qAD
  have qREDO := rxQREDO (PX := PX) (Dg := Dg) (A := A) (ad := ad) (xa := fun n => n) (l := l) (X := rxX) hPX hsl (fun _ _ h hm => rxX_of (by decide +kernel) h hm) (fun _ _ _ h => absurd h List.not_mem_nil) qSHO qIPT qRPDO qRODO qRCDO qOPH qCEDO qROPO
  have qRPCO := rxQRPCO (PX := PX) (Dg := Dg) (A := A) (ad := ad) (xa := fun n => n) (l := l) (X := rxX) hPX hsl (fun _ _ h hm => rxX_of (by decide +kernel) h hm) (fun _ _ _ h => absurd h List.not_mem_nil) qTKW qPLH qAD qIWX qOCO qREDO
  have qRLCO := rxQRLCO (PX := PX) (Dg := Dg) (A := A) (ad := ad) (xa := fun n => n) (l := l) (X := rxX) hPX hsl (fun _ _ h hm => rxX_of (by decide +kernel) h hm) (fun _ _ _ h => absurd h List.not_mem_nil) qIWX qAD qOCO qREDO
  have qRIFO := rxQRIFO (PX := PX) (Dg := Dg) (A := A) (ad := ad) (xa := fun n => n) (l := l) (X := rxX) hPX hsl (fun _ _ h hm => rxX_of (by decide +kernel) h hm) (fun _ _ _ h => absurd h List.not_mem_nil) qIWX qAD qREDO
  have qRDXO := rxQRDXO (PX := PX) (Dg := Dg) (A := A) (ad := ad) (xa := fun n => n) (l := l) (X := rxX) hPX hsl (fun _ _ h hm => rxX_of (by decide +kernel) h hm) (fun _ _ _ h => absurd h List.not_mem_nil) qAD qRPCO qRLCO qRIFO
  have qQCZ := rxQQCZ (PX := PX) (Dg := Dg) (A := A) (ad := ad) (xa := fun n => n) (l := l) (X := rxX) hPX hsl (fun _ _ h hm => rxX_of (by decide +kernel) h hm) (fun _ _ _ h => absurd h List.not_mem_nil)
  have qADLQ := rxQADLQ (PX := PX) (Dg := Dg) (A := A) (ad := ad) (xa := fun n => n) (l := l) (X := rxX) hPX hsl (fun _ _ h hm => rxX_of (by decide +kernel) h hm) (fun _ _ _ h => absurd h List.not_mem_nil) qQCZ
  have qLWDK := rxQLWDK (PX := PX) (Dg := Dg) (A := A) (ad := ad) (xa := fun n => n) (l := l) (X := rxX) hPX hsl (fun _ _ h hm => rxX_of (by decide +kernel) h hm) (fun _ _ _ h => absurd h List.not_mem_nil) q110 qRDXO qADLQ
  exact fun S0 ws h1 h2 h3 hp => qLWDK S0 ws h1 h2 h3 ⟨trivial, hp⟩
end
