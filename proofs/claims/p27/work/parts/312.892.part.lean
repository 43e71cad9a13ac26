noncomputable def rxIPADX_0 (S0 : Nat → Int → Int) (ws : List Int) (S : Nat → Int → Int) (fa tb : Int) : Prop := S = S0 ∧ ws = [0, fa, tb]
noncomputable def rxmPADX_0 (S0 : Nat → Int → Int) (ws : List Int) (S : Nat → Int → Int) (fa tb : Int) : Nat := 100
noncomputable def rxzPADX_0 : rx_Z := ([(0, 0), (0, 0), (0, 0), (0, 0), (0, 0), (0, 0), (0, 0), (0, 0), ((-2147483648), 2147483647), ((-2147483648), 2147483647)], [], [], 0, 0, 0, [(0, .inr (3, (0, 0))), (1, .inr (0, (8, 0))), (2, .inr (0, (9, 0)))], [])
noncomputable def rxIPADX_1 (S0 : Nat → Int → Int) (ws : List Int) (S : Nat → Int → Int) (fa tb : Int) : Prop := S = S0 ∧ ((fa < 0 ∨ 23 < fa ∨ tb ≤ fa ∨ 24 < tb)) ∧ ws = [0, fa, tb]
noncomputable def rxmPADX_1 (S0 : Nat → Int → Int) (ws : List Int) (S : Nat → Int → Int) (fa tb : Int) : Nat := 50
noncomputable def rxzPADX_1 : rx_Z := ([(0, 0), (0, 0), (0, 0), (0, 0), (0, 0), (0, 0), (0, 0), (0, 0), ((-2147483648), 2147483647), ((-2147483648), 2147483647)], [], [], 0, 0, 23, [(0, .inr (3, (0, 0))), (1, .inr (0, (8, 0))), (2, .inr (0, (9, 0)))], [.inr (0, (0, (-1))), .inr (3, (0, 0))])
noncomputable def rxIPADX_2 (S0 : Nat → Int → Int) (ws : List Int) (S : Nat → Int → Int) (fa tb res : Int) : Prop := res = (-1) ∧ ((fa < 0 ∨ 23 < fa ∨ tb ≤ fa ∨ 24 < tb)) ∧ ws = [0, fa, tb] ∧ bx_same rxL (bx_mdl rxC110.2.2.1) S0 S
noncomputable def rxmPADX_2 (S0 : Nat → Int → Int) (ws : List Int) (S : Nat → Int → Int) (fa tb res : Int) : Nat := 20
noncomputable def rxzPADX_2 : rx_Z := ([(0, 0), (0, 0), (0, 0), (0, 0), (0, 0), (0, 0), (0, 0), (0, 0), ((-2147483648), 2147483647), ((-2147483648), 2147483647), ((-6), (-1))], [], [], 0, 0, 26, [(0, .inr (3, (0, 0))), (1, .inr (0, (8, 0))), (2, .inr (0, (9, 0)))], [.inr (0, (10, 0))])
noncomputable def rxIPADX_3 (S0 : Nat → Int → Int) (ws : List Int) (S : Nat → Int → Int) (fa tb : Int) : Prop := S = S0 ∧ (0 ≤ fa ∧ fa ≤ 23 ∧ fa < tb ∧ tb ≤ 24 ∧ 6 ≤ S 1 0) ∧ ws = [0, fa, tb]
noncomputable def rxmPADX_3 (S0 : Nat → Int → Int) (ws : List Int) (S : Nat → Int → Int) (fa tb : Int) : Nat := 50
noncomputable def rxzPADX_3 : rx_Z := ([(0, 0), (0, 0), (0, 0), (0, 0), (0, 0), (0, 0), (0, 0), (0, 0), (0, 23), ((-2147483648), 24)], [], [], 0, 0, 42, [(0, .inr (3, (0, 0))), (1, .inr (0, (8, 0))), (2, .inr (0, (9, 0)))], [.inr (0, (0, (-5))), .inr (3, (0, 0))])
noncomputable def rxIPADX_4 (S0 : Nat → Int → Int) (ws : List Int) (S : Nat → Int → Int) (fa tb res : Int) : Prop := res = (-5) ∧ (0 ≤ fa ∧ fa ≤ 23 ∧ fa < tb ∧ tb ≤ 24 ∧ 6 ≤ S0 1 0) ∧ ws = [0, fa, tb] ∧ bx_same rxL (bx_mdl rxC110.2.2.1) S0 S
noncomputable def rxmPADX_4 (S0 : Nat → Int → Int) (ws : List Int) (S : Nat → Int → Int) (fa tb res : Int) : Nat := 20
noncomputable def rxzPADX_4 : rx_Z := ([(0, 0), (0, 0), (0, 0), (0, 0), (0, 0), (0, 0), (0, 0), (0, 0), (0, 23), ((-2147483648), 24), ((-6), (-1))], [], [], 0, 0, 45, [(0, .inr (3, (0, 0))), (1, .inr (0, (8, 0))), (2, .inr (0, (9, 0)))], [.inr (0, (10, 0))])
noncomputable def rxIPADX_5 (S0 : Nat → Int → Int) (ws : List Int) (S : Nat → Int → Int) (fa tb : Int) : Prop := S = S0 ∧ (0 ≤ fa ∧ fa ≤ 23 ∧ fa < tb ∧ tb ≤ 24 ∧ S 1 0 < 6) ∧ ws = [0, fa, tb]
noncomputable def rxmPADX_5 (S0 : Nat → Int → Int) (ws : List Int) (S : Nat → Int → Int) (fa tb : Int) : Nat := 50
noncomputable def rxzPADX_5 : rx_Z := ([(0, 0), (0, 0), (0, 0), (0, 0), (0, 0), (0, 0), (0, 0), (0, 0), (0, 23), (1, 24)], [], [], 0, 0, 53, [(0, .inr (3, (0, 0))), (1, .inr (0, (8, 0))), (2, .inr (0, (9, 0)))], [.inr (0, (9, 0)), .inr (0, (8, 0)), .inr (3, (0, 1)), .inr (3, (0, 0))])
noncomputable def rxIPADX_6 (S0 : Nat → Int → Int) (ws : List Int) (S : Nat → Int → Int) (fa tb res : Int) : Prop := rxPSAPD S0 [1, fa, tb] S (some res) ∧ (0 ≤ fa ∧ fa ≤ 23 ∧ fa < tb ∧ tb ≤ 24 ∧ S0 1 0 < 6) ∧ ws = [0, fa, tb]
noncomputable def rxmPADX_6 (S0 : Nat → Int → Int) (ws : List Int) (S : Nat → Int → Int) (fa tb res : Int) : Nat := 20
noncomputable def rxzPADX_6 : rx_Z := ([(0, 0), (0, 0), (0, 0), (0, 0), (0, 0), (0, 0), (0, 0), (0, 0), (0, 23), (1, 24), ((-1), 5)], [], [], 0, 0, 56, [(0, .inr (3, (0, 0))), (1, .inr (0, (8, 0))), (2, .inr (0, (9, 0)))], [.inr (0, (10, 0)), .inr (3, (0, 0))])
noncomputable def rxoPADX_0_0 : bx_HO := (([(0, 0), (0, 0), (0, 0), (0, 0), (0, 0), (0, 0), (0, 0), (0, 0), (0, 23), (25, 2147483647)], [(0, (8, 0), (9, 0))], [], 0, 0, 23, [(0, .inr (3, (0, 0))), (1, .inr (0, (8, 0))), (2, .inr (0, (9, 0)))], [.inr (0, (0, (-1))), .inr (3, (0, 0))]), [], [], [(0, 0), (0, 0), (0, 0), (0, 0), (0, 0), (0, 0), (0, 0), (0, 0), (8, 0), (9, 0)], 1)
noncomputable def rxoPADX_0_1 : bx_HO := (([(0, 0), (0, 0), (0, 0), (0, 0), (0, 0), (0, 0), (0, 0), (0, 0), (0, 23), (1, 24), (6, 6)], [(0, (8, 0), (9, 0))], [(((0, 0), 1851192626986356797424340330377019318111018015026043177553952768000000), .inr (0, (10, 0))), (((0, 1), 0), .inr (0, (10, 0))), (((0, 0), 0), .inr (3, (0, 1)))], 0, 0, 42, [(0, .inr (3, (0, 0))), (1, .inr (0, (8, 0))), (2, .inr (0, (9, 0)))], [.inr (0, (0, (-5))), .inr (3, (0, 0))]), [], [], [(0, 0), (0, 0), (0, 0), (0, 0), (0, 0), (0, 0), (0, 0), (0, 0), (8, 0), (9, 0)], 3)
noncomputable def rxoPADX_0_2 : bx_HO := (([(0, 0), (0, 0), (0, 0), (0, 0), (0, 0), (0, 0), (0, 0), (0, 0), (0, 23), (1, 24), (0, 5)], [(0, (8, 0), (9, 0))], [(((0, 0), 1851192626986356797424340330377019318111018015026043177553952768000000), .inr (0, (10, 0))), (((0, 1), 0), .inr (0, (10, 0))), (((0, 0), 0), .inr (3, (0, 1)))], 0, 0, 53, [(0, .inr (3, (0, 0))), (1, .inr (0, (8, 0))), (2, .inr (0, (9, 0)))], [.inr (0, (9, 0)), .inr (0, (8, 0)), .inr (3, (0, 1)), .inr (3, (0, 0))]), [], [], [(0, 0), (0, 0), (0, 0), (0, 0), (0, 0), (0, 0), (0, 0), (0, 0), (8, 0), (9, 0)], 5)
noncomputable def rxoPADX_0_3 : bx_HO := (([(0, 0), (0, 0), (0, 0), (0, 0), (0, 0), (0, 0), (0, 0), (0, 0), (0, 23), ((-2147483648), 23)], [(1, (9, 0), (8, 0))], [], 0, 0, 23, [(0, .inr (3, (0, 0))), (1, .inr (0, (8, 0))), (2, .inr (0, (9, 0)))], [.inr (0, (0, (-1))), .inr (3, (0, 0))]), [], [], [(0, 0), (0, 0), (0, 0), (0, 0), (0, 0), (0, 0), (0, 0), (0, 0), (8, 0), (9, 0)], 1)
noncomputable def rxoPADX_0_4 : bx_HO := (([(0, 0), (0, 0), (0, 0), (0, 0), (0, 0), (0, 0), (0, 0), (0, 0), (24, 2147483647), ((-2147483648), 2147483647)], [], [], 0, 0, 23, [(0, .inr (3, (0, 0))), (1, .inr (0, (8, 0))), (2, .inr (0, (9, 0)))], [.inr (0, (0, (-1))), .inr (3, (0, 0))]), [], [], [(0, 0), (0, 0), (0, 0), (0, 0), (0, 0), (0, 0), (0, 0), (0, 0), (8, 0), (9, 0)], 1)
noncomputable def rxoPADX_0_5 : bx_HO := (([(0, 0), (0, 0), (0, 0), (0, 0), (0, 0), (0, 0), (0, 0), (0, 0), ((-2147483648), (-1)), ((-2147483648), 2147483647)], [], [], 0, 0, 23, [(0, .inr (3, (0, 0))), (1, .inr (0, (8, 0))), (2, .inr (0, (9, 0)))], [.inr (0, (0, (-1))), .inr (3, (0, 0))]), [], [], [(0, 0), (0, 0), (0, 0), (0, 0), (0, 0), (0, 0), (0, 0), (0, 0), (8, 0), (9, 0)], 1)
noncomputable def rxePADX_2_0 : rx_End × List (Nat × Int × Int) := (([(0, 0), (0, 0), (0, 0), (0, 0), (0, 0), (0, 0), (0, 0), (0, 0), ((-2147483648), 2147483647), ((-2147483648), 2147483647), ((-6), (-1))], [], [], some (.inr (0, (10, 0)))), [])
noncomputable def rxePADX_4_0 : rx_End × List (Nat × Int × Int) := (([(0, 0), (0, 0), (0, 0), (0, 0), (0, 0), (0, 0), (0, 0), (0, 0), (0, 23), ((-2147483648), 24), ((-6), (-1))], [], [], some (.inr (0, (10, 0)))), [])
noncomputable def rxePADX_6_0 : rx_End × List (Nat × Int × Int) := (([(0, 0), (0, 0), (0, 0), (0, 0), (0, 0), (0, 0), (0, 0), (0, 0), (0, 23), (1, 24), ((-1), 5)], [], [(((0, 0), 1851192626986356799029993984671224184301589730656725205983952899000000), .inr (0, (0, 0))), (((0, 0), 8), .inr (0, (0, 0)))], some (.inr (0, (10, 0)))), [])
noncomputable def rxYPADX : List bx_HE := [(rxzPADX_0, [rxoPADX_0_0, rxoPADX_0_1, rxoPADX_0_2, rxoPADX_0_3, rxoPADX_0_4, rxoPADX_0_5], []), (rxzPADX_1, [], []), (rxzPADX_2, [], [rxePADX_2_0]), (rxzPADX_3, [], []), (rxzPADX_4, [], [rxePADX_4_0]), (rxzPADX_5, [], []), (rxzPADX_6, [], [rxePADX_6_0])]
noncomputable def rxUPADX (q : bx_HE) : Bool := Nat.beq (rx_zpc q.1) 23 || Nat.beq (rx_zpc q.1) 42 || Nat.beq (rx_zpc q.1) 53
noncomputable def rxYBPADX : bx_B := (rxV, rxNP, rxDmf, bx_mdH rxC172.2.2.1)
set_option maxRecDepth 100000 in
theorem rxYcPADX : bx_chkH rxYBPADX rxM172 rxC172 rxYPADX (rxUPADX, fun cut z => rx_ex2 (rxCT rxYBPADX rxCnE) cut 30000 rxC172.2.2.2.1 172 z) = true := by decide +kernel
noncomputable def rxIPADX (S0 : Nat → Int → Int) (ws : List Int) (i : Nat) : bx_SP := fun S r => match i with | 0 => rxIPADX_0 S0 ws S (r 8) (r 9) | 1 => rxIPADX_1 S0 ws S (r 8) (r 9) | 2 => rxIPADX_2 S0 ws S (r 8) (r 9) (r 10) | 3 => rxIPADX_3 S0 ws S (r 8) (r 9) | 4 => rxIPADX_4 S0 ws S (r 8) (r 9) (r 10) | 5 => rxIPADX_5 S0 ws S (r 8) (r 9) | 6 => rxIPADX_6 S0 ws S (r 8) (r 9) (r 10) | _ => False
noncomputable def rxmPADX (S0 : Nat → Int → Int) (ws : List Int) (i : Nat) (S : Nat → Int → Int) (r : Nat → Int) : Nat := match i with | 0 => rxmPADX_0 S0 ws S (r 8) (r 9) | 1 => rxmPADX_1 S0 ws S (r 8) (r 9) | 2 => rxmPADX_2 S0 ws S (r 8) (r 9) (r 10) | 3 => rxmPADX_3 S0 ws S (r 8) (r 9) | 4 => rxmPADX_4 S0 ws S (r 8) (r 9) (r 10) | 5 => rxmPADX_5 S0 ws S (r 8) (r 9) | 6 => rxmPADX_6 S0 ws S (r 8) (r 9) (r 10) | _ => 0
noncomputable def rxPPADX (S0 : Nat → Int → Int) (ws : List Int) : Prop := rkPl S0
noncomputable def rxPSPADX (S0 : Nat → Int → Int) (ws : List Int) (S : Nat → Int → Int) (w : Option Int) : Prop := ∃ fa tb : Int, ws = [0, fa, tb] ∧ (((fa < 0 ∨ 23 < fa ∨ tb ≤ fa ∨ 24 < tb) ∧ w = some (-1) ∧ bx_same rxL (bx_mdl rxC110.2.2.1) S0 S) ∨ (0 ≤ fa ∧ fa ≤ 23 ∧ fa < tb ∧ tb ≤ 24 ∧ 6 ≤ S0 1 0 ∧ w = some (-5) ∧ bx_same rxL (bx_mdl rxC110.2.2.1) S0 S) ∨ (0 ≤ fa ∧ fa ≤ 23 ∧ fa < tb ∧ tb ≤ 24 ∧ (S0 1 0 < 6 ∧ w = some (S0 1 0) ∧ S 1 0 = S0 1 0 + 1 ∧ (∀ t : Int, 0 ≤ t → t < 36 → S (24 + 3 * S0 1 0).toNat t = -1 ∧ S (25 + 3 * S0 1 0).toNat t = -1) ∧ (S 2 (S0 1 0) = fa ∧ S 3 (S0 1 0) = tb) ∧ (∀ (p : Nat) (j : Int), p ≠ (24 + 3 * S0 1 0).toNat → p ≠ (25 + 3 * S0 1 0).toNat → ¬ (p = 2 ∧ j = S0 1 0) → ¬ (p = 3 ∧ j = S0 1 0) → ¬ (p = 1 ∧ j = 0) → p ≠ 0 → S p j = S0 p j))))
theorem rxkPADX_1 {S0 : Nat → Int → Int} {ws : List Int} {S : Nat → Int → Int} {fa tb : Int} (hP : rxPPADX S0 ws) (hin : bx_same rxL (bx_mdl rxC172.2.2.1) S0 S) (I0 : bx_Inv rxL S) (hinv : rxIPADX_1 S0 ws S fa tb) (l8 : (-2147483648) ≤ fa) (u8 : fa ≤ 2147483647) (l9 : (-2147483648) ≤ tb) (u9 : tb ≤ 2147483647) : rxP110 S [0, (-1)] ∧ ∀ (S_p : Nat → Int → Int) (res : Int), (-6) ≤ res → res ≤ (-1) → rxPS110 S [0, (-1)] S_p (some res) → bx_Inv rxL S_p → bx_same rxL (bx_mdl rxC110.2.2.1) S S_p → rxIPADX_2 S0 ws S_p fa tb res ∧ rxmPADX_2 S0 ws S_p fa tb res < rxmPADX_1 S0 ws S fa tb := by
  obtain ⟨rfl, h1, hw⟩ := hinv
  refine ⟨trivial, fun S_p res _ _ hq _ hsm => ⟨⟨?_, h1, hw, hsm⟩, by unfold rxmPADX_1 rxmPADX_2; omega⟩⟩
  obtain ⟨c, hc, hr⟩ := hq
  simp only [List.cons.injEq, and_true, true_and] at hc
  simp only [Option.some.injEq] at hr
  omega
theorem rxsPADX_1 {X : (Nat → Int → Int) → Prop} {S0 : Nat → Int → Int} {ws : List Int} (hP : rxPPADX S0 ws) : rx_obK X S0 rxC172.2.2.1 rxC110.2.2.1 (rxIPADX S0 ws) (rxmPADX S0 ws) 1 2 rxzPADX_1 rxzPADX_2 [.inr (3, (0, 0)), .inr (0, (0, (-1)))] (some 10) rxP110 rxPS110 := by
  intro S r hinv hXS I0 hin hs_ hf_
  have b_ := bx_bds_sat hs_
  have f_ := bx_fcl_ok hs_.1 hf_
  obtain ⟨⟨l8, u8⟩, ⟨l9, u9⟩, -⟩ := b_
  have g := rxkPADX_1 hP hin I0 hinv l8 u8 l9 u9
  have ea : List.map (bx_num r) [.inr (3, (0, 0)), .inr (0, (0, (-1)))] = [0, -1] := by
    simp only [List.map_cons, List.map_nil, bx_xv_ok hs_.1]
    rfl
  rw [ea]
  refine ⟨g.1, fun S_p w r_p hPS hX_p I1 hsm hr hw hs_p => ?_⟩
  have hw := hw _ rfl
  subst hw
  have b_p := hs_p.2.2 10 _ _ rfl
  have g2 := g.2 S_p (r_p 10) b_p.1 b_p.2 hPS I1 hsm
  show rxIPADX_2 S0 ws S_p (r_p 8) (r_p 9) (r_p 10) ∧ rxmPADX_2 S0 ws S_p (r_p 8) (r_p 9) (r_p 10) < _
  rw [hr 8 (by decide), hr 9 (by decide)]
  exact g2
theorem rxkPADX_3 {S0 : Nat → Int → Int} {ws : List Int} {S : Nat → Int → Int} {fa tb : Int} (hP : rxPPADX S0 ws) (hin : bx_same rxL (bx_mdl rxC172.2.2.1) S0 S) (I0 : bx_Inv rxL S) (hinv : rxIPADX_3 S0 ws S fa tb) (l8 : 0 ≤ fa) (u8 : fa ≤ 23) (l9 : (-2147483648) ≤ tb) (u9 : tb ≤ 24) : rxP110 S [0, (-5)] ∧ ∀ (S_p : Nat → Int → Int) (res : Int), (-6) ≤ res → res ≤ (-1) → rxPS110 S [0, (-5)] S_p (some res) → bx_Inv rxL S_p → bx_same rxL (bx_mdl rxC110.2.2.1) S S_p → rxIPADX_4 S0 ws S_p fa tb res ∧ rxmPADX_4 S0 ws S_p fa tb res < rxmPADX_3 S0 ws S fa tb := by
  obtain ⟨rfl, h1, hw⟩ := hinv
  refine ⟨trivial, fun S_p res _ _ hq _ hsm => ⟨⟨?_, h1, hw, hsm⟩, by unfold rxmPADX_3 rxmPADX_4; omega⟩⟩
  obtain ⟨c, hc, hr⟩ := hq
  simp only [List.cons.injEq, and_true, true_and] at hc
  simp only [Option.some.injEq] at hr
  omega
theorem rxsPADX_3 {X : (Nat → Int → Int) → Prop} {S0 : Nat → Int → Int} {ws : List Int} (hP : rxPPADX S0 ws) : rx_obK X S0 rxC172.2.2.1 rxC110.2.2.1 (rxIPADX S0 ws) (rxmPADX S0 ws) 3 4 rxzPADX_3 rxzPADX_4 [.inr (3, (0, 0)), .inr (0, (0, (-5)))] (some 10) rxP110 rxPS110 := by
  intro S r hinv hXS I0 hin hs_ hf_
  have b_ := bx_bds_sat hs_
  have f_ := bx_fcl_ok hs_.1 hf_
  obtain ⟨⟨l8, u8⟩, ⟨l9, u9⟩, -⟩ := b_
  have g := rxkPADX_3 hP hin I0 hinv l8 u8 l9 u9
  have ea : List.map (bx_num r) [.inr (3, (0, 0)), .inr (0, (0, (-5)))] = [0, -5] := by
    simp only [List.map_cons, List.map_nil, bx_xv_ok hs_.1]
    rfl
  rw [ea]
  refine ⟨g.1, fun S_p w r_p hPS hX_p I1 hsm hr hw hs_p => ?_⟩
  have hw := hw _ rfl
  subst hw
  have b_p := hs_p.2.2 10 _ _ rfl
  have g2 := g.2 S_p (r_p 10) b_p.1 b_p.2 hPS I1 hsm
  show rxIPADX_4 S0 ws S_p (r_p 8) (r_p 9) (r_p 10) ∧ rxmPADX_4 S0 ws S_p (r_p 8) (r_p 9) (r_p 10) < _
  rw [hr 8 (by decide), hr 9 (by decide)]
  exact g2
theorem rxkPADX_5 {S0 : Nat → Int → Int} {ws : List Int} {S : Nat → Int → Int} {fa tb : Int} (hP : rxPPADX S0 ws) (hin : bx_same rxL (bx_mdl rxC172.2.2.1) S0 S) (I0 : bx_Inv rxL S) (hinv : rxIPADX_5 S0 ws S fa tb) (l8 : 0 ≤ fa) (u8 : fa ≤ 23) (l9 : 1 ≤ tb) (u9 : tb ≤ 24) : rxPAPD S [1, fa, tb] ∧ ∀ (S_p : Nat → Int → Int) (res : Int), (-1) ≤ res → res ≤ 5 → rxPSAPD S [1, fa, tb] S_p (some res) → bx_Inv rxL S_p → bx_same rxL (bx_mdl rxCAPD.2.2.1) S S_p → rxIPADX_6 S0 ws S_p fa tb res ∧ rxmPADX_6 S0 ws S_p fa tb res < rxmPADX_5 S0 ws S fa tb := by
  obtain ⟨rfl, h1, hw⟩ := hinv
  exact ⟨hP, fun S_p res _ _ hq _ hsm => ⟨⟨hq, h1, hw⟩, by unfold rxmPADX_5 rxmPADX_6; omega⟩⟩
theorem rxsPADX_5 {X : (Nat → Int → Int) → Prop} {S0 : Nat → Int → Int} {ws : List Int} (hP : rxPPADX S0 ws) : rx_obK X S0 rxC172.2.2.1 rxCAPD.2.2.1 (rxIPADX S0 ws) (rxmPADX S0 ws) 5 6 rxzPADX_5 rxzPADX_6 [.inr (3, (0, 1)), .inr (0, (8, 0)), .inr (0, (9, 0))] (some 10) rxPAPD rxPSAPD := by
  intro S r hinv hXS I0 hin hs_ hf_
  have b_ := bx_bds_sat hs_
  have f_ := bx_fcl_ok hs_.1 hf_
  obtain ⟨⟨l8, u8⟩, ⟨l9, u9⟩, -⟩ := b_
  have g := rxkPADX_5 hP hin I0 hinv l8 u8 l9 u9
  have ea : List.map (bx_num r) [.inr (3, (0, 1)), .inr (0, (8, 0)), .inr (0, (9, 0))] = [1, (r 8), (r 9)] := by
    simp only [List.map_cons, List.map_nil, bx_xv_ok hs_.1]
    rfl
  rw [ea]
  refine ⟨g.1, fun S_p w r_p hPS hX_p I1 hsm hr hw hs_p => ?_⟩
  have hw := hw _ rfl
  subst hw
  have b_p := hs_p.2.2 10 _ _ rfl
  have g2 := g.2 S_p (r_p 10) b_p.1 b_p.2 hPS I1 hsm
  show rxIPADX_6 S0 ws S_p (r_p 8) (r_p 9) (r_p 10) ∧ rxmPADX_6 S0 ws S_p (r_p 8) (r_p 9) (r_p 10) < _
  rw [hr 8 (by decide), hr 9 (by decide)]
  exact g2
theorem rxcPADX_0_0 {S0 : Nat → Int → Int} {ws : List Int} {S : Nat → Int → Int} {fa tb : Int} (hP : rxPPADX S0 ws) (hin : bx_same rxL (bx_mdl rxC172.2.2.1) S0 S) (I0 : bx_Inv rxL S) (hinv : rxIPADX_0 S0 ws S fa tb) (l8 : 0 ≤ fa) (u8 : fa ≤ 23) (l9 : 25 ≤ tb) (u9 : tb ≤ 2147483647) (f0 : fa < tb) : (True) ∧ (True) ∧ rxIPADX_1 S0 ws S fa tb ∧ rxmPADX_1 S0 ws S fa tb < rxmPADX_0 S0 ws S fa tb := by
  obtain ⟨rfl, hw⟩ := hinv
  exact ⟨trivial, trivial, ⟨rfl, by omega, hw⟩, by unfold rxmPADX_0 rxmPADX_1; omega⟩
theorem rxgPADX_0_0 {X : (Nat → Int → Int) → Prop} {S0 : Nat → Int → Int} {ws : List Int} (hP : rxPPADX S0 ws) : bx_obC rxL X S0 rxC172.2.2.1 (rxIPADX S0 ws) (rxmPADX S0 ws) 0 rxzPADX_0 rxoPADX_0_0 := by
  intro S S_p r r_p hinv hX hin hsm_ hseg
  obtain ⟨I0, I1, h0_, hr_, b_, f_, d_⟩ := bx_cl (evs := []) (fvs := [(0, (8, 0), (9, 0), (0, 0))]) hseg (by decide +kernel) (by decide +kernel)
  have hinv : rxIPADX_0 S0 ws S (r 8) (r 9) := hinv
  rw [← hr_ 8 (by decide), ← hr_ 9 (by decide)] at hinv
  obtain ⟨⟨l8, u8⟩, ⟨l9, u9⟩, -⟩ := b_
  obtain ⟨f0, -⟩ := f_
  have w_ := d_
  subst w_
  have g := rxcPADX_0_0 hP hin I0 hinv l8 u8 l9 u9 f0
  refine ⟨bx_narP_ok (l := []) g.1, bx_nfP_ok h0_ (fvs := []) (by decide +kernel) g.2.1, ?_, ?_⟩
  · show rxIPADX_1 S0 ws S_p (bx_val [(0, 0), (0, 0), (0, 0), (0, 0), (0, 0), (0, 0), (0, 0), (0, 0), (8, 0), (9, 0)] r_p 8) (bx_val [(0, 0), (0, 0), (0, 0), (0, 0), (0, 0), (0, 0), (0, 0), (0, 0), (8, 0), (9, 0)] r_p 9)
    rw [bx_val_x (n := 8) (e := (8, 0)) h0_ rfl, bx_val_x (n := 9) (e := (9, 0)) h0_ rfl]
    exact g.2.2.1
  · show rxmPADX_1 S0 ws S_p (bx_val [(0, 0), (0, 0), (0, 0), (0, 0), (0, 0), (0, 0), (0, 0), (0, 0), (8, 0), (9, 0)] r_p 8) (bx_val [(0, 0), (0, 0), (0, 0), (0, 0), (0, 0), (0, 0), (0, 0), (0, 0), (8, 0), (9, 0)] r_p 9) < rxmPADX_0 S0 ws S_p (r 8) (r 9)
    rw [bx_val_x (n := 8) (e := (8, 0)) h0_ rfl, bx_val_x (n := 9) (e := (9, 0)) h0_ rfl, ← hr_ 8 (by decide), ← hr_ 9 (by decide)]
    exact g.2.2.2
theorem rxcPADX_0_1 {S0 : Nat → Int → Int} {ws : List Int} {S : Nat → Int → Int} {fa tb x10 : Int} (hP : rxPPADX S0 ws) (hin : bx_same rxL (bx_mdl rxC172.2.2.1) S0 S) (I0 : bx_Inv rxL S) (hinv : rxIPADX_0 S0 ws S fa tb) (l8 : 0 ≤ fa) (u8 : fa ≤ 23) (l9 : 1 ≤ tb) (u9 : tb ≤ 24) (l10 : 6 ≤ x10) (u10 : x10 ≤ 6) (f0 : fa < tb) (e0 : S 1 0 = x10) : (True) ∧ (True) ∧ rxIPADX_3 S0 ws S fa tb ∧ rxmPADX_3 S0 ws S fa tb < rxmPADX_0 S0 ws S fa tb := by
  obtain ⟨rfl, hw⟩ := hinv
  exact ⟨trivial, trivial, ⟨rfl, by omega, hw⟩, by unfold rxmPADX_0 rxmPADX_3; omega⟩
theorem rxgPADX_0_1 {X : (Nat → Int → Int) → Prop} {S0 : Nat → Int → Int} {ws : List Int} (hP : rxPPADX S0 ws) : bx_obC rxL X S0 rxC172.2.2.1 (rxIPADX S0 ws) (rxmPADX S0 ws) 0 rxzPADX_0 rxoPADX_0_1 := by
  intro S S_p r r_p hinv hX hin hsm_ hseg
  obtain ⟨I0, I1, h0_, hr_, b_, f_, d_⟩ := bx_cl (evs := [(0, (0, 1), (0, 0), .inr (0, (10, 0)))]) (fvs := [(0, (8, 0), (9, 0), (0, 0))]) hseg (by decide +kernel) (by decide +kernel)
  have hinv : rxIPADX_0 S0 ws S (r 8) (r 9) := hinv
  rw [← hr_ 8 (by decide), ← hr_ 9 (by decide)] at hinv
  obtain ⟨⟨l8, u8⟩, ⟨l9, u9⟩, ⟨l10, u10⟩, -⟩ := b_
  obtain ⟨f0, -⟩ := f_
  obtain ⟨e0, w_⟩ := d_
  subst w_
  have g := rxcPADX_0_1 hP hin I0 hinv l8 u8 l9 u9 l10 u10 f0 e0
  refine ⟨bx_narP_ok (l := []) g.1, bx_nfP_ok h0_ (fvs := []) (by decide +kernel) g.2.1, ?_, ?_⟩
  · show rxIPADX_3 S0 ws S_p (bx_val [(0, 0), (0, 0), (0, 0), (0, 0), (0, 0), (0, 0), (0, 0), (0, 0), (8, 0), (9, 0)] r_p 8) (bx_val [(0, 0), (0, 0), (0, 0), (0, 0), (0, 0), (0, 0), (0, 0), (0, 0), (8, 0), (9, 0)] r_p 9)
    rw [bx_val_x (n := 8) (e := (8, 0)) h0_ rfl, bx_val_x (n := 9) (e := (9, 0)) h0_ rfl]
    exact g.2.2.1
  · show rxmPADX_3 S0 ws S_p (bx_val [(0, 0), (0, 0), (0, 0), (0, 0), (0, 0), (0, 0), (0, 0), (0, 0), (8, 0), (9, 0)] r_p 8) (bx_val [(0, 0), (0, 0), (0, 0), (0, 0), (0, 0), (0, 0), (0, 0), (0, 0), (8, 0), (9, 0)] r_p 9) < rxmPADX_0 S0 ws S_p (r 8) (r 9)
    rw [bx_val_x (n := 8) (e := (8, 0)) h0_ rfl, bx_val_x (n := 9) (e := (9, 0)) h0_ rfl, ← hr_ 8 (by decide), ← hr_ 9 (by decide)]
    exact g.2.2.2
theorem rxcPADX_0_2 {S0 : Nat → Int → Int} {ws : List Int} {S : Nat → Int → Int} {fa tb x10 : Int} (hP : rxPPADX S0 ws) (hin : bx_same rxL (bx_mdl rxC172.2.2.1) S0 S) (I0 : bx_Inv rxL S) (hinv : rxIPADX_0 S0 ws S fa tb) (l8 : 0 ≤ fa) (u8 : fa ≤ 23) (l9 : 1 ≤ tb) (u9 : tb ≤ 24) (l10 : 0 ≤ x10) (u10 : x10 ≤ 5) (f0 : fa < tb) (e0 : S 1 0 = x10) : (True) ∧ (True) ∧ rxIPADX_5 S0 ws S fa tb ∧ rxmPADX_5 S0 ws S fa tb < rxmPADX_0 S0 ws S fa tb := by
  obtain ⟨rfl, hw⟩ := hinv
  exact ⟨trivial, trivial, ⟨rfl, by omega, hw⟩, by unfold rxmPADX_0 rxmPADX_5; omega⟩
theorem rxgPADX_0_2 {X : (Nat → Int → Int) → Prop} {S0 : Nat → Int → Int} {ws : List Int} (hP : rxPPADX S0 ws) : bx_obC rxL X S0 rxC172.2.2.1 (rxIPADX S0 ws) (rxmPADX S0 ws) 0 rxzPADX_0 rxoPADX_0_2 := by
  intro S S_p r r_p hinv hX hin hsm_ hseg
  obtain ⟨I0, I1, h0_, hr_, b_, f_, d_⟩ := bx_cl (evs := [(0, (0, 1), (0, 0), .inr (0, (10, 0)))]) (fvs := [(0, (8, 0), (9, 0), (0, 0))]) hseg (by decide +kernel) (by decide +kernel)
  have hinv : rxIPADX_0 S0 ws S (r 8) (r 9) := hinv
  rw [← hr_ 8 (by decide), ← hr_ 9 (by decide)] at hinv
  obtain ⟨⟨l8, u8⟩, ⟨l9, u9⟩, ⟨l10, u10⟩, -⟩ := b_
  obtain ⟨f0, -⟩ := f_
  obtain ⟨e0, w_⟩ := d_
  subst w_
  have g := rxcPADX_0_2 hP hin I0 hinv l8 u8 l9 u9 l10 u10 f0 e0
  refine ⟨bx_narP_ok (l := []) g.1, bx_nfP_ok h0_ (fvs := []) (by decide +kernel) g.2.1, ?_, ?_⟩
  · show rxIPADX_5 S0 ws S_p (bx_val [(0, 0), (0, 0), (0, 0), (0, 0), (0, 0), (0, 0), (0, 0), (0, 0), (8, 0), (9, 0)] r_p 8) (bx_val [(0, 0), (0, 0), (0, 0), (0, 0), (0, 0), (0, 0), (0, 0), (0, 0), (8, 0), (9, 0)] r_p 9)
    rw [bx_val_x (n := 8) (e := (8, 0)) h0_ rfl, bx_val_x (n := 9) (e := (9, 0)) h0_ rfl]
    exact g.2.2.1
  · show rxmPADX_5 S0 ws S_p (bx_val [(0, 0), (0, 0), (0, 0), (0, 0), (0, 0), (0, 0), (0, 0), (0, 0), (8, 0), (9, 0)] r_p 8) (bx_val [(0, 0), (0, 0), (0, 0), (0, 0), (0, 0), (0, 0), (0, 0), (0, 0), (8, 0), (9, 0)] r_p 9) < rxmPADX_0 S0 ws S_p (r 8) (r 9)
    rw [bx_val_x (n := 8) (e := (8, 0)) h0_ rfl, bx_val_x (n := 9) (e := (9, 0)) h0_ rfl, ← hr_ 8 (by decide), ← hr_ 9 (by decide)]
    exact g.2.2.2
theorem rxcPADX_0_3 {S0 : Nat → Int → Int} {ws : List Int} {S : Nat → Int → Int} {fa tb : Int} (hP : rxPPADX S0 ws) (hin : bx_same rxL (bx_mdl rxC172.2.2.1) S0 S) (I0 : bx_Inv rxL S) (hinv : rxIPADX_0 S0 ws S fa tb) (l8 : 0 ≤ fa) (u8 : fa ≤ 23) (l9 : (-2147483648) ≤ tb) (u9 : tb ≤ 23) (f0 : tb ≤ fa) : (True) ∧ (True) ∧ rxIPADX_1 S0 ws S fa tb ∧ rxmPADX_1 S0 ws S fa tb < rxmPADX_0 S0 ws S fa tb := by
  obtain ⟨rfl, hw⟩ := hinv
  exact ⟨trivial, trivial, ⟨rfl, by omega, hw⟩, by unfold rxmPADX_0 rxmPADX_1; omega⟩
theorem rxgPADX_0_3 {X : (Nat → Int → Int) → Prop} {S0 : Nat → Int → Int} {ws : List Int} (hP : rxPPADX S0 ws) : bx_obC rxL X S0 rxC172.2.2.1 (rxIPADX S0 ws) (rxmPADX S0 ws) 0 rxzPADX_0 rxoPADX_0_3 := by
  intro S S_p r r_p hinv hX hin hsm_ hseg
  obtain ⟨I0, I1, h0_, hr_, b_, f_, d_⟩ := bx_cl (evs := []) (fvs := [(1, (9, 0), (8, 0), (0, 0))]) hseg (by decide +kernel) (by decide +kernel)
  have hinv : rxIPADX_0 S0 ws S (r 8) (r 9) := hinv
  rw [← hr_ 8 (by decide), ← hr_ 9 (by decide)] at hinv
  obtain ⟨⟨l8, u8⟩, ⟨l9, u9⟩, -⟩ := b_
  obtain ⟨f0, -⟩ := f_
  have w_ := d_
  subst w_
  have g := rxcPADX_0_3 hP hin I0 hinv l8 u8 l9 u9 f0
  refine ⟨bx_narP_ok (l := []) g.1, bx_nfP_ok h0_ (fvs := []) (by decide +kernel) g.2.1, ?_, ?_⟩
  · show rxIPADX_1 S0 ws S_p (bx_val [(0, 0), (0, 0), (0, 0), (0, 0), (0, 0), (0, 0), (0, 0), (0, 0), (8, 0), (9, 0)] r_p 8) (bx_val [(0, 0), (0, 0), (0, 0), (0, 0), (0, 0), (0, 0), (0, 0), (0, 0), (8, 0), (9, 0)] r_p 9)
    rw [bx_val_x (n := 8) (e := (8, 0)) h0_ rfl, bx_val_x (n := 9) (e := (9, 0)) h0_ rfl]
    exact g.2.2.1
  · show rxmPADX_1 S0 ws S_p (bx_val [(0, 0), (0, 0), (0, 0), (0, 0), (0, 0), (0, 0), (0, 0), (0, 0), (8, 0), (9, 0)] r_p 8) (bx_val [(0, 0), (0, 0), (0, 0), (0, 0), (0, 0), (0, 0), (0, 0), (0, 0), (8, 0), (9, 0)] r_p 9) < rxmPADX_0 S0 ws S_p (r 8) (r 9)
    rw [bx_val_x (n := 8) (e := (8, 0)) h0_ rfl, bx_val_x (n := 9) (e := (9, 0)) h0_ rfl, ← hr_ 8 (by decide), ← hr_ 9 (by decide)]
    exact g.2.2.2
theorem rxcPADX_0_4 {S0 : Nat → Int → Int} {ws : List Int} {S : Nat → Int → Int} {fa tb : Int} (hP : rxPPADX S0 ws) (hin : bx_same rxL (bx_mdl rxC172.2.2.1) S0 S) (I0 : bx_Inv rxL S) (hinv : rxIPADX_0 S0 ws S fa tb) (l8 : 24 ≤ fa) (u8 : fa ≤ 2147483647) (l9 : (-2147483648) ≤ tb) (u9 : tb ≤ 2147483647) : (True) ∧ (True) ∧ rxIPADX_1 S0 ws S fa tb ∧ rxmPADX_1 S0 ws S fa tb < rxmPADX_0 S0 ws S fa tb := by
  obtain ⟨rfl, hw⟩ := hinv
  exact ⟨trivial, trivial, ⟨rfl, by omega, hw⟩, by unfold rxmPADX_0 rxmPADX_1; omega⟩
theorem rxgPADX_0_4 {X : (Nat → Int → Int) → Prop} {S0 : Nat → Int → Int} {ws : List Int} (hP : rxPPADX S0 ws) : bx_obC rxL X S0 rxC172.2.2.1 (rxIPADX S0 ws) (rxmPADX S0 ws) 0 rxzPADX_0 rxoPADX_0_4 := by
  intro S S_p r r_p hinv hX hin hsm_ hseg
  obtain ⟨I0, I1, h0_, hr_, b_, f_, d_⟩ := bx_cl (evs := []) (fvs := []) hseg (by decide +kernel) (by decide +kernel)
  have hinv : rxIPADX_0 S0 ws S (r 8) (r 9) := hinv
  rw [← hr_ 8 (by decide), ← hr_ 9 (by decide)] at hinv
  obtain ⟨⟨l8, u8⟩, ⟨l9, u9⟩, -⟩ := b_
  have w_ := d_
  subst w_
  have g := rxcPADX_0_4 hP hin I0 hinv l8 u8 l9 u9
  refine ⟨bx_narP_ok (l := []) g.1, bx_nfP_ok h0_ (fvs := []) (by decide +kernel) g.2.1, ?_, ?_⟩
  · show rxIPADX_1 S0 ws S_p (bx_val [(0, 0), (0, 0), (0, 0), (0, 0), (0, 0), (0, 0), (0, 0), (0, 0), (8, 0), (9, 0)] r_p 8) (bx_val [(0, 0), (0, 0), (0, 0), (0, 0), (0, 0), (0, 0), (0, 0), (0, 0), (8, 0), (9, 0)] r_p 9)
    rw [bx_val_x (n := 8) (e := (8, 0)) h0_ rfl, bx_val_x (n := 9) (e := (9, 0)) h0_ rfl]
    exact g.2.2.1
  · show rxmPADX_1 S0 ws S_p (bx_val [(0, 0), (0, 0), (0, 0), (0, 0), (0, 0), (0, 0), (0, 0), (0, 0), (8, 0), (9, 0)] r_p 8) (bx_val [(0, 0), (0, 0), (0, 0), (0, 0), (0, 0), (0, 0), (0, 0), (0, 0), (8, 0), (9, 0)] r_p 9) < rxmPADX_0 S0 ws S_p (r 8) (r 9)
    rw [bx_val_x (n := 8) (e := (8, 0)) h0_ rfl, bx_val_x (n := 9) (e := (9, 0)) h0_ rfl, ← hr_ 8 (by decide), ← hr_ 9 (by decide)]
    exact g.2.2.2
theorem rxcPADX_0_5 {S0 : Nat → Int → Int} {ws : List Int} {S : Nat → Int → Int} {fa tb : Int} (hP : rxPPADX S0 ws) (hin : bx_same rxL (bx_mdl rxC172.2.2.1) S0 S) (I0 : bx_Inv rxL S) (hinv : rxIPADX_0 S0 ws S fa tb) (l8 : (-2147483648) ≤ fa) (u8 : fa ≤ (-1)) (l9 : (-2147483648) ≤ tb) (u9 : tb ≤ 2147483647) : (True) ∧ (True) ∧ rxIPADX_1 S0 ws S fa tb ∧ rxmPADX_1 S0 ws S fa tb < rxmPADX_0 S0 ws S fa tb := by
  obtain ⟨rfl, hw⟩ := hinv
  exact ⟨trivial, trivial, ⟨rfl, by omega, hw⟩, by unfold rxmPADX_0 rxmPADX_1; omega⟩
theorem rxgPADX_0_5 {X : (Nat → Int → Int) → Prop} {S0 : Nat → Int → Int} {ws : List Int} (hP : rxPPADX S0 ws) : bx_obC rxL X S0 rxC172.2.2.1 (rxIPADX S0 ws) (rxmPADX S0 ws) 0 rxzPADX_0 rxoPADX_0_5 := by
  intro S S_p r r_p hinv hX hin hsm_ hseg
  obtain ⟨I0, I1, h0_, hr_, b_, f_, d_⟩ := bx_cl (evs := []) (fvs := []) hseg (by decide +kernel) (by decide +kernel)
  have hinv : rxIPADX_0 S0 ws S (r 8) (r 9) := hinv
  rw [← hr_ 8 (by decide), ← hr_ 9 (by decide)] at hinv
  obtain ⟨⟨l8, u8⟩, ⟨l9, u9⟩, -⟩ := b_
  have w_ := d_
  subst w_
  have g := rxcPADX_0_5 hP hin I0 hinv l8 u8 l9 u9
  refine ⟨bx_narP_ok (l := []) g.1, bx_nfP_ok h0_ (fvs := []) (by decide +kernel) g.2.1, ?_, ?_⟩
  · show rxIPADX_1 S0 ws S_p (bx_val [(0, 0), (0, 0), (0, 0), (0, 0), (0, 0), (0, 0), (0, 0), (0, 0), (8, 0), (9, 0)] r_p 8) (bx_val [(0, 0), (0, 0), (0, 0), (0, 0), (0, 0), (0, 0), (0, 0), (0, 0), (8, 0), (9, 0)] r_p 9)
    rw [bx_val_x (n := 8) (e := (8, 0)) h0_ rfl, bx_val_x (n := 9) (e := (9, 0)) h0_ rfl]
    exact g.2.2.1
  · show rxmPADX_1 S0 ws S_p (bx_val [(0, 0), (0, 0), (0, 0), (0, 0), (0, 0), (0, 0), (0, 0), (0, 0), (8, 0), (9, 0)] r_p 8) (bx_val [(0, 0), (0, 0), (0, 0), (0, 0), (0, 0), (0, 0), (0, 0), (0, 0), (8, 0), (9, 0)] r_p 9) < rxmPADX_0 S0 ws S_p (r 8) (r 9)
    rw [bx_val_x (n := 8) (e := (8, 0)) h0_ rfl, bx_val_x (n := 9) (e := (9, 0)) h0_ rfl, ← hr_ 8 (by decide), ← hr_ 9 (by decide)]
    exact g.2.2.2
theorem rxdPADX_2_0 {S0 : Nat → Int → Int} {ws : List Int} {S : Nat → Int → Int} {fa tb res : Int} (hP : rxPPADX S0 ws) (hin : bx_same rxL (bx_mdl rxC172.2.2.1) S0 S) (hin2 : bx_same rxL (bx_mdl rxC172.2.2.1) S S) (I0 : bx_Inv rxL S) (I1 : bx_Inv rxL S) (hinv : rxIPADX_2 S0 ws S fa tb res) (l8 : (-2147483648) ≤ fa) (u8 : fa ≤ 2147483647) (l9 : (-2147483648) ≤ tb) (u9 : tb ≤ 2147483647) (l10 : (-6) ≤ res) (u10 : res ≤ (-1)) : (True) ∧ rxPSPADX S0 ws S (some res) := by
  obtain ⟨h1, h2, hw, hs⟩ := hinv
  refine ⟨trivial, fa, tb, hw, Or.inl (⟨by omega, ?_, ?_⟩)⟩
  · exact congrArg some h1
  · exact hs
theorem rxfPADX_2_0 {X : (Nat → Int → Int) → Prop} {S0 : Nat → Int → Int} {ws : List Int} (hP : rxPPADX S0 ws) : bx_obE rxL X S0 rxC172.2.2.1 (rxIPADX S0 ws) (rxPSPADX S0 ws) 2 rxzPADX_2 rxePADX_2_0 := by
  intro S S_p r r_p hinv hX hin hsm_ hseg
  obtain ⟨I0, I1, h0_, hr_, b_, f_, d_⟩ := bx_cl (evs := []) (fvs := []) hseg (by decide +kernel) (by decide +kernel)
  have hinv : rxIPADX_2 S0 ws S (r 8) (r 9) (r 10) := hinv
  rw [← hr_ 8 (by decide), ← hr_ 9 (by decide), ← hr_ 10 (by decide)] at hinv
  obtain ⟨⟨l8, u8⟩, ⟨l9, u9⟩, ⟨l10, u10⟩, -⟩ := b_
  have w_ := d_
  subst w_
  have g := rxdPADX_2_0 hP hin hsm_ I0 I1 hinv l8 u8 l9 u9 l10 u10
  refine ⟨bx_narP_ok (l := []) g.1, ?_⟩
  show rxPSPADX S0 ws S_p (some (bx_num r_p (.inr (0, (10, 0)))))
  rw [bx_xv_ok h0_]
  exact g.2
theorem rxdPADX_4_0 {S0 : Nat → Int → Int} {ws : List Int} {S : Nat → Int → Int} {fa tb res : Int} (hP : rxPPADX S0 ws) (hin : bx_same rxL (bx_mdl rxC172.2.2.1) S0 S) (hin2 : bx_same rxL (bx_mdl rxC172.2.2.1) S S) (I0 : bx_Inv rxL S) (I1 : bx_Inv rxL S) (hinv : rxIPADX_4 S0 ws S fa tb res) (l8 : 0 ≤ fa) (u8 : fa ≤ 23) (l9 : (-2147483648) ≤ tb) (u9 : tb ≤ 24) (l10 : (-6) ≤ res) (u10 : res ≤ (-1)) : (True) ∧ rxPSPADX S0 ws S (some res) := by
  obtain ⟨h1, h2, hw, hs⟩ := hinv
  refine ⟨trivial, fa, tb, hw, Or.inr (Or.inl (⟨by omega, by omega, by omega, by omega, by omega, ?_, ?_⟩))⟩
  · exact congrArg some h1
  · exact hs
theorem rxfPADX_4_0 {X : (Nat → Int → Int) → Prop} {S0 : Nat → Int → Int} {ws : List Int} (hP : rxPPADX S0 ws) : bx_obE rxL X S0 rxC172.2.2.1 (rxIPADX S0 ws) (rxPSPADX S0 ws) 4 rxzPADX_4 rxePADX_4_0 := by
  intro S S_p r r_p hinv hX hin hsm_ hseg
  obtain ⟨I0, I1, h0_, hr_, b_, f_, d_⟩ := bx_cl (evs := []) (fvs := []) hseg (by decide +kernel) (by decide +kernel)
  have hinv : rxIPADX_4 S0 ws S (r 8) (r 9) (r 10) := hinv
  rw [← hr_ 8 (by decide), ← hr_ 9 (by decide), ← hr_ 10 (by decide)] at hinv
  obtain ⟨⟨l8, u8⟩, ⟨l9, u9⟩, ⟨l10, u10⟩, -⟩ := b_
  have w_ := d_
  subst w_
  have g := rxdPADX_4_0 hP hin hsm_ I0 I1 hinv l8 u8 l9 u9 l10 u10
  refine ⟨bx_narP_ok (l := []) g.1, ?_⟩
  show rxPSPADX S0 ws S_p (some (bx_num r_p (.inr (0, (10, 0)))))
  rw [bx_xv_ok h0_]
  exact g.2
theorem rxdPADX_6_0 {S0 : Nat → Int → Int} {ws : List Int} {S : Nat → Int → Int} {fa tb res : Int} (hP : rxPPADX S0 ws) (hin : bx_same rxL (bx_mdl rxC172.2.2.1) S0 S) (hin2 : bx_same rxL (bx_mdl rxC172.2.2.1) S (bx_up S 0 8 0)) (I0 : bx_Inv rxL S) (I1 : bx_Inv rxL (bx_up S 0 8 0)) (hinv : rxIPADX_6 S0 ws S fa tb res) (l8 : 0 ≤ fa) (u8 : fa ≤ 23) (l9 : 1 ≤ tb) (u9 : tb ≤ 24) (l10 : (-1) ≤ res) (u10 : res ≤ 5) : (True) ∧ rxPSPADX S0 ws (bx_up S 0 8 0) (some res) := by
  obtain ⟨⟨x, y, e1, hq⟩, h1, hw⟩ := hinv
  have k1 : fa = x := Option.some.inj (congrArg (fun l : List Int => l[1]?) e1)
  have k2 : tb = y := Option.some.inj (congrArg (fun l : List Int => l[2]?) e1)
  subst k1
  subst k2
  have b1_ : 0 ≤ S 1 0 ∧ S 1 0 ≤ 6 := I0 1 0 (by decide) (by decide)
  rcases hq with ⟨g1, g2, -⟩ | ⟨g1, g2, g3, g4, ⟨g5, g6⟩, g7⟩
  · exfalso; omega
  · refine ⟨trivial, fa, tb, hw, Or.inr (Or.inr ⟨by omega, by omega, by omega, by omega, g1, g2, (bx_up_ne (by omega)).trans g3, fun t a b => ⟨(bx_up_ne (by omega)).trans (g4 t a b).1, (bx_up_ne (by omega)).trans (g4 t a b).2⟩, ⟨(bx_up_ne (by omega)).trans g5, (bx_up_ne (by omega)).trans g6⟩, fun p j a b c d e f => (bx_up_ne (by omega)).trans (g7 p j a b c d e)⟩)⟩
theorem rxfPADX_6_0 {X : (Nat → Int → Int) → Prop} {S0 : Nat → Int → Int} {ws : List Int} (hP : rxPPADX S0 ws) : bx_obE rxL X S0 rxC172.2.2.1 (rxIPADX S0 ws) (rxPSPADX S0 ws) 6 rxzPADX_6 rxePADX_6_0 := by
  intro S S_p r r_p hinv hX hin hsm_ hseg
  obtain ⟨I0, I1, h0_, hr_, b_, f_, d_⟩ := bx_cl (evs := [(1, (0, 0), (0, 8), .inr (0, (0, 0)))]) (fvs := []) hseg (by decide +kernel) (by decide +kernel)
  have hinv : rxIPADX_6 S0 ws S (r 8) (r 9) (r 10) := hinv
  rw [← hr_ 8 (by decide), ← hr_ 9 (by decide), ← hr_ 10 (by decide)] at hinv
  obtain ⟨⟨l8, u8⟩, ⟨l9, u9⟩, ⟨l10, u10⟩, -⟩ := b_
  obtain ⟨T0, w_, w0⟩ := d_
  subst w0
  subst w_
  have g := rxdPADX_6_0 hP hin hsm_ I0 I1 hinv l8 u8 l9 u9 l10 u10
  refine ⟨bx_narP_ok (l := []) g.1, ?_⟩
  show rxPSPADX S0 ws (bx_up T0 0 (8) (0)) (some (bx_num r_p (.inr (0, (10, 0)))))
  rw [bx_xv_ok h0_]
  exact g.2
theorem rxgCPADX {X : (Nat → Int → Int) → Prop} {S0 : Nat → Int → Int} {ws : List Int} (hP : rxPPADX S0 ws) : bx_allI (fun i q => rxUPADX q = true ∨ bx_allP (fun o => bx_obC rxL X S0 rxC172.2.2.1 (rxIPADX S0 ws) (rxmPADX S0 ws) i q.1 o) q.2.1) 0 rxYPADX := ⟨Or.inr ⟨rxgPADX_0_0 hP, rxgPADX_0_1 hP, rxgPADX_0_2 hP, rxgPADX_0_3 hP, rxgPADX_0_4 hP, rxgPADX_0_5 hP, trivial⟩, Or.inl rfl, Or.inr trivial, Or.inl rfl, Or.inr trivial, Or.inl rfl, Or.inr trivial, trivial⟩
theorem rxgEPADX {X : (Nat → Int → Int) → Prop} {S0 : Nat → Int → Int} {ws : List Int} (hP : rxPPADX S0 ws) : bx_allI (fun i q => rxUPADX q = true ∨ bx_allP (fun E => bx_obE rxL X S0 rxC172.2.2.1 (rxIPADX S0 ws) (rxPSPADX S0 ws) i q.1 E) q.2.2) 0 rxYPADX := ⟨Or.inr trivial, Or.inl rfl, Or.inr ⟨rxfPADX_2_0 hP, trivial⟩, Or.inl rfl, Or.inr ⟨rxfPADX_4_0 hP, trivial⟩, Or.inl rfl, Or.inr ⟨rxfPADX_6_0 hP, trivial⟩, trivial⟩
theorem rxuPADX {PX : State → Prop} {Dg : va_G} {A : Nat → Prop} {ad xa : Nat → Nat} {l : Launch} {X : (Nat → Int → Int) → Prop} (hPX : rx_PXOK rxNW A PX) (hX : ∀ S S1 : Nat → Int → Int, X S → bx_same rxL (bx_mdl rxC172.2.2.1) S S1 → X S1) (hQ110 : bx_ConP rxG rxNW rxAO PX Dg rxL X vwCl A ad l rxM110 rxC110 rxP110 rxPS110) (hQAPD : bx_ConP rxG rxNW rxAO PX Dg rxL X vwCl A ad l rxM111 rxCAPD rxPAPD rxPSAPD) {S0 : Nat → Int → Int} {ws : List Int} (hP : rxPPADX S0 ws) : ∀ (i : Nat) (q : bx_HE), rxYPADX[i]? = some q → rxUPADX q = true → ∀ {p : Program} {e : Env} {R : Room} {s : State} {m : MethodId} {args : Array Value} {below : List Frame} {meth : Method} {c : Code} {Q : State → Prop} {H0 : Heap}, rx_Fr rxG rxNW rxAO PX p s m args meth c rxM172 → (∀ q, H0.size ≤ q → A q) → H0 = s.heap → rxM172.2.2.2.2.2.2.1 ≤ R.cells → rxM172.2.2.2.2.2.2.2 ≤ R.slots → rxC172.2.2.2.1 ≤ R.frames → rxC172.2.2.2.1 * 40 ≤ R.locals → bx_Step p l e R s m args below meth c Q Dg rxL X vwCl A xa H0 ad rxM172 rxYPADX (rxIPADX S0 ws) (rxmPADX S0 ws) S0 rxC172.2.2.1 i q := by
  intro i q hq hus p e R s m args below meth c Q H0 hF hA hH0 hmc hms hd hdl
  match i, hq with
  | 0, hq =>
    cases hq
    exact absurd (show false = true from hus) Bool.false_ne_true
  | 1, hq =>
    cases hq
    exact rx_stepC (ins := .invokevirtual 110) (len := 3) (i_p := 2) (M_p := rxM110) (d := rxC172.2.2.2.1) (as := [.inr (3, (0, 0)), .inr (0, (0, (-1)))]) (t := []) (ct := rxC110) hPX hF rfl hA hH0 hmc hms hd hdl (by decide +kernel) rfl rfl (by decide +kernel) (by decide +kernel) hQ110 (by decide +kernel) rfl (Or.inr ⟨_, _, _, 1, rfl, rfl, by omega, rfl, rfl, rfl⟩) (rxsPADX_1 hP)
  | 2, hq =>
    cases hq
    exact absurd (show false = true from hus) Bool.false_ne_true
  | 3, hq =>
    cases hq
    exact rx_stepC (ins := .invokevirtual 110) (len := 3) (i_p := 4) (M_p := rxM110) (d := rxC172.2.2.2.1) (as := [.inr (3, (0, 0)), .inr (0, (0, (-5)))]) (t := []) (ct := rxC110) hPX hF rfl hA hH0 hmc hms hd hdl (by decide +kernel) rfl rfl (by decide +kernel) (by decide +kernel) hQ110 (by decide +kernel) rfl (Or.inr ⟨_, _, _, 1, rfl, rfl, by omega, rfl, rfl, rfl⟩) (rxsPADX_3 hP)
  | 4, hq =>
    cases hq
    exact absurd (show false = true from hus) Bool.false_ne_true
  | 5, hq =>
    cases hq
    exact rx_stepC (ins := .invokevirtual 117) (len := 3) (i_p := 6) (M_p := rxM111) (d := rxC172.2.2.2.1) (as := [.inr (3, (0, 1)), .inr (0, (8, 0)), .inr (0, (9, 0))]) (t := [.inr (3, (0, 0))]) (ct := rxCAPD) hPX hF rfl hA hH0 hmc hms hd hdl (by decide +kernel) rfl rfl (by decide +kernel) (by decide +kernel) hQAPD (by decide +kernel) rfl (Or.inr ⟨_, _, _, 1, rfl, rfl, by omega, rfl, rfl, rfl⟩) (rxsPADX_5 hP)
  | 6, hq =>
    cases hq
    exact absurd (show false = true from hus) Bool.false_ne_true
  | n + 7, hq => cases hq
theorem rxQPADX {PX : State → Prop} {Dg : va_G} {A : Nat → Prop} {ad xa : Nat → Nat} {l : Launch} {X : (Nat → Int → Int) → Prop} (hPX : rx_PXOK rxNW A PX) (hsl : ∀ s : State, PX s → ∀ o idx n : Nat, rxSl o idx = some n → ∃ tx : String, vk_R (rxNm o) idx tx (ad n) s)
    (hX : ∀ S S_p : Nat → Int → Int, X S → bx_same rxL (bx_mdl rxC172.2.2.1) S S_p → X S_p)
    (ih : ∀ (j2 : Nat) (ct2 : bx_Ct) (M2 : rx_Mt), ct2 ∈ rxCnE j2 → ct2.2.2.2.1 + 1 ≤ rxC172.2.2.2.1 → rxT.2.2.2.2.2 j2 = some M2 → bx_Con rxG rxNW rxAO PX Dg rxL X vwCl A ad l M2 ct2) (hQ110 : bx_ConP rxG rxNW rxAO PX Dg rxL X vwCl A ad l rxM110 rxC110 rxP110 rxPS110) (hQAPD : bx_ConP rxG rxNW rxAO PX Dg rxL X vwCl A ad l rxM111 rxCAPD rxPAPD rxPSAPD) : bx_ConP rxG rxNW rxAO PX Dg rxL X vwCl A ad l rxM172 rxC172 rxPPADX rxPSPADX :=
  rxQof (xa := xa) (Cn := rxCnE) (f := 30000) (j := 172) (tab := rxYPADX) (us := rxUPADX) hPX hsl hX ih rfl rxYcPADX rxIPADX rxmPADX
    (fun S0 ws r I0 I ht0 ht as he he1 hX0 hI0 hP hs ha => by
      have e := he.symm.trans (show bx_ent0 rxNP rxC172.1 bx_I0 [] = some ([(0, 0), (0, 0), (0, 0), (0, 0), (0, 0), (0, 0), (0, 0), (0, 0), ((-2147483648), 2147483647), ((-2147483648), 2147483647)], [], [.inr (3, (0, 0)), .inr (0, (8, 0)), .inr (0, (9, 0))]) from rfl)
      cases e
      subst ha
      have h0 : r 0 = 0 := hs.1
      show rxIPADX_0 S0 _ S0 (r 8) (r 9)
      refine ⟨rfl, ?_⟩
      simp only [List.map_cons, List.map_nil, bx_xv_ok h0]
      rfl)
    (fun S0 ws hP => rxuPADX (xa := xa) hPX hX hQ110 hQAPD hP) (fun S0 ws hP => rxgCPADX hP) (fun S0 ws hP => rxgEPADX hP)
noncomputable def rxIPARX_0 (S0 : Nat → Int → Int) (ws : List Int) (S : Nat → Int → Int) (fa tb : Int) : Prop := S = S0 ∧ ws = [480, fa, tb]
noncomputable def rxmPARX_0 (S0 : Nat → Int → Int) (ws : List Int) (S : Nat → Int → Int) (fa tb : Int) : Nat := 1000
noncomputable def rxzPARX_0 : rx_Z := ([(0, 0), (0, 0), (0, 0), (0, 0), (0, 0), (0, 0), (0, 0), (0, 0), ((-2147483648), 2147483647), ((-2147483648), 2147483647)], [], [], 0, 0, 0, [(0, .inr (3, (0, 480))), (1, .inr (0, (8, 0))), (2, .inr (0, (9, 0)))], [])
noncomputable def rxIPARX_1 (S0 : Nat → Int → Int) (ws : List Int) (S : Nat → Int → Int) (fa tb x i z : Int) : Prop := ws = [480, fa, tb] ∧ fa < tb ∧ x = S0 482 0 ∧ z = S0 482 0 ∧ S 482 0 = S0 482 0 ∧ (∀ t : Int, 0 ≤ t → t < i → S 482 (22 + 36 * S0 482 0 + t) = -1) ∧ (S 482 (10 + 2 * S0 482 0) = fa ∧ S 482 (11 + 2 * S0 482 0) = tb) ∧ (∀ j : Int, j ≠ 0 → ¬ (22 + 36 * S0 482 0 ≤ j ∧ j < 22 + 36 * S0 482 0 + 36) → ¬ (j = 10 + 2 * S0 482 0) → ¬ (j = 11 + 2 * S0 482 0) → S 482 j = S0 482 j)
noncomputable def rxmPARX_1 (S0 : Nat → Int → Int) (ws : List Int) (S : Nat → Int → Int) (fa tb x i z : Int) : Nat := (100 - i).toNat
noncomputable def rxzPARX_1 : rx_Z := ([(0, 0), (0, 0), (0, 0), (0, 0), (0, 0), (0, 0), (0, 0), (0, 0), (0, 23), (1, 24), (0, 5), (0, 36), (0, 5)], [], [(((0, 482), 0), .inr (0, (12, 0)))], 0, 0, 87, [(0, .inr (3, (0, 480))), (1, .inr (0, (8, 0))), (2, .inr (0, (9, 0))), (3, .inr (0, (10, 0))), (4, .inr (0, (11, 0)))], [])
noncomputable def rxoPARX_0_0 : bx_HO := (([(0, 0), (0, 0), (0, 0), (0, 0), (0, 0), (0, 0), (0, 0), (0, 0), (0, 23), (1, 24), (0, 5), (0, 10), (0, 10)], [(6, (12, 0), (10, 0)), (6, (11, 0), (10, 0)), (3, (10, 0), (0, 6)), (1, (8, 1), (9, 0))], [(((0, 0), 1851192626986356799632150855527178470477108168475833597896556547000000), .inr (0, (9, 0))), (((0, 0), 1851192626986356799431441086199100573757115533650531458428829699000000), .inr (0, (8, 0))), (((0, 0), 1851192626986356797424340330377019318111018015026043177837658112000000), .inr (0, (10, 0))), (((0, 482), 0), .inr (0, (10, 0))), (((0, 480), 3), .inr (3, (0, 482))), (((0, 0), 1851192626986356797424340330377019318111018015026043177836478467000000), .inr (0, (0, 0))), (((0, 480), 0), .inr (0, (0, 0)))], 0, 0, 87, [(4, .inr (0, (0, 0))), (3, .inr (0, (10, 0))), (0, .inr (3, (0, 480))), (1, .inr (0, (8, 0))), (2, .inr (0, (9, 0)))], []), [], [], [(0, 0), (0, 0), (0, 0), (0, 0), (0, 0), (0, 0), (0, 0), (0, 0), (8, 0), (9, 0), (10, 0), (0, 0), (10, 0)], 1)
noncomputable def rxePARX_0_0 : rx_End × List (Nat × Int × Int) := (([(0, 0), (0, 0), (0, 0), (0, 0), (0, 0), (0, 0), (0, 0), (0, 0), ((-2147483648), (-1)), ((-2147483648), 2147483647), ((-2147483648), 2147483647), ((-2147483648), 2147483647)], [], [(((0, 0), 1851192626986356797625047037163794926384839479479878431390892035000000), .inr (0, (11, 0))), (((0, 481), 1), .inr (0, (11, 0))), (((0, 0), 1851192626986356797625047037163794926384839479479878431390892032000000), .inr (0, (10, 0))), (((0, 480), 2), .inr (3, (0, 481))), (((0, 0), 1851192626986356797625047037163794926384839479479878431390302211000000), .inr (0, (0, (-1)))), (((0, 480), 1), .inr (0, (0, (-1)))), (((0, 0), 1851192626986356797424340330377019318111018015026043177836478467000000), .inr (0, (0, 0))), (((0, 480), 0), .inr (0, (0, 0)))], some (.inr (0, (0, (-1))))), [])
noncomputable def rxePARX_0_1 : rx_End × List (Nat × Int × Int) := (([(0, 0), (0, 0), (0, 0), (0, 0), (0, 0), (0, 0), (0, 0), (0, 0), (24, 2147483647), ((-2147483648), 2147483647), ((-2147483648), 2147483647), ((-2147483648), 2147483647)], [], [(((0, 0), 1851192626986356797625047037163794926384839479479878431390892035000000), .inr (0, (11, 0))), (((0, 481), 1), .inr (0, (11, 0))), (((0, 0), 1851192626986356797625047037163794926384839479479878431390892032000000), .inr (0, (10, 0))), (((0, 480), 2), .inr (3, (0, 481))), (((0, 0), 1851192626986356797625047037163794926384839479479878431390302211000000), .inr (0, (0, (-1)))), (((0, 480), 1), .inr (0, (0, (-1)))), (((0, 0), 1851192626986356797424340330377019318111018015026043177836478467000000), .inr (0, (0, 0))), (((0, 480), 0), .inr (0, (0, 0)))], some (.inr (0, (0, (-1))))), [])
noncomputable def rxePARX_0_2 : rx_End × List (Nat × Int × Int) := (([(0, 0), (0, 0), (0, 0), (0, 0), (0, 0), (0, 0), (0, 0), (0, 0), (0, 23), ((-2147483648), 23), ((-2147483648), 2147483647), ((-2147483648), 2147483647)], [(0, (9, 0), (8, 1))], [(((0, 0), 1851192626986356797625047037163794926384839479479878431390892035000000), .inr (0, (11, 0))), (((0, 481), 1), .inr (0, (11, 0))), (((0, 0), 1851192626986356797625047037163794926384839479479878431390892032000000), .inr (0, (10, 0))), (((0, 480), 2), .inr (3, (0, 481))), (((0, 0), 1851192626986356797625047037163794926384839479479878431390302211000000), .inr (0, (0, (-1)))), (((0, 480), 1), .inr (0, (0, (-1)))), (((0, 0), 1851192626986356797424340330377019318111018015026043177836478467000000), .inr (0, (0, 0))), (((0, 480), 0), .inr (0, (0, 0)))], some (.inr (0, (0, (-1))))), [])
noncomputable def rxePARX_0_3 : rx_End × List (Nat × Int × Int) := (([(0, 0), (0, 0), (0, 0), (0, 0), (0, 0), (0, 0), (0, 0), (0, 0), (0, 23), (25, 2147483647), ((-2147483648), 2147483647), ((-2147483648), 2147483647)], [(1, (8, 1), (9, 0))], [(((0, 0), 1851192626986356797625047037163794926384839479479878431390892035000000), .inr (0, (11, 0))), (((0, 481), 1), .inr (0, (11, 0))), (((0, 0), 1851192626986356797625047037163794926384839479479878431390892032000000), .inr (0, (10, 0))), (((0, 480), 2), .inr (3, (0, 481))), (((0, 0), 1851192626986356797625047037163794926384839479479878431390302211000000), .inr (0, (0, (-1)))), (((0, 480), 1), .inr (0, (0, (-1)))), (((0, 0), 1851192626986356797424340330377019318111018015026043177836478467000000), .inr (0, (0, 0))), (((0, 480), 0), .inr (0, (0, 0)))], some (.inr (0, (0, (-1))))), [])
noncomputable def rxePARX_0_4 : rx_End × List (Nat × Int × Int) := (([(0, 0), (0, 0), (0, 0), (0, 0), (0, 0), (0, 0), (0, 0), (0, 0), (0, 23), (1, 24), (6, 6), ((-2147483648), 2147483647), ((-2147483648), 2147483647)], [(1, (8, 1), (9, 0))], [(((0, 0), 1851192626986356798427873864310897359480125337295219445606187011000000), .inr (0, (12, 0))), (((0, 481), 5), .inr (0, (12, 0))), (((0, 0), 1851192626986356798427873864310897359480125337295219445606187008000000), .inr (0, (11, 0))), (((0, 480), 2), .inr (3, (0, 481))), (((0, 0), 1851192626986356797625047037163794926384839479479878431390302211000000), .inr (0, (0, (-5)))), (((0, 480), 1), .inr (0, (0, (-5)))), (((0, 0), 1851192626986356797424340330377019318111018015026043177837658112000000), .inr (0, (10, 0))), (((0, 482), 0), .inr (0, (10, 0))), (((0, 480), 3), .inr (3, (0, 482))), (((0, 0), 1851192626986356797424340330377019318111018015026043177836478467000000), .inr (0, (0, 0))), (((0, 480), 0), .inr (0, (0, 0)))], some (.inr (0, (0, (-5))))), [])
noncomputable def rxoPARX_1_0 : bx_HO := (([(0, 0), (0, 0), (0, 0), (0, 0), (0, 0), (0, 0), (0, 0), (0, 0), (0, 23), (1, 24), (0, 5), (0, 35), (0, 5), (0, 180), (22, 237)], [(604462909807314587353099000000, (14, 0), (13, 22)), (40, (13, 0), (10, 0))], [(((0, 0), 1851192626986356797424383205955251356357414400226579580632301571000000), .inr (0, (0, (-1)))), (((0, 480), 3), .inr (3, (0, 482))), (((0, 482), 0), .inr (0, (12, 0)))], 0, 0, 87, [(4, .inr (0, (11, 1))), (0, .inr (3, (0, 480))), (1, .inr (0, (8, 0))), (2, .inr (0, (9, 0))), (3, .inr (0, (10, 0)))], []), [], [], [(0, 0), (0, 0), (0, 0), (0, 0), (0, 0), (0, 0), (0, 0), (0, 0), (8, 0), (9, 0), (10, 0), (11, 1), (12, 0)], 1)
noncomputable def rxePARX_1_0 : rx_End × List (Nat × Int × Int) := (([(0, 0), (0, 0), (0, 0), (0, 0), (0, 0), (0, 0), (0, 0), (0, 0), (0, 23), (1, 24), (0, 5), (36, 36), (0, 5)], [], [(((0, 0), 1851192626986356797625047037163794926384839479479878431390302211000000), .inr (0, (0, 0))), (((0, 480), 1), .inr (0, (0, 0))), (((0, 0), 1851192626986356797424340330377019318111018015026043177837658115000000), .inr (0, (12, 1))), (((0, 482), 0), .inr (0, (12, 1))), (((0, 480), 3), .inr (3, (0, 482)))], some (.inr (0, (10, 0)))), [])
noncomputable def rxYPARX : List bx_HE := [(rxzPARX_0, [rxoPARX_0_0], [rxePARX_0_0, rxePARX_0_1, rxePARX_0_2, rxePARX_0_3, rxePARX_0_4]), (rxzPARX_1, [rxoPARX_1_0], [rxePARX_1_0])]
noncomputable def rxUPARX (q : bx_HE) : Bool := false
noncomputable def rxYBPARX : bx_B := (rxV, rxNP, rxDmf, bx_mdH rxC193.2.2.1)
set_option maxRecDepth 100000 in
theorem rxYcPARX : bx_chkH rxYBPARX rxM193 rxC193 rxYPARX (rxUPARX, fun cut z => rx_ex2 (rxCT rxYBPARX rxCnE) cut 30000 rxC193.2.2.2.1 193 z) = true := by decide +kernel
noncomputable def rxIPARX (S0 : Nat → Int → Int) (ws : List Int) (i : Nat) : bx_SP := fun S r => match i with | 0 => rxIPARX_0 S0 ws S (r 8) (r 9) | 1 => rxIPARX_1 S0 ws S (r 8) (r 9) (r 10) (r 11) (r 12) | _ => False
noncomputable def rxmPARX (S0 : Nat → Int → Int) (ws : List Int) (i : Nat) (S : Nat → Int → Int) (r : Nat → Int) : Nat := match i with | 0 => rxmPARX_0 S0 ws S (r 8) (r 9) | 1 => rxmPARX_1 S0 ws S (r 8) (r 9) (r 10) (r 11) (r 12) | _ => 0
noncomputable def rxPPARX (S0 : Nat → Int → Int) (ws : List Int) : Prop := True
noncomputable def rxPSPARX (S0 : Nat → Int → Int) (ws : List Int) (S : Nat → Int → Int) (w : Option Int) : Prop := ∃ fa tb : Int, ws = [480, fa, tb] ∧ (((fa < 0 ∨ 23 < fa ∨ tb ≤ fa ∨ 24 < tb) ∧ w = some (-1) ∧ (∀ j : Int, S 482 j = S0 482 j)) ∨ (0 ≤ fa ∧ fa ≤ 23 ∧ fa < tb ∧ tb ≤ 24 ∧ 6 ≤ S0 482 0 ∧ w = some (-5) ∧ (∀ j : Int, S 482 j = S0 482 j)) ∨ (0 ≤ fa ∧ fa ≤ 23 ∧ fa < tb ∧ tb ≤ 24 ∧ S0 482 0 < 6 ∧ w = some (S0 482 0) ∧ S 482 0 = S0 482 0 + 1 ∧ (∀ t : Int, 0 ≤ t → t < 36 → S 482 (22 + 36 * S0 482 0 + t) = -1) ∧ (S 482 (10 + 2 * S0 482 0) = fa ∧ S 482 (11 + 2 * S0 482 0) = tb) ∧ (∀ j : Int, j ≠ 0 → ¬ (22 + 36 * S0 482 0 ≤ j ∧ j < 22 + 36 * S0 482 0 + 36) → ¬ (j = 10 + 2 * S0 482 0) → ¬ (j = 11 + 2 * S0 482 0) → S 482 j = S0 482 j)))
theorem rxcPARX_0_0 {S0 : Nat → Int → Int} {ws : List Int} {S : Nat → Int → Int} {fa tb x10 x11 x12 : Int} (hP : rxPPARX S0 ws) (hin : bx_same rxL (bx_mdl rxC193.2.2.1) S0 S) (I0 : bx_Inv rxL S) (hinv : rxIPARX_0 S0 ws S fa tb) (l8 : 0 ≤ fa) (u8 : fa ≤ 23) (l9 : 1 ≤ tb) (u9 : tb ≤ 24) (l10 : 0 ≤ x10) (u10 : x10 ≤ 5) (l11 : 0 ≤ x11) (u11 : x11 ≤ 10) (l12 : 0 ≤ x12) (u12 : x12 ≤ 10) (f0 : x12 = 2 * (x10)) (f1 : x11 = 2 * (x10)) (f2 : x10 ≠ 6) (f3 : fa + 1 ≤ tb) (e2 : (bx_up S 480 0 0) 482 0 = x10) : (True) ∧ (True) ∧ rxIPARX_1 S0 ws (bx_up (bx_up (bx_up S 480 0 0) 482 (x11 + 10) fa) 482 (x12 + 11) tb) fa tb x10 0 x10 ∧ rxmPARX_1 S0 ws (bx_up (bx_up (bx_up S 480 0 0) 482 (x11 + 10) fa) 482 (x12 + 11) tb) fa tb x10 0 x10 < rxmPARX_0 S0 ws S fa tb := by
  obtain ⟨rfl, hw⟩ := hinv
  have q0 : S 482 0 = x10 := ((bx_up_ne (by omega))).symm.trans e2
  refine ⟨trivial, trivial, ⟨hw, by omega, q0.symm, q0.symm, (bx_up_ne (by omega)).trans ((bx_up_ne (by omega)).trans ((bx_up_ne (by omega)))), fun t a b => absurd a (by omega), ⟨?_, ?_⟩, fun j a b c d => (bx_up_ne (by omega)).trans ((bx_up_ne (by omega)).trans ((bx_up_ne (by omega))))⟩, by unfold rxmPARX_0 rxmPARX_1; omega⟩
  · rw [show 10 + 2 * S 482 0 = x11 + 10 by omega]
    exact (bx_up_ne (by omega)).trans bx_up_at
  · rw [show 11 + 2 * S 482 0 = x12 + 11 by omega]
    exact bx_up_at
theorem rxgPARX_0_0 {X : (Nat → Int → Int) → Prop} {S0 : Nat → Int → Int} {ws : List Int} (hP : rxPPARX S0 ws) : bx_obC rxL X S0 rxC193.2.2.1 (rxIPARX S0 ws) (rxmPARX S0 ws) 0 rxzPARX_0 rxoPARX_0_0 := by
  intro S S_p r r_p hinv hX hin hsm_ hseg
  obtain ⟨I0, I1, h0_, hr_, b_, f_, d_⟩ := bx_cl (evs := [(1, (0, 482), (12, 11), .inr (0, (9, 0))), (1, (0, 482), (11, 10), .inr (0, (8, 0))), (0, (0, 482), (0, 0), .inr (0, (10, 0))), (1, (0, 480), (0, 0), .inr (0, (0, 0)))]) (fvs := [(4, (12, 0), (10, 0), (0, 2)), (4, (11, 0), (10, 0), (0, 2)), (3, (10, 0), (0, 6), (0, 0)), (1, (8, 1), (9, 0), (0, 0))]) hseg (by decide +kernel) (by decide +kernel)
  have hinv : rxIPARX_0 S0 ws S (r 8) (r 9) := hinv
  rw [← hr_ 8 (by decide), ← hr_ 9 (by decide)] at hinv
  obtain ⟨⟨l8, u8⟩, ⟨l9, u9⟩, ⟨l10, u10⟩, ⟨l11, u11⟩, ⟨l12, u12⟩, -⟩ := b_
  obtain ⟨f0, f1, f2, f3, -⟩ := f_
  obtain ⟨T0, ⟨T1, ⟨e2, ⟨T3, w_, w3⟩⟩, w1⟩, w0⟩ := d_
  subst w0
  subst w1
  subst w3
  subst w_
  have g := rxcPARX_0_0 hP hin I0 hinv l8 u8 l9 u9 l10 u10 l11 u11 l12 u12 f0 f1 f2 f3 e2
  refine ⟨bx_narP_ok (l := []) g.1, bx_nfP_ok h0_ (fvs := []) (by decide +kernel) g.2.1, ?_, ?_⟩
  · show rxIPARX_1 S0 ws (bx_up (bx_up (bx_up T3 480 (0) (0)) 482 (r_p 11 + 10) (r_p 8)) 482 (r_p 12 + 11) (r_p 9)) (bx_val [(0, 0), (0, 0), (0, 0), (0, 0), (0, 0), (0, 0), (0, 0), (0, 0), (8, 0), (9, 0), (10, 0), (0, 0), (10, 0)] r_p 8) (bx_val [(0, 0), (0, 0), (0, 0), (0, 0), (0, 0), (0, 0), (0, 0), (0, 0), (8, 0), (9, 0), (10, 0), (0, 0), (10, 0)] r_p 9) (bx_val [(0, 0), (0, 0), (0, 0), (0, 0), (0, 0), (0, 0), (0, 0), (0, 0), (8, 0), (9, 0), (10, 0), (0, 0), (10, 0)] r_p 10) (bx_val [(0, 0), (0, 0), (0, 0), (0, 0), (0, 0), (0, 0), (0, 0), (0, 0), (8, 0), (9, 0), (10, 0), (0, 0), (10, 0)] r_p 11) (bx_val [(0, 0), (0, 0), (0, 0), (0, 0), (0, 0), (0, 0), (0, 0), (0, 0), (8, 0), (9, 0), (10, 0), (0, 0), (10, 0)] r_p 12)
    rw [bx_val_x (n := 8) (e := (8, 0)) h0_ rfl, bx_val_x (n := 9) (e := (9, 0)) h0_ rfl, bx_val_x (n := 10) (e := (10, 0)) h0_ rfl, bx_val_x (n := 11) (e := (0, 0)) h0_ rfl, bx_val_x (n := 12) (e := (10, 0)) h0_ rfl]
    exact g.2.2.1
  · show rxmPARX_1 S0 ws (bx_up (bx_up (bx_up T3 480 (0) (0)) 482 (r_p 11 + 10) (r_p 8)) 482 (r_p 12 + 11) (r_p 9)) (bx_val [(0, 0), (0, 0), (0, 0), (0, 0), (0, 0), (0, 0), (0, 0), (0, 0), (8, 0), (9, 0), (10, 0), (0, 0), (10, 0)] r_p 8) (bx_val [(0, 0), (0, 0), (0, 0), (0, 0), (0, 0), (0, 0), (0, 0), (0, 0), (8, 0), (9, 0), (10, 0), (0, 0), (10, 0)] r_p 9) (bx_val [(0, 0), (0, 0), (0, 0), (0, 0), (0, 0), (0, 0), (0, 0), (0, 0), (8, 0), (9, 0), (10, 0), (0, 0), (10, 0)] r_p 10) (bx_val [(0, 0), (0, 0), (0, 0), (0, 0), (0, 0), (0, 0), (0, 0), (0, 0), (8, 0), (9, 0), (10, 0), (0, 0), (10, 0)] r_p 11) (bx_val [(0, 0), (0, 0), (0, 0), (0, 0), (0, 0), (0, 0), (0, 0), (0, 0), (8, 0), (9, 0), (10, 0), (0, 0), (10, 0)] r_p 12) < rxmPARX_0 S0 ws T3 (r 8) (r 9)
    rw [bx_val_x (n := 8) (e := (8, 0)) h0_ rfl, bx_val_x (n := 9) (e := (9, 0)) h0_ rfl, bx_val_x (n := 10) (e := (10, 0)) h0_ rfl, bx_val_x (n := 11) (e := (0, 0)) h0_ rfl, bx_val_x (n := 12) (e := (10, 0)) h0_ rfl, ← hr_ 8 (by decide), ← hr_ 9 (by decide)]
    exact g.2.2.2
theorem rxdPARX_0_0 {S0 : Nat → Int → Int} {ws : List Int} {S : Nat → Int → Int} {fa tb x10 x11 : Int} (hP : rxPPARX S0 ws) (hin : bx_same rxL (bx_mdl rxC193.2.2.1) S0 S) (hin2 : bx_same rxL (bx_mdl rxC193.2.2.1) S (bx_up (bx_up (bx_up S 480 0 0) 480 1 ((-1))) 481 1 x11)) (I0 : bx_Inv rxL S) (I1 : bx_Inv rxL (bx_up (bx_up (bx_up S 480 0 0) 480 1 ((-1))) 481 1 x11)) (hinv : rxIPARX_0 S0 ws S fa tb) (l8 : (-2147483648) ≤ fa) (u8 : fa ≤ (-1)) (l9 : (-2147483648) ≤ tb) (u9 : tb ≤ 2147483647) (l10 : (-2147483648) ≤ x10) (u10 : x10 ≤ 2147483647) (l11 : (-2147483648) ≤ x11) (u11 : x11 ≤ 2147483647) (e1 : (bx_up (bx_up S 480 0 0) 480 1 ((-1))) 481 1 = x10) : (True) ∧ rxPSPARX S0 ws (bx_up (bx_up (bx_up S 480 0 0) 480 1 ((-1))) 481 1 x11) (some ((-1))) := by
  obtain ⟨rfl, hw⟩ := hinv
  exact ⟨trivial, fa, tb, hw, Or.inl ⟨by omega, rfl, fun j => (bx_up_ne (by omega)).trans ((bx_up_ne (by omega)).trans ((bx_up_ne (by omega))))⟩⟩
theorem rxfPARX_0_0 {X : (Nat → Int → Int) → Prop} {S0 : Nat → Int → Int} {ws : List Int} (hP : rxPPARX S0 ws) : bx_obE rxL X S0 rxC193.2.2.1 (rxIPARX S0 ws) (rxPSPARX S0 ws) 0 rxzPARX_0 rxePARX_0_0 := by
  intro S S_p r r_p hinv hX hin hsm_ hseg
  obtain ⟨I0, I1, h0_, hr_, b_, f_, d_⟩ := bx_cl (evs := [(1, (0, 481), (0, 1), .inr (0, (11, 0))), (0, (0, 481), (0, 1), .inr (0, (10, 0))), (1, (0, 480), (0, 1), .inr (0, (0, (-1)))), (1, (0, 480), (0, 0), .inr (0, (0, 0)))]) (fvs := []) hseg (by decide +kernel) (by decide +kernel)
  have hinv : rxIPARX_0 S0 ws S (r 8) (r 9) := hinv
  rw [← hr_ 8 (by decide), ← hr_ 9 (by decide)] at hinv
  obtain ⟨⟨l8, u8⟩, ⟨l9, u9⟩, ⟨l10, u10⟩, ⟨l11, u11⟩, -⟩ := b_
  obtain ⟨T0, ⟨e1, ⟨T2, ⟨T3, w_, w3⟩, w2⟩⟩, w0⟩ := d_
  subst w0
  subst w2
  subst w3
  subst w_
  have g := rxdPARX_0_0 hP hin hsm_ I0 I1 hinv l8 u8 l9 u9 l10 u10 l11 u11 e1
  refine ⟨bx_narP_ok (l := []) g.1, ?_⟩
  show rxPSPARX S0 ws (bx_up (bx_up (bx_up T3 480 (0) (0)) 480 (1) ((-1))) 481 (1) (r_p 11)) (some (bx_num r_p (.inr (0, (0, (-1))))))
  rw [bx_xv_ok h0_]
  exact g.2
theorem rxdPARX_0_1 {S0 : Nat → Int → Int} {ws : List Int} {S : Nat → Int → Int} {fa tb x10 x11 : Int} (hP : rxPPARX S0 ws) (hin : bx_same rxL (bx_mdl rxC193.2.2.1) S0 S) (hin2 : bx_same rxL (bx_mdl rxC193.2.2.1) S (bx_up (bx_up (bx_up S 480 0 0) 480 1 ((-1))) 481 1 x11)) (I0 : bx_Inv rxL S) (I1 : bx_Inv rxL (bx_up (bx_up (bx_up S 480 0 0) 480 1 ((-1))) 481 1 x11)) (hinv : rxIPARX_0 S0 ws S fa tb) (l8 : 24 ≤ fa) (u8 : fa ≤ 2147483647) (l9 : (-2147483648) ≤ tb) (u9 : tb ≤ 2147483647) (l10 : (-2147483648) ≤ x10) (u10 : x10 ≤ 2147483647) (l11 : (-2147483648) ≤ x11) (u11 : x11 ≤ 2147483647) (e1 : (bx_up (bx_up S 480 0 0) 480 1 ((-1))) 481 1 = x10) : (True) ∧ rxPSPARX S0 ws (bx_up (bx_up (bx_up S 480 0 0) 480 1 ((-1))) 481 1 x11) (some ((-1))) := by
  obtain ⟨rfl, hw⟩ := hinv
  exact ⟨trivial, fa, tb, hw, Or.inl ⟨by omega, rfl, fun j => (bx_up_ne (by omega)).trans ((bx_up_ne (by omega)).trans ((bx_up_ne (by omega))))⟩⟩
theorem rxfPARX_0_1 {X : (Nat → Int → Int) → Prop} {S0 : Nat → Int → Int} {ws : List Int} (hP : rxPPARX S0 ws) : bx_obE rxL X S0 rxC193.2.2.1 (rxIPARX S0 ws) (rxPSPARX S0 ws) 0 rxzPARX_0 rxePARX_0_1 := by
  intro S S_p r r_p hinv hX hin hsm_ hseg
  obtain ⟨I0, I1, h0_, hr_, b_, f_, d_⟩ := bx_cl (evs := [(1, (0, 481), (0, 1), .inr (0, (11, 0))), (0, (0, 481), (0, 1), .inr (0, (10, 0))), (1, (0, 480), (0, 1), .inr (0, (0, (-1)))), (1, (0, 480), (0, 0), .inr (0, (0, 0)))]) (fvs := []) hseg (by decide +kernel) (by decide +kernel)
  have hinv : rxIPARX_0 S0 ws S (r 8) (r 9) := hinv
  rw [← hr_ 8 (by decide), ← hr_ 9 (by decide)] at hinv
  obtain ⟨⟨l8, u8⟩, ⟨l9, u9⟩, ⟨l10, u10⟩, ⟨l11, u11⟩, -⟩ := b_
  obtain ⟨T0, ⟨e1, ⟨T2, ⟨T3, w_, w3⟩, w2⟩⟩, w0⟩ := d_
  subst w0
  subst w2
  subst w3
  subst w_
  have g := rxdPARX_0_1 hP hin hsm_ I0 I1 hinv l8 u8 l9 u9 l10 u10 l11 u11 e1
  refine ⟨bx_narP_ok (l := []) g.1, ?_⟩
  show rxPSPARX S0 ws (bx_up (bx_up (bx_up T3 480 (0) (0)) 480 (1) ((-1))) 481 (1) (r_p 11)) (some (bx_num r_p (.inr (0, (0, (-1))))))
  rw [bx_xv_ok h0_]
  exact g.2
theorem rxdPARX_0_2 {S0 : Nat → Int → Int} {ws : List Int} {S : Nat → Int → Int} {fa tb x10 x11 : Int} (hP : rxPPARX S0 ws) (hin : bx_same rxL (bx_mdl rxC193.2.2.1) S0 S) (hin2 : bx_same rxL (bx_mdl rxC193.2.2.1) S (bx_up (bx_up (bx_up S 480 0 0) 480 1 ((-1))) 481 1 x11)) (I0 : bx_Inv rxL S) (I1 : bx_Inv rxL (bx_up (bx_up (bx_up S 480 0 0) 480 1 ((-1))) 481 1 x11)) (hinv : rxIPARX_0 S0 ws S fa tb) (l8 : 0 ≤ fa) (u8 : fa ≤ 23) (l9 : (-2147483648) ≤ tb) (u9 : tb ≤ 23) (l10 : (-2147483648) ≤ x10) (u10 : x10 ≤ 2147483647) (l11 : (-2147483648) ≤ x11) (u11 : x11 ≤ 2147483647) (f0 : tb < fa + 1) (e1 : (bx_up (bx_up S 480 0 0) 480 1 ((-1))) 481 1 = x10) : (True) ∧ rxPSPARX S0 ws (bx_up (bx_up (bx_up S 480 0 0) 480 1 ((-1))) 481 1 x11) (some ((-1))) := by
  obtain ⟨rfl, hw⟩ := hinv
  exact ⟨trivial, fa, tb, hw, Or.inl ⟨by omega, rfl, fun j => (bx_up_ne (by omega)).trans ((bx_up_ne (by omega)).trans ((bx_up_ne (by omega))))⟩⟩
theorem rxfPARX_0_2 {X : (Nat → Int → Int) → Prop} {S0 : Nat → Int → Int} {ws : List Int} (hP : rxPPARX S0 ws) : bx_obE rxL X S0 rxC193.2.2.1 (rxIPARX S0 ws) (rxPSPARX S0 ws) 0 rxzPARX_0 rxePARX_0_2 := by
  intro S S_p r r_p hinv hX hin hsm_ hseg
  obtain ⟨I0, I1, h0_, hr_, b_, f_, d_⟩ := bx_cl (evs := [(1, (0, 481), (0, 1), .inr (0, (11, 0))), (0, (0, 481), (0, 1), .inr (0, (10, 0))), (1, (0, 480), (0, 1), .inr (0, (0, (-1)))), (1, (0, 480), (0, 0), .inr (0, (0, 0)))]) (fvs := [(0, (9, 0), (8, 1), (0, 0))]) hseg (by decide +kernel) (by decide +kernel)
  have hinv : rxIPARX_0 S0 ws S (r 8) (r 9) := hinv
  rw [← hr_ 8 (by decide), ← hr_ 9 (by decide)] at hinv
  obtain ⟨⟨l8, u8⟩, ⟨l9, u9⟩, ⟨l10, u10⟩, ⟨l11, u11⟩, -⟩ := b_
  obtain ⟨f0, -⟩ := f_
  obtain ⟨T0, ⟨e1, ⟨T2, ⟨T3, w_, w3⟩, w2⟩⟩, w0⟩ := d_
  subst w0
  subst w2
  subst w3
  subst w_
  have g := rxdPARX_0_2 hP hin hsm_ I0 I1 hinv l8 u8 l9 u9 l10 u10 l11 u11 f0 e1
  refine ⟨bx_narP_ok (l := []) g.1, ?_⟩
  show rxPSPARX S0 ws (bx_up (bx_up (bx_up T3 480 (0) (0)) 480 (1) ((-1))) 481 (1) (r_p 11)) (some (bx_num r_p (.inr (0, (0, (-1))))))
  rw [bx_xv_ok h0_]
  exact g.2
theorem rxdPARX_0_3 {S0 : Nat → Int → Int} {ws : List Int} {S : Nat → Int → Int} {fa tb x10 x11 : Int} (hP : rxPPARX S0 ws) (hin : bx_same rxL (bx_mdl rxC193.2.2.1) S0 S) (hin2 : bx_same rxL (bx_mdl rxC193.2.2.1) S (bx_up (bx_up (bx_up S 480 0 0) 480 1 ((-1))) 481 1 x11)) (I0 : bx_Inv rxL S) (I1 : bx_Inv rxL (bx_up (bx_up (bx_up S 480 0 0) 480 1 ((-1))) 481 1 x11)) (hinv : rxIPARX_0 S0 ws S fa tb) (l8 : 0 ≤ fa) (u8 : fa ≤ 23) (l9 : 25 ≤ tb) (u9 : tb ≤ 2147483647) (l10 : (-2147483648) ≤ x10) (u10 : x10 ≤ 2147483647) (l11 : (-2147483648) ≤ x11) (u11 : x11 ≤ 2147483647) (f0 : fa + 1 ≤ tb) (e1 : (bx_up (bx_up S 480 0 0) 480 1 ((-1))) 481 1 = x10) : (True) ∧ rxPSPARX S0 ws (bx_up (bx_up (bx_up S 480 0 0) 480 1 ((-1))) 481 1 x11) (some ((-1))) := by
  obtain ⟨rfl, hw⟩ := hinv
  exact ⟨trivial, fa, tb, hw, Or.inl ⟨by omega, rfl, fun j => (bx_up_ne (by omega)).trans ((bx_up_ne (by omega)).trans ((bx_up_ne (by omega))))⟩⟩
theorem rxfPARX_0_3 {X : (Nat → Int → Int) → Prop} {S0 : Nat → Int → Int} {ws : List Int} (hP : rxPPARX S0 ws) : bx_obE rxL X S0 rxC193.2.2.1 (rxIPARX S0 ws) (rxPSPARX S0 ws) 0 rxzPARX_0 rxePARX_0_3 := by
  intro S S_p r r_p hinv hX hin hsm_ hseg
  obtain ⟨I0, I1, h0_, hr_, b_, f_, d_⟩ := bx_cl (evs := [(1, (0, 481), (0, 1), .inr (0, (11, 0))), (0, (0, 481), (0, 1), .inr (0, (10, 0))), (1, (0, 480), (0, 1), .inr (0, (0, (-1)))), (1, (0, 480), (0, 0), .inr (0, (0, 0)))]) (fvs := [(1, (8, 1), (9, 0), (0, 0))]) hseg (by decide +kernel) (by decide +kernel)
  have hinv : rxIPARX_0 S0 ws S (r 8) (r 9) := hinv
  rw [← hr_ 8 (by decide), ← hr_ 9 (by decide)] at hinv
  obtain ⟨⟨l8, u8⟩, ⟨l9, u9⟩, ⟨l10, u10⟩, ⟨l11, u11⟩, -⟩ := b_
  obtain ⟨f0, -⟩ := f_
  obtain ⟨T0, ⟨e1, ⟨T2, ⟨T3, w_, w3⟩, w2⟩⟩, w0⟩ := d_
  subst w0
  subst w2
  subst w3
  subst w_
  have g := rxdPARX_0_3 hP hin hsm_ I0 I1 hinv l8 u8 l9 u9 l10 u10 l11 u11 f0 e1
  refine ⟨bx_narP_ok (l := []) g.1, ?_⟩
  show rxPSPARX S0 ws (bx_up (bx_up (bx_up T3 480 (0) (0)) 480 (1) ((-1))) 481 (1) (r_p 11)) (some (bx_num r_p (.inr (0, (0, (-1))))))
  rw [bx_xv_ok h0_]
  exact g.2
theorem rxdPARX_0_4 {S0 : Nat → Int → Int} {ws : List Int} {S : Nat → Int → Int} {fa tb x10 x11 x12 : Int} (hP : rxPPARX S0 ws) (hin : bx_same rxL (bx_mdl rxC193.2.2.1) S0 S) (hin2 : bx_same rxL (bx_mdl rxC193.2.2.1) S (bx_up (bx_up (bx_up S 480 0 0) 480 1 ((-5))) 481 5 x12)) (I0 : bx_Inv rxL S) (I1 : bx_Inv rxL (bx_up (bx_up (bx_up S 480 0 0) 480 1 ((-5))) 481 5 x12)) (hinv : rxIPARX_0 S0 ws S fa tb) (l8 : 0 ≤ fa) (u8 : fa ≤ 23) (l9 : 1 ≤ tb) (u9 : tb ≤ 24) (l10 : 6 ≤ x10) (u10 : x10 ≤ 6) (l11 : (-2147483648) ≤ x11) (u11 : x11 ≤ 2147483647) (l12 : (-2147483648) ≤ x12) (u12 : x12 ≤ 2147483647) (f0 : fa + 1 ≤ tb) (e3 : (bx_up S 480 0 0) 482 0 = x10) (e1 : (bx_up (bx_up S 480 0 0) 480 1 ((-5))) 481 5 = x11) : (True) ∧ rxPSPARX S0 ws (bx_up (bx_up (bx_up S 480 0 0) 480 1 ((-5))) 481 5 x12) (some ((-5))) := by
  obtain ⟨rfl, hw⟩ := hinv
  have q0 : S 482 0 = x10 := ((bx_up_ne (by omega))).symm.trans e3
  exact ⟨trivial, fa, tb, hw, Or.inr (Or.inl ⟨by omega, by omega, by omega, by omega, by omega, rfl, fun j => (bx_up_ne (by omega)).trans ((bx_up_ne (by omega)).trans ((bx_up_ne (by omega))))⟩)⟩
theorem rxfPARX_0_4 {X : (Nat → Int → Int) → Prop} {S0 : Nat → Int → Int} {ws : List Int} (hP : rxPPARX S0 ws) : bx_obE rxL X S0 rxC193.2.2.1 (rxIPARX S0 ws) (rxPSPARX S0 ws) 0 rxzPARX_0 rxePARX_0_4 := by
  intro S S_p r r_p hinv hX hin hsm_ hseg
  obtain ⟨I0, I1, h0_, hr_, b_, f_, d_⟩ := bx_cl (evs := [(1, (0, 481), (0, 5), .inr (0, (12, 0))), (0, (0, 481), (0, 5), .inr (0, (11, 0))), (1, (0, 480), (0, 1), .inr (0, (0, (-5)))), (0, (0, 482), (0, 0), .inr (0, (10, 0))), (1, (0, 480), (0, 0), .inr (0, (0, 0)))]) (fvs := [(1, (8, 1), (9, 0), (0, 0))]) hseg (by decide +kernel) (by decide +kernel)
  have hinv : rxIPARX_0 S0 ws S (r 8) (r 9) := hinv
  rw [← hr_ 8 (by decide), ← hr_ 9 (by decide)] at hinv
  obtain ⟨⟨l8, u8⟩, ⟨l9, u9⟩, ⟨l10, u10⟩, ⟨l11, u11⟩, ⟨l12, u12⟩, -⟩ := b_
  obtain ⟨f0, -⟩ := f_
  obtain ⟨T0, ⟨e1, ⟨T2, ⟨e3, ⟨T4, w_, w4⟩⟩, w2⟩⟩, w0⟩ := d_
  subst w0
  subst w2
  subst w4
  subst w_
  have g := rxdPARX_0_4 hP hin hsm_ I0 I1 hinv l8 u8 l9 u9 l10 u10 l11 u11 l12 u12 f0 e3 e1
  refine ⟨bx_narP_ok (l := []) g.1, ?_⟩
  show rxPSPARX S0 ws (bx_up (bx_up (bx_up T4 480 (0) (0)) 480 (1) ((-5))) 481 (5) (r_p 12)) (some (bx_num r_p (.inr (0, (0, (-5))))))
  rw [bx_xv_ok h0_]
  exact g.2
theorem rxcPARX_1_0 {S0 : Nat → Int → Int} {ws : List Int} {S : Nat → Int → Int} {fa tb x i z x13 x14 : Int} (hP : rxPPARX S0 ws) (hin : bx_same rxL (bx_mdl rxC193.2.2.1) S0 S) (I0 : bx_Inv rxL S) (hinv : rxIPARX_1 S0 ws S fa tb x i z) (l8 : 0 ≤ fa) (u8 : fa ≤ 23) (l9 : 1 ≤ tb) (u9 : tb ≤ 24) (l10 : 0 ≤ x) (u10 : x ≤ 5) (l11 : 0 ≤ i) (u11 : i ≤ 35) (l12 : 0 ≤ z) (u12 : z ≤ 5) (l13 : 0 ≤ x13) (u13 : x13 ≤ 180) (l14 : 22 ≤ x14) (u14 : x14 ≤ 237) (f0 : x14 = x13 + 22 + i) (f1 : x13 = 36 * (x)) : (True) ∧ (True) ∧ rxIPARX_1 S0 ws (bx_up S 482 x14 ((-1))) fa tb x (i + 1) z ∧ rxmPARX_1 S0 ws (bx_up S 482 x14 ((-1))) fa tb x (i + 1) z < rxmPARX_1 S0 ws S fa tb x i z := by
  obtain ⟨hw, hlt, hx, hz, h0, hc, ⟨h1, h2⟩, hf⟩ := hinv
  refine ⟨trivial, trivial, ⟨hw, hlt, hx, hz, (bx_up_ne (by omega)).trans h0, fun t a b => ?_, ⟨(bx_up_ne (by omega)).trans h1, (bx_up_ne (by omega)).trans h2⟩, fun j a b c d => (bx_up_ne (by omega)).trans (hf j a b c d)⟩, by unfold rxmPARX_1; omega⟩
  by_cases c : t = i
  · rw [show 22 + 36 * S0 482 0 + t = x14 by omega]
    exact bx_up_at
  · exact (bx_up_ne (by omega)).trans (hc t a (by omega))
theorem rxgPARX_1_0 {X : (Nat → Int → Int) → Prop} {S0 : Nat → Int → Int} {ws : List Int} (hP : rxPPARX S0 ws) : bx_obC rxL X S0 rxC193.2.2.1 (rxIPARX S0 ws) (rxmPARX S0 ws) 1 rxzPARX_1 rxoPARX_1_0 := by
  intro S S_p r r_p hinv hX hin hsm_ hseg
  obtain ⟨I0, I1, h0_, hr_, b_, f_, d_⟩ := bx_cl (evs := [(1, (0, 482), (14, 0), .inr (0, (0, (-1))))]) (fvs := [(5, (14, 0), (13, 22), (11, 0)), (4, (13, 0), (10, 0), (0, 36))]) hseg (by decide +kernel) (by decide +kernel)
  have hinv : rxIPARX_1 S0 ws S (r 8) (r 9) (r 10) (r 11) (r 12) := hinv
  rw [← hr_ 8 (by decide), ← hr_ 9 (by decide), ← hr_ 10 (by decide), ← hr_ 11 (by decide), ← hr_ 12 (by decide)] at hinv
  obtain ⟨⟨l8, u8⟩, ⟨l9, u9⟩, ⟨l10, u10⟩, ⟨l11, u11⟩, ⟨l12, u12⟩, ⟨l13, u13⟩, ⟨l14, u14⟩, -⟩ := b_
  obtain ⟨f0, f1, -⟩ := f_
  obtain ⟨T0, w_, w0⟩ := d_
  subst w0
  subst w_
  have g := rxcPARX_1_0 hP hin I0 hinv l8 u8 l9 u9 l10 u10 l11 u11 l12 u12 l13 u13 l14 u14 f0 f1
  refine ⟨bx_narP_ok (l := []) g.1, bx_nfP_ok h0_ (fvs := []) (by decide +kernel) g.2.1, ?_, ?_⟩
  · show rxIPARX_1 S0 ws (bx_up T0 482 (r_p 14) ((-1))) (bx_val [(0, 0), (0, 0), (0, 0), (0, 0), (0, 0), (0, 0), (0, 0), (0, 0), (8, 0), (9, 0), (10, 0), (11, 1), (12, 0)] r_p 8) (bx_val [(0, 0), (0, 0), (0, 0), (0, 0), (0, 0), (0, 0), (0, 0), (0, 0), (8, 0), (9, 0), (10, 0), (11, 1), (12, 0)] r_p 9) (bx_val [(0, 0), (0, 0), (0, 0), (0, 0), (0, 0), (0, 0), (0, 0), (0, 0), (8, 0), (9, 0), (10, 0), (11, 1), (12, 0)] r_p 10) (bx_val [(0, 0), (0, 0), (0, 0), (0, 0), (0, 0), (0, 0), (0, 0), (0, 0), (8, 0), (9, 0), (10, 0), (11, 1), (12, 0)] r_p 11) (bx_val [(0, 0), (0, 0), (0, 0), (0, 0), (0, 0), (0, 0), (0, 0), (0, 0), (8, 0), (9, 0), (10, 0), (11, 1), (12, 0)] r_p 12)
    rw [bx_val_x (n := 8) (e := (8, 0)) h0_ rfl, bx_val_x (n := 9) (e := (9, 0)) h0_ rfl, bx_val_x (n := 10) (e := (10, 0)) h0_ rfl, bx_val_x (n := 11) (e := (11, 1)) h0_ rfl, bx_val_x (n := 12) (e := (12, 0)) h0_ rfl]
    exact g.2.2.1
  · show rxmPARX_1 S0 ws (bx_up T0 482 (r_p 14) ((-1))) (bx_val [(0, 0), (0, 0), (0, 0), (0, 0), (0, 0), (0, 0), (0, 0), (0, 0), (8, 0), (9, 0), (10, 0), (11, 1), (12, 0)] r_p 8) (bx_val [(0, 0), (0, 0), (0, 0), (0, 0), (0, 0), (0, 0), (0, 0), (0, 0), (8, 0), (9, 0), (10, 0), (11, 1), (12, 0)] r_p 9) (bx_val [(0, 0), (0, 0), (0, 0), (0, 0), (0, 0), (0, 0), (0, 0), (0, 0), (8, 0), (9, 0), (10, 0), (11, 1), (12, 0)] r_p 10) (bx_val [(0, 0), (0, 0), (0, 0), (0, 0), (0, 0), (0, 0), (0, 0), (0, 0), (8, 0), (9, 0), (10, 0), (11, 1), (12, 0)] r_p 11) (bx_val [(0, 0), (0, 0), (0, 0), (0, 0), (0, 0), (0, 0), (0, 0), (0, 0), (8, 0), (9, 0), (10, 0), (11, 1), (12, 0)] r_p 12) < rxmPARX_1 S0 ws T0 (r 8) (r 9) (r 10) (r 11) (r 12)
    rw [bx_val_x (n := 8) (e := (8, 0)) h0_ rfl, bx_val_x (n := 9) (e := (9, 0)) h0_ rfl, bx_val_x (n := 10) (e := (10, 0)) h0_ rfl, bx_val_x (n := 11) (e := (11, 1)) h0_ rfl, bx_val_x (n := 12) (e := (12, 0)) h0_ rfl, ← hr_ 8 (by decide), ← hr_ 9 (by decide), ← hr_ 10 (by decide), ← hr_ 11 (by decide), ← hr_ 12 (by decide)]
    exact g.2.2.2
theorem rxdPARX_1_0 {S0 : Nat → Int → Int} {ws : List Int} {S : Nat → Int → Int} {fa tb x i z : Int} (hP : rxPPARX S0 ws) (hin : bx_same rxL (bx_mdl rxC193.2.2.1) S0 S) (hin2 : bx_same rxL (bx_mdl rxC193.2.2.1) S (bx_up (bx_up S 482 0 (z + 1)) 480 1 0)) (I0 : bx_Inv rxL S) (I1 : bx_Inv rxL (bx_up (bx_up S 482 0 (z + 1)) 480 1 0)) (hinv : rxIPARX_1 S0 ws S fa tb x i z) (l8 : 0 ≤ fa) (u8 : fa ≤ 23) (l9 : 1 ≤ tb) (u9 : tb ≤ 24) (l10 : 0 ≤ x) (u10 : x ≤ 5) (l11 : 36 ≤ i) (u11 : i ≤ 36) (l12 : 0 ≤ z) (u12 : z ≤ 5) : (True) ∧ rxPSPARX S0 ws (bx_up (bx_up S 482 0 (z + 1)) 480 1 0) (some x) := by
  obtain ⟨hw, hlt, hx, hz, h0, hc, ⟨h1, h2⟩, hf⟩ := hinv
  exact ⟨trivial, fa, tb, hw, Or.inr (Or.inr ⟨by omega, by omega, hlt, by omega, by omega, congrArg some hx, (bx_up_ne (by omega)).trans (bx_up_at.trans (by omega)), fun t a b => ((bx_up_ne (by omega)).trans ((bx_up_ne (by omega)))).trans (hc t a (by omega)), ⟨((bx_up_ne (by omega)).trans ((bx_up_ne (by omega)))).trans h1, ((bx_up_ne (by omega)).trans ((bx_up_ne (by omega)))).trans h2⟩, fun j a b c d => ((bx_up_ne (by omega)).trans ((bx_up_ne (by omega)))).trans (hf j a b c d)⟩)⟩
theorem rxfPARX_1_0 {X : (Nat → Int → Int) → Prop} {S0 : Nat → Int → Int} {ws : List Int} (hP : rxPPARX S0 ws) : bx_obE rxL X S0 rxC193.2.2.1 (rxIPARX S0 ws) (rxPSPARX S0 ws) 1 rxzPARX_1 rxePARX_1_0 := by
  intro S S_p r r_p hinv hX hin hsm_ hseg
  obtain ⟨I0, I1, h0_, hr_, b_, f_, d_⟩ := bx_cl (evs := [(1, (0, 480), (0, 1), .inr (0, (0, 0))), (1, (0, 482), (0, 0), .inr (0, (12, 1)))]) (fvs := []) hseg (by decide +kernel) (by decide +kernel)
  have hinv : rxIPARX_1 S0 ws S (r 8) (r 9) (r 10) (r 11) (r 12) := hinv
  rw [← hr_ 8 (by decide), ← hr_ 9 (by decide), ← hr_ 10 (by decide), ← hr_ 11 (by decide), ← hr_ 12 (by decide)] at hinv
  obtain ⟨⟨l8, u8⟩, ⟨l9, u9⟩, ⟨l10, u10⟩, ⟨l11, u11⟩, ⟨l12, u12⟩, -⟩ := b_
  obtain ⟨T0, ⟨T1, w_, w1⟩, w0⟩ := d_
  subst w0
  subst w1
  subst w_
  have g := rxdPARX_1_0 hP hin hsm_ I0 I1 hinv l8 u8 l9 u9 l10 u10 l11 u11 l12 u12
  refine ⟨bx_narP_ok (l := []) g.1, ?_⟩
  show rxPSPARX S0 ws (bx_up (bx_up T1 482 (0) (r_p 12 + 1)) 480 (1) (0)) (some (bx_num r_p (.inr (0, (10, 0)))))
  rw [bx_xv_ok h0_]
  exact g.2
theorem rxgCPARX {X : (Nat → Int → Int) → Prop} {S0 : Nat → Int → Int} {ws : List Int} (hP : rxPPARX S0 ws) : bx_allI (fun i q => rxUPARX q = true ∨ bx_allP (fun o => bx_obC rxL X S0 rxC193.2.2.1 (rxIPARX S0 ws) (rxmPARX S0 ws) i q.1 o) q.2.1) 0 rxYPARX := ⟨Or.inr ⟨rxgPARX_0_0 hP, trivial⟩, Or.inr ⟨rxgPARX_1_0 hP, trivial⟩, trivial⟩
theorem rxgEPARX {X : (Nat → Int → Int) → Prop} {S0 : Nat → Int → Int} {ws : List Int} (hP : rxPPARX S0 ws) : bx_allI (fun i q => rxUPARX q = true ∨ bx_allP (fun E => bx_obE rxL X S0 rxC193.2.2.1 (rxIPARX S0 ws) (rxPSPARX S0 ws) i q.1 E) q.2.2) 0 rxYPARX := ⟨Or.inr ⟨rxfPARX_0_0 hP, rxfPARX_0_1 hP, rxfPARX_0_2 hP, rxfPARX_0_3 hP, rxfPARX_0_4 hP, trivial⟩, Or.inr ⟨rxfPARX_1_0 hP, trivial⟩, trivial⟩
theorem rxQPARX {PX : State → Prop} {Dg : va_G} {A : Nat → Prop} {ad xa : Nat → Nat} {l : Launch} {X : (Nat → Int → Int) → Prop} (hPX : rx_PXOK rxNW A PX) (hsl : ∀ s : State, PX s → ∀ o idx n : Nat, rxSl o idx = some n → ∃ tx : String, vk_R (rxNm o) idx tx (ad n) s)
    (hX : ∀ S S_p : Nat → Int → Int, X S → bx_same rxL (bx_mdl rxC193.2.2.1) S S_p → X S_p)
    (ih : ∀ (j2 : Nat) (ct2 : bx_Ct) (M2 : rx_Mt), ct2 ∈ rxCnE j2 → ct2.2.2.2.1 + 1 ≤ rxC193.2.2.2.1 → rxT.2.2.2.2.2 j2 = some M2 → bx_Con rxG rxNW rxAO PX Dg rxL X vwCl A ad l M2 ct2) : bx_ConP rxG rxNW rxAO PX Dg rxL X vwCl A ad l rxM193 rxC193 rxPPARX rxPSPARX :=
  rxQof (xa := xa) (Cn := rxCnE) (f := 30000) (j := 193) (tab := rxYPARX) (us := rxUPARX) hPX hsl hX ih rfl rxYcPARX rxIPARX rxmPARX
    (fun S0 ws r I0 I ht0 ht as he he1 hX0 hI0 hP hs ha => by
      have e := he.symm.trans (show bx_ent0 rxNP rxC193.1 bx_I0 [] = some ([(0, 0), (0, 0), (0, 0), (0, 0), (0, 0), (0, 0), (0, 0), (0, 0), ((-2147483648), 2147483647), ((-2147483648), 2147483647)], [], [.inr (3, (0, 480)), .inr (0, (8, 0)), .inr (0, (9, 0))]) from rfl)
      cases e
      subst ha
      have h0 : r 0 = 0 := hs.1
      show rxIPARX_0 S0 _ S0 (r 8) (r 9)
      refine ⟨rfl, ?_⟩
      simp only [List.map_cons, List.map_nil, bx_xv_ok h0]
      rfl)
    (fun S0 ws hP => fun i q hq hus => absurd (show false = true from hus) Bool.false_ne_true) (fun S0 ws hP => rxgCPARX hP) (fun S0 ws hP => rxgEPARX hP)
