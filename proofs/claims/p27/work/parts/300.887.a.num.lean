noncomputable def rxCNUK : bx_Ct := ([(3, (1, 480, 0)), (2, (0, (-9223372036854775808), 9223372036854775807)), (2, (0, (-9223372036854775808), 9223372036854775807))], some (0, (0, (-2147483648), 2147483647)), [(12, 9), (12, 10), (12, 11), (12, 12), (12, 13), (12, 14)], 3, [])
noncomputable def rxINUK_0 (S0 : Nat → Int → Int) (ws : List Int) (S : Nat → Int → Int) (lo hi : Int) : Prop := S = S0 ∧ ws = [480, lo, hi]
noncomputable def rxmNUK_0 (S0 : Nat → Int → Int) (ws : List Int) (S : Nat → Int → Int) (lo hi : Int) : Nat := 100
noncomputable def rxzNUK_0 : rx_Z := ([(0, 0), (0, 0), (0, 0), (0, 0), (0, 0), (0, 0), (0, 0), (0, 0), ((-9223372036854775808), 9223372036854775807), ((-9223372036854775808), 9223372036854775807)], [], [], 0, 0, 0, [(0, .inr (3, (0, 480))), (1, .inr (1, (8, 0))), (3, .inr (1, (9, 0)))], [])
noncomputable def rxINUK_1 (S0 : Nat → Int → Int) (ws : List Int) (S : Nat → Int → Int) (lo hi x : Int) : Prop := S = S0 ∧ ws = [480, lo, hi] ∧ x = S0 480 12
noncomputable def rxmNUK_1 (S0 : Nat → Int → Int) (ws : List Int) (S : Nat → Int → Int) (lo hi x : Int) : Nat := 90
noncomputable def rxzNUK_1 : rx_Z := ([(0, 0), (0, 0), (0, 0), (0, 0), (0, 0), (0, 0), (0, 0), (0, 0), ((-9223372036854775808), 9223372036854775807), ((-9223372036854775808), 9223372036854775807), ((-9223372036854775808), 9223372036854775807)], [], [], 0, 0, 4, [(0, .inr (3, (0, 480))), (1, .inr (1, (8, 0))), (3, .inr (1, (9, 0)))], [.inr (1, (10, 0))])
noncomputable def rxINUK_2 (S0 : Nat → Int → Int) (ws : List Int) (S : Nat → Int → Int) (lo hi x v : Int) : Prop := S = S0 ∧ ws = [480, lo, hi] ∧ v = (Int32.ofInt (S0 480 12)).toInt
noncomputable def rxmNUK_2 (S0 : Nat → Int → Int) (ws : List Int) (S : Nat → Int → Int) (lo hi x v : Int) : Nat := 80
noncomputable def rxzNUK_2 : rx_Z := ([(0, 0), (0, 0), (0, 0), (0, 0), (0, 0), (0, 0), (0, 0), (0, 0), ((-9223372036854775808), 9223372036854775807), ((-9223372036854775808), 9223372036854775807), ((-9223372036854775808), 9223372036854775807), ((-2147483648), 2147483647)], [], [], 0, 0, 5, [(0, .inr (3, (0, 480))), (1, .inr (1, (8, 0))), (3, .inr (1, (9, 0)))], [.inr (0, (11, 0))])
noncomputable def rxINUK_3 (S0 : Nat → Int → Int) (ws : List Int) (S : Nat → Int → Int) (lo hi v is : Int) : Prop := S = S0 ∧ ws = [480, lo, hi] ∧ v = (Int32.ofInt (S0 480 12)).toInt ∧ ((is = 1 ∧ (S0 480 11 = 2 ∧ lo ≤ S0 480 12 ∧ S0 480 12 ≤ hi)) ∨ (is = 0 ∧ ¬ (S0 480 11 = 2 ∧ lo ≤ S0 480 12 ∧ S0 480 12 ≤ hi)))
noncomputable def rxmNUK_3 (S0 : Nat → Int → Int) (ws : List Int) (S : Nat → Int → Int) (lo hi v is : Int) : Nat := 70
noncomputable def rxzNUK_3 : rx_Z := ([(0, 0), (0, 0), (0, 0), (0, 0), (0, 0), (0, 0), (0, 0), (0, 0), ((-9223372036854775808), 9223372036854775807), ((-9223372036854775808), 9223372036854775807), ((-2147483648), 2147483647), (0, 1)], [], [], 0, 0, 33, [(0, .inr (3, (0, 480))), (1, .inr (1, (8, 0))), (3, .inr (1, (9, 0))), (5, .inr (0, (10, 0)))], [.inr (0, (11, 0)), .inr (3, (0, 480))])
noncomputable def rxINUK_4 (S0 : Nat → Int → Int) (ws : List Int) (S : Nat → Int → Int) (lo hi v is : Int) : Prop := (rxTk S ∧ rxSm S0 S ∧ S0 480 9 ≤ S 480 9) ∧ (∃ lo hi : Int, ws = [480, lo, hi] ∧ (rzDq S0 → S0 480 14 = 0 → (S 480 14 = 0 → (S0 480 11 = 2 ∧ lo ≤ S0 480 12 ∧ S0 480 12 ≤ hi) ∧ rzNw S0 S) ∧ (S 480 14 ≠ 0 → ¬ (S0 480 11 = 2 ∧ lo ≤ S0 480 12 ∧ S0 480 12 ≤ hi) ∧ S 480 13 = S0 480 9))) ∧ v = (Int32.ofInt (S0 480 12)).toInt
noncomputable def rxmNUK_4 (S0 : Nat → Int → Int) (ws : List Int) (S : Nat → Int → Int) (lo hi v is : Int) : Nat := 60
noncomputable def rxzNUK_4 : rx_Z := ([(0, 0), (0, 0), (0, 0), (0, 0), (0, 0), (0, 0), (0, 0), (0, 0), ((-9223372036854775808), 9223372036854775807), ((-9223372036854775808), 9223372036854775807), ((-2147483648), 2147483647), (0, 1)], [], [], 0, 0, 36, [(0, .inr (3, (0, 480))), (1, .inr (1, (8, 0))), (3, .inr (1, (9, 0))), (5, .inr (0, (10, 0)))], [])
noncomputable def rxoNUK_0_0 : bx_HO := (([(0, 0), (0, 0), (0, 0), (0, 0), (0, 0), (0, 0), (0, 0), (0, 0), ((-9223372036854775808), 9223372036854775807), ((-9223372036854775808), 9223372036854775807), ((-9223372036854775808), 9223372036854775807)], [], [(((0, 0), 1851192626986356799832820811818326617396875588472066220482363392000000), .inr (1, (10, 0))), (((0, 480), 12), .inr (1, (10, 0)))], 0, 0, 4, [(0, .inr (3, (0, 480))), (1, .inr (1, (8, 0))), (3, .inr (1, (9, 0)))], [.inr (1, (10, 0))]), [], [], [(0, 0), (0, 0), (0, 0), (0, 0), (0, 0), (0, 0), (0, 0), (0, 0), (8, 0), (9, 0), (10, 0)], 1)
noncomputable def rxoNUK_2_0 : bx_HO := (([(0, 0), (0, 0), (0, 0), (0, 0), (0, 0), (0, 0), (0, 0), (0, 0), ((-9223372036854775807), 9223372036854775807), ((-9223372036854775808), 9223372036854775807), ((-9223372036854775808), 9223372036854775807), ((-2147483648), 2147483647), (2, 2), ((-9223372036854775808), 9223372036854775806)], [(0, (13, 0), (8, 0))], [(((0, 0), 1851192626986356799832820811818326617396875588472066220482363392000000), .inr (1, (13, 0))), (((0, 480), 12), .inr (1, (13, 0))), (((0, 0), 1851192626986356799632114105031551009123054124018230966928539648000000), .inr (0, (12, 0))), (((0, 480), 11), .inr (0, (12, 0)))], 0, 0, 33, [(5, .inr (0, (11, 0))), (0, .inr (3, (0, 480))), (1, .inr (1, (8, 0))), (3, .inr (1, (9, 0)))], [.inr (0, (0, 0)), .inr (3, (0, 480))]), [], [], [(0, 0), (0, 0), (0, 0), (0, 0), (0, 0), (0, 0), (0, 0), (0, 0), (8, 0), (9, 0), (11, 0), (0, 0)], 3)
noncomputable def rxoNUK_2_1 : bx_HO := (([(0, 0), (0, 0), (0, 0), (0, 0), (0, 0), (0, 0), (0, 0), (0, 0), ((-9223372036854775808), 9223372036854775807), ((-9223372036854775808), 9223372036854775806), ((-9223372036854775808), 9223372036854775807), ((-2147483648), 2147483647), (2, 2), ((-9223372036854775807), 9223372036854775807)], [(0, (9, 0), (13, 0)), (1, (8, 0), (13, 0))], [(((0, 0), 1851192626986356799832820811818326617396875588472066220482363392000000), .inr (1, (13, 0))), (((0, 480), 12), .inr (1, (13, 0))), (((0, 0), 1851192626986356799632114105031551009123054124018230966928539648000000), .inr (0, (12, 0))), (((0, 480), 11), .inr (0, (12, 0)))], 0, 0, 33, [(5, .inr (0, (11, 0))), (0, .inr (3, (0, 480))), (1, .inr (1, (8, 0))), (3, .inr (1, (9, 0)))], [.inr (0, (0, 0)), .inr (3, (0, 480))]), [], [], [(0, 0), (0, 0), (0, 0), (0, 0), (0, 0), (0, 0), (0, 0), (0, 0), (8, 0), (9, 0), (11, 0), (0, 0)], 3)
noncomputable def rxoNUK_2_2 : bx_HO := (([(0, 0), (0, 0), (0, 0), (0, 0), (0, 0), (0, 0), (0, 0), (0, 0), ((-9223372036854775808), 9223372036854775807), ((-9223372036854775808), 9223372036854775807), ((-9223372036854775808), 9223372036854775807), ((-2147483648), 2147483647), (2, 2), ((-9223372036854775808), 9223372036854775807)], [(1, (13, 0), (9, 0)), (1, (8, 0), (13, 0))], [(((0, 0), 1851192626986356799832820811818326617396875588472066220482363392000000), .inr (1, (13, 0))), (((0, 480), 12), .inr (1, (13, 0))), (((0, 0), 1851192626986356799632114105031551009123054124018230966928539648000000), .inr (0, (12, 0))), (((0, 480), 11), .inr (0, (12, 0)))], 0, 0, 33, [(5, .inr (0, (11, 0))), (0, .inr (3, (0, 480))), (1, .inr (1, (8, 0))), (3, .inr (1, (9, 0)))], [.inr (0, (0, 1)), .inr (3, (0, 480))]), [], [], [(0, 0), (0, 0), (0, 0), (0, 0), (0, 0), (0, 0), (0, 0), (0, 0), (8, 0), (9, 0), (11, 0), (0, 1)], 3)
noncomputable def rxoNUK_2_3 : bx_HO := (([(0, 0), (0, 0), (0, 0), (0, 0), (0, 0), (0, 0), (0, 0), (0, 0), ((-9223372036854775808), 9223372036854775807), ((-9223372036854775808), 9223372036854775807), ((-9223372036854775808), 9223372036854775807), ((-2147483648), 2147483647), (0, 3)], [(3, (12, 0), (0, 2))], [(((0, 0), 1851192626986356799632114105031551009123054124018230966928539648000000), .inr (0, (12, 0))), (((0, 480), 11), .inr (0, (12, 0)))], 0, 0, 33, [(5, .inr (0, (11, 0))), (0, .inr (3, (0, 480))), (1, .inr (1, (8, 0))), (3, .inr (1, (9, 0)))], [.inr (0, (0, 0)), .inr (3, (0, 480))]), [], [], [(0, 0), (0, 0), (0, 0), (0, 0), (0, 0), (0, 0), (0, 0), (0, 0), (8, 0), (9, 0), (11, 0), (0, 0)], 3)
noncomputable def rxeNUK_4_0 : rx_End × List (Nat × Int × Int) := (([(0, 0), (0, 0), (0, 0), (0, 0), (0, 0), (0, 0), (0, 0), (0, 0), ((-9223372036854775808), 9223372036854775807), ((-9223372036854775808), 9223372036854775807), ((-2147483648), 2147483647), (0, 1)], [], [], some (.inr (0, (10, 0)))), [])
noncomputable def rxYNUK : List bx_HE := [(rxzNUK_0, [rxoNUK_0_0], []), (rxzNUK_1, [], []), (rxzNUK_2, [rxoNUK_2_0, rxoNUK_2_1, rxoNUK_2_2, rxoNUK_2_3], []), (rxzNUK_3, [], []), (rxzNUK_4, [], [rxeNUK_4_0])]
noncomputable def rxUNUK (q : bx_HE) : Bool := Nat.beq (rx_zpc q.1) 4 || Nat.beq (rx_zpc q.1) 33
noncomputable def rxYBNUK : bx_B := (rxV, rxNP, rxDmf, bx_mdH rxCNUK.2.2.1)
set_option maxRecDepth 100000 in
theorem rxYcNUK : bx_chkH rxYBNUK rxM293 rxCNUK rxYNUK (rxUNUK, fun cut z => rx_ex2 (rxCT rxYBNUK rxCnE) cut 30000 rxCNUK.2.2.2.1 293 z) = true := by decide +kernel
noncomputable def rxINUK (S0 : Nat → Int → Int) (ws : List Int) (i : Nat) : bx_SP := fun S r => match i with | 0 => rxINUK_0 S0 ws S (r 8) (r 9) | 1 => rxINUK_1 S0 ws S (r 8) (r 9) (r 10) | 2 => rxINUK_2 S0 ws S (r 8) (r 9) (r 10) (r 11) | 3 => rxINUK_3 S0 ws S (r 8) (r 9) (r 10) (r 11) | 4 => rxINUK_4 S0 ws S (r 8) (r 9) (r 10) (r 11) | _ => False
noncomputable def rxmNUK (S0 : Nat → Int → Int) (ws : List Int) (i : Nat) (S : Nat → Int → Int) (r : Nat → Int) : Nat := match i with | 0 => rxmNUK_0 S0 ws S (r 8) (r 9) | 1 => rxmNUK_1 S0 ws S (r 8) (r 9) (r 10) | 2 => rxmNUK_2 S0 ws S (r 8) (r 9) (r 10) (r 11) | 3 => rxmNUK_3 S0 ws S (r 8) (r 9) (r 10) (r 11) | 4 => rxmNUK_4 S0 ws S (r 8) (r 9) (r 10) (r 11) | _ => 0
noncomputable def rxPNUK (S0 : Nat → Int → Int) (ws : List Int) : Prop := rxTk S0
noncomputable def rxPSNUK (S0 : Nat → Int → Int) (ws : List Int) (S : Nat → Int → Int) (w : Option Int) : Prop := (rxTk S ∧ rxSm S0 S ∧ S0 480 9 ≤ S 480 9) ∧ (∃ lo hi : Int, ws = [480, lo, hi] ∧ (rzDq S0 → S0 480 14 = 0 → (S 480 14 = 0 → (S0 480 11 = 2 ∧ lo ≤ S0 480 12 ∧ S0 480 12 ≤ hi) ∧ rzNw S0 S) ∧ (S 480 14 ≠ 0 → ¬ (S0 480 11 = 2 ∧ lo ≤ S0 480 12 ∧ S0 480 12 ≤ hi) ∧ S 480 13 = S0 480 9))) ∧ w = some ((Int32.ofInt (S0 480 12)).toInt)
theorem rxbNUK_1 {S0 : Nat → Int → Int} {ws : List Int} {S : Nat → Int → Int} {lo hi x : Int} (hP : rxPNUK S0 ws) (hin : bx_same rxL (bx_mdl rxCNUK.2.2.1) S0 S) (I0 : bx_Inv rxL S) (hinv : rxINUK_1 S0 ws S lo hi x) (l8 : (-9223372036854775808) ≤ lo) (u8 : lo ≤ 9223372036854775807) (l9 : (-9223372036854775808) ≤ hi) (u9 : hi ≤ 9223372036854775807) (l10 : (-9223372036854775808) ≤ x) (u10 : x ≤ 9223372036854775807) : bx_opcU 45 x x ∧ ∀ v : Int, v = bx_opvU 45 x x → ((-2147483648) ≤ v ∧ v ≤ 2147483647) ∧ rxINUK_2 S0 ws S lo hi x v ∧ rxmNUK_2 S0 ws S lo hi x v < rxmNUK_1 S0 ws S lo hi x := by
  obtain ⟨h1, h2, h3⟩ := hinv
  refine ⟨trivial, fun v hv => ⟨?_, ⟨h1, h2, ?_⟩, by unfold rxmNUK_1 rxmNUK_2; omega⟩⟩
  · have b := rx_b32 (Int32.ofInt x)
    have e : v = (Int32.ofInt x).toInt := hv
    omega
  · rw [← h3]
    exact hv
theorem rxsNUK_1 {X : (Nat → Int → Int) → Prop} {S0 : Nat → Int → Int} {ws : List Int} (hP : rxPNUK S0 ws) : rx_obBU X S0 rxCNUK.2.2.1 (rxINUK S0 ws) (rxmNUK S0 ws) 1 2 rxzNUK_1 45 (10, 0) (10, 0) (-2147483648) 2147483647 := by
  intro S r hinv hXS I0 hin hs_ hf_
  have b_ := bx_bds_sat hs_
  have f_ := bx_fcl_ok hs_.1 hf_
  obtain ⟨⟨l8, u8⟩, ⟨l9, u9⟩, ⟨l10, u10⟩, -⟩ := b_
  have g := rxbNUK_1 hP hin I0 hinv l8 u8 l9 u9 l10 u10
  rw [bx_x_ok hs_.1]
  refine ⟨g.1, fun r_p hr h0_ hv => ?_⟩
  have g2 := g.2 (r_p 11) hv
  show _ ∧ rxINUK_2 S0 ws S (r_p 8) (r_p 9) (r_p 10) (r_p 11) ∧ rxmNUK_2 S0 ws S (r_p 8) (r_p 9) (r_p 10) (r_p 11) < _
  rw [hr 8 (by decide), hr 9 (by decide), hr 10 (by decide)]
  exact g2
theorem rxkNUK_3 {S0 : Nat → Int → Int} {ws : List Int} {S : Nat → Int → Int} {lo hi v is : Int} (hP : rxPNUK S0 ws) (hin : bx_same rxL (bx_mdl rxCNUK.2.2.1) S0 S) (I0 : bx_Inv rxL S) (hinv : rxINUK_3 S0 ws S lo hi v is) (l8 : (-9223372036854775808) ≤ lo) (u8 : lo ≤ 9223372036854775807) (l9 : (-9223372036854775808) ≤ hi) (u9 : hi ≤ 9223372036854775807) (l10 : (-2147483648) ≤ v) (u10 : v ≤ 2147483647) (l11 : 0 ≤ is) (u11 : is ≤ 1) : rxPMUW S [480, is] ∧ ∀ (S_p : Nat → Int → Int), rxPSMUW S [480, is] S_p none → bx_Inv rxL S_p → bx_same rxL (bx_mdl rxCMUW.2.2.1) S S_p → rxINUK_4 S0 ws S_p lo hi v is ∧ rxmNUK_4 S0 ws S_p lo hi v is < rxmNUK_3 S0 ws S lo hi v is := by
  obtain ⟨hS, hw, hv, hc⟩ := hinv
  subst hS
  have hT : rxTk S := hP
  have t1 := hT.2.1
  refine ⟨hT, fun S_p hq I1 hsm => ⟨⟨⟨hq.2.1.2.1, rxSm_of hsm (by decide +kernel), ?_⟩, ⟨lo, hi, hw, fun hD h14 => ?_⟩, hv⟩, by unfold rxmNUK_3 rxmNUK_4; omega⟩⟩
  · obtain ⟨-, -, is_p, hw2, hc2⟩ := hq.2.1
    omega
  · have g := hq.2.2.1 h14 hD
    obtain ⟨-, -, is2, hw2, hc2⟩ := hq.2.1
    have he : is = is2 := Option.some.inj (congrArg (fun l : List Int => l[1]?) hw2)
    refine ⟨fun z => ⟨?_, g.1 z⟩, fun z => ⟨?_, g.2 z⟩⟩
    · rcases hc with v | v
      · exact v.2
      · omega
    · rcases hc with v | v
      · omega
      · exact v.2
theorem rxsNUK_3 {X : (Nat → Int → Int) → Prop} {S0 : Nat → Int → Int} {ws : List Int} (hP : rxPNUK S0 ws) : rx_obK X S0 rxCNUK.2.2.1 rxCMUW.2.2.1 (rxINUK S0 ws) (rxmNUK S0 ws) 3 4 rxzNUK_3 rxzNUK_4 [.inr (3, (0, 480)), .inr (0, (11, 0))] none rxPMUW rxPSMUW := by
  intro S r hinv hXS I0 hin hs_ hf_
  have b_ := bx_bds_sat hs_
  have f_ := bx_fcl_ok hs_.1 hf_
  obtain ⟨⟨l8, u8⟩, ⟨l9, u9⟩, ⟨l10, u10⟩, ⟨l11, u11⟩, -⟩ := b_
  have g := rxkNUK_3 hP hin I0 hinv l8 u8 l9 u9 l10 u10 l11 u11
  have ea : List.map (bx_num r) [.inr (3, (0, 480)), .inr (0, (11, 0))] = [480, (r 11)] := by
    simp only [List.map_cons, List.map_nil, bx_xv_ok hs_.1]
    rfl
  rw [ea]
  refine ⟨g.1, fun S_p w r_p hPS hX_p I1 hsm hr hw hs_p => ?_⟩
  have hw : w = none := hPS.1
  subst hw
  have g2 := g.2 S_p hPS I1 hsm
  show rxINUK_4 S0 ws S_p (r_p 8) (r_p 9) (r_p 10) (r_p 11) ∧ rxmNUK_4 S0 ws S_p (r_p 8) (r_p 9) (r_p 10) (r_p 11) < _
  rw [hr 8 (by decide), hr 9 (by decide), hr 10 (by decide), hr 11 (by decide)]
  exact g2
theorem rxcNUK_0_0 {S0 : Nat → Int → Int} {ws : List Int} {S : Nat → Int → Int} {lo hi x10 : Int} (hP : rxPNUK S0 ws) (hin : bx_same rxL (bx_mdl rxCNUK.2.2.1) S0 S) (I0 : bx_Inv rxL S) (hinv : rxINUK_0 S0 ws S lo hi) (l8 : (-9223372036854775808) ≤ lo) (u8 : lo ≤ 9223372036854775807) (l9 : (-9223372036854775808) ≤ hi) (u9 : hi ≤ 9223372036854775807) (l10 : (-9223372036854775808) ≤ x10) (u10 : x10 ≤ 9223372036854775807) (e0 : S 480 12 = x10) : (True) ∧ (True) ∧ rxINUK_1 S0 ws S lo hi x10 ∧ rxmNUK_1 S0 ws S lo hi x10 < rxmNUK_0 S0 ws S lo hi := by
  obtain ⟨rfl, hw⟩ := hinv
  exact ⟨trivial, trivial, ⟨rfl, hw, e0.symm⟩, by unfold rxmNUK_0 rxmNUK_1; omega⟩
theorem rxgNUK_0_0 {X : (Nat → Int → Int) → Prop} {S0 : Nat → Int → Int} {ws : List Int} (hP : rxPNUK S0 ws) : bx_obC rxL X S0 rxCNUK.2.2.1 (rxINUK S0 ws) (rxmNUK S0 ws) 0 rxzNUK_0 rxoNUK_0_0 := by
  intro S S_p r r_p hinv hX hin hsm_ hseg
  obtain ⟨I0, I1, h0_, hr_, b_, f_, d_⟩ := bx_cl (evs := [(0, (0, 480), (0, 12), .inr (1, (10, 0)))]) (fvs := []) hseg (by decide +kernel) (by decide +kernel)
  have hinv : rxINUK_0 S0 ws S (r 8) (r 9) := hinv
  rw [← hr_ 8 (by decide), ← hr_ 9 (by decide)] at hinv
  obtain ⟨⟨l8, u8⟩, ⟨l9, u9⟩, ⟨l10, u10⟩, -⟩ := b_
  obtain ⟨e0, w_⟩ := d_
  subst w_
  have g := rxcNUK_0_0 hP hin I0 hinv l8 u8 l9 u9 l10 u10 e0
  refine ⟨bx_narP_ok (l := []) g.1, bx_nfP_ok h0_ (fvs := []) (by decide +kernel) g.2.1, ?_, ?_⟩
  · show rxINUK_1 S0 ws S_p (bx_val [(0, 0), (0, 0), (0, 0), (0, 0), (0, 0), (0, 0), (0, 0), (0, 0), (8, 0), (9, 0), (10, 0)] r_p 8) (bx_val [(0, 0), (0, 0), (0, 0), (0, 0), (0, 0), (0, 0), (0, 0), (0, 0), (8, 0), (9, 0), (10, 0)] r_p 9) (bx_val [(0, 0), (0, 0), (0, 0), (0, 0), (0, 0), (0, 0), (0, 0), (0, 0), (8, 0), (9, 0), (10, 0)] r_p 10)
    rw [bx_val_x (n := 8) (e := (8, 0)) h0_ rfl, bx_val_x (n := 9) (e := (9, 0)) h0_ rfl, bx_val_x (n := 10) (e := (10, 0)) h0_ rfl]
    exact g.2.2.1
  · show rxmNUK_1 S0 ws S_p (bx_val [(0, 0), (0, 0), (0, 0), (0, 0), (0, 0), (0, 0), (0, 0), (0, 0), (8, 0), (9, 0), (10, 0)] r_p 8) (bx_val [(0, 0), (0, 0), (0, 0), (0, 0), (0, 0), (0, 0), (0, 0), (0, 0), (8, 0), (9, 0), (10, 0)] r_p 9) (bx_val [(0, 0), (0, 0), (0, 0), (0, 0), (0, 0), (0, 0), (0, 0), (0, 0), (8, 0), (9, 0), (10, 0)] r_p 10) < rxmNUK_0 S0 ws S_p (r 8) (r 9)
    rw [bx_val_x (n := 8) (e := (8, 0)) h0_ rfl, bx_val_x (n := 9) (e := (9, 0)) h0_ rfl, bx_val_x (n := 10) (e := (10, 0)) h0_ rfl, ← hr_ 8 (by decide), ← hr_ 9 (by decide)]
    exact g.2.2.2
theorem rxcNUK_2_0 {S0 : Nat → Int → Int} {ws : List Int} {S : Nat → Int → Int} {lo hi x v x12 x13 : Int} (hP : rxPNUK S0 ws) (hin : bx_same rxL (bx_mdl rxCNUK.2.2.1) S0 S) (I0 : bx_Inv rxL S) (hinv : rxINUK_2 S0 ws S lo hi x v) (l8 : (-9223372036854775807) ≤ lo) (u8 : lo ≤ 9223372036854775807) (l9 : (-9223372036854775808) ≤ hi) (u9 : hi ≤ 9223372036854775807) (l10 : (-9223372036854775808) ≤ x) (u10 : x ≤ 9223372036854775807) (l11 : (-2147483648) ≤ v) (u11 : v ≤ 2147483647) (l12 : 2 ≤ x12) (u12 : x12 ≤ 2) (l13 : (-9223372036854775808) ≤ x13) (u13 : x13 ≤ 9223372036854775806) (f0 : x13 < lo) (e1 : S 480 11 = x12) (e0 : S 480 12 = x13) : (True) ∧ (True) ∧ rxINUK_3 S0 ws S lo hi v 0 ∧ rxmNUK_3 S0 ws S lo hi v 0 < rxmNUK_2 S0 ws S lo hi x v := by
  obtain ⟨rfl, hw, hv⟩ := hinv
  exact ⟨trivial, trivial, ⟨rfl, hw, hv, Or.inr ⟨rfl, fun g => by omega⟩⟩, by unfold rxmNUK_2 rxmNUK_3; omega⟩
theorem rxgNUK_2_0 {X : (Nat → Int → Int) → Prop} {S0 : Nat → Int → Int} {ws : List Int} (hP : rxPNUK S0 ws) : bx_obC rxL X S0 rxCNUK.2.2.1 (rxINUK S0 ws) (rxmNUK S0 ws) 2 rxzNUK_2 rxoNUK_2_0 := by
  intro S S_p r r_p hinv hX hin hsm_ hseg
  obtain ⟨I0, I1, h0_, hr_, b_, f_, d_⟩ := bx_cl (evs := [(0, (0, 480), (0, 12), .inr (1, (13, 0))), (0, (0, 480), (0, 11), .inr (0, (12, 0)))]) (fvs := [(0, (13, 0), (8, 0), (0, 0))]) hseg (by decide +kernel) (by decide +kernel)
  have hinv : rxINUK_2 S0 ws S (r 8) (r 9) (r 10) (r 11) := hinv
  rw [← hr_ 8 (by decide), ← hr_ 9 (by decide), ← hr_ 10 (by decide), ← hr_ 11 (by decide)] at hinv
  obtain ⟨⟨l8, u8⟩, ⟨l9, u9⟩, ⟨l10, u10⟩, ⟨l11, u11⟩, ⟨l12, u12⟩, ⟨l13, u13⟩, -⟩ := b_
  obtain ⟨f0, -⟩ := f_
  obtain ⟨e0, ⟨e1, w_⟩⟩ := d_
  subst w_
  have g := rxcNUK_2_0 hP hin I0 hinv l8 u8 l9 u9 l10 u10 l11 u11 l12 u12 l13 u13 f0 e1 e0
  refine ⟨bx_narP_ok (l := []) g.1, bx_nfP_ok h0_ (fvs := []) (by decide +kernel) g.2.1, ?_, ?_⟩
  · show rxINUK_3 S0 ws S_p (bx_val [(0, 0), (0, 0), (0, 0), (0, 0), (0, 0), (0, 0), (0, 0), (0, 0), (8, 0), (9, 0), (11, 0), (0, 0)] r_p 8) (bx_val [(0, 0), (0, 0), (0, 0), (0, 0), (0, 0), (0, 0), (0, 0), (0, 0), (8, 0), (9, 0), (11, 0), (0, 0)] r_p 9) (bx_val [(0, 0), (0, 0), (0, 0), (0, 0), (0, 0), (0, 0), (0, 0), (0, 0), (8, 0), (9, 0), (11, 0), (0, 0)] r_p 10) (bx_val [(0, 0), (0, 0), (0, 0), (0, 0), (0, 0), (0, 0), (0, 0), (0, 0), (8, 0), (9, 0), (11, 0), (0, 0)] r_p 11)
    rw [bx_val_x (n := 8) (e := (8, 0)) h0_ rfl, bx_val_x (n := 9) (e := (9, 0)) h0_ rfl, bx_val_x (n := 10) (e := (11, 0)) h0_ rfl, bx_val_x (n := 11) (e := (0, 0)) h0_ rfl]
    exact g.2.2.1
  · show rxmNUK_3 S0 ws S_p (bx_val [(0, 0), (0, 0), (0, 0), (0, 0), (0, 0), (0, 0), (0, 0), (0, 0), (8, 0), (9, 0), (11, 0), (0, 0)] r_p 8) (bx_val [(0, 0), (0, 0), (0, 0), (0, 0), (0, 0), (0, 0), (0, 0), (0, 0), (8, 0), (9, 0), (11, 0), (0, 0)] r_p 9) (bx_val [(0, 0), (0, 0), (0, 0), (0, 0), (0, 0), (0, 0), (0, 0), (0, 0), (8, 0), (9, 0), (11, 0), (0, 0)] r_p 10) (bx_val [(0, 0), (0, 0), (0, 0), (0, 0), (0, 0), (0, 0), (0, 0), (0, 0), (8, 0), (9, 0), (11, 0), (0, 0)] r_p 11) < rxmNUK_2 S0 ws S_p (r 8) (r 9) (r 10) (r 11)
    rw [bx_val_x (n := 8) (e := (8, 0)) h0_ rfl, bx_val_x (n := 9) (e := (9, 0)) h0_ rfl, bx_val_x (n := 10) (e := (11, 0)) h0_ rfl, bx_val_x (n := 11) (e := (0, 0)) h0_ rfl, ← hr_ 8 (by decide), ← hr_ 9 (by decide), ← hr_ 10 (by decide), ← hr_ 11 (by decide)]
    exact g.2.2.2
theorem rxcNUK_2_1 {S0 : Nat → Int → Int} {ws : List Int} {S : Nat → Int → Int} {lo hi x v x12 x13 : Int} (hP : rxPNUK S0 ws) (hin : bx_same rxL (bx_mdl rxCNUK.2.2.1) S0 S) (I0 : bx_Inv rxL S) (hinv : rxINUK_2 S0 ws S lo hi x v) (l8 : (-9223372036854775808) ≤ lo) (u8 : lo ≤ 9223372036854775807) (l9 : (-9223372036854775808) ≤ hi) (u9 : hi ≤ 9223372036854775806) (l10 : (-9223372036854775808) ≤ x) (u10 : x ≤ 9223372036854775807) (l11 : (-2147483648) ≤ v) (u11 : v ≤ 2147483647) (l12 : 2 ≤ x12) (u12 : x12 ≤ 2) (l13 : (-9223372036854775807) ≤ x13) (u13 : x13 ≤ 9223372036854775807) (f0 : hi < x13) (f1 : lo ≤ x13) (e1 : S 480 11 = x12) (e0 : S 480 12 = x13) : (True) ∧ (True) ∧ rxINUK_3 S0 ws S lo hi v 0 ∧ rxmNUK_3 S0 ws S lo hi v 0 < rxmNUK_2 S0 ws S lo hi x v := by
  obtain ⟨rfl, hw, hv⟩ := hinv
  exact ⟨trivial, trivial, ⟨rfl, hw, hv, Or.inr ⟨rfl, fun g => by omega⟩⟩, by unfold rxmNUK_2 rxmNUK_3; omega⟩
theorem rxgNUK_2_1 {X : (Nat → Int → Int) → Prop} {S0 : Nat → Int → Int} {ws : List Int} (hP : rxPNUK S0 ws) : bx_obC rxL X S0 rxCNUK.2.2.1 (rxINUK S0 ws) (rxmNUK S0 ws) 2 rxzNUK_2 rxoNUK_2_1 := by
  intro S S_p r r_p hinv hX hin hsm_ hseg
  obtain ⟨I0, I1, h0_, hr_, b_, f_, d_⟩ := bx_cl (evs := [(0, (0, 480), (0, 12), .inr (1, (13, 0))), (0, (0, 480), (0, 11), .inr (0, (12, 0)))]) (fvs := [(0, (9, 0), (13, 0), (0, 0)), (1, (8, 0), (13, 0), (0, 0))]) hseg (by decide +kernel) (by decide +kernel)
  have hinv : rxINUK_2 S0 ws S (r 8) (r 9) (r 10) (r 11) := hinv
  rw [← hr_ 8 (by decide), ← hr_ 9 (by decide), ← hr_ 10 (by decide), ← hr_ 11 (by decide)] at hinv
  obtain ⟨⟨l8, u8⟩, ⟨l9, u9⟩, ⟨l10, u10⟩, ⟨l11, u11⟩, ⟨l12, u12⟩, ⟨l13, u13⟩, -⟩ := b_
  obtain ⟨f0, f1, -⟩ := f_
  obtain ⟨e0, ⟨e1, w_⟩⟩ := d_
  subst w_
  have g := rxcNUK_2_1 hP hin I0 hinv l8 u8 l9 u9 l10 u10 l11 u11 l12 u12 l13 u13 f0 f1 e1 e0
  refine ⟨bx_narP_ok (l := []) g.1, bx_nfP_ok h0_ (fvs := []) (by decide +kernel) g.2.1, ?_, ?_⟩
  · show rxINUK_3 S0 ws S_p (bx_val [(0, 0), (0, 0), (0, 0), (0, 0), (0, 0), (0, 0), (0, 0), (0, 0), (8, 0), (9, 0), (11, 0), (0, 0)] r_p 8) (bx_val [(0, 0), (0, 0), (0, 0), (0, 0), (0, 0), (0, 0), (0, 0), (0, 0), (8, 0), (9, 0), (11, 0), (0, 0)] r_p 9) (bx_val [(0, 0), (0, 0), (0, 0), (0, 0), (0, 0), (0, 0), (0, 0), (0, 0), (8, 0), (9, 0), (11, 0), (0, 0)] r_p 10) (bx_val [(0, 0), (0, 0), (0, 0), (0, 0), (0, 0), (0, 0), (0, 0), (0, 0), (8, 0), (9, 0), (11, 0), (0, 0)] r_p 11)
    rw [bx_val_x (n := 8) (e := (8, 0)) h0_ rfl, bx_val_x (n := 9) (e := (9, 0)) h0_ rfl, bx_val_x (n := 10) (e := (11, 0)) h0_ rfl, bx_val_x (n := 11) (e := (0, 0)) h0_ rfl]
    exact g.2.2.1
  · show rxmNUK_3 S0 ws S_p (bx_val [(0, 0), (0, 0), (0, 0), (0, 0), (0, 0), (0, 0), (0, 0), (0, 0), (8, 0), (9, 0), (11, 0), (0, 0)] r_p 8) (bx_val [(0, 0), (0, 0), (0, 0), (0, 0), (0, 0), (0, 0), (0, 0), (0, 0), (8, 0), (9, 0), (11, 0), (0, 0)] r_p 9) (bx_val [(0, 0), (0, 0), (0, 0), (0, 0), (0, 0), (0, 0), (0, 0), (0, 0), (8, 0), (9, 0), (11, 0), (0, 0)] r_p 10) (bx_val [(0, 0), (0, 0), (0, 0), (0, 0), (0, 0), (0, 0), (0, 0), (0, 0), (8, 0), (9, 0), (11, 0), (0, 0)] r_p 11) < rxmNUK_2 S0 ws S_p (r 8) (r 9) (r 10) (r 11)
    rw [bx_val_x (n := 8) (e := (8, 0)) h0_ rfl, bx_val_x (n := 9) (e := (9, 0)) h0_ rfl, bx_val_x (n := 10) (e := (11, 0)) h0_ rfl, bx_val_x (n := 11) (e := (0, 0)) h0_ rfl, ← hr_ 8 (by decide), ← hr_ 9 (by decide), ← hr_ 10 (by decide), ← hr_ 11 (by decide)]
    exact g.2.2.2
theorem rxcNUK_2_2 {S0 : Nat → Int → Int} {ws : List Int} {S : Nat → Int → Int} {lo hi x v x12 x13 : Int} (hP : rxPNUK S0 ws) (hin : bx_same rxL (bx_mdl rxCNUK.2.2.1) S0 S) (I0 : bx_Inv rxL S) (hinv : rxINUK_2 S0 ws S lo hi x v) (l8 : (-9223372036854775808) ≤ lo) (u8 : lo ≤ 9223372036854775807) (l9 : (-9223372036854775808) ≤ hi) (u9 : hi ≤ 9223372036854775807) (l10 : (-9223372036854775808) ≤ x) (u10 : x ≤ 9223372036854775807) (l11 : (-2147483648) ≤ v) (u11 : v ≤ 2147483647) (l12 : 2 ≤ x12) (u12 : x12 ≤ 2) (l13 : (-9223372036854775808) ≤ x13) (u13 : x13 ≤ 9223372036854775807) (f0 : x13 ≤ hi) (f1 : lo ≤ x13) (e1 : S 480 11 = x12) (e0 : S 480 12 = x13) : (True) ∧ (True) ∧ rxINUK_3 S0 ws S lo hi v 1 ∧ rxmNUK_3 S0 ws S lo hi v 1 < rxmNUK_2 S0 ws S lo hi x v := by
  obtain ⟨rfl, hw, hv⟩ := hinv
  exact ⟨trivial, trivial, ⟨rfl, hw, hv, Or.inl ⟨rfl, by omega, by omega, by omega⟩⟩, by unfold rxmNUK_2 rxmNUK_3; omega⟩
theorem rxgNUK_2_2 {X : (Nat → Int → Int) → Prop} {S0 : Nat → Int → Int} {ws : List Int} (hP : rxPNUK S0 ws) : bx_obC rxL X S0 rxCNUK.2.2.1 (rxINUK S0 ws) (rxmNUK S0 ws) 2 rxzNUK_2 rxoNUK_2_2 := by
  intro S S_p r r_p hinv hX hin hsm_ hseg
  obtain ⟨I0, I1, h0_, hr_, b_, f_, d_⟩ := bx_cl (evs := [(0, (0, 480), (0, 12), .inr (1, (13, 0))), (0, (0, 480), (0, 11), .inr (0, (12, 0)))]) (fvs := [(1, (13, 0), (9, 0), (0, 0)), (1, (8, 0), (13, 0), (0, 0))]) hseg (by decide +kernel) (by decide +kernel)
  have hinv : rxINUK_2 S0 ws S (r 8) (r 9) (r 10) (r 11) := hinv
  rw [← hr_ 8 (by decide), ← hr_ 9 (by decide), ← hr_ 10 (by decide), ← hr_ 11 (by decide)] at hinv
  obtain ⟨⟨l8, u8⟩, ⟨l9, u9⟩, ⟨l10, u10⟩, ⟨l11, u11⟩, ⟨l12, u12⟩, ⟨l13, u13⟩, -⟩ := b_
  obtain ⟨f0, f1, -⟩ := f_
  obtain ⟨e0, ⟨e1, w_⟩⟩ := d_
  subst w_
  have g := rxcNUK_2_2 hP hin I0 hinv l8 u8 l9 u9 l10 u10 l11 u11 l12 u12 l13 u13 f0 f1 e1 e0
  refine ⟨bx_narP_ok (l := []) g.1, bx_nfP_ok h0_ (fvs := []) (by decide +kernel) g.2.1, ?_, ?_⟩
  · show rxINUK_3 S0 ws S_p (bx_val [(0, 0), (0, 0), (0, 0), (0, 0), (0, 0), (0, 0), (0, 0), (0, 0), (8, 0), (9, 0), (11, 0), (0, 1)] r_p 8) (bx_val [(0, 0), (0, 0), (0, 0), (0, 0), (0, 0), (0, 0), (0, 0), (0, 0), (8, 0), (9, 0), (11, 0), (0, 1)] r_p 9) (bx_val [(0, 0), (0, 0), (0, 0), (0, 0), (0, 0), (0, 0), (0, 0), (0, 0), (8, 0), (9, 0), (11, 0), (0, 1)] r_p 10) (bx_val [(0, 0), (0, 0), (0, 0), (0, 0), (0, 0), (0, 0), (0, 0), (0, 0), (8, 0), (9, 0), (11, 0), (0, 1)] r_p 11)
    rw [bx_val_x (n := 8) (e := (8, 0)) h0_ rfl, bx_val_x (n := 9) (e := (9, 0)) h0_ rfl, bx_val_x (n := 10) (e := (11, 0)) h0_ rfl, bx_val_x (n := 11) (e := (0, 1)) h0_ rfl]
    exact g.2.2.1
  · show rxmNUK_3 S0 ws S_p (bx_val [(0, 0), (0, 0), (0, 0), (0, 0), (0, 0), (0, 0), (0, 0), (0, 0), (8, 0), (9, 0), (11, 0), (0, 1)] r_p 8) (bx_val [(0, 0), (0, 0), (0, 0), (0, 0), (0, 0), (0, 0), (0, 0), (0, 0), (8, 0), (9, 0), (11, 0), (0, 1)] r_p 9) (bx_val [(0, 0), (0, 0), (0, 0), (0, 0), (0, 0), (0, 0), (0, 0), (0, 0), (8, 0), (9, 0), (11, 0), (0, 1)] r_p 10) (bx_val [(0, 0), (0, 0), (0, 0), (0, 0), (0, 0), (0, 0), (0, 0), (0, 0), (8, 0), (9, 0), (11, 0), (0, 1)] r_p 11) < rxmNUK_2 S0 ws S_p (r 8) (r 9) (r 10) (r 11)
    rw [bx_val_x (n := 8) (e := (8, 0)) h0_ rfl, bx_val_x (n := 9) (e := (9, 0)) h0_ rfl, bx_val_x (n := 10) (e := (11, 0)) h0_ rfl, bx_val_x (n := 11) (e := (0, 1)) h0_ rfl, ← hr_ 8 (by decide), ← hr_ 9 (by decide), ← hr_ 10 (by decide), ← hr_ 11 (by decide)]
    exact g.2.2.2
theorem rxcNUK_2_3 {S0 : Nat → Int → Int} {ws : List Int} {S : Nat → Int → Int} {lo hi x v x12 : Int} (hP : rxPNUK S0 ws) (hin : bx_same rxL (bx_mdl rxCNUK.2.2.1) S0 S) (I0 : bx_Inv rxL S) (hinv : rxINUK_2 S0 ws S lo hi x v) (l8 : (-9223372036854775808) ≤ lo) (u8 : lo ≤ 9223372036854775807) (l9 : (-9223372036854775808) ≤ hi) (u9 : hi ≤ 9223372036854775807) (l10 : (-9223372036854775808) ≤ x) (u10 : x ≤ 9223372036854775807) (l11 : (-2147483648) ≤ v) (u11 : v ≤ 2147483647) (l12 : 0 ≤ x12) (u12 : x12 ≤ 3) (f0 : x12 ≠ 2) (e0 : S 480 11 = x12) : (True) ∧ (True) ∧ rxINUK_3 S0 ws S lo hi v 0 ∧ rxmNUK_3 S0 ws S lo hi v 0 < rxmNUK_2 S0 ws S lo hi x v := by
  obtain ⟨rfl, hw, hv⟩ := hinv
  exact ⟨trivial, trivial, ⟨rfl, hw, hv, Or.inr ⟨rfl, fun g => by omega⟩⟩, by unfold rxmNUK_2 rxmNUK_3; omega⟩
theorem rxgNUK_2_3 {X : (Nat → Int → Int) → Prop} {S0 : Nat → Int → Int} {ws : List Int} (hP : rxPNUK S0 ws) : bx_obC rxL X S0 rxCNUK.2.2.1 (rxINUK S0 ws) (rxmNUK S0 ws) 2 rxzNUK_2 rxoNUK_2_3 := by
  intro S S_p r r_p hinv hX hin hsm_ hseg
  obtain ⟨I0, I1, h0_, hr_, b_, f_, d_⟩ := bx_cl (evs := [(0, (0, 480), (0, 11), .inr (0, (12, 0)))]) (fvs := [(3, (12, 0), (0, 2), (0, 0))]) hseg (by decide +kernel) (by decide +kernel)
  have hinv : rxINUK_2 S0 ws S (r 8) (r 9) (r 10) (r 11) := hinv
  rw [← hr_ 8 (by decide), ← hr_ 9 (by decide), ← hr_ 10 (by decide), ← hr_ 11 (by decide)] at hinv
  obtain ⟨⟨l8, u8⟩, ⟨l9, u9⟩, ⟨l10, u10⟩, ⟨l11, u11⟩, ⟨l12, u12⟩, -⟩ := b_
  obtain ⟨f0, -⟩ := f_
  obtain ⟨e0, w_⟩ := d_
  subst w_
  have g := rxcNUK_2_3 hP hin I0 hinv l8 u8 l9 u9 l10 u10 l11 u11 l12 u12 f0 e0
  refine ⟨bx_narP_ok (l := []) g.1, bx_nfP_ok h0_ (fvs := []) (by decide +kernel) g.2.1, ?_, ?_⟩
  · show rxINUK_3 S0 ws S_p (bx_val [(0, 0), (0, 0), (0, 0), (0, 0), (0, 0), (0, 0), (0, 0), (0, 0), (8, 0), (9, 0), (11, 0), (0, 0)] r_p 8) (bx_val [(0, 0), (0, 0), (0, 0), (0, 0), (0, 0), (0, 0), (0, 0), (0, 0), (8, 0), (9, 0), (11, 0), (0, 0)] r_p 9) (bx_val [(0, 0), (0, 0), (0, 0), (0, 0), (0, 0), (0, 0), (0, 0), (0, 0), (8, 0), (9, 0), (11, 0), (0, 0)] r_p 10) (bx_val [(0, 0), (0, 0), (0, 0), (0, 0), (0, 0), (0, 0), (0, 0), (0, 0), (8, 0), (9, 0), (11, 0), (0, 0)] r_p 11)
    rw [bx_val_x (n := 8) (e := (8, 0)) h0_ rfl, bx_val_x (n := 9) (e := (9, 0)) h0_ rfl, bx_val_x (n := 10) (e := (11, 0)) h0_ rfl, bx_val_x (n := 11) (e := (0, 0)) h0_ rfl]
    exact g.2.2.1
  · show rxmNUK_3 S0 ws S_p (bx_val [(0, 0), (0, 0), (0, 0), (0, 0), (0, 0), (0, 0), (0, 0), (0, 0), (8, 0), (9, 0), (11, 0), (0, 0)] r_p 8) (bx_val [(0, 0), (0, 0), (0, 0), (0, 0), (0, 0), (0, 0), (0, 0), (0, 0), (8, 0), (9, 0), (11, 0), (0, 0)] r_p 9) (bx_val [(0, 0), (0, 0), (0, 0), (0, 0), (0, 0), (0, 0), (0, 0), (0, 0), (8, 0), (9, 0), (11, 0), (0, 0)] r_p 10) (bx_val [(0, 0), (0, 0), (0, 0), (0, 0), (0, 0), (0, 0), (0, 0), (0, 0), (8, 0), (9, 0), (11, 0), (0, 0)] r_p 11) < rxmNUK_2 S0 ws S_p (r 8) (r 9) (r 10) (r 11)
    rw [bx_val_x (n := 8) (e := (8, 0)) h0_ rfl, bx_val_x (n := 9) (e := (9, 0)) h0_ rfl, bx_val_x (n := 10) (e := (11, 0)) h0_ rfl, bx_val_x (n := 11) (e := (0, 0)) h0_ rfl, ← hr_ 8 (by decide), ← hr_ 9 (by decide), ← hr_ 10 (by decide), ← hr_ 11 (by decide)]
    exact g.2.2.2
theorem rxdNUK_4_0 {S0 : Nat → Int → Int} {ws : List Int} {S : Nat → Int → Int} {lo hi v is : Int} (hP : rxPNUK S0 ws) (hin : bx_same rxL (bx_mdl rxCNUK.2.2.1) S0 S) (hin2 : bx_same rxL (bx_mdl rxCNUK.2.2.1) S S) (I0 : bx_Inv rxL S) (I1 : bx_Inv rxL S) (hinv : rxINUK_4 S0 ws S lo hi v is) (l8 : (-9223372036854775808) ≤ lo) (u8 : lo ≤ 9223372036854775807) (l9 : (-9223372036854775808) ≤ hi) (u9 : hi ≤ 9223372036854775807) (l10 : (-2147483648) ≤ v) (u10 : v ≤ 2147483647) (l11 : 0 ≤ is) (u11 : is ≤ 1) : (True) ∧ rxPSNUK S0 ws S (some v) := by
  obtain ⟨h1, h2, hv⟩ := hinv
  exact ⟨trivial, h1, h2, congrArg some hv⟩
theorem rxfNUK_4_0 {X : (Nat → Int → Int) → Prop} {S0 : Nat → Int → Int} {ws : List Int} (hP : rxPNUK S0 ws) : bx_obE rxL X S0 rxCNUK.2.2.1 (rxINUK S0 ws) (rxPSNUK S0 ws) 4 rxzNUK_4 rxeNUK_4_0 := by
  intro S S_p r r_p hinv hX hin hsm_ hseg
  obtain ⟨I0, I1, h0_, hr_, b_, f_, d_⟩ := bx_cl (evs := []) (fvs := []) hseg (by decide +kernel) (by decide +kernel)
  have hinv : rxINUK_4 S0 ws S (r 8) (r 9) (r 10) (r 11) := hinv
  rw [← hr_ 8 (by decide), ← hr_ 9 (by decide), ← hr_ 10 (by decide), ← hr_ 11 (by decide)] at hinv
  obtain ⟨⟨l8, u8⟩, ⟨l9, u9⟩, ⟨l10, u10⟩, ⟨l11, u11⟩, -⟩ := b_
  have w_ := d_
  subst w_
  have g := rxdNUK_4_0 hP hin hsm_ I0 I1 hinv l8 u8 l9 u9 l10 u10 l11 u11
  refine ⟨bx_narP_ok (l := []) g.1, ?_⟩
  show rxPSNUK S0 ws S_p (some (bx_num r_p (.inr (0, (10, 0)))))
  rw [bx_xv_ok h0_]
  exact g.2
theorem rxgCNUK {X : (Nat → Int → Int) → Prop} {S0 : Nat → Int → Int} {ws : List Int} (hP : rxPNUK S0 ws) : bx_allI (fun i q => rxUNUK q = true ∨ bx_allP (fun o => bx_obC rxL X S0 rxCNUK.2.2.1 (rxINUK S0 ws) (rxmNUK S0 ws) i q.1 o) q.2.1) 0 rxYNUK := ⟨Or.inr ⟨rxgNUK_0_0 hP, trivial⟩, Or.inl rfl, Or.inr ⟨rxgNUK_2_0 hP, rxgNUK_2_1 hP, rxgNUK_2_2 hP, rxgNUK_2_3 hP, trivial⟩, Or.inl rfl, Or.inr trivial, trivial⟩
theorem rxgENUK {X : (Nat → Int → Int) → Prop} {S0 : Nat → Int → Int} {ws : List Int} (hP : rxPNUK S0 ws) : bx_allI (fun i q => rxUNUK q = true ∨ bx_allP (fun E => bx_obE rxL X S0 rxCNUK.2.2.1 (rxINUK S0 ws) (rxPSNUK S0 ws) i q.1 E) q.2.2) 0 rxYNUK := ⟨Or.inr trivial, Or.inl rfl, Or.inr trivial, Or.inl rfl, Or.inr ⟨rxfNUK_4_0 hP, trivial⟩, trivial⟩
theorem rxuNUK {PX : State → Prop} {Dg : va_G} {A : Nat → Prop} {ad xa : Nat → Nat} {l : Launch} {X : (Nat → Int → Int) → Prop} (hPX : rx_PXOK rxNW A PX) (hX : ∀ S S1 : Nat → Int → Int, X S → bx_same rxL (bx_mdl rxCNUK.2.2.1) S S1 → X S1) (hQMUW : bx_ConP rxG rxNW rxAO PX Dg rxL X vwCl A ad l rxM265 rxCMUW rxPMUW rxPSMUW) {S0 : Nat → Int → Int} {ws : List Int} (hP : rxPNUK S0 ws) : ∀ (i : Nat) (q : bx_HE), rxYNUK[i]? = some q → rxUNUK q = true → ∀ {p : Program} {e : Env} {R : Room} {s : State} {m : MethodId} {args : Array Value} {below : List Frame} {meth : Method} {c : Code} {Q : State → Prop} {H0 : Heap}, rx_Fr rxG rxNW rxAO PX p s m args meth c rxM293 → (∀ q, H0.size ≤ q → A q) → H0 = s.heap → rxM293.2.2.2.2.2.2.1 ≤ R.cells → rxM293.2.2.2.2.2.2.2 ≤ R.slots → rxCNUK.2.2.2.1 ≤ R.frames → rxCNUK.2.2.2.1 * 40 ≤ R.locals → bx_Step p l e R s m args below meth c Q Dg rxL X vwCl A xa H0 ad rxM293 rxYNUK (rxINUK S0 ws) (rxmNUK S0 ws) S0 rxCNUK.2.2.1 i q := by
  intro i q hq hus p e R s m args below meth c Q H0 hF hA hH0 hmc hms hd hdl
  match i, hq with
  | 0, hq =>
    cases hq
    exact absurd (show false = true from hus) Bool.false_ne_true
  | 1, hq =>
    cases hq
    exact rx_stepBU (i_p := 2) (o := 45) (a := (10, 0)) (b := (10, 0)) (lo := (-2147483648)) (hi := 2147483647) (t := []) hF (⟨rfl, rfl⟩) (by decide +kernel) rfl rfl rfl rfl (rxsNUK_1 hP)
  | 2, hq =>
    cases hq
    exact absurd (show false = true from hus) Bool.false_ne_true
  | 3, hq =>
    cases hq
    exact rx_stepC (ins := .invokevirtual 284) (len := 3) (i_p := 4) (M_p := rxM265) (d := rxCNUK.2.2.2.1) (as := [.inr (3, (0, 480)), .inr (0, (11, 0))]) (t := []) (ct := rxCMUW) hPX hF rfl hA hH0 hmc hms hd hdl (by decide +kernel) rfl rfl (by decide +kernel) (by decide +kernel) hQMUW (by decide +kernel) rfl (Or.inl ⟨rfl, rfl, rfl⟩) (rxsNUK_3 hP)
  | 4, hq =>
    cases hq
    exact absurd (show false = true from hus) Bool.false_ne_true
  | n + 5, hq => cases hq
theorem rxQNUK {PX : State → Prop} {Dg : va_G} {A : Nat → Prop} {ad xa : Nat → Nat} {l : Launch} {X : (Nat → Int → Int) → Prop} (hPX : rx_PXOK rxNW A PX) (hsl : ∀ s : State, PX s → ∀ o idx n : Nat, rxSl o idx = some n → ∃ tx : String, vk_R (rxNm o) idx tx (ad n) s)
    (hX : ∀ S S_p : Nat → Int → Int, X S → bx_same rxL (bx_mdl rxCNUK.2.2.1) S S_p → X S_p)
    (ih : ∀ (j2 : Nat) (ct2 : bx_Ct) (M2 : rx_Mt), ct2 ∈ rxCnE j2 → ct2.2.2.2.1 + 1 ≤ rxCNUK.2.2.2.1 → rxT.2.2.2.2.2 j2 = some M2 → bx_Con rxG rxNW rxAO PX Dg rxL X vwCl A ad l M2 ct2) (hQMUW : bx_ConP rxG rxNW rxAO PX Dg rxL X vwCl A ad l rxM265 rxCMUW rxPMUW rxPSMUW) : bx_ConP rxG rxNW rxAO PX Dg rxL X vwCl A ad l rxM293 rxCNUK rxPNUK rxPSNUK :=
  rxQof (xa := xa) (Cn := rxCnE) (f := 30000) (j := 293) (tab := rxYNUK) (us := rxUNUK) hPX hsl hX ih rfl rxYcNUK rxINUK rxmNUK
    (fun S0 ws r I0 I ht0 ht as he he1 hX0 hI0 hP hs ha => by
      have e := he.symm.trans (show bx_ent0 rxNP rxCNUK.1 bx_I0 [] = some ([(0, 0), (0, 0), (0, 0), (0, 0), (0, 0), (0, 0), (0, 0), (0, 0), ((-9223372036854775808), 9223372036854775807), ((-9223372036854775808), 9223372036854775807)], [], [.inr (3, (0, 480)), .inr (1, (8, 0)), .inr (1, (9, 0))]) from rfl)
      cases e
      subst ha
      have h0 : r 0 = 0 := hs.1
      show rxINUK_0 S0 _ S0 (r 8) (r 9)
      refine ⟨rfl, ?_⟩
      simp only [List.map_cons, List.map_nil, bx_xv_ok h0]
      rfl)
    (fun S0 ws hP => rxuNUK (xa := xa) hPX hX hQMUW hP) (fun S0 ws hP => rxgCNUK hP) (fun S0 ws hP => rxgENUK hP)
noncomputable def rxCRPLK : bx_Ct := ([(3, (1, 480, 0))], some (0, (0, (-2147483648), 2147483647)), [(12, 9), (12, 10), (12, 11), (12, 12), (12, 13), (12, 14)], 4, [])
noncomputable def rxIRPLK_0 (S0 : Nat → Int → Int) (ws : List Int) (S : Nat → Int → Int) : Prop := rxIRPLW_0 S0 ws S ∧ True
noncomputable def rxmRPLK_0 (S0 : Nat → Int → Int) (ws : List Int) (S : Nat → Int → Int) : Nat := rxmRPLW_0 S0 ws S
noncomputable def rxzRPLK_0 : rx_Z := ([(0, 0), (0, 0), (0, 0), (0, 0), (0, 0), (0, 0), (0, 0), (0, 0)], [], [], 0, 0, 0, [(0, .inr (3, (0, 480)))], [])
noncomputable def rxIRPLK_1 (S0 : Nat → Int → Int) (ws : List Int) (S : Nat → Int → Int) : Prop := rxIRPLW_1 S0 ws S ∧ True
noncomputable def rxmRPLK_1 (S0 : Nat → Int → Int) (ws : List Int) (S : Nat → Int → Int) : Nat := rxmRPLW_1 S0 ws S
noncomputable def rxzRPLK_1 : rx_Z := ([(0, 0), (0, 0), (0, 0), (0, 0), (0, 0), (0, 0), (0, 0), (0, 0)], [], [], 0, 0, 11, [(0, .inr (3, (0, 480)))], [.inr (3, (0, 480))])
noncomputable def rxIRPLK_2 (S0 : Nat → Int → Int) (ws : List Int) (S : Nat → Int → Int) : Prop := rxIRPLW_2 S0 ws S ∧ (rzDq S0 → S0 480 14 = 0 → S 480 14 = 0 → rzIs (rzCut (S0 485)) (S0 480 8) rzW_any (S0 480 9) = true)
noncomputable def rxmRPLK_2 (S0 : Nat → Int → Int) (ws : List Int) (S : Nat → Int → Int) : Nat := rxmRPLW_2 S0 ws S
noncomputable def rxzRPLK_2 : rx_Z := ([(0, 0), (0, 0), (0, 0), (0, 0), (0, 0), (0, 0), (0, 0), (0, 0)], [], [], 0, 0, 14, [(0, .inr (3, (0, 480)))], [])
noncomputable def rxIRPLK_3 (S0 : Nat → Int → Int) (ws : List Int) (S : Nat → Int → Int) : Prop := rxIRPLW_3 S0 ws S ∧ True
noncomputable def rxmRPLK_3 (S0 : Nat → Int → Int) (ws : List Int) (S : Nat → Int → Int) : Nat := rxmRPLW_3 S0 ws S
noncomputable def rxzRPLK_3 : rx_Z := ([(0, 0), (0, 0), (0, 0), (0, 0), (0, 0), (0, 0), (0, 0), (0, 0)], [], [], 0, 0, 21, [(0, .inr (3, (0, 480)))], [.inr (1, (0, 5)), .inr (1, (0, 0)), .inr (3, (0, 480))])
noncomputable def rxIRPLK_4 (S0 : Nat → Int → Int) (ws : List Int) (S : Nat → Int → Int) (v : Int) : Prop := rxIRPLW_4 S0 ws S v ∧ (rzDq S0 → S0 480 14 = 0 → S 480 14 = 0 → v = rkPw (rzPv (rzCut (S0 485)) (S0 480 8) (S0 480 9)))
noncomputable def rxmRPLK_4 (S0 : Nat → Int → Int) (ws : List Int) (S : Nat → Int → Int) (v : Int) : Nat := rxmRPLW_4 S0 ws S v
noncomputable def rxzRPLK_4 : rx_Z := ([(0, 0), (0, 0), (0, 0), (0, 0), (0, 0), (0, 0), (0, 0), (0, 0), ((-2147483648), 2147483647)], [], [], 0, 0, 24, [(0, .inr (3, (0, 480)))], [.inr (0, (8, 0))])
noncomputable def rxoRPLK_0_0 : bx_HO := (([(0, 0), (0, 0), (0, 0), (0, 0), (0, 0), (0, 0), (0, 0), (0, 0), (0, 3)], [(3, (8, 0), (0, 1))], [(((0, 0), 1851192626986356799632114105031551009123054124018230966928539648000000), .inr (0, (8, 0))), (((0, 480), 11), .inr (0, (8, 0)))], 0, 0, 21, [(0, .inr (3, (0, 480)))], [.inr (1, (0, 5)), .inr (1, (0, 0)), .inr (3, (0, 480))]), [], [], [(0, 0), (0, 0), (0, 0), (0, 0), (0, 0), (0, 0), (0, 0), (0, 0)], 3)
noncomputable def rxoRPLK_0_1 : bx_HO := (([(0, 0), (0, 0), (0, 0), (0, 0), (0, 0), (0, 0), (0, 0), (0, 0), (1, 1), ((-9223372036854775808), 9223372036854775807)], [(3, (9, 0), (0, 1497))], [(((0, 0), 1851192626986356799832820811818326617396875588472066220482363392000000), .inr (1, (9, 0))), (((0, 480), 12), .inr (1, (9, 0))), (((0, 0), 1851192626986356799632114105031551009123054124018230966928539648000000), .inr (0, (8, 0))), (((0, 480), 11), .inr (0, (8, 0)))], 0, 0, 21, [(0, .inr (3, (0, 480)))], [.inr (1, (0, 5)), .inr (1, (0, 0)), .inr (3, (0, 480))]), [], [], [(0, 0), (0, 0), (0, 0), (0, 0), (0, 0), (0, 0), (0, 0), (0, 0)], 3)
noncomputable def rxoRPLK_0_2 : bx_HO := (([(0, 0), (0, 0), (0, 0), (0, 0), (0, 0), (0, 0), (0, 0), (0, 0), (1, 1), (1497, 1497)], [], [(((0, 0), 1851192626986356799832820811818326617396875588472066220482363392000000), .inr (1, (9, 0))), (((0, 480), 12), .inr (1, (9, 0))), (((0, 0), 1851192626986356799632114105031551009123054124018230966928539648000000), .inr (0, (8, 0))), (((0, 480), 11), .inr (0, (8, 0)))], 0, 0, 11, [(0, .inr (3, (0, 480)))], [.inr (3, (0, 480))]), [], [], [(0, 0), (0, 0), (0, 0), (0, 0), (0, 0), (0, 0), (0, 0), (0, 0)], 1)
noncomputable def rxeRPLK_2_0 : rx_End × List (Nat × Int × Int) := (([(0, 0), (0, 0), (0, 0), (0, 0), (0, 0), (0, 0), (0, 0), (0, 0)], [], [], some (.inr (0, (0, (-1))))), [])
noncomputable def rxeRPLK_4_0 : rx_End × List (Nat × Int × Int) := (([(0, 0), (0, 0), (0, 0), (0, 0), (0, 0), (0, 0), (0, 0), (0, 0), ((-2147483648), 2147483647)], [], [], some (.inr (0, (8, 0)))), [])
noncomputable def rxYRPLK : List bx_HE := [(rxzRPLK_0, [rxoRPLK_0_0, rxoRPLK_0_1, rxoRPLK_0_2], []), (rxzRPLK_1, [], []), (rxzRPLK_2, [], [rxeRPLK_2_0]), (rxzRPLK_3, [], []), (rxzRPLK_4, [], [rxeRPLK_4_0])]
noncomputable def rxURPLK (q : bx_HE) : Bool := Nat.beq (rx_zpc q.1) 11 || Nat.beq (rx_zpc q.1) 21
noncomputable def rxYBRPLK : bx_B := (rxV, rxNP, rxDmf, bx_mdH rxCRPLK.2.2.1)
set_option maxRecDepth 100000 in
theorem rxYcRPLK : bx_chkH rxYBRPLK rxM294 rxCRPLK rxYRPLK (rxURPLK, fun cut z => rx_ex2 (rxCT rxYBRPLK rxCnE) cut 30000 rxCRPLK.2.2.2.1 294 z) = true := by decide +kernel
noncomputable def rxIRPLK (S0 : Nat → Int → Int) (ws : List Int) (i : Nat) : bx_SP := fun S r => match i with | 0 => rxIRPLK_0 S0 ws S | 1 => rxIRPLK_1 S0 ws S | 2 => rxIRPLK_2 S0 ws S | 3 => rxIRPLK_3 S0 ws S | 4 => rxIRPLK_4 S0 ws S (r 8) | _ => False
noncomputable def rxmRPLK (S0 : Nat → Int → Int) (ws : List Int) (i : Nat) (S : Nat → Int → Int) (r : Nat → Int) : Nat := match i with | 0 => rxmRPLK_0 S0 ws S | 1 => rxmRPLK_1 S0 ws S | 2 => rxmRPLK_2 S0 ws S | 3 => rxmRPLK_3 S0 ws S | 4 => rxmRPLK_4 S0 ws S (r 8) | _ => 0
noncomputable def rxPRPLK (S0 : Nat → Int → Int) (ws : List Int) : Prop := rxPRPLW S0 ws
noncomputable def rxPSRPLK (S0 : Nat → Int → Int) (ws : List Int) (S : Nat → Int → Int) (w : Option Int) : Prop := rxPSRPLW S0 ws S w ∧ (rzDq S0 → S0 480 14 = 0 → S 480 14 = 0 → w = some (rkPw (rzPv (rzCut (S0 485)) (S0 480 8) (S0 480 9))))
theorem rxkRPLK_1 {S0 : Nat → Int → Int} {ws : List Int} {S : Nat → Int → Int} (hP : rxPRPLK S0 ws) (hin : bx_same rxL (bx_mdl rxCRPLK.2.2.1) S0 S) (I0 : bx_Inv rxL S) (hinv : rxIRPLK_1 S0 ws S)  : rxPNXX S [480] ∧ ∀ (S_p : Nat → Int → Int), rxPSNXX S [480] S_p none → bx_Inv rxL S_p → bx_same rxL (bx_mdl rxCNXX.2.2.1) S S_p → rxIRPLK_2 S0 ws S_p ∧ rxmRPLK_2 S0 ws S_p < rxmRPLK_1 S0 ws S := by
  obtain ⟨hI, hx⟩ := hinv
  have g_ := rxkRPLW_1 hP hin I0 hI
  exact ⟨g_.1, fun S_p hq I1 hsm => ⟨⟨(g_.2 S_p hq I1 hsm).1, (by
    have e : S = S0 := hI.1
    subst e
    intro hD _ _
    exact hI.2 hD)⟩, (g_.2 S_p hq I1 hsm).2⟩⟩
theorem rxsRPLK_1 {X : (Nat → Int → Int) → Prop} {S0 : Nat → Int → Int} {ws : List Int} (hP : rxPRPLK S0 ws) : rx_obK X S0 rxCRPLK.2.2.1 rxCNXX.2.2.1 (rxIRPLK S0 ws) (rxmRPLK S0 ws) 1 2 rxzRPLK_1 rxzRPLK_2 [.inr (3, (0, 480))] none rxPNXX rxPSNXX := by
  intro S r hinv hXS I0 hin hs_ hf_
  have b_ := bx_bds_sat hs_
  have f_ := bx_fcl_ok hs_.1 hf_
  have g := rxkRPLK_1 hP hin I0 hinv 
  have ea : List.map (bx_num r) [.inr (3, (0, 480))] = [480] := by
    simp only [List.map_cons, List.map_nil, bx_xv_ok hs_.1]
    rfl
  rw [ea]
  refine ⟨g.1, fun S_p w r_p hPS hX_p I1 hsm hr hw hs_p => ?_⟩
  have hw : w = none := hPS.1
  subst hw
  have g2 := g.2 S_p hPS I1 hsm
  show rxIRPLK_2 S0 ws S_p ∧ rxmRPLK_2 S0 ws S_p < _
  exact g2
theorem rxkRPLK_3 {S0 : Nat → Int → Int} {ws : List Int} {S : Nat → Int → Int} (hP : rxPRPLK S0 ws) (hin : bx_same rxL (bx_mdl rxCRPLK.2.2.1) S0 S) (I0 : bx_Inv rxL S) (hinv : rxIRPLK_3 S0 ws S)  : rxPNUK S [480, 0, 5] ∧ ∀ (S_p : Nat → Int → Int) (v : Int), (-2147483648) ≤ v → v ≤ 2147483647 → rxPSNUK S [480, 0, 5] S_p (some v) → bx_Inv rxL S_p → bx_same rxL (bx_mdl rxCNUK.2.2.1) S S_p → rxIRPLK_4 S0 ws S_p v ∧ rxmRPLK_4 S0 ws S_p v < rxmRPLK_3 S0 ws S := by
  obtain ⟨hI, hx⟩ := hinv
  have g_ := rxkRPLW_3 hP hin I0 hI
  exact ⟨g_.1, fun S_p v l_ u_ hq I1 hsm => ⟨⟨(g_.2 S_p v l_ u_ ⟨hq.1, hq.2.1⟩ I1 hsm).1, (by
    have e : S = S0 := hI.1
    subst e
    intro hD h14 z
    obtain ⟨-, ⟨lo, hi, hw, hc⟩, hv⟩ := hq
    have e1 : (0 : Int) = lo := Option.some.inj (congrArg (fun l : List Int => l[1]?) hw)
    have e2 : (5 : Int) = hi := Option.some.inj (congrArg (fun l : List Int => l[2]?) hw)
    subst e1
    subst e2
    obtain ⟨⟨c1, c2, c3⟩, -⟩ := (hc hD h14).1 z
    have q := rzDq_nm hD c1
    have q2 := q.2.1 (by omega)
    have ha := hI.2 hD
    have ev : v = S 480 12 := (Option.some.inj hv).trans (rx_i32 (by omega) (by omega))
    unfold rkPw rzPv
    rw [ha, if_neg (show ¬ (false = true) from Bool.false_ne_true), if_pos (show rzNo (rzCut (S 485)) (S 480 8) (S 480 9) ≤ 5 by omega), if_neg (show ¬ rzNo (rzCut (S 485)) (S 480 8) (S 480 9) = 6 by omega), q2]
    exact ev)⟩, (g_.2 S_p v l_ u_ ⟨hq.1, hq.2.1⟩ I1 hsm).2⟩⟩
theorem rxsRPLK_3 {X : (Nat → Int → Int) → Prop} {S0 : Nat → Int → Int} {ws : List Int} (hP : rxPRPLK S0 ws) : rx_obK X S0 rxCRPLK.2.2.1 rxCNUK.2.2.1 (rxIRPLK S0 ws) (rxmRPLK S0 ws) 3 4 rxzRPLK_3 rxzRPLK_4 [.inr (3, (0, 480)), .inr (1, (0, 0)), .inr (1, (0, 5))] (some 8) rxPNUK rxPSNUK := by
  intro S r hinv hXS I0 hin hs_ hf_
  have b_ := bx_bds_sat hs_
  have f_ := bx_fcl_ok hs_.1 hf_
  have g := rxkRPLK_3 hP hin I0 hinv 
  have ea : List.map (bx_num r) [.inr (3, (0, 480)), .inr (1, (0, 0)), .inr (1, (0, 5))] = [480, 0, 5] := by
    simp only [List.map_cons, List.map_nil, bx_xv_ok hs_.1]
    rfl
  rw [ea]
  refine ⟨g.1, fun S_p w r_p hPS hX_p I1 hsm hr hw hs_p => ?_⟩
  have hw := hw _ rfl
  subst hw
  have b_p := hs_p.2.2 8 _ _ rfl
  have g2 := g.2 S_p (r_p 8) b_p.1 b_p.2 hPS I1 hsm
  show rxIRPLK_4 S0 ws S_p (r_p 8) ∧ rxmRPLK_4 S0 ws S_p (r_p 8) < _
  exact g2
theorem rxcRPLK_0_0 {S0 : Nat → Int → Int} {ws : List Int} {S : Nat → Int → Int} {x8 : Int} (hP : rxPRPLK S0 ws) (hin : bx_same rxL (bx_mdl rxCRPLK.2.2.1) S0 S) (I0 : bx_Inv rxL S) (hinv : rxIRPLK_0 S0 ws S) (l8 : 0 ≤ x8) (u8 : x8 ≤ 3) (f0 : x8 ≠ 1) (e0 : S 480 11 = x8) : (True) ∧ (True) ∧ rxIRPLK_3 S0 ws S ∧ rxmRPLK_3 S0 ws S < rxmRPLK_0 S0 ws S := by
  obtain ⟨hI, hx⟩ := hinv
  obtain ⟨a_, b_, c_, d_⟩ := rxcRPLW_0_0 hP hin I0 hI l8 u8 f0 e0
  exact ⟨a_, b_, ⟨c_, trivial⟩, d_⟩
theorem rxgRPLK_0_0 {X : (Nat → Int → Int) → Prop} {S0 : Nat → Int → Int} {ws : List Int} (hP : rxPRPLK S0 ws) : bx_obC rxL X S0 rxCRPLK.2.2.1 (rxIRPLK S0 ws) (rxmRPLK S0 ws) 0 rxzRPLK_0 rxoRPLK_0_0 := by
  intro S S_p r r_p hinv hX hin hsm_ hseg
  obtain ⟨I0, I1, h0_, hr_, b_, f_, d_⟩ := bx_cl (evs := [(0, (0, 480), (0, 11), .inr (0, (8, 0)))]) (fvs := [(3, (8, 0), (0, 1), (0, 0))]) hseg (by decide +kernel) (by decide +kernel)
  have hinv : rxIRPLK_0 S0 ws S := hinv
  obtain ⟨⟨l8, u8⟩, -⟩ := b_
  obtain ⟨f0, -⟩ := f_
  obtain ⟨e0, w_⟩ := d_
  subst w_
  have g := rxcRPLK_0_0 hP hin I0 hinv l8 u8 f0 e0
  refine ⟨bx_narP_ok (l := []) g.1, bx_nfP_ok h0_ (fvs := []) (by decide +kernel) g.2.1, ?_, ?_⟩
  · show rxIRPLK_3 S0 ws S_p
    exact g.2.2.1
  · show rxmRPLK_3 S0 ws S_p < rxmRPLK_0 S0 ws S_p
    exact g.2.2.2
theorem rxcRPLK_0_1 {S0 : Nat → Int → Int} {ws : List Int} {S : Nat → Int → Int} {x8 x9 : Int} (hP : rxPRPLK S0 ws) (hin : bx_same rxL (bx_mdl rxCRPLK.2.2.1) S0 S) (I0 : bx_Inv rxL S) (hinv : rxIRPLK_0 S0 ws S) (l8 : 1 ≤ x8) (u8 : x8 ≤ 1) (l9 : (-9223372036854775808) ≤ x9) (u9 : x9 ≤ 9223372036854775807) (f0 : x9 ≠ 1497) (e1 : S 480 11 = x8) (e0 : S 480 12 = x9) : (True) ∧ (True) ∧ rxIRPLK_3 S0 ws S ∧ rxmRPLK_3 S0 ws S < rxmRPLK_0 S0 ws S := by
  obtain ⟨hI, hx⟩ := hinv
  obtain ⟨a_, b_, c_, d_⟩ := rxcRPLW_0_1 hP hin I0 hI l8 u8 l9 u9 f0 e1 e0
  exact ⟨a_, b_, ⟨c_, trivial⟩, d_⟩
theorem rxgRPLK_0_1 {X : (Nat → Int → Int) → Prop} {S0 : Nat → Int → Int} {ws : List Int} (hP : rxPRPLK S0 ws) : bx_obC rxL X S0 rxCRPLK.2.2.1 (rxIRPLK S0 ws) (rxmRPLK S0 ws) 0 rxzRPLK_0 rxoRPLK_0_1 := by
  intro S S_p r r_p hinv hX hin hsm_ hseg
  obtain ⟨I0, I1, h0_, hr_, b_, f_, d_⟩ := bx_cl (evs := [(0, (0, 480), (0, 12), .inr (1, (9, 0))), (0, (0, 480), (0, 11), .inr (0, (8, 0)))]) (fvs := [(3, (9, 0), (0, 1497), (0, 0))]) hseg (by decide +kernel) (by decide +kernel)
  have hinv : rxIRPLK_0 S0 ws S := hinv
  obtain ⟨⟨l8, u8⟩, ⟨l9, u9⟩, -⟩ := b_
  obtain ⟨f0, -⟩ := f_
  obtain ⟨e0, ⟨e1, w_⟩⟩ := d_
  subst w_
  have g := rxcRPLK_0_1 hP hin I0 hinv l8 u8 l9 u9 f0 e1 e0
  refine ⟨bx_narP_ok (l := []) g.1, bx_nfP_ok h0_ (fvs := []) (by decide +kernel) g.2.1, ?_, ?_⟩
  · show rxIRPLK_3 S0 ws S_p
    exact g.2.2.1
  · show rxmRPLK_3 S0 ws S_p < rxmRPLK_0 S0 ws S_p
    exact g.2.2.2
theorem rxcRPLK_0_2 {S0 : Nat → Int → Int} {ws : List Int} {S : Nat → Int → Int} {x8 x9 : Int} (hP : rxPRPLK S0 ws) (hin : bx_same rxL (bx_mdl rxCRPLK.2.2.1) S0 S) (I0 : bx_Inv rxL S) (hinv : rxIRPLK_0 S0 ws S) (l8 : 1 ≤ x8) (u8 : x8 ≤ 1) (l9 : 1497 ≤ x9) (u9 : x9 ≤ 1497) (e1 : S 480 11 = x8) (e0 : S 480 12 = x9) : (True) ∧ (True) ∧ rxIRPLK_1 S0 ws S ∧ rxmRPLK_1 S0 ws S < rxmRPLK_0 S0 ws S := by
  obtain ⟨hI, hx⟩ := hinv
  obtain ⟨a_, b_, c_, d_⟩ := rxcRPLW_0_2 hP hin I0 hI l8 u8 l9 u9 e1 e0
  exact ⟨a_, b_, ⟨c_, trivial⟩, d_⟩
theorem rxgRPLK_0_2 {X : (Nat → Int → Int) → Prop} {S0 : Nat → Int → Int} {ws : List Int} (hP : rxPRPLK S0 ws) : bx_obC rxL X S0 rxCRPLK.2.2.1 (rxIRPLK S0 ws) (rxmRPLK S0 ws) 0 rxzRPLK_0 rxoRPLK_0_2 := by
  intro S S_p r r_p hinv hX hin hsm_ hseg
  obtain ⟨I0, I1, h0_, hr_, b_, f_, d_⟩ := bx_cl (evs := [(0, (0, 480), (0, 12), .inr (1, (9, 0))), (0, (0, 480), (0, 11), .inr (0, (8, 0)))]) (fvs := []) hseg (by decide +kernel) (by decide +kernel)
  have hinv : rxIRPLK_0 S0 ws S := hinv
  obtain ⟨⟨l8, u8⟩, ⟨l9, u9⟩, -⟩ := b_
  obtain ⟨e0, ⟨e1, w_⟩⟩ := d_
  subst w_
  have g := rxcRPLK_0_2 hP hin I0 hinv l8 u8 l9 u9 e1 e0
  refine ⟨bx_narP_ok (l := []) g.1, bx_nfP_ok h0_ (fvs := []) (by decide +kernel) g.2.1, ?_, ?_⟩
  · show rxIRPLK_1 S0 ws S_p
    exact g.2.2.1
  · show rxmRPLK_1 S0 ws S_p < rxmRPLK_0 S0 ws S_p
    exact g.2.2.2
theorem rxdRPLK_2_0 {S0 : Nat → Int → Int} {ws : List Int} {S : Nat → Int → Int} (hP : rxPRPLK S0 ws) (hin : bx_same rxL (bx_mdl rxCRPLK.2.2.1) S0 S) (hin2 : bx_same rxL (bx_mdl rxCRPLK.2.2.1) S S) (I0 : bx_Inv rxL S) (I1 : bx_Inv rxL S) (hinv : rxIRPLK_2 S0 ws S)  : (True) ∧ rxPSRPLK S0 ws S (some ((-1))) := by
  obtain ⟨hI, hx⟩ := hinv
  obtain ⟨a_, c_⟩ := rxdRPLW_2_0 hP hin hin2 I0 I1 hI
  exact ⟨a_, c_, (fun hD h14 z => by
    have g := hx hD h14 z
    unfold rkPw rzPv
    rw [if_pos g]
    rfl)⟩
theorem rxfRPLK_2_0 {X : (Nat → Int → Int) → Prop} {S0 : Nat → Int → Int} {ws : List Int} (hP : rxPRPLK S0 ws) : bx_obE rxL X S0 rxCRPLK.2.2.1 (rxIRPLK S0 ws) (rxPSRPLK S0 ws) 2 rxzRPLK_2 rxeRPLK_2_0 := by
  intro S S_p r r_p hinv hX hin hsm_ hseg
  obtain ⟨I0, I1, h0_, hr_, b_, f_, d_⟩ := bx_cl (evs := []) (fvs := []) hseg (by decide +kernel) (by decide +kernel)
  have hinv : rxIRPLK_2 S0 ws S := hinv
  have w_ := d_
  subst w_
  have g := rxdRPLK_2_0 hP hin hsm_ I0 I1 hinv 
  refine ⟨bx_narP_ok (l := []) g.1, ?_⟩
  show rxPSRPLK S0 ws S_p (some (bx_num r_p (.inr (0, (0, (-1))))))
  rw [bx_xv_ok h0_]
  exact g.2
theorem rxdRPLK_4_0 {S0 : Nat → Int → Int} {ws : List Int} {S : Nat → Int → Int} {v : Int} (hP : rxPRPLK S0 ws) (hin : bx_same rxL (bx_mdl rxCRPLK.2.2.1) S0 S) (hin2 : bx_same rxL (bx_mdl rxCRPLK.2.2.1) S S) (I0 : bx_Inv rxL S) (I1 : bx_Inv rxL S) (hinv : rxIRPLK_4 S0 ws S v) (l8 : (-2147483648) ≤ v) (u8 : v ≤ 2147483647) : (True) ∧ rxPSRPLK S0 ws S (some v) := by
  obtain ⟨hI, hx⟩ := hinv
  obtain ⟨a_, c_⟩ := rxdRPLW_4_0 hP hin hin2 I0 I1 hI l8 u8
  exact ⟨a_, c_, (fun hD h14 z => congrArg some (hx hD h14 z))⟩
theorem rxfRPLK_4_0 {X : (Nat → Int → Int) → Prop} {S0 : Nat → Int → Int} {ws : List Int} (hP : rxPRPLK S0 ws) : bx_obE rxL X S0 rxCRPLK.2.2.1 (rxIRPLK S0 ws) (rxPSRPLK S0 ws) 4 rxzRPLK_4 rxeRPLK_4_0 := by
  intro S S_p r r_p hinv hX hin hsm_ hseg
  obtain ⟨I0, I1, h0_, hr_, b_, f_, d_⟩ := bx_cl (evs := []) (fvs := []) hseg (by decide +kernel) (by decide +kernel)
  have hinv : rxIRPLK_4 S0 ws S (r 8) := hinv
  rw [← hr_ 8 (by decide)] at hinv
  obtain ⟨⟨l8, u8⟩, -⟩ := b_
  have w_ := d_
  subst w_
  have g := rxdRPLK_4_0 hP hin hsm_ I0 I1 hinv l8 u8
  refine ⟨bx_narP_ok (l := []) g.1, ?_⟩
  show rxPSRPLK S0 ws S_p (some (bx_num r_p (.inr (0, (8, 0)))))
  rw [bx_xv_ok h0_]
  exact g.2
theorem rxgCRPLK {X : (Nat → Int → Int) → Prop} {S0 : Nat → Int → Int} {ws : List Int} (hP : rxPRPLK S0 ws) : bx_allI (fun i q => rxURPLK q = true ∨ bx_allP (fun o => bx_obC rxL X S0 rxCRPLK.2.2.1 (rxIRPLK S0 ws) (rxmRPLK S0 ws) i q.1 o) q.2.1) 0 rxYRPLK := ⟨Or.inr ⟨rxgRPLK_0_0 hP, rxgRPLK_0_1 hP, rxgRPLK_0_2 hP, trivial⟩, Or.inl rfl, Or.inr trivial, Or.inl rfl, Or.inr trivial, trivial⟩
theorem rxgERPLK {X : (Nat → Int → Int) → Prop} {S0 : Nat → Int → Int} {ws : List Int} (hP : rxPRPLK S0 ws) : bx_allI (fun i q => rxURPLK q = true ∨ bx_allP (fun E => bx_obE rxL X S0 rxCRPLK.2.2.1 (rxIRPLK S0 ws) (rxPSRPLK S0 ws) i q.1 E) q.2.2) 0 rxYRPLK := ⟨Or.inr trivial, Or.inl rfl, Or.inr ⟨rxfRPLK_2_0 hP, trivial⟩, Or.inl rfl, Or.inr ⟨rxfRPLK_4_0 hP, trivial⟩, trivial⟩
theorem rxuRPLK {PX : State → Prop} {Dg : va_G} {A : Nat → Prop} {ad xa : Nat → Nat} {l : Launch} {X : (Nat → Int → Int) → Prop} (hPX : rx_PXOK rxNW A PX) (hX : ∀ S S1 : Nat → Int → Int, X S → bx_same rxL (bx_mdl rxCRPLK.2.2.1) S S1 → X S1) (hQNXX : bx_ConP rxG rxNW rxAO PX Dg rxL X vwCl A ad l rxM264 rxCNXX rxPNXX rxPSNXX) (hQNUK : bx_ConP rxG rxNW rxAO PX Dg rxL X vwCl A ad l rxM293 rxCNUK rxPNUK rxPSNUK) {S0 : Nat → Int → Int} {ws : List Int} (hP : rxPRPLK S0 ws) : ∀ (i : Nat) (q : bx_HE), rxYRPLK[i]? = some q → rxURPLK q = true → ∀ {p : Program} {e : Env} {R : Room} {s : State} {m : MethodId} {args : Array Value} {below : List Frame} {meth : Method} {c : Code} {Q : State → Prop} {H0 : Heap}, rx_Fr rxG rxNW rxAO PX p s m args meth c rxM294 → (∀ q, H0.size ≤ q → A q) → H0 = s.heap → rxM294.2.2.2.2.2.2.1 ≤ R.cells → rxM294.2.2.2.2.2.2.2 ≤ R.slots → rxCRPLK.2.2.2.1 ≤ R.frames → rxCRPLK.2.2.2.1 * 40 ≤ R.locals → bx_Step p l e R s m args below meth c Q Dg rxL X vwCl A xa H0 ad rxM294 rxYRPLK (rxIRPLK S0 ws) (rxmRPLK S0 ws) S0 rxCRPLK.2.2.1 i q := by
  intro i q hq hus p e R s m args below meth c Q H0 hF hA hH0 hmc hms hd hdl
  match i, hq with
  | 0, hq =>
    cases hq
    exact absurd (show false = true from hus) Bool.false_ne_true
  | 1, hq =>
    cases hq
    exact rx_stepC (ins := .invokevirtual 253) (len := 3) (i_p := 2) (M_p := rxM264) (d := rxCRPLK.2.2.2.1) (as := [.inr (3, (0, 480))]) (t := []) (ct := rxCNXX) hPX hF rfl hA hH0 hmc hms hd hdl (by decide +kernel) rfl rfl (by decide +kernel) (by decide +kernel) hQNXX (by decide +kernel) rfl (Or.inl ⟨rfl, rfl, rfl⟩) (rxsRPLK_1 hP)
  | 2, hq =>
    cases hq
    exact absurd (show false = true from hus) Bool.false_ne_true
  | 3, hq =>
    cases hq
    exact rx_stepC (ins := .invokevirtual 446) (len := 3) (i_p := 4) (M_p := rxM293) (d := rxCRPLK.2.2.2.1) (as := [.inr (3, (0, 480)), .inr (1, (0, 0)), .inr (1, (0, 5))]) (t := []) (ct := rxCNUK) hPX hF rfl hA hH0 hmc hms hd hdl (by decide +kernel) rfl rfl (by decide +kernel) (by decide +kernel) hQNUK (by decide +kernel) rfl (Or.inr ⟨_, _, _, 1, rfl, rfl, by omega, rfl, rfl, rfl⟩) (rxsRPLK_3 hP)
  | 4, hq =>
    cases hq
    exact absurd (show false = true from hus) Bool.false_ne_true
  | n + 5, hq => cases hq
theorem rxQRPLK {PX : State → Prop} {Dg : va_G} {A : Nat → Prop} {ad xa : Nat → Nat} {l : Launch} {X : (Nat → Int → Int) → Prop} (hPX : rx_PXOK rxNW A PX) (hsl : ∀ s : State, PX s → ∀ o idx n : Nat, rxSl o idx = some n → ∃ tx : String, vk_R (rxNm o) idx tx (ad n) s)
    (hX : ∀ S S_p : Nat → Int → Int, X S → bx_same rxL (bx_mdl rxCRPLK.2.2.1) S S_p → X S_p)
    (ih : ∀ (j2 : Nat) (ct2 : bx_Ct) (M2 : rx_Mt), ct2 ∈ rxCnE j2 → ct2.2.2.2.1 + 1 ≤ rxCRPLK.2.2.2.1 → rxT.2.2.2.2.2 j2 = some M2 → bx_Con rxG rxNW rxAO PX Dg rxL X vwCl A ad l M2 ct2) (hQNXX : bx_ConP rxG rxNW rxAO PX Dg rxL X vwCl A ad l rxM264 rxCNXX rxPNXX rxPSNXX) (hQNUK : bx_ConP rxG rxNW rxAO PX Dg rxL X vwCl A ad l rxM293 rxCNUK rxPNUK rxPSNUK) : bx_ConP rxG rxNW rxAO PX Dg rxL X vwCl A ad l rxM294 rxCRPLK rxPRPLK rxPSRPLK :=
  rxQof (xa := xa) (Cn := rxCnE) (f := 30000) (j := 294) (tab := rxYRPLK) (us := rxURPLK) hPX hsl hX ih rfl rxYcRPLK rxIRPLK rxmRPLK
    (fun S0 ws r I0 I ht0 ht as he he1 hX0 hI0 hP hs ha => by
      have e := he.symm.trans (show bx_ent0 rxNP rxCRPLK.1 bx_I0 [] = some ([(0, 0), (0, 0), (0, 0), (0, 0), (0, 0), (0, 0), (0, 0), (0, 0)], [], [.inr (3, (0, 480))]) from rfl)
      cases e
      subst ha
      have h0 : r 0 = 0 := hs.1
      show rxIRPLK_0 S0 _ S0
      refine ⟨⟨⟨rfl, ?_⟩, trivial⟩, trivial⟩
      simp only [List.map_cons, List.map_nil, bx_xv_ok h0]
      rfl)
    (fun S0 ws hP => rxuRPLK (xa := xa) hPX hX hQNXX hQNUK hP) (fun S0 ws hP => rxgCRPLK hP) (fun S0 ws hP => rxgERPLK hP)
