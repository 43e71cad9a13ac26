section
noncomputable def rxIMNF_0 (S0 : Nat → Int → Int) (ws : List Int) (S : Nat → Int → Int) (on ot cu wh : Int) : Prop := S = S0 ∧ ws = [0, on, ot, cu, wh]
noncomputable def rxmMNF_0 (S0 : Nat → Int → Int) (ws : List Int) (S : Nat → Int → Int) (on ot cu wh : Int) : Nat := 100
noncomputable def rxzMNF_0 : rx_Z := ([(0, 0), (0, 0), (0, 0), (0, 0), (0, 0), (0, 0), (0, 0), (0, 0), ((-2147483648), 2147483647), ((-2147483648), 2147483647), ((-2147483648), 2147483647), ((-2147483648), 2147483647)], [], [], 0, 0, 0, [(0, .inr (3, (0, 0))), (1, .inr (0, (8, 0))), (2, .inr (0, (9, 0))), (3, .inr (0, (10, 0))), (4, .inr (0, (11, 0)))], [])
noncomputable def rxIMNF_1 (S0 : Nat → Int → Int) (ws : List Int) (S : Nat → Int → Int) (on ot cu wh : Int) : Prop := S = S0 ∧ ws = [0, on, ot, cu, wh]
noncomputable def rxmMNF_1 (S0 : Nat → Int → Int) (ws : List Int) (S : Nat → Int → Int) (on ot cu wh : Int) : Nat := 90
noncomputable def rxzMNF_1 : rx_Z := ([(0, 0), (0, 0), (0, 0), (0, 0), (0, 0), (0, 0), (0, 0), (0, 0), ((-2147483648), 2147483647), ((-2147483648), 2147483647), ((-2147483648), 2147483647), (0, 2)], [], [], 0, 0, 15, [(0, .inr (3, (0, 0))), (1, .inr (0, (8, 0))), (2, .inr (0, (9, 0))), (3, .inr (0, (10, 0))), (4, .inr (0, (11, 0)))], [.inr (0, (10, 0)), .inr (0, (9, 0)), .inr (0, (8, 0)), .inr (3, (0, 0))])
noncomputable def rxIMNF_2 (S0 : Nat → Int → Int) (ws : List Int) (S : Nat → Int → Int) (on ot cu wh r : Int) : Prop := rjdSm S0 S ∧ (r = 1 → 0 ≤ cu ∧ cu ≤ 5)
noncomputable def rxmMNF_2 (S0 : Nat → Int → Int) (ws : List Int) (S : Nat → Int → Int) (on ot cu wh r : Int) : Nat := 80
noncomputable def rxzMNF_2 : rx_Z := ([(0, 0), (0, 0), (0, 0), (0, 0), (0, 0), (0, 0), (0, 0), (0, 0), ((-2147483648), 2147483647), ((-2147483648), 2147483647), ((-2147483648), 2147483647), (0, 2), (0, 1)], [], [], 0, 0, 18, [(0, .inr (3, (0, 0))), (1, .inr (0, (8, 0))), (2, .inr (0, (9, 0))), (3, .inr (0, (10, 0))), (4, .inr (0, (11, 0)))], [.inr (0, (12, 0))])
noncomputable def rxIMNF_3 (S0 : Nat → Int → Int) (ws : List Int) (S : Nat → Int → Int) (on ot cu wh : Int) : Prop := rjdSm S0 S
noncomputable def rxmMNF_3 (S0 : Nat → Int → Int) (ws : List Int) (S : Nat → Int → Int) (on ot cu wh : Int) : Nat := 70
noncomputable def rxzMNF_3 : rx_Z := ([(0, 0), (0, 0), (0, 0), (0, 0), (0, 0), (0, 0), (0, 0), (0, 0), ((-2147483648), 2147483647), ((-2147483648), 2147483647), ((-2147483648), 2147483647), (0, 2)], [], [], 0, 0, 28, [(0, .inr (3, (0, 0))), (1, .inr (0, (8, 0))), (2, .inr (0, (9, 0))), (3, .inr (0, (10, 0))), (4, .inr (0, (11, 0)))], [.inr (0, (10, 0)), .inr (3, (0, 443))])
noncomputable def rxIMNF_4 (S0 : Nat → Int → Int) (ws : List Int) (S : Nat → Int → Int) (on ot cu wh : Int) : Prop := rjdSm S0 S
noncomputable def rxmMNF_4 (S0 : Nat → Int → Int) (ws : List Int) (S : Nat → Int → Int) (on ot cu wh : Int) : Nat := 60
noncomputable def rxzMNF_4 : rx_Z := ([(0, 0), (0, 0), (0, 0), (0, 0), (0, 0), (0, 0), (0, 0), (0, 0), ((-2147483648), 2147483647), ((-2147483648), 2147483647), ((-2147483648), 2147483647), (0, 2)], [], [], 0, 0, 31, [(0, .inr (3, (0, 0))), (1, .inr (0, (8, 0))), (2, .inr (0, (9, 0))), (3, .inr (0, (10, 0))), (4, .inr (0, (11, 0)))], [])
noncomputable def rxoMNF_0_0 : bx_HO := (([(0, 0), (0, 0), (0, 0), (0, 0), (0, 0), (0, 0), (0, 0), (0, 0), ((-2147483648), 2147483647), ((-2147483648), 2147483647), ((-2147483648), 2147483647), (0, 2)], [], [], 0, 0, 15, [(0, .inr (3, (0, 0))), (1, .inr (0, (8, 0))), (2, .inr (0, (9, 0))), (3, .inr (0, (10, 0))), (4, .inr (0, (11, 0)))], [.inr (0, (10, 0)), .inr (0, (9, 0)), .inr (0, (8, 0)), .inr (3, (0, 0))]), [], [], [(0, 0), (0, 0), (0, 0), (0, 0), (0, 0), (0, 0), (0, 0), (0, 0), (8, 0), (9, 0), (10, 0), (11, 0)], 1)
noncomputable def rxeMNF_0_0 : rx_End × List (Nat × Int × Int) := (([(0, 0), (0, 0), (0, 0), (0, 0), (0, 0), (0, 0), (0, 0), (0, 0), ((-2147483648), 2147483647), ((-2147483648), 2147483647), ((-2147483648), 2147483647), (3, 2147483647)], [], [], some (.inr (0, (0, (-1))))), [])
noncomputable def rxeMNF_0_1 : rx_End × List (Nat × Int × Int) := (([(0, 0), (0, 0), (0, 0), (0, 0), (0, 0), (0, 0), (0, 0), (0, 0), ((-2147483648), 2147483647), ((-2147483648), 2147483647), ((-2147483648), 2147483647), ((-2147483648), (-1))], [], [], some (.inr (0, (0, (-1))))), [])
noncomputable def rxoMNF_2_0 : bx_HO := (([(0, 0), (0, 0), (0, 0), (0, 0), (0, 0), (0, 0), (0, 0), (0, 0), ((-2147483648), 2147483647), ((-2147483648), 2147483647), ((-2147483648), 2147483647), (0, 2), (1, 1)], [(3, (12, 0), (0, 0))], [(((0, 0), 11), .inr (3, (0, 443)))], 0, 0, 28, [(0, .inr (3, (0, 0))), (1, .inr (0, (8, 0))), (2, .inr (0, (9, 0))), (3, .inr (0, (10, 0))), (4, .inr (0, (11, 0)))], [.inr (0, (10, 0)), .inr (3, (0, 443))]), [], [], [(0, 0), (0, 0), (0, 0), (0, 0), (0, 0), (0, 0), (0, 0), (0, 0), (8, 0), (9, 0), (10, 0), (11, 0)], 3)
noncomputable def rxeMNF_2_0 : rx_End × List (Nat × Int × Int) := (([(0, 0), (0, 0), (0, 0), (0, 0), (0, 0), (0, 0), (0, 0), (0, 0), ((-2147483648), 2147483647), ((-2147483648), 2147483647), ((-2147483648), 2147483647), (0, 2), (0, 0)], [], [], some (.inr (0, (0, (-1))))), [])
noncomputable def rxeMNF_4_0 : rx_End × List (Nat × Int × Int) := (([(0, 0), (0, 0), (0, 0), (0, 0), (0, 0), (0, 0), (0, 0), (0, 0), ((-2147483648), 2147483647), ((-2147483648), 2147483647), ((-2147483648), 2147483647), (0, 2), ((-1), 5)], [], [(((0, 0), 1851192626986356800234234225391877833944518517379736727568187392000000), .inr (0, (12, 0))), (((0, 443), 14), .inr (0, (12, 0))), (((0, 0), 11), .inr (3, (0, 443)))], some (.inr (0, (12, 0)))), [])
noncomputable def rxeMNF_4_1 : rx_End × List (Nat × Int × Int) := (([(0, 0), (0, 0), (0, 0), (0, 0), (0, 0), (0, 0), (0, 0), (0, 0), ((-2147483648), 2147483647), ((-2147483648), 2147483647), ((-2147483648), 2147483647), (1, 1), ((-1), 9)], [], [(((0, 0), 1851192626986356800033527518605102225670697052925901474014363648000000), .inr (0, (12, 0))), (((0, 443), 13), .inr (0, (12, 0))), (((0, 0), 11), .inr (3, (0, 443)))], some (.inr (0, (12, 0)))), [])
noncomputable def rxeMNF_4_2 : rx_End × List (Nat × Int × Int) := (([(0, 0), (0, 0), (0, 0), (0, 0), (0, 0), (0, 0), (0, 0), (0, 0), ((-2147483648), 2147483647), ((-2147483648), 2147483647), ((-2147483648), 2147483647), (0, 0), ((-2147483648), 2147483647)], [], [(((0, 0), 1851192626986356799832820811818326617396875588472066220460539904000000), .inr (0, (12, 0))), (((0, 443), 12), .inr (0, (12, 0))), (((0, 0), 11), .inr (3, (0, 443)))], some (.inr (0, (12, 0)))), [])
noncomputable def rxYMNF : List bx_HE := [(rxzMNF_0, [rxoMNF_0_0], [rxeMNF_0_0, rxeMNF_0_1]), (rxzMNF_1, [], []), (rxzMNF_2, [rxoMNF_2_0], [rxeMNF_2_0]), (rxzMNF_3, [], []), (rxzMNF_4, [], [rxeMNF_4_0, rxeMNF_4_1, rxeMNF_4_2])]
noncomputable def rxUMNF (q : bx_HE) : Bool := Nat.beq (rx_zpc q.1) 15 || Nat.beq (rx_zpc q.1) 28
noncomputable def rxYBMNF : bx_B := (rxV, rxNP, rxDmf, bx_mdH rxC178.2.2.1)
set_option maxRecDepth 100000 in
theorem rxYcMNF : bx_chkH rxYBMNF rxM178 rxC178 rxYMNF (rxUMNF, fun cut z => rx_ex2 (rxCT rxYBMNF rxCnE) cut 30000 rxC178.2.2.2.1 178 z) = true := by decide +kernel
noncomputable def rxIMNF (S0 : Nat → Int → Int) (ws : List Int) (i : Nat) : bx_SP := fun S r => match i with | 0 => rxIMNF_0 S0 ws S (r 8) (r 9) (r 10) (r 11) | 1 => rxIMNF_1 S0 ws S (r 8) (r 9) (r 10) (r 11) | 2 => rxIMNF_2 S0 ws S (r 8) (r 9) (r 10) (r 11) (r 12) | 3 => rxIMNF_3 S0 ws S (r 8) (r 9) (r 10) (r 11) | 4 => rxIMNF_4 S0 ws S (r 8) (r 9) (r 10) (r 11) | _ => False
noncomputable def rxmMNF (S0 : Nat → Int → Int) (ws : List Int) (i : Nat) (S : Nat → Int → Int) (r : Nat → Int) : Nat := match i with | 0 => rxmMNF_0 S0 ws S (r 8) (r 9) (r 10) (r 11) | 1 => rxmMNF_1 S0 ws S (r 8) (r 9) (r 10) (r 11) | 2 => rxmMNF_2 S0 ws S (r 8) (r 9) (r 10) (r 11) (r 12) | 3 => rxmMNF_3 S0 ws S (r 8) (r 9) (r 10) (r 11) | 4 => rxmMNF_4 S0 ws S (r 8) (r 9) (r 10) (r 11) | _ => 0
noncomputable def rxPMNF (S0 : Nat → Int → Int) (ws : List Int) : Prop := rkPl S0 ∧ rkDu S0
noncomputable def rxPSMNF (S0 : Nat → Int → Int) (ws : List Int) (S : Nat → Int → Int) (w : Option Int) : Prop := rjdSm S0 S
theorem rxkMNF_1 {S0 : Nat → Int → Int} {ws : List Int} {S : Nat → Int → Int} {on ot cu wh : Int} (hP : rxPMNF S0 ws) (hin : bx_same rxL (bx_mdl rxC178.2.2.1) S0 S) (I0 : bx_Inv rxL S) (hinv : rxIMNF_1 S0 ws S on ot cu wh) (l8 : (-2147483648) ≤ on) (u8 : on ≤ 2147483647) (l9 : (-2147483648) ≤ ot) (u9 : ot ≤ 2147483647) (l10 : (-2147483648) ≤ cu) (u10 : cu ≤ 2147483647) (l11 : 0 ≤ wh) (u11 : wh ≤ 2) : rxPSDT S [0, on, ot, cu] ∧ ∀ (S_p : Nat → Int → Int) (r : Int), 0 ≤ r → r ≤ 1 → rxPSSDT S [0, on, ot, cu] S_p (some r) → bx_Inv rxL S_p → bx_same rxL (bx_mdl rxC130.2.2.1) S S_p → rxIMNF_2 S0 ws S_p on ot cu wh r ∧ rxmMNF_2 S0 ws S_p on ot cu wh r < rxmMNF_1 S0 ws S on ot cu wh := by
  obtain ⟨rfl, hw⟩ := hinv
  refine ⟨hP, fun S_p r _ _ hq _ hsm => ⟨?_, by unfold rxmMNF_1 rxmMNF_2; omega⟩⟩
  obtain ⟨o2, t2, c2, hw3, h⟩ := hq
  have k3 : cu = c2 := Option.some.inj (congrArg (fun l : List Int => l[3]?) hw3)
  subst k3
  rcases h with ⟨-, hr, hS⟩ | ⟨hg, hr, -, -, -, hf⟩
  · subst hS
    exact ⟨rjdSm_r, fun e => (by have := Option.some.inj hr; exfalso; omega)⟩
  · exact ⟨(fun p t a b c => hf p t (by omega) (by omega) (by omega) (by omega) (by omega)), fun _ => ⟨by omega, by omega⟩⟩
theorem rxsMNF_1 {X : (Nat → Int → Int) → Prop} {S0 : Nat → Int → Int} {ws : List Int} (hP : rxPMNF S0 ws) : rx_obK X S0 rxC178.2.2.1 rxC130.2.2.1 (rxIMNF S0 ws) (rxmMNF S0 ws) 1 2 rxzMNF_1 rxzMNF_2 [.inr (3, (0, 0)), .inr (0, (8, 0)), .inr (0, (9, 0)), .inr (0, (10, 0))] (some 12) rxPSDT rxPSSDT := by
  intro S r hinv hXS I0 hin hs_ hf_
  have b_ := bx_bds_sat hs_
  have f_ := bx_fcl_ok hs_.1 hf_
  obtain ⟨⟨l8, u8⟩, ⟨l9, u9⟩, ⟨l10, u10⟩, ⟨l11, u11⟩, -⟩ := b_
  have g := rxkMNF_1 hP hin I0 hinv l8 u8 l9 u9 l10 u10 l11 u11
  have ea : List.map (bx_num r) [.inr (3, (0, 0)), .inr (0, (8, 0)), .inr (0, (9, 0)), .inr (0, (10, 0))] = [0, (r 8), (r 9), (r 10)] := by
    simp only [List.map_cons, List.map_nil, bx_xv_ok hs_.1]
    rfl
  rw [ea]
  refine ⟨g.1, fun S_p w r_p hPS hX_p I1 hsm hr hw hs_p => ?_⟩
  have hw := hw _ rfl
  subst hw
  have b_p := hs_p.2.2 12 _ _ rfl
  have g2 := g.2 S_p (r_p 12) b_p.1 b_p.2 hPS I1 hsm
  show rxIMNF_2 S0 ws S_p (r_p 8) (r_p 9) (r_p 10) (r_p 11) (r_p 12) ∧ rxmMNF_2 S0 ws S_p (r_p 8) (r_p 9) (r_p 10) (r_p 11) (r_p 12) < _
  rw [hr 8 (by decide), hr 9 (by decide), hr 10 (by decide), hr 11 (by decide)]
  exact g2
theorem rxkMNF_3 {S0 : Nat → Int → Int} {ws : List Int} {S : Nat → Int → Int} {on ot cu wh : Int} (hP : rxPMNF S0 ws) (hin : bx_same rxL (bx_mdl rxC178.2.2.1) S0 S) (I0 : bx_Inv rxL S) (hinv : rxIMNF_3 S0 ws S on ot cu wh) (l8 : (-2147483648) ≤ on) (u8 : on ≤ 2147483647) (l9 : (-2147483648) ≤ ot) (u9 : ot ≤ 2147483647) (l10 : (-2147483648) ≤ cu) (u10 : cu ≤ 2147483647) (l11 : 0 ≤ wh) (u11 : wh ≤ 2) : rxPMDF S [443, cu] ∧ ∀ (S_p : Nat → Int → Int), rxPSMDF S [443, cu] S_p none → bx_Inv rxL S_p → bx_same rxL (bx_mdl rxCMDF.2.2.1) S S_p → rxIMNF_4 S0 ws S_p on ot cu wh ∧ rxmMNF_4 S0 ws S_p on ot cu wh < rxmMNF_3 S0 ws S on ot cu wh := by
  have hf : rjdSm S0 S := hinv
  exact ⟨rkDu_sm hin (by decide +kernel) hP.2, fun S_p hq _ hsm => ⟨rjdSm_t hf hq.2, by unfold rxmMNF_3 rxmMNF_4; omega⟩⟩
theorem rxsMNF_3 {X : (Nat → Int → Int) → Prop} {S0 : Nat → Int → Int} {ws : List Int} (hP : rxPMNF S0 ws) : rx_obK X S0 rxC178.2.2.1 rxCMDF.2.2.1 (rxIMNF S0 ws) (rxmMNF S0 ws) 3 4 rxzMNF_3 rxzMNF_4 [.inr (3, (0, 443)), .inr (0, (10, 0))] none rxPMDF rxPSMDF := by
  intro S r hinv hXS I0 hin hs_ hf_
  have b_ := bx_bds_sat hs_
  have f_ := bx_fcl_ok hs_.1 hf_
  obtain ⟨⟨l8, u8⟩, ⟨l9, u9⟩, ⟨l10, u10⟩, ⟨l11, u11⟩, -⟩ := b_
  have g := rxkMNF_3 hP hin I0 hinv l8 u8 l9 u9 l10 u10 l11 u11
  have ea : List.map (bx_num r) [.inr (3, (0, 443)), .inr (0, (10, 0))] = [443, (r 10)] := by
    simp only [List.map_cons, List.map_nil, bx_xv_ok hs_.1]
    rfl
  rw [ea]
  refine ⟨g.1, fun S_p w r_p hPS hX_p I1 hsm hr hw hs_p => ?_⟩
  have hw : w = none := hPS.1
  subst hw
  have g2 := g.2 S_p hPS I1 hsm
  show rxIMNF_4 S0 ws S_p (r_p 8) (r_p 9) (r_p 10) (r_p 11) ∧ rxmMNF_4 S0 ws S_p (r_p 8) (r_p 9) (r_p 10) (r_p 11) < _
  rw [hr 8 (by decide), hr 9 (by decide), hr 10 (by decide), hr 11 (by decide)]
  exact g2
theorem rxcMNF_0_0 {S0 : Nat → Int → Int} {ws : List Int} {S : Nat → Int → Int} {on ot cu wh : Int} (hP : rxPMNF S0 ws) (hin : bx_same rxL (bx_mdl rxC178.2.2.1) S0 S) (I0 : bx_Inv rxL S) (hinv : rxIMNF_0 S0 ws S on ot cu wh) (l8 : (-2147483648) ≤ on) (u8 : on ≤ 2147483647) (l9 : (-2147483648) ≤ ot) (u9 : ot ≤ 2147483647) (l10 : (-2147483648) ≤ cu) (u10 : cu ≤ 2147483647) (l11 : 0 ≤ wh) (u11 : wh ≤ 2) : (True) ∧ (True) ∧ rxIMNF_1 S0 ws S on ot cu wh ∧ rxmMNF_1 S0 ws S on ot cu wh < rxmMNF_0 S0 ws S on ot cu wh := by
  obtain ⟨rfl, hw⟩ := hinv
  exact ⟨trivial, trivial, ⟨rfl, hw⟩, by unfold rxmMNF_0 rxmMNF_1; omega⟩
theorem rxgMNF_0_0 {X : (Nat → Int → Int) → Prop} {S0 : Nat → Int → Int} {ws : List Int} (hP : rxPMNF S0 ws) : bx_obC rxL X S0 rxC178.2.2.1 (rxIMNF S0 ws) (rxmMNF S0 ws) 0 rxzMNF_0 rxoMNF_0_0 := by
  intro S S_p r r_p hinv hX hin hsm_ hseg
  obtain ⟨I0, I1, h0_, hr_, b_, f_, d_⟩ := bx_cl (evs := []) (fvs := []) hseg (by decide +kernel) (by decide +kernel)
  have hinv : rxIMNF_0 S0 ws S (r 8) (r 9) (r 10) (r 11) := hinv
  rw [← hr_ 8 (by decide), ← hr_ 9 (by decide), ← hr_ 10 (by decide), ← hr_ 11 (by decide)] at hinv
  obtain ⟨⟨l8, u8⟩, ⟨l9, u9⟩, ⟨l10, u10⟩, ⟨l11, u11⟩, -⟩ := b_
  have w_ := d_
  subst w_
  have g := rxcMNF_0_0 hP hin I0 hinv l8 u8 l9 u9 l10 u10 l11 u11
  refine ⟨bx_narP_ok (l := []) g.1, bx_nfP_ok h0_ (fvs := []) (by decide +kernel) g.2.1, ?_, ?_⟩
  · show rxIMNF_1 S0 ws S_p (bx_val [(0, 0), (0, 0), (0, 0), (0, 0), (0, 0), (0, 0), (0, 0), (0, 0), (8, 0), (9, 0), (10, 0), (11, 0)] r_p 8) (bx_val [(0, 0), (0, 0), (0, 0), (0, 0), (0, 0), (0, 0), (0, 0), (0, 0), (8, 0), (9, 0), (10, 0), (11, 0)] r_p 9) (bx_val [(0, 0), (0, 0), (0, 0), (0, 0), (0, 0), (0, 0), (0, 0), (0, 0), (8, 0), (9, 0), (10, 0), (11, 0)] r_p 10) (bx_val [(0, 0), (0, 0), (0, 0), (0, 0), (0, 0), (0, 0), (0, 0), (0, 0), (8, 0), (9, 0), (10, 0), (11, 0)] r_p 11)
    rw [bx_val_x (n := 8) (e := (8, 0)) h0_ rfl, bx_val_x (n := 9) (e := (9, 0)) h0_ rfl, bx_val_x (n := 10) (e := (10, 0)) h0_ rfl, bx_val_x (n := 11) (e := (11, 0)) h0_ rfl]
    exact g.2.2.1
  · show rxmMNF_1 S0 ws S_p (bx_val [(0, 0), (0, 0), (0, 0), (0, 0), (0, 0), (0, 0), (0, 0), (0, 0), (8, 0), (9, 0), (10, 0), (11, 0)] r_p 8) (bx_val [(0, 0), (0, 0), (0, 0), (0, 0), (0, 0), (0, 0), (0, 0), (0, 0), (8, 0), (9, 0), (10, 0), (11, 0)] r_p 9) (bx_val [(0, 0), (0, 0), (0, 0), (0, 0), (0, 0), (0, 0), (0, 0), (0, 0), (8, 0), (9, 0), (10, 0), (11, 0)] r_p 10) (bx_val [(0, 0), (0, 0), (0, 0), (0, 0), (0, 0), (0, 0), (0, 0), (0, 0), (8, 0), (9, 0), (10, 0), (11, 0)] r_p 11) < rxmMNF_0 S0 ws S_p (r 8) (r 9) (r 10) (r 11)
    rw [bx_val_x (n := 8) (e := (8, 0)) h0_ rfl, bx_val_x (n := 9) (e := (9, 0)) h0_ rfl, bx_val_x (n := 10) (e := (10, 0)) h0_ rfl, bx_val_x (n := 11) (e := (11, 0)) h0_ rfl, ← hr_ 8 (by decide), ← hr_ 9 (by decide), ← hr_ 10 (by decide), ← hr_ 11 (by decide)]
    exact g.2.2.2
theorem rxdMNF_0_0 {S0 : Nat → Int → Int} {ws : List Int} {S : Nat → Int → Int} {on ot cu wh : Int} (hP : rxPMNF S0 ws) (hin : bx_same rxL (bx_mdl rxC178.2.2.1) S0 S) (hin2 : bx_same rxL (bx_mdl rxC178.2.2.1) S S) (I0 : bx_Inv rxL S) (I1 : bx_Inv rxL S) (hinv : rxIMNF_0 S0 ws S on ot cu wh) (l8 : (-2147483648) ≤ on) (u8 : on ≤ 2147483647) (l9 : (-2147483648) ≤ ot) (u9 : ot ≤ 2147483647) (l10 : (-2147483648) ≤ cu) (u10 : cu ≤ 2147483647) (l11 : 3 ≤ wh) (u11 : wh ≤ 2147483647) : (True) ∧ rxPSMNF S0 ws S (some ((-1))) := by
  obtain ⟨rfl, hw⟩ := hinv
  exact ⟨trivial, rjdSm_r⟩
theorem rxfMNF_0_0 {X : (Nat → Int → Int) → Prop} {S0 : Nat → Int → Int} {ws : List Int} (hP : rxPMNF S0 ws) : bx_obE rxL X S0 rxC178.2.2.1 (rxIMNF S0 ws) (rxPSMNF S0 ws) 0 rxzMNF_0 rxeMNF_0_0 := by
  intro S S_p r r_p hinv hX hin hsm_ hseg
  obtain ⟨I0, I1, h0_, hr_, b_, f_, d_⟩ := bx_cl (evs := []) (fvs := []) hseg (by decide +kernel) (by decide +kernel)
  have hinv : rxIMNF_0 S0 ws S (r 8) (r 9) (r 10) (r 11) := hinv
  rw [← hr_ 8 (by decide), ← hr_ 9 (by decide), ← hr_ 10 (by decide), ← hr_ 11 (by decide)] at hinv
  obtain ⟨⟨l8, u8⟩, ⟨l9, u9⟩, ⟨l10, u10⟩, ⟨l11, u11⟩, -⟩ := b_
  have w_ := d_
  subst w_
  have g := rxdMNF_0_0 hP hin hsm_ I0 I1 hinv l8 u8 l9 u9 l10 u10 l11 u11
  refine ⟨bx_narP_ok (l := []) g.1, ?_⟩
  show rxPSMNF S0 ws S_p (some (bx_num r_p (.inr (0, (0, (-1))))))
  rw [bx_xv_ok h0_]
  exact g.2
theorem rxdMNF_0_1 {S0 : Nat → Int → Int} {ws : List Int} {S : Nat → Int → Int} {on ot cu wh : Int} (hP : rxPMNF S0 ws) (hin : bx_same rxL (bx_mdl rxC178.2.2.1) S0 S) (hin2 : bx_same rxL (bx_mdl rxC178.2.2.1) S S) (I0 : bx_Inv rxL S) (I1 : bx_Inv rxL S) (hinv : rxIMNF_0 S0 ws S on ot cu wh) (l8 : (-2147483648) ≤ on) (u8 : on ≤ 2147483647) (l9 : (-2147483648) ≤ ot) (u9 : ot ≤ 2147483647) (l10 : (-2147483648) ≤ cu) (u10 : cu ≤ 2147483647) (l11 : (-2147483648) ≤ wh) (u11 : wh ≤ (-1)) : (True) ∧ rxPSMNF S0 ws S (some ((-1))) := by
  obtain ⟨rfl, hw⟩ := hinv
  exact ⟨trivial, rjdSm_r⟩
theorem rxfMNF_0_1 {X : (Nat → Int → Int) → Prop} {S0 : Nat → Int → Int} {ws : List Int} (hP : rxPMNF S0 ws) : bx_obE rxL X S0 rxC178.2.2.1 (rxIMNF S0 ws) (rxPSMNF S0 ws) 0 rxzMNF_0 rxeMNF_0_1 := by
  intro S S_p r r_p hinv hX hin hsm_ hseg
  obtain ⟨I0, I1, h0_, hr_, b_, f_, d_⟩ := bx_cl (evs := []) (fvs := []) hseg (by decide +kernel) (by decide +kernel)
  have hinv : rxIMNF_0 S0 ws S (r 8) (r 9) (r 10) (r 11) := hinv
  rw [← hr_ 8 (by decide), ← hr_ 9 (by decide), ← hr_ 10 (by decide), ← hr_ 11 (by decide)] at hinv
  obtain ⟨⟨l8, u8⟩, ⟨l9, u9⟩, ⟨l10, u10⟩, ⟨l11, u11⟩, -⟩ := b_
  have w_ := d_
  subst w_
  have g := rxdMNF_0_1 hP hin hsm_ I0 I1 hinv l8 u8 l9 u9 l10 u10 l11 u11
  refine ⟨bx_narP_ok (l := []) g.1, ?_⟩
  show rxPSMNF S0 ws S_p (some (bx_num r_p (.inr (0, (0, (-1))))))
  rw [bx_xv_ok h0_]
  exact g.2
theorem rxcMNF_2_0 {S0 : Nat → Int → Int} {ws : List Int} {S : Nat → Int → Int} {on ot cu wh r : Int} (hP : rxPMNF S0 ws) (hin : bx_same rxL (bx_mdl rxC178.2.2.1) S0 S) (I0 : bx_Inv rxL S) (hinv : rxIMNF_2 S0 ws S on ot cu wh r) (l8 : (-2147483648) ≤ on) (u8 : on ≤ 2147483647) (l9 : (-2147483648) ≤ ot) (u9 : ot ≤ 2147483647) (l10 : (-2147483648) ≤ cu) (u10 : cu ≤ 2147483647) (l11 : 0 ≤ wh) (u11 : wh ≤ 2) (l12 : 1 ≤ r) (u12 : r ≤ 1) (f0 : r ≠ 0) : (True) ∧ (True) ∧ rxIMNF_3 S0 ws S on ot cu wh ∧ rxmMNF_3 S0 ws S on ot cu wh < rxmMNF_2 S0 ws S on ot cu wh r := by
  obtain ⟨hf, hc⟩ := hinv
  exact ⟨trivial, trivial, rjdSm_t hf rjdSm_r, by unfold rxmMNF_2 rxmMNF_3; omega⟩
theorem rxgMNF_2_0 {X : (Nat → Int → Int) → Prop} {S0 : Nat → Int → Int} {ws : List Int} (hP : rxPMNF S0 ws) : bx_obC rxL X S0 rxC178.2.2.1 (rxIMNF S0 ws) (rxmMNF S0 ws) 2 rxzMNF_2 rxoMNF_2_0 := by
  intro S S_p r r_p hinv hX hin hsm_ hseg
  obtain ⟨I0, I1, h0_, hr_, b_, f_, d_⟩ := bx_cl (evs := []) (fvs := [(3, (12, 0), (0, 0), (0, 0))]) hseg (by decide +kernel) (by decide +kernel)
  have hinv : rxIMNF_2 S0 ws S (r 8) (r 9) (r 10) (r 11) (r 12) := hinv
  rw [← hr_ 8 (by decide), ← hr_ 9 (by decide), ← hr_ 10 (by decide), ← hr_ 11 (by decide), ← hr_ 12 (by decide)] at hinv
  obtain ⟨⟨l8, u8⟩, ⟨l9, u9⟩, ⟨l10, u10⟩, ⟨l11, u11⟩, ⟨l12, u12⟩, -⟩ := b_
  obtain ⟨f0, -⟩ := f_
  have w_ := d_
  subst w_
  have g := rxcMNF_2_0 hP hin I0 hinv l8 u8 l9 u9 l10 u10 l11 u11 l12 u12 f0
  refine ⟨bx_narP_ok (l := []) g.1, bx_nfP_ok h0_ (fvs := []) (by decide +kernel) g.2.1, ?_, ?_⟩
  · show rxIMNF_3 S0 ws S_p (bx_val [(0, 0), (0, 0), (0, 0), (0, 0), (0, 0), (0, 0), (0, 0), (0, 0), (8, 0), (9, 0), (10, 0), (11, 0)] r_p 8) (bx_val [(0, 0), (0, 0), (0, 0), (0, 0), (0, 0), (0, 0), (0, 0), (0, 0), (8, 0), (9, 0), (10, 0), (11, 0)] r_p 9) (bx_val [(0, 0), (0, 0), (0, 0), (0, 0), (0, 0), (0, 0), (0, 0), (0, 0), (8, 0), (9, 0), (10, 0), (11, 0)] r_p 10) (bx_val [(0, 0), (0, 0), (0, 0), (0, 0), (0, 0), (0, 0), (0, 0), (0, 0), (8, 0), (9, 0), (10, 0), (11, 0)] r_p 11)
    rw [bx_val_x (n := 8) (e := (8, 0)) h0_ rfl, bx_val_x (n := 9) (e := (9, 0)) h0_ rfl, bx_val_x (n := 10) (e := (10, 0)) h0_ rfl, bx_val_x (n := 11) (e := (11, 0)) h0_ rfl]
    exact g.2.2.1
  · show rxmMNF_3 S0 ws S_p (bx_val [(0, 0), (0, 0), (0, 0), (0, 0), (0, 0), (0, 0), (0, 0), (0, 0), (8, 0), (9, 0), (10, 0), (11, 0)] r_p 8) (bx_val [(0, 0), (0, 0), (0, 0), (0, 0), (0, 0), (0, 0), (0, 0), (0, 0), (8, 0), (9, 0), (10, 0), (11, 0)] r_p 9) (bx_val [(0, 0), (0, 0), (0, 0), (0, 0), (0, 0), (0, 0), (0, 0), (0, 0), (8, 0), (9, 0), (10, 0), (11, 0)] r_p 10) (bx_val [(0, 0), (0, 0), (0, 0), (0, 0), (0, 0), (0, 0), (0, 0), (0, 0), (8, 0), (9, 0), (10, 0), (11, 0)] r_p 11) < rxmMNF_2 S0 ws S_p (r 8) (r 9) (r 10) (r 11) (r 12)
    rw [bx_val_x (n := 8) (e := (8, 0)) h0_ rfl, bx_val_x (n := 9) (e := (9, 0)) h0_ rfl, bx_val_x (n := 10) (e := (10, 0)) h0_ rfl, bx_val_x (n := 11) (e := (11, 0)) h0_ rfl, ← hr_ 8 (by decide), ← hr_ 9 (by decide), ← hr_ 10 (by decide), ← hr_ 11 (by decide), ← hr_ 12 (by decide)]
    exact g.2.2.2
theorem rxdMNF_2_0 {S0 : Nat → Int → Int} {ws : List Int} {S : Nat → Int → Int} {on ot cu wh r : Int} (hP : rxPMNF S0 ws) (hin : bx_same rxL (bx_mdl rxC178.2.2.1) S0 S) (hin2 : bx_same rxL (bx_mdl rxC178.2.2.1) S S) (I0 : bx_Inv rxL S) (I1 : bx_Inv rxL S) (hinv : rxIMNF_2 S0 ws S on ot cu wh r) (l8 : (-2147483648) ≤ on) (u8 : on ≤ 2147483647) (l9 : (-2147483648) ≤ ot) (u9 : ot ≤ 2147483647) (l10 : (-2147483648) ≤ cu) (u10 : cu ≤ 2147483647) (l11 : 0 ≤ wh) (u11 : wh ≤ 2) (l12 : 0 ≤ r) (u12 : r ≤ 0) : (True) ∧ rxPSMNF S0 ws S (some ((-1))) := by
  obtain ⟨hf, hc⟩ := hinv
  exact ⟨trivial, rjdSm_t hf rjdSm_r⟩
theorem rxfMNF_2_0 {X : (Nat → Int → Int) → Prop} {S0 : Nat → Int → Int} {ws : List Int} (hP : rxPMNF S0 ws) : bx_obE rxL X S0 rxC178.2.2.1 (rxIMNF S0 ws) (rxPSMNF S0 ws) 2 rxzMNF_2 rxeMNF_2_0 := by
  intro S S_p r r_p hinv hX hin hsm_ hseg
  obtain ⟨I0, I1, h0_, hr_, b_, f_, d_⟩ := bx_cl (evs := []) (fvs := []) hseg (by decide +kernel) (by decide +kernel)
  have hinv : rxIMNF_2 S0 ws S (r 8) (r 9) (r 10) (r 11) (r 12) := hinv
  rw [← hr_ 8 (by decide), ← hr_ 9 (by decide), ← hr_ 10 (by decide), ← hr_ 11 (by decide), ← hr_ 12 (by decide)] at hinv
  obtain ⟨⟨l8, u8⟩, ⟨l9, u9⟩, ⟨l10, u10⟩, ⟨l11, u11⟩, ⟨l12, u12⟩, -⟩ := b_
  have w_ := d_
  subst w_
  have g := rxdMNF_2_0 hP hin hsm_ I0 I1 hinv l8 u8 l9 u9 l10 u10 l11 u11 l12 u12
  refine ⟨bx_narP_ok (l := []) g.1, ?_⟩
  show rxPSMNF S0 ws S_p (some (bx_num r_p (.inr (0, (0, (-1))))))
  rw [bx_xv_ok h0_]
  exact g.2
theorem rxdMNF_4_0 {S0 : Nat → Int → Int} {ws : List Int} {S : Nat → Int → Int} {on ot cu wh x12 : Int} (hP : rxPMNF S0 ws) (hin : bx_same rxL (bx_mdl rxC178.2.2.1) S0 S) (hin2 : bx_same rxL (bx_mdl rxC178.2.2.1) S S) (I0 : bx_Inv rxL S) (I1 : bx_Inv rxL S) (hinv : rxIMNF_4 S0 ws S on ot cu wh) (l8 : (-2147483648) ≤ on) (u8 : on ≤ 2147483647) (l9 : (-2147483648) ≤ ot) (u9 : ot ≤ 2147483647) (l10 : (-2147483648) ≤ cu) (u10 : cu ≤ 2147483647) (l11 : 0 ≤ wh) (u11 : wh ≤ 2) (l12 : (-1) ≤ x12) (u12 : x12 ≤ 5) (e0 : S 443 14 = x12) : (True) ∧ rxPSMNF S0 ws S (some x12) := by
  have hf : rjdSm S0 S := hinv
  exact ⟨trivial, rjdSm_t hf rjdSm_r⟩
theorem rxfMNF_4_0 {X : (Nat → Int → Int) → Prop} {S0 : Nat → Int → Int} {ws : List Int} (hP : rxPMNF S0 ws) : bx_obE rxL X S0 rxC178.2.2.1 (rxIMNF S0 ws) (rxPSMNF S0 ws) 4 rxzMNF_4 rxeMNF_4_0 := by
  intro S S_p r r_p hinv hX hin hsm_ hseg
  obtain ⟨I0, I1, h0_, hr_, b_, f_, d_⟩ := bx_cl (evs := [(0, (0, 443), (0, 14), .inr (0, (12, 0)))]) (fvs := []) hseg (by decide +kernel) (by decide +kernel)
  have hinv : rxIMNF_4 S0 ws S (r 8) (r 9) (r 10) (r 11) := hinv
  rw [← hr_ 8 (by decide), ← hr_ 9 (by decide), ← hr_ 10 (by decide), ← hr_ 11 (by decide)] at hinv
  obtain ⟨⟨l8, u8⟩, ⟨l9, u9⟩, ⟨l10, u10⟩, ⟨l11, u11⟩, ⟨l12, u12⟩, -⟩ := b_
  obtain ⟨e0, w_⟩ := d_
  subst w_
  have g := rxdMNF_4_0 hP hin hsm_ I0 I1 hinv l8 u8 l9 u9 l10 u10 l11 u11 l12 u12 e0
  refine ⟨bx_narP_ok (l := []) g.1, ?_⟩
  show rxPSMNF S0 ws S_p (some (bx_num r_p (.inr (0, (12, 0)))))
  rw [bx_xv_ok h0_]
  exact g.2
theorem rxdMNF_4_1 {S0 : Nat → Int → Int} {ws : List Int} {S : Nat → Int → Int} {on ot cu wh x12 : Int} (hP : rxPMNF S0 ws) (hin : bx_same rxL (bx_mdl rxC178.2.2.1) S0 S) (hin2 : bx_same rxL (bx_mdl rxC178.2.2.1) S S) (I0 : bx_Inv rxL S) (I1 : bx_Inv rxL S) (hinv : rxIMNF_4 S0 ws S on ot cu wh) (l8 : (-2147483648) ≤ on) (u8 : on ≤ 2147483647) (l9 : (-2147483648) ≤ ot) (u9 : ot ≤ 2147483647) (l10 : (-2147483648) ≤ cu) (u10 : cu ≤ 2147483647) (l11 : 1 ≤ wh) (u11 : wh ≤ 1) (l12 : (-1) ≤ x12) (u12 : x12 ≤ 9) (e0 : S 443 13 = x12) : (True) ∧ rxPSMNF S0 ws S (some x12) := by
  have hf : rjdSm S0 S := hinv
  exact ⟨trivial, rjdSm_t hf rjdSm_r⟩
theorem rxfMNF_4_1 {X : (Nat → Int → Int) → Prop} {S0 : Nat → Int → Int} {ws : List Int} (hP : rxPMNF S0 ws) : bx_obE rxL X S0 rxC178.2.2.1 (rxIMNF S0 ws) (rxPSMNF S0 ws) 4 rxzMNF_4 rxeMNF_4_1 := by
  intro S S_p r r_p hinv hX hin hsm_ hseg
  obtain ⟨I0, I1, h0_, hr_, b_, f_, d_⟩ := bx_cl (evs := [(0, (0, 443), (0, 13), .inr (0, (12, 0)))]) (fvs := []) hseg (by decide +kernel) (by decide +kernel)
  have hinv : rxIMNF_4 S0 ws S (r 8) (r 9) (r 10) (r 11) := hinv
  rw [← hr_ 8 (by decide), ← hr_ 9 (by decide), ← hr_ 10 (by decide), ← hr_ 11 (by decide)] at hinv
  obtain ⟨⟨l8, u8⟩, ⟨l9, u9⟩, ⟨l10, u10⟩, ⟨l11, u11⟩, ⟨l12, u12⟩, -⟩ := b_
  obtain ⟨e0, w_⟩ := d_
  subst w_
  have g := rxdMNF_4_1 hP hin hsm_ I0 I1 hinv l8 u8 l9 u9 l10 u10 l11 u11 l12 u12 e0
  refine ⟨bx_narP_ok (l := []) g.1, ?_⟩
  show rxPSMNF S0 ws S_p (some (bx_num r_p (.inr (0, (12, 0)))))
  rw [bx_xv_ok h0_]
  exact g.2
theorem rxdMNF_4_2 {S0 : Nat → Int → Int} {ws : List Int} {S : Nat → Int → Int} {on ot cu wh x12 : Int} (hP : rxPMNF S0 ws) (hin : bx_same rxL (bx_mdl rxC178.2.2.1) S0 S) (hin2 : bx_same rxL (bx_mdl rxC178.2.2.1) S S) (I0 : bx_Inv rxL S) (I1 : bx_Inv rxL S) (hinv : rxIMNF_4 S0 ws S on ot cu wh) (l8 : (-2147483648) ≤ on) (u8 : on ≤ 2147483647) (l9 : (-2147483648) ≤ ot) (u9 : ot ≤ 2147483647) (l10 : (-2147483648) ≤ cu) (u10 : cu ≤ 2147483647) (l11 : 0 ≤ wh) (u11 : wh ≤ 0) (l12 : (-2147483648) ≤ x12) (u12 : x12 ≤ 2147483647) (e0 : S 443 12 = x12) : (True) ∧ rxPSMNF S0 ws S (some x12) := by
  have hf : rjdSm S0 S := hinv
  exact ⟨trivial, rjdSm_t hf rjdSm_r⟩
theorem rxfMNF_4_2 {X : (Nat → Int → Int) → Prop} {S0 : Nat → Int → Int} {ws : List Int} (hP : rxPMNF S0 ws) : bx_obE rxL X S0 rxC178.2.2.1 (rxIMNF S0 ws) (rxPSMNF S0 ws) 4 rxzMNF_4 rxeMNF_4_2 := by
  intro S S_p r r_p hinv hX hin hsm_ hseg
  obtain ⟨I0, I1, h0_, hr_, b_, f_, d_⟩ := bx_cl (evs := [(0, (0, 443), (0, 12), .inr (0, (12, 0)))]) (fvs := []) hseg (by decide +kernel) (by decide +kernel)
  have hinv : rxIMNF_4 S0 ws S (r 8) (r 9) (r 10) (r 11) := hinv
  rw [← hr_ 8 (by decide), ← hr_ 9 (by decide), ← hr_ 10 (by decide), ← hr_ 11 (by decide)] at hinv
  obtain ⟨⟨l8, u8⟩, ⟨l9, u9⟩, ⟨l10, u10⟩, ⟨l11, u11⟩, ⟨l12, u12⟩, -⟩ := b_
  obtain ⟨e0, w_⟩ := d_
  subst w_
  have g := rxdMNF_4_2 hP hin hsm_ I0 I1 hinv l8 u8 l9 u9 l10 u10 l11 u11 l12 u12 e0
  refine ⟨bx_narP_ok (l := []) g.1, ?_⟩
  show rxPSMNF S0 ws S_p (some (bx_num r_p (.inr (0, (12, 0)))))
  rw [bx_xv_ok h0_]
  exact g.2
theorem rxgCMNF {X : (Nat → Int → Int) → Prop} {S0 : Nat → Int → Int} {ws : List Int} (hP : rxPMNF S0 ws) : bx_allI (fun i q => rxUMNF q = true ∨ bx_allP (fun o => bx_obC rxL X S0 rxC178.2.2.1 (rxIMNF S0 ws) (rxmMNF S0 ws) i q.1 o) q.2.1) 0 rxYMNF := ⟨Or.inr ⟨rxgMNF_0_0 hP, trivial⟩, Or.inl rfl, Or.inr ⟨rxgMNF_2_0 hP, trivial⟩, Or.inl rfl, Or.inr trivial, trivial⟩
theorem rxgEMNF {X : (Nat → Int → Int) → Prop} {S0 : Nat → Int → Int} {ws : List Int} (hP : rxPMNF S0 ws) : bx_allI (fun i q => rxUMNF q = true ∨ bx_allP (fun E => bx_obE rxL X S0 rxC178.2.2.1 (rxIMNF S0 ws) (rxPSMNF S0 ws) i q.1 E) q.2.2) 0 rxYMNF := ⟨Or.inr ⟨rxfMNF_0_0 hP, rxfMNF_0_1 hP, trivial⟩, Or.inl rfl, Or.inr ⟨rxfMNF_2_0 hP, trivial⟩, Or.inl rfl, Or.inr ⟨rxfMNF_4_0 hP, rxfMNF_4_1 hP, rxfMNF_4_2 hP, trivial⟩, trivial⟩
theorem rxuMNF {PX : State → Prop} {Dg : va_G} {A : Nat → Prop} {ad xa : Nat → Nat} {l : Launch} {X : (Nat → Int → Int) → Prop} (hPX : rx_PXOK rxNW A PX) (hX : ∀ S S1 : Nat → Int → Int, X S → bx_same rxL (bx_mdl rxC178.2.2.1) S S1 → X S1) (hQSDT : bx_ConP rxG rxNW rxAO PX Dg rxL X vwCl A ad l rxM130 rxC130 rxPSDT rxPSSDT) (hQMDF : bx_ConP rxG rxNW rxAO PX Dg rxL X vwCl A ad l rxM132 rxCMDF rxPMDF rxPSMDF) {S0 : Nat → Int → Int} {ws : List Int} (hP : rxPMNF S0 ws) : ∀ (i : Nat) (q : bx_HE), rxYMNF[i]? = some q → rxUMNF q = true → ∀ {p : Program} {e : Env} {R : Room} {s : State} {m : MethodId} {args : Array Value} {below : List Frame} {meth : Method} {c : Code} {Q : State → Prop} {H0 : Heap}, rx_Fr rxG rxNW rxAO PX p s m args meth c rxM178 → (∀ q, H0.size ≤ q → A q) → H0 = s.heap → rxM178.2.2.2.2.2.2.1 ≤ R.cells → rxM178.2.2.2.2.2.2.2 ≤ R.slots → rxC178.2.2.2.1 ≤ R.frames → rxC178.2.2.2.1 * 40 ≤ R.locals → bx_Step p l e R s m args below meth c Q Dg rxL X vwCl A xa H0 ad rxM178 rxYMNF (rxIMNF S0 ws) (rxmMNF S0 ws) S0 rxC178.2.2.1 i q := by
  intro i q hq hus p e R s m args below meth c Q H0 hF hA hH0 hmc hms hd hdl
  match i, hq with
  | 0, hq =>
    cases hq
    exact absurd (show false = true from hus) Bool.false_ne_true
  | 1, hq =>
    cases hq
    exact rx_stepC (ins := .invokevirtual 298) (len := 3) (i_p := 2) (M_p := rxM130) (d := rxC178.2.2.2.1) (as := [.inr (3, (0, 0)), .inr (0, (8, 0)), .inr (0, (9, 0)), .inr (0, (10, 0))]) (t := []) (ct := rxC130) hPX hF rfl hA hH0 hmc hms hd hdl (by decide +kernel) rfl rfl (by decide +kernel) (by decide +kernel) hQSDT (by decide +kernel) rfl (Or.inr ⟨_, _, _, 1, rfl, rfl, by omega, rfl, rfl, rfl⟩) (rxsMNF_1 hP)
  | 2, hq =>
    cases hq
    exact absurd (show false = true from hus) Bool.false_ne_true
  | 3, hq =>
    cases hq
    exact rx_stepC (ins := .invokevirtual 317) (len := 3) (i_p := 4) (M_p := rxM132) (d := rxC178.2.2.2.1) (as := [.inr (3, (0, 443)), .inr (0, (10, 0))]) (t := []) (ct := rxCMDF) hPX hF rfl hA hH0 hmc hms hd hdl (by decide +kernel) rfl rfl (by decide +kernel) (by decide +kernel) hQMDF (by decide +kernel) rfl (Or.inl ⟨rfl, rfl, rfl⟩) (rxsMNF_3 hP)
  | 4, hq =>
    cases hq
    exact absurd (show false = true from hus) Bool.false_ne_true
  | n + 5, hq => cases hq
theorem rxQMNF {PX : State → Prop} {Dg : va_G} {A : Nat → Prop} {ad xa : Nat → Nat} {l : Launch} {X : (Nat → Int → Int) → Prop} (hPX : rx_PXOK rxNW A PX) (hsl : ∀ s : State, PX s → ∀ o idx n : Nat, rxSl o idx = some n → ∃ tx : String, vk_R (rxNm o) idx tx (ad n) s)
    (hX : ∀ S S_p : Nat → Int → Int, X S → bx_same rxL (bx_mdl rxC178.2.2.1) S S_p → X S_p)
    (ih : ∀ (j2 : Nat) (ct2 : bx_Ct) (M2 : rx_Mt), ct2 ∈ rxCnE j2 → ct2.2.2.2.1 + 1 ≤ rxC178.2.2.2.1 → rxT.2.2.2.2.2 j2 = some M2 → bx_Con rxG rxNW rxAO PX Dg rxL X vwCl A ad l M2 ct2) (hQSDT : bx_ConP rxG rxNW rxAO PX Dg rxL X vwCl A ad l rxM130 rxC130 rxPSDT rxPSSDT) (hQMDF : bx_ConP rxG rxNW rxAO PX Dg rxL X vwCl A ad l rxM132 rxCMDF rxPMDF rxPSMDF) : bx_ConP rxG rxNW rxAO PX Dg rxL X vwCl A ad l rxM178 rxC178 rxPMNF rxPSMNF :=
  rxQof (xa := xa) (Cn := rxCnE) (f := 30000) (j := 178) (tab := rxYMNF) (us := rxUMNF) hPX hsl hX ih rfl rxYcMNF rxIMNF rxmMNF
    (fun S0 ws r I0 I ht0 ht as he he1 hX0 hI0 hP hs ha => by
      have e := he.symm.trans (show bx_ent0 rxNP rxC178.1 bx_I0 [] = some ([(0, 0), (0, 0), (0, 0), (0, 0), (0, 0), (0, 0), (0, 0), (0, 0), ((-2147483648), 2147483647), ((-2147483648), 2147483647), ((-2147483648), 2147483647), ((-2147483648), 2147483647)], [], [.inr (3, (0, 0)), .inr (0, (8, 0)), .inr (0, (9, 0)), .inr (0, (10, 0)), .inr (0, (11, 0))]) from rfl)
      cases e
      subst ha
      have h0 : r 0 = 0 := hs.1
      show rxIMNF_0 S0 _ S0 (r 8) (r 9) (r 10) (r 11)
      refine ⟨rfl, ?_⟩
      simp only [List.map_cons, List.map_nil, bx_xv_ok h0]
      rfl)
    (fun S0 ws hP => rxuMNF (xa := xa) hPX hX hQSDT hQMDF hP) (fun S0 ws hP => rxgCMNF hP) (fun S0 ws hP => rxgEMNF hP)
end
section
noncomputable def rxCSBF : bx_Ct := ([(3, (1, 0, 0)), (0, (0, 0, 1000002)), (0, (0, 0, 300))], some (0, (0, 0, 1000002)), [(1019, 0)], 2, [])
noncomputable def rxISBF_0 (S0 : Nat → Int → Int) (ws : List Int) (S : Nat → Int → Int) (s sl : Int) : Prop := S = S0 ∧ ws = [0, s, sl]
noncomputable def rxmSBF_0 (S0 : Nat → Int → Int) (ws : List Int) (S : Nat → Int → Int) (s sl : Int) : Nat := 1000
noncomputable def rxzSBF_0 : rx_Z := ([(0, 0), (0, 0), (0, 0), (0, 0), (0, 0), (0, 0), (0, 0), (0, 0), (0, 1000002), (0, 300)], [], [], 0, 0, 0, [(0, .inr (3, (0, 0))), (1, .inr (0, (8, 0))), (2, .inr (0, (9, 0)))], [])
noncomputable def rxISBF_1 (S0 : Nat → Int → Int) (ws : List Int) (S : Nat → Int → Int) (sl s2 i : Int) : Prop := rjdSm S0 S
noncomputable def rxmSBF_1 (S0 : Nat → Int → Int) (ws : List Int) (S : Nat → Int → Int) (sl s2 i : Int) : Nat := (100 - i).toNat
noncomputable def rxzSBF_1 : rx_Z := ([(0, 0), (0, 0), (0, 0), (0, 0), (0, 0), (0, 0), (0, 0), (0, 0), (0, 300), (0, 1000002), (0, 36)], [], [], 0, 0, 5, [(0, .inr (3, (0, 0))), (2, .inr (0, (8, 0))), (3, .inr (0, (9, 0))), (4, .inr (0, (10, 0)))], [])
noncomputable def rxoSBF_0_0 : bx_HO := (([(0, 0), (0, 0), (0, 0), (0, 0), (0, 0), (0, 0), (0, 0), (0, 0), (0, 1000002), (0, 300)], [], [], 0, 0, 5, [(4, .inr (0, (0, 0))), (3, .inr (0, (8, 0))), (0, .inr (3, (0, 0))), (1, .inr (0, (8, 0))), (2, .inr (0, (9, 0)))], []), [], [], [(0, 0), (0, 0), (0, 0), (0, 0), (0, 0), (0, 0), (0, 0), (0, 0), (9, 0), (8, 0), (0, 0)], 1)
noncomputable def rxoSBF_1_0 : bx_HO := (([(0, 0), (0, 0), (0, 0), (0, 0), (0, 0), (0, 0), (0, 0), (0, 0), (0, 300), (0, 1000002), (0, 35), (0, 5), (0, 5), (0, 1522), (0, 30), (0, 35), ((-1), (-1))], [(604462909807314587353100000000, (15, 0), (14, 0)), (10, (14, 0), (11, 0))], [(((0, 0), 1851192626986356797424386268496553644803585570598046466261909621000000), .inr (0, (16, 0))), (((0, 0), 1851192626986356797424340330377019318111018015026043177834119168000000), .inr (3, (13, 0))), (((0, 476), 0), .inr (3, (13, 0))), (((13, 0), 1000019), .inl none), (((0, 0), 17), .inr (3, (0, 476)))], 0, 0, 5, [(4, .inr (0, (10, 1))), (5, .inr (0, (16, 0))), (0, .inr (3, (0, 0))), (2, .inr (0, (8, 0))), (3, .inr (0, (9, 0)))], []), [], [], [(0, 0), (0, 0), (0, 0), (0, 0), (0, 0), (0, 0), (0, 0), (0, 0), (8, 0), (9, 0), (10, 1)], 1)
noncomputable def rxoSBF_1_1 : bx_HO := (([(0, 0), (0, 0), (0, 0), (0, 0), (0, 0), (0, 0), (0, 0), (0, 0), (1, 300), (0, 1000002), (0, 35), (0, 5), (0, 5), (0, 1522), (0, 30), (0, 35), (0, 8), (0, 1103002206), (0, 1000002), (0, 99), (0, 5), (0, 5), (0, 30), (0, 35)], [(604462909807314587353109000000, (23, 0), (22, 0)), (10, (22, 0), (20, 0)), (0, (19, 0), (8, 0)), (1107, (17, 0), (9, 0)), (604462909807314587353100000000, (15, 0), (14, 0)), (10, (14, 0), (11, 0))], [(((0, 0), 1851192626986356797424410768826971952372954933569781553573134456000000), .inr (0, (16, 1))), (((0, 0), 1851192626986356797424386268496553644803585570598046466261909621000000), .inr (0, (16, 0))), (((0, 0), 1851192626986356797424340330377019318111018015026043177834119168000000), .inr (3, (13, 0))), (((0, 476), 0), .inr (3, (13, 0))), (((13, 0), 1000019), .inl none), (((0, 0), 17), .inr (3, (0, 476)))], 0, 0, 5, [(4, .inr (0, (10, 1))), (3, .inr (0, (18, 0))), (5, .inr (0, (16, 0))), (0, .inr (3, (0, 0))), (2, .inr (0, (8, 0)))], []), [], [], [(0, 0), (0, 0), (0, 0), (0, 0), (0, 0), (0, 0), (0, 0), (0, 0), (8, 0), (18, 0), (10, 1)], 1)
noncomputable def rxoSBF_1_2 : bx_HO := (([(0, 0), (0, 0), (0, 0), (0, 0), (0, 0), (0, 0), (0, 0), (0, 0), (1, 300), (0, 1000002), (0, 35), (0, 5), (0, 5), (0, 1522), (0, 30), (0, 35), (9, 9), (0, 1103002206), (0, 1000002), (0, 99), (0, 5), (0, 5), (0, 30), (0, 35)], [(604462909807314587353109000000, (23, 0), (22, 0)), (10, (22, 0), (20, 0)), (0, (19, 0), (8, 0)), (1107, (17, 0), (9, 0)), (604462909807314587353100000000, (15, 0), (14, 0)), (10, (14, 0), (11, 0))], [(((0, 0), 1851192626986356797424410768826971952372954933569781553573134456000000), .inr (0, (0, 0))), (((0, 0), 1851192626986356797424386268496553644803585570598046466261909621000000), .inr (0, (16, 0))), (((0, 0), 1851192626986356797424340330377019318111018015026043177834119168000000), .inr (3, (13, 0))), (((0, 476), 0), .inr (3, (13, 0))), (((13, 0), 1000019), .inl none), (((0, 0), 17), .inr (3, (0, 476)))], 0, 0, 5, [(4, .inr (0, (10, 1))), (3, .inr (0, (18, 0))), (5, .inr (0, (16, 0))), (0, .inr (3, (0, 0))), (2, .inr (0, (8, 0)))], []), [], [], [(0, 0), (0, 0), (0, 0), (0, 0), (0, 0), (0, 0), (0, 0), (0, 0), (8, 0), (18, 0), (10, 1)], 1)
noncomputable def rxoSBF_1_3 : bx_HO := (([(0, 0), (0, 0), (0, 0), (0, 0), (0, 0), (0, 0), (0, 0), (0, 0), (0, 99), (0, 1000002), (0, 35), (0, 5), (0, 5), (0, 1522), (0, 30), (0, 35), (0, 9), (0, 1103002206), (0, 1000002), (0, 99)], [(1, (8, 0), (19, 0)), (1107, (17, 0), (9, 0)), (604462909807314587353100000000, (15, 0), (14, 0)), (10, (14, 0), (11, 0))], [(((0, 0), 1851192626986356797424386268496553644803585570598046466261909621000000), .inr (0, (16, 0))), (((0, 0), 1851192626986356797424340330377019318111018015026043177834119168000000), .inr (3, (13, 0))), (((0, 476), 0), .inr (3, (13, 0))), (((13, 0), 1000019), .inl none), (((0, 0), 17), .inr (3, (0, 476)))], 0, 0, 5, [(4, .inr (0, (10, 1))), (3, .inr (0, (18, 0))), (5, .inr (0, (16, 0))), (0, .inr (3, (0, 0))), (2, .inr (0, (8, 0)))], []), [], [], [(0, 0), (0, 0), (0, 0), (0, 0), (0, 0), (0, 0), (0, 0), (0, 0), (8, 0), (18, 0), (10, 1)], 1)
noncomputable def rxeSBF_1_0 : rx_End × List (Nat × Int × Int) := (([(0, 0), (0, 0), (0, 0), (0, 0), (0, 0), (0, 0), (0, 0), (0, 0), (0, 300), (0, 1000002), (36, 36)], [], [], some (.inr (0, (9, 0)))), [])
noncomputable def rxYSBF : List bx_HE := [(rxzSBF_0, [rxoSBF_0_0], []), (rxzSBF_1, [rxoSBF_1_0, rxoSBF_1_1, rxoSBF_1_2, rxoSBF_1_3], [rxeSBF_1_0])]
noncomputable def rxUSBF (q : bx_HE) : Bool := false
noncomputable def rxYBSBF : bx_B := (rxV, rxNP, rxDmf, bx_mdH rxCSBF.2.2.1)
set_option maxRecDepth 100000 in
theorem rxYcSBF : bx_chkH rxYBSBF rxM156 rxCSBF rxYSBF (rxUSBF, fun cut z => rx_ex2 (rxCT rxYBSBF rxCnE) cut 30000 rxCSBF.2.2.2.1 156 z) = true := by decide +kernel
noncomputable def rxISBF (S0 : Nat → Int → Int) (ws : List Int) (i : Nat) : bx_SP := fun S r => match i with | 0 => rxISBF_0 S0 ws S (r 8) (r 9) | 1 => rxISBF_1 S0 ws S (r 8) (r 9) (r 10) | _ => False
noncomputable def rxmSBF (S0 : Nat → Int → Int) (ws : List Int) (i : Nat) (S : Nat → Int → Int) (r : Nat → Int) : Nat := match i with | 0 => rxmSBF_0 S0 ws S (r 8) (r 9) | 1 => rxmSBF_1 S0 ws S (r 8) (r 9) (r 10) | _ => 0
noncomputable def rxPSBF (S0 : Nat → Int → Int) (ws : List Int) : Prop := rkDu S0
noncomputable def rxPSSBF (S0 : Nat → Int → Int) (ws : List Int) (S : Nat → Int → Int) (w : Option Int) : Prop := rjdSm S0 S
theorem rxcSBF_0_0 {S0 : Nat → Int → Int} {ws : List Int} {S : Nat → Int → Int} {s sl : Int} (hP : rxPSBF S0 ws) (hin : bx_same rxL (bx_mdl rxCSBF.2.2.1) S0 S) (I0 : bx_Inv rxL S) (hinv : rxISBF_0 S0 ws S s sl) (l8 : 0 ≤ s) (u8 : s ≤ 1000002) (l9 : 0 ≤ sl) (u9 : sl ≤ 300) : (True) ∧ (True) ∧ rxISBF_1 S0 ws S sl s 0 ∧ rxmSBF_1 S0 ws S sl s 0 < rxmSBF_0 S0 ws S s sl := by
  obtain ⟨rfl, hw⟩ := hinv
  exact ⟨trivial, trivial, rjdSm_r, by unfold rxmSBF_0 rxmSBF_1; omega⟩
theorem rxgSBF_0_0 {X : (Nat → Int → Int) → Prop} {S0 : Nat → Int → Int} {ws : List Int} (hP : rxPSBF S0 ws) : bx_obC rxL X S0 rxCSBF.2.2.1 (rxISBF S0 ws) (rxmSBF S0 ws) 0 rxzSBF_0 rxoSBF_0_0 := by
  intro S S_p r r_p hinv hX hin hsm_ hseg
  obtain ⟨I0, I1, h0_, hr_, b_, f_, d_⟩ := bx_cl (evs := []) (fvs := []) hseg (by decide +kernel) (by decide +kernel)
  have hinv : rxISBF_0 S0 ws S (r 8) (r 9) := hinv
  rw [← hr_ 8 (by decide), ← hr_ 9 (by decide)] at hinv
  obtain ⟨⟨l8, u8⟩, ⟨l9, u9⟩, -⟩ := b_
  have w_ := d_
  subst w_
  have g := rxcSBF_0_0 hP hin I0 hinv l8 u8 l9 u9
  refine ⟨bx_narP_ok (l := []) g.1, bx_nfP_ok h0_ (fvs := []) (by decide +kernel) g.2.1, ?_, ?_⟩
  · show rxISBF_1 S0 ws S_p (bx_val [(0, 0), (0, 0), (0, 0), (0, 0), (0, 0), (0, 0), (0, 0), (0, 0), (9, 0), (8, 0), (0, 0)] r_p 8) (bx_val [(0, 0), (0, 0), (0, 0), (0, 0), (0, 0), (0, 0), (0, 0), (0, 0), (9, 0), (8, 0), (0, 0)] r_p 9) (bx_val [(0, 0), (0, 0), (0, 0), (0, 0), (0, 0), (0, 0), (0, 0), (0, 0), (9, 0), (8, 0), (0, 0)] r_p 10)
    rw [bx_val_x (n := 8) (e := (9, 0)) h0_ rfl, bx_val_x (n := 9) (e := (8, 0)) h0_ rfl, bx_val_x (n := 10) (e := (0, 0)) h0_ rfl]
    exact g.2.2.1
  · show rxmSBF_1 S0 ws S_p (bx_val [(0, 0), (0, 0), (0, 0), (0, 0), (0, 0), (0, 0), (0, 0), (0, 0), (9, 0), (8, 0), (0, 0)] r_p 8) (bx_val [(0, 0), (0, 0), (0, 0), (0, 0), (0, 0), (0, 0), (0, 0), (0, 0), (9, 0), (8, 0), (0, 0)] r_p 9) (bx_val [(0, 0), (0, 0), (0, 0), (0, 0), (0, 0), (0, 0), (0, 0), (0, 0), (9, 0), (8, 0), (0, 0)] r_p 10) < rxmSBF_0 S0 ws S_p (r 8) (r 9)
    rw [bx_val_x (n := 8) (e := (9, 0)) h0_ rfl, bx_val_x (n := 9) (e := (8, 0)) h0_ rfl, bx_val_x (n := 10) (e := (0, 0)) h0_ rfl, ← hr_ 8 (by decide), ← hr_ 9 (by decide)]
    exact g.2.2.2
theorem rxcSBF_1_0 {S0 : Nat → Int → Int} {ws : List Int} {S : Nat → Int → Int} {sl s2 i x11 x12 x13 x14 x15 x16 : Int} (hP : rxPSBF S0 ws) (hin : bx_same rxL (bx_mdl rxCSBF.2.2.1) S0 S) (I0 : bx_Inv rxL S) (hinv : rxISBF_1 S0 ws S sl s2 i) (l8 : 0 ≤ sl) (u8 : sl ≤ 300) (l9 : 0 ≤ s2) (u9 : s2 ≤ 1000002) (l10 : 0 ≤ i) (u10 : i ≤ 35) (l11 : 0 ≤ x11) (u11 : x11 ≤ 5) (l12 : 0 ≤ x12) (u12 : x12 ≤ 5) (l13 : 0 ≤ x13) (u13 : x13 ≤ 1522) (l14 : 0 ≤ x14) (u14 : x14 ≤ 30) (l15 : 0 ≤ x15) (u15 : x15 ≤ 35) (l16 : (-1) ≤ x16) (u16 : x16 ≤ (-1)) (f0 : x15 = x14 + x12) (f1 : x14 = 6 * (x11)) (e1 : S 476 0 = x13) (e0 : S (x13).toNat x15 = x16) : (True) ∧ (True) ∧ rxISBF_1 S0 ws S sl s2 (i + 1) ∧ rxmSBF_1 S0 ws S sl s2 (i + 1) < rxmSBF_1 S0 ws S sl s2 i := by
  have hf : rjdSm S0 S := hinv
  exact ⟨trivial, trivial, rjdSm_t hf rjdSm_r, by unfold rxmSBF_1; omega⟩
theorem rxgSBF_1_0 {X : (Nat → Int → Int) → Prop} {S0 : Nat → Int → Int} {ws : List Int} (hP : rxPSBF S0 ws) : bx_obC rxL X S0 rxCSBF.2.2.1 (rxISBF S0 ws) (rxmSBF S0 ws) 1 rxzSBF_1 rxoSBF_1_0 := by
  intro S S_p r r_p hinv hX hin hsm_ hseg
  obtain ⟨I0, I1, h0_, hr_, b_, f_, d_⟩ := bx_cl (evs := [(0, (13, 0), (15, 0), .inr (0, (16, 0))), (0, (0, 476), (0, 0), .inr (3, (13, 0)))]) (fvs := [(5, (15, 0), (14, 0), (12, 0)), (4, (14, 0), (11, 0), (0, 6))]) hseg (by decide +kernel) (by decide +kernel)
  have hinv : rxISBF_1 S0 ws S (r 8) (r 9) (r 10) := hinv
  rw [← hr_ 8 (by decide), ← hr_ 9 (by decide), ← hr_ 10 (by decide)] at hinv
  obtain ⟨⟨l8, u8⟩, ⟨l9, u9⟩, ⟨l10, u10⟩, ⟨l11, u11⟩, ⟨l12, u12⟩, ⟨l13, u13⟩, ⟨l14, u14⟩, ⟨l15, u15⟩, ⟨l16, u16⟩, -⟩ := b_
  obtain ⟨f0, f1, -⟩ := f_
  obtain ⟨e0, ⟨e1, w_⟩⟩ := d_
  subst w_
  have g := rxcSBF_1_0 hP hin I0 hinv l8 u8 l9 u9 l10 u10 l11 u11 l12 u12 l13 u13 l14 u14 l15 u15 l16 u16 f0 f1 e1 e0
  refine ⟨bx_narP_ok (l := []) g.1, bx_nfP_ok h0_ (fvs := []) (by decide +kernel) g.2.1, ?_, ?_⟩
  · show rxISBF_1 S0 ws S_p (bx_val [(0, 0), (0, 0), (0, 0), (0, 0), (0, 0), (0, 0), (0, 0), (0, 0), (8, 0), (9, 0), (10, 1)] r_p 8) (bx_val [(0, 0), (0, 0), (0, 0), (0, 0), (0, 0), (0, 0), (0, 0), (0, 0), (8, 0), (9, 0), (10, 1)] r_p 9) (bx_val [(0, 0), (0, 0), (0, 0), (0, 0), (0, 0), (0, 0), (0, 0), (0, 0), (8, 0), (9, 0), (10, 1)] r_p 10)
    rw [bx_val_x (n := 8) (e := (8, 0)) h0_ rfl, bx_val_x (n := 9) (e := (9, 0)) h0_ rfl, bx_val_x (n := 10) (e := (10, 1)) h0_ rfl]
    exact g.2.2.1
  · show rxmSBF_1 S0 ws S_p (bx_val [(0, 0), (0, 0), (0, 0), (0, 0), (0, 0), (0, 0), (0, 0), (0, 0), (8, 0), (9, 0), (10, 1)] r_p 8) (bx_val [(0, 0), (0, 0), (0, 0), (0, 0), (0, 0), (0, 0), (0, 0), (0, 0), (8, 0), (9, 0), (10, 1)] r_p 9) (bx_val [(0, 0), (0, 0), (0, 0), (0, 0), (0, 0), (0, 0), (0, 0), (0, 0), (8, 0), (9, 0), (10, 1)] r_p 10) < rxmSBF_1 S0 ws S_p (r 8) (r 9) (r 10)
    rw [bx_val_x (n := 8) (e := (8, 0)) h0_ rfl, bx_val_x (n := 9) (e := (9, 0)) h0_ rfl, bx_val_x (n := 10) (e := (10, 1)) h0_ rfl, ← hr_ 8 (by decide), ← hr_ 9 (by decide), ← hr_ 10 (by decide)]
    exact g.2.2.2
theorem rxcSBF_1_1 {S0 : Nat → Int → Int} {ws : List Int} {S : Nat → Int → Int} {sl s2 i x11 x12 x13 x14 x15 x16 x17 x18 x19 x20 x21 x22 x23 : Int} (hP : rxPSBF S0 ws) (hin : bx_same rxL (bx_mdl rxCSBF.2.2.1) S0 S) (I0 : bx_Inv rxL S) (hinv : rxISBF_1 S0 ws S sl s2 i) (l8 : 1 ≤ sl) (u8 : sl ≤ 300) (l9 : 0 ≤ s2) (u9 : s2 ≤ 1000002) (l10 : 0 ≤ i) (u10 : i ≤ 35) (l11 : 0 ≤ x11) (u11 : x11 ≤ 5) (l12 : 0 ≤ x12) (u12 : x12 ≤ 5) (l13 : 0 ≤ x13) (u13 : x13 ≤ 1522) (l14 : 0 ≤ x14) (u14 : x14 ≤ 30) (l15 : 0 ≤ x15) (u15 : x15 ≤ 35) (l16 : 0 ≤ x16) (u16 : x16 ≤ 8) (l17 : 0 ≤ x17) (u17 : x17 ≤ 1103002206) (l18 : 0 ≤ x18) (u18 : x18 ≤ 1000002) (l19 : 0 ≤ x19) (u19 : x19 ≤ 99) (l20 : 0 ≤ x20) (u20 : x20 ≤ 5) (l21 : 0 ≤ x21) (u21 : x21 ≤ 5) (l22 : 0 ≤ x22) (u22 : x22 ≤ 30) (l23 : 0 ≤ x23) (u23 : x23 ≤ 35) (f0 : x23 = x22 + x21) (f1 : x22 = 6 * (x20)) (f2 : x19 < sl) (f3 : x17 = 1103 * (s2)) (f4 : x15 = x14 + x12) (f5 : x14 = 6 * (x11)) (e2 : S 476 0 = x13) (e1 : S (x13).toNat x15 = x16) : (True) ∧ (True) ∧ rxISBF_1 S0 ws (bx_up S (x13).toNat x23 (x16 + 1)) sl x18 (i + 1) ∧ rxmSBF_1 S0 ws (bx_up S (x13).toNat x23 (x16 + 1)) sl x18 (i + 1) < rxmSBF_1 S0 ws S sl s2 i := by
  have hf : rjdSm S0 S := hinv
  have hd := rkDu_sm hin (by decide +kernel) hP
  have a0 : x13 = 477 := e2.symm.trans hd.2.2.1
  exact ⟨trivial, trivial, rjdSm_t hf (fun p t a b c => bx_up_ne (by omega)), by unfold rxmSBF_1; omega⟩
theorem rxgSBF_1_1 {X : (Nat → Int → Int) → Prop} {S0 : Nat → Int → Int} {ws : List Int} (hP : rxPSBF S0 ws) : bx_obC rxL X S0 rxCSBF.2.2.1 (rxISBF S0 ws) (rxmSBF S0 ws) 1 rxzSBF_1 rxoSBF_1_1 := by
  intro S S_p r r_p hinv hX hin hsm_ hseg
  obtain ⟨I0, I1, h0_, hr_, b_, f_, d_⟩ := bx_cl (evs := [(1, (13, 0), (23, 0), .inr (0, (16, 1))), (0, (13, 0), (15, 0), .inr (0, (16, 0))), (0, (0, 476), (0, 0), .inr (3, (13, 0)))]) (fvs := [(5, (23, 0), (22, 0), (21, 0)), (4, (22, 0), (20, 0), (0, 6)), (0, (19, 0), (8, 0), (0, 0)), (4, (17, 0), (9, 0), (0, 1103)), (5, (15, 0), (14, 0), (12, 0)), (4, (14, 0), (11, 0), (0, 6))]) hseg (by decide +kernel) (by decide +kernel)
  have hinv : rxISBF_1 S0 ws S (r 8) (r 9) (r 10) := hinv
  rw [← hr_ 8 (by decide), ← hr_ 9 (by decide), ← hr_ 10 (by decide)] at hinv
  obtain ⟨⟨l8, u8⟩, ⟨l9, u9⟩, ⟨l10, u10⟩, ⟨l11, u11⟩, ⟨l12, u12⟩, ⟨l13, u13⟩, ⟨l14, u14⟩, ⟨l15, u15⟩, ⟨l16, u16⟩, ⟨l17, u17⟩, ⟨l18, u18⟩, ⟨l19, u19⟩, ⟨l20, u20⟩, ⟨l21, u21⟩, ⟨l22, u22⟩, ⟨l23, u23⟩, -⟩ := b_
  obtain ⟨f0, f1, f2, f3, f4, f5, -⟩ := f_
  obtain ⟨T0, ⟨e1, ⟨e2, w_⟩⟩, w0⟩ := d_
  subst w0
  subst w_
  have g := rxcSBF_1_1 hP hin I0 hinv l8 u8 l9 u9 l10 u10 l11 u11 l12 u12 l13 u13 l14 u14 l15 u15 l16 u16 l17 u17 l18 u18 l19 u19 l20 u20 l21 u21 l22 u22 l23 u23 f0 f1 f2 f3 f4 f5 e2 e1
  refine ⟨bx_narP_ok (l := []) g.1, bx_nfP_ok h0_ (fvs := []) (by decide +kernel) g.2.1, ?_, ?_⟩
  · show rxISBF_1 S0 ws (bx_up T0 (r_p 13).toNat (r_p 23) (r_p 16 + 1)) (bx_val [(0, 0), (0, 0), (0, 0), (0, 0), (0, 0), (0, 0), (0, 0), (0, 0), (8, 0), (18, 0), (10, 1)] r_p 8) (bx_val [(0, 0), (0, 0), (0, 0), (0, 0), (0, 0), (0, 0), (0, 0), (0, 0), (8, 0), (18, 0), (10, 1)] r_p 9) (bx_val [(0, 0), (0, 0), (0, 0), (0, 0), (0, 0), (0, 0), (0, 0), (0, 0), (8, 0), (18, 0), (10, 1)] r_p 10)
    rw [bx_val_x (n := 8) (e := (8, 0)) h0_ rfl, bx_val_x (n := 9) (e := (18, 0)) h0_ rfl, bx_val_x (n := 10) (e := (10, 1)) h0_ rfl]
    exact g.2.2.1
  · show rxmSBF_1 S0 ws (bx_up T0 (r_p 13).toNat (r_p 23) (r_p 16 + 1)) (bx_val [(0, 0), (0, 0), (0, 0), (0, 0), (0, 0), (0, 0), (0, 0), (0, 0), (8, 0), (18, 0), (10, 1)] r_p 8) (bx_val [(0, 0), (0, 0), (0, 0), (0, 0), (0, 0), (0, 0), (0, 0), (0, 0), (8, 0), (18, 0), (10, 1)] r_p 9) (bx_val [(0, 0), (0, 0), (0, 0), (0, 0), (0, 0), (0, 0), (0, 0), (0, 0), (8, 0), (18, 0), (10, 1)] r_p 10) < rxmSBF_1 S0 ws T0 (r 8) (r 9) (r 10)
    rw [bx_val_x (n := 8) (e := (8, 0)) h0_ rfl, bx_val_x (n := 9) (e := (18, 0)) h0_ rfl, bx_val_x (n := 10) (e := (10, 1)) h0_ rfl, ← hr_ 8 (by decide), ← hr_ 9 (by decide), ← hr_ 10 (by decide)]
    exact g.2.2.2
theorem rxcSBF_1_2 {S0 : Nat → Int → Int} {ws : List Int} {S : Nat → Int → Int} {sl s2 i x11 x12 x13 x14 x15 x16 x17 x18 x19 x20 x21 x22 x23 : Int} (hP : rxPSBF S0 ws) (hin : bx_same rxL (bx_mdl rxCSBF.2.2.1) S0 S) (I0 : bx_Inv rxL S) (hinv : rxISBF_1 S0 ws S sl s2 i) (l8 : 1 ≤ sl) (u8 : sl ≤ 300) (l9 : 0 ≤ s2) (u9 : s2 ≤ 1000002) (l10 : 0 ≤ i) (u10 : i ≤ 35) (l11 : 0 ≤ x11) (u11 : x11 ≤ 5) (l12 : 0 ≤ x12) (u12 : x12 ≤ 5) (l13 : 0 ≤ x13) (u13 : x13 ≤ 1522) (l14 : 0 ≤ x14) (u14 : x14 ≤ 30) (l15 : 0 ≤ x15) (u15 : x15 ≤ 35) (l16 : 9 ≤ x16) (u16 : x16 ≤ 9) (l17 : 0 ≤ x17) (u17 : x17 ≤ 1103002206) (l18 : 0 ≤ x18) (u18 : x18 ≤ 1000002) (l19 : 0 ≤ x19) (u19 : x19 ≤ 99) (l20 : 0 ≤ x20) (u20 : x20 ≤ 5) (l21 : 0 ≤ x21) (u21 : x21 ≤ 5) (l22 : 0 ≤ x22) (u22 : x22 ≤ 30) (l23 : 0 ≤ x23) (u23 : x23 ≤ 35) (f0 : x23 = x22 + x21) (f1 : x22 = 6 * (x20)) (f2 : x19 < sl) (f3 : x17 = 1103 * (s2)) (f4 : x15 = x14 + x12) (f5 : x14 = 6 * (x11)) (e2 : S 476 0 = x13) (e1 : S (x13).toNat x15 = x16) : (True) ∧ (True) ∧ rxISBF_1 S0 ws (bx_up S (x13).toNat x23 0) sl x18 (i + 1) ∧ rxmSBF_1 S0 ws (bx_up S (x13).toNat x23 0) sl x18 (i + 1) < rxmSBF_1 S0 ws S sl s2 i := by
  have hf : rjdSm S0 S := hinv
  have hd := rkDu_sm hin (by decide +kernel) hP
  have a0 : x13 = 477 := e2.symm.trans hd.2.2.1
  exact ⟨trivial, trivial, rjdSm_t hf (fun p t a b c => bx_up_ne (by omega)), by unfold rxmSBF_1; omega⟩
theorem rxgSBF_1_2 {X : (Nat → Int → Int) → Prop} {S0 : Nat → Int → Int} {ws : List Int} (hP : rxPSBF S0 ws) : bx_obC rxL X S0 rxCSBF.2.2.1 (rxISBF S0 ws) (rxmSBF S0 ws) 1 rxzSBF_1 rxoSBF_1_2 := by
  intro S S_p r r_p hinv hX hin hsm_ hseg
  obtain ⟨I0, I1, h0_, hr_, b_, f_, d_⟩ := bx_cl (evs := [(1, (13, 0), (23, 0), .inr (0, (0, 0))), (0, (13, 0), (15, 0), .inr (0, (16, 0))), (0, (0, 476), (0, 0), .inr (3, (13, 0)))]) (fvs := [(5, (23, 0), (22, 0), (21, 0)), (4, (22, 0), (20, 0), (0, 6)), (0, (19, 0), (8, 0), (0, 0)), (4, (17, 0), (9, 0), (0, 1103)), (5, (15, 0), (14, 0), (12, 0)), (4, (14, 0), (11, 0), (0, 6))]) hseg (by decide +kernel) (by decide +kernel)
  have hinv : rxISBF_1 S0 ws S (r 8) (r 9) (r 10) := hinv
  rw [← hr_ 8 (by decide), ← hr_ 9 (by decide), ← hr_ 10 (by decide)] at hinv
  obtain ⟨⟨l8, u8⟩, ⟨l9, u9⟩, ⟨l10, u10⟩, ⟨l11, u11⟩, ⟨l12, u12⟩, ⟨l13, u13⟩, ⟨l14, u14⟩, ⟨l15, u15⟩, ⟨l16, u16⟩, ⟨l17, u17⟩, ⟨l18, u18⟩, ⟨l19, u19⟩, ⟨l20, u20⟩, ⟨l21, u21⟩, ⟨l22, u22⟩, ⟨l23, u23⟩, -⟩ := b_
  obtain ⟨f0, f1, f2, f3, f4, f5, -⟩ := f_
  obtain ⟨T0, ⟨e1, ⟨e2, w_⟩⟩, w0⟩ := d_
  subst w0
  subst w_
  have g := rxcSBF_1_2 hP hin I0 hinv l8 u8 l9 u9 l10 u10 l11 u11 l12 u12 l13 u13 l14 u14 l15 u15 l16 u16 l17 u17 l18 u18 l19 u19 l20 u20 l21 u21 l22 u22 l23 u23 f0 f1 f2 f3 f4 f5 e2 e1
  refine ⟨bx_narP_ok (l := []) g.1, bx_nfP_ok h0_ (fvs := []) (by decide +kernel) g.2.1, ?_, ?_⟩
  · show rxISBF_1 S0 ws (bx_up T0 (r_p 13).toNat (r_p 23) (0)) (bx_val [(0, 0), (0, 0), (0, 0), (0, 0), (0, 0), (0, 0), (0, 0), (0, 0), (8, 0), (18, 0), (10, 1)] r_p 8) (bx_val [(0, 0), (0, 0), (0, 0), (0, 0), (0, 0), (0, 0), (0, 0), (0, 0), (8, 0), (18, 0), (10, 1)] r_p 9) (bx_val [(0, 0), (0, 0), (0, 0), (0, 0), (0, 0), (0, 0), (0, 0), (0, 0), (8, 0), (18, 0), (10, 1)] r_p 10)
    rw [bx_val_x (n := 8) (e := (8, 0)) h0_ rfl, bx_val_x (n := 9) (e := (18, 0)) h0_ rfl, bx_val_x (n := 10) (e := (10, 1)) h0_ rfl]
    exact g.2.2.1
  · show rxmSBF_1 S0 ws (bx_up T0 (r_p 13).toNat (r_p 23) (0)) (bx_val [(0, 0), (0, 0), (0, 0), (0, 0), (0, 0), (0, 0), (0, 0), (0, 0), (8, 0), (18, 0), (10, 1)] r_p 8) (bx_val [(0, 0), (0, 0), (0, 0), (0, 0), (0, 0), (0, 0), (0, 0), (0, 0), (8, 0), (18, 0), (10, 1)] r_p 9) (bx_val [(0, 0), (0, 0), (0, 0), (0, 0), (0, 0), (0, 0), (0, 0), (0, 0), (8, 0), (18, 0), (10, 1)] r_p 10) < rxmSBF_1 S0 ws T0 (r 8) (r 9) (r 10)
    rw [bx_val_x (n := 8) (e := (8, 0)) h0_ rfl, bx_val_x (n := 9) (e := (18, 0)) h0_ rfl, bx_val_x (n := 10) (e := (10, 1)) h0_ rfl, ← hr_ 8 (by decide), ← hr_ 9 (by decide), ← hr_ 10 (by decide)]
    exact g.2.2.2
theorem rxcSBF_1_3 {S0 : Nat → Int → Int} {ws : List Int} {S : Nat → Int → Int} {sl s2 i x11 x12 x13 x14 x15 x16 x17 x18 x19 : Int} (hP : rxPSBF S0 ws) (hin : bx_same rxL (bx_mdl rxCSBF.2.2.1) S0 S) (I0 : bx_Inv rxL S) (hinv : rxISBF_1 S0 ws S sl s2 i) (l8 : 0 ≤ sl) (u8 : sl ≤ 99) (l9 : 0 ≤ s2) (u9 : s2 ≤ 1000002) (l10 : 0 ≤ i) (u10 : i ≤ 35) (l11 : 0 ≤ x11) (u11 : x11 ≤ 5) (l12 : 0 ≤ x12) (u12 : x12 ≤ 5) (l13 : 0 ≤ x13) (u13 : x13 ≤ 1522) (l14 : 0 ≤ x14) (u14 : x14 ≤ 30) (l15 : 0 ≤ x15) (u15 : x15 ≤ 35) (l16 : 0 ≤ x16) (u16 : x16 ≤ 9) (l17 : 0 ≤ x17) (u17 : x17 ≤ 1103002206) (l18 : 0 ≤ x18) (u18 : x18 ≤ 1000002) (l19 : 0 ≤ x19) (u19 : x19 ≤ 99) (f0 : sl ≤ x19) (f1 : x17 = 1103 * (s2)) (f2 : x15 = x14 + x12) (f3 : x14 = 6 * (x11)) (e1 : S 476 0 = x13) (e0 : S (x13).toNat x15 = x16) : (True) ∧ (True) ∧ rxISBF_1 S0 ws S sl x18 (i + 1) ∧ rxmSBF_1 S0 ws S sl x18 (i + 1) < rxmSBF_1 S0 ws S sl s2 i := by
  have hf : rjdSm S0 S := hinv
  exact ⟨trivial, trivial, rjdSm_t hf rjdSm_r, by unfold rxmSBF_1; omega⟩
theorem rxgSBF_1_3 {X : (Nat → Int → Int) → Prop} {S0 : Nat → Int → Int} {ws : List Int} (hP : rxPSBF S0 ws) : bx_obC rxL X S0 rxCSBF.2.2.1 (rxISBF S0 ws) (rxmSBF S0 ws) 1 rxzSBF_1 rxoSBF_1_3 := by
  intro S S_p r r_p hinv hX hin hsm_ hseg
  obtain ⟨I0, I1, h0_, hr_, b_, f_, d_⟩ := bx_cl (evs := [(0, (13, 0), (15, 0), .inr (0, (16, 0))), (0, (0, 476), (0, 0), .inr (3, (13, 0)))]) (fvs := [(1, (8, 0), (19, 0), (0, 0)), (4, (17, 0), (9, 0), (0, 1103)), (5, (15, 0), (14, 0), (12, 0)), (4, (14, 0), (11, 0), (0, 6))]) hseg (by decide +kernel) (by decide +kernel)
  have hinv : rxISBF_1 S0 ws S (r 8) (r 9) (r 10) := hinv
  rw [← hr_ 8 (by decide), ← hr_ 9 (by decide), ← hr_ 10 (by decide)] at hinv
  obtain ⟨⟨l8, u8⟩, ⟨l9, u9⟩, ⟨l10, u10⟩, ⟨l11, u11⟩, ⟨l12, u12⟩, ⟨l13, u13⟩, ⟨l14, u14⟩, ⟨l15, u15⟩, ⟨l16, u16⟩, ⟨l17, u17⟩, ⟨l18, u18⟩, ⟨l19, u19⟩, -⟩ := b_
  obtain ⟨f0, f1, f2, f3, -⟩ := f_
  obtain ⟨e0, ⟨e1, w_⟩⟩ := d_
  subst w_
  have g := rxcSBF_1_3 hP hin I0 hinv l8 u8 l9 u9 l10 u10 l11 u11 l12 u12 l13 u13 l14 u14 l15 u15 l16 u16 l17 u17 l18 u18 l19 u19 f0 f1 f2 f3 e1 e0
  refine ⟨bx_narP_ok (l := []) g.1, bx_nfP_ok h0_ (fvs := []) (by decide +kernel) g.2.1, ?_, ?_⟩
  · show rxISBF_1 S0 ws S_p (bx_val [(0, 0), (0, 0), (0, 0), (0, 0), (0, 0), (0, 0), (0, 0), (0, 0), (8, 0), (18, 0), (10, 1)] r_p 8) (bx_val [(0, 0), (0, 0), (0, 0), (0, 0), (0, 0), (0, 0), (0, 0), (0, 0), (8, 0), (18, 0), (10, 1)] r_p 9) (bx_val [(0, 0), (0, 0), (0, 0), (0, 0), (0, 0), (0, 0), (0, 0), (0, 0), (8, 0), (18, 0), (10, 1)] r_p 10)
    rw [bx_val_x (n := 8) (e := (8, 0)) h0_ rfl, bx_val_x (n := 9) (e := (18, 0)) h0_ rfl, bx_val_x (n := 10) (e := (10, 1)) h0_ rfl]
    exact g.2.2.1
  · show rxmSBF_1 S0 ws S_p (bx_val [(0, 0), (0, 0), (0, 0), (0, 0), (0, 0), (0, 0), (0, 0), (0, 0), (8, 0), (18, 0), (10, 1)] r_p 8) (bx_val [(0, 0), (0, 0), (0, 0), (0, 0), (0, 0), (0, 0), (0, 0), (0, 0), (8, 0), (18, 0), (10, 1)] r_p 9) (bx_val [(0, 0), (0, 0), (0, 0), (0, 0), (0, 0), (0, 0), (0, 0), (0, 0), (8, 0), (18, 0), (10, 1)] r_p 10) < rxmSBF_1 S0 ws S_p (r 8) (r 9) (r 10)
    rw [bx_val_x (n := 8) (e := (8, 0)) h0_ rfl, bx_val_x (n := 9) (e := (18, 0)) h0_ rfl, bx_val_x (n := 10) (e := (10, 1)) h0_ rfl, ← hr_ 8 (by decide), ← hr_ 9 (by decide), ← hr_ 10 (by decide)]
    exact g.2.2.2
theorem rxdSBF_1_0 {S0 : Nat → Int → Int} {ws : List Int} {S : Nat → Int → Int} {sl s2 i : Int} (hP : rxPSBF S0 ws) (hin : bx_same rxL (bx_mdl rxCSBF.2.2.1) S0 S) (hin2 : bx_same rxL (bx_mdl rxCSBF.2.2.1) S S) (I0 : bx_Inv rxL S) (I1 : bx_Inv rxL S) (hinv : rxISBF_1 S0 ws S sl s2 i) (l8 : 0 ≤ sl) (u8 : sl ≤ 300) (l9 : 0 ≤ s2) (u9 : s2 ≤ 1000002) (l10 : 36 ≤ i) (u10 : i ≤ 36) : (True) ∧ rxPSSBF S0 ws S (some s2) := by
  have hf : rjdSm S0 S := hinv
  exact ⟨trivial, hf⟩
theorem rxfSBF_1_0 {X : (Nat → Int → Int) → Prop} {S0 : Nat → Int → Int} {ws : List Int} (hP : rxPSBF S0 ws) : bx_obE rxL X S0 rxCSBF.2.2.1 (rxISBF S0 ws) (rxPSSBF S0 ws) 1 rxzSBF_1 rxeSBF_1_0 := by
  intro S S_p r r_p hinv hX hin hsm_ hseg
  obtain ⟨I0, I1, h0_, hr_, b_, f_, d_⟩ := bx_cl (evs := []) (fvs := []) hseg (by decide +kernel) (by decide +kernel)
  have hinv : rxISBF_1 S0 ws S (r 8) (r 9) (r 10) := hinv
  rw [← hr_ 8 (by decide), ← hr_ 9 (by decide), ← hr_ 10 (by decide)] at hinv
  obtain ⟨⟨l8, u8⟩, ⟨l9, u9⟩, ⟨l10, u10⟩, -⟩ := b_
  have w_ := d_
  subst w_
  have g := rxdSBF_1_0 hP hin hsm_ I0 I1 hinv l8 u8 l9 u9 l10 u10
  refine ⟨bx_narP_ok (l := []) g.1, ?_⟩
  show rxPSSBF S0 ws S_p (some (bx_num r_p (.inr (0, (9, 0)))))
  rw [bx_xv_ok h0_]
  exact g.2
theorem rxgCSBF {X : (Nat → Int → Int) → Prop} {S0 : Nat → Int → Int} {ws : List Int} (hP : rxPSBF S0 ws) : bx_allI (fun i q => rxUSBF q = true ∨ bx_allP (fun o => bx_obC rxL X S0 rxCSBF.2.2.1 (rxISBF S0 ws) (rxmSBF S0 ws) i q.1 o) q.2.1) 0 rxYSBF := ⟨Or.inr ⟨rxgSBF_0_0 hP, trivial⟩, Or.inr ⟨rxgSBF_1_0 hP, rxgSBF_1_1 hP, rxgSBF_1_2 hP, rxgSBF_1_3 hP, trivial⟩, trivial⟩
theorem rxgESBF {X : (Nat → Int → Int) → Prop} {S0 : Nat → Int → Int} {ws : List Int} (hP : rxPSBF S0 ws) : bx_allI (fun i q => rxUSBF q = true ∨ bx_allP (fun E => bx_obE rxL X S0 rxCSBF.2.2.1 (rxISBF S0 ws) (rxPSSBF S0 ws) i q.1 E) q.2.2) 0 rxYSBF := ⟨Or.inr trivial, Or.inr ⟨rxfSBF_1_0 hP, trivial⟩, trivial⟩
theorem rxQSBF {PX : State → Prop} {Dg : va_G} {A : Nat → Prop} {ad xa : Nat → Nat} {l : Launch} {X : (Nat → Int → Int) → Prop} (hPX : rx_PXOK rxNW A PX) (hsl : ∀ s : State, PX s → ∀ o idx n : Nat, rxSl o idx = some n → ∃ tx : String, vk_R (rxNm o) idx tx (ad n) s)
    (hX : ∀ S S_p : Nat → Int → Int, X S → bx_same rxL (bx_mdl rxCSBF.2.2.1) S S_p → X S_p)
    (ih : ∀ (j2 : Nat) (ct2 : bx_Ct) (M2 : rx_Mt), ct2 ∈ rxCnE j2 → ct2.2.2.2.1 + 1 ≤ rxCSBF.2.2.2.1 → rxT.2.2.2.2.2 j2 = some M2 → bx_Con rxG rxNW rxAO PX Dg rxL X vwCl A ad l M2 ct2) : bx_ConP rxG rxNW rxAO PX Dg rxL X vwCl A ad l rxM156 rxCSBF rxPSBF rxPSSBF :=
  rxQof (xa := xa) (Cn := rxCnE) (f := 30000) (j := 156) (tab := rxYSBF) (us := rxUSBF) hPX hsl hX ih rfl rxYcSBF rxISBF rxmSBF
    (fun S0 ws r I0 I ht0 ht as he he1 hX0 hI0 hP hs ha => by
      have e := he.symm.trans (show bx_ent0 rxNP rxCSBF.1 bx_I0 [] = some ([(0, 0), (0, 0), (0, 0), (0, 0), (0, 0), (0, 0), (0, 0), (0, 0), (0, 1000002), (0, 300)], [], [.inr (3, (0, 0)), .inr (0, (8, 0)), .inr (0, (9, 0))]) from rfl)
      cases e
      subst ha
      have h0 : r 0 = 0 := hs.1
      show rxISBF_0 S0 _ S0 (r 8) (r 9)
      refine ⟨rfl, ?_⟩
      simp only [List.map_cons, List.map_nil, bx_xv_ok h0]
      rfl)
    (fun S0 ws hP => fun i q hq hus => absurd (show false = true from hus) Bool.false_ne_true) (fun S0 ws hP => rxgCSBF hP) (fun S0 ws hP => rxgESBF hP)
end
