section
noncomputable def rxCRN : bx_Ct := ([(3, (1, 480, 0))], some (0, (0, 0, 3)), [(12, 9), (12, 10), (12, 11), (12, 12), (12, 13), (12, 14), (12, 18), (12, 21), (12, 24), (12, 25), (1068, 0), (1069, 0), (1070, 0), (1071, 0)], 5, [])
noncomputable def rxIRN_0 (S0 : Nat → Int → Int) (ws : List Int) (S : Nat → Int → Int) : Prop := S = S0 ∧ ws = [480]
noncomputable def rxmRN_0 (S0 : Nat → Int → Int) (ws : List Int) (S : Nat → Int → Int) : Nat := 100
noncomputable def rxzRN_0 : rx_Z := ([(0, 0), (0, 0), (0, 0), (0, 0), (0, 0), (0, 0), (0, 0), (0, 0)], [], [], 0, 0, 0, [(0, .inr (3, (0, 480)))], [])
noncomputable def rxIRN_1 (S0 : Nat → Int → Int) (ws : List Int) (S : Nat → Int → Int) : Prop := S = S0 ∧ S 480 11 ≠ 0
noncomputable def rxmRN_1 (S0 : Nat → Int → Int) (ws : List Int) (S : Nat → Int → Int) : Nat := 90
noncomputable def rxzRN_1 : rx_Z := ([(0, 0), (0, 0), (0, 0), (0, 0), (0, 0), (0, 0), (0, 0), (0, 0)], [], [], 0, 0, 14, [(0, .inr (3, (0, 480)))], [.inr (0, (0, 0)), .inr (0, (0, 28)), .inr (3, (0, 480))])
noncomputable def rxIRN_2 (S0 : Nat → Int → Int) (ws : List Int) (S : Nat → Int → Int) : Prop := S = rxPuE S0 28 0 ∧ S0 480 11 ≠ 0
noncomputable def rxmRN_2 (S0 : Nat → Int → Int) (ws : List Int) (S : Nat → Int → Int) : Nat := 80
noncomputable def rxzRN_2 : rx_Z := ([(0, 0), (0, 0), (0, 0), (0, 0), (0, 0), (0, 0), (0, 0), (0, 0)], [], [], 0, 0, 17, [(0, .inr (3, (0, 480)))], [])
noncomputable def rxIRN_3 (S0 : Nat → Int → Int) (ws : List Int) (S : Nat → Int → Int) : Prop := S = rxPuE S0 28 0 ∧ S0 480 11 ≠ 0
noncomputable def rxmRN_3 (S0 : Nat → Int → Int) (ws : List Int) (S : Nat → Int → Int) : Nat := 70
noncomputable def rxzRN_3 : rx_Z := ([(0, 0), (0, 0), (0, 0), (0, 0), (0, 0), (0, 0), (0, 0), (0, 0)], [], [], 0, 0, 18, [(0, .inr (3, (0, 480)))], [.inr (3, (0, 480))])
noncomputable def rxIRN_4 (S0 : Nat → Int → Int) (ws : List Int) (S : Nat → Int → Int) : Prop := rxPt S ∧ (S 480 14 = 0 → S0 480 9 < S 480 9 ∧ rxEf S0 S 0 0) ∧ rxNoSq S
noncomputable def rxmRN_4 (S0 : Nat → Int → Int) (ws : List Int) (S : Nat → Int → Int) : Nat := 60
noncomputable def rxzRN_4 : rx_Z := ([(0, 0), (0, 0), (0, 0), (0, 0), (0, 0), (0, 0), (0, 0), (0, 0)], [], [], 0, 0, 21, [(0, .inr (3, (0, 480)))], [])
noncomputable def rxIRN_5 (S0 : Nat → Int → Int) (ws : List Int) (S : Nat → Int → Int) : Prop := S = S0 ∧ S 480 11 ≠ 0
noncomputable def rxmRN_5 (S0 : Nat → Int → Int) (ws : List Int) (S : Nat → Int → Int) : Nat := 90
noncomputable def rxzRN_5 : rx_Z := ([(0, 0), (0, 0), (0, 0), (0, 0), (0, 0), (0, 0), (0, 0), (0, 0)], [], [], 0, 0, 35, [(0, .inr (3, (0, 480)))], [.inr (0, (0, 31)), .inr (3, (0, 480))])
noncomputable def rxIRN_6 (S0 : Nat → Int → Int) (ws : List Int) (S : Nat → Int → Int) : Prop := rxPt S ∧ (S 480 14 = 0 → S0 480 9 < S 480 9 ∧ rxEf S0 S 0 0 ∧ rxNoSq S)
noncomputable def rxmRN_6 (S0 : Nat → Int → Int) (ws : List Int) (S : Nat → Int → Int) : Nat := 80
noncomputable def rxzRN_6 : rx_Z := ([(0, 0), (0, 0), (0, 0), (0, 0), (0, 0), (0, 0), (0, 0), (0, 0)], [], [], 0, 0, 38, [(0, .inr (3, (0, 480)))], [])
noncomputable def rxIRN_7 (S0 : Nat → Int → Int) (ws : List Int) (S : Nat → Int → Int) : Prop := S = S0
noncomputable def rxmRN_7 (S0 : Nat → Int → Int) (ws : List Int) (S : Nat → Int → Int) : Nat := 70
noncomputable def rxzRN_7 : rx_Z := ([(0, 0), (0, 0), (0, 0), (0, 0), (0, 0), (0, 0), (0, 0), (0, 0)], [], [], 0, 0, 41, [(0, .inr (3, (0, 480)))], [.inr (3, (0, 480))])
noncomputable def rxIRN_8 (S0 : Nat → Int → Int) (ws : List Int) (S : Nat → Int → Int) (t : Int) : Prop := (t = 1 ∨ t = 3) ∧ rxPt S ∧ (S 480 14 = 0 → S0 480 9 < S 480 9 ∧ ((t = 1 ∧ rxEf S0 S 0 0) ∨ (t = 3 ∧ rxEf S0 S 0 1)))
noncomputable def rxmRN_8 (S0 : Nat → Int → Int) (ws : List Int) (S : Nat → Int → Int) (t : Int) : Nat := 60
noncomputable def rxzRN_8 : rx_Z := ([(0, 0), (0, 0), (0, 0), (0, 0), (0, 0), (0, 0), (0, 0), (0, 0), (0, 3)], [], [], 0, 0, 44, [(0, .inr (3, (0, 480)))], [.inr (0, (8, 0))])
noncomputable def rxoRN_0_0 : bx_HO := (([(0, 0), (0, 0), (0, 0), (0, 0), (0, 0), (0, 0), (0, 0), (0, 0), (0, 2)], [(3, (8, 0), (0, 3)), (3, (8, 0), (0, 1))], [(((0, 0), 1851192626986356799632114105031551009123054124018230966928539648000000), .inr (0, (8, 0))), (((0, 480), 11), .inr (0, (8, 0)))], 0, 0, 41, [(0, .inr (3, (0, 480)))], [.inr (3, (0, 480))]), [], [], [(0, 0), (0, 0), (0, 0), (0, 0), (0, 0), (0, 0), (0, 0), (0, 0)], 7)
noncomputable def rxoRN_0_1 : bx_HO := (([(0, 0), (0, 0), (0, 0), (0, 0), (0, 0), (0, 0), (0, 0), (0, 0), (3, 3), ((-9223372036854775808), 9223372036854775807)], [(3, (9, 0), (0, 40)), (3, (8, 0), (0, 1))], [(((0, 0), 1851192626986356799832820811818326617396875588472066220482363392000000), .inr (1, (9, 0))), (((0, 480), 12), .inr (1, (9, 0))), (((0, 0), 1851192626986356799632114105031551009123054124018230966928539648000000), .inr (0, (8, 0))), (((0, 480), 11), .inr (0, (8, 0)))], 0, 0, 41, [(0, .inr (3, (0, 480)))], [.inr (3, (0, 480))]), [], [], [(0, 0), (0, 0), (0, 0), (0, 0), (0, 0), (0, 0), (0, 0), (0, 0)], 7)
noncomputable def rxoRN_0_2 : bx_HO := (([(0, 0), (0, 0), (0, 0), (0, 0), (0, 0), (0, 0), (0, 0), (0, 0), (3, 3), (40, 40)], [(3, (8, 0), (0, 1))], [(((0, 0), 1851192626986356799832820811818326617396875588472066220482363392000000), .inr (1, (9, 0))), (((0, 480), 12), .inr (1, (9, 0))), (((0, 0), 1851192626986356799632114105031551009123054124018230966928539648000000), .inr (0, (8, 0))), (((0, 480), 11), .inr (0, (8, 0)))], 0, 0, 35, [(0, .inr (3, (0, 480)))], [.inr (0, (0, 31)), .inr (3, (0, 480))]), [], [], [(0, 0), (0, 0), (0, 0), (0, 0), (0, 0), (0, 0), (0, 0), (0, 0)], 5)
noncomputable def rxoRN_0_3 : bx_HO := (([(0, 0), (0, 0), (0, 0), (0, 0), (0, 0), (0, 0), (0, 0), (0, 0), (1, 1), ((-9223372036854775808), 9223372036854775807)], [(3, (9, 0), (0, 14836))], [(((0, 0), 1851192626986356799832820811818326617396875588472066220482363392000000), .inr (1, (9, 0))), (((0, 480), 12), .inr (1, (9, 0))), (((0, 0), 1851192626986356799632114105031551009123054124018230966928539648000000), .inr (0, (8, 0))), (((0, 480), 11), .inr (0, (8, 0)))], 0, 0, 41, [(0, .inr (3, (0, 480)))], [.inr (3, (0, 480))]), [], [], [(0, 0), (0, 0), (0, 0), (0, 0), (0, 0), (0, 0), (0, 0), (0, 0)], 7)
noncomputable def rxoRN_0_4 : bx_HO := (([(0, 0), (0, 0), (0, 0), (0, 0), (0, 0), (0, 0), (0, 0), (0, 0), (1, 1), (14836, 14836)], [], [(((0, 0), 1851192626986356799832820811818326617396875588472066220482363392000000), .inr (1, (9, 0))), (((0, 480), 12), .inr (1, (9, 0))), (((0, 0), 1851192626986356799632114105031551009123054124018230966928539648000000), .inr (0, (8, 0))), (((0, 480), 11), .inr (0, (8, 0)))], 0, 0, 14, [(0, .inr (3, (0, 480)))], [.inr (0, (0, 0)), .inr (0, (0, 28)), .inr (3, (0, 480))]), [], [], [(0, 0), (0, 0), (0, 0), (0, 0), (0, 0), (0, 0), (0, 0), (0, 0)], 1)
noncomputable def rxoRN_2_0 : bx_HO := (([(0, 0), (0, 0), (0, 0), (0, 0), (0, 0), (0, 0), (0, 0), (0, 0)], [], [], 0, 0, 18, [(0, .inr (3, (0, 480)))], [.inr (3, (0, 480))]), [], [], [(0, 0), (0, 0), (0, 0), (0, 0), (0, 0), (0, 0), (0, 0), (0, 0)], 3)
noncomputable def rxeRN_4_0 : rx_End × List (Nat × Int × Int) := (([(0, 0), (0, 0), (0, 0), (0, 0), (0, 0), (0, 0), (0, 0), (0, 0)], [], [], some (.inr (0, (0, 0)))), [])
noncomputable def rxeRN_6_0 : rx_End × List (Nat × Int × Int) := (([(0, 0), (0, 0), (0, 0), (0, 0), (0, 0), (0, 0), (0, 0), (0, 0)], [], [], some (.inr (0, (0, 0)))), [])
noncomputable def rxeRN_8_0 : rx_End × List (Nat × Int × Int) := (([(0, 0), (0, 0), (0, 0), (0, 0), (0, 0), (0, 0), (0, 0), (0, 0), (0, 3)], [], [], some (.inr (0, (8, 0)))), [])
noncomputable def rxYRN : List bx_HE := [(rxzRN_0, [rxoRN_0_0, rxoRN_0_1, rxoRN_0_2, rxoRN_0_3, rxoRN_0_4], []), (rxzRN_1, [], []), (rxzRN_2, [rxoRN_2_0], []), (rxzRN_3, [], []), (rxzRN_4, [], [rxeRN_4_0]), (rxzRN_5, [], []), (rxzRN_6, [], [rxeRN_6_0]), (rxzRN_7, [], []), (rxzRN_8, [], [rxeRN_8_0])]
noncomputable def rxURN (q : bx_HE) : Bool := Nat.beq (rx_zpc q.1) 14 || Nat.beq (rx_zpc q.1) 18 || Nat.beq (rx_zpc q.1) 35 || Nat.beq (rx_zpc q.1) 41
noncomputable def rxYBRN : bx_B := (rxV, rxNP, rxDmf, bx_mdH rxCRN.2.2.1)
set_option maxRecDepth 100000 in
theorem rxYcRN : bx_chkH rxYBRN rxM278 rxCRN rxYRN (rxURN, fun cut z => rx_ex2 (rxCT rxYBRN rxCnE) cut 30000 rxCRN.2.2.2.1 278 z) = true := by decide +kernel
noncomputable def rxIRN (S0 : Nat → Int → Int) (ws : List Int) (i : Nat) : bx_SP := fun S r => match i with | 0 => rxIRN_0 S0 ws S | 1 => rxIRN_1 S0 ws S | 2 => rxIRN_2 S0 ws S | 3 => rxIRN_3 S0 ws S | 4 => rxIRN_4 S0 ws S | 5 => rxIRN_5 S0 ws S | 6 => rxIRN_6 S0 ws S | 7 => rxIRN_7 S0 ws S | 8 => rxIRN_8 S0 ws S (r 8) | _ => False
noncomputable def rxmRN (S0 : Nat → Int → Int) (ws : List Int) (i : Nat) (S : Nat → Int → Int) (r : Nat → Int) : Nat := match i with | 0 => rxmRN_0 S0 ws S | 1 => rxmRN_1 S0 ws S | 2 => rxmRN_2 S0 ws S | 3 => rxmRN_3 S0 ws S | 4 => rxmRN_4 S0 ws S | 5 => rxmRN_5 S0 ws S | 6 => rxmRN_6 S0 ws S | 7 => rxmRN_7 S0 ws S | 8 => rxmRN_8 S0 ws S (r 8) | _ => 0
noncomputable def rxPRN (S0 : Nat → Int → Int) (ws : List Int) : Prop := rxPt S0 ∧ S0 480 14 = 0 ∧ rxNoSq S0
noncomputable def rxPSRN (S0 : Nat → Int → Int) (ws : List Int) (S : Nat → Int → Int) (w : Option Int) : Prop := ∃ t : Int, w = some t ∧ (t = 0 ∨ t = 1 ∨ t = 3) ∧ rxPt S ∧ (S 480 14 = 0 → S0 480 9 < S 480 9 ∧ ((t = 0 ∧ rxEf S0 S 0 0 ∧ rxNoSq S) ∨ (t = 1 ∧ rxEf S0 S 0 0) ∨ (t = 3 ∧ rxEf S0 S 0 1)))
theorem rxkRN_1 {S0 : Nat → Int → Int} {ws : List Int} {S : Nat → Int → Int} (hP : rxPRN S0 ws) (hin : bx_same rxL (bx_mdl rxCRN.2.2.1) S0 S) (I0 : bx_Inv rxL S) (hinv : rxIRN_1 S0 ws S)  : rxPPU S [480, 28, 0] ∧ ∀ (S_p : Nat → Int → Int), rxPSPU S [480, 28, 0] S_p none → bx_Inv rxL S_p → bx_same rxL (bx_mdl rxCPU.2.2.1) S S_p → rxIRN_2 S0 ws S_p ∧ rxmRN_2 S0 ws S_p < rxmRN_1 S0 ws S := by
  obtain ⟨rfl, h1⟩ := hinv
  obtain ⟨⟨p1, p2, p3, p4⟩, p5, p6⟩ := hP
  have b8 := rxBox8 I0
  have b18 := rxBox18 I0
  have t4 := p1.2.2.2.1 h1
  have t3 := p1.2.2.1
  refine ⟨by show S 480 24 ≤ 399; omega, fun S_p hq I1 hsm => ⟨⟨?_, h1⟩, by unfold rxmRN_1 rxmRN_2; omega⟩⟩
  obtain ⟨-, o_p, a_p, hw3, rfl⟩ := hq
  have ho : (28 : Int) = o_p := Option.some.inj (congrArg (fun l => l[1]?) hw3)
  have ha : (0 : Int) = a_p := Option.some.inj (congrArg (fun l => l[2]?) hw3)
  subst ho
  subst ha
  rfl
theorem rxsRN_1 {X : (Nat → Int → Int) → Prop} {S0 : Nat → Int → Int} {ws : List Int} (hP : rxPRN S0 ws) : rx_obK X S0 rxCRN.2.2.1 rxCPU.2.2.1 (rxIRN S0 ws) (rxmRN S0 ws) 1 2 rxzRN_1 rxzRN_2 [.inr (3, (0, 480)), .inr (0, (0, 28)), .inr (0, (0, 0))] none rxPPU rxPSPU := by
  intro S r hinv hXS I0 hin hs_ hf_
  have b_ := bx_bds_sat hs_
  have f_ := bx_fcl_ok hs_.1 hf_
  have g := rxkRN_1 hP hin I0 hinv 
  have ea : List.map (bx_num r) [.inr (3, (0, 480)), .inr (0, (0, 28)), .inr (0, (0, 0))] = [480, 28, 0] := by
    simp only [List.map_cons, List.map_nil, bx_xv_ok hs_.1]
    rfl
  rw [ea]
  refine ⟨g.1, fun S_p w r_p hPS hX_p I1 hsm hr hw hs_p => ?_⟩
  have hw : w = none := hPS.1
  subst hw
  have g2 := g.2 S_p hPS I1 hsm
  show rxIRN_2 S0 ws S_p ∧ rxmRN_2 S0 ws S_p < _
  exact g2
theorem rxkRN_3 {S0 : Nat → Int → Int} {ws : List Int} {S : Nat → Int → Int} (hP : rxPRN S0 ws) (hin : bx_same rxL (bx_mdl rxCRN.2.2.1) S0 S) (I0 : bx_Inv rxL S) (hinv : rxIRN_3 S0 ws S)  : rxPNX S [480] ∧ ∀ (S_p : Nat → Int → Int), rxPSNX S [480] S_p none → bx_Inv rxL S_p → bx_same rxL (bx_mdl rxCNX.2.2.1) S S_p → rxIRN_4 S0 ws S_p ∧ rxmRN_4 S0 ws S_p < rxmRN_3 S0 ws S := by
  obtain ⟨rfl, h1⟩ := hinv
  obtain ⟨⟨p1, p2, p3, p4⟩, p5, p6⟩ := hP
  have hm := rxTm_pu (S := S0) (op := 28) (a := 0)
  have f18 : rxPuE S0 28 0 480 18 = S0 480 18 := by unfold rxPuE; simp [bx_up]
  have f24 : rxPuE S0 28 0 480 24 = S0 480 24 + 1 := by unfold rxPuE; simp [bx_up]
  have b24 := rxBox24 I0
  have b18 := rxBox18 I0
  have t4 := p1.2.2.2.1 h1
  refine ⟨(hm.tk p1).2.2.1, fun S_p hq I1 hsm => ⟨?_, by unfold rxmRN_3 rxmRN_4; omega⟩⟩
  obtain ⟨-, q1, q2⟩ := hq
  have hs := rxSm_of hsm (by decide +kernel)
  have hz := rxPuE_pz (op := 28) p2 p3 (by omega) (by omega) (Or.inr p6)
  have e10 := hm.2.2.1
  refine ⟨rxPt_nx hs q1 hz (by omega) (by omega) (by omega), fun _ => ⟨by omega, (rxPuE_ef p3 (fun q => by rcases q with q | q <;> omega) (by decide)).tr (hs.ef (by omega) (by omega) 0)⟩, (rxPuE_sq p6 (by decide)).sm hs (by omega)⟩
theorem rxsRN_3 {X : (Nat → Int → Int) → Prop} {S0 : Nat → Int → Int} {ws : List Int} (hP : rxPRN S0 ws) : rx_obK X S0 rxCRN.2.2.1 rxCNX.2.2.1 (rxIRN S0 ws) (rxmRN S0 ws) 3 4 rxzRN_3 rxzRN_4 [.inr (3, (0, 480))] none rxPNX rxPSNX := by
  intro S r hinv hXS I0 hin hs_ hf_
  have b_ := bx_bds_sat hs_
  have f_ := bx_fcl_ok hs_.1 hf_
  have g := rxkRN_3 hP hin I0 hinv 
  have ea : List.map (bx_num r) [.inr (3, (0, 480))] = [480] := by
    simp only [List.map_cons, List.map_nil, bx_xv_ok hs_.1]
    rfl
  rw [ea]
  refine ⟨g.1, fun S_p w r_p hPS hX_p I1 hsm hr hw hs_p => ?_⟩
  have hw : w = none := hPS.1
  subst hw
  have g2 := g.2 S_p hPS I1 hsm
  show rxIRN_4 S0 ws S_p ∧ rxmRN_4 S0 ws S_p < _
  exact g2
theorem rxkRN_5 {S0 : Nat → Int → Int} {ws : List Int} {S : Nat → Int → Int} (hP : rxPRN S0 ws) (hin : bx_same rxL (bx_mdl rxCRN.2.2.1) S0 S) (I0 : bx_Inv rxL S) (hinv : rxIRN_5 S0 ws S)  : rxPOB S [480, 31] ∧ ∀ (S_p : Nat → Int → Int), rxPSOB S [480, 31] S_p none → bx_Inv rxL S_p → bx_same rxL (bx_mdl rxCOB.2.2.1) S S_p → rxIRN_6 S0 ws S_p ∧ rxmRN_6 S0 ws S_p < rxmRN_5 S0 ws S := by
  obtain ⟨rfl, h1⟩ := hinv
  refine ⟨⟨hP.1, hP.2.1, h1, 31, rfl, Or.inr hP.2.2⟩, fun S_p hq I1 hsm => ⟨?_, by unfold rxmRN_5 rxmRN_6; omega⟩⟩
  obtain ⟨-, op, hw, a1, a2, a3, a4, a5⟩ := hq
  have ho : (31 : Int) = op := Option.some.inj (congrArg (fun l => l[1]?) hw)
  subst ho
  exact ⟨⟨a1, a2, a3, a4⟩, fun q => ⟨(a5 q).2.1, (a5 q).1, (a5 q).2.2 (by decide) hP.2.2⟩⟩
theorem rxsRN_5 {X : (Nat → Int → Int) → Prop} {S0 : Nat → Int → Int} {ws : List Int} (hP : rxPRN S0 ws) : rx_obK X S0 rxCRN.2.2.1 rxCOB.2.2.1 (rxIRN S0 ws) (rxmRN S0 ws) 5 6 rxzRN_5 rxzRN_6 [.inr (3, (0, 480)), .inr (0, (0, 31))] none rxPOB rxPSOB := by
  intro S r hinv hXS I0 hin hs_ hf_
  have b_ := bx_bds_sat hs_
  have f_ := bx_fcl_ok hs_.1 hf_
  have g := rxkRN_5 hP hin I0 hinv 
  have ea : List.map (bx_num r) [.inr (3, (0, 480)), .inr (0, (0, 31))] = [480, 31] := by
    simp only [List.map_cons, List.map_nil, bx_xv_ok hs_.1]
    rfl
  rw [ea]
  refine ⟨g.1, fun S_p w r_p hPS hX_p I1 hsm hr hw hs_p => ?_⟩
  have hw : w = none := hPS.1
  subst hw
  have g2 := g.2 S_p hPS I1 hsm
  show rxIRN_6 S0 ws S_p ∧ rxmRN_6 S0 ws S_p < _
  exact g2
theorem rxkRN_7 {S0 : Nat → Int → Int} {ws : List Int} {S : Nat → Int → Int} (hP : rxPRN S0 ws) (hin : bx_same rxL (bx_mdl rxCRN.2.2.1) S0 S) (I0 : bx_Inv rxL S) (hinv : rxIRN_7 S0 ws S)  : rxPRP S [480] ∧ ∀ (S_p : Nat → Int → Int) (t : Int), 0 ≤ t → t ≤ 3 → rxPSRP S [480] S_p (some t) → bx_Inv rxL S_p → bx_same rxL (bx_mdl rxCRP.2.2.1) S S_p → rxIRN_8 S0 ws S_p t ∧ rxmRN_8 S0 ws S_p t < rxmRN_7 S0 ws S := by
  subst hinv
  refine ⟨⟨hP.1, hP.2.1⟩, fun S_p t l u hq I1 hsm => ⟨?_, by unfold rxmRN_7 rxmRN_8; omega⟩⟩
  obtain ⟨t_p, hw, h1, h2, h3⟩ := hq
  have he : t = t_p := Option.some.inj hw
  subst he
  exact ⟨h1, h2, h3⟩
theorem rxsRN_7 {X : (Nat → Int → Int) → Prop} {S0 : Nat → Int → Int} {ws : List Int} (hP : rxPRN S0 ws) : rx_obK X S0 rxCRN.2.2.1 rxCRP.2.2.1 (rxIRN S0 ws) (rxmRN S0 ws) 7 8 rxzRN_7 rxzRN_8 [.inr (3, (0, 480))] (some 8) rxPRP rxPSRP := by
  intro S r hinv hXS I0 hin hs_ hf_
  have b_ := bx_bds_sat hs_
  have f_ := bx_fcl_ok hs_.1 hf_
  have g := rxkRN_7 hP hin I0 hinv 
  have ea : List.map (bx_num r) [.inr (3, (0, 480))] = [480] := by
    simp only [List.map_cons, List.map_nil, bx_xv_ok hs_.1]
    rfl
  rw [ea]
  refine ⟨g.1, fun S_p w r_p hPS hX_p I1 hsm hr hw hs_p => ?_⟩
  have hw := hw _ rfl
  subst hw
  have b_p := hs_p.2.2 8 _ _ rfl
  have g2 := g.2 S_p (r_p 8) b_p.1 b_p.2 hPS I1 hsm
  show rxIRN_8 S0 ws S_p (r_p 8) ∧ rxmRN_8 S0 ws S_p (r_p 8) < _
  exact g2
theorem rxcRN_0_0 {S0 : Nat → Int → Int} {ws : List Int} {S : Nat → Int → Int} {x8 : Int} (hP : rxPRN S0 ws) (hin : bx_same rxL (bx_mdl rxCRN.2.2.1) S0 S) (I0 : bx_Inv rxL S) (hinv : rxIRN_0 S0 ws S) (l8 : 0 ≤ x8) (u8 : x8 ≤ 2) (f0 : x8 ≠ 3) (f1 : x8 ≠ 1) (e0 : S 480 11 = x8) : (True) ∧ (True) ∧ rxIRN_7 S0 ws S ∧ rxmRN_7 S0 ws S < rxmRN_0 S0 ws S := by
  obtain ⟨rfl, hw⟩ := hinv
  exact ⟨trivial, trivial, rfl, by unfold rxmRN_0 rxmRN_7; omega⟩
theorem rxgRN_0_0 {X : (Nat → Int → Int) → Prop} {S0 : Nat → Int → Int} {ws : List Int} (hP : rxPRN S0 ws) : bx_obC rxL X S0 rxCRN.2.2.1 (rxIRN S0 ws) (rxmRN S0 ws) 0 rxzRN_0 rxoRN_0_0 := by
  intro S S_p r r_p hinv hX hin hsm_ hseg
  obtain ⟨I0, I1, h0_, hr_, b_, f_, d_⟩ := bx_cl (evs := [(0, (0, 480), (0, 11), .inr (0, (8, 0)))]) (fvs := [(3, (8, 0), (0, 3), (0, 0)), (3, (8, 0), (0, 1), (0, 0))]) hseg (by decide +kernel) (by decide +kernel)
  have hinv : rxIRN_0 S0 ws S := hinv
  obtain ⟨⟨l8, u8⟩, -⟩ := b_
  obtain ⟨f0, f1, -⟩ := f_
  obtain ⟨e0, w_⟩ := d_
  subst w_
  have g := rxcRN_0_0 hP hin I0 hinv l8 u8 f0 f1 e0
  refine ⟨bx_narP_ok (l := []) g.1, bx_nfP_ok h0_ (fvs := []) (by decide +kernel) g.2.1, ?_, ?_⟩
  · show rxIRN_7 S0 ws S_p
    exact g.2.2.1
  · show rxmRN_7 S0 ws S_p < rxmRN_0 S0 ws S_p
    exact g.2.2.2
theorem rxcRN_0_1 {S0 : Nat → Int → Int} {ws : List Int} {S : Nat → Int → Int} {x8 x9 : Int} (hP : rxPRN S0 ws) (hin : bx_same rxL (bx_mdl rxCRN.2.2.1) S0 S) (I0 : bx_Inv rxL S) (hinv : rxIRN_0 S0 ws S) (l8 : 3 ≤ x8) (u8 : x8 ≤ 3) (l9 : (-9223372036854775808) ≤ x9) (u9 : x9 ≤ 9223372036854775807) (f0 : x9 ≠ 40) (f1 : x8 ≠ 1) (e1 : S 480 11 = x8) (e0 : S 480 12 = x9) : (True) ∧ (True) ∧ rxIRN_7 S0 ws S ∧ rxmRN_7 S0 ws S < rxmRN_0 S0 ws S := by
  obtain ⟨rfl, hw⟩ := hinv
  exact ⟨trivial, trivial, rfl, by unfold rxmRN_0 rxmRN_7; omega⟩
theorem rxgRN_0_1 {X : (Nat → Int → Int) → Prop} {S0 : Nat → Int → Int} {ws : List Int} (hP : rxPRN S0 ws) : bx_obC rxL X S0 rxCRN.2.2.1 (rxIRN S0 ws) (rxmRN S0 ws) 0 rxzRN_0 rxoRN_0_1 := by
  intro S S_p r r_p hinv hX hin hsm_ hseg
  obtain ⟨I0, I1, h0_, hr_, b_, f_, d_⟩ := bx_cl (evs := [(0, (0, 480), (0, 12), .inr (1, (9, 0))), (0, (0, 480), (0, 11), .inr (0, (8, 0)))]) (fvs := [(3, (9, 0), (0, 40), (0, 0)), (3, (8, 0), (0, 1), (0, 0))]) hseg (by decide +kernel) (by decide +kernel)
  have hinv : rxIRN_0 S0 ws S := hinv
  obtain ⟨⟨l8, u8⟩, ⟨l9, u9⟩, -⟩ := b_
  obtain ⟨f0, f1, -⟩ := f_
  obtain ⟨e0, ⟨e1, w_⟩⟩ := d_
  subst w_
  have g := rxcRN_0_1 hP hin I0 hinv l8 u8 l9 u9 f0 f1 e1 e0
  refine ⟨bx_narP_ok (l := []) g.1, bx_nfP_ok h0_ (fvs := []) (by decide +kernel) g.2.1, ?_, ?_⟩
  · show rxIRN_7 S0 ws S_p
    exact g.2.2.1
  · show rxmRN_7 S0 ws S_p < rxmRN_0 S0 ws S_p
    exact g.2.2.2
theorem rxcRN_0_2 {S0 : Nat → Int → Int} {ws : List Int} {S : Nat → Int → Int} {x8 x9 : Int} (hP : rxPRN S0 ws) (hin : bx_same rxL (bx_mdl rxCRN.2.2.1) S0 S) (I0 : bx_Inv rxL S) (hinv : rxIRN_0 S0 ws S) (l8 : 3 ≤ x8) (u8 : x8 ≤ 3) (l9 : 40 ≤ x9) (u9 : x9 ≤ 40) (f0 : x8 ≠ 1) (e1 : S 480 11 = x8) (e0 : S 480 12 = x9) : (True) ∧ (True) ∧ rxIRN_5 S0 ws S ∧ rxmRN_5 S0 ws S < rxmRN_0 S0 ws S := by
  obtain ⟨rfl, hw⟩ := hinv
  exact ⟨trivial, trivial, ⟨rfl, by omega⟩, by unfold rxmRN_0 rxmRN_5; omega⟩
theorem rxgRN_0_2 {X : (Nat → Int → Int) → Prop} {S0 : Nat → Int → Int} {ws : List Int} (hP : rxPRN S0 ws) : bx_obC rxL X S0 rxCRN.2.2.1 (rxIRN S0 ws) (rxmRN S0 ws) 0 rxzRN_0 rxoRN_0_2 := by
  intro S S_p r r_p hinv hX hin hsm_ hseg
  obtain ⟨I0, I1, h0_, hr_, b_, f_, d_⟩ := bx_cl (evs := [(0, (0, 480), (0, 12), .inr (1, (9, 0))), (0, (0, 480), (0, 11), .inr (0, (8, 0)))]) (fvs := [(3, (8, 0), (0, 1), (0, 0))]) hseg (by decide +kernel) (by decide +kernel)
  have hinv : rxIRN_0 S0 ws S := hinv
  obtain ⟨⟨l8, u8⟩, ⟨l9, u9⟩, -⟩ := b_
  obtain ⟨f0, -⟩ := f_
  obtain ⟨e0, ⟨e1, w_⟩⟩ := d_
  subst w_
  have g := rxcRN_0_2 hP hin I0 hinv l8 u8 l9 u9 f0 e1 e0
  refine ⟨bx_narP_ok (l := []) g.1, bx_nfP_ok h0_ (fvs := []) (by decide +kernel) g.2.1, ?_, ?_⟩
  · show rxIRN_5 S0 ws S_p
    exact g.2.2.1
  · show rxmRN_5 S0 ws S_p < rxmRN_0 S0 ws S_p
    exact g.2.2.2
theorem rxcRN_0_3 {S0 : Nat → Int → Int} {ws : List Int} {S : Nat → Int → Int} {x8 x9 : Int} (hP : rxPRN S0 ws) (hin : bx_same rxL (bx_mdl rxCRN.2.2.1) S0 S) (I0 : bx_Inv rxL S) (hinv : rxIRN_0 S0 ws S) (l8 : 1 ≤ x8) (u8 : x8 ≤ 1) (l9 : (-9223372036854775808) ≤ x9) (u9 : x9 ≤ 9223372036854775807) (f0 : x9 ≠ 14836) (e1 : S 480 11 = x8) (e0 : S 480 12 = x9) : (True) ∧ (True) ∧ rxIRN_7 S0 ws S ∧ rxmRN_7 S0 ws S < rxmRN_0 S0 ws S := by
  obtain ⟨rfl, hw⟩ := hinv
  exact ⟨trivial, trivial, rfl, by unfold rxmRN_0 rxmRN_7; omega⟩
theorem rxgRN_0_3 {X : (Nat → Int → Int) → Prop} {S0 : Nat → Int → Int} {ws : List Int} (hP : rxPRN S0 ws) : bx_obC rxL X S0 rxCRN.2.2.1 (rxIRN S0 ws) (rxmRN S0 ws) 0 rxzRN_0 rxoRN_0_3 := by
  intro S S_p r r_p hinv hX hin hsm_ hseg
  obtain ⟨I0, I1, h0_, hr_, b_, f_, d_⟩ := bx_cl (evs := [(0, (0, 480), (0, 12), .inr (1, (9, 0))), (0, (0, 480), (0, 11), .inr (0, (8, 0)))]) (fvs := [(3, (9, 0), (0, 14836), (0, 0))]) hseg (by decide +kernel) (by decide +kernel)
  have hinv : rxIRN_0 S0 ws S := hinv
  obtain ⟨⟨l8, u8⟩, ⟨l9, u9⟩, -⟩ := b_
  obtain ⟨f0, -⟩ := f_
  obtain ⟨e0, ⟨e1, w_⟩⟩ := d_
  subst w_
  have g := rxcRN_0_3 hP hin I0 hinv l8 u8 l9 u9 f0 e1 e0
  refine ⟨bx_narP_ok (l := []) g.1, bx_nfP_ok h0_ (fvs := []) (by decide +kernel) g.2.1, ?_, ?_⟩
  · show rxIRN_7 S0 ws S_p
    exact g.2.2.1
  · show rxmRN_7 S0 ws S_p < rxmRN_0 S0 ws S_p
    exact g.2.2.2
theorem rxcRN_0_4 {S0 : Nat → Int → Int} {ws : List Int} {S : Nat → Int → Int} {x8 x9 : Int} (hP : rxPRN S0 ws) (hin : bx_same rxL (bx_mdl rxCRN.2.2.1) S0 S) (I0 : bx_Inv rxL S) (hinv : rxIRN_0 S0 ws S) (l8 : 1 ≤ x8) (u8 : x8 ≤ 1) (l9 : 14836 ≤ x9) (u9 : x9 ≤ 14836) (e1 : S 480 11 = x8) (e0 : S 480 12 = x9) : (True) ∧ (True) ∧ rxIRN_1 S0 ws S ∧ rxmRN_1 S0 ws S < rxmRN_0 S0 ws S := by
  obtain ⟨rfl, hw⟩ := hinv
  exact ⟨trivial, trivial, ⟨rfl, by omega⟩, by unfold rxmRN_0 rxmRN_1; omega⟩
theorem rxgRN_0_4 {X : (Nat → Int → Int) → Prop} {S0 : Nat → Int → Int} {ws : List Int} (hP : rxPRN S0 ws) : bx_obC rxL X S0 rxCRN.2.2.1 (rxIRN S0 ws) (rxmRN S0 ws) 0 rxzRN_0 rxoRN_0_4 := by
  intro S S_p r r_p hinv hX hin hsm_ hseg
  obtain ⟨I0, I1, h0_, hr_, b_, f_, d_⟩ := bx_cl (evs := [(0, (0, 480), (0, 12), .inr (1, (9, 0))), (0, (0, 480), (0, 11), .inr (0, (8, 0)))]) (fvs := []) hseg (by decide +kernel) (by decide +kernel)
  have hinv : rxIRN_0 S0 ws S := hinv
  obtain ⟨⟨l8, u8⟩, ⟨l9, u9⟩, -⟩ := b_
  obtain ⟨e0, ⟨e1, w_⟩⟩ := d_
  subst w_
  have g := rxcRN_0_4 hP hin I0 hinv l8 u8 l9 u9 e1 e0
  refine ⟨bx_narP_ok (l := []) g.1, bx_nfP_ok h0_ (fvs := []) (by decide +kernel) g.2.1, ?_, ?_⟩
  · show rxIRN_1 S0 ws S_p
    exact g.2.2.1
  · show rxmRN_1 S0 ws S_p < rxmRN_0 S0 ws S_p
    exact g.2.2.2
theorem rxcRN_2_0 {S0 : Nat → Int → Int} {ws : List Int} {S : Nat → Int → Int} (hP : rxPRN S0 ws) (hin : bx_same rxL (bx_mdl rxCRN.2.2.1) S0 S) (I0 : bx_Inv rxL S) (hinv : rxIRN_2 S0 ws S)  : (True) ∧ (True) ∧ rxIRN_3 S0 ws S ∧ rxmRN_3 S0 ws S < rxmRN_2 S0 ws S := by
  exact ⟨trivial, trivial, hinv, by unfold rxmRN_2 rxmRN_3; omega⟩
theorem rxgRN_2_0 {X : (Nat → Int → Int) → Prop} {S0 : Nat → Int → Int} {ws : List Int} (hP : rxPRN S0 ws) : bx_obC rxL X S0 rxCRN.2.2.1 (rxIRN S0 ws) (rxmRN S0 ws) 2 rxzRN_2 rxoRN_2_0 := by
  intro S S_p r r_p hinv hX hin hsm_ hseg
  obtain ⟨I0, I1, h0_, hr_, b_, f_, d_⟩ := bx_cl (evs := []) (fvs := []) hseg (by decide +kernel) (by decide +kernel)
  have hinv : rxIRN_2 S0 ws S := hinv
  have w_ := d_
  subst w_
  have g := rxcRN_2_0 hP hin I0 hinv 
  refine ⟨bx_narP_ok (l := []) g.1, bx_nfP_ok h0_ (fvs := []) (by decide +kernel) g.2.1, ?_, ?_⟩
  · show rxIRN_3 S0 ws S_p
    exact g.2.2.1
  · show rxmRN_3 S0 ws S_p < rxmRN_2 S0 ws S_p
    exact g.2.2.2
theorem rxdRN_4_0 {S0 : Nat → Int → Int} {ws : List Int} {S : Nat → Int → Int} (hP : rxPRN S0 ws) (hin : bx_same rxL (bx_mdl rxCRN.2.2.1) S0 S) (hin2 : bx_same rxL (bx_mdl rxCRN.2.2.1) S S) (I0 : bx_Inv rxL S) (I1 : bx_Inv rxL S) (hinv : rxIRN_4 S0 ws S)  : (True) ∧ rxPSRN S0 ws S (some 0) := by
  obtain ⟨h1, h2, h3⟩ := hinv
  exact ⟨trivial, 0, rfl, Or.inl rfl, h1, fun q => ⟨(h2 q).1, Or.inl ⟨rfl, (h2 q).2, h3⟩⟩⟩
theorem rxfRN_4_0 {X : (Nat → Int → Int) → Prop} {S0 : Nat → Int → Int} {ws : List Int} (hP : rxPRN S0 ws) : bx_obE rxL X S0 rxCRN.2.2.1 (rxIRN S0 ws) (rxPSRN S0 ws) 4 rxzRN_4 rxeRN_4_0 := by
  intro S S_p r r_p hinv hX hin hsm_ hseg
  obtain ⟨I0, I1, h0_, hr_, b_, f_, d_⟩ := bx_cl (evs := []) (fvs := []) hseg (by decide +kernel) (by decide +kernel)
  have hinv : rxIRN_4 S0 ws S := hinv
  have w_ := d_
  subst w_
  have g := rxdRN_4_0 hP hin hsm_ I0 I1 hinv 
  refine ⟨bx_narP_ok (l := []) g.1, ?_⟩
  show rxPSRN S0 ws S_p (some (bx_num r_p (.inr (0, (0, 0)))))
  rw [bx_xv_ok h0_]
  exact g.2
theorem rxdRN_6_0 {S0 : Nat → Int → Int} {ws : List Int} {S : Nat → Int → Int} (hP : rxPRN S0 ws) (hin : bx_same rxL (bx_mdl rxCRN.2.2.1) S0 S) (hin2 : bx_same rxL (bx_mdl rxCRN.2.2.1) S S) (I0 : bx_Inv rxL S) (I1 : bx_Inv rxL S) (hinv : rxIRN_6 S0 ws S)  : (True) ∧ rxPSRN S0 ws S (some 0) := by
  obtain ⟨h1, h2⟩ := hinv
  exact ⟨trivial, 0, rfl, Or.inl rfl, h1, fun q => ⟨(h2 q).1, Or.inl ⟨rfl, (h2 q).2⟩⟩⟩
theorem rxfRN_6_0 {X : (Nat → Int → Int) → Prop} {S0 : Nat → Int → Int} {ws : List Int} (hP : rxPRN S0 ws) : bx_obE rxL X S0 rxCRN.2.2.1 (rxIRN S0 ws) (rxPSRN S0 ws) 6 rxzRN_6 rxeRN_6_0 := by
  intro S S_p r r_p hinv hX hin hsm_ hseg
  obtain ⟨I0, I1, h0_, hr_, b_, f_, d_⟩ := bx_cl (evs := []) (fvs := []) hseg (by decide +kernel) (by decide +kernel)
  have hinv : rxIRN_6 S0 ws S := hinv
  have w_ := d_
  subst w_
  have g := rxdRN_6_0 hP hin hsm_ I0 I1 hinv 
  refine ⟨bx_narP_ok (l := []) g.1, ?_⟩
  show rxPSRN S0 ws S_p (some (bx_num r_p (.inr (0, (0, 0)))))
  rw [bx_xv_ok h0_]
  exact g.2
theorem rxdRN_8_0 {S0 : Nat → Int → Int} {ws : List Int} {S : Nat → Int → Int} {t : Int} (hP : rxPRN S0 ws) (hin : bx_same rxL (bx_mdl rxCRN.2.2.1) S0 S) (hin2 : bx_same rxL (bx_mdl rxCRN.2.2.1) S S) (I0 : bx_Inv rxL S) (I1 : bx_Inv rxL S) (hinv : rxIRN_8 S0 ws S t) (l8 : 0 ≤ t) (u8 : t ≤ 3) : (True) ∧ rxPSRN S0 ws S (some t) := by
  obtain ⟨h1, h2, h3⟩ := hinv
  exact ⟨trivial, t, rfl, by omega, h2, fun q => ⟨(h3 q).1, Or.inr (h3 q).2⟩⟩
theorem rxfRN_8_0 {X : (Nat → Int → Int) → Prop} {S0 : Nat → Int → Int} {ws : List Int} (hP : rxPRN S0 ws) : bx_obE rxL X S0 rxCRN.2.2.1 (rxIRN S0 ws) (rxPSRN S0 ws) 8 rxzRN_8 rxeRN_8_0 := by
  intro S S_p r r_p hinv hX hin hsm_ hseg
  obtain ⟨I0, I1, h0_, hr_, b_, f_, d_⟩ := bx_cl (evs := []) (fvs := []) hseg (by decide +kernel) (by decide +kernel)
  have hinv : rxIRN_8 S0 ws S (r 8) := hinv
  rw [← hr_ 8 (by decide)] at hinv
  obtain ⟨⟨l8, u8⟩, -⟩ := b_
  have w_ := d_
  subst w_
  have g := rxdRN_8_0 hP hin hsm_ I0 I1 hinv l8 u8
  refine ⟨bx_narP_ok (l := []) g.1, ?_⟩
  show rxPSRN S0 ws S_p (some (bx_num r_p (.inr (0, (8, 0)))))
  rw [bx_xv_ok h0_]
  exact g.2
theorem rxgCRN {X : (Nat → Int → Int) → Prop} {S0 : Nat → Int → Int} {ws : List Int} (hP : rxPRN S0 ws) : bx_allI (fun i q => rxURN q = true ∨ bx_allP (fun o => bx_obC rxL X S0 rxCRN.2.2.1 (rxIRN S0 ws) (rxmRN S0 ws) i q.1 o) q.2.1) 0 rxYRN := ⟨Or.inr ⟨rxgRN_0_0 hP, rxgRN_0_1 hP, rxgRN_0_2 hP, rxgRN_0_3 hP, rxgRN_0_4 hP, trivial⟩, Or.inl rfl, Or.inr ⟨rxgRN_2_0 hP, trivial⟩, Or.inl rfl, Or.inr trivial, Or.inl rfl, Or.inr trivial, Or.inl rfl, Or.inr trivial, trivial⟩
theorem rxgERN {X : (Nat → Int → Int) → Prop} {S0 : Nat → Int → Int} {ws : List Int} (hP : rxPRN S0 ws) : bx_allI (fun i q => rxURN q = true ∨ bx_allP (fun E => bx_obE rxL X S0 rxCRN.2.2.1 (rxIRN S0 ws) (rxPSRN S0 ws) i q.1 E) q.2.2) 0 rxYRN := ⟨Or.inr trivial, Or.inl rfl, Or.inr trivial, Or.inl rfl, Or.inr ⟨rxfRN_4_0 hP, trivial⟩, Or.inl rfl, Or.inr ⟨rxfRN_6_0 hP, trivial⟩, Or.inl rfl, Or.inr ⟨rxfRN_8_0 hP, trivial⟩, trivial⟩
theorem rxuRN {PX : State → Prop} {Dg : va_G} {A : Nat → Prop} {ad xa : Nat → Nat} {l : Launch} {X : (Nat → Int → Int) → Prop} (hPX : rx_PXOK rxNW A PX) (hX : ∀ S S1 : Nat → Int → Int, X S → bx_same rxL (bx_mdl rxCRN.2.2.1) S S1 → X S1) (hQPU : bx_ConP rxG rxNW rxAO PX Dg rxL X vwCl A ad l rxM268 rxCPU rxPPU rxPSPU) (hQNX : bx_ConP rxG rxNW rxAO PX Dg rxL X vwCl A ad l rxM264 rxCNX rxPNX rxPSNX) (hQOB : bx_ConP rxG rxNW rxAO PX Dg rxL X vwCl A ad l rxM270 rxCOB rxPOB rxPSOB) (hQRP : bx_ConP rxG rxNW rxAO PX Dg rxL X vwCl A ad l rxM274 rxCRP rxPRP rxPSRP) {S0 : Nat → Int → Int} {ws : List Int} (hP : rxPRN S0 ws) : ∀ (i : Nat) (q : bx_HE), rxYRN[i]? = some q → rxURN q = true → ∀ {p : Program} {e : Env} {R : Room} {s : State} {m : MethodId} {args : Array Value} {below : List Frame} {meth : Method} {c : Code} {Q : State → Prop} {H0 : Heap}, rx_Fr rxG rxNW rxAO PX p s m args meth c rxM278 → (∀ q, H0.size ≤ q → A q) → H0 = s.heap → rxM278.2.2.2.2.2.2.1 ≤ R.cells → rxM278.2.2.2.2.2.2.2 ≤ R.slots → rxCRN.2.2.2.1 ≤ R.frames → rxCRN.2.2.2.1 * 40 ≤ R.locals → bx_Step p l e R s m args below meth c Q Dg rxL X vwCl A xa H0 ad rxM278 rxYRN (rxIRN S0 ws) (rxmRN S0 ws) S0 rxCRN.2.2.1 i q := by
  intro i q hq hus p e R s m args below meth c Q H0 hF hA hH0 hmc hms hd hdl
  match i, hq with
  | 0, hq =>
    cases hq
    exact absurd (show false = true from hus) Bool.false_ne_true
  | 1, hq =>
    cases hq
    exact rx_stepC (ins := .invokevirtual 314) (len := 3) (i_p := 2) (M_p := rxM268) (d := rxCRN.2.2.2.1) (as := [.inr (3, (0, 480)), .inr (0, (0, 28)), .inr (0, (0, 0))]) (t := []) (ct := rxCPU) hPX hF rfl hA hH0 hmc hms hd hdl (by decide +kernel) rfl rfl (by decide +kernel) (by decide +kernel) hQPU (by decide +kernel) rfl (Or.inl ⟨rfl, rfl, rfl⟩) (rxsRN_1 hP)
  | 2, hq =>
    cases hq
    exact absurd (show false = true from hus) Bool.false_ne_true
  | 3, hq =>
    cases hq
    exact rx_stepC (ins := .invokevirtual 253) (len := 3) (i_p := 4) (M_p := rxM264) (d := rxCRN.2.2.2.1) (as := [.inr (3, (0, 480))]) (t := []) (ct := rxCNX) hPX hF rfl hA hH0 hmc hms hd hdl (by decide +kernel) rfl rfl (by decide +kernel) (by decide +kernel) hQNX (by decide +kernel) rfl (Or.inl ⟨rfl, rfl, rfl⟩) (rxsRN_3 hP)
  | 4, hq =>
    cases hq
    exact absurd (show false = true from hus) Bool.false_ne_true
  | 5, hq =>
    cases hq
    exact rx_stepC (ins := .invokevirtual 323) (len := 3) (i_p := 6) (M_p := rxM270) (d := rxCRN.2.2.2.1) (as := [.inr (3, (0, 480)), .inr (0, (0, 31))]) (t := []) (ct := rxCOB) hPX hF rfl hA hH0 hmc hms hd hdl (by decide +kernel) rfl rfl (by decide +kernel) (by decide +kernel) hQOB (by decide +kernel) rfl (Or.inl ⟨rfl, rfl, rfl⟩) (rxsRN_5 hP)
  | 6, hq =>
    cases hq
    exact absurd (show false = true from hus) Bool.false_ne_true
  | 7, hq =>
    cases hq
    exact rx_stepC (ins := .invokevirtual 344) (len := 3) (i_p := 8) (M_p := rxM274) (d := rxCRN.2.2.2.1) (as := [.inr (3, (0, 480))]) (t := []) (ct := rxCRP) hPX hF rfl hA hH0 hmc hms hd hdl (by decide +kernel) rfl rfl (by decide +kernel) (by decide +kernel) hQRP (by decide +kernel) rfl (Or.inr ⟨_, _, _, 1, rfl, rfl, by omega, rfl, rfl, rfl⟩) (rxsRN_7 hP)
  | 8, hq =>
    cases hq
    exact absurd (show false = true from hus) Bool.false_ne_true
  | n + 9, hq => cases hq
theorem rxQRN {PX : State → Prop} {Dg : va_G} {A : Nat → Prop} {ad xa : Nat → Nat} {l : Launch} {X : (Nat → Int → Int) → Prop} (hPX : rx_PXOK rxNW A PX) (hsl : ∀ s : State, PX s → ∀ o idx n : Nat, rxSl o idx = some n → ∃ tx : String, vk_R (rxNm o) idx tx (ad n) s)
    (hX : ∀ S S_p : Nat → Int → Int, X S → bx_same rxL (bx_mdl rxCRN.2.2.1) S S_p → X S_p)
    (ih : ∀ (j2 : Nat) (ct2 : bx_Ct) (M2 : rx_Mt), ct2 ∈ rxCnE j2 → ct2.2.2.2.1 + 1 ≤ rxCRN.2.2.2.1 → rxT.2.2.2.2.2 j2 = some M2 → bx_Con rxG rxNW rxAO PX Dg rxL X vwCl A ad l M2 ct2) (hQPU : bx_ConP rxG rxNW rxAO PX Dg rxL X vwCl A ad l rxM268 rxCPU rxPPU rxPSPU) (hQNX : bx_ConP rxG rxNW rxAO PX Dg rxL X vwCl A ad l rxM264 rxCNX rxPNX rxPSNX) (hQOB : bx_ConP rxG rxNW rxAO PX Dg rxL X vwCl A ad l rxM270 rxCOB rxPOB rxPSOB) (hQRP : bx_ConP rxG rxNW rxAO PX Dg rxL X vwCl A ad l rxM274 rxCRP rxPRP rxPSRP) : bx_ConP rxG rxNW rxAO PX Dg rxL X vwCl A ad l rxM278 rxCRN rxPRN rxPSRN :=
  rxQof (xa := xa) (Cn := rxCnE) (f := 30000) (j := 278) (tab := rxYRN) (us := rxURN) hPX hsl hX ih rfl rxYcRN rxIRN rxmRN
    (fun S0 ws r I0 I ht0 ht as he he1 hX0 hI0 hP hs ha => by
      have e := he.symm.trans (show bx_ent0 rxNP rxCRN.1 bx_I0 [] = some ([(0, 0), (0, 0), (0, 0), (0, 0), (0, 0), (0, 0), (0, 0), (0, 0)], [], [.inr (3, (0, 480))]) from rfl)
      cases e
      subst ha
      have h0 : r 0 = 0 := hs.1
      show rxIRN_0 S0 _ S0
      refine ⟨rfl, ?_⟩
      simp only [List.map_cons, List.map_nil, bx_xv_ok h0]
      rfl)
    (fun S0 ws hP => rxuRN (xa := xa) hPX hX hQPU hQNX hQOB hQRP hP) (fun S0 ws hP => rxgCRN hP) (fun S0 ws hP => rxgERN hP)
end
section
noncomputable def rxCBI : bx_Ct := ([(0, (0, 20, 24))], some (0, (0, 5, 6)), [], 0, [])
noncomputable def rxIBI_0 (S0 : Nat → Int → Int) (ws : List Int) (S : Nat → Int → Int) (op : Int) : Prop := S = S0 ∧ ws = [op]
noncomputable def rxmBI_0 (S0 : Nat → Int → Int) (ws : List Int) (S : Nat → Int → Int) (op : Int) : Nat := 100
noncomputable def rxzBI_0 : rx_Z := ([(0, 0), (0, 0), (0, 0), (0, 0), (0, 0), (0, 0), (0, 0), (0, 0), (20, 24)], [], [], 0, 0, 0, [(0, .inr (0, (8, 0)))], [])
noncomputable def rxeBI_0_0 : rx_End × List (Nat × Int × Int) := (([(0, 0), (0, 0), (0, 0), (0, 0), (0, 0), (0, 0), (0, 0), (0, 0), (22, 24)], [(3, (8, 0), (0, 28)), (3, (8, 0), (0, 29)), (3, (8, 0), (0, 30))], [], some (.inr (0, (0, 6)))), [])
noncomputable def rxeBI_0_1 : rx_End × List (Nat × Int × Int) := (([(0, 0), (0, 0), (0, 0), (0, 0), (0, 0), (0, 0), (0, 0), (0, 0), (20, 21)], [(3, (8, 0), (0, 28)), (3, (8, 0), (0, 29)), (3, (8, 0), (0, 30))], [], some (.inr (0, (0, 5)))), [])
noncomputable def rxYBI : List bx_HE := [(rxzBI_0, [], [rxeBI_0_0, rxeBI_0_1])]
noncomputable def rxUBI (q : bx_HE) : Bool := false
noncomputable def rxYBBI : bx_B := (rxV, rxNP, rxDmf, bx_mdH rxCBI.2.2.1)
set_option maxRecDepth 100000 in
theorem rxYcBI : bx_chkH rxYBBI rxM24 rxCBI rxYBI (rxUBI, fun cut z => rx_ex2 (rxCT rxYBBI rxCnE) cut 30000 rxCBI.2.2.2.1 24 z) = true := by decide +kernel
noncomputable def rxIBI (S0 : Nat → Int → Int) (ws : List Int) (i : Nat) : bx_SP := fun S r => match i with | 0 => rxIBI_0 S0 ws S (r 8) | _ => False
noncomputable def rxmBI (S0 : Nat → Int → Int) (ws : List Int) (i : Nat) (S : Nat → Int → Int) (r : Nat → Int) : Nat := match i with | 0 => rxmBI_0 S0 ws S (r 8) | _ => 0
noncomputable def rxPBI (S0 : Nat → Int → Int) (ws : List Int) : Prop := True
noncomputable def rxPSBI (S0 : Nat → Int → Int) (ws : List Int) (S : Nat → Int → Int) (w : Option Int) : Prop := S = S0
theorem rxdBI_0_0 {S0 : Nat → Int → Int} {ws : List Int} {S : Nat → Int → Int} {op : Int} (hP : rxPBI S0 ws) (hin : bx_same rxL (bx_mdl rxCBI.2.2.1) S0 S) (hin2 : bx_same rxL (bx_mdl rxCBI.2.2.1) S S) (I0 : bx_Inv rxL S) (I1 : bx_Inv rxL S) (hinv : rxIBI_0 S0 ws S op) (l8 : 22 ≤ op) (u8 : op ≤ 24) (f0 : op ≠ 28) (f1 : op ≠ 29) (f2 : op ≠ 30) : (True) ∧ rxPSBI S0 ws S (some 6) := by
  exact ⟨trivial, hinv.1⟩
theorem rxfBI_0_0 {X : (Nat → Int → Int) → Prop} {S0 : Nat → Int → Int} {ws : List Int} (hP : rxPBI S0 ws) : bx_obE rxL X S0 rxCBI.2.2.1 (rxIBI S0 ws) (rxPSBI S0 ws) 0 rxzBI_0 rxeBI_0_0 := by
  intro S S_p r r_p hinv hX hin hsm_ hseg
  obtain ⟨I0, I1, h0_, hr_, b_, f_, d_⟩ := bx_cl (evs := []) (fvs := [(3, (8, 0), (0, 28), (0, 0)), (3, (8, 0), (0, 29), (0, 0)), (3, (8, 0), (0, 30), (0, 0))]) hseg (by decide +kernel) (by decide +kernel)
  have hinv : rxIBI_0 S0 ws S (r 8) := hinv
  rw [← hr_ 8 (by decide)] at hinv
  obtain ⟨⟨l8, u8⟩, -⟩ := b_
  obtain ⟨f0, f1, f2, -⟩ := f_
  have w_ := d_
  subst w_
  have g := rxdBI_0_0 hP hin hsm_ I0 I1 hinv l8 u8 f0 f1 f2
  refine ⟨bx_narP_ok (l := []) g.1, ?_⟩
  show rxPSBI S0 ws S_p (some (bx_num r_p (.inr (0, (0, 6)))))
  rw [bx_xv_ok h0_]
  exact g.2
theorem rxdBI_0_1 {S0 : Nat → Int → Int} {ws : List Int} {S : Nat → Int → Int} {op : Int} (hP : rxPBI S0 ws) (hin : bx_same rxL (bx_mdl rxCBI.2.2.1) S0 S) (hin2 : bx_same rxL (bx_mdl rxCBI.2.2.1) S S) (I0 : bx_Inv rxL S) (I1 : bx_Inv rxL S) (hinv : rxIBI_0 S0 ws S op) (l8 : 20 ≤ op) (u8 : op ≤ 21) (f0 : op ≠ 28) (f1 : op ≠ 29) (f2 : op ≠ 30) : (True) ∧ rxPSBI S0 ws S (some 5) := by
  exact ⟨trivial, hinv.1⟩
theorem rxfBI_0_1 {X : (Nat → Int → Int) → Prop} {S0 : Nat → Int → Int} {ws : List Int} (hP : rxPBI S0 ws) : bx_obE rxL X S0 rxCBI.2.2.1 (rxIBI S0 ws) (rxPSBI S0 ws) 0 rxzBI_0 rxeBI_0_1 := by
  intro S S_p r r_p hinv hX hin hsm_ hseg
  obtain ⟨I0, I1, h0_, hr_, b_, f_, d_⟩ := bx_cl (evs := []) (fvs := [(3, (8, 0), (0, 28), (0, 0)), (3, (8, 0), (0, 29), (0, 0)), (3, (8, 0), (0, 30), (0, 0))]) hseg (by decide +kernel) (by decide +kernel)
  have hinv : rxIBI_0 S0 ws S (r 8) := hinv
  rw [← hr_ 8 (by decide)] at hinv
  obtain ⟨⟨l8, u8⟩, -⟩ := b_
  obtain ⟨f0, f1, f2, -⟩ := f_
  have w_ := d_
  subst w_
  have g := rxdBI_0_1 hP hin hsm_ I0 I1 hinv l8 u8 f0 f1 f2
  refine ⟨bx_narP_ok (l := []) g.1, ?_⟩
  show rxPSBI S0 ws S_p (some (bx_num r_p (.inr (0, (0, 5)))))
  rw [bx_xv_ok h0_]
  exact g.2
theorem rxgCBI {X : (Nat → Int → Int) → Prop} {S0 : Nat → Int → Int} {ws : List Int} (hP : rxPBI S0 ws) : bx_allI (fun i q => rxUBI q = true ∨ bx_allP (fun o => bx_obC rxL X S0 rxCBI.2.2.1 (rxIBI S0 ws) (rxmBI S0 ws) i q.1 o) q.2.1) 0 rxYBI := ⟨Or.inr trivial, trivial⟩
theorem rxgEBI {X : (Nat → Int → Int) → Prop} {S0 : Nat → Int → Int} {ws : List Int} (hP : rxPBI S0 ws) : bx_allI (fun i q => rxUBI q = true ∨ bx_allP (fun E => bx_obE rxL X S0 rxCBI.2.2.1 (rxIBI S0 ws) (rxPSBI S0 ws) i q.1 E) q.2.2) 0 rxYBI := ⟨Or.inr ⟨rxfBI_0_0 hP, rxfBI_0_1 hP, trivial⟩, trivial⟩
theorem rxQBI {PX : State → Prop} {Dg : va_G} {A : Nat → Prop} {ad xa : Nat → Nat} {l : Launch} {X : (Nat → Int → Int) → Prop} (hPX : rx_PXOK rxNW A PX) (hsl : ∀ s : State, PX s → ∀ o idx n : Nat, rxSl o idx = some n → ∃ tx : String, vk_R (rxNm o) idx tx (ad n) s)
    (hX : ∀ S S_p : Nat → Int → Int, X S → bx_same rxL (bx_mdl rxCBI.2.2.1) S S_p → X S_p)
    (ih : ∀ (j2 : Nat) (ct2 : bx_Ct) (M2 : rx_Mt), ct2 ∈ rxCnE j2 → ct2.2.2.2.1 + 1 ≤ rxCBI.2.2.2.1 → rxT.2.2.2.2.2 j2 = some M2 → bx_Con rxG rxNW rxAO PX Dg rxL X vwCl A ad l M2 ct2) : bx_ConP rxG rxNW rxAO PX Dg rxL X vwCl A ad l rxM24 rxCBI rxPBI rxPSBI :=
  rxQof (xa := xa) (Cn := rxCnE) (f := 30000) (j := 24) (tab := rxYBI) (us := rxUBI) hPX hsl hX ih rfl rxYcBI rxIBI rxmBI
    (fun S0 ws r I0 I ht0 ht as he he1 hX0 hI0 hP hs ha => by
      have e := he.symm.trans (show bx_ent0 rxNP rxCBI.1 bx_I0 [] = some ([(0, 0), (0, 0), (0, 0), (0, 0), (0, 0), (0, 0), (0, 0), (0, 0), (20, 24)], [], [.inr (0, (8, 0))]) from rfl)
      cases e
      subst ha
      have h0 : r 0 = 0 := hs.1
      show rxIBI_0 S0 _ S0 (r 8)
      refine ⟨rfl, ?_⟩
      simp only [List.map_cons, List.map_nil, bx_xv_ok h0]
      rfl)
    (fun S0 ws hP => fun i q hq hus => absurd (show false = true from hus) Bool.false_ne_true) (fun S0 ws hP => rxgCBI hP) (fun S0 ws hP => rxgEBI hP)
end
