noncomputable def rxCRIFO : bx_Ct := ([(3, (1, 412, 0))], some (0, (0, 0, 1)), [(6, 0), (7, 2), (7, 3), (7, 4), (7, 7), (7, 8), (7, 10), (1021, 0), (1022, 0), (1027, 0), (1034, 0), (1035, 0), (1036, 0)], 8, [(412, 0, 3, (1, 411, 0)), (412, 6, 3, (1, 427, 0))])
noncomputable def rxIRIFO_0 (S0 : Nat → Int → Int) (ws : List Int) (S : Nat → Int → Int) : Prop := rxIRIFK_0 S0 ws S ∧ True
noncomputable def rxmRIFO_0 (S0 : Nat → Int → Int) (ws : List Int) (S : Nat → Int → Int) : Nat := rxmRIFK_0 S0 ws S
noncomputable def rxzRIFO_0 : rx_Z := ([(0, 0), (0, 0), (0, 0), (0, 0), (0, 0), (0, 0), (0, 0), (0, 0)], [], [(((0, 412), 6), .inr (3, (0, 427))), (((0, 412), 0), .inr (3, (0, 411)))], 0, 0, 0, [(0, .inr (3, (0, 412)))], [])
noncomputable def rxIRIFO_1 (S0 : Nat → Int → Int) (ws : List Int) (S : Nat → Int → Int) : Prop := rxIRIFK_1 S0 ws S ∧ (rkPp S0 → rkPO S0 S)
noncomputable def rxmRIFO_1 (S0 : Nat → Int → Int) (ws : List Int) (S : Nat → Int → Int) : Nat := rxmRIFK_1 S0 ws S
noncomputable def rxzRIFO_1 : rx_Z := ([(0, 0), (0, 0), (0, 0), (0, 0), (0, 0), (0, 0), (0, 0), (0, 0)], [], [(((0, 412), 0), .inr (3, (0, 411))), (((0, 412), 6), .inr (3, (0, 427)))], 0, 0, 3, [(0, .inr (3, (0, 412)))], [.inr (3, (0, 532)), .inr (3, (0, 412))])
noncomputable def rxIRIFO_2 (S0 : Nat → Int → Int) (ws : List Int) (S : Nat → Int → Int) (r : Int) : Prop := rxIRIFK_2 S0 ws S r ∧ (rkPp S0 → rkPO S0 S)
noncomputable def rxmRIFO_2 (S0 : Nat → Int → Int) (ws : List Int) (S : Nat → Int → Int) (r : Int) : Nat := rxmRIFK_2 S0 ws S r
noncomputable def rxzRIFO_2 : rx_Z := ([(0, 0), (0, 0), (0, 0), (0, 0), (0, 0), (0, 0), (0, 0), (0, 0), (0, 1)], [], [(((0, 412), 0), .inr (3, (0, 411))), (((0, 412), 6), .inr (3, (0, 427)))], 0, 0, 6, [(0, .inr (3, (0, 412)))], [.inr (0, (8, 0))])
noncomputable def rxIRIFO_3 (S0 : Nat → Int → Int) (ws : List Int) (S : Nat → Int → Int) : Prop := rxIRIFK_3 S0 ws S ∧ (rkPp S0 → rkPO S0 S)
noncomputable def rxmRIFO_3 (S0 : Nat → Int → Int) (ws : List Int) (S : Nat → Int → Int) : Nat := rxmRIFK_3 S0 ws S
noncomputable def rxzRIFO_3 : rx_Z := ([(0, 0), (0, 0), (0, 0), (0, 0), (0, 0), (0, 0), (0, 0), (0, 0)], [], [(((0, 412), 0), .inr (3, (0, 411))), (((0, 412), 6), .inr (3, (0, 427)))], 0, 0, 12, [(0, .inr (3, (0, 412)))], [.inr (3, (0, 412))])
noncomputable def rxIRIFO_4 (S0 : Nat → Int → Int) (ws : List Int) (S : Nat → Int → Int) : Prop := rxIRIFK_4 S0 ws S ∧ (rkPp S0 → rkPO S0 S)
noncomputable def rxmRIFO_4 (S0 : Nat → Int → Int) (ws : List Int) (S : Nat → Int → Int) : Nat := rxmRIFK_4 S0 ws S
noncomputable def rxzRIFO_4 : rx_Z := ([(0, 0), (0, 0), (0, 0), (0, 0), (0, 0), (0, 0), (0, 0), (0, 0)], [], [(((0, 412), 0), .inr (3, (0, 411))), (((0, 412), 6), .inr (3, (0, 427)))], 0, 0, 15, [(0, .inr (3, (0, 412)))], [])
noncomputable def rxIRIFO_5 (S0 : Nat → Int → Int) (ws : List Int) (S : Nat → Int → Int) (sa : Int) : Prop := rxIRIFK_5 S0 ws S sa ∧ (rkPp S0 → rkPO S0 S)
noncomputable def rxmRIFO_5 (S0 : Nat → Int → Int) (ws : List Int) (S : Nat → Int → Int) (sa : Int) : Nat := rxmRIFK_5 S0 ws S sa
noncomputable def rxzRIFO_5 : rx_Z := ([(0, 0), (0, 0), (0, 0), (0, 0), (0, 0), (0, 0), (0, 0), (0, 0), (0, 1522)], [], [(((8, 0), 1000014), .inl none), (((0, 412), 0), .inr (3, (0, 411))), (((0, 412), 6), .inr (3, (0, 427)))], 0, 0, 24, [(0, .inr (3, (0, 412)))], [.inr (0, (0, 1)), .inr (3, (8, 0)), .inr (3, (0, 412))])
noncomputable def rxIRIFO_6 (S0 : Nat → Int → Int) (ws : List Int) (S : Nat → Int → Int) (sa res : Int) : Prop := rxIRIFK_6 S0 ws S sa res ∧ (rkPp S0 → rkPO S0 S)
noncomputable def rxmRIFO_6 (S0 : Nat → Int → Int) (ws : List Int) (S : Nat → Int → Int) (sa res : Int) : Nat := rxmRIFK_6 S0 ws S sa res
noncomputable def rxzRIFO_6 : rx_Z := ([(0, 0), (0, 0), (0, 0), (0, 0), (0, 0), (0, 0), (0, 0), (0, 0), (0, 1522), (0, 1)], [], [(((8, 0), 1000014), .inl none), (((0, 412), 0), .inr (3, (0, 411))), (((0, 412), 6), .inr (3, (0, 427)))], 0, 0, 27, [(0, .inr (3, (0, 412)))], [.inr (0, (9, 0))])
noncomputable def rxoRIFO_0_0 : bx_HO := (([(0, 0), (0, 0), (0, 0), (0, 0), (0, 0), (0, 0), (0, 0), (0, 0)], [], [(((0, 412), 6), .inr (3, (0, 427))), (((0, 412), 0), .inr (3, (0, 411)))], 0, 0, 3, [(0, .inr (3, (0, 412)))], [.inr (3, (0, 532)), .inr (3, (0, 412))]), [], [], [(0, 0), (0, 0), (0, 0), (0, 0), (0, 0), (0, 0), (0, 0), (0, 0)], 1)
noncomputable def rxoRIFO_2_0 : bx_HO := (([(0, 0), (0, 0), (0, 0), (0, 0), (0, 0), (0, 0), (0, 0), (0, 0), (1, 1)], [(3, (8, 0), (0, 0))], [(((0, 412), 0), .inr (3, (0, 411))), (((0, 412), 6), .inr (3, (0, 427)))], 0, 0, 12, [(0, .inr (3, (0, 412)))], [.inr (3, (0, 412))]), [], [], [(0, 0), (0, 0), (0, 0), (0, 0), (0, 0), (0, 0), (0, 0), (0, 0)], 3)
noncomputable def rxeRIFO_2_0 : rx_End × List (Nat × Int × Int) := (([(0, 0), (0, 0), (0, 0), (0, 0), (0, 0), (0, 0), (0, 0), (0, 0), (0, 0)], [], [(((0, 412), 0), .inr (3, (0, 411))), (((0, 412), 6), .inr (3, (0, 427)))], some (.inr (0, (0, 1)))), [])
noncomputable def rxoRIFO_4_0 : bx_HO := (([(0, 0), (0, 0), (0, 0), (0, 0), (0, 0), (0, 0), (0, 0), (0, 0), (0, 1522)], [], [(((0, 0), 1851192626986356799431407398244775400849232659564395713343455232000000), .inr (3, (8, 0))), (((0, 427), 10), .inr (3, (8, 0))), (((8, 0), 1000014), .inl none), (((0, 412), 0), .inr (3, (0, 411))), (((0, 412), 6), .inr (3, (0, 427)))], 0, 0, 24, [(0, .inr (3, (0, 412)))], [.inr (0, (0, 1)), .inr (3, (8, 0)), .inr (3, (0, 412))]), [], [], [(0, 0), (0, 0), (0, 0), (0, 0), (0, 0), (0, 0), (0, 0), (0, 0), (8, 0)], 5)
noncomputable def rxeRIFO_6_0 : rx_End × List (Nat × Int × Int) := (([(0, 0), (0, 0), (0, 0), (0, 0), (0, 0), (0, 0), (0, 0), (0, 0), (0, 1522), (0, 1)], [], [(((8, 0), 1000014), .inl none), (((0, 412), 0), .inr (3, (0, 411))), (((0, 412), 6), .inr (3, (0, 427)))], some (.inr (0, (9, 0)))), [])
noncomputable def rxYRIFO : List bx_HE := [(rxzRIFO_0, [rxoRIFO_0_0], []), (rxzRIFO_1, [], []), (rxzRIFO_2, [rxoRIFO_2_0], [rxeRIFO_2_0]), (rxzRIFO_3, [], []), (rxzRIFO_4, [rxoRIFO_4_0], []), (rxzRIFO_5, [], []), (rxzRIFO_6, [], [rxeRIFO_6_0])]
noncomputable def rxURIFO (q : bx_HE) : Bool := Nat.beq (rx_zpc q.1) 3 || Nat.beq (rx_zpc q.1) 12 || Nat.beq (rx_zpc q.1) 24
noncomputable def rxYBRIFO : bx_B := (rxV, rxNP, rxDmf, bx_mdH rxCRIFO.2.2.1)
set_option maxRecDepth 100000 in
theorem rxYcRIFO : bx_chkH rxYBRIFO rxM87 rxCRIFO rxYRIFO (rxURIFO, fun cut z => rx_ex2 (rxCT rxYBRIFO rxCnE) cut 30000 rxCRIFO.2.2.2.1 87 z) = true := by decide +kernel
noncomputable def rxIRIFO (S0 : Nat → Int → Int) (ws : List Int) (i : Nat) : bx_SP := fun S r => match i with | 0 => rxIRIFO_0 S0 ws S | 1 => rxIRIFO_1 S0 ws S | 2 => rxIRIFO_2 S0 ws S (r 8) | 3 => rxIRIFO_3 S0 ws S | 4 => rxIRIFO_4 S0 ws S | 5 => rxIRIFO_5 S0 ws S (r 8) | 6 => rxIRIFO_6 S0 ws S (r 8) (r 9) | _ => False
noncomputable def rxmRIFO (S0 : Nat → Int → Int) (ws : List Int) (i : Nat) (S : Nat → Int → Int) (r : Nat → Int) : Nat := match i with | 0 => rxmRIFO_0 S0 ws S | 1 => rxmRIFO_1 S0 ws S | 2 => rxmRIFO_2 S0 ws S (r 8) | 3 => rxmRIFO_3 S0 ws S | 4 => rxmRIFO_4 S0 ws S | 5 => rxmRIFO_5 S0 ws S (r 8) | 6 => rxmRIFO_6 S0 ws S (r 8) (r 9) | _ => 0
noncomputable def rxPRIFO (S0 : Nat → Int → Int) (ws : List Int) : Prop := rxPRIFK S0 ws
noncomputable def rxPSRIFO (S0 : Nat → Int → Int) (ws : List Int) (S : Nat → Int → Int) (w : Option Int) : Prop := rxPSRIFK S0 ws S w ∧ (rkPp S0 → rkPO S0 S)
theorem rxkRIFO_1 {S0 : Nat → Int → Int} {ws : List Int} {S : Nat → Int → Int} (hP : rxPRIFO S0 ws) (hin : bx_same rxL (bx_mdl rxCRIFO.2.2.1) S0 S) (I0 : bx_Inv rxL S) (hinv : rxIRIFO_1 S0 ws S)  : rxPIWX S [412, 532] ∧ ∀ (S_p : Nat → Int → Int) (r : Int), 0 ≤ r → r ≤ 1 → rxPSIWX S [412, 532] S_p (some r) → bx_Inv rxL S_p → bx_same rxL (bx_mdl rxC59.2.2.1) S S_p → rxIRIFO_2 S0 ws S_p r ∧ rxmRIFO_2 S0 ws S_p r < rxmRIFO_1 S0 ws S := by
  obtain ⟨hI, hx⟩ := hinv
  have g_ := rxkRIFK_1 hP hin I0 hI
  exact ⟨g_.1, fun S_p r l_ u_ hq I1 hsm => ⟨⟨(g_.2 S_p r l_ u_ hq I1 hsm).1, (by
    intro hp
    exact rkPO_sm hsm (by decide +kernel) (hx hp))⟩, (g_.2 S_p r l_ u_ hq I1 hsm).2⟩⟩
theorem rxsRIFO_1 {X : (Nat → Int → Int) → Prop} {S0 : Nat → Int → Int} {ws : List Int} (hP : rxPRIFO S0 ws) : rx_obK X S0 rxCRIFO.2.2.1 rxC59.2.2.1 (rxIRIFO S0 ws) (rxmRIFO S0 ws) 1 2 rxzRIFO_1 rxzRIFO_2 [.inr (3, (0, 412)), .inr (3, (0, 532))] (some 8) rxPIWX rxPSIWX := by
  intro S r hinv hXS I0 hin hs_ hf_
  have b_ := bx_bds_sat hs_
  have f_ := bx_fcl_ok hs_.1 hf_
  have g := rxkRIFO_1 hP hin I0 hinv 
  have ea : List.map (bx_num r) [.inr (3, (0, 412)), .inr (3, (0, 532))] = [412, 532] := by
    simp only [List.map_cons, List.map_nil, bx_xv_ok hs_.1]
    rfl
  rw [ea]
  refine ⟨g.1, fun S_p w r_p hPS hX_p I1 hsm hr hw hs_p => ?_⟩
  have hw := hw _ rfl
  subst hw
  have b_p := hs_p.2.2 8 _ _ rfl
  have g2 := g.2 S_p (r_p 8) b_p.1 b_p.2 hPS I1 hsm
  show rxIRIFO_2 S0 ws S_p (r_p 8) ∧ rxmRIFO_2 S0 ws S_p (r_p 8) < _
  exact g2
theorem rxkRIFO_3 {S0 : Nat → Int → Int} {ws : List Int} {S : Nat → Int → Int} (hP : rxPRIFO S0 ws) (hin : bx_same rxL (bx_mdl rxCRIFO.2.2.1) S0 S) (I0 : bx_Inv rxL S) (hinv : rxIRIFO_3 S0 ws S)  : rxPAD S [412] ∧ ∀ (S_p : Nat → Int → Int), rxPSAD S [412] S_p none → bx_Inv rxL S_p → bx_same rxL (bx_mdl rxC84.2.2.1) S S_p → rxIRIFO_4 S0 ws S_p ∧ rxmRIFO_4 S0 ws S_p < rxmRIFO_3 S0 ws S := by
  obtain ⟨hI, hx⟩ := hinv
  have g_ := rxkRIFK_3 hP hin I0 hI
  exact ⟨g_.1, fun S_p hq I1 hsm => ⟨⟨(g_.2 S_p hq I1 hsm).1, (by
    intro hp
    exact rkPO_sm hsm (by decide +kernel) (hx hp))⟩, (g_.2 S_p hq I1 hsm).2⟩⟩
theorem rxsRIFO_3 {X : (Nat → Int → Int) → Prop} {S0 : Nat → Int → Int} {ws : List Int} (hP : rxPRIFO S0 ws) : rx_obK X S0 rxCRIFO.2.2.1 rxC84.2.2.1 (rxIRIFO S0 ws) (rxmRIFO S0 ws) 3 4 rxzRIFO_3 rxzRIFO_4 [.inr (3, (0, 412))] none rxPAD rxPSAD := by
  intro S r hinv hXS I0 hin hs_ hf_
  have b_ := bx_bds_sat hs_
  have f_ := bx_fcl_ok hs_.1 hf_
  have g := rxkRIFO_3 hP hin I0 hinv 
  have ea : List.map (bx_num r) [.inr (3, (0, 412))] = [412] := by
    simp only [List.map_cons, List.map_nil, bx_xv_ok hs_.1]
    rfl
  rw [ea]
  refine ⟨g.1, fun S_p w r_p hPS hX_p I1 hsm hr hw hs_p => ?_⟩
  have hw : w = none := hPS.1
  subst hw
  have g2 := g.2 S_p hPS I1 hsm
  show rxIRIFO_4 S0 ws S_p ∧ rxmRIFO_4 S0 ws S_p < _
  exact g2
theorem rxkRIFO_5 {S0 : Nat → Int → Int} {ws : List Int} {S : Nat → Int → Int} {sa : Int} (hP : rxPRIFO S0 ws) (hin : bx_same rxL (bx_mdl rxCRIFO.2.2.1) S0 S) (I0 : bx_Inv rxL S) (hinv : rxIRIFO_5 S0 ws S sa) (l8 : 0 ≤ sa) (u8 : sa ≤ 1522) : rxPREDO S [412, sa, 1] ∧ ∀ (S_p : Nat → Int → Int) (res : Int), 0 ≤ res → res ≤ 1 → rxPSREDO S [412, sa, 1] S_p (some res) → bx_Inv rxL S_p → bx_same rxL (bx_mdl rxCREDO.2.2.1) S S_p → rxIRIFO_6 S0 ws S_p sa res ∧ rxmRIFO_6 S0 ws S_p sa res < rxmRIFO_5 S0 ws S sa := by
  obtain ⟨hI, hx⟩ := hinv
  have g_ := rxkRIFK_5 hP hin I0 hI l8 u8
  exact ⟨g_.1, fun S_p res l_ u_ hq I1 hsm => ⟨⟨(g_.2 S_p res l_ u_ hq.1 I1 hsm).1, (by
    intro hp
    have g := hx hp
    exact g.tr (hq.2 sa 1 rfl (Or.inr (Or.inr (hI.2.2.2.trans hp.2.2))) g.1))⟩, (g_.2 S_p res l_ u_ hq.1 I1 hsm).2⟩⟩
theorem rxsRIFO_5 {X : (Nat → Int → Int) → Prop} {S0 : Nat → Int → Int} {ws : List Int} (hP : rxPRIFO S0 ws) : rx_obK X S0 rxCRIFO.2.2.1 rxCREDO.2.2.1 (rxIRIFO S0 ws) (rxmRIFO S0 ws) 5 6 rxzRIFO_5 rxzRIFO_6 [.inr (3, (0, 412)), .inr (3, (8, 0)), .inr (0, (0, 1))] (some 9) rxPREDO rxPSREDO := by
  intro S r hinv hXS I0 hin hs_ hf_
  have b_ := bx_bds_sat hs_
  have f_ := bx_fcl_ok hs_.1 hf_
  obtain ⟨⟨l8, u8⟩, -⟩ := b_
  have g := rxkRIFO_5 hP hin I0 hinv l8 u8
  have ea : List.map (bx_num r) [.inr (3, (0, 412)), .inr (3, (8, 0)), .inr (0, (0, 1))] = [412, (r 8), 1] := by
    simp only [List.map_cons, List.map_nil, bx_xv_ok hs_.1]
    rfl
  rw [ea]
  refine ⟨g.1, fun S_p w r_p hPS hX_p I1 hsm hr hw hs_p => ?_⟩
  have hw := hw _ rfl
  subst hw
  have b_p := hs_p.2.2 9 _ _ rfl
  have g2 := g.2 S_p (r_p 9) b_p.1 b_p.2 hPS I1 hsm
  show rxIRIFO_6 S0 ws S_p (r_p 8) (r_p 9) ∧ rxmRIFO_6 S0 ws S_p (r_p 8) (r_p 9) < _
  rw [hr 8 (by decide)]
  exact g2
theorem rxcRIFO_0_0 {S0 : Nat → Int → Int} {ws : List Int} {S : Nat → Int → Int} (hP : rxPRIFO S0 ws) (hin : bx_same rxL (bx_mdl rxCRIFO.2.2.1) S0 S) (I0 : bx_Inv rxL S) (hinv : rxIRIFO_0 S0 ws S)  : (True) ∧ (True) ∧ rxIRIFO_1 S0 ws S ∧ rxmRIFO_1 S0 ws S < rxmRIFO_0 S0 ws S := by
  obtain ⟨hI, hx⟩ := hinv
  obtain ⟨a_, b_, c_, d_⟩ := rxcRIFK_0_0 hP hin I0 hI
  exact ⟨a_, b_, ⟨c_, (by
    have e := hI.1.1
    subst e
    intro hp
    exact (rkPO_rf hp))⟩, d_⟩
theorem rxgRIFO_0_0 {X : (Nat → Int → Int) → Prop} {S0 : Nat → Int → Int} {ws : List Int} (hP : rxPRIFO S0 ws) : bx_obC rxL X S0 rxCRIFO.2.2.1 (rxIRIFO S0 ws) (rxmRIFO S0 ws) 0 rxzRIFO_0 rxoRIFO_0_0 := by
  intro S S_p r r_p hinv hX hin hsm_ hseg
  obtain ⟨I0, I1, h0_, hr_, b_, f_, d_⟩ := bx_cl (evs := []) (fvs := []) hseg (by decide +kernel) (by decide +kernel)
  have hinv : rxIRIFO_0 S0 ws S := hinv
  have w_ := d_
  subst w_
  have g := rxcRIFO_0_0 hP hin I0 hinv 
  refine ⟨bx_narP_ok (l := []) g.1, bx_nfP_ok h0_ (fvs := []) (by decide +kernel) g.2.1, ?_, ?_⟩
  · show rxIRIFO_1 S0 ws S_p
    exact g.2.2.1
  · show rxmRIFO_1 S0 ws S_p < rxmRIFO_0 S0 ws S_p
    exact g.2.2.2
theorem rxcRIFO_2_0 {S0 : Nat → Int → Int} {ws : List Int} {S : Nat → Int → Int} {r : Int} (hP : rxPRIFO S0 ws) (hin : bx_same rxL (bx_mdl rxCRIFO.2.2.1) S0 S) (I0 : bx_Inv rxL S) (hinv : rxIRIFO_2 S0 ws S r) (l8 : 1 ≤ r) (u8 : r ≤ 1) (f0 : r ≠ 0) : (True) ∧ (True) ∧ rxIRIFO_3 S0 ws S ∧ rxmRIFO_3 S0 ws S < rxmRIFO_2 S0 ws S r := by
  obtain ⟨hI, hx⟩ := hinv
  obtain ⟨a_, b_, c_, d_⟩ := rxcRIFK_2_0 hP hin I0 hI l8 u8 f0
  exact ⟨a_, b_, ⟨c_, hx⟩, d_⟩
theorem rxgRIFO_2_0 {X : (Nat → Int → Int) → Prop} {S0 : Nat → Int → Int} {ws : List Int} (hP : rxPRIFO S0 ws) : bx_obC rxL X S0 rxCRIFO.2.2.1 (rxIRIFO S0 ws) (rxmRIFO S0 ws) 2 rxzRIFO_2 rxoRIFO_2_0 := by
  intro S S_p r r_p hinv hX hin hsm_ hseg
  obtain ⟨I0, I1, h0_, hr_, b_, f_, d_⟩ := bx_cl (evs := []) (fvs := [(3, (8, 0), (0, 0), (0, 0))]) hseg (by decide +kernel) (by decide +kernel)
  have hinv : rxIRIFO_2 S0 ws S (r 8) := hinv
  rw [← hr_ 8 (by decide)] at hinv
  obtain ⟨⟨l8, u8⟩, -⟩ := b_
  obtain ⟨f0, -⟩ := f_
  have w_ := d_
  subst w_
  have g := rxcRIFO_2_0 hP hin I0 hinv l8 u8 f0
  refine ⟨bx_narP_ok (l := []) g.1, bx_nfP_ok h0_ (fvs := []) (by decide +kernel) g.2.1, ?_, ?_⟩
  · show rxIRIFO_3 S0 ws S_p
    exact g.2.2.1
  · show rxmRIFO_3 S0 ws S_p < rxmRIFO_2 S0 ws S_p (r 8)
    rw [← hr_ 8 (by decide)]
    exact g.2.2.2
theorem rxdRIFO_2_0 {S0 : Nat → Int → Int} {ws : List Int} {S : Nat → Int → Int} {r : Int} (hP : rxPRIFO S0 ws) (hin : bx_same rxL (bx_mdl rxCRIFO.2.2.1) S0 S) (hin2 : bx_same rxL (bx_mdl rxCRIFO.2.2.1) S S) (I0 : bx_Inv rxL S) (I1 : bx_Inv rxL S) (hinv : rxIRIFO_2 S0 ws S r) (l8 : 0 ≤ r) (u8 : r ≤ 0) : (True) ∧ rxPSRIFO S0 ws S (some 1) := by
  obtain ⟨hI, hx⟩ := hinv
  obtain ⟨a_, c_⟩ := rxdRIFK_2_0 hP hin hin2 I0 I1 hI l8 u8
  exact ⟨a_, c_, hx⟩
theorem rxfRIFO_2_0 {X : (Nat → Int → Int) → Prop} {S0 : Nat → Int → Int} {ws : List Int} (hP : rxPRIFO S0 ws) : bx_obE rxL X S0 rxCRIFO.2.2.1 (rxIRIFO S0 ws) (rxPSRIFO S0 ws) 2 rxzRIFO_2 rxeRIFO_2_0 := by
  intro S S_p r r_p hinv hX hin hsm_ hseg
  obtain ⟨I0, I1, h0_, hr_, b_, f_, d_⟩ := bx_cl (evs := []) (fvs := []) hseg (by decide +kernel) (by decide +kernel)
  have hinv : rxIRIFO_2 S0 ws S (r 8) := hinv
  rw [← hr_ 8 (by decide)] at hinv
  obtain ⟨⟨l8, u8⟩, -⟩ := b_
  have w_ := d_
  subst w_
  have g := rxdRIFO_2_0 hP hin hsm_ I0 I1 hinv l8 u8
  refine ⟨bx_narP_ok (l := []) g.1, ?_⟩
  show rxPSRIFO S0 ws S_p (some (bx_num r_p (.inr (0, (0, 1)))))
  rw [bx_xv_ok h0_]
  exact g.2
theorem rxcRIFO_4_0 {S0 : Nat → Int → Int} {ws : List Int} {S : Nat → Int → Int} {x8 : Int} (hP : rxPRIFO S0 ws) (hin : bx_same rxL (bx_mdl rxCRIFO.2.2.1) S0 S) (I0 : bx_Inv rxL S) (hinv : rxIRIFO_4 S0 ws S) (l8 : 0 ≤ x8) (u8 : x8 ≤ 1522) (e0 : S 427 10 = x8) : (True) ∧ (True) ∧ rxIRIFO_5 S0 ws S x8 ∧ rxmRIFO_5 S0 ws S x8 < rxmRIFO_4 S0 ws S := by
  obtain ⟨hI, hx⟩ := hinv
  obtain ⟨a_, b_, c_, d_⟩ := rxcRIFK_4_0 hP hin I0 hI l8 u8 e0
  exact ⟨a_, b_, ⟨c_, hx⟩, d_⟩
theorem rxgRIFO_4_0 {X : (Nat → Int → Int) → Prop} {S0 : Nat → Int → Int} {ws : List Int} (hP : rxPRIFO S0 ws) : bx_obC rxL X S0 rxCRIFO.2.2.1 (rxIRIFO S0 ws) (rxmRIFO S0 ws) 4 rxzRIFO_4 rxoRIFO_4_0 := by
  intro S S_p r r_p hinv hX hin hsm_ hseg
  obtain ⟨I0, I1, h0_, hr_, b_, f_, d_⟩ := bx_cl (evs := [(0, (0, 427), (0, 10), .inr (3, (8, 0)))]) (fvs := []) hseg (by decide +kernel) (by decide +kernel)
  have hinv : rxIRIFO_4 S0 ws S := hinv
  obtain ⟨⟨l8, u8⟩, -⟩ := b_
  obtain ⟨e0, w_⟩ := d_
  subst w_
  have g := rxcRIFO_4_0 hP hin I0 hinv l8 u8 e0
  refine ⟨bx_narP_ok (l := []) g.1, bx_nfP_ok h0_ (fvs := []) (by decide +kernel) g.2.1, ?_, ?_⟩
  · show rxIRIFO_5 S0 ws S_p (bx_val [(0, 0), (0, 0), (0, 0), (0, 0), (0, 0), (0, 0), (0, 0), (0, 0), (8, 0)] r_p 8)
    rw [bx_val_x (n := 8) (e := (8, 0)) h0_ rfl]
    exact g.2.2.1
  · show rxmRIFO_5 S0 ws S_p (bx_val [(0, 0), (0, 0), (0, 0), (0, 0), (0, 0), (0, 0), (0, 0), (0, 0), (8, 0)] r_p 8) < rxmRIFO_4 S0 ws S_p
    rw [bx_val_x (n := 8) (e := (8, 0)) h0_ rfl]
    exact g.2.2.2
theorem rxdRIFO_6_0 {S0 : Nat → Int → Int} {ws : List Int} {S : Nat → Int → Int} {sa res : Int} (hP : rxPRIFO S0 ws) (hin : bx_same rxL (bx_mdl rxCRIFO.2.2.1) S0 S) (hin2 : bx_same rxL (bx_mdl rxCRIFO.2.2.1) S S) (I0 : bx_Inv rxL S) (I1 : bx_Inv rxL S) (hinv : rxIRIFO_6 S0 ws S sa res) (l8 : 0 ≤ sa) (u8 : sa ≤ 1522) (l9 : 0 ≤ res) (u9 : res ≤ 1) : (True) ∧ rxPSRIFO S0 ws S (some res) := by
  obtain ⟨hI, hx⟩ := hinv
  obtain ⟨a_, c_⟩ := rxdRIFK_6_0 hP hin hin2 I0 I1 hI l8 u8 l9 u9
  exact ⟨a_, c_, hx⟩
theorem rxfRIFO_6_0 {X : (Nat → Int → Int) → Prop} {S0 : Nat → Int → Int} {ws : List Int} (hP : rxPRIFO S0 ws) : bx_obE rxL X S0 rxCRIFO.2.2.1 (rxIRIFO S0 ws) (rxPSRIFO S0 ws) 6 rxzRIFO_6 rxeRIFO_6_0 := by
  intro S S_p r r_p hinv hX hin hsm_ hseg
  obtain ⟨I0, I1, h0_, hr_, b_, f_, d_⟩ := bx_cl (evs := []) (fvs := []) hseg (by decide +kernel) (by decide +kernel)
  have hinv : rxIRIFO_6 S0 ws S (r 8) (r 9) := hinv
  rw [← hr_ 8 (by decide), ← hr_ 9 (by decide)] at hinv
  obtain ⟨⟨l8, u8⟩, ⟨l9, u9⟩, -⟩ := b_
  have w_ := d_
  subst w_
  have g := rxdRIFO_6_0 hP hin hsm_ I0 I1 hinv l8 u8 l9 u9
  refine ⟨bx_narP_ok (l := []) g.1, ?_⟩
  show rxPSRIFO S0 ws S_p (some (bx_num r_p (.inr (0, (9, 0)))))
  rw [bx_xv_ok h0_]
  exact g.2
theorem rxgCRIFO {X : (Nat → Int → Int) → Prop} {S0 : Nat → Int → Int} {ws : List Int} (hP : rxPRIFO S0 ws) : bx_allI (fun i q => rxURIFO q = true ∨ bx_allP (fun o => bx_obC rxL X S0 rxCRIFO.2.2.1 (rxIRIFO S0 ws) (rxmRIFO S0 ws) i q.1 o) q.2.1) 0 rxYRIFO := ⟨Or.inr ⟨rxgRIFO_0_0 hP, trivial⟩, Or.inl rfl, Or.inr ⟨rxgRIFO_2_0 hP, trivial⟩, Or.inl rfl, Or.inr ⟨rxgRIFO_4_0 hP, trivial⟩, Or.inl rfl, Or.inr trivial, trivial⟩
theorem rxgERIFO {X : (Nat → Int → Int) → Prop} {S0 : Nat → Int → Int} {ws : List Int} (hP : rxPRIFO S0 ws) : bx_allI (fun i q => rxURIFO q = true ∨ bx_allP (fun E => bx_obE rxL X S0 rxCRIFO.2.2.1 (rxIRIFO S0 ws) (rxPSRIFO S0 ws) i q.1 E) q.2.2) 0 rxYRIFO := ⟨Or.inr trivial, Or.inl rfl, Or.inr ⟨rxfRIFO_2_0 hP, trivial⟩, Or.inl rfl, Or.inr trivial, Or.inl rfl, Or.inr ⟨rxfRIFO_6_0 hP, trivial⟩, trivial⟩
theorem rxuRIFO {PX : State → Prop} {Dg : va_G} {A : Nat → Prop} {ad xa : Nat → Nat} {l : Launch} {X : (Nat → Int → Int) → Prop} (hPX : rx_PXOK rxNW A PX) (hX : ∀ S S1 : Nat → Int → Int, X S → bx_same rxL (bx_mdl rxCRIFO.2.2.1) S S1 → X S1) (hQIWX : bx_ConP rxG rxNW rxAO PX Dg rxL X vwCl A ad l rxM59 rxC59 rxPIWX rxPSIWX) (hQAD : bx_ConP rxG rxNW rxAO PX Dg rxL X vwCl A ad l rxM84 rxC84 rxPAD rxPSAD) (hQREDO : bx_ConP rxG rxNW rxAO PX Dg rxL X vwCl A ad l rxM61 rxCREDO rxPREDO rxPSREDO) {S0 : Nat → Int → Int} {ws : List Int} (hP : rxPRIFO S0 ws) : ∀ (i : Nat) (q : bx_HE), rxYRIFO[i]? = some q → rxURIFO q = true → ∀ {p : Program} {e : Env} {R : Room} {s : State} {m : MethodId} {args : Array Value} {below : List Frame} {meth : Method} {c : Code} {Q : State → Prop} {H0 : Heap}, rx_Fr rxG rxNW rxAO PX p s m args meth c rxM87 → (∀ q, H0.size ≤ q → A q) → H0 = s.heap → rxM87.2.2.2.2.2.2.1 ≤ R.cells → rxM87.2.2.2.2.2.2.2 ≤ R.slots → rxCRIFO.2.2.2.1 ≤ R.frames → rxCRIFO.2.2.2.1 * 40 ≤ R.locals → bx_Step p l e R s m args below meth c Q Dg rxL X vwCl A xa H0 ad rxM87 rxYRIFO (rxIRIFO S0 ws) (rxmRIFO S0 ws) S0 rxCRIFO.2.2.1 i q := by
  intro i q hq hus p e R s m args below meth c Q H0 hF hA hH0 hmc hms hd hdl
  match i, hq with
  | 0, hq =>
    cases hq
    exact absurd (show false = true from hus) Bool.false_ne_true
  | 1, hq =>
    cases hq
    exact rx_stepC (ins := .invokevirtual 100) (len := 3) (i_p := 2) (M_p := rxM59) (d := rxCRIFO.2.2.2.1) (as := [.inr (3, (0, 412)), .inr (3, (0, 532))]) (t := []) (ct := rxC59) hPX hF rfl hA hH0 hmc hms hd hdl (by decide +kernel) rfl rfl (by decide +kernel) (by decide +kernel) hQIWX (by decide +kernel) rfl (Or.inr ⟨_, _, _, 1, rfl, rfl, by omega, rfl, rfl, rfl⟩) (rxsRIFO_1 hP)
  | 2, hq =>
    cases hq
    exact absurd (show false = true from hus) Bool.false_ne_true
  | 3, hq =>
    cases hq
    exact rx_stepC (ins := .invokevirtual 66) (len := 3) (i_p := 4) (M_p := rxM84) (d := rxCRIFO.2.2.2.1) (as := [.inr (3, (0, 412))]) (t := []) (ct := rxC84) hPX hF rfl hA hH0 hmc hms hd hdl (by decide +kernel) rfl rfl (by decide +kernel) (by decide +kernel) hQAD (by decide +kernel) rfl (Or.inl ⟨rfl, rfl, rfl⟩) (rxsRIFO_3 hP)
  | 4, hq =>
    cases hq
    exact absurd (show false = true from hus) Bool.false_ne_true
  | 5, hq =>
    cases hq
    exact rx_stepC (ins := .invokevirtual 112) (len := 3) (i_p := 6) (M_p := rxM61) (d := rxCRIFO.2.2.2.1) (as := [.inr (3, (0, 412)), .inr (3, (8, 0)), .inr (0, (0, 1))]) (t := []) (ct := rxCREDO) hPX hF rfl hA hH0 hmc hms hd hdl (by decide +kernel) rfl rfl (by decide +kernel) (by decide +kernel) hQREDO (by decide +kernel) rfl (Or.inr ⟨_, _, _, 1, rfl, rfl, by omega, rfl, rfl, rfl⟩) (rxsRIFO_5 hP)
  | 6, hq =>
    cases hq
    exact absurd (show false = true from hus) Bool.false_ne_true
  | n + 7, hq => cases hq
theorem rxQRIFO {PX : State → Prop} {Dg : va_G} {A : Nat → Prop} {ad xa : Nat → Nat} {l : Launch} {X : (Nat → Int → Int) → Prop} (hPX : rx_PXOK rxNW A PX) (hsl : ∀ s : State, PX s → ∀ o idx n : Nat, rxSl o idx = some n → ∃ tx : String, vk_R (rxNm o) idx tx (ad n) s)
    (hX : ∀ S S_p : Nat → Int → Int, X S → bx_same rxL (bx_mdl rxCRIFO.2.2.1) S S_p → X S_p)
    (ih : ∀ (j2 : Nat) (ct2 : bx_Ct) (M2 : rx_Mt), ct2 ∈ rxCnE j2 → ct2.2.2.2.1 + 1 ≤ rxCRIFO.2.2.2.1 → rxT.2.2.2.2.2 j2 = some M2 → bx_Con rxG rxNW rxAO PX Dg rxL X vwCl A ad l M2 ct2) (hQIWX : bx_ConP rxG rxNW rxAO PX Dg rxL X vwCl A ad l rxM59 rxC59 rxPIWX rxPSIWX) (hQAD : bx_ConP rxG rxNW rxAO PX Dg rxL X vwCl A ad l rxM84 rxC84 rxPAD rxPSAD) (hQREDO : bx_ConP rxG rxNW rxAO PX Dg rxL X vwCl A ad l rxM61 rxCREDO rxPREDO rxPSREDO) : bx_ConP rxG rxNW rxAO PX Dg rxL X vwCl A ad l rxM87 rxCRIFO rxPRIFO rxPSRIFO :=
  rxQof (xa := xa) (Cn := rxCnE) (f := 30000) (j := 87) (tab := rxYRIFO) (us := rxURIFO) hPX hsl hX ih rfl rxYcRIFO rxIRIFO rxmRIFO
    (fun S0 ws r I0 I ht0 ht as he he1 hX0 hI0 hP hs ha => by
      have e := he.symm.trans (show bx_ent0 rxNP rxCRIFO.1 bx_I0 [] = some ([(0, 0), (0, 0), (0, 0), (0, 0), (0, 0), (0, 0), (0, 0), (0, 0)], [], [.inr (3, (0, 412))]) from rfl)
      cases e
      subst ha
      have h0 : r 0 = 0 := hs.1
      show rxIRIFO_0 S0 _ S0
      refine ⟨⟨⟨rfl, ?_⟩, trivial⟩, trivial⟩
      simp only [List.map_cons, List.map_nil, bx_xv_ok h0]
      rfl)
    (fun S0 ws hP => rxuRIFO (xa := xa) hPX hX hQIWX hQAD hQREDO hP) (fun S0 ws hP => rxgCRIFO hP) (fun S0 ws hP => rxgERIFO hP)
noncomputable def rxCOCO : bx_Ct := ([(3, (2, 7, 0)), (0, (0, 0, 4)), (0, (0, (-1), 6)), (0, (0, (-1), 6))], none, [(6, 4), (1024, 0), (1025, 0), (1026, 0), (1027, 0)], 1, [])
noncomputable def rxIOCO_0 (S0 : Nat → Int → Int) (ws : List Int) (S : Nat → Int → Int) (pg ki st cu : Int) : Prop := rxIOCDK_0 S0 ws S pg ki st cu ∧ True
noncomputable def rxmOCO_0 (S0 : Nat → Int → Int) (ws : List Int) (S : Nat → Int → Int) (pg ki st cu : Int) : Nat := rxmOCDK_0 S0 ws S pg ki st cu
noncomputable def rxzOCO_0 : rx_Z := ([(0, 0), (0, 0), (0, 0), (0, 0), (0, 0), (0, 0), (0, 0), (0, 0), (0, 1522), (0, 4), ((-1), 6), ((-1), 6)], [], [(((8, 0), 1000007), .inl none)], 0, 0, 0, [(0, .inr (3, (8, 0))), (1, .inr (0, (9, 0))), (2, .inr (0, (10, 0))), (3, .inr (0, (11, 0)))], [])
noncomputable def rxeOCO_0_0 : rx_End × List (Nat × Int × Int) := (([(0, 0), (0, 0), (0, 0), (0, 0), (0, 0), (0, 0), (0, 0), (0, 0), (0, 1522), (0, 4), ((-1), 6), ((-1), 6), (12, 12)], [], [(((0, 0), 1851192626986356798227167157524121751206303872841384191768657992000000), .inr (0, (12, 0))), (((8, 0), 4), .inr (0, (12, 0))), (((8, 0), 1000007), .inl none)], none), [])
noncomputable def rxeOCO_0_1 : rx_End × List (Nat × Int × Int) := (([(0, 0), (0, 0), (0, 0), (0, 0), (0, 0), (0, 0), (0, 0), (0, 0), (0, 1522), (0, 4), ((-1), 6), ((-1), 6), (0, 11), (0, 1522), (0, 1522), (0, 1522)], [], [(((0, 0), 1851192626986356798227167157524121751206303872841384191768657995000000), .inr (0, (12, 1))), (((8, 0), 4), .inr (0, (12, 1))), (((0, 0), 1851192626986356797424377080872646779465072059483645808520200330000000), .inr (0, (0, (-1)))), (((0, 0), 1851192626986356799431407398244775400849232659564395713091600456000000), .inr (3, (15, 0))), (((8, 0), 10), .inr (3, (15, 0))), (((15, 0), 1000014), .inl none), (((0, 0), 1851192626986356797424377080872646779465072059483645808520200321000000), .inr (0, (0, (-1)))), (((0, 0), 1851192626986356799230700691457999792575411195110560459537776712000000), .inr (3, (14, 0))), (((8, 0), 9), .inr (3, (14, 0))), (((14, 0), 1000014), .inl none), (((0, 0), 1851192626986356797424377080872646779465072059483645808520200312000000), .inr (0, (0, (-1)))), (((0, 0), 1851192626986356799029993984671224184301589730656725205983952968000000), .inr (3, (13, 0))), (((8, 0), 8), .inr (3, (13, 0))), (((13, 0), 1000014), .inl none), (((0, 0), 1851192626986356797424377080872646779465072059483645808523739211000000), .inr (0, (11, 0))), (((0, 0), 1851192626986356798829287277884448576027768266202889952430129224000000), .inr (3, (8, 6))), (((8, 0), 7), .inr (3, (8, 6))), (((0, 0), 1851192626986356797424377080872646779465072059483645808523149387000000), .inr (0, (10, 0))), (((0, 0), 1851192626986356798628580571097672967753946801749054698876305480000000), .inr (3, (8, 5))), (((8, 0), 6), .inr (3, (8, 5))), (((0, 0), 1851192626986356797424377080872646779465072059483645808522559563000000), .inr (0, (9, 0))), (((0, 0), 1851192626986356798427873864310897359480125337295219445322481736000000), .inr (3, (8, 4))), (((8, 0), 5), .inr (3, (8, 4))), (((0, 0), 1851192626986356798227167157524121751206303872841384191768657992000000), .inr (0, (12, 0))), (((8, 0), 1000007), .inl none)], none), [])
noncomputable def rxYOCO : List bx_HE := [(rxzOCO_0, [], [rxeOCO_0_0, rxeOCO_0_1])]
noncomputable def rxUOCO (q : bx_HE) : Bool := false
noncomputable def rxYBOCO : bx_B := (rxV, rxNP, rxDmf, bx_mdH rxCOCO.2.2.1)
set_option maxRecDepth 100000 in
theorem rxYcOCO : bx_chkH rxYBOCO rxM60 rxCOCO rxYOCO (rxUOCO, fun cut z => rx_ex2 (rxCT rxYBOCO rxCnE) cut 30000 rxCOCO.2.2.2.1 60 z) = true := by decide +kernel
noncomputable def rxIOCO (S0 : Nat → Int → Int) (ws : List Int) (i : Nat) : bx_SP := fun S r => match i with | 0 => rxIOCO_0 S0 ws S (r 8) (r 9) (r 10) (r 11) | _ => False
noncomputable def rxmOCO (S0 : Nat → Int → Int) (ws : List Int) (i : Nat) (S : Nat → Int → Int) (r : Nat → Int) : Nat := match i with | 0 => rxmOCO_0 S0 ws S (r 8) (r 9) (r 10) (r 11) | _ => 0
noncomputable def rxPOCO (S0 : Nat → Int → Int) (ws : List Int) : Prop := rxPOCDK S0 ws
noncomputable def rxPSOCO (S0 : Nat → Int → Int) (ws : List Int) (S : Nat → Int → Int) (w : Option Int) : Prop := w = none ∧ rxPSOCDK S0 ws S w ∧ (∃ pg ki st cu : Int, ws = [pg, ki, st, cu] ∧ (pg = 427 → rkPp S0 → rkPO S0 S))
theorem rxdOCO_0_0 {S0 : Nat → Int → Int} {ws : List Int} {S : Nat → Int → Int} {pg ki st cu x12 : Int} (hP : rxPOCO S0 ws) (hin : bx_same rxL (bx_mdl rxCOCO.2.2.1) S0 S) (hin2 : bx_same rxL (bx_mdl rxCOCO.2.2.1) S S) (I0 : bx_Inv rxL S) (I1 : bx_Inv rxL S) (hinv : rxIOCO_0 S0 ws S pg ki st cu) (l8 : 0 ≤ pg) (u8 : pg ≤ 1522) (l9 : 0 ≤ ki) (u9 : ki ≤ 4) (l10 : (-1) ≤ st) (u10 : st ≤ 6) (l11 : (-1) ≤ cu) (u11 : cu ≤ 6) (l12 : 12 ≤ x12) (u12 : x12 ≤ 12) (e0 : S (pg).toNat 4 = x12) : (True) ∧ rxPSOCO S0 ws S none := by
  obtain ⟨hI, hx⟩ := hinv
  obtain ⟨a_, c_⟩ := rxdOCDK_0_0 hP hin hin2 I0 I1 hI l8 u8 l9 u9 l10 u10 l11 u11 l12 u12 e0
  exact ⟨a_, rfl, c_, (by
    obtain ⟨e_, hw⟩ := hI.1
    subst e_
    refine ⟨pg, ki, st, cu, hw, fun h7 hp => ?_⟩
    exact rkPO_rf hp)⟩
theorem rxfOCO_0_0 {X : (Nat → Int → Int) → Prop} {S0 : Nat → Int → Int} {ws : List Int} (hP : rxPOCO S0 ws) : bx_obE rxL X S0 rxCOCO.2.2.1 (rxIOCO S0 ws) (rxPSOCO S0 ws) 0 rxzOCO_0 rxeOCO_0_0 := by
  intro S S_p r r_p hinv hX hin hsm_ hseg
  obtain ⟨I0, I1, h0_, hr_, b_, f_, d_⟩ := bx_cl (evs := [(0, (8, 0), (0, 4), .inr (0, (12, 0)))]) (fvs := []) hseg (by decide +kernel) (by decide +kernel)
  have hinv : rxIOCO_0 S0 ws S (r 8) (r 9) (r 10) (r 11) := hinv
  rw [← hr_ 8 (by decide), ← hr_ 9 (by decide), ← hr_ 10 (by decide), ← hr_ 11 (by decide)] at hinv
  obtain ⟨⟨l8, u8⟩, ⟨l9, u9⟩, ⟨l10, u10⟩, ⟨l11, u11⟩, ⟨l12, u12⟩, -⟩ := b_
  obtain ⟨e0, w_⟩ := d_
  subst w_
  have g := rxdOCO_0_0 hP hin hsm_ I0 I1 hinv l8 u8 l9 u9 l10 u10 l11 u11 l12 u12 e0
  refine ⟨bx_narP_ok (l := []) g.1, ?_⟩
  exact g.2
theorem rxdOCO_0_1 {S0 : Nat → Int → Int} {ws : List Int} {S : Nat → Int → Int} {pg ki st cu x12 x13 x14 x15 : Int} (hP : rxPOCO S0 ws) (hin : bx_same rxL (bx_mdl rxCOCO.2.2.1) S0 S) (hin2 : bx_same rxL (bx_mdl rxCOCO.2.2.1) S (bx_up (bx_up (bx_up (bx_up (bx_up (bx_up (bx_up S (pg + 4).toNat x12 ki) (pg + 5).toNat x12 st) (pg + 6).toNat x12 cu) (x13).toNat x12 ((-1))) (x14).toNat x12 ((-1))) (x15).toNat x12 ((-1))) (pg).toNat 4 (x12 + 1))) (I0 : bx_Inv rxL S) (I1 : bx_Inv rxL (bx_up (bx_up (bx_up (bx_up (bx_up (bx_up (bx_up S (pg + 4).toNat x12 ki) (pg + 5).toNat x12 st) (pg + 6).toNat x12 cu) (x13).toNat x12 ((-1))) (x14).toNat x12 ((-1))) (x15).toNat x12 ((-1))) (pg).toNat 4 (x12 + 1))) (hinv : rxIOCO_0 S0 ws S pg ki st cu) (l8 : 0 ≤ pg) (u8 : pg ≤ 1522) (l9 : 0 ≤ ki) (u9 : ki ≤ 4) (l10 : (-1) ≤ st) (u10 : st ≤ 6) (l11 : (-1) ≤ cu) (u11 : cu ≤ 6) (l12 : 0 ≤ x12) (u12 : x12 ≤ 11) (l13 : 0 ≤ x13) (u13 : x13 ≤ 1522) (l14 : 0 ≤ x14) (u14 : x14 ≤ 1522) (l15 : 0 ≤ x15) (u15 : x15 ≤ 1522) (e13 : S (pg).toNat 4 = x12) (e12 : S (pg).toNat 5 = pg + 4) (e10 : (bx_up S (pg + 4).toNat x12 ki) (pg).toNat 6 = pg + 5) (e8 : (bx_up (bx_up S (pg + 4).toNat x12 ki) (pg + 5).toNat x12 st) (pg).toNat 7 = pg + 6) (e6 : (bx_up (bx_up (bx_up S (pg + 4).toNat x12 ki) (pg + 5).toNat x12 st) (pg + 6).toNat x12 cu) (pg).toNat 8 = x13) (e4 : (bx_up (bx_up (bx_up (bx_up S (pg + 4).toNat x12 ki) (pg + 5).toNat x12 st) (pg + 6).toNat x12 cu) (x13).toNat x12 ((-1))) (pg).toNat 9 = x14) (e2 : (bx_up (bx_up (bx_up (bx_up (bx_up S (pg + 4).toNat x12 ki) (pg + 5).toNat x12 st) (pg + 6).toNat x12 cu) (x13).toNat x12 ((-1))) (x14).toNat x12 ((-1))) (pg).toNat 10 = x15) : (True) ∧ rxPSOCO S0 ws (bx_up (bx_up (bx_up (bx_up (bx_up (bx_up (bx_up S (pg + 4).toNat x12 ki) (pg + 5).toNat x12 st) (pg + 6).toNat x12 cu) (x13).toNat x12 ((-1))) (x14).toNat x12 ((-1))) (x15).toNat x12 ((-1))) (pg).toNat 4 (x12 + 1)) none := by
  obtain ⟨hI, hx⟩ := hinv
  obtain ⟨a_, c_⟩ := rxdOCDK_0_1 hP hin hin2 I0 I1 hI l8 u8 l9 u9 l10 u10 l11 u11 l12 u12 l13 u13 l14 u14 l15 u15 e13 e12 e10 e8 e6 e4 e2
  exact ⟨a_, rfl, c_, (by
    obtain ⟨e_, hw⟩ := hI.1
    subst e_
    refine ⟨pg, ki, st, cu, hw, fun h7 hp => ?_⟩
    obtain ⟨pg2, ki2, st2, cu2, hw2, h⟩ := c_.2.2
    have e7 : pg2 = pg := Option.some.inj (congrArg (fun l : List Int => l[0]?) (hw2.symm.trans hw))
    have q4 : S 427 4 = x12 := by
      have q := e13
      rw [h7] at q
      exact q
    rw [h (e7.trans h7) hp (by omega) (by omega)]
    exact rkPO_oc hp)⟩
theorem rxfOCO_0_1 {X : (Nat → Int → Int) → Prop} {S0 : Nat → Int → Int} {ws : List Int} (hP : rxPOCO S0 ws) : bx_obE rxL X S0 rxCOCO.2.2.1 (rxIOCO S0 ws) (rxPSOCO S0 ws) 0 rxzOCO_0 rxeOCO_0_1 := by
  intro S S_p r r_p hinv hX hin hsm_ hseg
  obtain ⟨I0, I1, h0_, hr_, b_, f_, d_⟩ := bx_cl (evs := [(1, (8, 0), (0, 4), .inr (0, (12, 1))), (1, (15, 0), (12, 0), .inr (0, (0, (-1)))), (0, (8, 0), (0, 10), .inr (3, (15, 0))), (1, (14, 0), (12, 0), .inr (0, (0, (-1)))), (0, (8, 0), (0, 9), .inr (3, (14, 0))), (1, (13, 0), (12, 0), .inr (0, (0, (-1)))), (0, (8, 0), (0, 8), .inr (3, (13, 0))), (1, (8, 6), (12, 0), .inr (0, (11, 0))), (0, (8, 0), (0, 7), .inr (3, (8, 6))), (1, (8, 5), (12, 0), .inr (0, (10, 0))), (0, (8, 0), (0, 6), .inr (3, (8, 5))), (1, (8, 4), (12, 0), .inr (0, (9, 0))), (0, (8, 0), (0, 5), .inr (3, (8, 4))), (0, (8, 0), (0, 4), .inr (0, (12, 0)))]) (fvs := []) hseg (by decide +kernel) (by decide +kernel)
  have hinv : rxIOCO_0 S0 ws S (r 8) (r 9) (r 10) (r 11) := hinv
  rw [← hr_ 8 (by decide), ← hr_ 9 (by decide), ← hr_ 10 (by decide), ← hr_ 11 (by decide)] at hinv
  obtain ⟨⟨l8, u8⟩, ⟨l9, u9⟩, ⟨l10, u10⟩, ⟨l11, u11⟩, ⟨l12, u12⟩, ⟨l13, u13⟩, ⟨l14, u14⟩, ⟨l15, u15⟩, -⟩ := b_
  obtain ⟨T0, ⟨T1, ⟨e2, ⟨T3, ⟨e4, ⟨T5, ⟨e6, ⟨T7, ⟨e8, ⟨T9, ⟨e10, ⟨T11, ⟨e12, ⟨e13, w_⟩⟩, w11⟩⟩, w9⟩⟩, w7⟩⟩, w5⟩⟩, w3⟩⟩, w1⟩, w0⟩ := d_
  subst w0
  subst w1
  subst w3
  subst w5
  subst w7
  subst w9
  subst w11
  subst w_
  have g := rxdOCO_0_1 hP hin hsm_ I0 I1 hinv l8 u8 l9 u9 l10 u10 l11 u11 l12 u12 l13 u13 l14 u14 l15 u15 e13 e12 e10 e8 e6 e4 e2
  refine ⟨bx_narP_ok (l := []) g.1, ?_⟩
  exact g.2
theorem rxgCOCO {X : (Nat → Int → Int) → Prop} {S0 : Nat → Int → Int} {ws : List Int} (hP : rxPOCO S0 ws) : bx_allI (fun i q => rxUOCO q = true ∨ bx_allP (fun o => bx_obC rxL X S0 rxCOCO.2.2.1 (rxIOCO S0 ws) (rxmOCO S0 ws) i q.1 o) q.2.1) 0 rxYOCO := ⟨Or.inr trivial, trivial⟩
theorem rxgEOCO {X : (Nat → Int → Int) → Prop} {S0 : Nat → Int → Int} {ws : List Int} (hP : rxPOCO S0 ws) : bx_allI (fun i q => rxUOCO q = true ∨ bx_allP (fun E => bx_obE rxL X S0 rxCOCO.2.2.1 (rxIOCO S0 ws) (rxPSOCO S0 ws) i q.1 E) q.2.2) 0 rxYOCO := ⟨Or.inr ⟨rxfOCO_0_0 hP, rxfOCO_0_1 hP, trivial⟩, trivial⟩
theorem rxQOCO {PX : State → Prop} {Dg : va_G} {A : Nat → Prop} {ad xa : Nat → Nat} {l : Launch} {X : (Nat → Int → Int) → Prop} (hPX : rx_PXOK rxNW A PX) (hsl : ∀ s : State, PX s → ∀ o idx n : Nat, rxSl o idx = some n → ∃ tx : String, vk_R (rxNm o) idx tx (ad n) s)
    (hX : ∀ S S_p : Nat → Int → Int, X S → bx_same rxL (bx_mdl rxCOCO.2.2.1) S S_p → X S_p)
    (ih : ∀ (j2 : Nat) (ct2 : bx_Ct) (M2 : rx_Mt), ct2 ∈ rxCnE j2 → ct2.2.2.2.1 + 1 ≤ rxCOCO.2.2.2.1 → rxT.2.2.2.2.2 j2 = some M2 → bx_Con rxG rxNW rxAO PX Dg rxL X vwCl A ad l M2 ct2) : bx_ConP rxG rxNW rxAO PX Dg rxL X vwCl A ad l rxM60 rxCOCO rxPOCO rxPSOCO :=
  rxQof (xa := xa) (Cn := rxCnE) (f := 30000) (j := 60) (tab := rxYOCO) (us := rxUOCO) hPX hsl hX ih rfl rxYcOCO rxIOCO rxmOCO
    (fun S0 ws r I0 I ht0 ht as he he1 hX0 hI0 hP hs ha => by
      have e := he.symm.trans (show bx_ent0 rxNP rxCOCO.1 bx_I0 [] = some ([(0, 0), (0, 0), (0, 0), (0, 0), (0, 0), (0, 0), (0, 0), (0, 0), (0, 1522), (0, 4), ((-1), 6), ((-1), 6)], [(((8, 0), 1000007), .inl none)], [.inr (3, (8, 0)), .inr (0, (9, 0)), .inr (0, (10, 0)), .inr (0, (11, 0))]) from rfl)
      cases e
      subst ha
      have h0 : r 0 = 0 := hs.1
      show rxIOCO_0 S0 _ S0 (r 8) (r 9) (r 10) (r 11)
      refine ⟨⟨⟨rfl, ?_⟩, trivial⟩, trivial⟩
      simp only [List.map_cons, List.map_nil, bx_xv_ok h0]
      rfl)
    (fun S0 ws hP => fun i q hq hus => absurd (show false = true from hus) Bool.false_ne_true) (fun S0 ws hP => rxgCOCO hP) (fun S0 ws hP => rxgEOCO hP)
