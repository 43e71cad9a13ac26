/-! CONTRACT BY HAND, by program (wip/sim/genhand.py): DeadUnderstudies.play -/
def rxIPLYO_0 (S0 : Nat → Int → Int) (ws : List Int) (S : Nat → Int → Int) (pa : Int) : Prop := rxIPLY_0 S0 ws S pa ∧ True
def rxmPLYO_0 (S0 : Nat → Int → Int) (ws : List Int) (S : Nat → Int → Int) (pa : Int) : Nat := rxmPLY_0 S0 ws S pa
def rxzPLYO_0 : rx_Z := ([(0, 0), (0, 0), (0, 0), (0, 0), (0, 0), (0, 0), (0, 0), (0, 0), ((-2147483648), 2147483647)], [], [], 0, 0, 0, [(0, .inr (3, (0, 0))), (1, .inr (0, (8, 0)))], [])
def rxIPLYO_1 (S0 : Nat → Int → Int) (ws : List Int) (S : Nat → Int → Int) (pa : Int) : Prop := rxIPLY_1 S0 ws S pa ∧ rkPO S0 S
def rxmPLYO_1 (S0 : Nat → Int → Int) (ws : List Int) (S : Nat → Int → Int) (pa : Int) : Nat := rxmPLY_1 S0 ws S pa
def rxzPLYO_1 : rx_Z := ([(0, 0), (0, 0), (0, 0), (0, 0), (0, 0), (0, 0), (0, 0), (0, 0), ((-2147483648), 2147483647)], [], [], 0, 0, 14, [(0, .inr (3, (0, 0))), (1, .inr (0, (8, 0)))], [.inr (0, (0, (-2))), .inr (3, (0, 0))])
def rxIPLYO_2 (S0 : Nat → Int → Int) (ws : List Int) (S : Nat → Int → Int) (pa res : Int) : Prop := rxIPLY_2 S0 ws S pa res ∧ rkPO S0 S
def rxmPLYO_2 (S0 : Nat → Int → Int) (ws : List Int) (S : Nat → Int → Int) (pa res : Int) : Nat := rxmPLY_2 S0 ws S pa res
def rxzPLYO_2 : rx_Z := ([(0, 0), (0, 0), (0, 0), (0, 0), (0, 0), (0, 0), (0, 0), (0, 0), ((-2147483648), 2147483647), ((-6), (-1))], [], [], 0, 0, 17, [(0, .inr (3, (0, 0))), (1, .inr (0, (8, 0)))], [.inr (0, (9, 0))])
def rxIPLYO_3 (S0 : Nat → Int → Int) (ws : List Int) (S : Nat → Int → Int) (pa nb : Int) : Prop := rxIPLY_3 S0 ws S pa nb ∧ rkPO S0 S
def rxmPLYO_3 (S0 : Nat → Int → Int) (ws : List Int) (S : Nat → Int → Int) (pa nb : Int) : Nat := rxmPLY_3 S0 ws S pa nb
def rxzPLYO_3 : rx_Z := ([(0, 0), (0, 0), (0, 0), (0, 0), (0, 0), (0, 0), (0, 0), (0, 0), (0, 5), (0, 400)], [], [], 0, 0, 35, [(0, .inr (3, (0, 0))), (1, .inr (0, (8, 0)))], [.inr (3, (0, 427)), .inr (0, (0, 1)), .inr (0, (9, 0)), .inr (3, (0, 411)), .inr (3, (0, 412))])
def rxIPLYO_4 (S0 : Nat → Int → Int) (ws : List Int) (S : Nat → Int → Int) (pa nb res : Int) : Prop := rxIPLY_4 S0 ws S pa nb res ∧ rkPO S0 S
def rxmPLYO_4 (S0 : Nat → Int → Int) (ws : List Int) (S : Nat → Int → Int) (pa nb res : Int) : Nat := rxmPLY_4 S0 ws S pa nb res
def rxzPLYO_4 : rx_Z := ([(0, 0), (0, 0), (0, 0), (0, 0), (0, 0), (0, 0), (0, 0), (0, 0), (0, 5), (0, 400), (0, 1)], [], [], 0, 0, 38, [(0, .inr (3, (0, 0))), (1, .inr (0, (8, 0)))], [.inr (0, (10, 0))])
def rxIPLYO_5 (S0 : Nat → Int → Int) (ws : List Int) (S : Nat → Int → Int) (pa : Int) : Prop := rxIPLY_5 S0 ws S pa ∧ rkPO S0 S
def rxmPLYO_5 (S0 : Nat → Int → Int) (ws : List Int) (S : Nat → Int → Int) (pa : Int) : Nat := rxmPLY_5 S0 ws S pa
def rxzPLYO_5 : rx_Z := ([(0, 0), (0, 0), (0, 0), (0, 0), (0, 0), (0, 0), (0, 0), (0, 0), (0, 5)], [], [], 0, 0, 70, [(0, .inr (3, (0, 0))), (1, .inr (0, (8, 0)))], [.inr (0, (0, (-6))), .inr (3, (0, 0))])
def rxIPLYO_6 (S0 : Nat → Int → Int) (ws : List Int) (S : Nat → Int → Int) (pa res : Int) : Prop := rxIPLY_6 S0 ws S pa res ∧ rkPO S0 S
def rxmPLYO_6 (S0 : Nat → Int → Int) (ws : List Int) (S : Nat → Int → Int) (pa res : Int) : Nat := rxmPLY_6 S0 ws S pa res
def rxzPLYO_6 : rx_Z := ([(0, 0), (0, 0), (0, 0), (0, 0), (0, 0), (0, 0), (0, 0), (0, 0), (0, 5), ((-6), (-1))], [], [], 0, 0, 73, [(0, .inr (3, (0, 0))), (1, .inr (0, (8, 0)))], [.inr (0, (9, 0))])
def rxoPLYO_0_0 : bx_HO := (([(0, 0), (0, 0), (0, 0), (0, 0), (0, 0), (0, 0), (0, 0), (0, 0), ((-2147483648), (-1))], [], [(((0, 0), 0), .inr (3, (0, 1)))], 0, 0, 14, [(0, .inr (3, (0, 0))), (1, .inr (0, (8, 0)))], [.inr (0, (0, (-2))), .inr (3, (0, 0))]), [], [], [(0, 0), (0, 0), (0, 0), (0, 0), (0, 0), (0, 0), (0, 0), (0, 0), (8, 0)], 1)
def rxoPLYO_0_1 : bx_HO := (([(0, 0), (0, 0), (0, 0), (0, 0), (0, 0), (0, 0), (0, 0), (0, 0), (0, 2147483647), (0, 6)], [(1, (9, 0), (8, 0))], [(((0, 0), 1851192626986356797424340330377019318111018015026043177553952768000000), .inr (0, (9, 0))), (((0, 1), 0), .inr (0, (9, 0))), (((0, 0), 0), .inr (3, (0, 1)))], 0, 0, 14, [(0, .inr (3, (0, 0))), (1, .inr (0, (8, 0)))], [.inr (0, (0, (-2))), .inr (3, (0, 0))]), [], [], [(0, 0), (0, 0), (0, 0), (0, 0), (0, 0), (0, 0), (0, 0), (0, 0), (8, 0)], 1)
def rxoPLYO_0_2 : bx_HO := (([(0, 0), (0, 0), (0, 0), (0, 0), (0, 0), (0, 0), (0, 0), (0, 0), (0, 5), (1, 6), (0, 400)], [(0, (8, 0), (9, 0))], [(((0, 0), 6), .inr (3, (0, 427))), (((0, 0), 1851192626986356798227167157524121751206303872841384191768657920000000), .inr (0, (10, 0))), (((0, 0), 4), .inr (0, (10, 0))), (((0, 0), 3), .inr (3, (0, 411))), (((0, 0), 5), .inr (3, (0, 412))), (((0, 0), 1851192626986356797424340330377019318111018015026043177553952768000000), .inr (0, (9, 0))), (((0, 1), 0), .inr (0, (9, 0))), (((0, 0), 0), .inr (3, (0, 1)))], 0, 0, 35, [(0, .inr (3, (0, 0))), (1, .inr (0, (8, 0)))], [.inr (3, (0, 427)), .inr (0, (0, 1)), .inr (0, (10, 0)), .inr (3, (0, 411)), .inr (3, (0, 412))]), [], [], [(0, 0), (0, 0), (0, 0), (0, 0), (0, 0), (0, 0), (0, 0), (0, 0), (8, 0), (10, 0)], 3)
def rxePLYO_2_0 : rx_End × List (Nat × Int × Int) := (([(0, 0), (0, 0), (0, 0), (0, 0), (0, 0), (0, 0), (0, 0), (0, 0), ((-2147483648), 2147483647), ((-6), (-1))], [], [], some (.inr (0, (9, 0)))), [])
def rxoPLYO_4_0 : bx_HO := (([(0, 0), (0, 0), (0, 0), (0, 0), (0, 0), (0, 0), (0, 0), (0, 0), (0, 5), (0, 400), (0, 0)], [], [(((0, 0), 1851192626986356798227167157524121751206303872841384191768657923000000), .inr (0, (0, 0))), (((0, 0), 4), .inr (0, (0, 0)))], 0, 0, 70, [(2, .inr (0, (10, 0))), (0, .inr (3, (0, 0))), (1, .inr (0, (8, 0)))], [.inr (0, (0, (-6))), .inr (3, (0, 0))]), [], [], [(0, 0), (0, 0), (0, 0), (0, 0), (0, 0), (0, 0), (0, 0), (0, 0), (8, 0)], 5)
def rxePLYO_4_0 : rx_End × List (Nat × Int × Int) := (([(0, 0), (0, 0), (0, 0), (0, 0), (0, 0), (0, 0), (0, 0), (0, 0), (0, 5), (0, 400), (1, 1), ((-2147483648), 2147483647)], [(3, (10, 0), (0, 0))], [(((0, 0), 1851192626986356799029993984671224184301589730656725205983952899000000), .inr (0, (0, 0))), (((0, 0), 8), .inr (0, (0, 0))), (((0, 0), 916200006000000), .inl none), (((0, 0), 917100006000000), .inl none), (((0, 0), 918000006000000), .inl none), (((0, 0), 920700006000000), .inl none), (((0, 0), 89999100006000000), .inl none), (((0, 0), 6), .inr (3, (0, 427))), (((0, 0), 0), .inr (3, (0, 1))), (((0, 0), 1851192626986356798227167157524121751206303872841384191768657923000000), .inr (0, (0, 0))), (((0, 0), 4), .inr (0, (0, 0)))], some (.inr (0, (11, 0)))), [])
def rxePLYO_6_0 : rx_End × List (Nat × Int × Int) := (([(0, 0), (0, 0), (0, 0), (0, 0), (0, 0), (0, 0), (0, 0), (0, 0), (0, 5), ((-6), (-1))], [], [], some (.inr (0, (9, 0)))), [])
def rxYPLYO : List bx_HE := [(rxzPLYO_0, [rxoPLYO_0_0, rxoPLYO_0_1, rxoPLYO_0_2], []), (rxzPLYO_1, [], []), (rxzPLYO_2, [], [rxePLYO_2_0]), (rxzPLYO_3, [], []), (rxzPLYO_4, [rxoPLYO_4_0], [rxePLYO_4_0]), (rxzPLYO_5, [], []), (rxzPLYO_6, [], [rxePLYO_6_0])]
def rxUPLYO (q : bx_HE) : Bool := Nat.beq (rx_zpc q.1) 14 || Nat.beq (rx_zpc q.1) 35 || Nat.beq (rx_zpc q.1) 70
def rxYBPLYO : bx_B := (rxV, rxNP, rxDmf, bx_mdH rxC239.2.2.1)
set_option maxRecDepth 100000 in
theorem rxYcPLYO : bx_chkH rxYBPLYO rxM239 rxC239 rxYPLYO (rxUPLYO, fun cut z => rx_ex2 (rxCT rxYBPLYO rxCn) cut 30000 rxC239.2.2.2.1 239 z) = true := by decide +kernel
def rxIPLYO (S0 : Nat → Int → Int) (ws : List Int) (i : Nat) : bx_SP := fun S r => match i with | 0 => rxIPLYO_0 S0 ws S (r 8) | 1 => rxIPLYO_1 S0 ws S (r 8) | 2 => rxIPLYO_2 S0 ws S (r 8) (r 9) | 3 => rxIPLYO_3 S0 ws S (r 8) (r 9) | 4 => rxIPLYO_4 S0 ws S (r 8) (r 9) (r 10) | 5 => rxIPLYO_5 S0 ws S (r 8) | 6 => rxIPLYO_6 S0 ws S (r 8) (r 9) | _ => False
def rxmPLYO (S0 : Nat → Int → Int) (ws : List Int) (i : Nat) (S : Nat → Int → Int) (r : Nat → Int) : Nat := match i with | 0 => rxmPLYO_0 S0 ws S (r 8) | 1 => rxmPLYO_1 S0 ws S (r 8) | 2 => rxmPLYO_2 S0 ws S (r 8) (r 9) | 3 => rxmPLYO_3 S0 ws S (r 8) (r 9) | 4 => rxmPLYO_4 S0 ws S (r 8) (r 9) (r 10) | 5 => rxmPLYO_5 S0 ws S (r 8) | 6 => rxmPLYO_6 S0 ws S (r 8) (r 9) | _ => 0
def rxPPLYO (S0 : Nat → Int → Int) (ws : List Int) : Prop := rxPPLY S0 ws ∧ (rkPf S0)
def rxPSPLYO (S0 : Nat → Int → Int) (ws : List Int) (S : Nat → Int → Int) (w : Option Int) : Prop := rxPSPLY S0 ws S w ∧ (rkOe S0 S)
theorem rxkPLYO_1 {S0 : Nat → Int → Int} {ws : List Int} {S : Nat → Int → Int} {pa : Int} (hP : rxPPLYO S0 ws) (hin : bx_same rxL (bx_mdl rxC239.2.2.1) S0 S) (I0 : bx_Inv rxL S) (hinv : rxIPLYO_1 S0 ws S pa) (l8 : (-2147483648) ≤ pa) (u8 : pa ≤ 2147483647) : rxP110 S [0, (-2)] ∧ ∀ (S_p : Nat → Int → Int) (res : Int), (-6) ≤ res → res ≤ (-1) → rxPS110 S [0, (-2)] S_p (some res) → bx_Inv rxL S_p → bx_same rxL (bx_mdl rxC110.2.2.1) S S_p → rxIPLYO_2 S0 ws S_p pa res ∧ rxmPLYO_2 S0 ws S_p pa res < rxmPLYO_1 S0 ws S pa := by
  obtain ⟨hI, hx⟩ := hinv
  have g_ := rxkPLY_1 hP.1 hin I0 hI l8 u8
  exact ⟨g_.1, fun S_p res l_ u_ hq I1 hsm => ⟨⟨(g_.2 S_p res l_ u_ hq I1 hsm).1, rkPO_sm hsm (by decide +kernel) hx⟩, (g_.2 S_p res l_ u_ hq I1 hsm).2⟩⟩
theorem rxsPLYO_1 {X : (Nat → Int → Int) → Prop} {S0 : Nat → Int → Int} {ws : List Int} (hP : rxPPLYO S0 ws) : rx_obK X S0 rxC239.2.2.1 rxC110.2.2.1 (rxIPLYO S0 ws) (rxmPLYO S0 ws) 1 2 rxzPLYO_1 rxzPLYO_2 [.inr (3, (0, 0)), .inr (0, (0, (-2)))] (some 9) rxP110 rxPS110 := by
  intro S r hinv hXS I0 hin hs_ hf_
  have b_ := bx_bds_sat hs_
  have f_ := bx_fcl_ok hs_.1 hf_
  obtain ⟨⟨l8, u8⟩, -⟩ := b_
  have g := rxkPLYO_1 hP hin I0 hinv l8 u8
  have ea : List.map (bx_num r) [.inr (3, (0, 0)), .inr (0, (0, (-2)))] = [0, -2] := by
    simp only [List.map_cons, List.map_nil, bx_xv_ok hs_.1]
    rfl
  rw [ea]
  refine ⟨g.1, fun S_p w r_p hPS hX_p I1 hsm hr hw hs_p => ?_⟩
  have hw := hw _ rfl
  subst hw
  have b_p := hs_p.2.2 9 _ _ rfl
  have g2 := g.2 S_p (r_p 9) b_p.1 b_p.2 hPS I1 hsm
  show rxIPLYO_2 S0 ws S_p (r_p 8) (r_p 9) ∧ rxmPLYO_2 S0 ws S_p (r_p 8) (r_p 9) < _
  rw [hr 8 (by decide)]
  exact g2
theorem rxkPLYO_3 {S0 : Nat → Int → Int} {ws : List Int} {S : Nat → Int → Int} {pa nb : Int} (hP : rxPPLYO S0 ws) (hin : bx_same rxL (bx_mdl rxC239.2.2.1) S0 S) (I0 : bx_Inv rxL S) (hinv : rxIPLYO_3 S0 ws S pa nb) (l8 : 0 ≤ pa) (u8 : pa ≤ 5) (l9 : 0 ≤ nb) (u9 : nb ≤ 400) : rxPRDXO S [412, 411, nb, 1, 427] ∧ ∀ (S_p : Nat → Int → Int) (res : Int), 0 ≤ res → res ≤ 1 → rxPSRDXO S [412, 411, nb, 1, 427] S_p (some res) → bx_Inv rxL S_p → bx_same rxL (bx_mdl rxCRDXO.2.2.1) S S_p → rxIPLYO_4 S0 ws S_p pa nb res ∧ rxmPLYO_4 S0 ws S_p pa nb res < rxmPLYO_3 S0 ws S pa nb := by
  obtain ⟨hI, hx⟩ := hinv
  have g_ := rxkPLY_3 hP.1 hin I0 hI l8 u8 l9 u9
  exact ⟨g_.1, fun S_p res l_ u_ hq I1 hsm => ⟨⟨(g_.2 S_p res l_ u_ hq.1.1 I1 hsm).1, (by
    have hp : rkPp S := hx.1
    exact hx.tr (hq.2 hp))⟩, (g_.2 S_p res l_ u_ hq.1.1 I1 hsm).2⟩⟩
theorem rxsPLYO_3 {X : (Nat → Int → Int) → Prop} {S0 : Nat → Int → Int} {ws : List Int} (hP : rxPPLYO S0 ws) : rx_obK X S0 rxC239.2.2.1 rxCRDXO.2.2.1 (rxIPLYO S0 ws) (rxmPLYO S0 ws) 3 4 rxzPLYO_3 rxzPLYO_4 [.inr (3, (0, 412)), .inr (3, (0, 411)), .inr (0, (9, 0)), .inr (0, (0, 1)), .inr (3, (0, 427))] (some 10) rxPRDXO rxPSRDXO := by
  intro S r hinv hXS I0 hin hs_ hf_
  have b_ := bx_bds_sat hs_
  have f_ := bx_fcl_ok hs_.1 hf_
  obtain ⟨⟨l8, u8⟩, ⟨l9, u9⟩, -⟩ := b_
  have g := rxkPLYO_3 hP hin I0 hinv l8 u8 l9 u9
  have ea : List.map (bx_num r) [.inr (3, (0, 412)), .inr (3, (0, 411)), .inr (0, (9, 0)), .inr (0, (0, 1)), .inr (3, (0, 427))] = [412, 411, (r 9), 1, 427] := by
    simp only [List.map_cons, List.map_nil, bx_xv_ok hs_.1]
    rfl
  rw [ea]
  refine ⟨g.1, fun S_p w r_p hPS hX_p I1 hsm hr hw hs_p => ?_⟩
  have hw := hw _ rfl
  subst hw
  have b_p := hs_p.2.2 10 _ _ rfl
  have g2 := g.2 S_p (r_p 10) b_p.1 b_p.2 hPS I1 hsm
  show rxIPLYO_4 S0 ws S_p (r_p 8) (r_p 9) (r_p 10) ∧ rxmPLYO_4 S0 ws S_p (r_p 8) (r_p 9) (r_p 10) < _
  rw [hr 8 (by decide), hr 9 (by decide)]
  exact g2
theorem rxkPLYO_5 {S0 : Nat → Int → Int} {ws : List Int} {S : Nat → Int → Int} {pa : Int} (hP : rxPPLYO S0 ws) (hin : bx_same rxL (bx_mdl rxC239.2.2.1) S0 S) (I0 : bx_Inv rxL S) (hinv : rxIPLYO_5 S0 ws S pa) (l8 : 0 ≤ pa) (u8 : pa ≤ 5) : rxP110 S [0, (-6)] ∧ ∀ (S_p : Nat → Int → Int) (res : Int), (-6) ≤ res → res ≤ (-1) → rxPS110 S [0, (-6)] S_p (some res) → bx_Inv rxL S_p → bx_same rxL (bx_mdl rxC110.2.2.1) S S_p → rxIPLYO_6 S0 ws S_p pa res ∧ rxmPLYO_6 S0 ws S_p pa res < rxmPLYO_5 S0 ws S pa := by
  obtain ⟨hI, hx⟩ := hinv
  have g_ := rxkPLY_5 hP.1 hin I0 hI l8 u8
  exact ⟨g_.1, fun S_p res l_ u_ hq I1 hsm => ⟨⟨(g_.2 S_p res l_ u_ hq I1 hsm).1, rkPO_sm hsm (by decide +kernel) hx⟩, (g_.2 S_p res l_ u_ hq I1 hsm).2⟩⟩
theorem rxsPLYO_5 {X : (Nat → Int → Int) → Prop} {S0 : Nat → Int → Int} {ws : List Int} (hP : rxPPLYO S0 ws) : rx_obK X S0 rxC239.2.2.1 rxC110.2.2.1 (rxIPLYO S0 ws) (rxmPLYO S0 ws) 5 6 rxzPLYO_5 rxzPLYO_6 [.inr (3, (0, 0)), .inr (0, (0, (-6)))] (some 9) rxP110 rxPS110 := by
  intro S r hinv hXS I0 hin hs_ hf_
  have b_ := bx_bds_sat hs_
  have f_ := bx_fcl_ok hs_.1 hf_
  obtain ⟨⟨l8, u8⟩, -⟩ := b_
  have g := rxkPLYO_5 hP hin I0 hinv l8 u8
  have ea : List.map (bx_num r) [.inr (3, (0, 0)), .inr (0, (0, (-6)))] = [0, -6] := by
    simp only [List.map_cons, List.map_nil, bx_xv_ok hs_.1]
    rfl
  rw [ea]
  refine ⟨g.1, fun S_p w r_p hPS hX_p I1 hsm hr hw hs_p => ?_⟩
  have hw := hw _ rfl
  subst hw
  have b_p := hs_p.2.2 9 _ _ rfl
  have g2 := g.2 S_p (r_p 9) b_p.1 b_p.2 hPS I1 hsm
  show rxIPLYO_6 S0 ws S_p (r_p 8) (r_p 9) ∧ rxmPLYO_6 S0 ws S_p (r_p 8) (r_p 9) < _
  rw [hr 8 (by decide)]
  exact g2
theorem rxcPLYO_0_0 {S0 : Nat → Int → Int} {ws : List Int} {S : Nat → Int → Int} {pa : Int} (hP : rxPPLYO S0 ws) (hin : bx_same rxL (bx_mdl rxC239.2.2.1) S0 S) (I0 : bx_Inv rxL S) (hinv : rxIPLYO_0 S0 ws S pa) (l8 : (-2147483648) ≤ pa) (u8 : pa ≤ (-1)) : (True) ∧ (True) ∧ rxIPLYO_1 S0 ws S pa ∧ rxmPLYO_1 S0 ws S pa < rxmPLYO_0 S0 ws S pa := by
  obtain ⟨hI, hx⟩ := hinv
  obtain ⟨a_, b_, c_, d_⟩ := rxcPLY_0_0 hP.1 hin I0 hI l8 u8
  exact ⟨a_, b_, ⟨c_, (by
    have e := hI.1
    subst e
    exact (rkPO_rf (rkPp_of hP.2)))⟩, d_⟩
theorem rxgPLYO_0_0 {X : (Nat → Int → Int) → Prop} {S0 : Nat → Int → Int} {ws : List Int} (hP : rxPPLYO S0 ws) : bx_obC rxL X S0 rxC239.2.2.1 (rxIPLYO S0 ws) (rxmPLYO S0 ws) 0 rxzPLYO_0 rxoPLYO_0_0 := by
  intro S S_p r r_p hinv hX hin hsm_ hseg
  obtain ⟨I0, I1, h0_, hr_, b_, f_, d_⟩ := bx_cl (evs := []) (fvs := []) hseg (by decide +kernel) (by decide +kernel)
  have hinv : rxIPLYO_0 S0 ws S (r 8) := hinv
  rw [← hr_ 8 (by decide)] at hinv
  obtain ⟨⟨l8, u8⟩, -⟩ := b_
  have w_ := d_
  subst w_
  have g := rxcPLYO_0_0 hP hin I0 hinv l8 u8
  refine ⟨bx_narP_ok (l := []) g.1, bx_nfP_ok h0_ (fvs := []) (by decide +kernel) g.2.1, ?_, ?_⟩
  · show rxIPLYO_1 S0 ws S_p (bx_val [(0, 0), (0, 0), (0, 0), (0, 0), (0, 0), (0, 0), (0, 0), (0, 0), (8, 0)] r_p 8)
    rw [bx_val_x (n := 8) (e := (8, 0)) h0_ rfl]
    exact g.2.2.1
  · show rxmPLYO_1 S0 ws S_p (bx_val [(0, 0), (0, 0), (0, 0), (0, 0), (0, 0), (0, 0), (0, 0), (0, 0), (8, 0)] r_p 8) < rxmPLYO_0 S0 ws S_p (r 8)
    rw [bx_val_x (n := 8) (e := (8, 0)) h0_ rfl, ← hr_ 8 (by decide)]
    exact g.2.2.2
theorem rxcPLYO_0_1 {S0 : Nat → Int → Int} {ws : List Int} {S : Nat → Int → Int} {pa x9 : Int} (hP : rxPPLYO S0 ws) (hin : bx_same rxL (bx_mdl rxC239.2.2.1) S0 S) (I0 : bx_Inv rxL S) (hinv : rxIPLYO_0 S0 ws S pa) (l8 : 0 ≤ pa) (u8 : pa ≤ 2147483647) (l9 : 0 ≤ x9) (u9 : x9 ≤ 6) (f0 : x9 ≤ pa) (e0 : S 1 0 = x9) : (True) ∧ (True) ∧ rxIPLYO_1 S0 ws S pa ∧ rxmPLYO_1 S0 ws S pa < rxmPLYO_0 S0 ws S pa := by
  obtain ⟨hI, hx⟩ := hinv
  obtain ⟨a_, b_, c_, d_⟩ := rxcPLY_0_1 hP.1 hin I0 hI l8 u8 l9 u9 f0 e0
  exact ⟨a_, b_, ⟨c_, (by
    have e := hI.1
    subst e
    exact (rkPO_rf (rkPp_of hP.2)))⟩, d_⟩
theorem rxgPLYO_0_1 {X : (Nat → Int → Int) → Prop} {S0 : Nat → Int → Int} {ws : List Int} (hP : rxPPLYO S0 ws) : bx_obC rxL X S0 rxC239.2.2.1 (rxIPLYO S0 ws) (rxmPLYO S0 ws) 0 rxzPLYO_0 rxoPLYO_0_1 := by
  intro S S_p r r_p hinv hX hin hsm_ hseg
  obtain ⟨I0, I1, h0_, hr_, b_, f_, d_⟩ := bx_cl (evs := [(0, (0, 1), (0, 0), .inr (0, (9, 0)))]) (fvs := [(1, (9, 0), (8, 0), (0, 0))]) hseg (by decide +kernel) (by decide +kernel)
  have hinv : rxIPLYO_0 S0 ws S (r 8) := hinv
  rw [← hr_ 8 (by decide)] at hinv
  obtain ⟨⟨l8, u8⟩, ⟨l9, u9⟩, -⟩ := b_
  obtain ⟨f0, -⟩ := f_
  obtain ⟨e0, w_⟩ := d_
  subst w_
  have g := rxcPLYO_0_1 hP hin I0 hinv l8 u8 l9 u9 f0 e0
  refine ⟨bx_narP_ok (l := []) g.1, bx_nfP_ok h0_ (fvs := []) (by decide +kernel) g.2.1, ?_, ?_⟩
  · show rxIPLYO_1 S0 ws S_p (bx_val [(0, 0), (0, 0), (0, 0), (0, 0), (0, 0), (0, 0), (0, 0), (0, 0), (8, 0)] r_p 8)
    rw [bx_val_x (n := 8) (e := (8, 0)) h0_ rfl]
    exact g.2.2.1
  · show rxmPLYO_1 S0 ws S_p (bx_val [(0, 0), (0, 0), (0, 0), (0, 0), (0, 0), (0, 0), (0, 0), (0, 0), (8, 0)] r_p 8) < rxmPLYO_0 S0 ws S_p (r 8)
    rw [bx_val_x (n := 8) (e := (8, 0)) h0_ rfl, ← hr_ 8 (by decide)]
    exact g.2.2.2
theorem rxcPLYO_0_2 {S0 : Nat → Int → Int} {ws : List Int} {S : Nat → Int → Int} {pa x9 x10 : Int} (hP : rxPPLYO S0 ws) (hin : bx_same rxL (bx_mdl rxC239.2.2.1) S0 S) (I0 : bx_Inv rxL S) (hinv : rxIPLYO_0 S0 ws S pa) (l8 : 0 ≤ pa) (u8 : pa ≤ 5) (l9 : 1 ≤ x9) (u9 : x9 ≤ 6) (l10 : 0 ≤ x10) (u10 : x10 ≤ 400) (f0 : pa < x9) (e1 : S 1 0 = x9) (e0 : S 0 4 = x10) : (True) ∧ (True) ∧ rxIPLYO_3 S0 ws S pa x10 ∧ rxmPLYO_3 S0 ws S pa x10 < rxmPLYO_0 S0 ws S pa := by
  obtain ⟨hI, hx⟩ := hinv
  obtain ⟨a_, b_, c_, d_⟩ := rxcPLY_0_2 hP.1 hin I0 hI l8 u8 l9 u9 l10 u10 f0 e1 e0
  exact ⟨a_, b_, ⟨c_, (by
    have e := hI.1
    subst e
    exact (rkPO_rf (rkPp_of hP.2)))⟩, d_⟩
theorem rxgPLYO_0_2 {X : (Nat → Int → Int) → Prop} {S0 : Nat → Int → Int} {ws : List Int} (hP : rxPPLYO S0 ws) : bx_obC rxL X S0 rxC239.2.2.1 (rxIPLYO S0 ws) (rxmPLYO S0 ws) 0 rxzPLYO_0 rxoPLYO_0_2 := by
  intro S S_p r r_p hinv hX hin hsm_ hseg
  obtain ⟨I0, I1, h0_, hr_, b_, f_, d_⟩ := bx_cl (evs := [(0, (0, 0), (0, 4), .inr (0, (10, 0))), (0, (0, 1), (0, 0), .inr (0, (9, 0)))]) (fvs := [(0, (8, 0), (9, 0), (0, 0))]) hseg (by decide +kernel) (by decide +kernel)
  have hinv : rxIPLYO_0 S0 ws S (r 8) := hinv
  rw [← hr_ 8 (by decide)] at hinv
  obtain ⟨⟨l8, u8⟩, ⟨l9, u9⟩, ⟨l10, u10⟩, -⟩ := b_
  obtain ⟨f0, -⟩ := f_
  obtain ⟨e0, ⟨e1, w_⟩⟩ := d_
  subst w_
  have g := rxcPLYO_0_2 hP hin I0 hinv l8 u8 l9 u9 l10 u10 f0 e1 e0
  refine ⟨bx_narP_ok (l := []) g.1, bx_nfP_ok h0_ (fvs := []) (by decide +kernel) g.2.1, ?_, ?_⟩
  · show rxIPLYO_3 S0 ws S_p (bx_val [(0, 0), (0, 0), (0, 0), (0, 0), (0, 0), (0, 0), (0, 0), (0, 0), (8, 0), (10, 0)] r_p 8) (bx_val [(0, 0), (0, 0), (0, 0), (0, 0), (0, 0), (0, 0), (0, 0), (0, 0), (8, 0), (10, 0)] r_p 9)
    rw [bx_val_x (n := 8) (e := (8, 0)) h0_ rfl, bx_val_x (n := 9) (e := (10, 0)) h0_ rfl]
    exact g.2.2.1
  · show rxmPLYO_3 S0 ws S_p (bx_val [(0, 0), (0, 0), (0, 0), (0, 0), (0, 0), (0, 0), (0, 0), (0, 0), (8, 0), (10, 0)] r_p 8) (bx_val [(0, 0), (0, 0), (0, 0), (0, 0), (0, 0), (0, 0), (0, 0), (0, 0), (8, 0), (10, 0)] r_p 9) < rxmPLYO_0 S0 ws S_p (r 8)
    rw [bx_val_x (n := 8) (e := (8, 0)) h0_ rfl, bx_val_x (n := 9) (e := (10, 0)) h0_ rfl, ← hr_ 8 (by decide)]
    exact g.2.2.2
theorem rxdPLYO_2_0 {S0 : Nat → Int → Int} {ws : List Int} {S : Nat → Int → Int} {pa res : Int} (hP : rxPPLYO S0 ws) (hin : bx_same rxL (bx_mdl rxC239.2.2.1) S0 S) (hin2 : bx_same rxL (bx_mdl rxC239.2.2.1) S S) (I0 : bx_Inv rxL S) (I1 : bx_Inv rxL S) (hinv : rxIPLYO_2 S0 ws S pa res) (l8 : (-2147483648) ≤ pa) (u8 : pa ≤ 2147483647) (l9 : (-6) ≤ res) (u9 : res ≤ (-1)) : (True) ∧ rxPSPLYO S0 ws S (some res) := by
  obtain ⟨hI, hx⟩ := hinv
  obtain ⟨a_, c_⟩ := rxdPLY_2_0 hP.1 hin hin2 I0 I1 hI l8 u8 l9 u9
  exact ⟨a_, c_, (rkOe_of hx.2)⟩
theorem rxfPLYO_2_0 {X : (Nat → Int → Int) → Prop} {S0 : Nat → Int → Int} {ws : List Int} (hP : rxPPLYO S0 ws) : bx_obE rxL X S0 rxC239.2.2.1 (rxIPLYO S0 ws) (rxPSPLYO S0 ws) 2 rxzPLYO_2 rxePLYO_2_0 := by
  intro S S_p r r_p hinv hX hin hsm_ hseg
  obtain ⟨I0, I1, h0_, hr_, b_, f_, d_⟩ := bx_cl (evs := []) (fvs := []) hseg (by decide +kernel) (by decide +kernel)
  have hinv : rxIPLYO_2 S0 ws S (r 8) (r 9) := hinv
  rw [← hr_ 8 (by decide), ← hr_ 9 (by decide)] at hinv
  obtain ⟨⟨l8, u8⟩, ⟨l9, u9⟩, -⟩ := b_
  have w_ := d_
  subst w_
  have g := rxdPLYO_2_0 hP hin hsm_ I0 I1 hinv l8 u8 l9 u9
  refine ⟨bx_narP_ok (l := []) g.1, ?_⟩
  show rxPSPLYO S0 ws S_p (some (bx_num r_p (.inr (0, (9, 0)))))
  rw [bx_xv_ok h0_]
  exact g.2
theorem rxcPLYO_4_0 {S0 : Nat → Int → Int} {ws : List Int} {S : Nat → Int → Int} {pa nb res : Int} (hP : rxPPLYO S0 ws) (hin : bx_same rxL (bx_mdl rxC239.2.2.1) S0 S) (I0 : bx_Inv rxL S) (hinv : rxIPLYO_4 S0 ws S pa nb res) (l8 : 0 ≤ pa) (u8 : pa ≤ 5) (l9 : 0 ≤ nb) (u9 : nb ≤ 400) (l10 : 0 ≤ res) (u10 : res ≤ 0) : (True) ∧ (True) ∧ rxIPLYO_5 S0 ws (bx_up S 0 4 0) pa ∧ rxmPLYO_5 S0 ws (bx_up S 0 4 0) pa < rxmPLYO_4 S0 ws S pa nb res := by
  obtain ⟨hI, hx⟩ := hinv
  obtain ⟨a_, b_, c_, d_⟩ := rxcPLY_4_0 hP.1 hin I0 hI l8 u8 l9 u9 l10 u10
  exact ⟨a_, b_, ⟨c_, (rkPO_up (q := 0) (by decide +kernel) (fun g => absurd g.1 (by decide)) hx)⟩, d_⟩
theorem rxgPLYO_4_0 {X : (Nat → Int → Int) → Prop} {S0 : Nat → Int → Int} {ws : List Int} (hP : rxPPLYO S0 ws) : bx_obC rxL X S0 rxC239.2.2.1 (rxIPLYO S0 ws) (rxmPLYO S0 ws) 4 rxzPLYO_4 rxoPLYO_4_0 := by
  intro S S_p r r_p hinv hX hin hsm_ hseg
  obtain ⟨I0, I1, h0_, hr_, b_, f_, d_⟩ := bx_cl (evs := [(1, (0, 0), (0, 4), .inr (0, (0, 0)))]) (fvs := []) hseg (by decide +kernel) (by decide +kernel)
  have hinv : rxIPLYO_4 S0 ws S (r 8) (r 9) (r 10) := hinv
  rw [← hr_ 8 (by decide), ← hr_ 9 (by decide), ← hr_ 10 (by decide)] at hinv
  obtain ⟨⟨l8, u8⟩, ⟨l9, u9⟩, ⟨l10, u10⟩, -⟩ := b_
  obtain ⟨T0, w_, w0⟩ := d_
  subst w0
  subst w_
  have g := rxcPLYO_4_0 hP hin I0 hinv l8 u8 l9 u9 l10 u10
  refine ⟨bx_narP_ok (l := []) g.1, bx_nfP_ok h0_ (fvs := []) (by decide +kernel) g.2.1, ?_, ?_⟩
  · show rxIPLYO_5 S0 ws (bx_up T0 0 (4) (0)) (bx_val [(0, 0), (0, 0), (0, 0), (0, 0), (0, 0), (0, 0), (0, 0), (0, 0), (8, 0)] r_p 8)
    rw [bx_val_x (n := 8) (e := (8, 0)) h0_ rfl]
    exact g.2.2.1
  · show rxmPLYO_5 S0 ws (bx_up T0 0 (4) (0)) (bx_val [(0, 0), (0, 0), (0, 0), (0, 0), (0, 0), (0, 0), (0, 0), (0, 0), (8, 0)] r_p 8) < rxmPLYO_4 S0 ws T0 (r 8) (r 9) (r 10)
    rw [bx_val_x (n := 8) (e := (8, 0)) h0_ rfl, ← hr_ 8 (by decide), ← hr_ 9 (by decide), ← hr_ 10 (by decide)]
    exact g.2.2.2
theorem rxdPLYO_4_0 {S0 : Nat → Int → Int} {ws : List Int} {S T5 T4 T3 T2 T1 : Nat → Int → Int} {pa nb res x11 : Int} (hP : rxPPLYO S0 ws) (hin : bx_same rxL (bx_mdl rxC239.2.2.1) S0 S) (hin2 : bx_same rxL (bx_mdl rxC239.2.2.1) S (bx_up T1 0 8 0)) (I0 : bx_Inv rxL S) (I1 : bx_Inv rxL (bx_up T1 0 8 0)) (hinv : rxIPLYO_4 S0 ws S pa nb res) (l8 : 0 ≤ pa) (u8 : pa ≤ 5) (l9 : 0 ≤ nb) (u9 : nb ≤ 400) (l10 : 1 ≤ res) (u10 : res ≤ 1) (l11 : (-2147483648) ≤ x11) (u11 : x11 ≤ 2147483647) (f0 : res ≠ 0) (v5 : ∀ (p i : Nat), p < rxL.2.1 → i < bx_wd (rxL.1 p) → bx_mc (rxL.1 p) i ≠ (99999, 0) → T5 p (i : Int) = (bx_up S 0 4 0) p (i : Int)) (v4 : ∀ (p i : Nat), p < rxL.2.1 → i < bx_wd (rxL.1 p) → bx_mc (rxL.1 p) i ≠ (1023, 0) → T4 p (i : Int) = T5 p (i : Int)) (v3 : ∀ (p i : Nat), p < rxL.2.1 → i < bx_wd (rxL.1 p) → bx_mc (rxL.1 p) i ≠ (1020, 0) → T3 p (i : Int) = T4 p (i : Int)) (v2 : ∀ (p i : Nat), p < rxL.2.1 → i < bx_wd (rxL.1 p) → bx_mc (rxL.1 p) i ≠ (1019, 0) → T2 p (i : Int) = T3 p (i : Int)) (v1 : ∀ (p i : Nat), p < rxL.2.1 → i < bx_wd (rxL.1 p) → bx_mc (rxL.1 p) i ≠ (1018, 0) → T1 p (i : Int) = T2 p (i : Int)) : (True) ∧ rxPSPLYO S0 ws (bx_up T1 0 8 0) (some x11) := by
  obtain ⟨hI, hx⟩ := hinv
  obtain ⟨a_, c_⟩ := rxdPLY_4_0 hP.1 hin hin2 I0 I1 hI l8 u8 l9 u9 l10 u10 l11 u11 f0 v5 v4 v3 v2 v1
  exact ⟨a_, c_, (rkOe_up (q := 0) (by decide +kernel) (rkOe_T v1 (by decide +kernel) (rkOe_T v2 (by decide +kernel) (rkOe_T v3 (by decide +kernel) (rkOe_T v4 (by decide +kernel) (rkOe_T v5 (by decide +kernel) (rkOe_up (q := 0) (by decide +kernel) (rkOe_of hx.2))))))))⟩
theorem rxfPLYO_4_0 {X : (Nat → Int → Int) → Prop} {S0 : Nat → Int → Int} {ws : List Int} (hP : rxPPLYO S0 ws) : bx_obE rxL X S0 rxC239.2.2.1 (rxIPLYO S0 ws) (rxPSPLYO S0 ws) 4 rxzPLYO_4 rxePLYO_4_0 := by
  intro S S_p r r_p hinv hX hin hsm_ hseg
  obtain ⟨I0, I1, h0_, hr_, b_, f_, d_⟩ := bx_cl (evs := [(1, (0, 0), (0, 8), .inr (0, (0, 0))), (2, (1018, 0), (0, 0), .inl none), (2, (1019, 0), (0, 0), .inl none), (2, (1020, 0), (0, 0), .inl none), (2, (1023, 0), (0, 0), .inl none), (2, (99999, 0), (0, 0), .inl none), (1, (0, 0), (0, 4), .inr (0, (0, 0)))]) (fvs := [(3, (10, 0), (0, 0), (0, 0))]) hseg (by decide +kernel) (by decide +kernel)
  have hinv : rxIPLYO_4 S0 ws S (r 8) (r 9) (r 10) := hinv
  rw [← hr_ 8 (by decide), ← hr_ 9 (by decide), ← hr_ 10 (by decide)] at hinv
  obtain ⟨⟨l8, u8⟩, ⟨l9, u9⟩, ⟨l10, u10⟩, ⟨l11, u11⟩, -⟩ := b_
  obtain ⟨f0, -⟩ := f_
  obtain ⟨T0, ⟨T1, ⟨T2, ⟨T3, ⟨T4, ⟨T5, ⟨T6, w_, w6⟩, v5⟩, v4⟩, v3⟩, v2⟩, v1⟩, w0⟩ := d_
  subst w0
  subst w6
  subst w_
  have g := rxdPLYO_4_0 hP hin hsm_ I0 I1 hinv l8 u8 l9 u9 l10 u10 l11 u11 f0 v5 v4 v3 v2 v1
  refine ⟨bx_narP_ok (l := []) g.1, ?_⟩
  show rxPSPLYO S0 ws (bx_up T0 0 (8) (0)) (some (bx_num r_p (.inr (0, (11, 0)))))
  rw [bx_xv_ok h0_]
  exact g.2
theorem rxdPLYO_6_0 {S0 : Nat → Int → Int} {ws : List Int} {S : Nat → Int → Int} {pa res : Int} (hP : rxPPLYO S0 ws) (hin : bx_same rxL (bx_mdl rxC239.2.2.1) S0 S) (hin2 : bx_same rxL (bx_mdl rxC239.2.2.1) S S) (I0 : bx_Inv rxL S) (I1 : bx_Inv rxL S) (hinv : rxIPLYO_6 S0 ws S pa res) (l8 : 0 ≤ pa) (u8 : pa ≤ 5) (l9 : (-6) ≤ res) (u9 : res ≤ (-1)) : (True) ∧ rxPSPLYO S0 ws S (some res) := by
  obtain ⟨hI, hx⟩ := hinv
  obtain ⟨a_, c_⟩ := rxdPLY_6_0 hP.1 hin hin2 I0 I1 hI l8 u8 l9 u9
  exact ⟨a_, c_, (rkOe_of hx.2)⟩
theorem rxfPLYO_6_0 {X : (Nat → Int → Int) → Prop} {S0 : Nat → Int → Int} {ws : List Int} (hP : rxPPLYO S0 ws) : bx_obE rxL X S0 rxC239.2.2.1 (rxIPLYO S0 ws) (rxPSPLYO S0 ws) 6 rxzPLYO_6 rxePLYO_6_0 := by
  intro S S_p r r_p hinv hX hin hsm_ hseg
  obtain ⟨I0, I1, h0_, hr_, b_, f_, d_⟩ := bx_cl (evs := []) (fvs := []) hseg (by decide +kernel) (by decide +kernel)
  have hinv : rxIPLYO_6 S0 ws S (r 8) (r 9) := hinv
  rw [← hr_ 8 (by decide), ← hr_ 9 (by decide)] at hinv
  obtain ⟨⟨l8, u8⟩, ⟨l9, u9⟩, -⟩ := b_
  have w_ := d_
  subst w_
  have g := rxdPLYO_6_0 hP hin hsm_ I0 I1 hinv l8 u8 l9 u9
  refine ⟨bx_narP_ok (l := []) g.1, ?_⟩
  show rxPSPLYO S0 ws S_p (some (bx_num r_p (.inr (0, (9, 0)))))
  rw [bx_xv_ok h0_]
  exact g.2
theorem rxgCPLYO {X : (Nat → Int → Int) → Prop} {S0 : Nat → Int → Int} {ws : List Int} (hP : rxPPLYO S0 ws) : bx_allI (fun i q => rxUPLYO q = true ∨ bx_allP (fun o => bx_obC rxL X S0 rxC239.2.2.1 (rxIPLYO S0 ws) (rxmPLYO S0 ws) i q.1 o) q.2.1) 0 rxYPLYO := ⟨Or.inr ⟨rxgPLYO_0_0 hP, rxgPLYO_0_1 hP, rxgPLYO_0_2 hP, trivial⟩, Or.inl rfl, Or.inr trivial, Or.inl rfl, Or.inr ⟨rxgPLYO_4_0 hP, trivial⟩, Or.inl rfl, Or.inr trivial, trivial⟩
theorem rxgEPLYO {X : (Nat → Int → Int) → Prop} {S0 : Nat → Int → Int} {ws : List Int} (hP : rxPPLYO S0 ws) : bx_allI (fun i q => rxUPLYO q = true ∨ bx_allP (fun E => bx_obE rxL X S0 rxC239.2.2.1 (rxIPLYO S0 ws) (rxPSPLYO S0 ws) i q.1 E) q.2.2) 0 rxYPLYO := ⟨Or.inr trivial, Or.inl rfl, Or.inr ⟨rxfPLYO_2_0 hP, trivial⟩, Or.inl rfl, Or.inr ⟨rxfPLYO_4_0 hP, trivial⟩, Or.inl rfl, Or.inr ⟨rxfPLYO_6_0 hP, trivial⟩, trivial⟩
theorem rxuPLYO {PX : State → Prop} {Dg : va_G} {A : Nat → Prop} {ad xa : Nat → Nat} {l : Launch} {X : (Nat → Int → Int) → Prop} (hPX : rx_PXOK rxNW A PX) (hX : ∀ S S1 : Nat → Int → Int, X S → bx_same rxL (bx_mdl rxC239.2.2.1) S S1 → X S1) (hQ110 : bx_ConP rxG rxNW rxAO PX Dg rxL X vwCl A ad l rxM110 rxC110 rxP110 rxPS110) (hQRDXO : bx_ConP rxG rxNW rxAO PX Dg rxL X vwCl A ad l rxM119 rxCRDXO rxPRDXO rxPSRDXO) {S0 : Nat → Int → Int} {ws : List Int} (hP : rxPPLYO S0 ws) : ∀ (i : Nat) (q : bx_HE), rxYPLYO[i]? = some q → rxUPLYO q = true → ∀ {p : Program} {e : Env} {R : Room} {s : State} {m : MethodId} {args : Array Value} {below : List Frame} {meth : Method} {c : Code} {Q : State → Prop} {H0 : Heap}, rx_Fr rxG rxNW rxAO PX p s m args meth c rxM239 → (∀ q, H0.size ≤ q → A q) → H0 = s.heap → rxM239.2.2.2.2.2.2.1 ≤ R.cells → rxM239.2.2.2.2.2.2.2 ≤ R.slots → rxC239.2.2.2.1 ≤ R.frames → rxC239.2.2.2.1 * 40 ≤ R.locals → bx_Step p l e R s m args below meth c Q Dg rxL X vwCl A xa H0 ad rxM239 rxYPLYO (rxIPLYO S0 ws) (rxmPLYO S0 ws) S0 rxC239.2.2.1 i q := by
  intro i q hq hus p e R s m args below meth c Q H0 hF hA hH0 hmc hms hd hdl
  match i, hq with
  | 0, hq =>
    cases hq
    exact absurd (show false = true from hus) Bool.false_ne_true
  | 1, hq =>
    cases hq
    exact rx_stepC (ins := .invokevirtual 110) (len := 3) (i_p := 2) (M_p := rxM110) (d := rxC239.2.2.2.1) (as := [.inr (3, (0, 0)), .inr (0, (0, (-2)))]) (t := []) (ct := rxC110) hPX hF rfl hA hH0 hmc hms hd hdl (by decide +kernel) rfl rfl (by decide +kernel) (by decide +kernel) hQ110 (by decide +kernel) rfl (Or.inr ⟨_, _, _, 1, rfl, rfl, by omega, rfl, rfl, rfl⟩) (rxsPLYO_1 hP)
  | 2, hq =>
    cases hq
    exact absurd (show false = true from hus) Bool.false_ne_true
  | 3, hq =>
    cases hq
    exact rx_stepC (ins := .invokevirtual 212) (len := 3) (i_p := 4) (M_p := rxM119) (d := rxC239.2.2.2.1) (as := [.inr (3, (0, 412)), .inr (3, (0, 411)), .inr (0, (9, 0)), .inr (0, (0, 1)), .inr (3, (0, 427))]) (t := []) (ct := rxCRDXO) hPX hF rfl hA hH0 hmc hms hd hdl (by decide +kernel) rfl rfl (by decide +kernel) (by decide +kernel) hQRDXO (by decide +kernel) rfl (Or.inr ⟨_, _, _, 1, rfl, rfl, by omega, rfl, rfl, rfl⟩) (rxsPLYO_3 hP)
  | 4, hq =>
    cases hq
    exact absurd (show false = true from hus) Bool.false_ne_true
  | 5, hq =>
    cases hq
    exact rx_stepC (ins := .invokevirtual 110) (len := 3) (i_p := 6) (M_p := rxM110) (d := rxC239.2.2.2.1) (as := [.inr (3, (0, 0)), .inr (0, (0, (-6)))]) (t := []) (ct := rxC110) hPX hF rfl hA hH0 hmc hms hd hdl (by decide +kernel) rfl rfl (by decide +kernel) (by decide +kernel) hQ110 (by decide +kernel) rfl (Or.inr ⟨_, _, _, 1, rfl, rfl, by omega, rfl, rfl, rfl⟩) (rxsPLYO_5 hP)
  | 6, hq =>
    cases hq
    exact absurd (show false = true from hus) Bool.false_ne_true
  | n + 7, hq => cases hq
theorem rxQPLYO {PX : State → Prop} {Dg : va_G} {A : Nat → Prop} {ad xa : Nat → Nat} {l : Launch} {X : (Nat → Int → Int) → Prop} (hPX : rx_PXOK rxNW A PX) (hsl : ∀ s : State, PX s → ∀ o idx n : Nat, rxSl o idx = some n → ∃ tx : String, vk_R (rxNm o) idx tx (ad n) s)
    (hX : ∀ S S_p : Nat → Int → Int, X S → bx_same rxL (bx_mdl rxC239.2.2.1) S S_p → X S_p)
    (ih : ∀ (j2 : Nat) (ct2 : bx_Ct) (M2 : rx_Mt), ct2 ∈ rxCn j2 → ct2.2.2.2.1 + 1 ≤ rxC239.2.2.2.1 → rxT.2.2.2.2.2 j2 = some M2 → bx_Con rxG rxNW rxAO PX Dg rxL X vwCl A ad l M2 ct2) (hQ110 : bx_ConP rxG rxNW rxAO PX Dg rxL X vwCl A ad l rxM110 rxC110 rxP110 rxPS110) (hQRDXO : bx_ConP rxG rxNW rxAO PX Dg rxL X vwCl A ad l rxM119 rxCRDXO rxPRDXO rxPSRDXO) : bx_ConP rxG rxNW rxAO PX Dg rxL X vwCl A ad l rxM239 rxC239 rxPPLYO rxPSPLYO :=
  rxQof (xa := xa) (Cn := rxCn) (f := 30000) (j := 239) (tab := rxYPLYO) (us := rxUPLYO) hPX hsl hX ih rfl rxYcPLYO rxIPLYO rxmPLYO
    (fun S0 ws r I0 I ht0 ht as he he1 hX0 hI0 hP hs ha => by
      have e := he.symm.trans (show bx_ent0 rxNP rxC239.1 bx_I0 [] = some ([(0, 0), (0, 0), (0, 0), (0, 0), (0, 0), (0, 0), (0, 0), (0, 0), ((-2147483648), 2147483647)], [], [.inr (3, (0, 0)), .inr (0, (8, 0))]) from rfl)
      cases e
      subst ha
      have h0 : r 0 = 0 := hs.1
      show rxIPLYO_0 S0 _ S0 (r 8)
      refine ⟨⟨rfl, ?_⟩, trivial⟩
      simp only [List.map_cons, List.map_nil, bx_xv_ok h0]
      rfl)
    (fun S0 ws hP => rxuPLYO (xa := xa) hPX hX hQ110 hQRDXO hP) (fun S0 ws hP => rxgCPLYO hP) (fun S0 ws hP => rxgEPLYO hP)
