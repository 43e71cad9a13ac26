/-! CONTRACT BY HAND, by program (wip/sim/genhand.py): DeadUnderstudies.law -/
def rxILWDK_0 (S0 : Nat → Int → Int) (ws : List Int) (S : Nat → Int → Int) : Prop := rxILWD_0 S0 ws S ∧ True
def rxmLWDK_0 (S0 : Nat → Int → Int) (ws : List Int) (S : Nat → Int → Int) : Nat := rxmLWD_0 S0 ws S
def rxzLWDK_0 : rx_Z := ([(0, 0), (0, 0), (0, 0), (0, 0), (0, 0), (0, 0), (0, 0), (0, 0)], [], [], 0, 0, 0, [(0, .inr (3, (0, 0)))], [])
def rxILWDK_1 (S0 : Nat → Int → Int) (ws : List Int) (S : Nat → Int → Int) : Prop := rxILWD_1 S0 ws S ∧ rkPO S0 S
def rxmLWDK_1 (S0 : Nat → Int → Int) (ws : List Int) (S : Nat → Int → Int) : Nat := rxmLWD_1 S0 ws S
def rxzLWDK_1 : rx_Z := ([(0, 0), (0, 0), (0, 0), (0, 0), (0, 0), (0, 0), (0, 0), (0, 0)], [], [], 0, 0, 25, [(0, .inr (3, (0, 0)))], [.inr (0, (0, (-5))), .inr (3, (0, 0))])
def rxILWDK_2 (S0 : Nat → Int → Int) (ws : List Int) (S : Nat → Int → Int) (res : Int) : Prop := rxILWD_2 S0 ws S res ∧ rkPO S0 S
def rxmLWDK_2 (S0 : Nat → Int → Int) (ws : List Int) (S : Nat → Int → Int) (res : Int) : Nat := rxmLWD_2 S0 ws S res
def rxzLWDK_2 : rx_Z := ([(0, 0), (0, 0), (0, 0), (0, 0), (0, 0), (0, 0), (0, 0), (0, 0), ((-6), (-1))], [], [], 0, 0, 28, [(0, .inr (3, (0, 0)))], [.inr (0, (8, 0))])
def rxILWDK_3 (S0 : Nat → Int → Int) (ws : List Int) (S : Nat → Int → Int) (nb : Int) : Prop := rxILWD_3 S0 ws S nb ∧ rkPO S0 S
def rxmLWDK_3 (S0 : Nat → Int → Int) (ws : List Int) (S : Nat → Int → Int) (nb : Int) : Nat := rxmLWD_3 S0 ws S nb
def rxzLWDK_3 : rx_Z := ([(0, 0), (0, 0), (0, 0), (0, 0), (0, 0), (0, 0), (0, 0), (0, 0), (0, 400)], [], [], 0, 0, 43, [(0, .inr (3, (0, 0))), (1, .inr (0, (8, 0)))], [.inr (3, (0, 427)), .inr (0, (0, 0)), .inr (0, (8, 0)), .inr (3, (0, 411)), .inr (3, (0, 412))])
def rxILWDK_4 (S0 : Nat → Int → Int) (ws : List Int) (S : Nat → Int → Int) (nb res : Int) : Prop := rxILWD_4 S0 ws S nb res ∧ ((res = 1 → ∃ L : List rkQ, rkText false (rzCut (S0 411)) (S0 0 4) L ∧ rkHl S 427 L) ∧ rkPO S0 S)
def rxmLWDK_4 (S0 : Nat → Int → Int) (ws : List Int) (S : Nat → Int → Int) (nb res : Int) : Nat := rxmLWD_4 S0 ws S nb res
def rxzLWDK_4 : rx_Z := ([(0, 0), (0, 0), (0, 0), (0, 0), (0, 0), (0, 0), (0, 0), (0, 0), (0, 400), (0, 1)], [], [], 0, 0, 46, [(0, .inr (3, (0, 0))), (1, .inr (0, (8, 0)))], [.inr (0, (9, 0))])
def rxILWDK_5 (S0 : Nat → Int → Int) (ws : List Int) (S : Nat → Int → Int) : Prop := rxILWD_5 S0 ws S ∧ rkPO S0 S
def rxmLWDK_5 (S0 : Nat → Int → Int) (ws : List Int) (S : Nat → Int → Int) : Nat := rxmLWD_5 S0 ws S
def rxzLWDK_5 : rx_Z := ([(0, 0), (0, 0), (0, 0), (0, 0), (0, 0), (0, 0), (0, 0), (0, 0)], [], [], 0, 0, 70, [(0, .inr (3, (0, 0)))], [.inr (0, (0, (-6))), .inr (3, (0, 0))])
def rxILWDK_6 (S0 : Nat → Int → Int) (ws : List Int) (S : Nat → Int → Int) (res : Int) : Prop := rxILWD_6 S0 ws S res ∧ rkPO S0 S
def rxmLWDK_6 (S0 : Nat → Int → Int) (ws : List Int) (S : Nat → Int → Int) (res : Int) : Nat := rxmLWD_6 S0 ws S res
def rxzLWDK_6 : rx_Z := ([(0, 0), (0, 0), (0, 0), (0, 0), (0, 0), (0, 0), (0, 0), (0, 0), ((-6), (-1))], [], [], 0, 0, 73, [(0, .inr (3, (0, 0)))], [.inr (0, (8, 0))])
def rxILWDK_7 (S0 : Nat → Int → Int) (ws : List Int) (S : Nat → Int → Int) : Prop := rxILWD_7 S0 ws S ∧ (rkPO S0 S ∧ ∃ L : List rkQ, rkText false (rzCut (S0 411)) (S0 0 4) L ∧ rkHl S 427 L)
def rxmLWDK_7 (S0 : Nat → Int → Int) (ws : List Int) (S : Nat → Int → Int) : Nat := rxmLWD_7 S0 ws S
def rxzLWDK_7 : rx_Z := ([(0, 0), (0, 0), (0, 0), (0, 0), (0, 0), (0, 0), (0, 0), (0, 0)], [], [], 0, 0, 58, [(0, .inr (3, (0, 0)))], [.inr (3, (0, 427)), .inr (3, (0, 1)), .inr (3, (0, 0))])
def rxILWDK_8 (S0 : Nat → Int → Int) (ws : List Int) (S : Nat → Int → Int) (res : Int) : Prop := rxILWD_8 S0 ws S res ∧ rkLd8 S0 S
def rxmLWDK_8 (S0 : Nat → Int → Int) (ws : List Int) (S : Nat → Int → Int) (res : Int) : Nat := rxmLWD_8 S0 ws S res
def rxzLWDK_8 : rx_Z := ([(0, 0), (0, 0), (0, 0), (0, 0), (0, 0), (0, 0), (0, 0), (0, 0), ((-1), 5)], [], [], 0, 0, 61, [(0, .inr (3, (0, 0)))], [.inr (0, (8, 0)), .inr (3, (0, 0))])
def rxoLWDK_0_0 : bx_HO := (([(0, 0), (0, 0), (0, 0), (0, 0), (0, 0), (0, 0), (0, 0), (0, 0), (0, 400), (6, 6)], [], [(((0, 0), 1851192626986356800234234225391877833944518517379736727307485184000000), .inr (0, (9, 0))), (((0, 1), 14), .inr (0, (9, 0))), (((0, 0), 0), .inr (3, (0, 1))), (((0, 0), 1851192626986356798227167157524121751206303872841384191768657923000000), .inr (0, (0, 0))), (((0, 0), 4), .inr (0, (0, 0))), (((0, 0), 1851192626986356798227167157524121751206303872841384191768657920000000), .inr (0, (8, 0)))], 0, 0, 25, [(1, .inr (0, (8, 0))), (0, .inr (3, (0, 0)))], [.inr (0, (0, (-5))), .inr (3, (0, 0))]), [], [], [(0, 0), (0, 0), (0, 0), (0, 0), (0, 0), (0, 0), (0, 0), (0, 0)], 1)
def rxoLWDK_0_1 : bx_HO := (([(0, 0), (0, 0), (0, 0), (0, 0), (0, 0), (0, 0), (0, 0), (0, 0), (0, 400), (0, 5)], [], [(((0, 0), 6), .inr (3, (0, 427))), (((0, 0), 3), .inr (3, (0, 411))), (((0, 0), 5), .inr (3, (0, 412))), (((0, 0), 1851192626986356800234234225391877833944518517379736727307485184000000), .inr (0, (9, 0))), (((0, 1), 14), .inr (0, (9, 0))), (((0, 0), 0), .inr (3, (0, 1))), (((0, 0), 1851192626986356798227167157524121751206303872841384191768657923000000), .inr (0, (0, 0))), (((0, 0), 4), .inr (0, (0, 0))), (((0, 0), 1851192626986356798227167157524121751206303872841384191768657920000000), .inr (0, (8, 0)))], 0, 0, 43, [(1, .inr (0, (8, 0))), (0, .inr (3, (0, 0)))], [.inr (3, (0, 427)), .inr (0, (0, 0)), .inr (0, (8, 0)), .inr (3, (0, 411)), .inr (3, (0, 412))]), [], [], [(0, 0), (0, 0), (0, 0), (0, 0), (0, 0), (0, 0), (0, 0), (0, 0), (8, 0)], 3)
def rxeLWDK_2_0 : rx_End × List (Nat × Int × Int) := (([(0, 0), (0, 0), (0, 0), (0, 0), (0, 0), (0, 0), (0, 0), (0, 0), ((-6), (-1))], [], [], some (.inr (0, (8, 0)))), [])
def rxoLWDK_4_0 : bx_HO := (([(0, 0), (0, 0), (0, 0), (0, 0), (0, 0), (0, 0), (0, 0), (0, 0), (0, 400), (1, 1)], [(3, (9, 0), (0, 0))], [(((0, 0), 6), .inr (3, (0, 427))), (((0, 0), 0), .inr (3, (0, 1)))], 0, 0, 58, [(0, .inr (3, (0, 0))), (1, .inr (0, (8, 0)))], [.inr (3, (0, 427)), .inr (3, (0, 1)), .inr (3, (0, 0))]), [], [], [(0, 0), (0, 0), (0, 0), (0, 0), (0, 0), (0, 0), (0, 0), (0, 0)], 7)
def rxoLWDK_4_1 : bx_HO := (([(0, 0), (0, 0), (0, 0), (0, 0), (0, 0), (0, 0), (0, 0), (0, 0), (0, 400), (0, 0)], [], [], 0, 0, 70, [(0, .inr (3, (0, 0))), (1, .inr (0, (8, 0)))], [.inr (0, (0, (-6))), .inr (3, (0, 0))]), [], [], [(0, 0), (0, 0), (0, 0), (0, 0), (0, 0), (0, 0), (0, 0), (0, 0)], 5)
def rxeLWDK_6_0 : rx_End × List (Nat × Int × Int) := (([(0, 0), (0, 0), (0, 0), (0, 0), (0, 0), (0, 0), (0, 0), (0, 0), ((-6), (-1))], [], [], some (.inr (0, (8, 0)))), [])
def rxeLWDK_8_0 : rx_End × List (Nat × Int × Int) := (([(0, 0), (0, 0), (0, 0), (0, 0), (0, 0), (0, 0), (0, 0), (0, 0), ((-1), 5)], [], [(((0, 0), 1851192626986356799029993984671224184301589730656725205983952899000000), .inr (0, (0, 0))), (((0, 0), 8), .inr (0, (0, 0)))], some (.inr (0, (8, 0)))), [])
def rxYLWDK : List bx_HE := [(rxzLWDK_0, [rxoLWDK_0_0, rxoLWDK_0_1], []), (rxzLWDK_1, [], []), (rxzLWDK_2, [], [rxeLWDK_2_0]), (rxzLWDK_3, [], []), (rxzLWDK_4, [rxoLWDK_4_0, rxoLWDK_4_1], []), (rxzLWDK_5, [], []), (rxzLWDK_6, [], [rxeLWDK_6_0]), (rxzLWDK_7, [], []), (rxzLWDK_8, [], [rxeLWDK_8_0])]
def rxULWDK (q : bx_HE) : Bool := Nat.beq (rx_zpc q.1) 25 || Nat.beq (rx_zpc q.1) 43 || Nat.beq (rx_zpc q.1) 70 || Nat.beq (rx_zpc q.1) 58
def rxYBLWDK : bx_B := (rxV, rxNP, rxDmf, bx_mdH rxC241.2.2.1)
set_option maxRecDepth 100000 in
theorem rxYcLWDK : bx_chkH rxYBLWDK rxM241 rxC241 rxYLWDK (rxULWDK, fun cut z => rx_ex2 (rxCT rxYBLWDK rxCnE) cut 30000 rxC241.2.2.2.1 241 z) = true := by decide +kernel
def rxILWDK (S0 : Nat → Int → Int) (ws : List Int) (i : Nat) : bx_SP := fun S r => match i with | 0 => rxILWDK_0 S0 ws S | 1 => rxILWDK_1 S0 ws S | 2 => rxILWDK_2 S0 ws S (r 8) | 3 => rxILWDK_3 S0 ws S (r 8) | 4 => rxILWDK_4 S0 ws S (r 8) (r 9) | 5 => rxILWDK_5 S0 ws S | 6 => rxILWDK_6 S0 ws S (r 8) | 7 => rxILWDK_7 S0 ws S | 8 => rxILWDK_8 S0 ws S (r 8) | _ => False
def rxmLWDK (S0 : Nat → Int → Int) (ws : List Int) (i : Nat) (S : Nat → Int → Int) (r : Nat → Int) : Nat := match i with | 0 => rxmLWDK_0 S0 ws S | 1 => rxmLWDK_1 S0 ws S | 2 => rxmLWDK_2 S0 ws S (r 8) | 3 => rxmLWDK_3 S0 ws S (r 8) | 4 => rxmLWDK_4 S0 ws S (r 8) (r 9) | 5 => rxmLWDK_5 S0 ws S | 6 => rxmLWDK_6 S0 ws S (r 8) | 7 => rxmLWDK_7 S0 ws S | 8 => rxmLWDK_8 S0 ws S (r 8) | _ => 0
def rxPLWDK (S0 : Nat → Int → Int) (ws : List Int) : Prop := rxPLWD S0 ws ∧ (rkPf S0)
def rxPSLWDK (S0 : Nat → Int → Int) (ws : List Int) (S : Nat → Int → Int) (w : Option Int) : Prop := rxPSLWD S0 ws S w ∧ (rkLd S0 S)
theorem rxkLWDK_1 {S0 : Nat → Int → Int} {ws : List Int} {S : Nat → Int → Int} (hP : rxPLWDK S0 ws) (hin : bx_same rxL (bx_mdl rxC241.2.2.1) S0 S) (I0 : bx_Inv rxL S) (hinv : rxILWDK_1 S0 ws S)  : rxP110 S [0, (-5)] ∧ ∀ (S_p : Nat → Int → Int) (res : Int), (-6) ≤ res → res ≤ (-1) → rxPS110 S [0, (-5)] S_p (some res) → bx_Inv rxL S_p → bx_same rxL (bx_mdl rxC110.2.2.1) S S_p → rxILWDK_2 S0 ws S_p res ∧ rxmLWDK_2 S0 ws S_p res < rxmLWDK_1 S0 ws S := by
  obtain ⟨hI, hx⟩ := hinv
  have g_ := rxkLWD_1 hP.1 hin I0 hI
  exact ⟨g_.1, fun S_p res l_ u_ hq I1 hsm => ⟨⟨(g_.2 S_p res l_ u_ hq I1 hsm).1, rkPO_sm hsm (by decide +kernel) hx⟩, (g_.2 S_p res l_ u_ hq I1 hsm).2⟩⟩
theorem rxsLWDK_1 {X : (Nat → Int → Int) → Prop} {S0 : Nat → Int → Int} {ws : List Int} (hP : rxPLWDK S0 ws) : rx_obK X S0 rxC241.2.2.1 rxC110.2.2.1 (rxILWDK S0 ws) (rxmLWDK S0 ws) 1 2 rxzLWDK_1 rxzLWDK_2 [.inr (3, (0, 0)), .inr (0, (0, (-5)))] (some 8) rxP110 rxPS110 := by
  intro S r hinv hXS I0 hin hs_ hf_
  have b_ := bx_bds_sat hs_
  have f_ := bx_fcl_ok hs_.1 hf_
  have g := rxkLWDK_1 hP hin I0 hinv 
  have ea : List.map (bx_num r) [.inr (3, (0, 0)), .inr (0, (0, (-5)))] = [0, -5] := by
    simp only [List.map_cons, List.map_nil, bx_xv_ok hs_.1]
    rfl
  rw [ea]
  refine ⟨g.1, fun S_p w r_p hPS hX_p I1 hsm hr hw hs_p => ?_⟩
  have hw := hw _ rfl
  subst hw
  have b_p := hs_p.2.2 8 _ _ rfl
  have g2 := g.2 S_p (r_p 8) b_p.1 b_p.2 hPS I1 hsm
  show rxILWDK_2 S0 ws S_p (r_p 8) ∧ rxmLWDK_2 S0 ws S_p (r_p 8) < _
  exact g2
theorem rxkLWDK_3 {S0 : Nat → Int → Int} {ws : List Int} {S : Nat → Int → Int} {nb : Int} (hP : rxPLWDK S0 ws) (hin : bx_same rxL (bx_mdl rxC241.2.2.1) S0 S) (I0 : bx_Inv rxL S) (hinv : rxILWDK_3 S0 ws S nb) (l8 : 0 ≤ nb) (u8 : nb ≤ 400) : rxPRDXO S [412, 411, nb, 0, 427] ∧ ∀ (S_p : Nat → Int → Int) (res : Int), 0 ≤ res → res ≤ 1 → rxPSRDXO S [412, 411, nb, 0, 427] S_p (some res) → bx_Inv rxL S_p → bx_same rxL (bx_mdl rxCRDXO.2.2.1) S S_p → rxILWDK_4 S0 ws S_p nb res ∧ rxmLWDK_4 S0 ws S_p nb res < rxmLWDK_3 S0 ws S nb := by
  obtain ⟨hI, hx⟩ := hinv
  have g_ := rxkLWD_3 hP.1 hin I0 hI l8 u8
  exact ⟨g_.1, fun S_p res l_ u_ hq I1 hsm => ⟨⟨(g_.2 S_p res l_ u_ hq.1.1 I1 hsm).1, (by
    obtain ⟨hS, h6, hnb, hw⟩ := hI
    have hp : rkPp S := hx.1
    obtain ⟨-, nb2, ap2, hw2, h⟩ := hq.1
    have e1 : nb = nb2 := Option.some.inj (congrArg (fun l : List Int => l[2]?) hw2)
    have e2 : (0 : Int) = ap2 := Option.some.inj (congrArg (fun l : List Int => l[3]?) hw2)
    subst e1
    subst e2
    refine ⟨fun g => ?_, hx.tr (hq.2 hp)⟩
    subst g
    obtain ⟨L, t1, t2, t3, t4, t5⟩ := h rfl hp
    have b0 : 0 ≤ S_p 427 0 ∧ S_p 427 0 ≤ 400 := I1 427 0 (by decide) (by decide)
    have eT : S 411 = S0 411 := by
      rw [hS]
      exact funext fun _ => bx_up_ne (by omega)
    rw [eT, hnb, show decide ((0 : Int) = 1) = false from by decide] at t1
    exact ⟨L, t1, t2, by omega, b0.2, by rw [rkAt_427]; exact t4⟩)⟩, (g_.2 S_p res l_ u_ hq.1.1 I1 hsm).2⟩⟩
theorem rxsLWDK_3 {X : (Nat → Int → Int) → Prop} {S0 : Nat → Int → Int} {ws : List Int} (hP : rxPLWDK S0 ws) : rx_obK X S0 rxC241.2.2.1 rxCRDXO.2.2.1 (rxILWDK S0 ws) (rxmLWDK S0 ws) 3 4 rxzLWDK_3 rxzLWDK_4 [.inr (3, (0, 412)), .inr (3, (0, 411)), .inr (0, (8, 0)), .inr (0, (0, 0)), .inr (3, (0, 427))] (some 9) rxPRDXO rxPSRDXO := by
  intro S r hinv hXS I0 hin hs_ hf_
  have b_ := bx_bds_sat hs_
  have f_ := bx_fcl_ok hs_.1 hf_
  obtain ⟨⟨l8, u8⟩, -⟩ := b_
  have g := rxkLWDK_3 hP hin I0 hinv l8 u8
  have ea : List.map (bx_num r) [.inr (3, (0, 412)), .inr (3, (0, 411)), .inr (0, (8, 0)), .inr (0, (0, 0)), .inr (3, (0, 427))] = [412, 411, (r 8), 0, 427] := by
    simp only [List.map_cons, List.map_nil, bx_xv_ok hs_.1]
    rfl
  rw [ea]
  refine ⟨g.1, fun S_p w r_p hPS hX_p I1 hsm hr hw hs_p => ?_⟩
  have hw := hw _ rfl
  subst hw
  have b_p := hs_p.2.2 9 _ _ rfl
  have g2 := g.2 S_p (r_p 9) b_p.1 b_p.2 hPS I1 hsm
  show rxILWDK_4 S0 ws S_p (r_p 8) (r_p 9) ∧ rxmLWDK_4 S0 ws S_p (r_p 8) (r_p 9) < _
  rw [hr 8 (by decide)]
  exact g2
theorem rxkLWDK_5 {S0 : Nat → Int → Int} {ws : List Int} {S : Nat → Int → Int} (hP : rxPLWDK S0 ws) (hin : bx_same rxL (bx_mdl rxC241.2.2.1) S0 S) (I0 : bx_Inv rxL S) (hinv : rxILWDK_5 S0 ws S)  : rxP110 S [0, (-6)] ∧ ∀ (S_p : Nat → Int → Int) (res : Int), (-6) ≤ res → res ≤ (-1) → rxPS110 S [0, (-6)] S_p (some res) → bx_Inv rxL S_p → bx_same rxL (bx_mdl rxC110.2.2.1) S S_p → rxILWDK_6 S0 ws S_p res ∧ rxmLWDK_6 S0 ws S_p res < rxmLWDK_5 S0 ws S := by
  obtain ⟨hI, hx⟩ := hinv
  have g_ := rxkLWD_5 hP.1 hin I0 hI
  exact ⟨g_.1, fun S_p res l_ u_ hq I1 hsm => ⟨⟨(g_.2 S_p res l_ u_ hq I1 hsm).1, rkPO_sm hsm (by decide +kernel) hx⟩, (g_.2 S_p res l_ u_ hq I1 hsm).2⟩⟩
theorem rxsLWDK_5 {X : (Nat → Int → Int) → Prop} {S0 : Nat → Int → Int} {ws : List Int} (hP : rxPLWDK S0 ws) : rx_obK X S0 rxC241.2.2.1 rxC110.2.2.1 (rxILWDK S0 ws) (rxmLWDK S0 ws) 5 6 rxzLWDK_5 rxzLWDK_6 [.inr (3, (0, 0)), .inr (0, (0, (-6)))] (some 8) rxP110 rxPS110 := by
  intro S r hinv hXS I0 hin hs_ hf_
  have b_ := bx_bds_sat hs_
  have f_ := bx_fcl_ok hs_.1 hf_
  have g := rxkLWDK_5 hP hin I0 hinv 
  have ea : List.map (bx_num r) [.inr (3, (0, 0)), .inr (0, (0, (-6)))] = [0, -6] := by
    simp only [List.map_cons, List.map_nil, bx_xv_ok hs_.1]
    rfl
  rw [ea]
  refine ⟨g.1, fun S_p w r_p hPS hX_p I1 hsm hr hw hs_p => ?_⟩
  have hw := hw _ rfl
  subst hw
  have b_p := hs_p.2.2 8 _ _ rfl
  have g2 := g.2 S_p (r_p 8) b_p.1 b_p.2 hPS I1 hsm
  show rxILWDK_6 S0 ws S_p (r_p 8) ∧ rxmLWDK_6 S0 ws S_p (r_p 8) < _
  exact g2
theorem rxkLWDK_7 {S0 : Nat → Int → Int} {ws : List Int} {S : Nat → Int → Int} (hP : rxPLWDK S0 ws) (hin : bx_same rxL (bx_mdl rxC241.2.2.1) S0 S) (I0 : bx_Inv rxL S) (hinv : rxILWDK_7 S0 ws S)  : rxPADLQ S [1, 427] ∧ ∀ (S_p : Nat → Int → Int) (res : Int), (-1) ≤ res → res ≤ 5 → rxPSADLQ S [1, 427] S_p (some res) → bx_Inv rxL S_p → bx_same rxL (bx_mdl rxC121.2.2.1) S S_p → rxILWDK_8 S0 ws S_p res ∧ rxmLWDK_8 S0 ws S_p res < rxmLWDK_7 S0 ws S := by
  obtain ⟨hI, hx⟩ := hinv
  have g_ := rxkLWD_7 hP.1 hin I0 hI
  exact ⟨rkPf_sm hin (by decide +kernel) (by decide +kernel) hP.2, fun S_p res l_ u_ hq I1 hsm => ⟨⟨(g_.2 S_p res l_ u_ hq.1 I1 hsm).1, (by
    obtain ⟨h1, L, h2, h3⟩ := hx
    obtain ⟨h6, hw, h4, h14, -⟩ := hI
    exact rkLd8_of h1 h2 h3 h14 (hq.2 (by omega)))⟩, (g_.2 S_p res l_ u_ hq.1 I1 hsm).2⟩⟩
theorem rxsLWDK_7 {X : (Nat → Int → Int) → Prop} {S0 : Nat → Int → Int} {ws : List Int} (hP : rxPLWDK S0 ws) : rx_obK X S0 rxC241.2.2.1 rxC121.2.2.1 (rxILWDK S0 ws) (rxmLWDK S0 ws) 7 8 rxzLWDK_7 rxzLWDK_8 [.inr (3, (0, 1)), .inr (3, (0, 427))] (some 8) rxPADLQ rxPSADLQ := by
  intro S r hinv hXS I0 hin hs_ hf_
  have b_ := bx_bds_sat hs_
  have f_ := bx_fcl_ok hs_.1 hf_
  have g := rxkLWDK_7 hP hin I0 hinv 
  have ea : List.map (bx_num r) [.inr (3, (0, 1)), .inr (3, (0, 427))] = [1, 427] := by
    simp only [List.map_cons, List.map_nil, bx_xv_ok hs_.1]
    rfl
  rw [ea]
  refine ⟨g.1, fun S_p w r_p hPS hX_p I1 hsm hr hw hs_p => ?_⟩
  have hw := hw _ rfl
  subst hw
  have b_p := hs_p.2.2 8 _ _ rfl
  have g2 := g.2 S_p (r_p 8) b_p.1 b_p.2 hPS I1 hsm
  show rxILWDK_8 S0 ws S_p (r_p 8) ∧ rxmLWDK_8 S0 ws S_p (r_p 8) < _
  exact g2
theorem rxcLWDK_0_0 {S0 : Nat → Int → Int} {ws : List Int} {S : Nat → Int → Int} {x8 x9 : Int} (hP : rxPLWDK S0 ws) (hin : bx_same rxL (bx_mdl rxC241.2.2.1) S0 S) (I0 : bx_Inv rxL S) (hinv : rxILWDK_0 S0 ws S) (l8 : 0 ≤ x8) (u8 : x8 ≤ 400) (l9 : 6 ≤ x9) (u9 : x9 ≤ 6) (e2 : S 0 4 = x8) (e0 : (bx_up S 0 4 0) 1 14 = x9) : (True) ∧ (True) ∧ rxILWDK_1 S0 ws (bx_up S 0 4 0) ∧ rxmLWDK_1 S0 ws (bx_up S 0 4 0) < rxmLWDK_0 S0 ws S := by
  obtain ⟨hI, hx⟩ := hinv
  obtain ⟨a_, b_, c_, d_⟩ := rxcLWD_0_0 hP.1 hin I0 hI l8 u8 l9 u9 e2 e0
  exact ⟨a_, b_, ⟨c_, (by
    have e := hI.1
    subst e
    exact (rkPO_up (q := 0) (by decide +kernel) (fun g => absurd g.1 (by decide)) (rkPO_rf (rkPp_of hP.2))))⟩, d_⟩
theorem rxgLWDK_0_0 {X : (Nat → Int → Int) → Prop} {S0 : Nat → Int → Int} {ws : List Int} (hP : rxPLWDK S0 ws) : bx_obC rxL X S0 rxC241.2.2.1 (rxILWDK S0 ws) (rxmLWDK S0 ws) 0 rxzLWDK_0 rxoLWDK_0_0 := by
  intro S S_p r r_p hinv hX hin hsm_ hseg
  obtain ⟨I0, I1, h0_, hr_, b_, f_, d_⟩ := bx_cl (evs := [(0, (0, 1), (0, 14), .inr (0, (9, 0))), (1, (0, 0), (0, 4), .inr (0, (0, 0))), (0, (0, 0), (0, 4), .inr (0, (8, 0)))]) (fvs := []) hseg (by decide +kernel) (by decide +kernel)
  have hinv : rxILWDK_0 S0 ws S := hinv
  obtain ⟨⟨l8, u8⟩, ⟨l9, u9⟩, -⟩ := b_
  obtain ⟨e0, ⟨T1, ⟨e2, w_⟩, w1⟩⟩ := d_
  subst w1
  subst w_
  have g := rxcLWDK_0_0 hP hin I0 hinv l8 u8 l9 u9 e2 e0
  refine ⟨bx_narP_ok (l := []) g.1, bx_nfP_ok h0_ (fvs := []) (by decide +kernel) g.2.1, ?_, ?_⟩
  · show rxILWDK_1 S0 ws (bx_up T1 0 (4) (0))
    exact g.2.2.1
  · show rxmLWDK_1 S0 ws (bx_up T1 0 (4) (0)) < rxmLWDK_0 S0 ws T1
    exact g.2.2.2
theorem rxcLWDK_0_1 {S0 : Nat → Int → Int} {ws : List Int} {S : Nat → Int → Int} {x8 x9 : Int} (hP : rxPLWDK S0 ws) (hin : bx_same rxL (bx_mdl rxC241.2.2.1) S0 S) (I0 : bx_Inv rxL S) (hinv : rxILWDK_0 S0 ws S) (l8 : 0 ≤ x8) (u8 : x8 ≤ 400) (l9 : 0 ≤ x9) (u9 : x9 ≤ 5) (e2 : S 0 4 = x8) (e0 : (bx_up S 0 4 0) 1 14 = x9) : (True) ∧ (True) ∧ rxILWDK_3 S0 ws (bx_up S 0 4 0) x8 ∧ rxmLWDK_3 S0 ws (bx_up S 0 4 0) x8 < rxmLWDK_0 S0 ws S := by
  obtain ⟨hI, hx⟩ := hinv
  obtain ⟨a_, b_, c_, d_⟩ := rxcLWD_0_1 hP.1 hin I0 hI l8 u8 l9 u9 e2 e0
  exact ⟨a_, b_, ⟨c_, (by
    have e := hI.1
    subst e
    exact (rkPO_up (q := 0) (by decide +kernel) (fun g => absurd g.1 (by decide)) (rkPO_rf (rkPp_of hP.2))))⟩, d_⟩
theorem rxgLWDK_0_1 {X : (Nat → Int → Int) → Prop} {S0 : Nat → Int → Int} {ws : List Int} (hP : rxPLWDK S0 ws) : bx_obC rxL X S0 rxC241.2.2.1 (rxILWDK S0 ws) (rxmLWDK S0 ws) 0 rxzLWDK_0 rxoLWDK_0_1 := by
  intro S S_p r r_p hinv hX hin hsm_ hseg
  obtain ⟨I0, I1, h0_, hr_, b_, f_, d_⟩ := bx_cl (evs := [(0, (0, 1), (0, 14), .inr (0, (9, 0))), (1, (0, 0), (0, 4), .inr (0, (0, 0))), (0, (0, 0), (0, 4), .inr (0, (8, 0)))]) (fvs := []) hseg (by decide +kernel) (by decide +kernel)
  have hinv : rxILWDK_0 S0 ws S := hinv
  obtain ⟨⟨l8, u8⟩, ⟨l9, u9⟩, -⟩ := b_
  obtain ⟨e0, ⟨T1, ⟨e2, w_⟩, w1⟩⟩ := d_
  subst w1
  subst w_
  have g := rxcLWDK_0_1 hP hin I0 hinv l8 u8 l9 u9 e2 e0
  refine ⟨bx_narP_ok (l := []) g.1, bx_nfP_ok h0_ (fvs := []) (by decide +kernel) g.2.1, ?_, ?_⟩
  · show rxILWDK_3 S0 ws (bx_up T1 0 (4) (0)) (bx_val [(0, 0), (0, 0), (0, 0), (0, 0), (0, 0), (0, 0), (0, 0), (0, 0), (8, 0)] r_p 8)
    rw [bx_val_x (n := 8) (e := (8, 0)) h0_ rfl]
    exact g.2.2.1
  · show rxmLWDK_3 S0 ws (bx_up T1 0 (4) (0)) (bx_val [(0, 0), (0, 0), (0, 0), (0, 0), (0, 0), (0, 0), (0, 0), (0, 0), (8, 0)] r_p 8) < rxmLWDK_0 S0 ws T1
    rw [bx_val_x (n := 8) (e := (8, 0)) h0_ rfl]
    exact g.2.2.2
theorem rxdLWDK_2_0 {S0 : Nat → Int → Int} {ws : List Int} {S : Nat → Int → Int} {res : Int} (hP : rxPLWDK S0 ws) (hin : bx_same rxL (bx_mdl rxC241.2.2.1) S0 S) (hin2 : bx_same rxL (bx_mdl rxC241.2.2.1) S S) (I0 : bx_Inv rxL S) (I1 : bx_Inv rxL S) (hinv : rxILWDK_2 S0 ws S res) (l8 : (-6) ≤ res) (u8 : res ≤ (-1)) : (True) ∧ rxPSLWDK S0 ws S (some res) := by
  obtain ⟨hI, hx⟩ := hinv
  obtain ⟨a_, c_⟩ := rxdLWD_2_0 hP.1 hin hin2 I0 I1 hI l8 u8
  exact ⟨a_, c_, (by
    exact Or.inl ⟨(rfl).trans hI.2.2.2.2.2.1, hx.2⟩)⟩
theorem rxfLWDK_2_0 {X : (Nat → Int → Int) → Prop} {S0 : Nat → Int → Int} {ws : List Int} (hP : rxPLWDK S0 ws) : bx_obE rxL X S0 rxC241.2.2.1 (rxILWDK S0 ws) (rxPSLWDK S0 ws) 2 rxzLWDK_2 rxeLWDK_2_0 := by
  intro S S_p r r_p hinv hX hin hsm_ hseg
  obtain ⟨I0, I1, h0_, hr_, b_, f_, d_⟩ := bx_cl (evs := []) (fvs := []) hseg (by decide +kernel) (by decide +kernel)
  have hinv : rxILWDK_2 S0 ws S (r 8) := hinv
  rw [← hr_ 8 (by decide)] at hinv
  obtain ⟨⟨l8, u8⟩, -⟩ := b_
  have w_ := d_
  subst w_
  have g := rxdLWDK_2_0 hP hin hsm_ I0 I1 hinv l8 u8
  refine ⟨bx_narP_ok (l := []) g.1, ?_⟩
  show rxPSLWDK S0 ws S_p (some (bx_num r_p (.inr (0, (8, 0)))))
  rw [bx_xv_ok h0_]
  exact g.2
theorem rxcLWDK_4_0 {S0 : Nat → Int → Int} {ws : List Int} {S : Nat → Int → Int} {nb res : Int} (hP : rxPLWDK S0 ws) (hin : bx_same rxL (bx_mdl rxC241.2.2.1) S0 S) (I0 : bx_Inv rxL S) (hinv : rxILWDK_4 S0 ws S nb res) (l8 : 0 ≤ nb) (u8 : nb ≤ 400) (l9 : 1 ≤ res) (u9 : res ≤ 1) (f0 : res ≠ 0) : (True) ∧ (True) ∧ rxILWDK_7 S0 ws S ∧ rxmLWDK_7 S0 ws S < rxmLWDK_4 S0 ws S nb res := by
  obtain ⟨hI, hx⟩ := hinv
  obtain ⟨a_, b_, c_, d_⟩ := rxcLWD_4_0 hP.1 hin I0 hI l8 u8 l9 u9 f0
  exact ⟨a_, b_, ⟨c_, ⟨hx.2, hx.1 (by omega)⟩⟩, d_⟩
theorem rxgLWDK_4_0 {X : (Nat → Int → Int) → Prop} {S0 : Nat → Int → Int} {ws : List Int} (hP : rxPLWDK S0 ws) : bx_obC rxL X S0 rxC241.2.2.1 (rxILWDK S0 ws) (rxmLWDK S0 ws) 4 rxzLWDK_4 rxoLWDK_4_0 := by
  intro S S_p r r_p hinv hX hin hsm_ hseg
  obtain ⟨I0, I1, h0_, hr_, b_, f_, d_⟩ := bx_cl (evs := []) (fvs := [(3, (9, 0), (0, 0), (0, 0))]) hseg (by decide +kernel) (by decide +kernel)
  have hinv : rxILWDK_4 S0 ws S (r 8) (r 9) := hinv
  rw [← hr_ 8 (by decide), ← hr_ 9 (by decide)] at hinv
  obtain ⟨⟨l8, u8⟩, ⟨l9, u9⟩, -⟩ := b_
  obtain ⟨f0, -⟩ := f_
  have w_ := d_
  subst w_
  have g := rxcLWDK_4_0 hP hin I0 hinv l8 u8 l9 u9 f0
  refine ⟨bx_narP_ok (l := []) g.1, bx_nfP_ok h0_ (fvs := []) (by decide +kernel) g.2.1, ?_, ?_⟩
  · show rxILWDK_7 S0 ws S_p
    exact g.2.2.1
  · show rxmLWDK_7 S0 ws S_p < rxmLWDK_4 S0 ws S_p (r 8) (r 9)
    rw [← hr_ 8 (by decide), ← hr_ 9 (by decide)]
    exact g.2.2.2
theorem rxcLWDK_4_1 {S0 : Nat → Int → Int} {ws : List Int} {S : Nat → Int → Int} {nb res : Int} (hP : rxPLWDK S0 ws) (hin : bx_same rxL (bx_mdl rxC241.2.2.1) S0 S) (I0 : bx_Inv rxL S) (hinv : rxILWDK_4 S0 ws S nb res) (l8 : 0 ≤ nb) (u8 : nb ≤ 400) (l9 : 0 ≤ res) (u9 : res ≤ 0) : (True) ∧ (True) ∧ rxILWDK_5 S0 ws S ∧ rxmLWDK_5 S0 ws S < rxmLWDK_4 S0 ws S nb res := by
  obtain ⟨hI, hx⟩ := hinv
  obtain ⟨a_, b_, c_, d_⟩ := rxcLWD_4_1 hP.1 hin I0 hI l8 u8 l9 u9
  exact ⟨a_, b_, ⟨c_, hx.2⟩, d_⟩
theorem rxgLWDK_4_1 {X : (Nat → Int → Int) → Prop} {S0 : Nat → Int → Int} {ws : List Int} (hP : rxPLWDK S0 ws) : bx_obC rxL X S0 rxC241.2.2.1 (rxILWDK S0 ws) (rxmLWDK S0 ws) 4 rxzLWDK_4 rxoLWDK_4_1 := by
  intro S S_p r r_p hinv hX hin hsm_ hseg
  obtain ⟨I0, I1, h0_, hr_, b_, f_, d_⟩ := bx_cl (evs := []) (fvs := []) hseg (by decide +kernel) (by decide +kernel)
  have hinv : rxILWDK_4 S0 ws S (r 8) (r 9) := hinv
  rw [← hr_ 8 (by decide), ← hr_ 9 (by decide)] at hinv
  obtain ⟨⟨l8, u8⟩, ⟨l9, u9⟩, -⟩ := b_
  have w_ := d_
  subst w_
  have g := rxcLWDK_4_1 hP hin I0 hinv l8 u8 l9 u9
  refine ⟨bx_narP_ok (l := []) g.1, bx_nfP_ok h0_ (fvs := []) (by decide +kernel) g.2.1, ?_, ?_⟩
  · show rxILWDK_5 S0 ws S_p
    exact g.2.2.1
  · show rxmLWDK_5 S0 ws S_p < rxmLWDK_4 S0 ws S_p (r 8) (r 9)
    rw [← hr_ 8 (by decide), ← hr_ 9 (by decide)]
    exact g.2.2.2
theorem rxdLWDK_6_0 {S0 : Nat → Int → Int} {ws : List Int} {S : Nat → Int → Int} {res : Int} (hP : rxPLWDK S0 ws) (hin : bx_same rxL (bx_mdl rxC241.2.2.1) S0 S) (hin2 : bx_same rxL (bx_mdl rxC241.2.2.1) S S) (I0 : bx_Inv rxL S) (I1 : bx_Inv rxL S) (hinv : rxILWDK_6 S0 ws S res) (l8 : (-6) ≤ res) (u8 : res ≤ (-1)) : (True) ∧ rxPSLWDK S0 ws S (some res) := by
  obtain ⟨hI, hx⟩ := hinv
  obtain ⟨a_, c_⟩ := rxdLWD_6_0 hP.1 hin hin2 I0 I1 hI l8 u8
  exact ⟨a_, c_, (by
    exact Or.inl ⟨(rfl).trans hI.2.2.2.2.1, hx.2⟩)⟩
theorem rxfLWDK_6_0 {X : (Nat → Int → Int) → Prop} {S0 : Nat → Int → Int} {ws : List Int} (hP : rxPLWDK S0 ws) : bx_obE rxL X S0 rxC241.2.2.1 (rxILWDK S0 ws) (rxPSLWDK S0 ws) 6 rxzLWDK_6 rxeLWDK_6_0 := by
  intro S S_p r r_p hinv hX hin hsm_ hseg
  obtain ⟨I0, I1, h0_, hr_, b_, f_, d_⟩ := bx_cl (evs := []) (fvs := []) hseg (by decide +kernel) (by decide +kernel)
  have hinv : rxILWDK_6 S0 ws S (r 8) := hinv
  rw [← hr_ 8 (by decide)] at hinv
  obtain ⟨⟨l8, u8⟩, -⟩ := b_
  have w_ := d_
  subst w_
  have g := rxdLWDK_6_0 hP hin hsm_ I0 I1 hinv l8 u8
  refine ⟨bx_narP_ok (l := []) g.1, ?_⟩
  show rxPSLWDK S0 ws S_p (some (bx_num r_p (.inr (0, (8, 0)))))
  rw [bx_xv_ok h0_]
  exact g.2
theorem rxdLWDK_8_0 {S0 : Nat → Int → Int} {ws : List Int} {S : Nat → Int → Int} {res : Int} (hP : rxPLWDK S0 ws) (hin : bx_same rxL (bx_mdl rxC241.2.2.1) S0 S) (hin2 : bx_same rxL (bx_mdl rxC241.2.2.1) S (bx_up S 0 8 0)) (I0 : bx_Inv rxL S) (I1 : bx_Inv rxL (bx_up S 0 8 0)) (hinv : rxILWDK_8 S0 ws S res) (l8 : (-1) ≤ res) (u8 : res ≤ 5) : (True) ∧ rxPSLWDK S0 ws (bx_up S 0 8 0) (some res) := by
  obtain ⟨hI, hx⟩ := hinv
  obtain ⟨a_, c_⟩ := rxdLWD_8_0 hP.1 hin hin2 I0 I1 hI l8 u8
  exact ⟨a_, c_, (by
    obtain ⟨hr, h6, hw, h4, h14, -⟩ := hI
    exact Or.inr ⟨((bx_up_ne (by omega))).trans h14, rkLd8_ne hx (fun p j a => (bx_up_ne (by omega)))⟩)⟩
theorem rxfLWDK_8_0 {X : (Nat → Int → Int) → Prop} {S0 : Nat → Int → Int} {ws : List Int} (hP : rxPLWDK S0 ws) : bx_obE rxL X S0 rxC241.2.2.1 (rxILWDK S0 ws) (rxPSLWDK S0 ws) 8 rxzLWDK_8 rxeLWDK_8_0 := by
  intro S S_p r r_p hinv hX hin hsm_ hseg
  obtain ⟨I0, I1, h0_, hr_, b_, f_, d_⟩ := bx_cl (evs := [(1, (0, 0), (0, 8), .inr (0, (0, 0)))]) (fvs := []) hseg (by decide +kernel) (by decide +kernel)
  have hinv : rxILWDK_8 S0 ws S (r 8) := hinv
  rw [← hr_ 8 (by decide)] at hinv
  obtain ⟨⟨l8, u8⟩, -⟩ := b_
  obtain ⟨T0, w_, w0⟩ := d_
  subst w0
  subst w_
  have g := rxdLWDK_8_0 hP hin hsm_ I0 I1 hinv l8 u8
  refine ⟨bx_narP_ok (l := []) g.1, ?_⟩
  show rxPSLWDK S0 ws (bx_up T0 0 (8) (0)) (some (bx_num r_p (.inr (0, (8, 0)))))
  rw [bx_xv_ok h0_]
  exact g.2
theorem rxgCLWDK {X : (Nat → Int → Int) → Prop} {S0 : Nat → Int → Int} {ws : List Int} (hP : rxPLWDK S0 ws) : bx_allI (fun i q => rxULWDK q = true ∨ bx_allP (fun o => bx_obC rxL X S0 rxC241.2.2.1 (rxILWDK S0 ws) (rxmLWDK S0 ws) i q.1 o) q.2.1) 0 rxYLWDK := ⟨Or.inr ⟨rxgLWDK_0_0 hP, rxgLWDK_0_1 hP, trivial⟩, Or.inl rfl, Or.inr trivial, Or.inl rfl, Or.inr ⟨rxgLWDK_4_0 hP, rxgLWDK_4_1 hP, trivial⟩, Or.inl rfl, Or.inr trivial, Or.inl rfl, Or.inr trivial, trivial⟩
theorem rxgELWDK {X : (Nat → Int → Int) → Prop} {S0 : Nat → Int → Int} {ws : List Int} (hP : rxPLWDK S0 ws) : bx_allI (fun i q => rxULWDK q = true ∨ bx_allP (fun E => bx_obE rxL X S0 rxC241.2.2.1 (rxILWDK S0 ws) (rxPSLWDK S0 ws) i q.1 E) q.2.2) 0 rxYLWDK := ⟨Or.inr trivial, Or.inl rfl, Or.inr ⟨rxfLWDK_2_0 hP, trivial⟩, Or.inl rfl, Or.inr trivial, Or.inl rfl, Or.inr ⟨rxfLWDK_6_0 hP, trivial⟩, Or.inl rfl, Or.inr ⟨rxfLWDK_8_0 hP, trivial⟩, trivial⟩
theorem rxuLWDK {PX : State → Prop} {Dg : va_G} {A : Nat → Prop} {ad xa : Nat → Nat} {l : Launch} {X : (Nat → Int → Int) → Prop} (hPX : rx_PXOK rxNW A PX) (hX : ∀ S S1 : Nat → Int → Int, X S → bx_same rxL (bx_mdl rxC241.2.2.1) S S1 → X S1) (hQ110 : bx_ConP rxG rxNW rxAO PX Dg rxL X vwCl A ad l rxM110 rxC110 rxP110 rxPS110) (hQRDXO : bx_ConP rxG rxNW rxAO PX Dg rxL X vwCl A ad l rxM119 rxCRDXO rxPRDXO rxPSRDXO) (hQADLQ : bx_ConP rxG rxNW rxAO PX Dg rxL X vwCl A ad l rxM121 rxC121 rxPADLQ rxPSADLQ) {S0 : Nat → Int → Int} {ws : List Int} (hP : rxPLWDK S0 ws) : ∀ (i : Nat) (q : bx_HE), rxYLWDK[i]? = some q → rxULWDK q = true → ∀ {p : Program} {e : Env} {R : Room} {s : State} {m : MethodId} {args : Array Value} {below : List Frame} {meth : Method} {c : Code} {Q : State → Prop} {H0 : Heap}, rx_Fr rxG rxNW rxAO PX p s m args meth c rxM241 → (∀ q, H0.size ≤ q → A q) → H0 = s.heap → rxM241.2.2.2.2.2.2.1 ≤ R.cells → rxM241.2.2.2.2.2.2.2 ≤ R.slots → rxC241.2.2.2.1 ≤ R.frames → rxC241.2.2.2.1 * 40 ≤ R.locals → bx_Step p l e R s m args below meth c Q Dg rxL X vwCl A xa H0 ad rxM241 rxYLWDK (rxILWDK S0 ws) (rxmLWDK S0 ws) S0 rxC241.2.2.1 i q := by
  intro i q hq hus p e R s m args below meth c Q H0 hF hA hH0 hmc hms hd hdl
  match i, hq with
  | 0, hq =>
    cases hq
    exact absurd (show false = true from hus) Bool.false_ne_true
  | 1, hq =>
    cases hq
    exact rx_stepC (ins := .invokevirtual 110) (len := 3) (i_p := 2) (M_p := rxM110) (d := rxC241.2.2.2.1) (as := [.inr (3, (0, 0)), .inr (0, (0, (-5)))]) (t := []) (ct := rxC110) hPX hF rfl hA hH0 hmc hms hd hdl (by decide +kernel) rfl rfl (by decide +kernel) (by decide +kernel) hQ110 (by decide +kernel) rfl (Or.inr ⟨_, _, _, 1, rfl, rfl, by omega, rfl, rfl, rfl⟩) (rxsLWDK_1 hP)
  | 2, hq =>
    cases hq
    exact absurd (show false = true from hus) Bool.false_ne_true
  | 3, hq =>
    cases hq
    exact rx_stepC (ins := .invokevirtual 212) (len := 3) (i_p := 4) (M_p := rxM119) (d := rxC241.2.2.2.1) (as := [.inr (3, (0, 412)), .inr (3, (0, 411)), .inr (0, (8, 0)), .inr (0, (0, 0)), .inr (3, (0, 427))]) (t := []) (ct := rxCRDXO) hPX hF rfl hA hH0 hmc hms hd hdl (by decide +kernel) rfl rfl (by decide +kernel) (by decide +kernel) hQRDXO (by decide +kernel) rfl (Or.inr ⟨_, _, _, 1, rfl, rfl, by omega, rfl, rfl, rfl⟩) (rxsLWDK_3 hP)
  | 4, hq =>
    cases hq
    exact absurd (show false = true from hus) Bool.false_ne_true
  | 5, hq =>
    cases hq
    exact rx_stepC (ins := .invokevirtual 110) (len := 3) (i_p := 6) (M_p := rxM110) (d := rxC241.2.2.2.1) (as := [.inr (3, (0, 0)), .inr (0, (0, (-6)))]) (t := []) (ct := rxC110) hPX hF rfl hA hH0 hmc hms hd hdl (by decide +kernel) rfl rfl (by decide +kernel) (by decide +kernel) hQ110 (by decide +kernel) rfl (Or.inr ⟨_, _, _, 1, rfl, rfl, by omega, rfl, rfl, rfl⟩) (rxsLWDK_5 hP)
  | 6, hq =>
    cases hq
    exact absurd (show false = true from hus) Bool.false_ne_true
  | 7, hq =>
    cases hq
    exact rx_stepC (ins := .invokevirtual 223) (len := 3) (i_p := 8) (M_p := rxM121) (d := rxC241.2.2.2.1) (as := [.inr (3, (0, 1)), .inr (3, (0, 427))]) (t := [.inr (3, (0, 0))]) (ct := rxC121) hPX hF rfl hA hH0 hmc hms hd hdl (by decide +kernel) rfl rfl (by decide +kernel) (by decide +kernel) hQADLQ (by decide +kernel) rfl (Or.inr ⟨_, _, _, 1, rfl, rfl, by omega, rfl, rfl, rfl⟩) (rxsLWDK_7 hP)
  | 8, hq =>
    cases hq
    exact absurd (show false = true from hus) Bool.false_ne_true
  | n + 9, hq => cases hq
theorem rxQLWDK {PX : State → Prop} {Dg : va_G} {A : Nat → Prop} {ad xa : Nat → Nat} {l : Launch} {X : (Nat → Int → Int) → Prop} (hPX : rx_PXOK rxNW A PX) (hsl : ∀ s : State, PX s → ∀ o idx n : Nat, rxSl o idx = some n → ∃ tx : String, vk_R (rxNm o) idx tx (ad n) s)
    (hX : ∀ S S_p : Nat → Int → Int, X S → bx_same rxL (bx_mdl rxC241.2.2.1) S S_p → X S_p)
    (ih : ∀ (j2 : Nat) (ct2 : bx_Ct) (M2 : rx_Mt), ct2 ∈ rxCnE j2 → ct2.2.2.2.1 + 1 ≤ rxC241.2.2.2.1 → rxT.2.2.2.2.2 j2 = some M2 → bx_Con rxG rxNW rxAO PX Dg rxL X vwCl A ad l M2 ct2) (hQ110 : bx_ConP rxG rxNW rxAO PX Dg rxL X vwCl A ad l rxM110 rxC110 rxP110 rxPS110) (hQRDXO : bx_ConP rxG rxNW rxAO PX Dg rxL X vwCl A ad l rxM119 rxCRDXO rxPRDXO rxPSRDXO) (hQADLQ : bx_ConP rxG rxNW rxAO PX Dg rxL X vwCl A ad l rxM121 rxC121 rxPADLQ rxPSADLQ) : bx_ConP rxG rxNW rxAO PX Dg rxL X vwCl A ad l rxM241 rxC241 rxPLWDK rxPSLWDK :=
  rxQof (xa := xa) (Cn := rxCnE) (f := 30000) (j := 241) (tab := rxYLWDK) (us := rxULWDK) hPX hsl hX ih rfl rxYcLWDK rxILWDK rxmLWDK
    (fun S0 ws r I0 I ht0 ht as he he1 hX0 hI0 hP hs ha => by
      have e := he.symm.trans (show bx_ent0 rxNP rxC241.1 bx_I0 [] = some ([(0, 0), (0, 0), (0, 0), (0, 0), (0, 0), (0, 0), (0, 0), (0, 0)], [], [.inr (3, (0, 0))]) from rfl)
      cases e
      subst ha
      have h0 : r 0 = 0 := hs.1
      show rxILWDK_0 S0 _ S0
      refine ⟨⟨rfl, ?_⟩, trivial⟩
      simp only [List.map_cons, List.map_nil, bx_xv_ok h0]
      rfl)
    (fun S0 ws hP => rxuLWDK (xa := xa) hPX hX hQ110 hQRDXO hQADLQ hP) (fun S0 ws hP => rxgCLWDK hP) (fun S0 ws hP => rxgELWDK hP)
