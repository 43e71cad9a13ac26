/-! CONTRACT BY HAND, by program (wip/sim/genhand.py): DeadUnderstudies$Reader.readClosing -/
def rxCRCDK : bx_Ct := ([(3, (1, 412, 0))], none, [(6, 0), (7, 2), (7, 3), (7, 8), (7, 10), (1021, 0), (1022, 0), (1034, 0)], 2, [(412, 0, 3, (1, 411, 0)), (412, 6, 3, (1, 427, 0))])
def rxIRCDK_0 (S0 : Nat → Int → Int) (ws : List Int) (S : Nat → Int → Int) : Prop := rxIRCD_0 S0 ws S ∧ True
def rxmRCDK_0 (S0 : Nat → Int → Int) (ws : List Int) (S : Nat → Int → Int) : Nat := rxmRCD_0 S0 ws S
def rxzRCDK_0 : rx_Z := ([(0, 0), (0, 0), (0, 0), (0, 0), (0, 0), (0, 0), (0, 0), (0, 0)], [], [(((0, 412), 6), .inr (3, (0, 427))), (((0, 412), 0), .inr (3, (0, 411)))], 0, 0, 0, [(0, .inr (3, (0, 412)))], [])
def rxIRCDK_1 (S0 : Nat → Int → Int) (ws : List Int) (S : Nat → Int → Int) : Prop := rxIRCD_1 S0 ws S ∧ True
def rxmRCDK_1 (S0 : Nat → Int → Int) (ws : List Int) (S : Nat → Int → Int) : Nat := rxmRCD_1 S0 ws S
def rxzRCDK_1 : rx_Z := ([(0, 0), (0, 0), (0, 0), (0, 0), (0, 0), (0, 0), (0, 0), (0, 0)], [], [(((0, 412), 0), .inr (3, (0, 411))), (((0, 412), 6), .inr (3, (0, 427)))], 0, 0, 2, [(0, .inr (3, (0, 412)))], [.inr (0, (0, 1)), .inr (3, (0, 412))])
def rxIRCDK_2 (S0 : Nat → Int → Int) (ws : List Int) (S : Nat → Int → Int) : Prop := rxIRCD_2 S0 ws S ∧ (∀ (b : Int) (c : rkC), rkD S0 b c → rkW c → b + (c.1 : Int) + rkM c ≤ 398 → rkD S b (rkRed 1 c) ∧ rkFr S0 S b)
def rxmRCDK_2 (S0 : Nat → Int → Int) (ws : List Int) (S : Nat → Int → Int) : Nat := rxmRCD_2 S0 ws S
def rxzRCDK_2 : rx_Z := ([(0, 0), (0, 0), (0, 0), (0, 0), (0, 0), (0, 0), (0, 0), (0, 0)], [], [(((0, 412), 0), .inr (3, (0, 411))), (((0, 412), 6), .inr (3, (0, 427)))], 0, 0, 5, [(0, .inr (3, (0, 412)))], [])
def rxIRCDK_3 (S0 : Nat → Int → Int) (ws : List Int) (S : Nat → Int → Int) (x : Int) : Prop := rxIRCD_3 S0 ws S x ∧ (∀ (b : Int) (c : rkC), rkD S0 b c → rkW c → b + (c.1 : Int) + rkM c ≤ 398 → rkD S b (rkPop (rkRed 1 c)) ∧ rkFr S0 S b)
def rxmRCDK_3 (S0 : Nat → Int → Int) (ws : List Int) (S : Nat → Int → Int) (x : Int) : Nat := rxmRCD_3 S0 ws S x
def rxzRCDK_3 : rx_Z := ([(0, 0), (0, 0), (0, 0), (0, 0), (0, 0), (0, 0), (0, 0), (0, 0), ((-2147483648), 2147483647)], [], [(((0, 412), 0), .inr (3, (0, 411))), (((0, 412), 6), .inr (3, (0, 427)))], 0, 0, 28, [(0, .inr (3, (0, 412)))], [.inr (0, (0, 1)), .inr (0, (8, 0)), .inr (3, (0, 412))])
def rxIRCDK_4 (S0 : Nat → Int → Int) (ws : List Int) (S : Nat → Int → Int) (x y : Int) : Prop := rxIRCD_4 S0 ws S x y ∧ (∀ (b : Int) (c : rkC), rkD S0 b c → rkW c → b + (c.1 : Int) + rkM c ≤ 398 → rkD S b (rkPop (rkRed 1 c)) ∧ rkFr S0 S b)
def rxmRCDK_4 (S0 : Nat → Int → Int) (ws : List Int) (S : Nat → Int → Int) (x y : Int) : Nat := rxmRCD_4 S0 ws S x y
def rxzRCDK_4 : rx_Z := ([(0, 0), (0, 0), (0, 0), (0, 0), (0, 0), (0, 0), (0, 0), (0, 0), ((-2147483648), 2147483647), ((-2147483648), 2147483647)], [], [(((0, 412), 0), .inr (3, (0, 411))), (((0, 412), 6), .inr (3, (0, 427)))], 0, 0, 29, [(0, .inr (3, (0, 412)))], [.inr (0, (9, 0)), .inr (3, (0, 412))])
def rxIRCDK_5 (S0 : Nat → Int → Int) (ws : List Int) (S : Nat → Int → Int) : Prop := rxIRCD_5 S0 ws S ∧ rkTk S0 S true
def rxmRCDK_5 (S0 : Nat → Int → Int) (ws : List Int) (S : Nat → Int → Int) : Nat := rxmRCD_5 S0 ws S
def rxzRCDK_5 : rx_Z := ([(0, 0), (0, 0), (0, 0), (0, 0), (0, 0), (0, 0), (0, 0), (0, 0)], [], [(((0, 412), 0), .inr (3, (0, 411))), (((0, 412), 6), .inr (3, (0, 427)))], 0, 0, 47, [(0, .inr (3, (0, 412)))], [.inr (3, (0, 412))])
def rxIRCDK_6 (S0 : Nat → Int → Int) (ws : List Int) (S : Nat → Int → Int) : Prop := rxIRCD_6 S0 ws S ∧ rkTk S0 S true
def rxmRCDK_6 (S0 : Nat → Int → Int) (ws : List Int) (S : Nat → Int → Int) : Nat := rxmRCD_6 S0 ws S
def rxzRCDK_6 : rx_Z := ([(0, 0), (0, 0), (0, 0), (0, 0), (0, 0), (0, 0), (0, 0), (0, 0)], [], [(((0, 412), 0), .inr (3, (0, 411))), (((0, 412), 6), .inr (3, (0, 427)))], 0, 0, 50, [(0, .inr (3, (0, 412)))], [])
def rxoRCDK_0_0 : bx_HO := (([(0, 0), (0, 0), (0, 0), (0, 0), (0, 0), (0, 0), (0, 0), (0, 0)], [], [(((0, 412), 6), .inr (3, (0, 427))), (((0, 412), 0), .inr (3, (0, 411)))], 0, 0, 2, [(0, .inr (3, (0, 412)))], [.inr (0, (0, 1)), .inr (3, (0, 412))]), [], [], [(0, 0), (0, 0), (0, 0), (0, 0), (0, 0), (0, 0), (0, 0), (0, 0)], 1)
def rxoRCDK_2_0 : bx_HO := (([(0, 0), (0, 0), (0, 0), (0, 0), (0, 0), (0, 0), (0, 0), (0, 0), (1, 400), ((-2147483648), 2147483647)], [], [(((0, 0), 1851192626986356799029993984671224184301589730656725206226960384000000), .inr (0, (9, 0))), (((0, 412), 8), .inr (0, (9, 0))), (((0, 0), 1851192626986356799431407398244775400849232659564395713334607875000000), .inr (0, (8, (-1)))), (((0, 412), 10), .inr (0, (8, (-1)))), (((0, 0), 1851192626986356799431407398244775400849232659564395713334607872000000), .inr (0, (8, 0))), (((0, 412), 0), .inr (3, (0, 411))), (((0, 412), 6), .inr (3, (0, 427)))], 0, 0, 28, [(0, .inr (3, (0, 412)))], [.inr (0, (0, 1)), .inr (0, (9, 0)), .inr (3, (0, 412))]), [], [], [(0, 0), (0, 0), (0, 0), (0, 0), (0, 0), (0, 0), (0, 0), (0, 0), (9, 0)], 3)
def rxoRCDK_2_1 : bx_HO := (([(0, 0), (0, 0), (0, 0), (0, 0), (0, 0), (0, 0), (0, 0), (0, 0), (0, 0), ((-2147483648), 2147483647)], [], [(((0, 0), 1851192626986356799029993984671224184301589730656725206226960384000000), .inr (0, (9, 0))), (((0, 412), 8), .inr (0, (9, 0))), (((0, 0), 1851192626986356799431407398244775400849232659564395713334607872000000), .inr (0, (8, 0))), (((0, 412), 10), .inr (0, (8, 0))), (((0, 412), 0), .inr (3, (0, 411))), (((0, 412), 6), .inr (3, (0, 427)))], 0, 0, 28, [(0, .inr (3, (0, 412)))], [.inr (0, (0, 1)), .inr (0, (9, 0)), .inr (3, (0, 412))]), [], [], [(0, 0), (0, 0), (0, 0), (0, 0), (0, 0), (0, 0), (0, 0), (0, 0), (9, 0)], 3)
def rxoRCDK_4_0 : bx_HO := (([(0, 0), (0, 0), (0, 0), (0, 0), (0, 0), (0, 0), (0, 0), (0, 0), ((-2147483648), 2147483647), ((-2147483648), 2147483647), (0, 400), (0, 400)], [(1, (11, 0), (10, 0))], [(((0, 0), 1851192626986356797625047037163794926384839479479878431350194176000000), .inr (0, (11, 0))), (((0, 412), 1), .inr (0, (11, 0))), (((0, 0), 1851192626986356797825753743950570534658660943933713684904017920000000), .inr (0, (10, 0))), (((0, 412), 2), .inr (0, (10, 0))), (((0, 0), 1851192626986356799029993984671224184301589730656725206226960387000000), .inr (0, (9, 0))), (((0, 412), 8), .inr (0, (9, 0))), (((0, 412), 0), .inr (3, (0, 411))), (((0, 412), 6), .inr (3, (0, 427)))], 0, 0, 47, [(0, .inr (3, (0, 412)))], [.inr (3, (0, 412))]), [], [], [(0, 0), (0, 0), (0, 0), (0, 0), (0, 0), (0, 0), (0, 0), (0, 0)], 5)
def rxoRCDK_4_1 : bx_HO := (([(0, 0), (0, 0), (0, 0), (0, 0), (0, 0), (0, 0), (0, 0), (0, 0), ((-2147483648), 2147483647), ((-2147483648), 2147483647), (0, 399), (1, 400), (0, 255)], [(3, (12, 0), (0, 41)), (0, (10, 0), (11, 0))], [(((0, 0), 1851192626986356797424370955790042202572729718740712036934811648000000), .inr (0, (12, 0))), (((0, 0), 1851192626986356797625047037163794926384839479479878431350194176000000), .inr (0, (11, 0))), (((0, 412), 1), .inr (0, (11, 0))), (((0, 0), 1851192626986356797825753743950570534658660943933713684904017920000000), .inr (0, (10, 0))), (((0, 412), 2), .inr (0, (10, 0))), (((0, 0), 1851192626986356799029993984671224184301589730656725206226960387000000), .inr (0, (9, 0))), (((0, 412), 8), .inr (0, (9, 0))), (((0, 412), 0), .inr (3, (0, 411))), (((0, 412), 6), .inr (3, (0, 427)))], 0, 0, 47, [(0, .inr (3, (0, 412)))], [.inr (3, (0, 412))]), [], [], [(0, 0), (0, 0), (0, 0), (0, 0), (0, 0), (0, 0), (0, 0), (0, 0)], 5)
def rxoRCDK_4_2 : bx_HO := (([(0, 0), (0, 0), (0, 0), (0, 0), (0, 0), (0, 0), (0, 0), (0, 0), ((-2147483648), 2147483647), ((-2147483648), (-1)), (0, 399), (1, 400), (41, 41)], [(0, (10, 0), (11, 0))], [(((0, 0), 1851192626986356797424370955790042202572729718740712036934811648000000), .inr (0, (12, 0))), (((0, 0), 1851192626986356797625047037163794926384839479479878431350194176000000), .inr (0, (11, 0))), (((0, 412), 1), .inr (0, (11, 0))), (((0, 0), 1851192626986356797825753743950570534658660943933713684904017920000000), .inr (0, (10, 0))), (((0, 412), 2), .inr (0, (10, 0))), (((0, 0), 1851192626986356799029993984671224184301589730656725206226960387000000), .inr (0, (9, 0))), (((0, 412), 8), .inr (0, (9, 0))), (((0, 412), 0), .inr (3, (0, 411))), (((0, 412), 6), .inr (3, (0, 427)))], 0, 0, 47, [(0, .inr (3, (0, 412)))], [.inr (3, (0, 412))]), [], [], [(0, 0), (0, 0), (0, 0), (0, 0), (0, 0), (0, 0), (0, 0), (0, 0)], 5)
def rxoRCDK_4_3 : bx_HO := (([(0, 0), (0, 0), (0, 0), (0, 0), (0, 0), (0, 0), (0, 0), (0, 0), ((-2147483648), 2147483647), (9, 2147483647), (0, 399), (1, 400), (41, 41)], [(0, (10, 0), (11, 0))], [(((0, 412), 9), .inr (3, (0, 424))), (((0, 0), 1851192626986356797424370955790042202572729718740712036934811648000000), .inr (0, (12, 0))), (((0, 0), 1851192626986356797625047037163794926384839479479878431350194176000000), .inr (0, (11, 0))), (((0, 412), 1), .inr (0, (11, 0))), (((0, 0), 1851192626986356797825753743950570534658660943933713684904017920000000), .inr (0, (10, 0))), (((0, 412), 2), .inr (0, (10, 0))), (((0, 0), 1851192626986356799029993984671224184301589730656725206226960387000000), .inr (0, (9, 0))), (((0, 412), 8), .inr (0, (9, 0))), (((0, 412), 0), .inr (3, (0, 411))), (((0, 412), 6), .inr (3, (0, 427)))], 0, 0, 47, [(0, .inr (3, (0, 412)))], [.inr (3, (0, 412))]), [], [], [(0, 0), (0, 0), (0, 0), (0, 0), (0, 0), (0, 0), (0, 0), (0, 0)], 5)
def rxoRCDK_4_4 : bx_HO := (([(0, 0), (0, 0), (0, 0), (0, 0), (0, 0), (0, 0), (0, 0), (0, 0), ((-2147483648), 2147483647), (0, 8), (0, 399), (1, 400), (41, 41)], [(0, (10, 0), (11, 0))], [(((0, 0), 1851192626986356797424367893248739914126558548369245151028576259000000), .inr (0, (0, 4))), (((0, 412), 9), .inr (3, (0, 424))), (((0, 0), 1851192626986356797424370955790042202572729718740712036934811648000000), .inr (0, (12, 0))), (((0, 0), 1851192626986356797625047037163794926384839479479878431350194176000000), .inr (0, (11, 0))), (((0, 412), 1), .inr (0, (11, 0))), (((0, 0), 1851192626986356797825753743950570534658660943933713684904017920000000), .inr (0, (10, 0))), (((0, 412), 2), .inr (0, (10, 0))), (((0, 0), 1851192626986356799029993984671224184301589730656725206226960387000000), .inr (0, (9, 0))), (((0, 412), 8), .inr (0, (9, 0))), (((0, 412), 0), .inr (3, (0, 411))), (((0, 412), 6), .inr (3, (0, 427)))], 0, 0, 47, [(0, .inr (3, (0, 412)))], [.inr (3, (0, 412))]), [], [], [(0, 0), (0, 0), (0, 0), (0, 0), (0, 0), (0, 0), (0, 0), (0, 0)], 5)
def rxeRCDK_6_0 : rx_End × List (Nat × Int × Int) := (([(0, 0), (0, 0), (0, 0), (0, 0), (0, 0), (0, 0), (0, 0), (0, 0)], [], [(((0, 412), 0), .inr (3, (0, 411))), (((0, 412), 6), .inr (3, (0, 427)))], none), [])
def rxYRCDK : List bx_HE := [(rxzRCDK_0, [rxoRCDK_0_0], []), (rxzRCDK_1, [], []), (rxzRCDK_2, [rxoRCDK_2_0, rxoRCDK_2_1], []), (rxzRCDK_3, [], []), (rxzRCDK_4, [rxoRCDK_4_0, rxoRCDK_4_1, rxoRCDK_4_2, rxoRCDK_4_3, rxoRCDK_4_4], []), (rxzRCDK_5, [], []), (rxzRCDK_6, [], [rxeRCDK_6_0])]
def rxURCDK (q : bx_HE) : Bool := Nat.beq (rx_zpc q.1) 2 || Nat.beq (rx_zpc q.1) 28 || Nat.beq (rx_zpc q.1) 47
def rxYBRCDK : bx_B := (rxV, rxNP, rxDmf, bx_mdH rxCRCDK.2.2.1)
set_option maxRecDepth 100000 in
theorem rxYcRCDK : bx_chkH rxYBRCDK rxM68 rxCRCDK rxYRCDK (rxURCDK, fun cut z => rx_ex2 (rxCT rxYBRCDK rxCnE) cut 30000 rxCRCDK.2.2.2.1 68 z) = true := by decide +kernel
def rxIRCDK (S0 : Nat → Int → Int) (ws : List Int) (i : Nat) : bx_SP := fun S r => match i with | 0 => rxIRCDK_0 S0 ws S | 1 => rxIRCDK_1 S0 ws S | 2 => rxIRCDK_2 S0 ws S | 3 => rxIRCDK_3 S0 ws S (r 8) | 4 => rxIRCDK_4 S0 ws S (r 8) (r 9) | 5 => rxIRCDK_5 S0 ws S | 6 => rxIRCDK_6 S0 ws S | _ => False
def rxmRCDK (S0 : Nat → Int → Int) (ws : List Int) (i : Nat) (S : Nat → Int → Int) (r : Nat → Int) : Nat := match i with | 0 => rxmRCDK_0 S0 ws S | 1 => rxmRCDK_1 S0 ws S | 2 => rxmRCDK_2 S0 ws S | 3 => rxmRCDK_3 S0 ws S (r 8) | 4 => rxmRCDK_4 S0 ws S (r 8) (r 9) | 5 => rxmRCDK_5 S0 ws S | 6 => rxmRCDK_6 S0 ws S | _ => 0
def rxPRCDK (S0 : Nat → Int → Int) (ws : List Int) : Prop := rxPRCD S0 ws
def rxPSRCDK (S0 : Nat → Int → Int) (ws : List Int) (S : Nat → Int → Int) (w : Option Int) : Prop := w = none ∧ rxPSRCD S0 ws S w ∧ (rkTk S0 S true)
theorem rxkRCDK_1 {S0 : Nat → Int → Int} {ws : List Int} {S : Nat → Int → Int} (hP : rxPRCDK S0 ws) (hin : bx_same rxL (bx_mdl rxCRCDK.2.2.1) S0 S) (I0 : bx_Inv rxL S) (hinv : rxIRCDK_1 S0 ws S)  : rxPRDDK S [412, 1] ∧ ∀ (S_p : Nat → Int → Int), rxPSRDDK S [412, 1] S_p none → bx_Inv rxL S_p → bx_same rxL (bx_mdl rxCRDDK.2.2.1) S S_p → rxIRCDK_2 S0 ws S_p ∧ rxmRCDK_2 S0 ws S_p < rxmRCDK_1 S0 ws S := by
  obtain ⟨hI, hx⟩ := hinv
  have g_ := rxkRCD_1 hP hin I0 hI
  exact ⟨g_.1, fun S_p hq I1 hsm => ⟨⟨(g_.2 S_p hq.2.1 I1 hsm).1, (by
    have e : S = S0 := hI
    subst e
    obtain ⟨-, -, least, hw, h⟩ := hq
    have hl : (1 : Int) = least := Option.some.inj (congrArg (fun l : List Int => l[1]?) hw)
    subst hl
    exact fun b c hC hW hb => h (by omega) b c hC hW (by omega))⟩, (g_.2 S_p hq.2.1 I1 hsm).2⟩⟩
theorem rxsRCDK_1 {X : (Nat → Int → Int) → Prop} {S0 : Nat → Int → Int} {ws : List Int} (hP : rxPRCDK S0 ws) : rx_obK X S0 rxCRCDK.2.2.1 rxCRDDK.2.2.1 (rxIRCDK S0 ws) (rxmRCDK S0 ws) 1 2 rxzRCDK_1 rxzRCDK_2 [.inr (3, (0, 412)), .inr (0, (0, 1))] none rxPRDDK rxPSRDDK := by
  intro S r hinv hXS I0 hin hs_ hf_
  have b_ := bx_bds_sat hs_
  have f_ := bx_fcl_ok hs_.1 hf_
  have g := rxkRCDK_1 hP hin I0 hinv 
  have ea : List.map (bx_num r) [.inr (3, (0, 412)), .inr (0, (0, 1))] = [412, 1] := by
    simp only [List.map_cons, List.map_nil, bx_xv_ok hs_.1]
    rfl
  rw [ea]
  refine ⟨g.1, fun S_p w r_p hPS hX_p I1 hsm hr hw hs_p => ?_⟩
  have hw : w = none := hPS.1
  subst hw
  have g2 := g.2 S_p hPS I1 hsm
  show rxIRCDK_2 S0 ws S_p ∧ rxmRCDK_2 S0 ws S_p < _
  exact g2
theorem rxbRCDK_3 {S0 : Nat → Int → Int} {ws : List Int} {S : Nat → Int → Int} {x : Int} (hP : rxPRCDK S0 ws) (hin : bx_same rxL (bx_mdl rxCRCDK.2.2.1) S0 S) (I0 : bx_Inv rxL S) (hinv : rxIRCDK_3 S0 ws S x) (l8 : (-2147483648) ≤ x) (u8 : x ≤ 2147483647) : bx_opcB 34 x 1 ∧ ∀ y : Int, y = bx_opvB 34 x 1 → ((-2147483648) ≤ y ∧ y ≤ 2147483647) ∧ rxIRCDK_4 S0 ws S x y ∧ rxmRCDK_4 S0 ws S x y < rxmRCDK_3 S0 ws S x := by
  obtain ⟨hI, hx⟩ := hinv
  have g_ := rxbRCD_3 hP hin I0 hI l8 u8
  exact ⟨g_.1, fun y hv => ⟨(g_.2 y hv).1, ⟨(g_.2 y hv).2.1, hx⟩, (g_.2 y hv).2.2⟩⟩
theorem rxsRCDK_3 {X : (Nat → Int → Int) → Prop} {S0 : Nat → Int → Int} {ws : List Int} (hP : rxPRCDK S0 ws) : rx_obBB X S0 rxCRCDK.2.2.1 (rxIRCDK S0 ws) (rxmRCDK S0 ws) 3 4 rxzRCDK_3 34 (8, 0) (0, 1) (-2147483648) 2147483647 := by
  intro S r hinv hXS I0 hin hs_ hf_
  have b_ := bx_bds_sat hs_
  have f_ := bx_fcl_ok hs_.1 hf_
  obtain ⟨⟨l8, u8⟩, -⟩ := b_
  have g := rxbRCDK_3 hP hin I0 hinv l8 u8
  rw [bx_x_ok hs_.1, bx_x_ok hs_.1]
  refine ⟨g.1, fun r_p hr h0_ hv => ?_⟩
  have g2 := g.2 (r_p 9) hv
  show _ ∧ rxIRCDK_4 S0 ws S (r_p 8) (r_p 9) ∧ rxmRCDK_4 S0 ws S (r_p 8) (r_p 9) < _
  rw [hr 8 (by decide)]
  exact g2
theorem rxkRCDK_5 {S0 : Nat → Int → Int} {ws : List Int} {S : Nat → Int → Int} (hP : rxPRCDK S0 ws) (hin : bx_same rxL (bx_mdl rxCRCDK.2.2.1) S0 S) (I0 : bx_Inv rxL S) (hinv : rxIRCDK_5 S0 ws S)  : rxPAD S [412] ∧ ∀ (S_p : Nat → Int → Int), rxPSAD S [412] S_p none → bx_Inv rxL S_p → bx_same rxL (bx_mdl rxC84.2.2.1) S S_p → rxIRCDK_6 S0 ws S_p ∧ rxmRCDK_6 S0 ws S_p < rxmRCDK_5 S0 ws S := by
  obtain ⟨hI, hx⟩ := hinv
  have g_ := rxkRCD_5 hP hin I0 hI
  exact ⟨g_.1, fun S_p hq I1 hsm => ⟨⟨(g_.2 S_p hq I1 hsm).1, (by
    intro b c hC hW hb
    obtain ⟨g1, g2⟩ := hx b c hC hW hb
    have q_ := rkD_of g1 I0 hsm (by decide +kernel)
    exact ⟨q_.1, g2.tr q_.2⟩)⟩, (g_.2 S_p hq I1 hsm).2⟩⟩
theorem rxsRCDK_5 {X : (Nat → Int → Int) → Prop} {S0 : Nat → Int → Int} {ws : List Int} (hP : rxPRCDK S0 ws) : rx_obK X S0 rxCRCDK.2.2.1 rxC84.2.2.1 (rxIRCDK S0 ws) (rxmRCDK S0 ws) 5 6 rxzRCDK_5 rxzRCDK_6 [.inr (3, (0, 412))] none rxPAD rxPSAD := by
  intro S r hinv hXS I0 hin hs_ hf_
  have b_ := bx_bds_sat hs_
  have f_ := bx_fcl_ok hs_.1 hf_
  have g := rxkRCDK_5 hP hin I0 hinv 
  have ea : List.map (bx_num r) [.inr (3, (0, 412))] = [412] := by
    simp only [List.map_cons, List.map_nil, bx_xv_ok hs_.1]
    rfl
  rw [ea]
  refine ⟨g.1, fun S_p w r_p hPS hX_p I1 hsm hr hw hs_p => ?_⟩
  have hw : w = none := hPS.1
  subst hw
  have g2 := g.2 S_p hPS I1 hsm
  show rxIRCDK_6 S0 ws S_p ∧ rxmRCDK_6 S0 ws S_p < _
  exact g2
theorem rxcRCDK_0_0 {S0 : Nat → Int → Int} {ws : List Int} {S : Nat → Int → Int} (hP : rxPRCDK S0 ws) (hin : bx_same rxL (bx_mdl rxCRCDK.2.2.1) S0 S) (I0 : bx_Inv rxL S) (hinv : rxIRCDK_0 S0 ws S)  : (True) ∧ (True) ∧ rxIRCDK_1 S0 ws S ∧ rxmRCDK_1 S0 ws S < rxmRCDK_0 S0 ws S := by
  obtain ⟨hI, hx⟩ := hinv
  obtain ⟨a_, b_, c_, d_⟩ := rxcRCD_0_0 hP hin I0 hI
  exact ⟨a_, b_, ⟨c_, trivial⟩, d_⟩
theorem rxgRCDK_0_0 {X : (Nat → Int → Int) → Prop} {S0 : Nat → Int → Int} {ws : List Int} (hP : rxPRCDK S0 ws) : bx_obC rxL X S0 rxCRCDK.2.2.1 (rxIRCDK S0 ws) (rxmRCDK S0 ws) 0 rxzRCDK_0 rxoRCDK_0_0 := by
  intro S S_p r r_p hinv hX hin hsm_ hseg
  obtain ⟨I0, I1, h0_, hr_, b_, f_, d_⟩ := bx_cl (evs := []) (fvs := []) hseg (by decide +kernel) (by decide +kernel)
  have hinv : rxIRCDK_0 S0 ws S := hinv
  have w_ := d_
  subst w_
  have g := rxcRCDK_0_0 hP hin I0 hinv 
  refine ⟨bx_narP_ok (l := []) g.1, bx_nfP_ok h0_ (fvs := []) (by decide +kernel) g.2.1, ?_, ?_⟩
  · show rxIRCDK_1 S0 ws S_p
    exact g.2.2.1
  · show rxmRCDK_1 S0 ws S_p < rxmRCDK_0 S0 ws S_p
    exact g.2.2.2
theorem rxcRCDK_2_0 {S0 : Nat → Int → Int} {ws : List Int} {S : Nat → Int → Int} {x8 x9 : Int} (hP : rxPRCDK S0 ws) (hin : bx_same rxL (bx_mdl rxCRCDK.2.2.1) S0 S) (I0 : bx_Inv rxL S) (hinv : rxIRCDK_2 S0 ws S) (l8 : 1 ≤ x8) (u8 : x8 ≤ 400) (l9 : (-2147483648) ≤ x9) (u9 : x9 ≤ 2147483647) (e2 : S 412 10 = x8) (e0 : (bx_up S 412 10 (x8 + (-1))) 412 8 = x9) : (True) ∧ (True) ∧ rxIRCDK_3 S0 ws (bx_up S 412 10 (x8 + (-1))) x9 ∧ rxmRCDK_3 S0 ws (bx_up S 412 10 (x8 + (-1))) x9 < rxmRCDK_2 S0 ws S := by
  obtain ⟨hI, hx⟩ := hinv
  obtain ⟨a_, b_, c_, d_⟩ := rxcRCD_2_0 hP hin I0 hI l8 u8 l9 u9 e2 e0
  exact ⟨a_, b_, ⟨c_, (by
    intro b c hC hW hb
    obtain ⟨g1, g2⟩ := hx b c hC hW hb
    have e := g1.2.2.1
    have q := rkD_pop (S_p := (bx_up S 412 10 (x8 + (-1)))) g1 (by omega) ((bx_up_at).trans (by omega)) ((bx_up_ne (by omega))) (fun j => ⟨(bx_up_ne (by omega)), (bx_up_ne (by omega))⟩) (fun j => ⟨(bx_up_ne (by omega)), (bx_up_ne (by omega))⟩)
    exact ⟨q.1, g2.tr q.2⟩)⟩, d_⟩
theorem rxgRCDK_2_0 {X : (Nat → Int → Int) → Prop} {S0 : Nat → Int → Int} {ws : List Int} (hP : rxPRCDK S0 ws) : bx_obC rxL X S0 rxCRCDK.2.2.1 (rxIRCDK S0 ws) (rxmRCDK S0 ws) 2 rxzRCDK_2 rxoRCDK_2_0 := by
  intro S S_p r r_p hinv hX hin hsm_ hseg
  obtain ⟨I0, I1, h0_, hr_, b_, f_, d_⟩ := bx_cl (evs := [(0, (0, 412), (0, 8), .inr (0, (9, 0))), (1, (0, 412), (0, 10), .inr (0, (8, (-1)))), (0, (0, 412), (0, 10), .inr (0, (8, 0)))]) (fvs := []) hseg (by decide +kernel) (by decide +kernel)
  have hinv : rxIRCDK_2 S0 ws S := hinv
  obtain ⟨⟨l8, u8⟩, ⟨l9, u9⟩, -⟩ := b_
  obtain ⟨e0, ⟨T1, ⟨e2, w_⟩, w1⟩⟩ := d_
  subst w1
  subst w_
  have g := rxcRCDK_2_0 hP hin I0 hinv l8 u8 l9 u9 e2 e0
  refine ⟨bx_narP_ok (l := []) g.1, bx_nfP_ok h0_ (fvs := []) (by decide +kernel) g.2.1, ?_, ?_⟩
  · show rxIRCDK_3 S0 ws (bx_up T1 412 (10) (r_p 8 + (-1))) (bx_val [(0, 0), (0, 0), (0, 0), (0, 0), (0, 0), (0, 0), (0, 0), (0, 0), (9, 0)] r_p 8)
    rw [bx_val_x (n := 8) (e := (9, 0)) h0_ rfl]
    exact g.2.2.1
  · show rxmRCDK_3 S0 ws (bx_up T1 412 (10) (r_p 8 + (-1))) (bx_val [(0, 0), (0, 0), (0, 0), (0, 0), (0, 0), (0, 0), (0, 0), (0, 0), (9, 0)] r_p 8) < rxmRCDK_2 S0 ws T1
    rw [bx_val_x (n := 8) (e := (9, 0)) h0_ rfl]
    exact g.2.2.2
theorem rxcRCDK_2_1 {S0 : Nat → Int → Int} {ws : List Int} {S : Nat → Int → Int} {x8 x9 : Int} (hP : rxPRCDK S0 ws) (hin : bx_same rxL (bx_mdl rxCRCDK.2.2.1) S0 S) (I0 : bx_Inv rxL S) (hinv : rxIRCDK_2 S0 ws S) (l8 : 0 ≤ x8) (u8 : x8 ≤ 0) (l9 : (-2147483648) ≤ x9) (u9 : x9 ≤ 2147483647) (e1 : S 412 10 = x8) (e0 : S 412 8 = x9) : (True) ∧ (True) ∧ rxIRCDK_3 S0 ws S x9 ∧ rxmRCDK_3 S0 ws S x9 < rxmRCDK_2 S0 ws S := by
  obtain ⟨hI, hx⟩ := hinv
  obtain ⟨a_, b_, c_, d_⟩ := rxcRCD_2_1 hP hin I0 hI l8 u8 l9 u9 e1 e0
  exact ⟨a_, b_, ⟨c_, (by
    intro b c hC hW hb
    obtain ⟨g1, g2⟩ := hx b c hC hW hb
    have e := g1.2.2.1
    have e0 : (rkRed 1 c).1 = 0 := by omega
    refine ⟨?_, g2⟩
    have q : rkPop (rkRed 1 c) = rkRed 1 c := by
      unfold rkPop
      rw [e0]
      exact Prod.ext e0.symm rfl
    rw [q]
    exact g1)⟩, d_⟩
theorem rxgRCDK_2_1 {X : (Nat → Int → Int) → Prop} {S0 : Nat → Int → Int} {ws : List Int} (hP : rxPRCDK S0 ws) : bx_obC rxL X S0 rxCRCDK.2.2.1 (rxIRCDK S0 ws) (rxmRCDK S0 ws) 2 rxzRCDK_2 rxoRCDK_2_1 := by
  intro S S_p r r_p hinv hX hin hsm_ hseg
  obtain ⟨I0, I1, h0_, hr_, b_, f_, d_⟩ := bx_cl (evs := [(0, (0, 412), (0, 8), .inr (0, (9, 0))), (0, (0, 412), (0, 10), .inr (0, (8, 0)))]) (fvs := []) hseg (by decide +kernel) (by decide +kernel)
  have hinv : rxIRCDK_2 S0 ws S := hinv
  obtain ⟨⟨l8, u8⟩, ⟨l9, u9⟩, -⟩ := b_
  obtain ⟨e0, ⟨e1, w_⟩⟩ := d_
  subst w_
  have g := rxcRCDK_2_1 hP hin I0 hinv l8 u8 l9 u9 e1 e0
  refine ⟨bx_narP_ok (l := []) g.1, bx_nfP_ok h0_ (fvs := []) (by decide +kernel) g.2.1, ?_, ?_⟩
  · show rxIRCDK_3 S0 ws S_p (bx_val [(0, 0), (0, 0), (0, 0), (0, 0), (0, 0), (0, 0), (0, 0), (0, 0), (9, 0)] r_p 8)
    rw [bx_val_x (n := 8) (e := (9, 0)) h0_ rfl]
    exact g.2.2.1
  · show rxmRCDK_3 S0 ws S_p (bx_val [(0, 0), (0, 0), (0, 0), (0, 0), (0, 0), (0, 0), (0, 0), (0, 0), (9, 0)] r_p 8) < rxmRCDK_2 S0 ws S_p
    rw [bx_val_x (n := 8) (e := (9, 0)) h0_ rfl]
    exact g.2.2.2
theorem rxcRCDK_4_0 {S0 : Nat → Int → Int} {ws : List Int} {S : Nat → Int → Int} {x y x10 x11 : Int} (hP : rxPRCDK S0 ws) (hin : bx_same rxL (bx_mdl rxCRCDK.2.2.1) S0 S) (I0 : bx_Inv rxL S) (hinv : rxIRCDK_4 S0 ws S x y) (l8 : (-2147483648) ≤ x) (u8 : x ≤ 2147483647) (l9 : (-2147483648) ≤ y) (u9 : y ≤ 2147483647) (l10 : 0 ≤ x10) (u10 : x10 ≤ 400) (l11 : 0 ≤ x11) (u11 : x11 ≤ 400) (f0 : x11 ≤ x10) (e1 : (bx_up S 412 8 y) 412 2 = x10) (e0 : (bx_up S 412 8 y) 412 1 = x11) : (True) ∧ (True) ∧ rxIRCDK_5 S0 ws (bx_up S 412 8 y) ∧ rxmRCDK_5 S0 ws (bx_up S 412 8 y) < rxmRCDK_4 S0 ws S x y := by
  obtain ⟨hI, hx⟩ := hinv
  obtain ⟨a_, b_, c_, d_⟩ := rxcRCD_4_0 hP hin I0 hI l8 u8 l9 u9 l10 u10 l11 u11 f0 e1 e0
  exact ⟨a_, b_, ⟨c_, (by
    intro b c hC hW hb
    obtain ⟨hD, b1, b8, hc⟩ := hP
    obtain ⟨g1, g2⟩ := hx b c hC hW hb
    have q := rkD_ne (S_p := (bx_up S 412 8 y)) g1 ((bx_up_ne (by omega))) ((bx_up_ne (by omega))) (fun j => ⟨(bx_up_ne (by omega)), (bx_up_ne (by omega))⟩) (fun j => ⟨(bx_up_ne (by omega)), (bx_up_ne (by omega))⟩)
    rw [rzLv_eq (by omega), rkSt_cl (hc.imp (fun g => ⟨rzLq_ne b1, g.1, g.2⟩) fun g => ⟨rzLq_ne b1, g.1, g.2⟩)]
    exact ⟨q.1, g2.tr q.2⟩)⟩, d_⟩
theorem rxgRCDK_4_0 {X : (Nat → Int → Int) → Prop} {S0 : Nat → Int → Int} {ws : List Int} (hP : rxPRCDK S0 ws) : bx_obC rxL X S0 rxCRCDK.2.2.1 (rxIRCDK S0 ws) (rxmRCDK S0 ws) 4 rxzRCDK_4 rxoRCDK_4_0 := by
  intro S S_p r r_p hinv hX hin hsm_ hseg
  obtain ⟨I0, I1, h0_, hr_, b_, f_, d_⟩ := bx_cl (evs := [(0, (0, 412), (0, 1), .inr (0, (11, 0))), (0, (0, 412), (0, 2), .inr (0, (10, 0))), (1, (0, 412), (0, 8), .inr (0, (9, 0)))]) (fvs := [(1, (11, 0), (10, 0), (0, 0))]) hseg (by decide +kernel) (by decide +kernel)
  have hinv : rxIRCDK_4 S0 ws S (r 8) (r 9) := hinv
  rw [← hr_ 8 (by decide), ← hr_ 9 (by decide)] at hinv
  obtain ⟨⟨l8, u8⟩, ⟨l9, u9⟩, ⟨l10, u10⟩, ⟨l11, u11⟩, -⟩ := b_
  obtain ⟨f0, -⟩ := f_
  obtain ⟨e0, ⟨e1, ⟨T2, w_, w2⟩⟩⟩ := d_
  subst w2
  subst w_
  have g := rxcRCDK_4_0 hP hin I0 hinv l8 u8 l9 u9 l10 u10 l11 u11 f0 e1 e0
  refine ⟨bx_narP_ok (l := []) g.1, bx_nfP_ok h0_ (fvs := []) (by decide +kernel) g.2.1, ?_, ?_⟩
  · show rxIRCDK_5 S0 ws (bx_up T2 412 (8) (r_p 9))
    exact g.2.2.1
  · show rxmRCDK_5 S0 ws (bx_up T2 412 (8) (r_p 9)) < rxmRCDK_4 S0 ws T2 (r 8) (r 9)
    rw [← hr_ 8 (by decide), ← hr_ 9 (by decide)]
    exact g.2.2.2
theorem rxcRCDK_4_1 {S0 : Nat → Int → Int} {ws : List Int} {S : Nat → Int → Int} {x y x10 x11 x12 : Int} (hP : rxPRCDK S0 ws) (hin : bx_same rxL (bx_mdl rxCRCDK.2.2.1) S0 S) (I0 : bx_Inv rxL S) (hinv : rxIRCDK_4 S0 ws S x y) (l8 : (-2147483648) ≤ x) (u8 : x ≤ 2147483647) (l9 : (-2147483648) ≤ y) (u9 : y ≤ 2147483647) (l10 : 0 ≤ x10) (u10 : x10 ≤ 399) (l11 : 1 ≤ x11) (u11 : x11 ≤ 400) (l12 : 0 ≤ x12) (u12 : x12 ≤ 255) (f0 : x12 ≠ 41) (f1 : x10 < x11) (e2 : (bx_up S 412 8 y) 412 2 = x10) (e1 : (bx_up S 412 8 y) 412 1 = x11) (e0 : (bx_up S 412 8 y) 411 x10 = x12) : (True) ∧ (True) ∧ rxIRCDK_5 S0 ws (bx_up S 412 8 y) ∧ rxmRCDK_5 S0 ws (bx_up S 412 8 y) < rxmRCDK_4 S0 ws S x y := by
  obtain ⟨hI, hx⟩ := hinv
  obtain ⟨a_, b_, c_, d_⟩ := rxcRCD_4_1 hP hin I0 hI l8 u8 l9 u9 l10 u10 l11 u11 l12 u12 f0 f1 e2 e1 e0
  exact ⟨a_, b_, ⟨c_, (by
    intro b c hC hW hb
    obtain ⟨hD, b1, b8, hc⟩ := hP
    obtain ⟨g1, g2⟩ := hx b c hC hW hb
    have q := rkD_ne (S_p := (bx_up S 412 8 y)) g1 ((bx_up_ne (by omega))) ((bx_up_ne (by omega))) (fun j => ⟨(bx_up_ne (by omega)), (bx_up_ne (by omega))⟩) (fun j => ⟨(bx_up_ne (by omega)), (bx_up_ne (by omega))⟩)
    rw [rzLv_eq (by omega), rkSt_cl (hc.imp (fun g => ⟨rzLq_ne b1, g.1, g.2⟩) fun g => ⟨rzLq_ne b1, g.1, g.2⟩)]
    exact ⟨q.1, g2.tr q.2⟩)⟩, d_⟩
theorem rxgRCDK_4_1 {X : (Nat → Int → Int) → Prop} {S0 : Nat → Int → Int} {ws : List Int} (hP : rxPRCDK S0 ws) : bx_obC rxL X S0 rxCRCDK.2.2.1 (rxIRCDK S0 ws) (rxmRCDK S0 ws) 4 rxzRCDK_4 rxoRCDK_4_1 := by
  intro S S_p r r_p hinv hX hin hsm_ hseg
  obtain ⟨I0, I1, h0_, hr_, b_, f_, d_⟩ := bx_cl (evs := [(0, (0, 411), (10, 0), .inr (0, (12, 0))), (0, (0, 412), (0, 1), .inr (0, (11, 0))), (0, (0, 412), (0, 2), .inr (0, (10, 0))), (1, (0, 412), (0, 8), .inr (0, (9, 0)))]) (fvs := [(3, (12, 0), (0, 41), (0, 0)), (0, (10, 0), (11, 0), (0, 0))]) hseg (by decide +kernel) (by decide +kernel)
  have hinv : rxIRCDK_4 S0 ws S (r 8) (r 9) := hinv
  rw [← hr_ 8 (by decide), ← hr_ 9 (by decide)] at hinv
  obtain ⟨⟨l8, u8⟩, ⟨l9, u9⟩, ⟨l10, u10⟩, ⟨l11, u11⟩, ⟨l12, u12⟩, -⟩ := b_
  obtain ⟨f0, f1, -⟩ := f_
  obtain ⟨e0, ⟨e1, ⟨e2, ⟨T3, w_, w3⟩⟩⟩⟩ := d_
  subst w3
  subst w_
  have g := rxcRCDK_4_1 hP hin I0 hinv l8 u8 l9 u9 l10 u10 l11 u11 l12 u12 f0 f1 e2 e1 e0
  refine ⟨bx_narP_ok (l := []) g.1, bx_nfP_ok h0_ (fvs := []) (by decide +kernel) g.2.1, ?_, ?_⟩
  · show rxIRCDK_5 S0 ws (bx_up T3 412 (8) (r_p 9))
    exact g.2.2.1
  · show rxmRCDK_5 S0 ws (bx_up T3 412 (8) (r_p 9)) < rxmRCDK_4 S0 ws T3 (r 8) (r 9)
    rw [← hr_ 8 (by decide), ← hr_ 9 (by decide)]
    exact g.2.2.2
theorem rxcRCDK_4_2 {S0 : Nat → Int → Int} {ws : List Int} {S : Nat → Int → Int} {x y x10 x11 x12 : Int} (hP : rxPRCDK S0 ws) (hin : bx_same rxL (bx_mdl rxCRCDK.2.2.1) S0 S) (I0 : bx_Inv rxL S) (hinv : rxIRCDK_4 S0 ws S x y) (l8 : (-2147483648) ≤ x) (u8 : x ≤ 2147483647) (l9 : (-2147483648) ≤ y) (u9 : y ≤ (-1)) (l10 : 0 ≤ x10) (u10 : x10 ≤ 399) (l11 : 1 ≤ x11) (u11 : x11 ≤ 400) (l12 : 41 ≤ x12) (u12 : x12 ≤ 41) (f0 : x10 < x11) (e2 : (bx_up S 412 8 y) 412 2 = x10) (e1 : (bx_up S 412 8 y) 412 1 = x11) (e0 : (bx_up S 412 8 y) 411 x10 = x12) : (True) ∧ (True) ∧ rxIRCDK_5 S0 ws (bx_up S 412 8 y) ∧ rxmRCDK_5 S0 ws (bx_up S 412 8 y) < rxmRCDK_4 S0 ws S x y := by
  obtain ⟨hI, hx⟩ := hinv
  obtain ⟨a_, b_, c_, d_⟩ := rxcRCD_4_2 hP hin I0 hI l8 u8 l9 u9 l10 u10 l11 u11 l12 u12 f0 e2 e1 e0
  exact ⟨a_, b_, ⟨c_, (by
    intro b c hC hW hb
    obtain ⟨hD, b1, b8, hc⟩ := hP
    obtain ⟨g1, g2⟩ := hx b c hC hW hb
    have q := rkD_ne (S_p := (bx_up S 412 8 y)) g1 ((bx_up_ne (by omega))) ((bx_up_ne (by omega))) (fun j => ⟨(bx_up_ne (by omega)), (bx_up_ne (by omega))⟩) (fun j => ⟨(bx_up_ne (by omega)), (bx_up_ne (by omega))⟩)
    rw [rzLv_eq (by omega), rkSt_cl (hc.imp (fun g => ⟨rzLq_ne b1, g.1, g.2⟩) fun g => ⟨rzLq_ne b1, g.1, g.2⟩)]
    exact ⟨q.1, g2.tr q.2⟩)⟩, d_⟩
theorem rxgRCDK_4_2 {X : (Nat → Int → Int) → Prop} {S0 : Nat → Int → Int} {ws : List Int} (hP : rxPRCDK S0 ws) : bx_obC rxL X S0 rxCRCDK.2.2.1 (rxIRCDK S0 ws) (rxmRCDK S0 ws) 4 rxzRCDK_4 rxoRCDK_4_2 := by
  intro S S_p r r_p hinv hX hin hsm_ hseg
  obtain ⟨I0, I1, h0_, hr_, b_, f_, d_⟩ := bx_cl (evs := [(0, (0, 411), (10, 0), .inr (0, (12, 0))), (0, (0, 412), (0, 1), .inr (0, (11, 0))), (0, (0, 412), (0, 2), .inr (0, (10, 0))), (1, (0, 412), (0, 8), .inr (0, (9, 0)))]) (fvs := [(0, (10, 0), (11, 0), (0, 0))]) hseg (by decide +kernel) (by decide +kernel)
  have hinv : rxIRCDK_4 S0 ws S (r 8) (r 9) := hinv
  rw [← hr_ 8 (by decide), ← hr_ 9 (by decide)] at hinv
  obtain ⟨⟨l8, u8⟩, ⟨l9, u9⟩, ⟨l10, u10⟩, ⟨l11, u11⟩, ⟨l12, u12⟩, -⟩ := b_
  obtain ⟨f0, -⟩ := f_
  obtain ⟨e0, ⟨e1, ⟨e2, ⟨T3, w_, w3⟩⟩⟩⟩ := d_
  subst w3
  subst w_
  have g := rxcRCDK_4_2 hP hin I0 hinv l8 u8 l9 u9 l10 u10 l11 u11 l12 u12 f0 e2 e1 e0
  refine ⟨bx_narP_ok (l := []) g.1, bx_nfP_ok h0_ (fvs := []) (by decide +kernel) g.2.1, ?_, ?_⟩
  · show rxIRCDK_5 S0 ws (bx_up T3 412 (8) (r_p 9))
    exact g.2.2.1
  · show rxmRCDK_5 S0 ws (bx_up T3 412 (8) (r_p 9)) < rxmRCDK_4 S0 ws T3 (r 8) (r 9)
    rw [← hr_ 8 (by decide), ← hr_ 9 (by decide)]
    exact g.2.2.2
theorem rxcRCDK_4_3 {S0 : Nat → Int → Int} {ws : List Int} {S : Nat → Int → Int} {x y x10 x11 x12 : Int} (hP : rxPRCDK S0 ws) (hin : bx_same rxL (bx_mdl rxCRCDK.2.2.1) S0 S) (I0 : bx_Inv rxL S) (hinv : rxIRCDK_4 S0 ws S x y) (l8 : (-2147483648) ≤ x) (u8 : x ≤ 2147483647) (l9 : 9 ≤ y) (u9 : y ≤ 2147483647) (l10 : 0 ≤ x10) (u10 : x10 ≤ 399) (l11 : 1 ≤ x11) (u11 : x11 ≤ 400) (l12 : 41 ≤ x12) (u12 : x12 ≤ 41) (f0 : x10 < x11) (e2 : (bx_up S 412 8 y) 412 2 = x10) (e1 : (bx_up S 412 8 y) 412 1 = x11) (e0 : (bx_up S 412 8 y) 411 x10 = x12) : (True) ∧ (True) ∧ rxIRCDK_5 S0 ws (bx_up S 412 8 y) ∧ rxmRCDK_5 S0 ws (bx_up S 412 8 y) < rxmRCDK_4 S0 ws S x y := by
  obtain ⟨hI, hx⟩ := hinv
  obtain ⟨a_, b_, c_, d_⟩ := rxcRCD_4_3 hP hin I0 hI l8 u8 l9 u9 l10 u10 l11 u11 l12 u12 f0 e2 e1 e0
  exact ⟨a_, b_, ⟨c_, (by
    intro b c hC hW hb
    obtain ⟨hD, b1, b8, hc⟩ := hP
    obtain ⟨g1, g2⟩ := hx b c hC hW hb
    have q := rkD_ne (S_p := (bx_up S 412 8 y)) g1 ((bx_up_ne (by omega))) ((bx_up_ne (by omega))) (fun j => ⟨(bx_up_ne (by omega)), (bx_up_ne (by omega))⟩) (fun j => ⟨(bx_up_ne (by omega)), (bx_up_ne (by omega))⟩)
    rw [rzLv_eq (by omega), rkSt_cl (hc.imp (fun g => ⟨rzLq_ne b1, g.1, g.2⟩) fun g => ⟨rzLq_ne b1, g.1, g.2⟩)]
    exact ⟨q.1, g2.tr q.2⟩)⟩, d_⟩
theorem rxgRCDK_4_3 {X : (Nat → Int → Int) → Prop} {S0 : Nat → Int → Int} {ws : List Int} (hP : rxPRCDK S0 ws) : bx_obC rxL X S0 rxCRCDK.2.2.1 (rxIRCDK S0 ws) (rxmRCDK S0 ws) 4 rxzRCDK_4 rxoRCDK_4_3 := by
  intro S S_p r r_p hinv hX hin hsm_ hseg
  obtain ⟨I0, I1, h0_, hr_, b_, f_, d_⟩ := bx_cl (evs := [(0, (0, 411), (10, 0), .inr (0, (12, 0))), (0, (0, 412), (0, 1), .inr (0, (11, 0))), (0, (0, 412), (0, 2), .inr (0, (10, 0))), (1, (0, 412), (0, 8), .inr (0, (9, 0)))]) (fvs := [(0, (10, 0), (11, 0), (0, 0))]) hseg (by decide +kernel) (by decide +kernel)
  have hinv : rxIRCDK_4 S0 ws S (r 8) (r 9) := hinv
  rw [← hr_ 8 (by decide), ← hr_ 9 (by decide)] at hinv
  obtain ⟨⟨l8, u8⟩, ⟨l9, u9⟩, ⟨l10, u10⟩, ⟨l11, u11⟩, ⟨l12, u12⟩, -⟩ := b_
  obtain ⟨f0, -⟩ := f_
  obtain ⟨e0, ⟨e1, ⟨e2, ⟨T3, w_, w3⟩⟩⟩⟩ := d_
  subst w3
  subst w_
  have g := rxcRCDK_4_3 hP hin I0 hinv l8 u8 l9 u9 l10 u10 l11 u11 l12 u12 f0 e2 e1 e0
  refine ⟨bx_narP_ok (l := []) g.1, bx_nfP_ok h0_ (fvs := []) (by decide +kernel) g.2.1, ?_, ?_⟩
  · show rxIRCDK_5 S0 ws (bx_up T3 412 (8) (r_p 9))
    exact g.2.2.1
  · show rxmRCDK_5 S0 ws (bx_up T3 412 (8) (r_p 9)) < rxmRCDK_4 S0 ws T3 (r 8) (r 9)
    rw [← hr_ 8 (by decide), ← hr_ 9 (by decide)]
    exact g.2.2.2
theorem rxcRCDK_4_4 {S0 : Nat → Int → Int} {ws : List Int} {S : Nat → Int → Int} {x y x10 x11 x12 : Int} (hP : rxPRCDK S0 ws) (hin : bx_same rxL (bx_mdl rxCRCDK.2.2.1) S0 S) (I0 : bx_Inv rxL S) (hinv : rxIRCDK_4 S0 ws S x y) (l8 : (-2147483648) ≤ x) (u8 : x ≤ 2147483647) (l9 : 0 ≤ y) (u9 : y ≤ 8) (l10 : 0 ≤ x10) (u10 : x10 ≤ 399) (l11 : 1 ≤ x11) (u11 : x11 ≤ 400) (l12 : 41 ≤ x12) (u12 : x12 ≤ 41) (f0 : x10 < x11) (e3 : (bx_up S 412 8 y) 412 2 = x10) (e2 : (bx_up S 412 8 y) 412 1 = x11) (e1 : (bx_up S 412 8 y) 411 x10 = x12) : (True) ∧ (True) ∧ rxIRCDK_5 S0 ws (bx_up (bx_up S 412 8 y) 424 y 4) ∧ rxmRCDK_5 S0 ws (bx_up (bx_up S 412 8 y) 424 y 4) < rxmRCDK_4 S0 ws S x y := by
  obtain ⟨hI, hx⟩ := hinv
  obtain ⟨a_, b_, c_, d_⟩ := rxcRCD_4_4 hP hin I0 hI l8 u8 l9 u9 l10 u10 l11 u11 l12 u12 f0 e3 e2 e1
  exact ⟨a_, b_, ⟨c_, (by
    intro b c hC hW hb
    obtain ⟨hD, b1, b8, hc⟩ := hP
    obtain ⟨g1, g2⟩ := hx b c hC hW hb
    have q := rkD_ne (S_p := (bx_up (bx_up S 412 8 y) 424 y 4)) g1 ((bx_up_ne (by omega)).trans ((bx_up_ne (by omega)))) ((bx_up_ne (by omega)).trans ((bx_up_ne (by omega)))) (fun j => ⟨(bx_up_ne (by omega)).trans ((bx_up_ne (by omega))), (bx_up_ne (by omega)).trans ((bx_up_ne (by omega)))⟩) (fun j => ⟨(bx_up_ne (by omega)).trans ((bx_up_ne (by omega))), (bx_up_ne (by omega)).trans ((bx_up_ne (by omega)))⟩)
    rw [rzLv_eq (by omega), rkSt_cl (hc.imp (fun g => ⟨rzLq_ne b1, g.1, g.2⟩) fun g => ⟨rzLq_ne b1, g.1, g.2⟩)]
    exact ⟨q.1, g2.tr q.2⟩)⟩, d_⟩
theorem rxgRCDK_4_4 {X : (Nat → Int → Int) → Prop} {S0 : Nat → Int → Int} {ws : List Int} (hP : rxPRCDK S0 ws) : bx_obC rxL X S0 rxCRCDK.2.2.1 (rxIRCDK S0 ws) (rxmRCDK S0 ws) 4 rxzRCDK_4 rxoRCDK_4_4 := by
  intro S S_p r r_p hinv hX hin hsm_ hseg
  obtain ⟨I0, I1, h0_, hr_, b_, f_, d_⟩ := bx_cl (evs := [(1, (0, 424), (9, 0), .inr (0, (0, 4))), (0, (0, 411), (10, 0), .inr (0, (12, 0))), (0, (0, 412), (0, 1), .inr (0, (11, 0))), (0, (0, 412), (0, 2), .inr (0, (10, 0))), (1, (0, 412), (0, 8), .inr (0, (9, 0)))]) (fvs := [(0, (10, 0), (11, 0), (0, 0))]) hseg (by decide +kernel) (by decide +kernel)
  have hinv : rxIRCDK_4 S0 ws S (r 8) (r 9) := hinv
  rw [← hr_ 8 (by decide), ← hr_ 9 (by decide)] at hinv
  obtain ⟨⟨l8, u8⟩, ⟨l9, u9⟩, ⟨l10, u10⟩, ⟨l11, u11⟩, ⟨l12, u12⟩, -⟩ := b_
  obtain ⟨f0, -⟩ := f_
  obtain ⟨T0, ⟨e1, ⟨e2, ⟨e3, ⟨T4, w_, w4⟩⟩⟩⟩, w0⟩ := d_
  subst w0
  subst w4
  subst w_
  have g := rxcRCDK_4_4 hP hin I0 hinv l8 u8 l9 u9 l10 u10 l11 u11 l12 u12 f0 e3 e2 e1
  refine ⟨bx_narP_ok (l := []) g.1, bx_nfP_ok h0_ (fvs := []) (by decide +kernel) g.2.1, ?_, ?_⟩
  · show rxIRCDK_5 S0 ws (bx_up (bx_up T4 412 (8) (r_p 9)) 424 (r_p 9) (4))
    exact g.2.2.1
  · show rxmRCDK_5 S0 ws (bx_up (bx_up T4 412 (8) (r_p 9)) 424 (r_p 9) (4)) < rxmRCDK_4 S0 ws T4 (r 8) (r 9)
    rw [← hr_ 8 (by decide), ← hr_ 9 (by decide)]
    exact g.2.2.2
theorem rxdRCDK_6_0 {S0 : Nat → Int → Int} {ws : List Int} {S : Nat → Int → Int} (hP : rxPRCDK S0 ws) (hin : bx_same rxL (bx_mdl rxCRCDK.2.2.1) S0 S) (hin2 : bx_same rxL (bx_mdl rxCRCDK.2.2.1) S S) (I0 : bx_Inv rxL S) (I1 : bx_Inv rxL S) (hinv : rxIRCDK_6 S0 ws S)  : (True) ∧ rxPSRCDK S0 ws S none := by
  obtain ⟨hI, hx⟩ := hinv
  obtain ⟨a_, c_⟩ := rxdRCD_6_0 hP hin hin2 I0 I1 hI
  exact ⟨a_, rfl, c_, hx⟩
theorem rxfRCDK_6_0 {X : (Nat → Int → Int) → Prop} {S0 : Nat → Int → Int} {ws : List Int} (hP : rxPRCDK S0 ws) : bx_obE rxL X S0 rxCRCDK.2.2.1 (rxIRCDK S0 ws) (rxPSRCDK S0 ws) 6 rxzRCDK_6 rxeRCDK_6_0 := by
  intro S S_p r r_p hinv hX hin hsm_ hseg
  obtain ⟨I0, I1, h0_, hr_, b_, f_, d_⟩ := bx_cl (evs := []) (fvs := []) hseg (by decide +kernel) (by decide +kernel)
  have hinv : rxIRCDK_6 S0 ws S := hinv
  have w_ := d_
  subst w_
  have g := rxdRCDK_6_0 hP hin hsm_ I0 I1 hinv 
  refine ⟨bx_narP_ok (l := []) g.1, ?_⟩
  exact g.2
theorem rxgCRCDK {X : (Nat → Int → Int) → Prop} {S0 : Nat → Int → Int} {ws : List Int} (hP : rxPRCDK S0 ws) : bx_allI (fun i q => rxURCDK q = true ∨ bx_allP (fun o => bx_obC rxL X S0 rxCRCDK.2.2.1 (rxIRCDK S0 ws) (rxmRCDK S0 ws) i q.1 o) q.2.1) 0 rxYRCDK := ⟨Or.inr ⟨rxgRCDK_0_0 hP, trivial⟩, Or.inl rfl, Or.inr ⟨rxgRCDK_2_0 hP, rxgRCDK_2_1 hP, trivial⟩, Or.inl rfl, Or.inr ⟨rxgRCDK_4_0 hP, rxgRCDK_4_1 hP, rxgRCDK_4_2 hP, rxgRCDK_4_3 hP, rxgRCDK_4_4 hP, trivial⟩, Or.inl rfl, Or.inr trivial, trivial⟩
theorem rxgERCDK {X : (Nat → Int → Int) → Prop} {S0 : Nat → Int → Int} {ws : List Int} (hP : rxPRCDK S0 ws) : bx_allI (fun i q => rxURCDK q = true ∨ bx_allP (fun E => bx_obE rxL X S0 rxCRCDK.2.2.1 (rxIRCDK S0 ws) (rxPSRCDK S0 ws) i q.1 E) q.2.2) 0 rxYRCDK := ⟨Or.inr trivial, Or.inl rfl, Or.inr trivial, Or.inl rfl, Or.inr trivial, Or.inl rfl, Or.inr ⟨rxfRCDK_6_0 hP, trivial⟩, trivial⟩
theorem rxuRCDK {PX : State → Prop} {Dg : va_G} {A : Nat → Prop} {ad xa : Nat → Nat} {l : Launch} {X : (Nat → Int → Int) → Prop} (hPX : rx_PXOK rxNW A PX) (hX : ∀ S S1 : Nat → Int → Int, X S → bx_same rxL (bx_mdl rxCRCDK.2.2.1) S S1 → X S1) (hQRDDK : bx_ConP rxG rxNW rxAO PX Dg rxL X vwCl A ad l rxM80 rxCRDDK rxPRDDK rxPSRDDK) (hQAD : bx_ConP rxG rxNW rxAO PX Dg rxL X vwCl A ad l rxM84 rxC84 rxPAD rxPSAD) {S0 : Nat → Int → Int} {ws : List Int} (hP : rxPRCDK S0 ws) : ∀ (i : Nat) (q : bx_HE), rxYRCDK[i]? = some q → rxURCDK q = true → ∀ {p : Program} {e : Env} {R : Room} {s : State} {m : MethodId} {args : Array Value} {below : List Frame} {meth : Method} {c : Code} {Q : State → Prop} {H0 : Heap}, rx_Fr rxG rxNW rxAO PX p s m args meth c rxM68 → (∀ q, H0.size ≤ q → A q) → H0 = s.heap → rxM68.2.2.2.2.2.2.1 ≤ R.cells → rxM68.2.2.2.2.2.2.2 ≤ R.slots → rxCRCDK.2.2.2.1 ≤ R.frames → rxCRCDK.2.2.2.1 * 40 ≤ R.locals → bx_Step p l e R s m args below meth c Q Dg rxL X vwCl A xa H0 ad rxM68 rxYRCDK (rxIRCDK S0 ws) (rxmRCDK S0 ws) S0 rxCRCDK.2.2.1 i q := by
  intro i q hq hus p e R s m args below meth c Q H0 hF hA hH0 hmc hms hd hdl
  match i, hq with
  | 0, hq =>
    cases hq
    exact absurd (show false = true from hus) Bool.false_ne_true
  | 1, hq =>
    cases hq
    exact rx_stepC (ins := .invokevirtual 192) (len := 3) (i_p := 2) (M_p := rxM80) (d := rxCRCDK.2.2.2.1) (as := [.inr (3, (0, 412)), .inr (0, (0, 1))]) (t := []) (ct := rxCRDDK) hPX hF rfl hA hH0 hmc hms hd hdl (by decide +kernel) rfl rfl (by decide +kernel) (by decide +kernel) hQRDDK (by decide +kernel) rfl (Or.inl ⟨rfl, rfl, rfl⟩) (rxsRCDK_1 hP)
  | 2, hq =>
    cases hq
    exact absurd (show false = true from hus) Bool.false_ne_true
  | 3, hq =>
    cases hq
    exact rx_stepBB (i_p := 4) (o := 34) (a := (8, 0)) (b := (0, 1)) (lo := (-2147483648)) (hi := 2147483647) (t := [.inr (3, (0, 412))]) hF (Or.inr (Or.inr (Or.inr (Or.inr ⟨rfl, rfl⟩)))) (by decide +kernel) rfl rfl rfl rfl (rxsRCDK_3 hP)
  | 4, hq =>
    cases hq
    exact absurd (show false = true from hus) Bool.false_ne_true
  | 5, hq =>
    cases hq
    exact rx_stepC (ins := .invokevirtual 66) (len := 3) (i_p := 6) (M_p := rxM84) (d := rxCRCDK.2.2.2.1) (as := [.inr (3, (0, 412))]) (t := []) (ct := rxC84) hPX hF rfl hA hH0 hmc hms hd hdl (by decide +kernel) rfl rfl (by decide +kernel) (by decide +kernel) hQAD (by decide +kernel) rfl (Or.inl ⟨rfl, rfl, rfl⟩) (rxsRCDK_5 hP)
  | 6, hq =>
    cases hq
    exact absurd (show false = true from hus) Bool.false_ne_true
  | n + 7, hq => cases hq
theorem rxQRCDK {PX : State → Prop} {Dg : va_G} {A : Nat → Prop} {ad xa : Nat → Nat} {l : Launch} {X : (Nat → Int → Int) → Prop} (hPX : rx_PXOK rxNW A PX) (hsl : ∀ s : State, PX s → ∀ o idx n : Nat, rxSl o idx = some n → ∃ tx : String, vk_R (rxNm o) idx tx (ad n) s)
    (hX : ∀ S S_p : Nat → Int → Int, X S → bx_same rxL (bx_mdl rxCRCDK.2.2.1) S S_p → X S_p)
    (ih : ∀ (j2 : Nat) (ct2 : bx_Ct) (M2 : rx_Mt), ct2 ∈ rxCnE j2 → ct2.2.2.2.1 + 1 ≤ rxCRCDK.2.2.2.1 → rxT.2.2.2.2.2 j2 = some M2 → bx_Con rxG rxNW rxAO PX Dg rxL X vwCl A ad l M2 ct2) (hQRDDK : bx_ConP rxG rxNW rxAO PX Dg rxL X vwCl A ad l rxM80 rxCRDDK rxPRDDK rxPSRDDK) (hQAD : bx_ConP rxG rxNW rxAO PX Dg rxL X vwCl A ad l rxM84 rxC84 rxPAD rxPSAD) : bx_ConP rxG rxNW rxAO PX Dg rxL X vwCl A ad l rxM68 rxCRCDK rxPRCDK rxPSRCDK :=
  rxQof (xa := xa) (Cn := rxCnE) (f := 30000) (j := 68) (tab := rxYRCDK) (us := rxURCDK) hPX hsl hX ih rfl rxYcRCDK rxIRCDK rxmRCDK
    (fun S0 ws r I0 I ht0 ht as he he1 hX0 hI0 hP hs ha => by
      have e := he.symm.trans (show bx_ent0 rxNP rxCRCDK.1 bx_I0 [] = some ([(0, 0), (0, 0), (0, 0), (0, 0), (0, 0), (0, 0), (0, 0), (0, 0)], [], [.inr (3, (0, 412))]) from rfl)
      cases e
      subst ha
      have h0 : r 0 = 0 := hs.1
      show rxIRCDK_0 S0 _ S0
      refine ⟨⟨rfl, ?_⟩, trivial⟩
      simp only [List.map_cons, List.map_nil, bx_xv_ok h0]
      rfl)
    (fun S0 ws hP => rxuRCDK (xa := xa) hPX hX hQRDDK hQAD hP) (fun S0 ws hP => rxgCRCDK hP) (fun S0 ws hP => rxgERCDK hP)
/-! CONTRACT BY HAND, by program (wip/sim/genhand.py): DeadUnderstudies$Reader.closeExpression -/
def rxCCEDK : bx_Ct := ([(3, (1, 412, 0))], some (0, (0, 0, 1)), [(6, 0), (7, 4), (7, 10), (1021, 0), (1022, 0)], 2, [(412, 0, 3, (1, 411, 0)), (412, 6, 3, (1, 427, 0))])
def rxICEDK_0 (S0 : Nat → Int → Int) (ws : List Int) (S : Nat → Int → Int) : Prop := rxICED_0 S0 ws S ∧ True
def rxmCEDK_0 (S0 : Nat → Int → Int) (ws : List Int) (S : Nat → Int → Int) : Nat := rxmCED_0 S0 ws S
def rxzCEDK_0 : rx_Z := ([(0, 0), (0, 0), (0, 0), (0, 0), (0, 0), (0, 0), (0, 0), (0, 0)], [], [(((0, 412), 6), .inr (3, (0, 427))), (((0, 412), 0), .inr (3, (0, 411)))], 0, 0, 0, [(0, .inr (3, (0, 412)))], [])
def rxICEDK_1 (S0 : Nat → Int → Int) (ws : List Int) (S : Nat → Int → Int) : Prop := rxICED_1 S0 ws S ∧ True
def rxmCEDK_1 (S0 : Nat → Int → Int) (ws : List Int) (S : Nat → Int → Int) : Nat := rxmCED_1 S0 ws S
def rxzCEDK_1 : rx_Z := ([(0, 0), (0, 0), (0, 0), (0, 0), (0, 0), (0, 0), (0, 0), (0, 0)], [], [(((0, 412), 0), .inr (3, (0, 411))), (((0, 412), 6), .inr (3, (0, 427)))], 0, 0, 28, [(0, .inr (3, (0, 412)))], [.inr (0, (0, 1)), .inr (3, (0, 412))])
def rxICEDK_2 (S0 : Nat → Int → Int) (ws : List Int) (S : Nat → Int → Int) : Prop := rxICED_2 S0 ws S ∧ (∀ (b : Int) (c : rkC), rkD S0 b c → rkW c → b + (c.1 : Int) + rkM c ≤ 399 → rkD S b (rkRed 1 c) ∧ rkFr S0 S b)
def rxmCEDK_2 (S0 : Nat → Int → Int) (ws : List Int) (S : Nat → Int → Int) : Nat := rxmCED_2 S0 ws S
def rxzCEDK_2 : rx_Z := ([(0, 0), (0, 0), (0, 0), (0, 0), (0, 0), (0, 0), (0, 0), (0, 0)], [], [(((0, 412), 0), .inr (3, (0, 411))), (((0, 412), 6), .inr (3, (0, 427)))], 0, 0, 31, [(0, .inr (3, (0, 412)))], [])
def rxoCEDK_0_0 : bx_HO := (([(0, 0), (0, 0), (0, 0), (0, 0), (0, 0), (0, 0), (0, 0), (0, 0), ((-2147483648), (-1))], [], [(((0, 0), 1851192626986356799029993984671224184301589730656725206226960384000000), .inr (0, (8, 0))), (((0, 412), 8), .inr (0, (8, 0))), (((0, 412), 6), .inr (3, (0, 427))), (((0, 412), 0), .inr (3, (0, 411)))], 0, 0, 28, [(0, .inr (3, (0, 412)))], [.inr (0, (0, 1)), .inr (3, (0, 412))]), [], [], [(0, 0), (0, 0), (0, 0), (0, 0), (0, 0), (0, 0), (0, 0), (0, 0)], 1)
def rxoCEDK_0_1 : bx_HO := (([(0, 0), (0, 0), (0, 0), (0, 0), (0, 0), (0, 0), (0, 0), (0, 0), (0, 0), (3, 3)], [(3, (9, 0), (0, 0))], [(((0, 0), 1851192626986356797424364830707437625680387377997778265114673152000000), .inr (0, (9, 0))), (((0, 424), 0), .inr (0, (9, 0))), (((0, 412), 9), .inr (3, (0, 424))), (((0, 0), 1851192626986356799029993984671224184301589730656725206226960384000000), .inr (0, (8, 0))), (((0, 412), 8), .inr (0, (8, 0))), (((0, 412), 6), .inr (3, (0, 427))), (((0, 412), 0), .inr (3, (0, 411)))], 0, 0, 28, [(0, .inr (3, (0, 412)))], [.inr (0, (0, 1)), .inr (3, (0, 412))]), [], [], [(0, 0), (0, 0), (0, 0), (0, 0), (0, 0), (0, 0), (0, 0), (0, 0)], 1)
def rxoCEDK_0_2 : bx_HO := (([(0, 0), (0, 0), (0, 0), (0, 0), (0, 0), (0, 0), (0, 0), (0, 0), (0, 0), (4, 4)], [(3, (9, 0), (0, 3)), (3, (9, 0), (0, 0))], [(((0, 0), 1851192626986356797424364830707437625680387377997778265114673152000000), .inr (0, (9, 0))), (((0, 424), 0), .inr (0, (9, 0))), (((0, 412), 9), .inr (3, (0, 424))), (((0, 0), 1851192626986356799029993984671224184301589730656725206226960384000000), .inr (0, (8, 0))), (((0, 412), 8), .inr (0, (8, 0))), (((0, 412), 6), .inr (3, (0, 427))), (((0, 412), 0), .inr (3, (0, 411)))], 0, 0, 28, [(0, .inr (3, (0, 412)))], [.inr (0, (0, 1)), .inr (3, (0, 412))]), [], [], [(0, 0), (0, 0), (0, 0), (0, 0), (0, 0), (0, 0), (0, 0), (0, 0)], 1)
def rxoCEDK_0_3 : bx_HO := (([(0, 0), (0, 0), (0, 0), (0, 0), (0, 0), (0, 0), (0, 0), (0, 0), (0, 0), (0, 0)], [], [(((0, 0), 1851192626986356797424364830707437625680387377997778265114673152000000), .inr (0, (9, 0))), (((0, 424), 0), .inr (0, (9, 0))), (((0, 412), 9), .inr (3, (0, 424))), (((0, 0), 1851192626986356799029993984671224184301589730656725206226960384000000), .inr (0, (8, 0))), (((0, 412), 8), .inr (0, (8, 0))), (((0, 412), 6), .inr (3, (0, 427))), (((0, 412), 0), .inr (3, (0, 411)))], 0, 0, 28, [(0, .inr (3, (0, 412)))], [.inr (0, (0, 1)), .inr (3, (0, 412))]), [], [], [(0, 0), (0, 0), (0, 0), (0, 0), (0, 0), (0, 0), (0, 0), (0, 0)], 1)
def rxeCEDK_0_0 : rx_End × List (Nat × Int × Int) := (([(0, 0), (0, 0), (0, 0), (0, 0), (0, 0), (0, 0), (0, 0), (0, 0), (0, 0), (1, 2), (0, 400)], [(3, (9, 0), (0, 4)), (3, (9, 0), (0, 3)), (3, (9, 0), (0, 0))], [(((0, 0), 1851192626986356798227167157524121751206303872841384192011665411000000), .inr (0, (10, 0))), (((0, 412), 4), .inr (0, (10, 0))), (((0, 0), 1851192626986356797825753743950570534658660943933713684904017920000000), .inr (0, (10, 0))), (((0, 412), 2), .inr (0, (10, 0))), (((0, 0), 1851192626986356797424364830707437625680387377997778265114673152000000), .inr (0, (9, 0))), (((0, 424), 0), .inr (0, (9, 0))), (((0, 412), 9), .inr (3, (0, 424))), (((0, 0), 1851192626986356799029993984671224184301589730656725206226960384000000), .inr (0, (8, 0))), (((0, 412), 8), .inr (0, (8, 0))), (((0, 412), 6), .inr (3, (0, 427))), (((0, 412), 0), .inr (3, (0, 411)))], some (.inr (0, (0, 0)))), [])
def rxeCEDK_0_1 : rx_End × List (Nat × Int × Int) := (([(0, 0), (0, 0), (0, 0), (0, 0), (0, 0), (0, 0), (0, 0), (0, 0), (1, 2147483647), (0, 400)], [], [(((0, 0), 1851192626986356798227167157524121751206303872841384192011665411000000), .inr (0, (9, 0))), (((0, 412), 4), .inr (0, (9, 0))), (((0, 0), 1851192626986356797825753743950570534658660943933713684904017920000000), .inr (0, (9, 0))), (((0, 412), 2), .inr (0, (9, 0))), (((0, 0), 1851192626986356799029993984671224184301589730656725206226960384000000), .inr (0, (8, 0))), (((0, 412), 8), .inr (0, (8, 0))), (((0, 412), 6), .inr (3, (0, 427))), (((0, 412), 0), .inr (3, (0, 411)))], some (.inr (0, (0, 0)))), [])
def rxeCEDK_2_0 : rx_End × List (Nat × Int × Int) := (([(0, 0), (0, 0), (0, 0), (0, 0), (0, 0), (0, 0), (0, 0), (0, 0), (0, 399)], [], [(((0, 0), 1851192626986356797424340330377019318111018015026043177805217795000000), .inr (0, (8, 1))), (((0, 427), 0), .inr (0, (8, 1))), (((0, 0), 1851192626986356797424364830707437625680387377997778265117622275000000), .inr (0, (0, 0))), (((0, 427), 2), .inr (3, (0, 429))), (((0, 0), 1851192626986356797424364830707437625680387377997778265117032451000000), .inr (0, (0, 0))), (((0, 427), 1), .inr (3, (0, 428))), (((0, 0), 1851192626986356797424340330377019318111018015026043177805217792000000), .inr (0, (8, 0))), (((0, 412), 0), .inr (3, (0, 411))), (((0, 412), 6), .inr (3, (0, 427)))], some (.inr (0, (0, 1)))), [])
def rxeCEDK_2_1 : rx_End × List (Nat × Int × Int) := (([(0, 0), (0, 0), (0, 0), (0, 0), (0, 0), (0, 0), (0, 0), (0, 0), (400, 400)], [], [(((0, 0), 1851192626986356797424340330377019318111018015026043177805217792000000), .inr (0, (8, 0))), (((0, 427), 0), .inr (0, (8, 0))), (((0, 412), 0), .inr (3, (0, 411))), (((0, 412), 6), .inr (3, (0, 427)))], some (.inr (0, (0, 1)))), [])
def rxYCEDK : List bx_HE := [(rxzCEDK_0, [rxoCEDK_0_0, rxoCEDK_0_1, rxoCEDK_0_2, rxoCEDK_0_3], [rxeCEDK_0_0, rxeCEDK_0_1]), (rxzCEDK_1, [], []), (rxzCEDK_2, [], [rxeCEDK_2_0, rxeCEDK_2_1])]
def rxUCEDK (q : bx_HE) : Bool := Nat.beq (rx_zpc q.1) 28
def rxYBCEDK : bx_B := (rxV, rxNP, rxDmf, bx_mdH rxCCEDK.2.2.1)
set_option maxRecDepth 100000 in
theorem rxYcCEDK : bx_chkH rxYBCEDK rxM70 rxCCEDK rxYCEDK (rxUCEDK, fun cut z => rx_ex2 (rxCT rxYBCEDK rxCnE) cut 30000 rxCCEDK.2.2.2.1 70 z) = true := by decide +kernel
def rxICEDK (S0 : Nat → Int → Int) (ws : List Int) (i : Nat) : bx_SP := fun S r => match i with | 0 => rxICEDK_0 S0 ws S | 1 => rxICEDK_1 S0 ws S | 2 => rxICEDK_2 S0 ws S | _ => False
def rxmCEDK (S0 : Nat → Int → Int) (ws : List Int) (i : Nat) (S : Nat → Int → Int) (r : Nat → Int) : Nat := match i with | 0 => rxmCEDK_0 S0 ws S | 1 => rxmCEDK_1 S0 ws S | 2 => rxmCEDK_2 S0 ws S | _ => 0
def rxPCEDK (S0 : Nat → Int → Int) (ws : List Int) : Prop := rxPCED S0 ws
def rxPSCEDK (S0 : Nat → Int → Int) (ws : List Int) (S : Nat → Int → Int) (w : Option Int) : Prop := rxPSCED S0 ws S w ∧ (w = some 1 → ∀ (b : Int) (c : rkC), rkD S0 b c → rkW c → b + (c.1 : Int) + rkM c ≤ 399 → rkDo S b (rkRed 1 c) ∧ rkFr S0 S b)
theorem rxkCEDK_1 {S0 : Nat → Int → Int} {ws : List Int} {S : Nat → Int → Int} (hP : rxPCEDK S0 ws) (hin : bx_same rxL (bx_mdl rxCCEDK.2.2.1) S0 S) (I0 : bx_Inv rxL S) (hinv : rxICEDK_1 S0 ws S)  : rxPRDDK S [412, 1] ∧ ∀ (S_p : Nat → Int → Int), rxPSRDDK S [412, 1] S_p none → bx_Inv rxL S_p → bx_same rxL (bx_mdl rxCRDDK.2.2.1) S S_p → rxICEDK_2 S0 ws S_p ∧ rxmCEDK_2 S0 ws S_p < rxmCEDK_1 S0 ws S := by
  obtain ⟨hI, hx⟩ := hinv
  have g_ := rxkCED_1 hP hin I0 hI
  exact ⟨g_.1, fun S_p hq I1 hsm => ⟨⟨(g_.2 S_p hq.2.1 I1 hsm).1, (by
    obtain ⟨e, -⟩ := hI
    subst e
    obtain ⟨-, -, least, hw, h⟩ := hq
    have hl : (1 : Int) = least := Option.some.inj (congrArg (fun l : List Int => l[1]?) hw)
    subst hl
    exact fun b c hC hW hb => h (by omega) b c hC hW (by omega))⟩, (g_.2 S_p hq.2.1 I1 hsm).2⟩⟩
theorem rxsCEDK_1 {X : (Nat → Int → Int) → Prop} {S0 : Nat → Int → Int} {ws : List Int} (hP : rxPCEDK S0 ws) : rx_obK X S0 rxCCEDK.2.2.1 rxCRDDK.2.2.1 (rxICEDK S0 ws) (rxmCEDK S0 ws) 1 2 rxzCEDK_1 rxzCEDK_2 [.inr (3, (0, 412)), .inr (0, (0, 1))] none rxPRDDK rxPSRDDK := by
  intro S r hinv hXS I0 hin hs_ hf_
  have b_ := bx_bds_sat hs_
  have f_ := bx_fcl_ok hs_.1 hf_
  have g := rxkCEDK_1 hP hin I0 hinv 
  have ea : List.map (bx_num r) [.inr (3, (0, 412)), .inr (0, (0, 1))] = [412, 1] := by
    simp only [List.map_cons, List.map_nil, bx_xv_ok hs_.1]
    rfl
  rw [ea]
  refine ⟨g.1, fun S_p w r_p hPS hX_p I1 hsm hr hw hs_p => ?_⟩
  have hw : w = none := hPS.1
  subst hw
  have g2 := g.2 S_p hPS I1 hsm
  show rxICEDK_2 S0 ws S_p ∧ rxmCEDK_2 S0 ws S_p < _
  exact g2
theorem rxcCEDK_0_0 {S0 : Nat → Int → Int} {ws : List Int} {S : Nat → Int → Int} {x8 : Int} (hP : rxPCEDK S0 ws) (hin : bx_same rxL (bx_mdl rxCCEDK.2.2.1) S0 S) (I0 : bx_Inv rxL S) (hinv : rxICEDK_0 S0 ws S) (l8 : (-2147483648) ≤ x8) (u8 : x8 ≤ (-1)) (e0 : S 412 8 = x8) : (True) ∧ (True) ∧ rxICEDK_1 S0 ws S ∧ rxmCEDK_1 S0 ws S < rxmCEDK_0 S0 ws S := by
  obtain ⟨hI, hx⟩ := hinv
  obtain ⟨a_, b_, c_, d_⟩ := rxcCED_0_0 hP hin I0 hI l8 u8 e0
  exact ⟨a_, b_, ⟨c_, trivial⟩, d_⟩
theorem rxgCEDK_0_0 {X : (Nat → Int → Int) → Prop} {S0 : Nat → Int → Int} {ws : List Int} (hP : rxPCEDK S0 ws) : bx_obC rxL X S0 rxCCEDK.2.2.1 (rxICEDK S0 ws) (rxmCEDK S0 ws) 0 rxzCEDK_0 rxoCEDK_0_0 := by
  intro S S_p r r_p hinv hX hin hsm_ hseg
  obtain ⟨I0, I1, h0_, hr_, b_, f_, d_⟩ := bx_cl (evs := [(0, (0, 412), (0, 8), .inr (0, (8, 0)))]) (fvs := []) hseg (by decide +kernel) (by decide +kernel)
  have hinv : rxICEDK_0 S0 ws S := hinv
  obtain ⟨⟨l8, u8⟩, -⟩ := b_
  obtain ⟨e0, w_⟩ := d_
  subst w_
  have g := rxcCEDK_0_0 hP hin I0 hinv l8 u8 e0
  refine ⟨bx_narP_ok (l := []) g.1, bx_nfP_ok h0_ (fvs := []) (by decide +kernel) g.2.1, ?_, ?_⟩
  · show rxICEDK_1 S0 ws S_p
    exact g.2.2.1
  · show rxmCEDK_1 S0 ws S_p < rxmCEDK_0 S0 ws S_p
    exact g.2.2.2
theorem rxcCEDK_0_1 {S0 : Nat → Int → Int} {ws : List Int} {S : Nat → Int → Int} {x8 x9 : Int} (hP : rxPCEDK S0 ws) (hin : bx_same rxL (bx_mdl rxCCEDK.2.2.1) S0 S) (I0 : bx_Inv rxL S) (hinv : rxICEDK_0 S0 ws S) (l8 : 0 ≤ x8) (u8 : x8 ≤ 0) (l9 : 3 ≤ x9) (u9 : x9 ≤ 3) (f0 : x9 ≠ 0) (e1 : S 412 8 = x8) (e0 : S 424 x8 = x9) : (True) ∧ (True) ∧ rxICEDK_1 S0 ws S ∧ rxmCEDK_1 S0 ws S < rxmCEDK_0 S0 ws S := by
  obtain ⟨hI, hx⟩ := hinv
  obtain ⟨a_, b_, c_, d_⟩ := rxcCED_0_1 hP hin I0 hI l8 u8 l9 u9 f0 e1 e0
  exact ⟨a_, b_, ⟨c_, trivial⟩, d_⟩
theorem rxgCEDK_0_1 {X : (Nat → Int → Int) → Prop} {S0 : Nat → Int → Int} {ws : List Int} (hP : rxPCEDK S0 ws) : bx_obC rxL X S0 rxCCEDK.2.2.1 (rxICEDK S0 ws) (rxmCEDK S0 ws) 0 rxzCEDK_0 rxoCEDK_0_1 := by
  intro S S_p r r_p hinv hX hin hsm_ hseg
  obtain ⟨I0, I1, h0_, hr_, b_, f_, d_⟩ := bx_cl (evs := [(0, (0, 424), (8, 0), .inr (0, (9, 0))), (0, (0, 412), (0, 8), .inr (0, (8, 0)))]) (fvs := [(3, (9, 0), (0, 0), (0, 0))]) hseg (by decide +kernel) (by decide +kernel)
  have hinv : rxICEDK_0 S0 ws S := hinv
  obtain ⟨⟨l8, u8⟩, ⟨l9, u9⟩, -⟩ := b_
  obtain ⟨f0, -⟩ := f_
  obtain ⟨e0, ⟨e1, w_⟩⟩ := d_
  subst w_
  have g := rxcCEDK_0_1 hP hin I0 hinv l8 u8 l9 u9 f0 e1 e0
  refine ⟨bx_narP_ok (l := []) g.1, bx_nfP_ok h0_ (fvs := []) (by decide +kernel) g.2.1, ?_, ?_⟩
  · show rxICEDK_1 S0 ws S_p
    exact g.2.2.1
  · show rxmCEDK_1 S0 ws S_p < rxmCEDK_0 S0 ws S_p
    exact g.2.2.2
theorem rxcCEDK_0_2 {S0 : Nat → Int → Int} {ws : List Int} {S : Nat → Int → Int} {x8 x9 : Int} (hP : rxPCEDK S0 ws) (hin : bx_same rxL (bx_mdl rxCCEDK.2.2.1) S0 S) (I0 : bx_Inv rxL S) (hinv : rxICEDK_0 S0 ws S) (l8 : 0 ≤ x8) (u8 : x8 ≤ 0) (l9 : 4 ≤ x9) (u9 : x9 ≤ 4) (f0 : x9 ≠ 3) (f1 : x9 ≠ 0) (e1 : S 412 8 = x8) (e0 : S 424 x8 = x9) : (True) ∧ (True) ∧ rxICEDK_1 S0 ws S ∧ rxmCEDK_1 S0 ws S < rxmCEDK_0 S0 ws S := by
  obtain ⟨hI, hx⟩ := hinv
  obtain ⟨a_, b_, c_, d_⟩ := rxcCED_0_2 hP hin I0 hI l8 u8 l9 u9 f0 f1 e1 e0
  exact ⟨a_, b_, ⟨c_, trivial⟩, d_⟩
theorem rxgCEDK_0_2 {X : (Nat → Int → Int) → Prop} {S0 : Nat → Int → Int} {ws : List Int} (hP : rxPCEDK S0 ws) : bx_obC rxL X S0 rxCCEDK.2.2.1 (rxICEDK S0 ws) (rxmCEDK S0 ws) 0 rxzCEDK_0 rxoCEDK_0_2 := by
  intro S S_p r r_p hinv hX hin hsm_ hseg
  obtain ⟨I0, I1, h0_, hr_, b_, f_, d_⟩ := bx_cl (evs := [(0, (0, 424), (8, 0), .inr (0, (9, 0))), (0, (0, 412), (0, 8), .inr (0, (8, 0)))]) (fvs := [(3, (9, 0), (0, 3), (0, 0)), (3, (9, 0), (0, 0), (0, 0))]) hseg (by decide +kernel) (by decide +kernel)
  have hinv : rxICEDK_0 S0 ws S := hinv
  obtain ⟨⟨l8, u8⟩, ⟨l9, u9⟩, -⟩ := b_
  obtain ⟨f0, f1, -⟩ := f_
  obtain ⟨e0, ⟨e1, w_⟩⟩ := d_
  subst w_
  have g := rxcCEDK_0_2 hP hin I0 hinv l8 u8 l9 u9 f0 f1 e1 e0
  refine ⟨bx_narP_ok (l := []) g.1, bx_nfP_ok h0_ (fvs := []) (by decide +kernel) g.2.1, ?_, ?_⟩
  · show rxICEDK_1 S0 ws S_p
    exact g.2.2.1
  · show rxmCEDK_1 S0 ws S_p < rxmCEDK_0 S0 ws S_p
    exact g.2.2.2
theorem rxcCEDK_0_3 {S0 : Nat → Int → Int} {ws : List Int} {S : Nat → Int → Int} {x8 x9 : Int} (hP : rxPCEDK S0 ws) (hin : bx_same rxL (bx_mdl rxCCEDK.2.2.1) S0 S) (I0 : bx_Inv rxL S) (hinv : rxICEDK_0 S0 ws S) (l8 : 0 ≤ x8) (u8 : x8 ≤ 0) (l9 : 0 ≤ x9) (u9 : x9 ≤ 0) (e1 : S 412 8 = x8) (e0 : S 424 x8 = x9) : (True) ∧ (True) ∧ rxICEDK_1 S0 ws S ∧ rxmCEDK_1 S0 ws S < rxmCEDK_0 S0 ws S := by
  obtain ⟨hI, hx⟩ := hinv
  obtain ⟨a_, b_, c_, d_⟩ := rxcCED_0_3 hP hin I0 hI l8 u8 l9 u9 e1 e0
  exact ⟨a_, b_, ⟨c_, trivial⟩, d_⟩
theorem rxgCEDK_0_3 {X : (Nat → Int → Int) → Prop} {S0 : Nat → Int → Int} {ws : List Int} (hP : rxPCEDK S0 ws) : bx_obC rxL X S0 rxCCEDK.2.2.1 (rxICEDK S0 ws) (rxmCEDK S0 ws) 0 rxzCEDK_0 rxoCEDK_0_3 := by
  intro S S_p r r_p hinv hX hin hsm_ hseg
  obtain ⟨I0, I1, h0_, hr_, b_, f_, d_⟩ := bx_cl (evs := [(0, (0, 424), (8, 0), .inr (0, (9, 0))), (0, (0, 412), (0, 8), .inr (0, (8, 0)))]) (fvs := []) hseg (by decide +kernel) (by decide +kernel)
  have hinv : rxICEDK_0 S0 ws S := hinv
  obtain ⟨⟨l8, u8⟩, ⟨l9, u9⟩, -⟩ := b_
  obtain ⟨e0, ⟨e1, w_⟩⟩ := d_
  subst w_
  have g := rxcCEDK_0_3 hP hin I0 hinv l8 u8 l9 u9 e1 e0
  refine ⟨bx_narP_ok (l := []) g.1, bx_nfP_ok h0_ (fvs := []) (by decide +kernel) g.2.1, ?_, ?_⟩
  · show rxICEDK_1 S0 ws S_p
    exact g.2.2.1
  · show rxmCEDK_1 S0 ws S_p < rxmCEDK_0 S0 ws S_p
    exact g.2.2.2
theorem rxdCEDK_0_0 {S0 : Nat → Int → Int} {ws : List Int} {S : Nat → Int → Int} {x8 x9 x10 : Int} (hP : rxPCEDK S0 ws) (hin : bx_same rxL (bx_mdl rxCCEDK.2.2.1) S0 S) (hin2 : bx_same rxL (bx_mdl rxCCEDK.2.2.1) S (bx_up S 412 4 x10)) (I0 : bx_Inv rxL S) (I1 : bx_Inv rxL (bx_up S 412 4 x10)) (hinv : rxICEDK_0 S0 ws S) (l8 : 0 ≤ x8) (u8 : x8 ≤ 0) (l9 : 1 ≤ x9) (u9 : x9 ≤ 2) (l10 : 0 ≤ x10) (u10 : x10 ≤ 400) (f0 : x9 ≠ 4) (f1 : x9 ≠ 3) (f2 : x9 ≠ 0) (e3 : S 412 8 = x8) (e2 : S 424 x8 = x9) (e1 : S 412 2 = x10) : (True) ∧ rxPSCEDK S0 ws (bx_up S 412 4 x10) (some 0) := by
  obtain ⟨hI, hx⟩ := hinv
  obtain ⟨a_, c_⟩ := rxdCED_0_0 hP hin hin2 I0 I1 hI l8 u8 l9 u9 l10 u10 f0 f1 f2 e3 e2 e1
  exact ⟨a_, c_, (fun g => absurd (Option.some.inj g) (by decide))⟩
theorem rxfCEDK_0_0 {X : (Nat → Int → Int) → Prop} {S0 : Nat → Int → Int} {ws : List Int} (hP : rxPCEDK S0 ws) : bx_obE rxL X S0 rxCCEDK.2.2.1 (rxICEDK S0 ws) (rxPSCEDK S0 ws) 0 rxzCEDK_0 rxeCEDK_0_0 := by
  intro S S_p r r_p hinv hX hin hsm_ hseg
  obtain ⟨I0, I1, h0_, hr_, b_, f_, d_⟩ := bx_cl (evs := [(1, (0, 412), (0, 4), .inr (0, (10, 0))), (0, (0, 412), (0, 2), .inr (0, (10, 0))), (0, (0, 424), (8, 0), .inr (0, (9, 0))), (0, (0, 412), (0, 8), .inr (0, (8, 0)))]) (fvs := [(3, (9, 0), (0, 4), (0, 0)), (3, (9, 0), (0, 3), (0, 0)), (3, (9, 0), (0, 0), (0, 0))]) hseg (by decide +kernel) (by decide +kernel)
  have hinv : rxICEDK_0 S0 ws S := hinv
  obtain ⟨⟨l8, u8⟩, ⟨l9, u9⟩, ⟨l10, u10⟩, -⟩ := b_
  obtain ⟨f0, f1, f2, -⟩ := f_
  obtain ⟨T0, ⟨e1, ⟨e2, ⟨e3, w_⟩⟩⟩, w0⟩ := d_
  subst w0
  subst w_
  have g := rxdCEDK_0_0 hP hin hsm_ I0 I1 hinv l8 u8 l9 u9 l10 u10 f0 f1 f2 e3 e2 e1
  refine ⟨bx_narP_ok (l := []) g.1, ?_⟩
  show rxPSCEDK S0 ws (bx_up T0 412 (4) (r_p 10)) (some (bx_num r_p (.inr (0, (0, 0)))))
  rw [bx_xv_ok h0_]
  exact g.2
theorem rxdCEDK_0_1 {S0 : Nat → Int → Int} {ws : List Int} {S : Nat → Int → Int} {x8 x9 : Int} (hP : rxPCEDK S0 ws) (hin : bx_same rxL (bx_mdl rxCCEDK.2.2.1) S0 S) (hin2 : bx_same rxL (bx_mdl rxCCEDK.2.2.1) S (bx_up S 412 4 x9)) (I0 : bx_Inv rxL S) (I1 : bx_Inv rxL (bx_up S 412 4 x9)) (hinv : rxICEDK_0 S0 ws S) (l8 : 1 ≤ x8) (u8 : x8 ≤ 2147483647) (l9 : 0 ≤ x9) (u9 : x9 ≤ 400) (e2 : S 412 8 = x8) (e1 : S 412 2 = x9) : (True) ∧ rxPSCEDK S0 ws (bx_up S 412 4 x9) (some 0) := by
  obtain ⟨hI, hx⟩ := hinv
  obtain ⟨a_, c_⟩ := rxdCED_0_1 hP hin hin2 I0 I1 hI l8 u8 l9 u9 e2 e1
  exact ⟨a_, c_, (fun g => absurd (Option.some.inj g) (by decide))⟩
theorem rxfCEDK_0_1 {X : (Nat → Int → Int) → Prop} {S0 : Nat → Int → Int} {ws : List Int} (hP : rxPCEDK S0 ws) : bx_obE rxL X S0 rxCCEDK.2.2.1 (rxICEDK S0 ws) (rxPSCEDK S0 ws) 0 rxzCEDK_0 rxeCEDK_0_1 := by
  intro S S_p r r_p hinv hX hin hsm_ hseg
  obtain ⟨I0, I1, h0_, hr_, b_, f_, d_⟩ := bx_cl (evs := [(1, (0, 412), (0, 4), .inr (0, (9, 0))), (0, (0, 412), (0, 2), .inr (0, (9, 0))), (0, (0, 412), (0, 8), .inr (0, (8, 0)))]) (fvs := []) hseg (by decide +kernel) (by decide +kernel)
  have hinv : rxICEDK_0 S0 ws S := hinv
  obtain ⟨⟨l8, u8⟩, ⟨l9, u9⟩, -⟩ := b_
  obtain ⟨T0, ⟨e1, ⟨e2, w_⟩⟩, w0⟩ := d_
  subst w0
  subst w_
  have g := rxdCEDK_0_1 hP hin hsm_ I0 I1 hinv l8 u8 l9 u9 e2 e1
  refine ⟨bx_narP_ok (l := []) g.1, ?_⟩
  show rxPSCEDK S0 ws (bx_up T0 412 (4) (r_p 9)) (some (bx_num r_p (.inr (0, (0, 0)))))
  rw [bx_xv_ok h0_]
  exact g.2
theorem rxdCEDK_2_0 {S0 : Nat → Int → Int} {ws : List Int} {S : Nat → Int → Int} {x8 : Int} (hP : rxPCEDK S0 ws) (hin : bx_same rxL (bx_mdl rxCCEDK.2.2.1) S0 S) (hin2 : bx_same rxL (bx_mdl rxCCEDK.2.2.1) S (bx_up (bx_up (bx_up S 428 x8 0) 429 x8 0) 427 0 (x8 + 1))) (I0 : bx_Inv rxL S) (I1 : bx_Inv rxL (bx_up (bx_up (bx_up S 428 x8 0) 429 x8 0) 427 0 (x8 + 1))) (hinv : rxICEDK_2 S0 ws S) (l8 : 0 ≤ x8) (u8 : x8 ≤ 399) (e3 : S 427 0 = x8) : (True) ∧ rxPSCEDK S0 ws (bx_up (bx_up (bx_up S 428 x8 0) 429 x8 0) 427 0 (x8 + 1)) (some 1) := by
  obtain ⟨hI, hx⟩ := hinv
  obtain ⟨a_, c_⟩ := rxdCED_2_0 hP hin hin2 I0 I1 hI l8 u8 e3
  exact ⟨a_, c_, (by
    intro g_ b c hC hW hb
    obtain ⟨g1, g2⟩ := hx b c hC hW hb
    have rw_ := rkRed_w (l := 1) (by omega) hW
    have e := g1.2.2.2.1
    have hz : S 427 0 = x8 := e3
    have q := rkDo_of (S_p := (bx_up (bx_up (bx_up S 428 x8 0) 429 x8 0) 427 0 (x8 + 1))) g1 ((bx_up_at).trans (by omega)) (by rw [hz]; exact ((bx_up_ne (by omega)).trans ((bx_up_ne (by omega)))).trans bx_up_at) (fun j hj => (bx_up_ne (by omega)).trans ((bx_up_ne (by omega)).trans ((bx_up_ne (by omega))))) (fun j hj => (bx_up_ne (by omega)).trans ((bx_up_ne (by omega)).trans ((bx_up_ne (by omega)))))
    exact ⟨q.1, g2.tr q.2⟩)⟩
theorem rxfCEDK_2_0 {X : (Nat → Int → Int) → Prop} {S0 : Nat → Int → Int} {ws : List Int} (hP : rxPCEDK S0 ws) : bx_obE rxL X S0 rxCCEDK.2.2.1 (rxICEDK S0 ws) (rxPSCEDK S0 ws) 2 rxzCEDK_2 rxeCEDK_2_0 := by
  intro S S_p r r_p hinv hX hin hsm_ hseg
  obtain ⟨I0, I1, h0_, hr_, b_, f_, d_⟩ := bx_cl (evs := [(1, (0, 427), (0, 0), .inr (0, (8, 1))), (1, (0, 429), (8, 0), .inr (0, (0, 0))), (1, (0, 428), (8, 0), .inr (0, (0, 0))), (0, (0, 427), (0, 0), .inr (0, (8, 0)))]) (fvs := []) hseg (by decide +kernel) (by decide +kernel)
  have hinv : rxICEDK_2 S0 ws S := hinv
  obtain ⟨⟨l8, u8⟩, -⟩ := b_
  obtain ⟨T0, ⟨T1, ⟨T2, ⟨e3, w_⟩, w2⟩, w1⟩, w0⟩ := d_
  subst w0
  subst w1
  subst w2
  subst w_
  have g := rxdCEDK_2_0 hP hin hsm_ I0 I1 hinv l8 u8 e3
  refine ⟨bx_narP_ok (l := []) g.1, ?_⟩
  show rxPSCEDK S0 ws (bx_up (bx_up (bx_up T2 428 (r_p 8) (0)) 429 (r_p 8) (0)) 427 (0) (r_p 8 + 1)) (some (bx_num r_p (.inr (0, (0, 1)))))
  rw [bx_xv_ok h0_]
  exact g.2
theorem rxdCEDK_2_1 {S0 : Nat → Int → Int} {ws : List Int} {S : Nat → Int → Int} {x8 : Int} (hP : rxPCEDK S0 ws) (hin : bx_same rxL (bx_mdl rxCCEDK.2.2.1) S0 S) (hin2 : bx_same rxL (bx_mdl rxCCEDK.2.2.1) S S) (I0 : bx_Inv rxL S) (I1 : bx_Inv rxL S) (hinv : rxICEDK_2 S0 ws S) (l8 : 400 ≤ x8) (u8 : x8 ≤ 400) (e0 : S 427 0 = x8) : (True) ∧ rxPSCEDK S0 ws S (some 1) := by
  obtain ⟨hI, hx⟩ := hinv
  obtain ⟨a_, c_⟩ := rxdCED_2_1 hP hin hin2 I0 I1 hI l8 u8 e0
  exact ⟨a_, c_, (by
    intro g_ b c hC hW hb
    obtain ⟨g1, g2⟩ := hx b c hC hW hb
    have rw_ := rkRed_w (l := 1) (by omega) hW
    have e := g1.2.2.2.1
    have hz : S 427 0 = x8 := e0
    exfalso
    have e2 := g1.2.2.1
    omega)⟩
theorem rxfCEDK_2_1 {X : (Nat → Int → Int) → Prop} {S0 : Nat → Int → Int} {ws : List Int} (hP : rxPCEDK S0 ws) : bx_obE rxL X S0 rxCCEDK.2.2.1 (rxICEDK S0 ws) (rxPSCEDK S0 ws) 2 rxzCEDK_2 rxeCEDK_2_1 := by
  intro S S_p r r_p hinv hX hin hsm_ hseg
  obtain ⟨I0, I1, h0_, hr_, b_, f_, d_⟩ := bx_cl (evs := [(0, (0, 427), (0, 0), .inr (0, (8, 0)))]) (fvs := []) hseg (by decide +kernel) (by decide +kernel)
  have hinv : rxICEDK_2 S0 ws S := hinv
  obtain ⟨⟨l8, u8⟩, -⟩ := b_
  obtain ⟨e0, w_⟩ := d_
  subst w_
  have g := rxdCEDK_2_1 hP hin hsm_ I0 I1 hinv l8 u8 e0
  refine ⟨bx_narP_ok (l := []) g.1, ?_⟩
  show rxPSCEDK S0 ws S_p (some (bx_num r_p (.inr (0, (0, 1)))))
  rw [bx_xv_ok h0_]
  exact g.2
theorem rxgCCEDK {X : (Nat → Int → Int) → Prop} {S0 : Nat → Int → Int} {ws : List Int} (hP : rxPCEDK S0 ws) : bx_allI (fun i q => rxUCEDK q = true ∨ bx_allP (fun o => bx_obC rxL X S0 rxCCEDK.2.2.1 (rxICEDK S0 ws) (rxmCEDK S0 ws) i q.1 o) q.2.1) 0 rxYCEDK := ⟨Or.inr ⟨rxgCEDK_0_0 hP, rxgCEDK_0_1 hP, rxgCEDK_0_2 hP, rxgCEDK_0_3 hP, trivial⟩, Or.inl rfl, Or.inr trivial, trivial⟩
theorem rxgECEDK {X : (Nat → Int → Int) → Prop} {S0 : Nat → Int → Int} {ws : List Int} (hP : rxPCEDK S0 ws) : bx_allI (fun i q => rxUCEDK q = true ∨ bx_allP (fun E => bx_obE rxL X S0 rxCCEDK.2.2.1 (rxICEDK S0 ws) (rxPSCEDK S0 ws) i q.1 E) q.2.2) 0 rxYCEDK := ⟨Or.inr ⟨rxfCEDK_0_0 hP, rxfCEDK_0_1 hP, trivial⟩, Or.inl rfl, Or.inr ⟨rxfCEDK_2_0 hP, rxfCEDK_2_1 hP, trivial⟩, trivial⟩
theorem rxuCEDK {PX : State → Prop} {Dg : va_G} {A : Nat → Prop} {ad xa : Nat → Nat} {l : Launch} {X : (Nat → Int → Int) → Prop} (hPX : rx_PXOK rxNW A PX) (hX : ∀ S S1 : Nat → Int → Int, X S → bx_same rxL (bx_mdl rxCCEDK.2.2.1) S S1 → X S1) (hQRDDK : bx_ConP rxG rxNW rxAO PX Dg rxL X vwCl A ad l rxM80 rxCRDDK rxPRDDK rxPSRDDK) {S0 : Nat → Int → Int} {ws : List Int} (hP : rxPCEDK S0 ws) : ∀ (i : Nat) (q : bx_HE), rxYCEDK[i]? = some q → rxUCEDK q = true → ∀ {p : Program} {e : Env} {R : Room} {s : State} {m : MethodId} {args : Array Value} {below : List Frame} {meth : Method} {c : Code} {Q : State → Prop} {H0 : Heap}, rx_Fr rxG rxNW rxAO PX p s m args meth c rxM70 → (∀ q, H0.size ≤ q → A q) → H0 = s.heap → rxM70.2.2.2.2.2.2.1 ≤ R.cells → rxM70.2.2.2.2.2.2.2 ≤ R.slots → rxCCEDK.2.2.2.1 ≤ R.frames → rxCCEDK.2.2.2.1 * 40 ≤ R.locals → bx_Step p l e R s m args below meth c Q Dg rxL X vwCl A xa H0 ad rxM70 rxYCEDK (rxICEDK S0 ws) (rxmCEDK S0 ws) S0 rxCCEDK.2.2.1 i q := by
  intro i q hq hus p e R s m args below meth c Q H0 hF hA hH0 hmc hms hd hdl
  match i, hq with
  | 0, hq =>
    cases hq
    exact absurd (show false = true from hus) Bool.false_ne_true
  | 1, hq =>
    cases hq
    exact rx_stepC (ins := .invokevirtual 192) (len := 3) (i_p := 2) (M_p := rxM80) (d := rxCCEDK.2.2.2.1) (as := [.inr (3, (0, 412)), .inr (0, (0, 1))]) (t := []) (ct := rxCRDDK) hPX hF rfl hA hH0 hmc hms hd hdl (by decide +kernel) rfl rfl (by decide +kernel) (by decide +kernel) hQRDDK (by decide +kernel) rfl (Or.inl ⟨rfl, rfl, rfl⟩) (rxsCEDK_1 hP)
  | 2, hq =>
    cases hq
    exact absurd (show false = true from hus) Bool.false_ne_true
  | n + 3, hq => cases hq
theorem rxQCEDK {PX : State → Prop} {Dg : va_G} {A : Nat → Prop} {ad xa : Nat → Nat} {l : Launch} {X : (Nat → Int → Int) → Prop} (hPX : rx_PXOK rxNW A PX) (hsl : ∀ s : State, PX s → ∀ o idx n : Nat, rxSl o idx = some n → ∃ tx : String, vk_R (rxNm o) idx tx (ad n) s)
    (hX : ∀ S S_p : Nat → Int → Int, X S → bx_same rxL (bx_mdl rxCCEDK.2.2.1) S S_p → X S_p)
    (ih : ∀ (j2 : Nat) (ct2 : bx_Ct) (M2 : rx_Mt), ct2 ∈ rxCnE j2 → ct2.2.2.2.1 + 1 ≤ rxCCEDK.2.2.2.1 → rxT.2.2.2.2.2 j2 = some M2 → bx_Con rxG rxNW rxAO PX Dg rxL X vwCl A ad l M2 ct2) (hQRDDK : bx_ConP rxG rxNW rxAO PX Dg rxL X vwCl A ad l rxM80 rxCRDDK rxPRDDK rxPSRDDK) : bx_ConP rxG rxNW rxAO PX Dg rxL X vwCl A ad l rxM70 rxCCEDK rxPCEDK rxPSCEDK :=
  rxQof (xa := xa) (Cn := rxCnE) (f := 30000) (j := 70) (tab := rxYCEDK) (us := rxUCEDK) hPX hsl hX ih rfl rxYcCEDK rxICEDK rxmCEDK
    (fun S0 ws r I0 I ht0 ht as he he1 hX0 hI0 hP hs ha => by
      have e := he.symm.trans (show bx_ent0 rxNP rxCCEDK.1 bx_I0 [] = some ([(0, 0), (0, 0), (0, 0), (0, 0), (0, 0), (0, 0), (0, 0), (0, 0)], [], [.inr (3, (0, 412))]) from rfl)
      cases e
      subst ha
      have h0 : r 0 = 0 := hs.1
      show rxICEDK_0 S0 _ S0
      refine ⟨⟨rfl, ?_⟩, trivial⟩
      simp only [List.map_cons, List.map_nil, bx_xv_ok h0]
      rfl)
    (fun S0 ws hP => rxuCEDK (xa := xa) hPX hX hQRDDK hP) (fun S0 ws hP => rxgCCEDK hP) (fun S0 ws hP => rxgECEDK hP)
