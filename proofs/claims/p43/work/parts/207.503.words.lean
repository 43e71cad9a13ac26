/-! CONTRACT BY HAND, by program (wip/sim/genhand.py): DeadUnderstudies$Least.wordsHere -/
def rxCLWH : bx_Ct := ([(3, (1, 451, 0))], some (0, (0, 0, 1023)), [], 2, [])
def rxILWH_0 (S0 : Nat → Int → Int) (ws : List Int) (S : Nat → Int → Int) : Prop := S = S0 ∧ ws = [451]
def rxmLWH_0 (S0 : Nat → Int → Int) (ws : List Int) (S : Nat → Int → Int) : Nat := 1000
def rxzLWH_0 : rx_Z := ([(0, 0), (0, 0), (0, 0), (0, 0), (0, 0), (0, 0), (0, 0), (0, 0)], [], [], 0, 0, 0, [(0, .inr (3, (0, 451)))], [])
def rxILWH_1 (S0 : Nat → Int → Int) (ws : List Int) (S : Nat → Int → Int) : Prop := S = S0
def rxmLWH_1 (S0 : Nat → Int → Int) (ws : List Int) (S : Nat → Int → Int) : Nat := 900
def rxzLWH_1 : rx_Z := ([(0, 0), (0, 0), (0, 0), (0, 0), (0, 0), (0, 0), (0, 0), (0, 0)], [], [], 0, 0, 1, [(0, .inr (3, (0, 451)))], [.inr (3, (0, 451))])
def rxILWH_2 (S0 : Nat → Int → Int) (ws : List Int) (S : Nat → Int → Int) (st : Int) : Prop := S = S0 ∧ st = (lds (S 455 (S 451 6)) (S 453) (S 458) (S 456))
def rxmLWH_2 (S0 : Nat → Int → Int) (ws : List Int) (S : Nat → Int → Int) (st : Int) : Nat := 800
def rxzLWH_2 : rx_Z := ([(0, 0), (0, 0), (0, 0), (0, 0), (0, 0), (0, 0), (0, 0), (0, 0), ((-1), 2)], [], [], 0, 0, 4, [(0, .inr (3, (0, 451)))], [.inr (0, (8, 0))])
def rxILWH_3 (S0 : Nat → Int → Int) (ws : List Int) (S : Nat → Int → Int) (st a : Int) : Prop := S = S0 ∧ a = st ∧ st = (lds (S 455 (S 451 6)) (S 453) (S 458) (S 456))
def rxmLWH_3 (S0 : Nat → Int → Int) (ws : List Int) (S : Nat → Int → Int) (st a : Int) : Nat := 700
def rxzLWH_3 : rx_Z := ([(0, 0), (0, 0), (0, 0), (0, 0), (0, 0), (0, 0), (0, 0), (0, 0), (0, 2), (0, 2)], [], [], 0, 0, 11, [(0, .inr (3, (0, 451))), (1, .inr (0, (8, 0)))], [.inr (0, (9, 0)), .inr (3, (0, 451))])
def rxILWH_4 (S0 : Nat → Int → Int) (ws : List Int) (S : Nat → Int → Int) (st a wo : Int) : Prop := S = S0 ∧ st = (lds (S 455 (S 451 6)) (S 453) (S 458) (S 456)) ∧ wo = (ldw (S 457 (6 * st + S 451 7)) : Nat)
def rxmLWH_4 (S0 : Nat → Int → Int) (ws : List Int) (S : Nat → Int → Int) (st a wo : Int) : Nat := 600
def rxzLWH_4 : rx_Z := ([(0, 0), (0, 0), (0, 0), (0, 0), (0, 0), (0, 0), (0, 0), (0, 0), (0, 2), (0, 2), (0, 1023)], [], [], 0, 0, 14, [(0, .inr (3, (0, 451))), (1, .inr (0, (8, 0)))], [.inr (0, (10, 0))])
def rxILWH_5 (S0 : Nat → Int → Int) (ws : List Int) (S : Nat → Int → Int) (st cd x : Int) : Prop := S = S0 ∧ (lds (S 455 (S 451 6)) (S 453) (S 458) (S 456)) = -1 ∧ cd.toNat = ldh S x
def rxmLWH_5 (S0 : Nat → Int → Int) (ws : List Int) (S : Nat → Int → Int) (st cd x : Int) : Nat := 10 * (20 - x).toNat + 9
def rxzLWH_5 : rx_Z := ([(0, 0), (0, 0), (0, 0), (0, 0), (0, 0), (0, 0), (0, 0), (0, 0), ((-1), (-1)), (0, 1023), (0, 3)], [], [], 0, 0, 19, [(0, .inr (3, (0, 451))), (1, .inr (0, (8, 0))), (2, .inr (0, (9, 0))), (3, .inr (0, (10, 0)))], [])
def rxILWH_6 (S0 : Nat → Int → Int) (ws : List Int) (S : Nat → Int → Int) (st cd x cd2 a : Int) : Prop := cd2 = cd ∧ a = x ∧ x < S 451 5 ∧ S = S0 ∧ (lds (S 455 (S 451 6)) (S 453) (S 458) (S 456)) = -1 ∧ cd.toNat = ldh S x
def rxmLWH_6 (S0 : Nat → Int → Int) (ws : List Int) (S : Nat → Int → Int) (st cd x cd2 a : Int) : Nat := 10 * (20 - x).toNat + 8
def rxzLWH_6 : rx_Z := ([(0, 0), (0, 0), (0, 0), (0, 0), (0, 0), (0, 0), (0, 0), (0, 0), ((-1), (-1)), (0, 1023), (0, 2), (0, 1023), (0, 2)], [], [], 0, 0, 30, [(0, .inr (3, (0, 451))), (1, .inr (0, (8, 0))), (2, .inr (0, (9, 0))), (3, .inr (0, (10, 0)))], [.inr (0, (12, 0)), .inr (3, (0, 451)), .inr (0, (11, 0))])
def rxILWH_7 (S0 : Nat → Int → Int) (ws : List Int) (S : Nat → Int → Int) (st cd x cd2 a wo : Int) : Prop := cd2 = cd ∧ x < S 451 5 ∧ wo = (ldw (S 457 (6 * x + S 451 7)) : Nat) ∧ S = S0 ∧ (lds (S 455 (S 451 6)) (S 453) (S 458) (S 456)) = -1 ∧ cd.toNat = ldh S x
def rxmLWH_7 (S0 : Nat → Int → Int) (ws : List Int) (S : Nat → Int → Int) (st cd x cd2 a wo : Int) : Nat := 10 * (20 - x).toNat + 7
def rxzLWH_7 : rx_Z := ([(0, 0), (0, 0), (0, 0), (0, 0), (0, 0), (0, 0), (0, 0), (0, 0), ((-1), (-1)), (0, 1023), (0, 2), (0, 1023), (0, 2), (0, 1023)], [], [], 0, 0, 33, [(0, .inr (3, (0, 451))), (1, .inr (0, (8, 0))), (2, .inr (0, (9, 0))), (3, .inr (0, (10, 0)))], [.inr (0, (13, 0)), .inr (0, (11, 0))])
def rxILWH_8 (S0 : Nat → Int → Int) (ws : List Int) (S : Nat → Int → Int) (st cd x cd2 a wo y : Int) : Prop := S = S0 ∧ (lds (S 455 (S 451 6)) (S 453) (S 458) (S 456)) = -1 ∧ y.toNat = ldh S (x + 1)
def rxmLWH_8 (S0 : Nat → Int → Int) (ws : List Int) (S : Nat → Int → Int) (st cd x cd2 a wo y : Int) : Nat := 10 * (20 - x).toNat + 6
def rxzLWH_8 : rx_Z := ([(0, 0), (0, 0), (0, 0), (0, 0), (0, 0), (0, 0), (0, 0), (0, 0), ((-1), (-1)), (0, 1023), (0, 2), (0, 1023), (0, 2), (0, 1023), (0, 1023)], [], [], 0, 0, 34, [(0, .inr (3, (0, 451))), (1, .inr (0, (8, 0))), (2, .inr (0, (9, 0))), (3, .inr (0, (10, 0)))], [.inr (0, (14, 0))])
def rxoLWH_0_0 : bx_HO := (([(0, 0), (0, 0), (0, 0), (0, 0), (0, 0), (0, 0), (0, 0), (0, 0)], [], [], 0, 0, 1, [(0, .inr (3, (0, 451)))], [.inr (3, (0, 451))]), [], [], [(0, 0), (0, 0), (0, 0), (0, 0), (0, 0), (0, 0), (0, 0), (0, 0)], 1)
def rxoLWH_2_0 : bx_HO := (([(0, 0), (0, 0), (0, 0), (0, 0), (0, 0), (0, 0), (0, 0), (0, 0), (0, 2)], [], [], 0, 0, 11, [(1, .inr (0, (8, 0))), (0, .inr (3, (0, 451)))], [.inr (0, (8, 0)), .inr (3, (0, 451))]), [], [], [(0, 0), (0, 0), (0, 0), (0, 0), (0, 0), (0, 0), (0, 0), (0, 0), (8, 0), (8, 0)], 3)
def rxoLWH_2_1 : bx_HO := (([(0, 0), (0, 0), (0, 0), (0, 0), (0, 0), (0, 0), (0, 0), (0, 0), ((-1), (-1))], [], [], 0, 0, 19, [(3, .inr (0, (0, 0))), (2, .inr (0, (0, 0))), (1, .inr (0, (8, 0))), (0, .inr (3, (0, 451)))], []), [], [], [(0, 0), (0, 0), (0, 0), (0, 0), (0, 0), (0, 0), (0, 0), (0, 0), (8, 0), (0, 0), (0, 0)], 5)
def rxeLWH_4_0 : rx_End × List (Nat × Int × Int) := (([(0, 0), (0, 0), (0, 0), (0, 0), (0, 0), (0, 0), (0, 0), (0, 0), (0, 2), (0, 2), (0, 1023)], [], [], some (.inr (0, (10, 0)))), [])
def rxoLWH_5_0 : bx_HO := (([(0, 0), (0, 0), (0, 0), (0, 0), (0, 0), (0, 0), (0, 0), (0, 0), ((-1), (-1)), (0, 1023), (0, 2), (1, 3)], [(0, (10, 0), (11, 0))], [(((0, 0), 1851192626986356798427873864310897359480125337295219445588492288000000), .inr (0, (11, 0))), (((0, 451), 5), .inr (0, (11, 0)))], 0, 0, 30, [(0, .inr (3, (0, 451))), (1, .inr (0, (8, 0))), (2, .inr (0, (9, 0))), (3, .inr (0, (10, 0)))], [.inr (0, (10, 0)), .inr (3, (0, 451)), .inr (0, (9, 0))]), [], [], [(0, 0), (0, 0), (0, 0), (0, 0), (0, 0), (0, 0), (0, 0), (0, 0), (8, 0), (9, 0), (10, 0), (9, 0), (10, 0)], 6)
def rxeLWH_5_0 : rx_End × List (Nat × Int × Int) := (([(0, 0), (0, 0), (0, 0), (0, 0), (0, 0), (0, 0), (0, 0), (0, 0), ((-1), (-1)), (0, 1023), (0, 3), (0, 3)], [(1, (11, 0), (10, 0))], [(((0, 0), 1851192626986356798427873864310897359480125337295219445588492288000000), .inr (0, (11, 0))), (((0, 451), 5), .inr (0, (11, 0)))], some (.inr (0, (9, 0)))), [])
def rxoLWH_8_0 : bx_HO := (([(0, 0), (0, 0), (0, 0), (0, 0), (0, 0), (0, 0), (0, 0), (0, 0), ((-1), (-1)), (0, 1023), (0, 2), (0, 1023), (0, 2), (0, 1023), (0, 1023)], [], [], 0, 0, 19, [(3, .inr (0, (10, 1))), (2, .inr (0, (14, 0))), (0, .inr (3, (0, 451))), (1, .inr (0, (8, 0)))], []), [], [], [(0, 0), (0, 0), (0, 0), (0, 0), (0, 0), (0, 0), (0, 0), (0, 0), (8, 0), (14, 0), (10, 1)], 5)
def rxYLWH : List bx_HE := [(rxzLWH_0, [rxoLWH_0_0], []), (rxzLWH_1, [], []), (rxzLWH_2, [rxoLWH_2_0, rxoLWH_2_1], []), (rxzLWH_3, [], []), (rxzLWH_4, [], [rxeLWH_4_0]), (rxzLWH_5, [rxoLWH_5_0], [rxeLWH_5_0]), (rxzLWH_6, [], []), (rxzLWH_7, [], []), (rxzLWH_8, [rxoLWH_8_0], [])]
def rxULWH (q : bx_HE) : Bool := Nat.beq (rx_zpc q.1) 1 || Nat.beq (rx_zpc q.1) 11 || Nat.beq (rx_zpc q.1) 30 || Nat.beq (rx_zpc q.1) 33
def rxYBLWH : bx_B := (rxV, rxNP, rxDmf, bx_mdH rxCLWH.2.2.1)
set_option maxRecDepth 100000 in
theorem rxYcLWH : bx_chkH rxYBLWH rxM54 rxCLWH rxYLWH (rxULWH, fun cut z => rx_ex2 (rxCT rxYBLWH rxCnE) cut 30000 rxCLWH.2.2.2.1 54 z) = true := by decide +kernel
def rxILWH (S0 : Nat → Int → Int) (ws : List Int) (i : Nat) : bx_SP := fun S r => match i with | 0 => rxILWH_0 S0 ws S | 1 => rxILWH_1 S0 ws S | 2 => rxILWH_2 S0 ws S (r 8) | 3 => rxILWH_3 S0 ws S (r 8) (r 9) | 4 => rxILWH_4 S0 ws S (r 8) (r 9) (r 10) | 5 => rxILWH_5 S0 ws S (r 8) (r 9) (r 10) | 6 => rxILWH_6 S0 ws S (r 8) (r 9) (r 10) (r 11) (r 12) | 7 => rxILWH_7 S0 ws S (r 8) (r 9) (r 10) (r 11) (r 12) (r 13) | 8 => rxILWH_8 S0 ws S (r 8) (r 9) (r 10) (r 11) (r 12) (r 13) (r 14) | _ => False
def rxmLWH (S0 : Nat → Int → Int) (ws : List Int) (i : Nat) (S : Nat → Int → Int) (r : Nat → Int) : Nat := match i with | 0 => rxmLWH_0 S0 ws S | 1 => rxmLWH_1 S0 ws S | 2 => rxmLWH_2 S0 ws S (r 8) | 3 => rxmLWH_3 S0 ws S (r 8) (r 9) | 4 => rxmLWH_4 S0 ws S (r 8) (r 9) (r 10) | 5 => rxmLWH_5 S0 ws S (r 8) (r 9) (r 10) | 6 => rxmLWH_6 S0 ws S (r 8) (r 9) (r 10) (r 11) (r 12) | 7 => rxmLWH_7 S0 ws S (r 8) (r 9) (r 10) (r 11) (r 12) (r 13) | 8 => rxmLWH_8 S0 ws S (r 8) (r 9) (r 10) (r 11) (r 12) (r 13) (r 14) | _ => 0
def rxPLWH (S0 : Nat → Int → Int) (ws : List Int) : Prop := 0 ≤ S0 451 6 ∧ 0 ≤ S0 451 7 ∧ (∀ j : Int, 0 ≤ j → j < 18 → S0 458 j < S0 451 5) ∧ 1 ≤ S0 451 5
def rxPSLWH (S0 : Nat → Int → Int) (ws : List Int) (S : Nat → Int → Int) (w : Option Int) : Prop := S = S0 ∧ w = some ((ldl (S0 451 5) (S0 451 7) (S0 455 (S0 451 6)) (S0 453) (S0 457) (S0 458) (S0 456) : Nat) : Int)
theorem rxkLWH_1 {S0 : Nat → Int → Int} {ws : List Int} {S : Nat → Int → Int} (hP : rxPLWH S0 ws) (hin : bx_same rxL (bx_mdl rxCLWH.2.2.1) S0 S) (I0 : bx_Inv rxL S) (hinv : rxILWH_1 S0 ws S)  : rxPLSB S [451] ∧ ∀ (S' : Nat → Int → Int) (st : Int), (-1) ≤ st → st ≤ 2 → rxPSLSB S [451] S' (some st) → bx_Inv rxL S' → bx_same rxL (bx_mdl rxCLSB.2.2.1) S S' → rxILWH_2 S0 ws S' st ∧ rxmLWH_2 S0 ws S' st < rxmLWH_1 S0 ws S := by
  have h1 : S = S0 := hinv
  subst h1
  refine ⟨hP.1, fun S' st g0 g1 hq I1 hsm => ?_⟩
  obtain ⟨e, hr⟩ := hq
  exact ⟨⟨e, by rw [e]; exact Option.some.inj hr⟩, by unfold rxmLWH_1 rxmLWH_2; omega⟩
theorem rxsLWH_1 {X : (Nat → Int → Int) → Prop} {S0 : Nat → Int → Int} {ws : List Int} (hP : rxPLWH S0 ws) : rx_obK X S0 rxCLWH.2.2.1 rxCLSB.2.2.1 (rxILWH S0 ws) (rxmLWH S0 ws) 1 2 rxzLWH_1 rxzLWH_2 [.inr (3, (0, 451))] (some 8) rxPLSB rxPSLSB := by
  intro S r hinv hXS I0 hin hs_ hf_
  have b_ := bx_bds_sat hs_
  have f_ := bx_fcl_ok hs_.1 hf_
  have g := rxkLWH_1 hP hin I0 hinv 
  have ea : List.map (bx_num r) [.inr (3, (0, 451))] = [451] := by
    simp only [List.map_cons, List.map_nil, bx_xv_ok hs_.1]
    rfl
  rw [ea]
  refine ⟨g.1, fun S' w r' hPS hX' I1 hsm hr hw hs' => ?_⟩
  have hw := hw _ rfl
  subst hw
  have b' := hs'.2.2 8 _ _ rfl
  have g2 := g.2 S' (r' 8) b'.1 b'.2 hPS I1 hsm
  show rxILWH_2 S0 ws S' (r' 8) ∧ rxmLWH_2 S0 ws S' (r' 8) < _
  exact g2
theorem rxkLWH_3 {S0 : Nat → Int → Int} {ws : List Int} {S : Nat → Int → Int} {st a : Int} (hP : rxPLWH S0 ws) (hin : bx_same rxL (bx_mdl rxCLWH.2.2.1) S0 S) (I0 : bx_Inv rxL S) (hinv : rxILWH_3 S0 ws S st a) (l8 : 0 ≤ st) (u8 : st ≤ 2) (l9 : 0 ≤ a) (u9 : a ≤ 2) : rxPLWO S [451, a] ∧ ∀ (S' : Nat → Int → Int) (wo : Int), 0 ≤ wo → wo ≤ 1023 → rxPSLWO S [451, a] S' (some wo) → bx_Inv rxL S' → bx_same rxL (bx_mdl rxCLWO.2.2.1) S S' → rxILWH_4 S0 ws S' st a wo ∧ rxmLWH_4 S0 ws S' st a wo < rxmLWH_3 S0 ws S st a := by
  obtain ⟨h1, ha, h⟩ := hinv
  subst h1
  refine ⟨hP.2.1, fun S' wo g0 g1 hq I1 hsm => ?_⟩
  obtain ⟨e, s', hw2, hr⟩ := hq
  have e2 : a = s' := Option.some.inj (congrArg (fun l => l[1]?) hw2)
  subst e2
  have hr := Option.some.inj hr
  refine ⟨⟨e, by rw [e]; exact h, ?_⟩, by unfold rxmLWH_3 rxmLWH_4; omega⟩
  rw [e, ← ha]
  exact hr
theorem rxsLWH_3 {X : (Nat → Int → Int) → Prop} {S0 : Nat → Int → Int} {ws : List Int} (hP : rxPLWH S0 ws) : rx_obK X S0 rxCLWH.2.2.1 rxCLWO.2.2.1 (rxILWH S0 ws) (rxmLWH S0 ws) 3 4 rxzLWH_3 rxzLWH_4 [.inr (3, (0, 451)), .inr (0, (9, 0))] (some 10) rxPLWO rxPSLWO := by
  intro S r hinv hXS I0 hin hs_ hf_
  have b_ := bx_bds_sat hs_
  have f_ := bx_fcl_ok hs_.1 hf_
  obtain ⟨⟨l8, u8⟩, ⟨l9, u9⟩, -⟩ := b_
  have g := rxkLWH_3 hP hin I0 hinv l8 u8 l9 u9
  have ea : List.map (bx_num r) [.inr (3, (0, 451)), .inr (0, (9, 0))] = [451, (r 9)] := by
    simp only [List.map_cons, List.map_nil, bx_xv_ok hs_.1]
    rfl
  rw [ea]
  refine ⟨g.1, fun S' w r' hPS hX' I1 hsm hr hw hs' => ?_⟩
  have hw := hw _ rfl
  subst hw
  have b' := hs'.2.2 10 _ _ rfl
  have g2 := g.2 S' (r' 10) b'.1 b'.2 hPS I1 hsm
  show rxILWH_4 S0 ws S' (r' 8) (r' 9) (r' 10) ∧ rxmLWH_4 S0 ws S' (r' 8) (r' 9) (r' 10) < _
  rw [hr 8 (by decide), hr 9 (by decide)]
  exact g2
theorem rxkLWH_6 {S0 : Nat → Int → Int} {ws : List Int} {S : Nat → Int → Int} {st cd x cd2 a : Int} (hP : rxPLWH S0 ws) (hin : bx_same rxL (bx_mdl rxCLWH.2.2.1) S0 S) (I0 : bx_Inv rxL S) (hinv : rxILWH_6 S0 ws S st cd x cd2 a) (l8 : (-1) ≤ st) (u8 : st ≤ (-1)) (l9 : 0 ≤ cd) (u9 : cd ≤ 1023) (l10 : 0 ≤ x) (u10 : x ≤ 2) (l11 : 0 ≤ cd2) (u11 : cd2 ≤ 1023) (l12 : 0 ≤ a) (u12 : a ≤ 2) : rxPLWO S [451, a] ∧ ∀ (S' : Nat → Int → Int) (wo : Int), 0 ≤ wo → wo ≤ 1023 → rxPSLWO S [451, a] S' (some wo) → bx_Inv rxL S' → bx_same rxL (bx_mdl rxCLWO.2.2.1) S S' → rxILWH_7 S0 ws S' st cd x cd2 a wo ∧ rxmLWH_7 S0 ws S' st cd x cd2 a wo < rxmLWH_6 S0 ws S st cd x cd2 a := by
  obtain ⟨hc2, ha, hx, h1, h, hc⟩ := hinv
  subst h1
  refine ⟨hP.2.1, fun S' wo g0 g1 hq I1 hsm => ?_⟩
  obtain ⟨e, s', hw2, hr⟩ := hq
  have e2 : a = s' := Option.some.inj (congrArg (fun l => l[1]?) hw2)
  subst e2
  have hr := Option.some.inj hr
  refine ⟨⟨hc2, by rw [e]; exact hx, ?_, e, by rw [e]; exact h, by rw [e]; exact hc⟩, by unfold rxmLWH_6 rxmLWH_7; omega⟩
  rw [e, ← ha]
  exact hr
theorem rxsLWH_6 {X : (Nat → Int → Int) → Prop} {S0 : Nat → Int → Int} {ws : List Int} (hP : rxPLWH S0 ws) : rx_obK X S0 rxCLWH.2.2.1 rxCLWO.2.2.1 (rxILWH S0 ws) (rxmLWH S0 ws) 6 7 rxzLWH_6 rxzLWH_7 [.inr (3, (0, 451)), .inr (0, (12, 0))] (some 13) rxPLWO rxPSLWO := by
  intro S r hinv hXS I0 hin hs_ hf_
  have b_ := bx_bds_sat hs_
  have f_ := bx_fcl_ok hs_.1 hf_
  obtain ⟨⟨l8, u8⟩, ⟨l9, u9⟩, ⟨l10, u10⟩, ⟨l11, u11⟩, ⟨l12, u12⟩, -⟩ := b_
  have g := rxkLWH_6 hP hin I0 hinv l8 u8 l9 u9 l10 u10 l11 u11 l12 u12
  have ea : List.map (bx_num r) [.inr (3, (0, 451)), .inr (0, (12, 0))] = [451, (r 12)] := by
    simp only [List.map_cons, List.map_nil, bx_xv_ok hs_.1]
    rfl
  rw [ea]
  refine ⟨g.1, fun S' w r' hPS hX' I1 hsm hr hw hs' => ?_⟩
  have hw := hw _ rfl
  subst hw
  have b' := hs'.2.2 13 _ _ rfl
  have g2 := g.2 S' (r' 13) b'.1 b'.2 hPS I1 hsm
  show rxILWH_7 S0 ws S' (r' 8) (r' 9) (r' 10) (r' 11) (r' 12) (r' 13) ∧ rxmLWH_7 S0 ws S' (r' 8) (r' 9) (r' 10) (r' 11) (r' 12) (r' 13) < _
  rw [hr 8 (by decide), hr 9 (by decide), hr 10 (by decide), hr 11 (by decide), hr 12 (by decide)]
  exact g2
theorem rxbLWH_7 {S0 : Nat → Int → Int} {ws : List Int} {S : Nat → Int → Int} {st cd x cd2 a wo : Int} (hP : rxPLWH S0 ws) (hin : bx_same rxL (bx_mdl rxCLWH.2.2.1) S0 S) (I0 : bx_Inv rxL S) (hinv : rxILWH_7 S0 ws S st cd x cd2 a wo) (l8 : (-1) ≤ st) (u8 : st ≤ (-1)) (l9 : 0 ≤ cd) (u9 : cd ≤ 1023) (l10 : 0 ≤ x) (u10 : x ≤ 2) (l11 : 0 ≤ cd2) (u11 : cd2 ≤ 1023) (l12 : 0 ≤ a) (u12 : a ≤ 2) (l13 : 0 ≤ wo) (u13 : wo ≤ 1023) : bx_opc 6 cd2 wo ∧ ∀ y : Int, y = bx_opv 6 cd2 wo → (0 ≤ y ∧ y ≤ 1023) ∧ rxILWH_8 S0 ws S st cd x cd2 a wo y ∧ rxmLWH_8 S0 ws S st cd x cd2 a wo y < rxmLWH_7 S0 ws S st cd x cd2 a wo := by
  obtain ⟨hc2, hx, hwo, h1, h, hc⟩ := hinv
  refine ⟨⟨by omega, by omega, by omega⟩, fun y hy => ?_⟩
  have hy : y = ((cd2.toNat ||| wo.toNat : Nat) : Int) := hy
  have hle := ldor_le (x := cd2.toNat) (y := wo.toNat) (by omega) (by omega)
  refine ⟨⟨by omega, by omega⟩, ⟨h1, h, ?_⟩, by unfold rxmLWH_7 rxmLWH_8; omega⟩
  rw [ldh_s l10 u10 hx, ← hc, hy, hc2, hwo]
  rfl
theorem rxsLWH_7 {X : (Nat → Int → Int) → Prop} {S0 : Nat → Int → Int} {ws : List Int} (hP : rxPLWH S0 ws) : rx_obB X S0 rxCLWH.2.2.1 (rxILWH S0 ws) (rxmLWH S0 ws) 7 8 rxzLWH_7 6 (11, 0) (13, 0) 0 1023 := by
  intro S r hinv hXS I0 hin hs_ hf_
  have b_ := bx_bds_sat hs_
  have f_ := bx_fcl_ok hs_.1 hf_
  obtain ⟨⟨l8, u8⟩, ⟨l9, u9⟩, ⟨l10, u10⟩, ⟨l11, u11⟩, ⟨l12, u12⟩, ⟨l13, u13⟩, -⟩ := b_
  have g := rxbLWH_7 hP hin I0 hinv l8 u8 l9 u9 l10 u10 l11 u11 l12 u12 l13 u13
  rw [bx_x_ok hs_.1, bx_x_ok hs_.1]
  refine ⟨g.1, fun r' hr h0_ hv => ?_⟩
  have g2 := g.2 (r' 14) hv
  show _ ∧ rxILWH_8 S0 ws S (r' 8) (r' 9) (r' 10) (r' 11) (r' 12) (r' 13) (r' 14) ∧ rxmLWH_8 S0 ws S (r' 8) (r' 9) (r' 10) (r' 11) (r' 12) (r' 13) (r' 14) < _
  rw [hr 8 (by decide), hr 9 (by decide), hr 10 (by decide), hr 11 (by decide), hr 12 (by decide), hr 13 (by decide)]
  exact g2
theorem rxcLWH_0_0 {S0 : Nat → Int → Int} {ws : List Int} {S : Nat → Int → Int} (hP : rxPLWH S0 ws) (hin : bx_same rxL (bx_mdl rxCLWH.2.2.1) S0 S) (I0 : bx_Inv rxL S) (hinv : rxILWH_0 S0 ws S)  : (True) ∧ (True) ∧ rxILWH_1 S0 ws S ∧ rxmLWH_1 S0 ws S < rxmLWH_0 S0 ws S := by
  obtain ⟨rfl, hw⟩ := hinv
  exact ⟨trivial, trivial, rfl, by unfold rxmLWH_0 rxmLWH_1; omega⟩
theorem rxgLWH_0_0 {X : (Nat → Int → Int) → Prop} {S0 : Nat → Int → Int} {ws : List Int} (hP : rxPLWH S0 ws) : bx_obC rxL X S0 rxCLWH.2.2.1 (rxILWH S0 ws) (rxmLWH S0 ws) 0 rxzLWH_0 rxoLWH_0_0 := by
  intro S S' r r' hinv hX hin hsm_ hseg
  obtain ⟨I0, I1, h0_, hr_, b_, f_, d_⟩ := bx_cl (evs := []) (fvs := []) hseg (by decide +kernel) (by decide +kernel)
  have hinv : rxILWH_0 S0 ws S := hinv
  have w_ := d_
  subst w_
  have g := rxcLWH_0_0 hP hin I0 hinv 
  refine ⟨bx_narP_ok (l := []) g.1, bx_nfP_ok h0_ (fvs := []) (by decide +kernel) g.2.1, ?_, ?_⟩
  · show rxILWH_1 S0 ws S'
    exact g.2.2.1
  · show rxmLWH_1 S0 ws S' < rxmLWH_0 S0 ws S'
    exact g.2.2.2
theorem rxcLWH_2_0 {S0 : Nat → Int → Int} {ws : List Int} {S : Nat → Int → Int} {st : Int} (hP : rxPLWH S0 ws) (hin : bx_same rxL (bx_mdl rxCLWH.2.2.1) S0 S) (I0 : bx_Inv rxL S) (hinv : rxILWH_2 S0 ws S st) (l8 : 0 ≤ st) (u8 : st ≤ 2) : (True) ∧ (True) ∧ rxILWH_3 S0 ws S st st ∧ rxmLWH_3 S0 ws S st st < rxmLWH_2 S0 ws S st := by
  exact ⟨trivial, trivial, ⟨hinv.1, rfl, hinv.2⟩, by unfold rxmLWH_2 rxmLWH_3; omega⟩
theorem rxgLWH_2_0 {X : (Nat → Int → Int) → Prop} {S0 : Nat → Int → Int} {ws : List Int} (hP : rxPLWH S0 ws) : bx_obC rxL X S0 rxCLWH.2.2.1 (rxILWH S0 ws) (rxmLWH S0 ws) 2 rxzLWH_2 rxoLWH_2_0 := by
  intro S S' r r' hinv hX hin hsm_ hseg
  obtain ⟨I0, I1, h0_, hr_, b_, f_, d_⟩ := bx_cl (evs := []) (fvs := []) hseg (by decide +kernel) (by decide +kernel)
  have hinv : rxILWH_2 S0 ws S (r 8) := hinv
  rw [← hr_ 8 (by decide)] at hinv
  obtain ⟨⟨l8, u8⟩, -⟩ := b_
  have w_ := d_
  subst w_
  have g := rxcLWH_2_0 hP hin I0 hinv l8 u8
  refine ⟨bx_narP_ok (l := []) g.1, bx_nfP_ok h0_ (fvs := []) (by decide +kernel) g.2.1, ?_, ?_⟩
  · show rxILWH_3 S0 ws S' (bx_val [(0, 0), (0, 0), (0, 0), (0, 0), (0, 0), (0, 0), (0, 0), (0, 0), (8, 0), (8, 0)] r' 8) (bx_val [(0, 0), (0, 0), (0, 0), (0, 0), (0, 0), (0, 0), (0, 0), (0, 0), (8, 0), (8, 0)] r' 9)
    rw [bx_val_x (n := 8) (e := (8, 0)) h0_ rfl, bx_val_x (n := 9) (e := (8, 0)) h0_ rfl]
    exact g.2.2.1
  · show rxmLWH_3 S0 ws S' (bx_val [(0, 0), (0, 0), (0, 0), (0, 0), (0, 0), (0, 0), (0, 0), (0, 0), (8, 0), (8, 0)] r' 8) (bx_val [(0, 0), (0, 0), (0, 0), (0, 0), (0, 0), (0, 0), (0, 0), (0, 0), (8, 0), (8, 0)] r' 9) < rxmLWH_2 S0 ws S' (r 8)
    rw [bx_val_x (n := 8) (e := (8, 0)) h0_ rfl, bx_val_x (n := 9) (e := (8, 0)) h0_ rfl, ← hr_ 8 (by decide)]
    exact g.2.2.2
theorem rxcLWH_2_1 {S0 : Nat → Int → Int} {ws : List Int} {S : Nat → Int → Int} {st : Int} (hP : rxPLWH S0 ws) (hin : bx_same rxL (bx_mdl rxCLWH.2.2.1) S0 S) (I0 : bx_Inv rxL S) (hinv : rxILWH_2 S0 ws S st) (l8 : (-1) ≤ st) (u8 : st ≤ (-1)) : (True) ∧ (True) ∧ rxILWH_5 S0 ws S st 0 0 ∧ rxmLWH_5 S0 ws S st 0 0 < rxmLWH_2 S0 ws S st := by
  obtain ⟨h1, h⟩ := hinv
  exact ⟨trivial, trivial, ⟨h1, by omega, ldh_0.symm⟩, by unfold rxmLWH_2 rxmLWH_5; omega⟩
theorem rxgLWH_2_1 {X : (Nat → Int → Int) → Prop} {S0 : Nat → Int → Int} {ws : List Int} (hP : rxPLWH S0 ws) : bx_obC rxL X S0 rxCLWH.2.2.1 (rxILWH S0 ws) (rxmLWH S0 ws) 2 rxzLWH_2 rxoLWH_2_1 := by
  intro S S' r r' hinv hX hin hsm_ hseg
  obtain ⟨I0, I1, h0_, hr_, b_, f_, d_⟩ := bx_cl (evs := []) (fvs := []) hseg (by decide +kernel) (by decide +kernel)
  have hinv : rxILWH_2 S0 ws S (r 8) := hinv
  rw [← hr_ 8 (by decide)] at hinv
  obtain ⟨⟨l8, u8⟩, -⟩ := b_
  have w_ := d_
  subst w_
  have g := rxcLWH_2_1 hP hin I0 hinv l8 u8
  refine ⟨bx_narP_ok (l := []) g.1, bx_nfP_ok h0_ (fvs := []) (by decide +kernel) g.2.1, ?_, ?_⟩
  · show rxILWH_5 S0 ws S' (bx_val [(0, 0), (0, 0), (0, 0), (0, 0), (0, 0), (0, 0), (0, 0), (0, 0), (8, 0), (0, 0), (0, 0)] r' 8) (bx_val [(0, 0), (0, 0), (0, 0), (0, 0), (0, 0), (0, 0), (0, 0), (0, 0), (8, 0), (0, 0), (0, 0)] r' 9) (bx_val [(0, 0), (0, 0), (0, 0), (0, 0), (0, 0), (0, 0), (0, 0), (0, 0), (8, 0), (0, 0), (0, 0)] r' 10)
    rw [bx_val_x (n := 8) (e := (8, 0)) h0_ rfl, bx_val_x (n := 9) (e := (0, 0)) h0_ rfl, bx_val_x (n := 10) (e := (0, 0)) h0_ rfl]
    exact g.2.2.1
  · show rxmLWH_5 S0 ws S' (bx_val [(0, 0), (0, 0), (0, 0), (0, 0), (0, 0), (0, 0), (0, 0), (0, 0), (8, 0), (0, 0), (0, 0)] r' 8) (bx_val [(0, 0), (0, 0), (0, 0), (0, 0), (0, 0), (0, 0), (0, 0), (0, 0), (8, 0), (0, 0), (0, 0)] r' 9) (bx_val [(0, 0), (0, 0), (0, 0), (0, 0), (0, 0), (0, 0), (0, 0), (0, 0), (8, 0), (0, 0), (0, 0)] r' 10) < rxmLWH_2 S0 ws S' (r 8)
    rw [bx_val_x (n := 8) (e := (8, 0)) h0_ rfl, bx_val_x (n := 9) (e := (0, 0)) h0_ rfl, bx_val_x (n := 10) (e := (0, 0)) h0_ rfl, ← hr_ 8 (by decide)]
    exact g.2.2.2
theorem rxdLWH_4_0 {S0 : Nat → Int → Int} {ws : List Int} {S : Nat → Int → Int} {st a wo : Int} (hP : rxPLWH S0 ws) (hin : bx_same rxL (bx_mdl rxCLWH.2.2.1) S0 S) (hin2 : bx_same rxL (bx_mdl rxCLWH.2.2.1) S S) (I0 : bx_Inv rxL S) (I1 : bx_Inv rxL S) (hinv : rxILWH_4 S0 ws S st a wo) (l8 : 0 ≤ st) (u8 : st ≤ 2) (l9 : 0 ≤ a) (u9 : a ≤ 2) (l10 : 0 ≤ wo) (u10 : wo ≤ 1023) : (True) ∧ rxPSLWH S0 ws S (some wo) := by
  obtain ⟨rfl, h, hwo⟩ := hinv
  obtain ⟨h6, h7, hg, hm⟩ := hP
  have hb := ld451 I0
  refine ⟨trivial, rfl, congrArg some ?_⟩
  rw [hwo]
  refine congrArg Nat.cast (ldl_st h.symm l8 u8 ?_).symm
  rw [h]
  unfold lds
  split
  · omega
  · have b5 := ld455 I0 (j := S 451 6) h6 (by omega)
    have b6 := ld456 I0 (j := S 455 (S 451 6)) (by omega) (by omega)
    have b3 := ld453 I0 (j := S 455 (S 451 6)) (by omega) (by omega)
    exact hg _ (by omega) (by omega)
theorem rxfLWH_4_0 {X : (Nat → Int → Int) → Prop} {S0 : Nat → Int → Int} {ws : List Int} (hP : rxPLWH S0 ws) : bx_obE rxL X S0 rxCLWH.2.2.1 (rxILWH S0 ws) (rxPSLWH S0 ws) 4 rxzLWH_4 rxeLWH_4_0 := by
  intro S S' r r' hinv hX hin hsm_ hseg
  obtain ⟨I0, I1, h0_, hr_, b_, f_, d_⟩ := bx_cl (evs := []) (fvs := []) hseg (by decide +kernel) (by decide +kernel)
  have hinv : rxILWH_4 S0 ws S (r 8) (r 9) (r 10) := hinv
  rw [← hr_ 8 (by decide), ← hr_ 9 (by decide), ← hr_ 10 (by decide)] at hinv
  obtain ⟨⟨l8, u8⟩, ⟨l9, u9⟩, ⟨l10, u10⟩, -⟩ := b_
  have w_ := d_
  subst w_
  have g := rxdLWH_4_0 hP hin hsm_ I0 I1 hinv l8 u8 l9 u9 l10 u10
  refine ⟨bx_narP_ok (l := []) g.1, ?_⟩
  show rxPSLWH S0 ws S' (some (bx_num r' (.inr (0, (10, 0)))))
  rw [bx_xv_ok h0_]
  exact g.2
theorem rxcLWH_5_0 {S0 : Nat → Int → Int} {ws : List Int} {S : Nat → Int → Int} {st cd x x11 : Int} (hP : rxPLWH S0 ws) (hin : bx_same rxL (bx_mdl rxCLWH.2.2.1) S0 S) (I0 : bx_Inv rxL S) (hinv : rxILWH_5 S0 ws S st cd x) (l8 : (-1) ≤ st) (u8 : st ≤ (-1)) (l9 : 0 ≤ cd) (u9 : cd ≤ 1023) (l10 : 0 ≤ x) (u10 : x ≤ 2) (l11 : 1 ≤ x11) (u11 : x11 ≤ 3) (f0 : x < x11) (e0 : S 451 5 = x11) : (True) ∧ (True) ∧ rxILWH_6 S0 ws S st cd x cd x ∧ rxmLWH_6 S0 ws S st cd x cd x < rxmLWH_5 S0 ws S st cd x := by
  exact ⟨trivial, trivial, ⟨rfl, rfl, by omega, hinv⟩, by unfold rxmLWH_5 rxmLWH_6; omega⟩
theorem rxgLWH_5_0 {X : (Nat → Int → Int) → Prop} {S0 : Nat → Int → Int} {ws : List Int} (hP : rxPLWH S0 ws) : bx_obC rxL X S0 rxCLWH.2.2.1 (rxILWH S0 ws) (rxmLWH S0 ws) 5 rxzLWH_5 rxoLWH_5_0 := by
  intro S S' r r' hinv hX hin hsm_ hseg
  obtain ⟨I0, I1, h0_, hr_, b_, f_, d_⟩ := bx_cl (evs := [(0, (0, 451), (0, 5), .inr (0, (11, 0)))]) (fvs := [(0, (10, 0), (11, 0), (0, 0))]) hseg (by decide +kernel) (by decide +kernel)
  have hinv : rxILWH_5 S0 ws S (r 8) (r 9) (r 10) := hinv
  rw [← hr_ 8 (by decide), ← hr_ 9 (by decide), ← hr_ 10 (by decide)] at hinv
  obtain ⟨⟨l8, u8⟩, ⟨l9, u9⟩, ⟨l10, u10⟩, ⟨l11, u11⟩, -⟩ := b_
  obtain ⟨f0, -⟩ := f_
  obtain ⟨e0, w_⟩ := d_
  subst w_
  have g := rxcLWH_5_0 hP hin I0 hinv l8 u8 l9 u9 l10 u10 l11 u11 f0 e0
  refine ⟨bx_narP_ok (l := []) g.1, bx_nfP_ok h0_ (fvs := []) (by decide +kernel) g.2.1, ?_, ?_⟩
  · show rxILWH_6 S0 ws S' (bx_val [(0, 0), (0, 0), (0, 0), (0, 0), (0, 0), (0, 0), (0, 0), (0, 0), (8, 0), (9, 0), (10, 0), (9, 0), (10, 0)] r' 8) (bx_val [(0, 0), (0, 0), (0, 0), (0, 0), (0, 0), (0, 0), (0, 0), (0, 0), (8, 0), (9, 0), (10, 0), (9, 0), (10, 0)] r' 9) (bx_val [(0, 0), (0, 0), (0, 0), (0, 0), (0, 0), (0, 0), (0, 0), (0, 0), (8, 0), (9, 0), (10, 0), (9, 0), (10, 0)] r' 10) (bx_val [(0, 0), (0, 0), (0, 0), (0, 0), (0, 0), (0, 0), (0, 0), (0, 0), (8, 0), (9, 0), (10, 0), (9, 0), (10, 0)] r' 11) (bx_val [(0, 0), (0, 0), (0, 0), (0, 0), (0, 0), (0, 0), (0, 0), (0, 0), (8, 0), (9, 0), (10, 0), (9, 0), (10, 0)] r' 12)
    rw [bx_val_x (n := 8) (e := (8, 0)) h0_ rfl, bx_val_x (n := 9) (e := (9, 0)) h0_ rfl, bx_val_x (n := 10) (e := (10, 0)) h0_ rfl, bx_val_x (n := 11) (e := (9, 0)) h0_ rfl, bx_val_x (n := 12) (e := (10, 0)) h0_ rfl]
    exact g.2.2.1
  · show rxmLWH_6 S0 ws S' (bx_val [(0, 0), (0, 0), (0, 0), (0, 0), (0, 0), (0, 0), (0, 0), (0, 0), (8, 0), (9, 0), (10, 0), (9, 0), (10, 0)] r' 8) (bx_val [(0, 0), (0, 0), (0, 0), (0, 0), (0, 0), (0, 0), (0, 0), (0, 0), (8, 0), (9, 0), (10, 0), (9, 0), (10, 0)] r' 9) (bx_val [(0, 0), (0, 0), (0, 0), (0, 0), (0, 0), (0, 0), (0, 0), (0, 0), (8, 0), (9, 0), (10, 0), (9, 0), (10, 0)] r' 10) (bx_val [(0, 0), (0, 0), (0, 0), (0, 0), (0, 0), (0, 0), (0, 0), (0, 0), (8, 0), (9, 0), (10, 0), (9, 0), (10, 0)] r' 11) (bx_val [(0, 0), (0, 0), (0, 0), (0, 0), (0, 0), (0, 0), (0, 0), (0, 0), (8, 0), (9, 0), (10, 0), (9, 0), (10, 0)] r' 12) < rxmLWH_5 S0 ws S' (r 8) (r 9) (r 10)
    rw [bx_val_x (n := 8) (e := (8, 0)) h0_ rfl, bx_val_x (n := 9) (e := (9, 0)) h0_ rfl, bx_val_x (n := 10) (e := (10, 0)) h0_ rfl, bx_val_x (n := 11) (e := (9, 0)) h0_ rfl, bx_val_x (n := 12) (e := (10, 0)) h0_ rfl, ← hr_ 8 (by decide), ← hr_ 9 (by decide), ← hr_ 10 (by decide)]
    exact g.2.2.2
theorem rxdLWH_5_0 {S0 : Nat → Int → Int} {ws : List Int} {S : Nat → Int → Int} {st cd x x11 : Int} (hP : rxPLWH S0 ws) (hin : bx_same rxL (bx_mdl rxCLWH.2.2.1) S0 S) (hin2 : bx_same rxL (bx_mdl rxCLWH.2.2.1) S S) (I0 : bx_Inv rxL S) (I1 : bx_Inv rxL S) (hinv : rxILWH_5 S0 ws S st cd x) (l8 : (-1) ≤ st) (u8 : st ≤ (-1)) (l9 : 0 ≤ cd) (u9 : cd ≤ 1023) (l10 : 0 ≤ x) (u10 : x ≤ 3) (l11 : 0 ≤ x11) (u11 : x11 ≤ 3) (f0 : x11 ≤ x) (e0 : S 451 5 = x11) : (True) ∧ rxPSLWH S0 ws S (some cd) := by
  obtain ⟨rfl, h, hc⟩ := hinv
  refine ⟨trivial, rfl, congrArg some ?_⟩
  rw [← ldh_e (x := x) (by omega) h, ← hc]
  omega
theorem rxfLWH_5_0 {X : (Nat → Int → Int) → Prop} {S0 : Nat → Int → Int} {ws : List Int} (hP : rxPLWH S0 ws) : bx_obE rxL X S0 rxCLWH.2.2.1 (rxILWH S0 ws) (rxPSLWH S0 ws) 5 rxzLWH_5 rxeLWH_5_0 := by
  intro S S' r r' hinv hX hin hsm_ hseg
  obtain ⟨I0, I1, h0_, hr_, b_, f_, d_⟩ := bx_cl (evs := [(0, (0, 451), (0, 5), .inr (0, (11, 0)))]) (fvs := [(1, (11, 0), (10, 0), (0, 0))]) hseg (by decide +kernel) (by decide +kernel)
  have hinv : rxILWH_5 S0 ws S (r 8) (r 9) (r 10) := hinv
  rw [← hr_ 8 (by decide), ← hr_ 9 (by decide), ← hr_ 10 (by decide)] at hinv
  obtain ⟨⟨l8, u8⟩, ⟨l9, u9⟩, ⟨l10, u10⟩, ⟨l11, u11⟩, -⟩ := b_
  obtain ⟨f0, -⟩ := f_
  obtain ⟨e0, w_⟩ := d_
  subst w_
  have g := rxdLWH_5_0 hP hin hsm_ I0 I1 hinv l8 u8 l9 u9 l10 u10 l11 u11 f0 e0
  refine ⟨bx_narP_ok (l := []) g.1, ?_⟩
  show rxPSLWH S0 ws S' (some (bx_num r' (.inr (0, (9, 0)))))
  rw [bx_xv_ok h0_]
  exact g.2
theorem rxcLWH_8_0 {S0 : Nat → Int → Int} {ws : List Int} {S : Nat → Int → Int} {st cd x cd2 a wo y : Int} (hP : rxPLWH S0 ws) (hin : bx_same rxL (bx_mdl rxCLWH.2.2.1) S0 S) (I0 : bx_Inv rxL S) (hinv : rxILWH_8 S0 ws S st cd x cd2 a wo y) (l8 : (-1) ≤ st) (u8 : st ≤ (-1)) (l9 : 0 ≤ cd) (u9 : cd ≤ 1023) (l10 : 0 ≤ x) (u10 : x ≤ 2) (l11 : 0 ≤ cd2) (u11 : cd2 ≤ 1023) (l12 : 0 ≤ a) (u12 : a ≤ 2) (l13 : 0 ≤ wo) (u13 : wo ≤ 1023) (l14 : 0 ≤ y) (u14 : y ≤ 1023) : (True) ∧ (True) ∧ rxILWH_5 S0 ws S st y (x + 1) ∧ rxmLWH_5 S0 ws S st y (x + 1) < rxmLWH_8 S0 ws S st cd x cd2 a wo y := by
  exact ⟨trivial, trivial, hinv, by unfold rxmLWH_8 rxmLWH_5; omega⟩
theorem rxgLWH_8_0 {X : (Nat → Int → Int) → Prop} {S0 : Nat → Int → Int} {ws : List Int} (hP : rxPLWH S0 ws) : bx_obC rxL X S0 rxCLWH.2.2.1 (rxILWH S0 ws) (rxmLWH S0 ws) 8 rxzLWH_8 rxoLWH_8_0 := by
  intro S S' r r' hinv hX hin hsm_ hseg
  obtain ⟨I0, I1, h0_, hr_, b_, f_, d_⟩ := bx_cl (evs := []) (fvs := []) hseg (by decide +kernel) (by decide +kernel)
  have hinv : rxILWH_8 S0 ws S (r 8) (r 9) (r 10) (r 11) (r 12) (r 13) (r 14) := hinv
  rw [← hr_ 8 (by decide), ← hr_ 9 (by decide), ← hr_ 10 (by decide), ← hr_ 11 (by decide), ← hr_ 12 (by decide), ← hr_ 13 (by decide), ← hr_ 14 (by decide)] at hinv
  obtain ⟨⟨l8, u8⟩, ⟨l9, u9⟩, ⟨l10, u10⟩, ⟨l11, u11⟩, ⟨l12, u12⟩, ⟨l13, u13⟩, ⟨l14, u14⟩, -⟩ := b_
  have w_ := d_
  subst w_
  have g := rxcLWH_8_0 hP hin I0 hinv l8 u8 l9 u9 l10 u10 l11 u11 l12 u12 l13 u13 l14 u14
  refine ⟨bx_narP_ok (l := []) g.1, bx_nfP_ok h0_ (fvs := []) (by decide +kernel) g.2.1, ?_, ?_⟩
  · show rxILWH_5 S0 ws S' (bx_val [(0, 0), (0, 0), (0, 0), (0, 0), (0, 0), (0, 0), (0, 0), (0, 0), (8, 0), (14, 0), (10, 1)] r' 8) (bx_val [(0, 0), (0, 0), (0, 0), (0, 0), (0, 0), (0, 0), (0, 0), (0, 0), (8, 0), (14, 0), (10, 1)] r' 9) (bx_val [(0, 0), (0, 0), (0, 0), (0, 0), (0, 0), (0, 0), (0, 0), (0, 0), (8, 0), (14, 0), (10, 1)] r' 10)
    rw [bx_val_x (n := 8) (e := (8, 0)) h0_ rfl, bx_val_x (n := 9) (e := (14, 0)) h0_ rfl, bx_val_x (n := 10) (e := (10, 1)) h0_ rfl]
    exact g.2.2.1
  · show rxmLWH_5 S0 ws S' (bx_val [(0, 0), (0, 0), (0, 0), (0, 0), (0, 0), (0, 0), (0, 0), (0, 0), (8, 0), (14, 0), (10, 1)] r' 8) (bx_val [(0, 0), (0, 0), (0, 0), (0, 0), (0, 0), (0, 0), (0, 0), (0, 0), (8, 0), (14, 0), (10, 1)] r' 9) (bx_val [(0, 0), (0, 0), (0, 0), (0, 0), (0, 0), (0, 0), (0, 0), (0, 0), (8, 0), (14, 0), (10, 1)] r' 10) < rxmLWH_8 S0 ws S' (r 8) (r 9) (r 10) (r 11) (r 12) (r 13) (r 14)
    rw [bx_val_x (n := 8) (e := (8, 0)) h0_ rfl, bx_val_x (n := 9) (e := (14, 0)) h0_ rfl, bx_val_x (n := 10) (e := (10, 1)) h0_ rfl, ← hr_ 8 (by decide), ← hr_ 9 (by decide), ← hr_ 10 (by decide), ← hr_ 11 (by decide), ← hr_ 12 (by decide), ← hr_ 13 (by decide), ← hr_ 14 (by decide)]
    exact g.2.2.2
theorem rxgCLWH {X : (Nat → Int → Int) → Prop} {S0 : Nat → Int → Int} {ws : List Int} (hP : rxPLWH S0 ws) : bx_allI (fun i q => rxULWH q = true ∨ bx_allP (fun o => bx_obC rxL X S0 rxCLWH.2.2.1 (rxILWH S0 ws) (rxmLWH S0 ws) i q.1 o) q.2.1) 0 rxYLWH := ⟨Or.inr ⟨rxgLWH_0_0 hP, trivial⟩, Or.inl rfl, Or.inr ⟨rxgLWH_2_0 hP, rxgLWH_2_1 hP, trivial⟩, Or.inl rfl, Or.inr trivial, Or.inr ⟨rxgLWH_5_0 hP, trivial⟩, Or.inl rfl, Or.inl rfl, Or.inr ⟨rxgLWH_8_0 hP, trivial⟩, trivial⟩
theorem rxgELWH {X : (Nat → Int → Int) → Prop} {S0 : Nat → Int → Int} {ws : List Int} (hP : rxPLWH S0 ws) : bx_allI (fun i q => rxULWH q = true ∨ bx_allP (fun E => bx_obE rxL X S0 rxCLWH.2.2.1 (rxILWH S0 ws) (rxPSLWH S0 ws) i q.1 E) q.2.2) 0 rxYLWH := ⟨Or.inr trivial, Or.inl rfl, Or.inr trivial, Or.inl rfl, Or.inr ⟨rxfLWH_4_0 hP, trivial⟩, Or.inr ⟨rxfLWH_5_0 hP, trivial⟩, Or.inl rfl, Or.inl rfl, Or.inr trivial, trivial⟩
theorem rxuLWH {PX : State → Prop} {Dg : va_G} {A : Nat → Prop} {ad xa : Nat → Nat} {l : Launch} {X : (Nat → Int → Int) → Prop} (hPX : rx_PXOK rxNW A PX) (hX : ∀ S S1 : Nat → Int → Int, X S → bx_same rxL (bx_mdl rxCLWH.2.2.1) S S1 → X S1) (hQLSB : bx_ConP rxG rxNW rxAO PX Dg rxL X vwCl A ad l rxM57 rxCLSB rxPLSB rxPSLSB) (hQLWO : bx_ConP rxG rxNW rxAO PX Dg rxL X vwCl A ad l rxM51 rxCLWO rxPLWO rxPSLWO) {S0 : Nat → Int → Int} {ws : List Int} (hP : rxPLWH S0 ws) : ∀ (i : Nat) (q : bx_HE), rxYLWH[i]? = some q → rxULWH q = true → ∀ {p : Program} {e : Env} {R : Room} {s : State} {m : MethodId} {args : Array Value} {below : List Frame} {meth : Method} {c : Code} {Q : State → Prop} {H0 : Heap}, rx_Fr rxG rxNW rxAO PX p s m args meth c rxM54 → (∀ q, H0.size ≤ q → A q) → H0 = s.heap → rxM54.2.2.2.2.2.2.1 ≤ R.cells → rxM54.2.2.2.2.2.2.2 ≤ R.slots → rxCLWH.2.2.2.1 ≤ R.frames → rxCLWH.2.2.2.1 * 40 ≤ R.locals → bx_Step p l e R s m args below meth c Q Dg rxL X vwCl A xa H0 ad rxM54 rxYLWH (rxILWH S0 ws) (rxmLWH S0 ws) S0 rxCLWH.2.2.1 i q := by
  intro i q hq hus p e R s m args below meth c Q H0 hF hA hH0 hmc hms hd hdl
  match i, hq with
  | 0, hq =>
    cases hq
    exact absurd (show false = true from hus) Bool.false_ne_true
  | 1, hq =>
    cases hq
    exact rx_stepC (ins := .invokevirtual 99) (len := 3) (i' := 2) (M' := rxM57) (d := rxCLWH.2.2.2.1) (as := [.inr (3, (0, 451))]) (t := []) (ct := rxCLSB) hPX hF rfl hA hH0 hmc hms hd hdl (by decide +kernel) rfl rfl (by decide +kernel) (by decide +kernel) hQLSB (by decide +kernel) rfl (Or.inr ⟨_, _, _, 1, rfl, rfl, by omega, rfl, rfl, rfl⟩) (rxsLWH_1 hP)
  | 2, hq =>
    cases hq
    exact absurd (show false = true from hus) Bool.false_ne_true
  | 3, hq =>
    cases hq
    exact rx_stepC (ins := .invokevirtual 102) (len := 3) (i' := 4) (M' := rxM51) (d := rxCLWH.2.2.2.1) (as := [.inr (3, (0, 451)), .inr (0, (9, 0))]) (t := []) (ct := rxCLWO) hPX hF rfl hA hH0 hmc hms hd hdl (by decide +kernel) rfl rfl (by decide +kernel) (by decide +kernel) hQLWO (by decide +kernel) rfl (Or.inr ⟨_, _, _, 1, rfl, rfl, by omega, rfl, rfl, rfl⟩) (rxsLWH_3 hP)
  | 4, hq =>
    cases hq
    exact absurd (show false = true from hus) Bool.false_ne_true
  | 5, hq =>
    cases hq
    exact absurd (show false = true from hus) Bool.false_ne_true
  | 6, hq =>
    cases hq
    exact rx_stepC (ins := .invokevirtual 102) (len := 3) (i' := 7) (M' := rxM51) (d := rxCLWH.2.2.2.1) (as := [.inr (3, (0, 451)), .inr (0, (12, 0))]) (t := [.inr (0, (11, 0))]) (ct := rxCLWO) hPX hF rfl hA hH0 hmc hms hd hdl (by decide +kernel) rfl rfl (by decide +kernel) (by decide +kernel) hQLWO (by decide +kernel) rfl (Or.inr ⟨_, _, _, 1, rfl, rfl, by omega, rfl, rfl, rfl⟩) (rxsLWH_6 hP)
  | 7, hq =>
    cases hq
    exact rx_stepB (i' := 8) (o := 6) (a := (11, 0)) (b := (13, 0)) (lo := 0) (hi := 1023) (t := []) hF (Or.inr (Or.inr (Or.inr ⟨rfl, rfl⟩))) (by decide +kernel) rfl rfl rfl rfl (rxsLWH_7 hP)
  | 8, hq =>
    cases hq
    exact absurd (show false = true from hus) Bool.false_ne_true
  | n + 9, hq => cases hq
theorem rxQLWH {PX : State → Prop} {Dg : va_G} {A : Nat → Prop} {ad xa : Nat → Nat} {l : Launch} {X : (Nat → Int → Int) → Prop} (hPX : rx_PXOK rxNW A PX) (hsl : ∀ s : State, PX s → ∀ o idx n : Nat, rxSl o idx = some n → ∃ tx : String, vk_R (rxNm o) idx tx (ad n) s)
    (hX : ∀ S S' : Nat → Int → Int, X S → bx_same rxL (bx_mdl rxCLWH.2.2.1) S S' → X S')
    (ih : ∀ (j2 : Nat) (ct2 : bx_Ct) (M2 : rx_Mt), ct2 ∈ rxCnE j2 → ct2.2.2.2.1 + 1 ≤ rxCLWH.2.2.2.1 → rxT.2.2.2.2.2 j2 = some M2 → bx_Con rxG rxNW rxAO PX Dg rxL X vwCl A ad l M2 ct2) (hQLSB : bx_ConP rxG rxNW rxAO PX Dg rxL X vwCl A ad l rxM57 rxCLSB rxPLSB rxPSLSB) (hQLWO : bx_ConP rxG rxNW rxAO PX Dg rxL X vwCl A ad l rxM51 rxCLWO rxPLWO rxPSLWO) : bx_ConP rxG rxNW rxAO PX Dg rxL X vwCl A ad l rxM54 rxCLWH rxPLWH rxPSLWH :=
  rxQof (xa := xa) (Cn := rxCnE) (f := 30000) (j := 54) (tab := rxYLWH) (us := rxULWH) hPX hsl hX ih rfl rxYcLWH rxILWH rxmLWH
    (fun S0 ws r I0 I ht0 ht as he he1 hX0 hI0 hP hs ha => by
      have e := he.symm.trans (show bx_ent0 rxNP rxCLWH.1 bx_I0 [] = some ([(0, 0), (0, 0), (0, 0), (0, 0), (0, 0), (0, 0), (0, 0), (0, 0)], [], [.inr (3, (0, 451))]) from rfl)
      cases e
      subst ha
      have h0 : r 0 = 0 := hs.1
      show rxILWH_0 S0 _ S0
      refine ⟨rfl, ?_⟩
      simp only [List.map_cons, List.map_nil, bx_xv_ok h0]
      rfl)
    (fun S0 ws hP => rxuLWH (xa := xa) hPX hX hQLSB hQLWO hP) (fun S0 ws hP => rxgCLWH hP) (fun S0 ws hP => rxgELWH hP)
