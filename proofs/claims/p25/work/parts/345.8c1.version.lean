/-! CONTRACT BY HAND, by program (wip/sim/genhand.py): DeadUnderstudies.version -/
def rxIVRD_0 (S0 : Nat → Int → Int) (ws : List Int) (S : Nat → Int → Int) (vs wh : Int) : Prop := S = S0 ∧ ws = [0, vs, wh]
def rxmVRD_0 (S0 : Nat → Int → Int) (ws : List Int) (S : Nat → Int → Int) (vs wh : Int) : Nat := 100
def rxzVRD_0 : rx_Z := ([(0, 0), (0, 0), (0, 0), (0, 0), (0, 0), (0, 0), (0, 0), (0, 0), ((-2147483648), 2147483647), ((-2147483648), 2147483647)], [], [], 0, 0, 0, [(0, .inr (3, (0, 0))), (1, .inr (0, (8, 0))), (2, .inr (0, (9, 0)))], [])
def rxIVRD_1 (S0 : Nat → Int → Int) (ws : List Int) (S : Nat → Int → Int) (vs wh : Int) : Prop := S = S0 ∧ ws = [0, vs, wh] ∧ vs < S0 1 5
def rxmVRD_1 (S0 : Nat → Int → Int) (ws : List Int) (S : Nat → Int → Int) (vs wh : Int) : Nat := 90
def rxzVRD_1 : rx_Z := ([(0, 0), (0, 0), (0, 0), (0, 0), (0, 0), (0, 0), (0, 0), (0, 0), (0, 11), ((-2147483648), 2147483647)], [], [], 0, 0, 18, [(0, .inr (3, (0, 0))), (1, .inr (0, (8, 0))), (2, .inr (0, (9, 0)))], [.inr (0, (8, 0)), .inr (3, (0, 1))])
def rxIVRD_2 (S0 : Nat → Int → Int) (ws : List Int) (S : Nat → Int → Int) (vs wh sv : Int) : Prop := S = S0 ∧ ws = [0, vs, wh] ∧ vs < S0 1 5 ∧ sv = 41 + 3 * vs
def rxmVRD_2 (S0 : Nat → Int → Int) (ws : List Int) (S : Nat → Int → Int) (vs wh sv : Int) : Nat := 80
def rxzVRD_2 : rx_Z := ([(0, 0), (0, 0), (0, 0), (0, 0), (0, 0), (0, 0), (0, 0), (0, 0), (0, 11), ((-2147483648), 2147483647), (0, 1522)], [], [(((10, 0), 1000010), .inl none)], 0, 0, 21, [(0, .inr (3, (0, 0))), (1, .inr (0, (8, 0))), (2, .inr (0, (9, 0)))], [.inr (3, (10, 0))])
def rxIVRD_3 (S0 : Nat → Int → Int) (ws : List Int) (S : Nat → Int → Int) (vs wh sv : Int) : Prop := S = S0 ∧ ws = [0, vs, wh] ∧ vs < S0 1 5 ∧ sv = 41 + 3 * vs
def rxmVRD_3 (S0 : Nat → Int → Int) (ws : List Int) (S : Nat → Int → Int) (vs wh sv : Int) : Nat := 70
def rxzVRD_3 : rx_Z := ([(0, 0), (0, 0), (0, 0), (0, 0), (0, 0), (0, 0), (0, 0), (0, 0), (0, 11), (3, 3), (0, 1522)], [], [(((10, 0), 1000010), .inl none)], 0, 0, 87, [(0, .inr (3, (0, 0))), (1, .inr (0, (8, 0))), (2, .inr (0, (9, 0))), (3, .inr (3, (10, 0)))], [.inr (3, (10, 0))])
def rxIVRD_4 (S0 : Nat → Int → Int) (ws : List Int) (S : Nat → Int → Int) (vs wh sv n : Int) : Prop := ws = [0, vs, wh] ∧ vs < S0 1 5 ∧ n = rjCn (fun t => decide (0 ≤ S0 (42 + 3 * vs).toNat t)) 36
def rxmVRD_4 (S0 : Nat → Int → Int) (ws : List Int) (S : Nat → Int → Int) (vs wh sv n : Int) : Nat := 60
def rxzVRD_4 : rx_Z := ([(0, 0), (0, 0), (0, 0), (0, 0), (0, 0), (0, 0), (0, 0), (0, 0), (0, 11), (3, 3), (0, 1522), ((-2147483648), 2147483647)], [], [(((10, 0), 1000010), .inl none)], 0, 0, 90, [(0, .inr (3, (0, 0))), (1, .inr (0, (8, 0))), (2, .inr (0, (9, 0))), (3, .inr (3, (10, 0)))], [.inr (0, (11, 0))])
def rxIVRD_5 (S0 : Nat → Int → Int) (ws : List Int) (S : Nat → Int → Int) (vs wh sv pt : Int) : Prop := S = S0 ∧ ws = [0, vs, wh] ∧ vs < S0 1 5 ∧ sv = 41 + 3 * vs ∧ pt = S0 9 vs
def rxmVRD_5 (S0 : Nat → Int → Int) (ws : List Int) (S : Nat → Int → Int) (vs wh sv pt : Int) : Nat := 70
def rxzVRD_5 : rx_Z := ([(0, 0), (0, 0), (0, 0), (0, 0), (0, 0), (0, 0), (0, 0), (0, 0), (0, 11), (4, 4), (0, 1522), (0, 5)], [], [(((10, 0), 1000010), .inl none)], 0, 0, 105, [(0, .inr (3, (0, 0))), (1, .inr (0, (8, 0))), (2, .inr (0, (9, 0))), (3, .inr (3, (10, 0)))], [.inr (0, (11, 0)), .inr (3, (0, 1)), .inr (3, (10, 0))])
def rxIVRD_6 (S0 : Nat → Int → Int) (ws : List Int) (S : Nat → Int → Int) (vs wh sv pt sp : Int) : Prop := S = S0 ∧ ws = [0, vs, wh] ∧ vs < S0 1 5 ∧ sv = 41 + 3 * vs ∧ pt = S0 9 vs ∧ sp = 23 + 3 * pt
def rxmVRD_6 (S0 : Nat → Int → Int) (ws : List Int) (S : Nat → Int → Int) (vs wh sv pt sp : Int) : Nat := 60
def rxzVRD_6 : rx_Z := ([(0, 0), (0, 0), (0, 0), (0, 0), (0, 0), (0, 0), (0, 0), (0, 0), (0, 11), (4, 4), (0, 1522), (0, 5), (0, 1522)], [], [(((12, 0), 1000010), .inl none), (((10, 0), 1000010), .inl none)], 0, 0, 108, [(0, .inr (3, (0, 0))), (1, .inr (0, (8, 0))), (2, .inr (0, (9, 0))), (3, .inr (3, (10, 0)))], [.inr (3, (12, 0)), .inr (3, (10, 0))])
def rxIVRD_7 (S0 : Nat → Int → Int) (ws : List Int) (S : Nat → Int → Int) (vs wh sv pt sp n : Int) : Prop := ws = [0, vs, wh] ∧ vs < S0 1 5 ∧ n = rjCn (fun t => decide (S0 (42 + 3 * vs).toNat t ≠ S0 (24 + 3 * S0 9 vs).toNat t ∨ S0 (43 + 3 * vs).toNat t ≠ S0 (25 + 3 * S0 9 vs).toNat t)) 36
def rxmVRD_7 (S0 : Nat → Int → Int) (ws : List Int) (S : Nat → Int → Int) (vs wh sv pt sp n : Int) : Nat := 50
def rxzVRD_7 : rx_Z := ([(0, 0), (0, 0), (0, 0), (0, 0), (0, 0), (0, 0), (0, 0), (0, 0), (0, 11), (4, 4), (0, 1522), (0, 5), (0, 1522), ((-2147483648), 2147483647)], [], [(((12, 0), 1000010), .inl none), (((10, 0), 1000010), .inl none)], 0, 0, 111, [(0, .inr (3, (0, 0))), (1, .inr (0, (8, 0))), (2, .inr (0, (9, 0))), (3, .inr (3, (10, 0)))], [.inr (0, (13, 0))])
def rxoVRD_0_0 : bx_HO := (([(0, 0), (0, 0), (0, 0), (0, 0), (0, 0), (0, 0), (0, 0), (0, 0), (0, 11), ((-2147483648), 2147483647), (1, 12)], [(0, (8, 0), (10, 0))], [(((0, 0), 1851192626986356798427873864310897359480125337295219445323071488000000), .inr (0, (10, 0))), (((0, 1), 5), .inr (0, (10, 0))), (((0, 0), 0), .inr (3, (0, 1)))], 0, 0, 18, [(0, .inr (3, (0, 0))), (1, .inr (0, (8, 0))), (2, .inr (0, (9, 0)))], [.inr (0, (8, 0)), .inr (3, (0, 1))]), [], [], [(0, 0), (0, 0), (0, 0), (0, 0), (0, 0), (0, 0), (0, 0), (0, 0), (8, 0), (9, 0)], 1)
def rxeVRD_0_0 : rx_End × List (Nat × Int × Int) := (([(0, 0), (0, 0), (0, 0), (0, 0), (0, 0), (0, 0), (0, 0), (0, 0), ((-2147483648), (-1)), ((-2147483648), 2147483647)], [], [(((0, 0), 0), .inr (3, (0, 1)))], some (.inr (0, (0, (-1))))), [])
def rxeVRD_0_1 : rx_End × List (Nat × Int × Int) := (([(0, 0), (0, 0), (0, 0), (0, 0), (0, 0), (0, 0), (0, 0), (0, 0), (0, 2147483647), ((-2147483648), 2147483647), (0, 12)], [(1, (10, 0), (8, 0))], [(((0, 0), 1851192626986356798427873864310897359480125337295219445323071488000000), .inr (0, (10, 0))), (((0, 1), 5), .inr (0, (10, 0))), (((0, 0), 0), .inr (3, (0, 1)))], some (.inr (0, (0, (-1))))), [])
def rxoVRD_2_0 : bx_HO := (([(0, 0), (0, 0), (0, 0), (0, 0), (0, 0), (0, 0), (0, 0), (0, 0), (0, 11), (4, 4), (0, 1522), (0, 5)], [], [(((0, 0), 1851192626986356797424364830707437625680387377997778264869896192000000), .inr (0, (11, 0))), (((0, 1), 6), .inr (3, (0, 9))), (((0, 0), 0), .inr (3, (0, 1))), (((10, 0), 1000010), .inl none)], 0, 0, 105, [(3, .inr (3, (10, 0))), (0, .inr (3, (0, 0))), (1, .inr (0, (8, 0))), (2, .inr (0, (9, 0)))], [.inr (0, (11, 0)), .inr (3, (0, 1)), .inr (3, (10, 0))]), [], [], [(0, 0), (0, 0), (0, 0), (0, 0), (0, 0), (0, 0), (0, 0), (0, 0), (8, 0), (9, 0), (10, 0), (11, 0)], 5)
def rxoVRD_2_1 : bx_HO := (([(0, 0), (0, 0), (0, 0), (0, 0), (0, 0), (0, 0), (0, 0), (0, 0), (0, 11), (3, 3), (0, 1522)], [], [(((10, 0), 1000010), .inl none)], 0, 0, 87, [(3, .inr (3, (10, 0))), (0, .inr (3, (0, 0))), (1, .inr (0, (8, 0))), (2, .inr (0, (9, 0)))], [.inr (3, (10, 0))]), [], [], [(0, 0), (0, 0), (0, 0), (0, 0), (0, 0), (0, 0), (0, 0), (0, 0), (8, 0), (9, 0), (10, 0)], 3)
def rxeVRD_2_0 : rx_End × List (Nat × Int × Int) := (([(0, 0), (0, 0), (0, 0), (0, 0), (0, 0), (0, 0), (0, 0), (0, 0), (0, 11), (5, 2147483647), (0, 1522)], [], [(((10, 0), 1000010), .inl none)], some (.inr (0, (0, (-1))))), [])
def rxeVRD_2_1 : rx_End × List (Nat × Int × Int) := (([(0, 0), (0, 0), (0, 0), (0, 0), (0, 0), (0, 0), (0, 0), (0, 0), (0, 11), ((-2147483648), (-1)), (0, 1522)], [], [(((10, 0), 1000010), .inl none)], some (.inr (0, (0, (-1))))), [])
def rxeVRD_2_2 : rx_End × List (Nat × Int × Int) := (([(0, 0), (0, 0), (0, 0), (0, 0), (0, 0), (0, 0), (0, 0), (0, 0), (0, 11), (2, 2), (0, 1522), ((-1), 10)], [], [(((0, 0), 1851192626986356797424364830707437625680387377997778264871075840000000), .inr (0, (11, 0))), (((0, 1), 8), .inr (3, (0, 11))), (((0, 0), 0), .inr (3, (0, 1))), (((10, 0), 1000010), .inl none)], some (.inr (0, (11, 0)))), [])
def rxeVRD_2_3 : rx_End × List (Nat × Int × Int) := (([(0, 0), (0, 0), (0, 0), (0, 0), (0, 0), (0, 0), (0, 0), (0, 0), (0, 11), (1, 1), (0, 1522), (0, 7)], [], [(((0, 0), 1851192626986356797424364830707437625680387377997778264870486016000000), .inr (0, (11, 0))), (((0, 1), 7), .inr (3, (0, 10))), (((0, 0), 0), .inr (3, (0, 1))), (((10, 0), 1000010), .inl none)], some (.inr (0, (11, 0)))), [])
def rxeVRD_2_4 : rx_End × List (Nat × Int × Int) := (([(0, 0), (0, 0), (0, 0), (0, 0), (0, 0), (0, 0), (0, 0), (0, 0), (0, 11), (0, 0), (0, 1522), (0, 5)], [], [(((0, 0), 1851192626986356797424364830707437625680387377997778264869896192000000), .inr (0, (11, 0))), (((0, 1), 6), .inr (3, (0, 9))), (((0, 0), 0), .inr (3, (0, 1))), (((10, 0), 1000010), .inl none)], some (.inr (0, (11, 0)))), [])
def rxeVRD_4_0 : rx_End × List (Nat × Int × Int) := (([(0, 0), (0, 0), (0, 0), (0, 0), (0, 0), (0, 0), (0, 0), (0, 0), (0, 11), (3, 3), (0, 1522), ((-2147483648), 2147483647)], [], [(((10, 0), 1000010), .inl none)], some (.inr (0, (11, 0)))), [])
def rxeVRD_7_0 : rx_End × List (Nat × Int × Int) := (([(0, 0), (0, 0), (0, 0), (0, 0), (0, 0), (0, 0), (0, 0), (0, 0), (0, 11), (4, 4), (0, 1522), (0, 5), (0, 1522), ((-2147483648), 2147483647)], [], [(((12, 0), 1000010), .inl none), (((10, 0), 1000010), .inl none)], some (.inr (0, (13, 0)))), [])
def rxYVRD : List bx_HE := [(rxzVRD_0, [rxoVRD_0_0], [rxeVRD_0_0, rxeVRD_0_1]), (rxzVRD_1, [], []), (rxzVRD_2, [rxoVRD_2_0, rxoVRD_2_1], [rxeVRD_2_0, rxeVRD_2_1, rxeVRD_2_2, rxeVRD_2_3, rxeVRD_2_4]), (rxzVRD_3, [], []), (rxzVRD_4, [], [rxeVRD_4_0]), (rxzVRD_5, [], []), (rxzVRD_6, [], []), (rxzVRD_7, [], [rxeVRD_7_0])]
def rxUVRD (q : bx_HE) : Bool := Nat.beq (rx_zpc q.1) 18 || Nat.beq (rx_zpc q.1) 87 || Nat.beq (rx_zpc q.1) 105 || Nat.beq (rx_zpc q.1) 108
def rxYBVRD : bx_B := (rxV, rxNP, rxDmf, bx_mdH rxC163.2.2.1)
set_option maxRecDepth 100000 in
theorem rxYcVRD : bx_chkH rxYBVRD rxM163 rxC163 rxYVRD (rxUVRD, fun cut z => rx_ex2 (rxCT rxYBVRD rxCnE) cut 30000 rxC163.2.2.2.1 163 z) = true := by decide +kernel
def rxIVRD (S0 : Nat → Int → Int) (ws : List Int) (i : Nat) : bx_SP := fun S r => match i with | 0 => rxIVRD_0 S0 ws S (r 8) (r 9) | 1 => rxIVRD_1 S0 ws S (r 8) (r 9) | 2 => rxIVRD_2 S0 ws S (r 8) (r 9) (r 10) | 3 => rxIVRD_3 S0 ws S (r 8) (r 9) (r 10) | 4 => rxIVRD_4 S0 ws S (r 8) (r 9) (r 10) (r 11) | 5 => rxIVRD_5 S0 ws S (r 8) (r 9) (r 10) (r 11) | 6 => rxIVRD_6 S0 ws S (r 8) (r 9) (r 10) (r 11) (r 12) | 7 => rxIVRD_7 S0 ws S (r 8) (r 9) (r 10) (r 11) (r 12) (r 13) | _ => False
def rxmVRD (S0 : Nat → Int → Int) (ws : List Int) (i : Nat) (S : Nat → Int → Int) (r : Nat → Int) : Nat := match i with | 0 => rxmVRD_0 S0 ws S (r 8) (r 9) | 1 => rxmVRD_1 S0 ws S (r 8) (r 9) | 2 => rxmVRD_2 S0 ws S (r 8) (r 9) (r 10) | 3 => rxmVRD_3 S0 ws S (r 8) (r 9) (r 10) | 4 => rxmVRD_4 S0 ws S (r 8) (r 9) (r 10) (r 11) | 5 => rxmVRD_5 S0 ws S (r 8) (r 9) (r 10) (r 11) | 6 => rxmVRD_6 S0 ws S (r 8) (r 9) (r 10) (r 11) (r 12) | 7 => rxmVRD_7 S0 ws S (r 8) (r 9) (r 10) (r 11) (r 12) (r 13) | _ => 0
def rxPVRD (S0 : Nat → Int → Int) (ws : List Int) : Prop := rkPl S0
def rxPSVRD (S0 : Nat → Int → Int) (ws : List Int) (S : Nat → Int → Int) (w : Option Int) : Prop := ∃ vs wh : Int, ws = [0, vs, wh] ∧ (((vs < 0 ∨ S0 1 5 ≤ vs ∨ wh < 0 ∨ 4 < wh) ∧ w = some (-1)) ∨ ((0 ≤ vs ∧ vs < S0 1 5) ∧ wh = 0 ∧ w = some (S0 9 vs)) ∨ ((0 ≤ vs ∧ vs < S0 1 5) ∧ wh = 1 ∧ w = some (S0 10 vs)) ∨ ((0 ≤ vs ∧ vs < S0 1 5) ∧ wh = 2 ∧ w = some (S0 11 vs)) ∨ ((0 ≤ vs ∧ vs < S0 1 5) ∧ wh = 3 ∧ w = some (rjCn (fun t => decide (0 ≤ S0 (42 + 3 * vs).toNat t)) 36)) ∨ ((0 ≤ vs ∧ vs < S0 1 5) ∧ wh = 4 ∧ w = some (rjCn (fun t => decide (S0 (42 + 3 * vs).toNat t ≠ S0 (24 + 3 * S0 9 vs).toNat t ∨ S0 (43 + 3 * vs).toNat t ≠ S0 (25 + 3 * S0 9 vs).toNat t)) 36)))
theorem rxkVRD_1 {S0 : Nat → Int → Int} {ws : List Int} {S : Nat → Int → Int} {vs wh : Int} (hP : rxPVRD S0 ws) (hin : bx_same rxL (bx_mdl rxC163.2.2.1) S0 S) (I0 : bx_Inv rxL S) (hinv : rxIVRD_1 S0 ws S vs wh) (l8 : 0 ≤ vs) (u8 : vs ≤ 11) (l9 : (-2147483648) ≤ wh) (u9 : wh ≤ 2147483647) : rxPSOV S [1, vs] ∧ ∀ (S_p : Nat → Int → Int) (sv : Int), 0 ≤ sv → sv ≤ 1522 → rxPSSOV S [1, vs] S_p (some sv) → bx_Inv rxL S_p → bx_same rxL (bx_mdl rxCSOV.2.2.1) S S_p → rxIVRD_2 S0 ws S_p vs wh sv ∧ rxmVRD_2 S0 ws S_p vs wh sv < rxmVRD_1 S0 ws S vs wh := by
  obtain ⟨rfl, hw, hp⟩ := hinv
  have hpl : rkPl S := hP
  refine ⟨trivial, fun S_p sv _ _ hq _ hsm => ⟨?_, by unfold rxmVRD_1 rxmVRD_2; omega⟩⟩
  obtain ⟨hS, k2, hw3, hv2⟩ := hq
  subst hS
  have k1 : vs = k2 := Option.some.inj (congrArg (fun l : List Int => l[1]?) hw3)
  subst k1
  obtain ⟨z4, -⟩ := hpl.2.1.2 vs.toNat (by omega)
  rw [Int.toNat_of_nonneg (show 0 ≤ vs by omega)] at z4
  exact ⟨rfl, hw, hp, (Option.some.inj hv2).trans (z4.trans (by omega))⟩
theorem rxsVRD_1 {X : (Nat → Int → Int) → Prop} {S0 : Nat → Int → Int} {ws : List Int} (hP : rxPVRD S0 ws) : rx_obK X S0 rxC163.2.2.1 rxCSOV.2.2.1 (rxIVRD S0 ws) (rxmVRD S0 ws) 1 2 rxzVRD_1 rxzVRD_2 [.inr (3, (0, 1)), .inr (0, (8, 0))] (some 10) rxPSOV rxPSSOV := by
  intro S r hinv hXS I0 hin hs_ hf_
  have b_ := bx_bds_sat hs_
  have f_ := bx_fcl_ok hs_.1 hf_
  obtain ⟨⟨l8, u8⟩, ⟨l9, u9⟩, -⟩ := b_
  have g := rxkVRD_1 hP hin I0 hinv l8 u8 l9 u9
  have ea : List.map (bx_num r) [.inr (3, (0, 1)), .inr (0, (8, 0))] = [1, (r 8)] := by
    simp only [List.map_cons, List.map_nil, bx_xv_ok hs_.1]
    rfl
  rw [ea]
  refine ⟨g.1, fun S_p w r_p hPS hX_p I1 hsm hr hw hs_p => ?_⟩
  have hw := hw _ rfl
  subst hw
  have b_p := hs_p.2.2 10 _ _ rfl
  have g2 := g.2 S_p (r_p 10) b_p.1 b_p.2 hPS I1 hsm
  show rxIVRD_2 S0 ws S_p (r_p 8) (r_p 9) (r_p 10) ∧ rxmVRD_2 S0 ws S_p (r_p 8) (r_p 9) (r_p 10) < _
  rw [hr 8 (by decide), hr 9 (by decide)]
  exact g2
theorem rxkVRD_3 {S0 : Nat → Int → Int} {ws : List Int} {S : Nat → Int → Int} {vs wh sv : Int} (hP : rxPVRD S0 ws) (hin : bx_same rxL (bx_mdl rxC163.2.2.1) S0 S) (I0 : bx_Inv rxL S) (hinv : rxIVRD_3 S0 ws S vs wh sv) (l8 : 0 ≤ vs) (u8 : vs ≤ 11) (l9 : 3 ≤ wh) (u9 : wh ≤ 3) (l10 : 0 ≤ sv) (u10 : sv ≤ 1522) : rxPFIL S [sv] ∧ ∀ (S_p : Nat → Int → Int) (n : Int), (-2147483648) ≤ n → n ≤ 2147483647 → rxPSFIL S [sv] S_p (some n) → bx_Inv rxL S_p → bx_same rxL (bx_mdl rxCFIL.2.2.1) S S_p → rxIVRD_4 S0 ws S_p vs wh sv n ∧ rxmVRD_4 S0 ws S_p vs wh sv n < rxmVRD_3 S0 ws S vs wh sv := by
  obtain ⟨rfl, hw, hp, hs⟩ := hinv
  have hpl : rkPl S := hP
  obtain ⟨z0, -⟩ := rjd_px hpl (a := 6 + vs) (by omega) (by omega)
  rw [show 23 + 3 * (6 + vs) = 41 + 3 * vs by omega] at z0
  subst hs
  refine ⟨⟨_, rfl, z0.trans (by omega)⟩, fun S_p n _ _ hq _ hsm => ⟨⟨hw, hp, ?_⟩, by unfold rxmVRD_3 rxmVRD_4; omega⟩⟩
  obtain ⟨hS, sc2, hw3, hv⟩ := hq
  have k1 : 41 + 3 * vs = sc2 := Option.some.inj (congrArg (fun l : List Int => l[0]?) hw3)
  subst k1
  rw [show 41 + 3 * vs + 1 = 42 + 3 * vs by omega] at hv
  exact Option.some.inj hv
theorem rxsVRD_3 {X : (Nat → Int → Int) → Prop} {S0 : Nat → Int → Int} {ws : List Int} (hP : rxPVRD S0 ws) : rx_obK X S0 rxC163.2.2.1 rxCFIL.2.2.1 (rxIVRD S0 ws) (rxmVRD S0 ws) 3 4 rxzVRD_3 rxzVRD_4 [.inr (3, (10, 0))] (some 11) rxPFIL rxPSFIL := by
  intro S r hinv hXS I0 hin hs_ hf_
  have b_ := bx_bds_sat hs_
  have f_ := bx_fcl_ok hs_.1 hf_
  obtain ⟨⟨l8, u8⟩, ⟨l9, u9⟩, ⟨l10, u10⟩, -⟩ := b_
  have g := rxkVRD_3 hP hin I0 hinv l8 u8 l9 u9 l10 u10
  have ea : List.map (bx_num r) [.inr (3, (10, 0))] = [(r 10)] := by
    simp only [List.map_cons, List.map_nil, bx_xv_ok hs_.1]
    rfl
  rw [ea]
  refine ⟨g.1, fun S_p w r_p hPS hX_p I1 hsm hr hw hs_p => ?_⟩
  have hw := hw _ rfl
  subst hw
  have b_p := hs_p.2.2 11 _ _ rfl
  have g2 := g.2 S_p (r_p 11) b_p.1 b_p.2 hPS I1 hsm
  show rxIVRD_4 S0 ws S_p (r_p 8) (r_p 9) (r_p 10) (r_p 11) ∧ rxmVRD_4 S0 ws S_p (r_p 8) (r_p 9) (r_p 10) (r_p 11) < _
  rw [hr 8 (by decide), hr 9 (by decide), hr 10 (by decide)]
  exact g2
theorem rxkVRD_5 {S0 : Nat → Int → Int} {ws : List Int} {S : Nat → Int → Int} {vs wh sv pt : Int} (hP : rxPVRD S0 ws) (hin : bx_same rxL (bx_mdl rxC163.2.2.1) S0 S) (I0 : bx_Inv rxL S) (hinv : rxIVRD_5 S0 ws S vs wh sv pt) (l8 : 0 ≤ vs) (u8 : vs ≤ 11) (l9 : 4 ≤ wh) (u9 : wh ≤ 4) (l10 : 0 ≤ sv) (u10 : sv ≤ 1522) (l11 : 0 ≤ pt) (u11 : pt ≤ 5) : rxPSOP S [1, pt] ∧ ∀ (S_p : Nat → Int → Int) (sp : Int), 0 ≤ sp → sp ≤ 1522 → rxPSSOP S [1, pt] S_p (some sp) → bx_Inv rxL S_p → bx_same rxL (bx_mdl rxCSOP.2.2.1) S S_p → rxIVRD_6 S0 ws S_p vs wh sv pt sp ∧ rxmVRD_6 S0 ws S_p vs wh sv pt sp < rxmVRD_5 S0 ws S vs wh sv pt := by
  obtain ⟨rfl, hw, hp, hs, hpt⟩ := hinv
  have hpl : rkPl S := hP
  refine ⟨trivial, fun S_p sp _ _ hq _ hsm => ⟨?_, by unfold rxmVRD_5 rxmVRD_6; omega⟩⟩
  obtain ⟨hS, k2, hw3, hv2⟩ := hq
  subst hS
  have k1 : pt = k2 := Option.some.inj (congrArg (fun l : List Int => l[1]?) hw3)
  subst k1
  obtain ⟨z4, -⟩ := hpl.2.1.1 pt.toNat (by omega)
  rw [Int.toNat_of_nonneg (show 0 ≤ pt by omega)] at z4
  exact ⟨rfl, hw, hp, hs, hpt, (Option.some.inj hv2).trans (z4.trans (by omega))⟩
theorem rxsVRD_5 {X : (Nat → Int → Int) → Prop} {S0 : Nat → Int → Int} {ws : List Int} (hP : rxPVRD S0 ws) : rx_obK X S0 rxC163.2.2.1 rxCSOP.2.2.1 (rxIVRD S0 ws) (rxmVRD S0 ws) 5 6 rxzVRD_5 rxzVRD_6 [.inr (3, (0, 1)), .inr (0, (11, 0))] (some 12) rxPSOP rxPSSOP := by
  intro S r hinv hXS I0 hin hs_ hf_
  have b_ := bx_bds_sat hs_
  have f_ := bx_fcl_ok hs_.1 hf_
  obtain ⟨⟨l8, u8⟩, ⟨l9, u9⟩, ⟨l10, u10⟩, ⟨l11, u11⟩, -⟩ := b_
  have g := rxkVRD_5 hP hin I0 hinv l8 u8 l9 u9 l10 u10 l11 u11
  have ea : List.map (bx_num r) [.inr (3, (0, 1)), .inr (0, (11, 0))] = [1, (r 11)] := by
    simp only [List.map_cons, List.map_nil, bx_xv_ok hs_.1]
    rfl
  rw [ea]
  refine ⟨g.1, fun S_p w r_p hPS hX_p I1 hsm hr hw hs_p => ?_⟩
  have hw := hw _ rfl
  subst hw
  have b_p := hs_p.2.2 12 _ _ rfl
  have g2 := g.2 S_p (r_p 12) b_p.1 b_p.2 hPS I1 hsm
  show rxIVRD_6 S0 ws S_p (r_p 8) (r_p 9) (r_p 10) (r_p 11) (r_p 12) ∧ rxmVRD_6 S0 ws S_p (r_p 8) (r_p 9) (r_p 10) (r_p 11) (r_p 12) < _
  rw [hr 8 (by decide), hr 9 (by decide), hr 10 (by decide), hr 11 (by decide)]
  exact g2
theorem rxkVRD_6 {S0 : Nat → Int → Int} {ws : List Int} {S : Nat → Int → Int} {vs wh sv pt sp : Int} (hP : rxPVRD S0 ws) (hin : bx_same rxL (bx_mdl rxC163.2.2.1) S0 S) (I0 : bx_Inv rxL S) (hinv : rxIVRD_6 S0 ws S vs wh sv pt sp) (l8 : 0 ≤ vs) (u8 : vs ≤ 11) (l9 : 4 ≤ wh) (u9 : wh ≤ 4) (l10 : 0 ≤ sv) (u10 : sv ≤ 1522) (l11 : 0 ≤ pt) (u11 : pt ≤ 5) (l12 : 0 ≤ sp) (u12 : sp ≤ 1522) : rxPRUN S [sv, sp] ∧ ∀ (S_p : Nat → Int → Int) (n : Int), (-2147483648) ≤ n → n ≤ 2147483647 → rxPSRUN S [sv, sp] S_p (some n) → bx_Inv rxL S_p → bx_same rxL (bx_mdl rxCRUN.2.2.1) S S_p → rxIVRD_7 S0 ws S_p vs wh sv pt sp n ∧ rxmVRD_7 S0 ws S_p vs wh sv pt sp n < rxmVRD_6 S0 ws S vs wh sv pt sp := by
  obtain ⟨rfl, hw, hp, hs, hpt, hsp⟩ := hinv
  have hpl : rkPl S := hP
  obtain ⟨z0, z1⟩ := rjd_px hpl (a := 6 + vs) (by omega) (by omega)
  rw [show 23 + 3 * (6 + vs) = 41 + 3 * vs by omega] at z0 z1
  obtain ⟨-, y0, y1⟩ := rjd_pl hpl (pa := pt) (by omega) (by omega)
  subst hs
  subst hsp
  refine ⟨⟨_, _, rfl, ⟨z0.trans (by omega), z1.trans (by omega)⟩, y0.trans (by omega), y1.trans (by omega)⟩, fun S_p n _ _ hq _ hsm => ⟨⟨hw, hp, ?_⟩, by unfold rxmVRD_6 rxmVRD_7; omega⟩⟩
  obtain ⟨hS, a2, b2, hw3, hv⟩ := hq
  have k1 : 41 + 3 * vs = a2 := Option.some.inj (congrArg (fun l : List Int => l[0]?) hw3)
  have k2 : 23 + 3 * pt = b2 := Option.some.inj (congrArg (fun l : List Int => l[1]?) hw3)
  subst k1
  subst k2
  rw [show 41 + 3 * vs + 1 = 42 + 3 * vs by omega, show 41 + 3 * vs + 2 = 43 + 3 * vs by omega, show 23 + 3 * pt + 1 = 24 + 3 * pt by omega, show 23 + 3 * pt + 2 = 25 + 3 * pt by omega, hpt] at hv
  exact Option.some.inj hv
theorem rxsVRD_6 {X : (Nat → Int → Int) → Prop} {S0 : Nat → Int → Int} {ws : List Int} (hP : rxPVRD S0 ws) : rx_obK X S0 rxC163.2.2.1 rxCRUN.2.2.1 (rxIVRD S0 ws) (rxmVRD S0 ws) 6 7 rxzVRD_6 rxzVRD_7 [.inr (3, (10, 0)), .inr (3, (12, 0))] (some 13) rxPRUN rxPSRUN := by
  intro S r hinv hXS I0 hin hs_ hf_
  have b_ := bx_bds_sat hs_
  have f_ := bx_fcl_ok hs_.1 hf_
  obtain ⟨⟨l8, u8⟩, ⟨l9, u9⟩, ⟨l10, u10⟩, ⟨l11, u11⟩, ⟨l12, u12⟩, -⟩ := b_
  have g := rxkVRD_6 hP hin I0 hinv l8 u8 l9 u9 l10 u10 l11 u11 l12 u12
  have ea : List.map (bx_num r) [.inr (3, (10, 0)), .inr (3, (12, 0))] = [(r 10), (r 12)] := by
    simp only [List.map_cons, List.map_nil, bx_xv_ok hs_.1]
    rfl
  rw [ea]
  refine ⟨g.1, fun S_p w r_p hPS hX_p I1 hsm hr hw hs_p => ?_⟩
  have hw := hw _ rfl
  subst hw
  have b_p := hs_p.2.2 13 _ _ rfl
  have g2 := g.2 S_p (r_p 13) b_p.1 b_p.2 hPS I1 hsm
  show rxIVRD_7 S0 ws S_p (r_p 8) (r_p 9) (r_p 10) (r_p 11) (r_p 12) (r_p 13) ∧ rxmVRD_7 S0 ws S_p (r_p 8) (r_p 9) (r_p 10) (r_p 11) (r_p 12) (r_p 13) < _
  rw [hr 8 (by decide), hr 9 (by decide), hr 10 (by decide), hr 11 (by decide), hr 12 (by decide)]
  exact g2
theorem rxcVRD_0_0 {S0 : Nat → Int → Int} {ws : List Int} {S : Nat → Int → Int} {vs wh x10 : Int} (hP : rxPVRD S0 ws) (hin : bx_same rxL (bx_mdl rxC163.2.2.1) S0 S) (I0 : bx_Inv rxL S) (hinv : rxIVRD_0 S0 ws S vs wh) (l8 : 0 ≤ vs) (u8 : vs ≤ 11) (l9 : (-2147483648) ≤ wh) (u9 : wh ≤ 2147483647) (l10 : 1 ≤ x10) (u10 : x10 ≤ 12) (f0 : vs < x10) (e0 : S 1 5 = x10) : (True) ∧ (True) ∧ rxIVRD_1 S0 ws S vs wh ∧ rxmVRD_1 S0 ws S vs wh < rxmVRD_0 S0 ws S vs wh := by
  obtain ⟨rfl, hw⟩ := hinv
  exact ⟨trivial, trivial, ⟨rfl, hw, by omega⟩, by unfold rxmVRD_0 rxmVRD_1; omega⟩
theorem rxgVRD_0_0 {X : (Nat → Int → Int) → Prop} {S0 : Nat → Int → Int} {ws : List Int} (hP : rxPVRD S0 ws) : bx_obC rxL X S0 rxC163.2.2.1 (rxIVRD S0 ws) (rxmVRD S0 ws) 0 rxzVRD_0 rxoVRD_0_0 := by
  intro S S_p r r_p hinv hX hin hsm_ hseg
  obtain ⟨I0, I1, h0_, hr_, b_, f_, d_⟩ := bx_cl (evs := [(0, (0, 1), (0, 5), .inr (0, (10, 0)))]) (fvs := [(0, (8, 0), (10, 0), (0, 0))]) hseg (by decide +kernel) (by decide +kernel)
  have hinv : rxIVRD_0 S0 ws S (r 8) (r 9) := hinv
  rw [← hr_ 8 (by decide), ← hr_ 9 (by decide)] at hinv
  obtain ⟨⟨l8, u8⟩, ⟨l9, u9⟩, ⟨l10, u10⟩, -⟩ := b_
  obtain ⟨f0, -⟩ := f_
  obtain ⟨e0, w_⟩ := d_
  subst w_
  have g := rxcVRD_0_0 hP hin I0 hinv l8 u8 l9 u9 l10 u10 f0 e0
  refine ⟨bx_narP_ok (l := []) g.1, bx_nfP_ok h0_ (fvs := []) (by decide +kernel) g.2.1, ?_, ?_⟩
  · show rxIVRD_1 S0 ws S_p (bx_val [(0, 0), (0, 0), (0, 0), (0, 0), (0, 0), (0, 0), (0, 0), (0, 0), (8, 0), (9, 0)] r_p 8) (bx_val [(0, 0), (0, 0), (0, 0), (0, 0), (0, 0), (0, 0), (0, 0), (0, 0), (8, 0), (9, 0)] r_p 9)
    rw [bx_val_x (n := 8) (e := (8, 0)) h0_ rfl, bx_val_x (n := 9) (e := (9, 0)) h0_ rfl]
    exact g.2.2.1
  · show rxmVRD_1 S0 ws S_p (bx_val [(0, 0), (0, 0), (0, 0), (0, 0), (0, 0), (0, 0), (0, 0), (0, 0), (8, 0), (9, 0)] r_p 8) (bx_val [(0, 0), (0, 0), (0, 0), (0, 0), (0, 0), (0, 0), (0, 0), (0, 0), (8, 0), (9, 0)] r_p 9) < rxmVRD_0 S0 ws S_p (r 8) (r 9)
    rw [bx_val_x (n := 8) (e := (8, 0)) h0_ rfl, bx_val_x (n := 9) (e := (9, 0)) h0_ rfl, ← hr_ 8 (by decide), ← hr_ 9 (by decide)]
    exact g.2.2.2
theorem rxdVRD_0_0 {S0 : Nat → Int → Int} {ws : List Int} {S : Nat → Int → Int} {vs wh : Int} (hP : rxPVRD S0 ws) (hin : bx_same rxL (bx_mdl rxC163.2.2.1) S0 S) (hin2 : bx_same rxL (bx_mdl rxC163.2.2.1) S S) (I0 : bx_Inv rxL S) (I1 : bx_Inv rxL S) (hinv : rxIVRD_0 S0 ws S vs wh) (l8 : (-2147483648) ≤ vs) (u8 : vs ≤ (-1)) (l9 : (-2147483648) ≤ wh) (u9 : wh ≤ 2147483647) : (True) ∧ rxPSVRD S0 ws S (some ((-1))) := by
  obtain ⟨rfl, hw⟩ := hinv
  exact ⟨trivial, vs, wh, hw, Or.inl ⟨by omega, rfl⟩⟩
theorem rxfVRD_0_0 {X : (Nat → Int → Int) → Prop} {S0 : Nat → Int → Int} {ws : List Int} (hP : rxPVRD S0 ws) : bx_obE rxL X S0 rxC163.2.2.1 (rxIVRD S0 ws) (rxPSVRD S0 ws) 0 rxzVRD_0 rxeVRD_0_0 := by
  intro S S_p r r_p hinv hX hin hsm_ hseg
  obtain ⟨I0, I1, h0_, hr_, b_, f_, d_⟩ := bx_cl (evs := []) (fvs := []) hseg (by decide +kernel) (by decide +kernel)
  have hinv : rxIVRD_0 S0 ws S (r 8) (r 9) := hinv
  rw [← hr_ 8 (by decide), ← hr_ 9 (by decide)] at hinv
  obtain ⟨⟨l8, u8⟩, ⟨l9, u9⟩, -⟩ := b_
  have w_ := d_
  subst w_
  have g := rxdVRD_0_0 hP hin hsm_ I0 I1 hinv l8 u8 l9 u9
  refine ⟨bx_narP_ok (l := []) g.1, ?_⟩
  show rxPSVRD S0 ws S_p (some (bx_num r_p (.inr (0, (0, (-1))))))
  rw [bx_xv_ok h0_]
  exact g.2
theorem rxdVRD_0_1 {S0 : Nat → Int → Int} {ws : List Int} {S : Nat → Int → Int} {vs wh x10 : Int} (hP : rxPVRD S0 ws) (hin : bx_same rxL (bx_mdl rxC163.2.2.1) S0 S) (hin2 : bx_same rxL (bx_mdl rxC163.2.2.1) S S) (I0 : bx_Inv rxL S) (I1 : bx_Inv rxL S) (hinv : rxIVRD_0 S0 ws S vs wh) (l8 : 0 ≤ vs) (u8 : vs ≤ 2147483647) (l9 : (-2147483648) ≤ wh) (u9 : wh ≤ 2147483647) (l10 : 0 ≤ x10) (u10 : x10 ≤ 12) (f0 : x10 ≤ vs) (e0 : S 1 5 = x10) : (True) ∧ rxPSVRD S0 ws S (some ((-1))) := by
  obtain ⟨rfl, hw⟩ := hinv
  exact ⟨trivial, vs, wh, hw, Or.inl ⟨by omega, rfl⟩⟩
theorem rxfVRD_0_1 {X : (Nat → Int → Int) → Prop} {S0 : Nat → Int → Int} {ws : List Int} (hP : rxPVRD S0 ws) : bx_obE rxL X S0 rxC163.2.2.1 (rxIVRD S0 ws) (rxPSVRD S0 ws) 0 rxzVRD_0 rxeVRD_0_1 := by
  intro S S_p r r_p hinv hX hin hsm_ hseg
  obtain ⟨I0, I1, h0_, hr_, b_, f_, d_⟩ := bx_cl (evs := [(0, (0, 1), (0, 5), .inr (0, (10, 0)))]) (fvs := [(1, (10, 0), (8, 0), (0, 0))]) hseg (by decide +kernel) (by decide +kernel)
  have hinv : rxIVRD_0 S0 ws S (r 8) (r 9) := hinv
  rw [← hr_ 8 (by decide), ← hr_ 9 (by decide)] at hinv
  obtain ⟨⟨l8, u8⟩, ⟨l9, u9⟩, ⟨l10, u10⟩, -⟩ := b_
  obtain ⟨f0, -⟩ := f_
  obtain ⟨e0, w_⟩ := d_
  subst w_
  have g := rxdVRD_0_1 hP hin hsm_ I0 I1 hinv l8 u8 l9 u9 l10 u10 f0 e0
  refine ⟨bx_narP_ok (l := []) g.1, ?_⟩
  show rxPSVRD S0 ws S_p (some (bx_num r_p (.inr (0, (0, (-1))))))
  rw [bx_xv_ok h0_]
  exact g.2
theorem rxcVRD_2_0 {S0 : Nat → Int → Int} {ws : List Int} {S : Nat → Int → Int} {vs wh sv x11 : Int} (hP : rxPVRD S0 ws) (hin : bx_same rxL (bx_mdl rxC163.2.2.1) S0 S) (I0 : bx_Inv rxL S) (hinv : rxIVRD_2 S0 ws S vs wh sv) (l8 : 0 ≤ vs) (u8 : vs ≤ 11) (l9 : 4 ≤ wh) (u9 : wh ≤ 4) (l10 : 0 ≤ sv) (u10 : sv ≤ 1522) (l11 : 0 ≤ x11) (u11 : x11 ≤ 5) (e0 : S 9 vs = x11) : (True) ∧ (True) ∧ rxIVRD_5 S0 ws S vs wh sv x11 ∧ rxmVRD_5 S0 ws S vs wh sv x11 < rxmVRD_2 S0 ws S vs wh sv := by
  obtain ⟨rfl, hw, hp, hs⟩ := hinv
  exact ⟨trivial, trivial, ⟨rfl, hw, hp, hs, e0.symm⟩, by unfold rxmVRD_2 rxmVRD_5; omega⟩
theorem rxgVRD_2_0 {X : (Nat → Int → Int) → Prop} {S0 : Nat → Int → Int} {ws : List Int} (hP : rxPVRD S0 ws) : bx_obC rxL X S0 rxC163.2.2.1 (rxIVRD S0 ws) (rxmVRD S0 ws) 2 rxzVRD_2 rxoVRD_2_0 := by
  intro S S_p r r_p hinv hX hin hsm_ hseg
  obtain ⟨I0, I1, h0_, hr_, b_, f_, d_⟩ := bx_cl (evs := [(0, (0, 9), (8, 0), .inr (0, (11, 0)))]) (fvs := []) hseg (by decide +kernel) (by decide +kernel)
  have hinv : rxIVRD_2 S0 ws S (r 8) (r 9) (r 10) := hinv
  rw [← hr_ 8 (by decide), ← hr_ 9 (by decide), ← hr_ 10 (by decide)] at hinv
  obtain ⟨⟨l8, u8⟩, ⟨l9, u9⟩, ⟨l10, u10⟩, ⟨l11, u11⟩, -⟩ := b_
  obtain ⟨e0, w_⟩ := d_
  subst w_
  have g := rxcVRD_2_0 hP hin I0 hinv l8 u8 l9 u9 l10 u10 l11 u11 e0
  refine ⟨bx_narP_ok (l := []) g.1, bx_nfP_ok h0_ (fvs := []) (by decide +kernel) g.2.1, ?_, ?_⟩
  · show rxIVRD_5 S0 ws S_p (bx_val [(0, 0), (0, 0), (0, 0), (0, 0), (0, 0), (0, 0), (0, 0), (0, 0), (8, 0), (9, 0), (10, 0), (11, 0)] r_p 8) (bx_val [(0, 0), (0, 0), (0, 0), (0, 0), (0, 0), (0, 0), (0, 0), (0, 0), (8, 0), (9, 0), (10, 0), (11, 0)] r_p 9) (bx_val [(0, 0), (0, 0), (0, 0), (0, 0), (0, 0), (0, 0), (0, 0), (0, 0), (8, 0), (9, 0), (10, 0), (11, 0)] r_p 10) (bx_val [(0, 0), (0, 0), (0, 0), (0, 0), (0, 0), (0, 0), (0, 0), (0, 0), (8, 0), (9, 0), (10, 0), (11, 0)] r_p 11)
    rw [bx_val_x (n := 8) (e := (8, 0)) h0_ rfl, bx_val_x (n := 9) (e := (9, 0)) h0_ rfl, bx_val_x (n := 10) (e := (10, 0)) h0_ rfl, bx_val_x (n := 11) (e := (11, 0)) h0_ rfl]
    exact g.2.2.1
  · show rxmVRD_5 S0 ws S_p (bx_val [(0, 0), (0, 0), (0, 0), (0, 0), (0, 0), (0, 0), (0, 0), (0, 0), (8, 0), (9, 0), (10, 0), (11, 0)] r_p 8) (bx_val [(0, 0), (0, 0), (0, 0), (0, 0), (0, 0), (0, 0), (0, 0), (0, 0), (8, 0), (9, 0), (10, 0), (11, 0)] r_p 9) (bx_val [(0, 0), (0, 0), (0, 0), (0, 0), (0, 0), (0, 0), (0, 0), (0, 0), (8, 0), (9, 0), (10, 0), (11, 0)] r_p 10) (bx_val [(0, 0), (0, 0), (0, 0), (0, 0), (0, 0), (0, 0), (0, 0), (0, 0), (8, 0), (9, 0), (10, 0), (11, 0)] r_p 11) < rxmVRD_2 S0 ws S_p (r 8) (r 9) (r 10)
    rw [bx_val_x (n := 8) (e := (8, 0)) h0_ rfl, bx_val_x (n := 9) (e := (9, 0)) h0_ rfl, bx_val_x (n := 10) (e := (10, 0)) h0_ rfl, bx_val_x (n := 11) (e := (11, 0)) h0_ rfl, ← hr_ 8 (by decide), ← hr_ 9 (by decide), ← hr_ 10 (by decide)]
    exact g.2.2.2
theorem rxcVRD_2_1 {S0 : Nat → Int → Int} {ws : List Int} {S : Nat → Int → Int} {vs wh sv : Int} (hP : rxPVRD S0 ws) (hin : bx_same rxL (bx_mdl rxC163.2.2.1) S0 S) (I0 : bx_Inv rxL S) (hinv : rxIVRD_2 S0 ws S vs wh sv) (l8 : 0 ≤ vs) (u8 : vs ≤ 11) (l9 : 3 ≤ wh) (u9 : wh ≤ 3) (l10 : 0 ≤ sv) (u10 : sv ≤ 1522) : (True) ∧ (True) ∧ rxIVRD_3 S0 ws S vs wh sv ∧ rxmVRD_3 S0 ws S vs wh sv < rxmVRD_2 S0 ws S vs wh sv := by
  obtain ⟨rfl, hw, hp, hs⟩ := hinv
  exact ⟨trivial, trivial, ⟨rfl, hw, hp, hs⟩, by unfold rxmVRD_2 rxmVRD_3; omega⟩
theorem rxgVRD_2_1 {X : (Nat → Int → Int) → Prop} {S0 : Nat → Int → Int} {ws : List Int} (hP : rxPVRD S0 ws) : bx_obC rxL X S0 rxC163.2.2.1 (rxIVRD S0 ws) (rxmVRD S0 ws) 2 rxzVRD_2 rxoVRD_2_1 := by
  intro S S_p r r_p hinv hX hin hsm_ hseg
  obtain ⟨I0, I1, h0_, hr_, b_, f_, d_⟩ := bx_cl (evs := []) (fvs := []) hseg (by decide +kernel) (by decide +kernel)
  have hinv : rxIVRD_2 S0 ws S (r 8) (r 9) (r 10) := hinv
  rw [← hr_ 8 (by decide), ← hr_ 9 (by decide), ← hr_ 10 (by decide)] at hinv
  obtain ⟨⟨l8, u8⟩, ⟨l9, u9⟩, ⟨l10, u10⟩, -⟩ := b_
  have w_ := d_
  subst w_
  have g := rxcVRD_2_1 hP hin I0 hinv l8 u8 l9 u9 l10 u10
  refine ⟨bx_narP_ok (l := []) g.1, bx_nfP_ok h0_ (fvs := []) (by decide +kernel) g.2.1, ?_, ?_⟩
  · show rxIVRD_3 S0 ws S_p (bx_val [(0, 0), (0, 0), (0, 0), (0, 0), (0, 0), (0, 0), (0, 0), (0, 0), (8, 0), (9, 0), (10, 0)] r_p 8) (bx_val [(0, 0), (0, 0), (0, 0), (0, 0), (0, 0), (0, 0), (0, 0), (0, 0), (8, 0), (9, 0), (10, 0)] r_p 9) (bx_val [(0, 0), (0, 0), (0, 0), (0, 0), (0, 0), (0, 0), (0, 0), (0, 0), (8, 0), (9, 0), (10, 0)] r_p 10)
    rw [bx_val_x (n := 8) (e := (8, 0)) h0_ rfl, bx_val_x (n := 9) (e := (9, 0)) h0_ rfl, bx_val_x (n := 10) (e := (10, 0)) h0_ rfl]
    exact g.2.2.1
  · show rxmVRD_3 S0 ws S_p (bx_val [(0, 0), (0, 0), (0, 0), (0, 0), (0, 0), (0, 0), (0, 0), (0, 0), (8, 0), (9, 0), (10, 0)] r_p 8) (bx_val [(0, 0), (0, 0), (0, 0), (0, 0), (0, 0), (0, 0), (0, 0), (0, 0), (8, 0), (9, 0), (10, 0)] r_p 9) (bx_val [(0, 0), (0, 0), (0, 0), (0, 0), (0, 0), (0, 0), (0, 0), (0, 0), (8, 0), (9, 0), (10, 0)] r_p 10) < rxmVRD_2 S0 ws S_p (r 8) (r 9) (r 10)
    rw [bx_val_x (n := 8) (e := (8, 0)) h0_ rfl, bx_val_x (n := 9) (e := (9, 0)) h0_ rfl, bx_val_x (n := 10) (e := (10, 0)) h0_ rfl, ← hr_ 8 (by decide), ← hr_ 9 (by decide), ← hr_ 10 (by decide)]
    exact g.2.2.2
theorem rxdVRD_2_0 {S0 : Nat → Int → Int} {ws : List Int} {S : Nat → Int → Int} {vs wh sv : Int} (hP : rxPVRD S0 ws) (hin : bx_same rxL (bx_mdl rxC163.2.2.1) S0 S) (hin2 : bx_same rxL (bx_mdl rxC163.2.2.1) S S) (I0 : bx_Inv rxL S) (I1 : bx_Inv rxL S) (hinv : rxIVRD_2 S0 ws S vs wh sv) (l8 : 0 ≤ vs) (u8 : vs ≤ 11) (l9 : 5 ≤ wh) (u9 : wh ≤ 2147483647) (l10 : 0 ≤ sv) (u10 : sv ≤ 1522) : (True) ∧ rxPSVRD S0 ws S (some ((-1))) := by
  obtain ⟨rfl, hw, hp, hs⟩ := hinv
  exact ⟨trivial, vs, wh, hw, Or.inl ⟨by omega, rfl⟩⟩
theorem rxfVRD_2_0 {X : (Nat → Int → Int) → Prop} {S0 : Nat → Int → Int} {ws : List Int} (hP : rxPVRD S0 ws) : bx_obE rxL X S0 rxC163.2.2.1 (rxIVRD S0 ws) (rxPSVRD S0 ws) 2 rxzVRD_2 rxeVRD_2_0 := by
  intro S S_p r r_p hinv hX hin hsm_ hseg
  obtain ⟨I0, I1, h0_, hr_, b_, f_, d_⟩ := bx_cl (evs := []) (fvs := []) hseg (by decide +kernel) (by decide +kernel)
  have hinv : rxIVRD_2 S0 ws S (r 8) (r 9) (r 10) := hinv
  rw [← hr_ 8 (by decide), ← hr_ 9 (by decide), ← hr_ 10 (by decide)] at hinv
  obtain ⟨⟨l8, u8⟩, ⟨l9, u9⟩, ⟨l10, u10⟩, -⟩ := b_
  have w_ := d_
  subst w_
  have g := rxdVRD_2_0 hP hin hsm_ I0 I1 hinv l8 u8 l9 u9 l10 u10
  refine ⟨bx_narP_ok (l := []) g.1, ?_⟩
  show rxPSVRD S0 ws S_p (some (bx_num r_p (.inr (0, (0, (-1))))))
  rw [bx_xv_ok h0_]
  exact g.2
theorem rxdVRD_2_1 {S0 : Nat → Int → Int} {ws : List Int} {S : Nat → Int → Int} {vs wh sv : Int} (hP : rxPVRD S0 ws) (hin : bx_same rxL (bx_mdl rxC163.2.2.1) S0 S) (hin2 : bx_same rxL (bx_mdl rxC163.2.2.1) S S) (I0 : bx_Inv rxL S) (I1 : bx_Inv rxL S) (hinv : rxIVRD_2 S0 ws S vs wh sv) (l8 : 0 ≤ vs) (u8 : vs ≤ 11) (l9 : (-2147483648) ≤ wh) (u9 : wh ≤ (-1)) (l10 : 0 ≤ sv) (u10 : sv ≤ 1522) : (True) ∧ rxPSVRD S0 ws S (some ((-1))) := by
  obtain ⟨rfl, hw, hp, hs⟩ := hinv
  exact ⟨trivial, vs, wh, hw, Or.inl ⟨by omega, rfl⟩⟩
theorem rxfVRD_2_1 {X : (Nat → Int → Int) → Prop} {S0 : Nat → Int → Int} {ws : List Int} (hP : rxPVRD S0 ws) : bx_obE rxL X S0 rxC163.2.2.1 (rxIVRD S0 ws) (rxPSVRD S0 ws) 2 rxzVRD_2 rxeVRD_2_1 := by
  intro S S_p r r_p hinv hX hin hsm_ hseg
  obtain ⟨I0, I1, h0_, hr_, b_, f_, d_⟩ := bx_cl (evs := []) (fvs := []) hseg (by decide +kernel) (by decide +kernel)
  have hinv : rxIVRD_2 S0 ws S (r 8) (r 9) (r 10) := hinv
  rw [← hr_ 8 (by decide), ← hr_ 9 (by decide), ← hr_ 10 (by decide)] at hinv
  obtain ⟨⟨l8, u8⟩, ⟨l9, u9⟩, ⟨l10, u10⟩, -⟩ := b_
  have w_ := d_
  subst w_
  have g := rxdVRD_2_1 hP hin hsm_ I0 I1 hinv l8 u8 l9 u9 l10 u10
  refine ⟨bx_narP_ok (l := []) g.1, ?_⟩
  show rxPSVRD S0 ws S_p (some (bx_num r_p (.inr (0, (0, (-1))))))
  rw [bx_xv_ok h0_]
  exact g.2
theorem rxdVRD_2_2 {S0 : Nat → Int → Int} {ws : List Int} {S : Nat → Int → Int} {vs wh sv x11 : Int} (hP : rxPVRD S0 ws) (hin : bx_same rxL (bx_mdl rxC163.2.2.1) S0 S) (hin2 : bx_same rxL (bx_mdl rxC163.2.2.1) S S) (I0 : bx_Inv rxL S) (I1 : bx_Inv rxL S) (hinv : rxIVRD_2 S0 ws S vs wh sv) (l8 : 0 ≤ vs) (u8 : vs ≤ 11) (l9 : 2 ≤ wh) (u9 : wh ≤ 2) (l10 : 0 ≤ sv) (u10 : sv ≤ 1522) (l11 : (-1) ≤ x11) (u11 : x11 ≤ 10) (e0 : S 11 vs = x11) : (True) ∧ rxPSVRD S0 ws S (some x11) := by
  obtain ⟨rfl, hw, hp, hs⟩ := hinv
  exact ⟨trivial, vs, wh, hw, Or.inr (Or.inr (Or.inr (Or.inl (⟨⟨by omega, hp⟩, by omega, congrArg some e0.symm⟩))))⟩
theorem rxfVRD_2_2 {X : (Nat → Int → Int) → Prop} {S0 : Nat → Int → Int} {ws : List Int} (hP : rxPVRD S0 ws) : bx_obE rxL X S0 rxC163.2.2.1 (rxIVRD S0 ws) (rxPSVRD S0 ws) 2 rxzVRD_2 rxeVRD_2_2 := by
  intro S S_p r r_p hinv hX hin hsm_ hseg
  obtain ⟨I0, I1, h0_, hr_, b_, f_, d_⟩ := bx_cl (evs := [(0, (0, 11), (8, 0), .inr (0, (11, 0)))]) (fvs := []) hseg (by decide +kernel) (by decide +kernel)
  have hinv : rxIVRD_2 S0 ws S (r 8) (r 9) (r 10) := hinv
  rw [← hr_ 8 (by decide), ← hr_ 9 (by decide), ← hr_ 10 (by decide)] at hinv
  obtain ⟨⟨l8, u8⟩, ⟨l9, u9⟩, ⟨l10, u10⟩, ⟨l11, u11⟩, -⟩ := b_
  obtain ⟨e0, w_⟩ := d_
  subst w_
  have g := rxdVRD_2_2 hP hin hsm_ I0 I1 hinv l8 u8 l9 u9 l10 u10 l11 u11 e0
  refine ⟨bx_narP_ok (l := []) g.1, ?_⟩
  show rxPSVRD S0 ws S_p (some (bx_num r_p (.inr (0, (11, 0)))))
  rw [bx_xv_ok h0_]
  exact g.2
theorem rxdVRD_2_3 {S0 : Nat → Int → Int} {ws : List Int} {S : Nat → Int → Int} {vs wh sv x11 : Int} (hP : rxPVRD S0 ws) (hin : bx_same rxL (bx_mdl rxC163.2.2.1) S0 S) (hin2 : bx_same rxL (bx_mdl rxC163.2.2.1) S S) (I0 : bx_Inv rxL S) (I1 : bx_Inv rxL S) (hinv : rxIVRD_2 S0 ws S vs wh sv) (l8 : 0 ≤ vs) (u8 : vs ≤ 11) (l9 : 1 ≤ wh) (u9 : wh ≤ 1) (l10 : 0 ≤ sv) (u10 : sv ≤ 1522) (l11 : 0 ≤ x11) (u11 : x11 ≤ 7) (e0 : S 10 vs = x11) : (True) ∧ rxPSVRD S0 ws S (some x11) := by
  obtain ⟨rfl, hw, hp, hs⟩ := hinv
  exact ⟨trivial, vs, wh, hw, Or.inr (Or.inr (Or.inl (⟨⟨by omega, hp⟩, by omega, congrArg some e0.symm⟩)))⟩
theorem rxfVRD_2_3 {X : (Nat → Int → Int) → Prop} {S0 : Nat → Int → Int} {ws : List Int} (hP : rxPVRD S0 ws) : bx_obE rxL X S0 rxC163.2.2.1 (rxIVRD S0 ws) (rxPSVRD S0 ws) 2 rxzVRD_2 rxeVRD_2_3 := by
  intro S S_p r r_p hinv hX hin hsm_ hseg
  obtain ⟨I0, I1, h0_, hr_, b_, f_, d_⟩ := bx_cl (evs := [(0, (0, 10), (8, 0), .inr (0, (11, 0)))]) (fvs := []) hseg (by decide +kernel) (by decide +kernel)
  have hinv : rxIVRD_2 S0 ws S (r 8) (r 9) (r 10) := hinv
  rw [← hr_ 8 (by decide), ← hr_ 9 (by decide), ← hr_ 10 (by decide)] at hinv
  obtain ⟨⟨l8, u8⟩, ⟨l9, u9⟩, ⟨l10, u10⟩, ⟨l11, u11⟩, -⟩ := b_
  obtain ⟨e0, w_⟩ := d_
  subst w_
  have g := rxdVRD_2_3 hP hin hsm_ I0 I1 hinv l8 u8 l9 u9 l10 u10 l11 u11 e0
  refine ⟨bx_narP_ok (l := []) g.1, ?_⟩
  show rxPSVRD S0 ws S_p (some (bx_num r_p (.inr (0, (11, 0)))))
  rw [bx_xv_ok h0_]
  exact g.2
theorem rxdVRD_2_4 {S0 : Nat → Int → Int} {ws : List Int} {S : Nat → Int → Int} {vs wh sv x11 : Int} (hP : rxPVRD S0 ws) (hin : bx_same rxL (bx_mdl rxC163.2.2.1) S0 S) (hin2 : bx_same rxL (bx_mdl rxC163.2.2.1) S S) (I0 : bx_Inv rxL S) (I1 : bx_Inv rxL S) (hinv : rxIVRD_2 S0 ws S vs wh sv) (l8 : 0 ≤ vs) (u8 : vs ≤ 11) (l9 : 0 ≤ wh) (u9 : wh ≤ 0) (l10 : 0 ≤ sv) (u10 : sv ≤ 1522) (l11 : 0 ≤ x11) (u11 : x11 ≤ 5) (e0 : S 9 vs = x11) : (True) ∧ rxPSVRD S0 ws S (some x11) := by
  obtain ⟨rfl, hw, hp, hs⟩ := hinv
  exact ⟨trivial, vs, wh, hw, Or.inr (Or.inl (⟨⟨by omega, hp⟩, by omega, congrArg some e0.symm⟩))⟩
theorem rxfVRD_2_4 {X : (Nat → Int → Int) → Prop} {S0 : Nat → Int → Int} {ws : List Int} (hP : rxPVRD S0 ws) : bx_obE rxL X S0 rxC163.2.2.1 (rxIVRD S0 ws) (rxPSVRD S0 ws) 2 rxzVRD_2 rxeVRD_2_4 := by
  intro S S_p r r_p hinv hX hin hsm_ hseg
  obtain ⟨I0, I1, h0_, hr_, b_, f_, d_⟩ := bx_cl (evs := [(0, (0, 9), (8, 0), .inr (0, (11, 0)))]) (fvs := []) hseg (by decide +kernel) (by decide +kernel)
  have hinv : rxIVRD_2 S0 ws S (r 8) (r 9) (r 10) := hinv
  rw [← hr_ 8 (by decide), ← hr_ 9 (by decide), ← hr_ 10 (by decide)] at hinv
  obtain ⟨⟨l8, u8⟩, ⟨l9, u9⟩, ⟨l10, u10⟩, ⟨l11, u11⟩, -⟩ := b_
  obtain ⟨e0, w_⟩ := d_
  subst w_
  have g := rxdVRD_2_4 hP hin hsm_ I0 I1 hinv l8 u8 l9 u9 l10 u10 l11 u11 e0
  refine ⟨bx_narP_ok (l := []) g.1, ?_⟩
  show rxPSVRD S0 ws S_p (some (bx_num r_p (.inr (0, (11, 0)))))
  rw [bx_xv_ok h0_]
  exact g.2
theorem rxdVRD_4_0 {S0 : Nat → Int → Int} {ws : List Int} {S : Nat → Int → Int} {vs wh sv n : Int} (hP : rxPVRD S0 ws) (hin : bx_same rxL (bx_mdl rxC163.2.2.1) S0 S) (hin2 : bx_same rxL (bx_mdl rxC163.2.2.1) S S) (I0 : bx_Inv rxL S) (I1 : bx_Inv rxL S) (hinv : rxIVRD_4 S0 ws S vs wh sv n) (l8 : 0 ≤ vs) (u8 : vs ≤ 11) (l9 : 3 ≤ wh) (u9 : wh ≤ 3) (l10 : 0 ≤ sv) (u10 : sv ≤ 1522) (l11 : (-2147483648) ≤ n) (u11 : n ≤ 2147483647) : (True) ∧ rxPSVRD S0 ws S (some n) := by
  obtain ⟨hw, hp, hn⟩ := hinv
  exact ⟨trivial, vs, wh, hw, Or.inr (Or.inr (Or.inr (Or.inr (Or.inl (⟨⟨by omega, hp⟩, by omega, congrArg some hn⟩)))))⟩
theorem rxfVRD_4_0 {X : (Nat → Int → Int) → Prop} {S0 : Nat → Int → Int} {ws : List Int} (hP : rxPVRD S0 ws) : bx_obE rxL X S0 rxC163.2.2.1 (rxIVRD S0 ws) (rxPSVRD S0 ws) 4 rxzVRD_4 rxeVRD_4_0 := by
  intro S S_p r r_p hinv hX hin hsm_ hseg
  obtain ⟨I0, I1, h0_, hr_, b_, f_, d_⟩ := bx_cl (evs := []) (fvs := []) hseg (by decide +kernel) (by decide +kernel)
  have hinv : rxIVRD_4 S0 ws S (r 8) (r 9) (r 10) (r 11) := hinv
  rw [← hr_ 8 (by decide), ← hr_ 9 (by decide), ← hr_ 10 (by decide), ← hr_ 11 (by decide)] at hinv
  obtain ⟨⟨l8, u8⟩, ⟨l9, u9⟩, ⟨l10, u10⟩, ⟨l11, u11⟩, -⟩ := b_
  have w_ := d_
  subst w_
  have g := rxdVRD_4_0 hP hin hsm_ I0 I1 hinv l8 u8 l9 u9 l10 u10 l11 u11
  refine ⟨bx_narP_ok (l := []) g.1, ?_⟩
  show rxPSVRD S0 ws S_p (some (bx_num r_p (.inr (0, (11, 0)))))
  rw [bx_xv_ok h0_]
  exact g.2
theorem rxdVRD_7_0 {S0 : Nat → Int → Int} {ws : List Int} {S : Nat → Int → Int} {vs wh sv pt sp n : Int} (hP : rxPVRD S0 ws) (hin : bx_same rxL (bx_mdl rxC163.2.2.1) S0 S) (hin2 : bx_same rxL (bx_mdl rxC163.2.2.1) S S) (I0 : bx_Inv rxL S) (I1 : bx_Inv rxL S) (hinv : rxIVRD_7 S0 ws S vs wh sv pt sp n) (l8 : 0 ≤ vs) (u8 : vs ≤ 11) (l9 : 4 ≤ wh) (u9 : wh ≤ 4) (l10 : 0 ≤ sv) (u10 : sv ≤ 1522) (l11 : 0 ≤ pt) (u11 : pt ≤ 5) (l12 : 0 ≤ sp) (u12 : sp ≤ 1522) (l13 : (-2147483648) ≤ n) (u13 : n ≤ 2147483647) : (True) ∧ rxPSVRD S0 ws S (some n) := by
  obtain ⟨hw, hp, hn⟩ := hinv
  exact ⟨trivial, vs, wh, hw, Or.inr (Or.inr (Or.inr (Or.inr (Or.inr (⟨⟨by omega, hp⟩, by omega, congrArg some hn⟩)))))⟩
theorem rxfVRD_7_0 {X : (Nat → Int → Int) → Prop} {S0 : Nat → Int → Int} {ws : List Int} (hP : rxPVRD S0 ws) : bx_obE rxL X S0 rxC163.2.2.1 (rxIVRD S0 ws) (rxPSVRD S0 ws) 7 rxzVRD_7 rxeVRD_7_0 := by
  intro S S_p r r_p hinv hX hin hsm_ hseg
  obtain ⟨I0, I1, h0_, hr_, b_, f_, d_⟩ := bx_cl (evs := []) (fvs := []) hseg (by decide +kernel) (by decide +kernel)
  have hinv : rxIVRD_7 S0 ws S (r 8) (r 9) (r 10) (r 11) (r 12) (r 13) := hinv
  rw [← hr_ 8 (by decide), ← hr_ 9 (by decide), ← hr_ 10 (by decide), ← hr_ 11 (by decide), ← hr_ 12 (by decide), ← hr_ 13 (by decide)] at hinv
  obtain ⟨⟨l8, u8⟩, ⟨l9, u9⟩, ⟨l10, u10⟩, ⟨l11, u11⟩, ⟨l12, u12⟩, ⟨l13, u13⟩, -⟩ := b_
  have w_ := d_
  subst w_
  have g := rxdVRD_7_0 hP hin hsm_ I0 I1 hinv l8 u8 l9 u9 l10 u10 l11 u11 l12 u12 l13 u13
  refine ⟨bx_narP_ok (l := []) g.1, ?_⟩
  show rxPSVRD S0 ws S_p (some (bx_num r_p (.inr (0, (13, 0)))))
  rw [bx_xv_ok h0_]
  exact g.2
theorem rxgCVRD {X : (Nat → Int → Int) → Prop} {S0 : Nat → Int → Int} {ws : List Int} (hP : rxPVRD S0 ws) : bx_allI (fun i q => rxUVRD q = true ∨ bx_allP (fun o => bx_obC rxL X S0 rxC163.2.2.1 (rxIVRD S0 ws) (rxmVRD S0 ws) i q.1 o) q.2.1) 0 rxYVRD := ⟨Or.inr ⟨rxgVRD_0_0 hP, trivial⟩, Or.inl rfl, Or.inr ⟨rxgVRD_2_0 hP, rxgVRD_2_1 hP, trivial⟩, Or.inl rfl, Or.inr trivial, Or.inl rfl, Or.inl rfl, Or.inr trivial, trivial⟩
theorem rxgEVRD {X : (Nat → Int → Int) → Prop} {S0 : Nat → Int → Int} {ws : List Int} (hP : rxPVRD S0 ws) : bx_allI (fun i q => rxUVRD q = true ∨ bx_allP (fun E => bx_obE rxL X S0 rxC163.2.2.1 (rxIVRD S0 ws) (rxPSVRD S0 ws) i q.1 E) q.2.2) 0 rxYVRD := ⟨Or.inr ⟨rxfVRD_0_0 hP, rxfVRD_0_1 hP, trivial⟩, Or.inl rfl, Or.inr ⟨rxfVRD_2_0 hP, rxfVRD_2_1 hP, rxfVRD_2_2 hP, rxfVRD_2_3 hP, rxfVRD_2_4 hP, trivial⟩, Or.inl rfl, Or.inr ⟨rxfVRD_4_0 hP, trivial⟩, Or.inl rfl, Or.inl rfl, Or.inr ⟨rxfVRD_7_0 hP, trivial⟩, trivial⟩
theorem rxuVRD {PX : State → Prop} {Dg : va_G} {A : Nat → Prop} {ad xa : Nat → Nat} {l : Launch} {X : (Nat → Int → Int) → Prop} (hPX : rx_PXOK rxNW A PX) (hX : ∀ S S1 : Nat → Int → Int, X S → bx_same rxL (bx_mdl rxC163.2.2.1) S S1 → X S1) (hQSOV : bx_ConP rxG rxNW rxAO PX Dg rxL X vwCl A ad l rxM124 rxCSOV rxPSOV rxPSSOV) (hQFIL : bx_ConP rxG rxNW rxAO PX Dg rxL X vwCl A ad l rxM114 rxCFIL rxPFIL rxPSFIL) (hQSOP : bx_ConP rxG rxNW rxAO PX Dg rxL X vwCl A ad l rxM105 rxCSOP rxPSOP rxPSSOP) (hQRUN : bx_ConP rxG rxNW rxAO PX Dg rxL X vwCl A ad l rxM127 rxCRUN rxPRUN rxPSRUN) {S0 : Nat → Int → Int} {ws : List Int} (hP : rxPVRD S0 ws) : ∀ (i : Nat) (q : bx_HE), rxYVRD[i]? = some q → rxUVRD q = true → ∀ {p : Program} {e : Env} {R : Room} {s : State} {m : MethodId} {args : Array Value} {below : List Frame} {meth : Method} {c : Code} {Q : State → Prop} {H0 : Heap}, rx_Fr rxG rxNW rxAO PX p s m args meth c rxM163 → (∀ q, H0.size ≤ q → A q) → H0 = s.heap → rxM163.2.2.2.2.2.2.1 ≤ R.cells → rxM163.2.2.2.2.2.2.2 ≤ R.slots → rxC163.2.2.2.1 ≤ R.frames → rxC163.2.2.2.1 * 40 ≤ R.locals → bx_Step p l e R s m args below meth c Q Dg rxL X vwCl A xa H0 ad rxM163 rxYVRD (rxIVRD S0 ws) (rxmVRD S0 ws) S0 rxC163.2.2.1 i q := by
  intro i q hq hus p e R s m args below meth c Q H0 hF hA hH0 hmc hms hd hdl
  match i, hq with
  | 0, hq =>
    cases hq
    exact absurd (show false = true from hus) Bool.false_ne_true
  | 1, hq =>
    cases hq
    exact rx_stepC (ins := .invokevirtual 257) (len := 3) (i_p := 2) (M_p := rxM124) (d := rxC163.2.2.2.1) (as := [.inr (3, (0, 1)), .inr (0, (8, 0))]) (t := []) (ct := rxCSOV) hPX hF rfl hA hH0 hmc hms hd hdl (by decide +kernel) rfl rfl (by decide +kernel) (by decide +kernel) hQSOV (by decide +kernel) rfl (Or.inr ⟨_, _, _, 4, rfl, rfl, by omega, rfl, rfl, rfl⟩) (rxsVRD_1 hP)
  | 2, hq =>
    cases hq
    exact absurd (show false = true from hus) Bool.false_ne_true
  | 3, hq =>
    cases hq
    exact rx_stepC (ins := .invokevirtual 157) (len := 3) (i_p := 4) (M_p := rxM114) (d := rxC163.2.2.2.1) (as := [.inr (3, (10, 0))]) (t := []) (ct := rxCFIL) hPX hF rfl hA hH0 hmc hms hd hdl (by decide +kernel) rfl rfl (by decide +kernel) (by decide +kernel) hQFIL (by decide +kernel) rfl (Or.inr ⟨_, _, _, 1, rfl, rfl, by omega, rfl, rfl, rfl⟩) (rxsVRD_3 hP)
  | 4, hq =>
    cases hq
    exact absurd (show false = true from hus) Bool.false_ne_true
  | 5, hq =>
    cases hq
    exact rx_stepC (ins := .invokevirtual 132) (len := 3) (i_p := 6) (M_p := rxM105) (d := rxC163.2.2.2.1) (as := [.inr (3, (0, 1)), .inr (0, (11, 0))]) (t := [.inr (3, (10, 0))]) (ct := rxCSOP) hPX hF rfl hA hH0 hmc hms hd hdl (by decide +kernel) rfl rfl (by decide +kernel) (by decide +kernel) hQSOP (by decide +kernel) rfl (Or.inr ⟨_, _, _, 4, rfl, rfl, by omega, rfl, rfl, rfl⟩) (rxsVRD_5 hP)
  | 6, hq =>
    cases hq
    exact rx_stepC (ins := .invokevirtual 283) (len := 3) (i_p := 7) (M_p := rxM127) (d := rxC163.2.2.2.1) (as := [.inr (3, (10, 0)), .inr (3, (12, 0))]) (t := []) (ct := rxCRUN) hPX hF rfl hA hH0 hmc hms hd hdl (by decide +kernel) rfl rfl (by decide +kernel) (by decide +kernel) hQRUN (by decide +kernel) rfl (Or.inr ⟨_, _, _, 1, rfl, rfl, by omega, rfl, rfl, rfl⟩) (rxsVRD_6 hP)
  | 7, hq =>
    cases hq
    exact absurd (show false = true from hus) Bool.false_ne_true
  | n + 8, hq => cases hq
theorem rxQVRD {PX : State → Prop} {Dg : va_G} {A : Nat → Prop} {ad xa : Nat → Nat} {l : Launch} {X : (Nat → Int → Int) → Prop} (hPX : rx_PXOK rxNW A PX) (hsl : ∀ s : State, PX s → ∀ o idx n : Nat, rxSl o idx = some n → ∃ tx : String, vk_R (rxNm o) idx tx (ad n) s)
    (hX : ∀ S S_p : Nat → Int → Int, X S → bx_same rxL (bx_mdl rxC163.2.2.1) S S_p → X S_p)
    (ih : ∀ (j2 : Nat) (ct2 : bx_Ct) (M2 : rx_Mt), ct2 ∈ rxCnE j2 → ct2.2.2.2.1 + 1 ≤ rxC163.2.2.2.1 → rxT.2.2.2.2.2 j2 = some M2 → bx_Con rxG rxNW rxAO PX Dg rxL X vwCl A ad l M2 ct2) (hQSOV : bx_ConP rxG rxNW rxAO PX Dg rxL X vwCl A ad l rxM124 rxCSOV rxPSOV rxPSSOV) (hQFIL : bx_ConP rxG rxNW rxAO PX Dg rxL X vwCl A ad l rxM114 rxCFIL rxPFIL rxPSFIL) (hQSOP : bx_ConP rxG rxNW rxAO PX Dg rxL X vwCl A ad l rxM105 rxCSOP rxPSOP rxPSSOP) (hQRUN : bx_ConP rxG rxNW rxAO PX Dg rxL X vwCl A ad l rxM127 rxCRUN rxPRUN rxPSRUN) : bx_ConP rxG rxNW rxAO PX Dg rxL X vwCl A ad l rxM163 rxC163 rxPVRD rxPSVRD :=
  rxQof (xa := xa) (Cn := rxCnE) (f := 30000) (j := 163) (tab := rxYVRD) (us := rxUVRD) hPX hsl hX ih rfl rxYcVRD rxIVRD rxmVRD
    (fun S0 ws r I0 I ht0 ht as he he1 hX0 hI0 hP hs ha => by
      have e := he.symm.trans (show bx_ent0 rxNP rxC163.1 bx_I0 [] = some ([(0, 0), (0, 0), (0, 0), (0, 0), (0, 0), (0, 0), (0, 0), (0, 0), ((-2147483648), 2147483647), ((-2147483648), 2147483647)], [], [.inr (3, (0, 0)), .inr (0, (8, 0)), .inr (0, (9, 0))]) from rfl)
      cases e
      subst ha
      have h0 : r 0 = 0 := hs.1
      show rxIVRD_0 S0 _ S0 (r 8) (r 9)
      refine ⟨rfl, ?_⟩
      simp only [List.map_cons, List.map_nil, bx_xv_ok h0]
      rfl)
    (fun S0 ws hP => rxuVRD (xa := xa) hPX hX hQSOV hQFIL hQSOP hQRUN hP) (fun S0 ws hP => rxgCVRD hP) (fun S0 ws hP => rxgEVRD hP)
/-! CONTRACT BY HAND, by program (wip/sim/genhand.py): DeadUnderstudiesModel.version -/
def rxIVRR_0 (S0 : Nat → Int → Int) (ws : List Int) (S : Nat → Int → Int) (vs wh : Int) : Prop := S = S0 ∧ ws = [480, vs, wh]
def rxmVRR_0 (S0 : Nat → Int → Int) (ws : List Int) (S : Nat → Int → Int) (vs wh : Int) : Nat := 1000
def rxzVRR_0 : rx_Z := ([(0, 0), (0, 0), (0, 0), (0, 0), (0, 0), (0, 0), (0, 0), (0, 0), ((-2147483648), 2147483647), ((-2147483648), 2147483647)], [], [], 0, 0, 0, [(0, .inr (3, (0, 480))), (1, .inr (0, (8, 0))), (2, .inr (0, (9, 0)))], [])
def rxIVRR_1 (S0 : Nat → Int → Int) (ws : List Int) (S : Nat → Int → Int) (vs wh at_ : Int) : Prop := ws = [480, vs, wh] ∧ vs < S0 482 2 ∧ at_ = 298 + 36 * vs ∧ (∀ j : Int, S 482 j = S0 482 j)
def rxmVRR_1 (S0 : Nat → Int → Int) (ws : List Int) (S : Nat → Int → Int) (vs wh at_ : Int) : Nat := 50
def rxzVRR_1 : rx_Z := ([(0, 0), (0, 0), (0, 0), (0, 0), (0, 0), (0, 0), (0, 0), (0, 0), (0, 11), (3, 3), (298, 694)], [], [], 0, 0, 63, [(0, .inr (3, (0, 480))), (1, .inr (0, (8, 0))), (2, .inr (0, (9, 0)))], [.inr (0, (10, 0)), .inr (3, (0, 480))])
def rxIVRR_2 (S0 : Nat → Int → Int) (ws : List Int) (S : Nat → Int → Int) (vs wh at_ m : Int) : Prop := ws = [480, vs, wh] ∧ vs < S0 482 2 ∧ m = rjCn (fun t => decide (S0 482 (298 + 36 * vs + t) ≠ -1)) 36
def rxmVRR_2 (S0 : Nat → Int → Int) (ws : List Int) (S : Nat → Int → Int) (vs wh at_ m : Int) : Nat := 40
def rxzVRR_2 : rx_Z := ([(0, 0), (0, 0), (0, 0), (0, 0), (0, 0), (0, 0), (0, 0), (0, 0), (0, 11), (3, 3), (298, 694), ((-2147483648), 2147483647)], [], [], 0, 0, 66, [(0, .inr (3, (0, 480))), (1, .inr (0, (8, 0))), (2, .inr (0, (9, 0)))], [.inr (0, (11, 0))])
def rxIVRR_3 (S0 : Nat → Int → Int) (ws : List Int) (S : Nat → Int → Int) (vs wh n i : Int) : Prop := ws = [480, vs, wh] ∧ vs < S0 482 2 ∧ n = rjCn (fun t => decide (S0 482 (298 + 36 * vs + t) ≠ S0 482 (22 + 36 * S0 482 (262 + 3 * vs) + t))) i.toNat ∧ n ≤ i ∧ (∀ j : Int, S 482 j = S0 482 j)
def rxmVRR_3 (S0 : Nat → Int → Int) (ws : List Int) (S : Nat → Int → Int) (vs wh n i : Int) : Nat := (100 - i).toNat
def rxzVRR_3 : rx_Z := ([(0, 0), (0, 0), (0, 0), (0, 0), (0, 0), (0, 0), (0, 0), (0, 0), (0, 11), (4, 4), (0, 36), (0, 36)], [], [], 0, 0, 72, [(0, .inr (3, (0, 480))), (1, .inr (0, (8, 0))), (2, .inr (0, (9, 0))), (3, .inr (0, (10, 0))), (4, .inr (0, (11, 0)))], [])
def rxoVRR_0_0 : bx_HO := (([(0, 0), (0, 0), (0, 0), (0, 0), (0, 0), (0, 0), (0, 0), (0, 0), (0, 11), (3, 3), (1, 12), (0, 396)], [(40, (11, 0), (8, 0)), (1, (8, 0), (10, (-1)))], [(((0, 0), 1851192626986356797825753743950570534658660943933713684945305600000000), .inr (0, (10, 0))), (((0, 482), 2), .inr (0, (10, 0))), (((0, 480), 3), .inr (3, (0, 482))), (((0, 0), 1851192626986356797424340330377019318111018015026043177836478467000000), .inr (0, (0, 0))), (((0, 480), 0), .inr (0, (0, 0)))], 0, 0, 63, [(0, .inr (3, (0, 480))), (1, .inr (0, (8, 0))), (2, .inr (0, (9, 0)))], [.inr (0, (11, 298)), .inr (3, (0, 480))]), [], [], [(0, 0), (0, 0), (0, 0), (0, 0), (0, 0), (0, 0), (0, 0), (0, 0), (8, 0), (9, 0), (11, 298)], 1)
def rxoVRR_0_1 : bx_HO := (([(0, 0), (0, 0), (0, 0), (0, 0), (0, 0), (0, 0), (0, 0), (0, 0), (0, 11), (4, 4), (1, 12)], [(1, (8, 0), (10, (-1)))], [(((0, 0), 1851192626986356797825753743950570534658660943933713684945305600000000), .inr (0, (10, 0))), (((0, 482), 2), .inr (0, (10, 0))), (((0, 480), 3), .inr (3, (0, 482))), (((0, 0), 1851192626986356797424340330377019318111018015026043177836478467000000), .inr (0, (0, 0))), (((0, 480), 0), .inr (0, (0, 0)))], 0, 0, 72, [(4, .inr (0, (0, 0))), (3, .inr (0, (0, 0))), (0, .inr (3, (0, 480))), (1, .inr (0, (8, 0))), (2, .inr (0, (9, 0)))], []), [], [], [(0, 0), (0, 0), (0, 0), (0, 0), (0, 0), (0, 0), (0, 0), (0, 0), (8, 0), (9, 0), (0, 0), (0, 0)], 3)
def rxeVRR_0_0 : rx_End × List (Nat × Int × Int) := (([(0, 0), (0, 0), (0, 0), (0, 0), (0, 0), (0, 0), (0, 0), (0, 0), (0, 11), ((-2147483648), (-1)), (1, 12)], [(1, (8, 0), (10, (-1)))], [(((0, 0), 1851192626986356797825753743950570534658660943933713684945305600000000), .inr (0, (10, 0))), (((0, 482), 2), .inr (0, (10, 0))), (((0, 480), 3), .inr (3, (0, 482))), (((0, 0), 1851192626986356797424340330377019318111018015026043177836478467000000), .inr (0, (0, 0))), (((0, 480), 0), .inr (0, (0, 0)))], some (.inr (0, (0, (-1))))), [])
def rxeVRR_0_1 : rx_End × List (Nat × Int × Int) := (([(0, 0), (0, 0), (0, 0), (0, 0), (0, 0), (0, 0), (0, 0), (0, 0), (0, 11), (5, 2147483647), (1, 12)], [(1, (8, 0), (10, (-1)))], [(((0, 0), 1851192626986356797825753743950570534658660943933713684945305600000000), .inr (0, (10, 0))), (((0, 482), 2), .inr (0, (10, 0))), (((0, 480), 3), .inr (3, (0, 482))), (((0, 0), 1851192626986356797424340330377019318111018015026043177836478467000000), .inr (0, (0, 0))), (((0, 480), 0), .inr (0, (0, 0)))], some (.inr (0, (0, (-1))))), [])
def rxeVRR_0_2 : rx_End × List (Nat × Int × Int) := (([(0, 0), (0, 0), (0, 0), (0, 0), (0, 0), (0, 0), (0, 0), (0, 0), (0, 11), (0, 2), (1, 12), (0, 33), (262, 297), ((-1), 11)], [(604462909807314587353097000000, (12, 0), (11, 262)), (7, (11, 0), (8, 0)), (1, (8, 0), (10, (-1)))], [(((0, 0), 1851192626986356797424377080872646779465072059483645808804495360000000), .inr (0, (13, 0))), (((0, 0), 1851192626986356797825753743950570534658660943933713684945305600000000), .inr (0, (10, 0))), (((0, 482), 2), .inr (0, (10, 0))), (((0, 480), 3), .inr (3, (0, 482))), (((0, 0), 1851192626986356797424340330377019318111018015026043177836478467000000), .inr (0, (0, 0))), (((0, 480), 0), .inr (0, (0, 0)))], some (.inr (0, (13, 0)))), [])
def rxeVRR_0_3 : rx_End × List (Nat × Int × Int) := (([(0, 0), (0, 0), (0, 0), (0, 0), (0, 0), (0, 0), (0, 0), (0, 0), (0, 2147483647), ((-2147483648), 2147483647), (0, 12)], [(0, (10, (-1)), (8, 0))], [(((0, 0), 1851192626986356797825753743950570534658660943933713684945305600000000), .inr (0, (10, 0))), (((0, 482), 2), .inr (0, (10, 0))), (((0, 480), 3), .inr (3, (0, 482))), (((0, 0), 1851192626986356797424340330377019318111018015026043177836478467000000), .inr (0, (0, 0))), (((0, 480), 0), .inr (0, (0, 0)))], some (.inr (0, (0, (-1))))), [])
def rxeVRR_0_4 : rx_End × List (Nat × Int × Int) := (([(0, 0), (0, 0), (0, 0), (0, 0), (0, 0), (0, 0), (0, 0), (0, 0), ((-2147483648), (-1)), ((-2147483648), 2147483647), (0, 12)], [], [(((0, 0), 1851192626986356797825753743950570534658660943933713684945305600000000), .inr (0, (10, 0))), (((0, 482), 2), .inr (0, (10, 0))), (((0, 480), 3), .inr (3, (0, 482))), (((0, 0), 1851192626986356797424340330377019318111018015026043177836478467000000), .inr (0, (0, 0))), (((0, 480), 0), .inr (0, (0, 0)))], some (.inr (0, (0, (-1))))), [])
def rxeVRR_2_0 : rx_End × List (Nat × Int × Int) := (([(0, 0), (0, 0), (0, 0), (0, 0), (0, 0), (0, 0), (0, 0), (0, 0), (0, 11), (3, 3), (298, 694), ((-2147483648), 2147483647)], [], [], some (.inr (0, (11, 0)))), [])
def rxoVRR_3_0 : bx_HO := (([(0, 0), (0, 0), (0, 0), (0, 0), (0, 0), (0, 0), (0, 0), (0, 0), (0, 11), (4, 4), (0, 36), (0, 35), (0, 396), (298, 729), ((-1), 59), (0, 33), (0, 5), (0, 180), (22, 237), ((-1), 59)], [(2, (14, 0), (19, 0)), (604462909807314587353099000000, (18, 0), (17, 22)), (40, (17, 0), (16, 0)), (7, (15, 0), (8, 0)), (604462909807314587353099000000, (13, 0), (12, 298)), (40, (12, 0), (8, 0))], [(((0, 0), 1851192626986356797424395456120460510142099081712447124287913984000000), .inr (0, (19, 0))), (((0, 0), 1851192626986356850009543446631763012544809257502882897648025600000000), .inr (0, (16, 0))), (((0, 0), 1851192626986356797424380143413949067911243229855112694718398464000000), .inr (0, (14, 0))), (((0, 480), 3), .inr (3, (0, 482)))], 0, 0, 72, [(4, .inr (0, (11, 1))), (3, .inr (0, (10, 0))), (0, .inr (3, (0, 480))), (1, .inr (0, (8, 0))), (2, .inr (0, (9, 0)))], []), [], [], [(0, 0), (0, 0), (0, 0), (0, 0), (0, 0), (0, 0), (0, 0), (0, 0), (8, 0), (9, 0), (10, 0), (11, 1)], 3)
def rxoVRR_3_1 : bx_HO := (([(0, 0), (0, 0), (0, 0), (0, 0), (0, 0), (0, 0), (0, 0), (0, 0), (0, 11), (4, 4), (0, 36), (0, 35), (0, 396), (298, 729), ((-1), 59), (0, 33), (0, 5), (0, 180), (22, 237), ((-1), 59)], [(3, (14, 0), (19, 0)), (604462909807314587353099000000, (18, 0), (17, 22)), (40, (17, 0), (16, 0)), (7, (15, 0), (8, 0)), (604462909807314587353099000000, (13, 0), (12, 298)), (40, (12, 0), (8, 0))], [(((0, 0), 1851192626986356797424395456120460510142099081712447124287913984000000), .inr (0, (19, 0))), (((0, 0), 1851192626986356850009543446631763012544809257502882897648025600000000), .inr (0, (16, 0))), (((0, 0), 1851192626986356797424380143413949067911243229855112694718398464000000), .inr (0, (14, 0))), (((0, 480), 3), .inr (3, (0, 482)))], 0, 0, 72, [(4, .inr (0, (11, 1))), (3, .inr (0, (10, 1))), (0, .inr (3, (0, 480))), (1, .inr (0, (8, 0))), (2, .inr (0, (9, 0)))], []), [(10, (-1), 35)], [], [(0, 0), (0, 0), (0, 0), (0, 0), (0, 0), (0, 0), (0, 0), (0, 0), (8, 0), (9, 0), (10, 1), (11, 1)], 3)
def rxeVRR_3_0 : rx_End × List (Nat × Int × Int) := (([(0, 0), (0, 0), (0, 0), (0, 0), (0, 0), (0, 0), (0, 0), (0, 0), (0, 11), (4, 4), (0, 36), (36, 36)], [], [], some (.inr (0, (10, 0)))), [])
def rxYVRR : List bx_HE := [(rxzVRR_0, [rxoVRR_0_0, rxoVRR_0_1], [rxeVRR_0_0, rxeVRR_0_1, rxeVRR_0_2, rxeVRR_0_3, rxeVRR_0_4]), (rxzVRR_1, [], []), (rxzVRR_2, [], [rxeVRR_2_0]), (rxzVRR_3, [rxoVRR_3_0, rxoVRR_3_1], [rxeVRR_3_0])]
def rxUVRR (q : bx_HE) : Bool := Nat.beq (rx_zpc q.1) 63
def rxYBVRR : bx_B := (rxV, rxNP, rxDmf, bx_mdH rxC164.2.2.1)
set_option maxRecDepth 100000 in
theorem rxYcVRR : bx_chkH rxYBVRR rxM164 rxC164 rxYVRR (rxUVRR, fun cut z => rx_ex2 (rxCT rxYBVRR rxCnE) cut 30000 rxC164.2.2.2.1 164 z) = true := by decide +kernel
def rxIVRR (S0 : Nat → Int → Int) (ws : List Int) (i : Nat) : bx_SP := fun S r => match i with | 0 => rxIVRR_0 S0 ws S (r 8) (r 9) | 1 => rxIVRR_1 S0 ws S (r 8) (r 9) (r 10) | 2 => rxIVRR_2 S0 ws S (r 8) (r 9) (r 10) (r 11) | 3 => rxIVRR_3 S0 ws S (r 8) (r 9) (r 10) (r 11) | _ => False
def rxmVRR (S0 : Nat → Int → Int) (ws : List Int) (i : Nat) (S : Nat → Int → Int) (r : Nat → Int) : Nat := match i with | 0 => rxmVRR_0 S0 ws S (r 8) (r 9) | 1 => rxmVRR_1 S0 ws S (r 8) (r 9) (r 10) | 2 => rxmVRR_2 S0 ws S (r 8) (r 9) (r 10) (r 11) | 3 => rxmVRR_3 S0 ws S (r 8) (r 9) (r 10) (r 11) | _ => 0
def rxPVRR (S0 : Nat → Int → Int) (ws : List Int) : Prop := True
def rxPSVRR (S0 : Nat → Int → Int) (ws : List Int) (S : Nat → Int → Int) (w : Option Int) : Prop := ∃ vs wh : Int, ws = [480, vs, wh] ∧ (((vs < 0 ∨ S0 482 2 ≤ vs ∨ wh < 0 ∨ 4 < wh) ∧ w = some (-1)) ∨ ((0 ≤ vs ∧ vs < S0 482 2) ∧ wh = 0 ∧ w = some (S0 482 (262 + 3 * vs))) ∨ ((0 ≤ vs ∧ vs < S0 482 2) ∧ wh = 1 ∧ w = some (S0 482 (263 + 3 * vs))) ∨ ((0 ≤ vs ∧ vs < S0 482 2) ∧ wh = 2 ∧ w = some (S0 482 (264 + 3 * vs))) ∨ ((0 ≤ vs ∧ vs < S0 482 2) ∧ wh = 3 ∧ w = some (rjCn (fun t => decide (S0 482 (298 + 36 * vs + t) ≠ -1)) 36)) ∨ ((0 ≤ vs ∧ vs < S0 482 2) ∧ wh = 4 ∧ w = some (rjCn (fun t => decide (S0 482 (298 + 36 * vs + t) ≠ S0 482 (22 + 36 * S0 482 (262 + 3 * vs) + t))) 36)))
theorem rxkVRR_1 {S0 : Nat → Int → Int} {ws : List Int} {S : Nat → Int → Int} {vs wh at_ : Int} (hP : rxPVRR S0 ws) (hin : bx_same rxL (bx_mdl rxC164.2.2.1) S0 S) (I0 : bx_Inv rxL S) (hinv : rxIVRR_1 S0 ws S vs wh at_) (l8 : 0 ≤ vs) (u8 : vs ≤ 11) (l9 : 3 ≤ wh) (u9 : wh ≤ 3) (l10 : 298 ≤ at_) (u10 : at_ ≤ 694) : rxPTLD S [480, at_] ∧ ∀ (S_p : Nat → Int → Int) (m : Int), (-2147483648) ≤ m → m ≤ 2147483647 → rxPSTLD S [480, at_] S_p (some m) → bx_Inv rxL S_p → bx_same rxL (bx_mdl rxCTLD.2.2.1) S S_p → rxIVRR_2 S0 ws S_p vs wh at_ m ∧ rxmVRR_2 S0 ws S_p vs wh at_ m < rxmVRR_1 S0 ws S vs wh at_ := by
  obtain ⟨hw, hp, ha, hf⟩ := hinv
  refine ⟨trivial, fun S_p m _ _ hq _ hsm => ⟨⟨hw, hp, ?_⟩, by unfold rxmVRR_1 rxmVRR_2; omega⟩⟩
  obtain ⟨hS, a2, hw3, hv⟩ := hq
  have k1 : at_ = a2 := Option.some.inj (congrArg (fun l : List Int => l[1]?) hw3)
  subst k1
  subst ha
  exact (Option.some.inj hv).trans (rjCn_cg fun t _ _ => by rw [hf])
theorem rxsVRR_1 {X : (Nat → Int → Int) → Prop} {S0 : Nat → Int → Int} {ws : List Int} (hP : rxPVRR S0 ws) : rx_obK X S0 rxC164.2.2.1 rxCTLD.2.2.1 (rxIVRR S0 ws) (rxmVRR S0 ws) 1 2 rxzVRR_1 rxzVRR_2 [.inr (3, (0, 480)), .inr (0, (10, 0))] (some 11) rxPTLD rxPSTLD := by
  intro S r hinv hXS I0 hin hs_ hf_
  have b_ := bx_bds_sat hs_
  have f_ := bx_fcl_ok hs_.1 hf_
  obtain ⟨⟨l8, u8⟩, ⟨l9, u9⟩, ⟨l10, u10⟩, -⟩ := b_
  have g := rxkVRR_1 hP hin I0 hinv l8 u8 l9 u9 l10 u10
  have ea : List.map (bx_num r) [.inr (3, (0, 480)), .inr (0, (10, 0))] = [480, (r 10)] := by
    simp only [List.map_cons, List.map_nil, bx_xv_ok hs_.1]
    rfl
  rw [ea]
  refine ⟨g.1, fun S_p w r_p hPS hX_p I1 hsm hr hw hs_p => ?_⟩
  have hw := hw _ rfl
  subst hw
  have b_p := hs_p.2.2 11 _ _ rfl
  have g2 := g.2 S_p (r_p 11) b_p.1 b_p.2 hPS I1 hsm
  show rxIVRR_2 S0 ws S_p (r_p 8) (r_p 9) (r_p 10) (r_p 11) ∧ rxmVRR_2 S0 ws S_p (r_p 8) (r_p 9) (r_p 10) (r_p 11) < _
  rw [hr 8 (by decide), hr 9 (by decide), hr 10 (by decide)]
  exact g2
theorem rxcVRR_0_0 {S0 : Nat → Int → Int} {ws : List Int} {S : Nat → Int → Int} {vs wh x10 x11 : Int} (hP : rxPVRR S0 ws) (hin : bx_same rxL (bx_mdl rxC164.2.2.1) S0 S) (I0 : bx_Inv rxL S) (hinv : rxIVRR_0 S0 ws S vs wh) (l8 : 0 ≤ vs) (u8 : vs ≤ 11) (l9 : 3 ≤ wh) (u9 : wh ≤ 3) (l10 : 1 ≤ x10) (u10 : x10 ≤ 12) (l11 : 0 ≤ x11) (u11 : x11 ≤ 396) (f0 : x11 = 36 * (vs)) (f1 : vs ≤ x10 + (-1)) (e0 : (bx_up S 480 0 0) 482 2 = x10) : (True) ∧ (True) ∧ rxIVRR_1 S0 ws (bx_up S 480 0 0) vs wh (x11 + 298) ∧ rxmVRR_1 S0 ws (bx_up S 480 0 0) vs wh (x11 + 298) < rxmVRR_0 S0 ws S vs wh := by
  obtain ⟨rfl, hw⟩ := hinv
  have qe0 := e0
  rw [bx_up_ne (by omega)] at qe0
  exact ⟨trivial, trivial, ⟨hw, by omega, by omega, fun j => bx_up_ne (by omega)⟩, by unfold rxmVRR_0 rxmVRR_1; omega⟩
theorem rxgVRR_0_0 {X : (Nat → Int → Int) → Prop} {S0 : Nat → Int → Int} {ws : List Int} (hP : rxPVRR S0 ws) : bx_obC rxL X S0 rxC164.2.2.1 (rxIVRR S0 ws) (rxmVRR S0 ws) 0 rxzVRR_0 rxoVRR_0_0 := by
  intro S S_p r r_p hinv hX hin hsm_ hseg
  obtain ⟨I0, I1, h0_, hr_, b_, f_, d_⟩ := bx_cl (evs := [(0, (0, 482), (0, 2), .inr (0, (10, 0))), (1, (0, 480), (0, 0), .inr (0, (0, 0)))]) (fvs := [(4, (11, 0), (8, 0), (0, 36)), (1, (8, 0), (10, (-1)), (0, 0))]) hseg (by decide +kernel) (by decide +kernel)
  have hinv : rxIVRR_0 S0 ws S (r 8) (r 9) := hinv
  rw [← hr_ 8 (by decide), ← hr_ 9 (by decide)] at hinv
  obtain ⟨⟨l8, u8⟩, ⟨l9, u9⟩, ⟨l10, u10⟩, ⟨l11, u11⟩, -⟩ := b_
  obtain ⟨f0, f1, -⟩ := f_
  obtain ⟨e0, ⟨T1, w_, w1⟩⟩ := d_
  subst w1
  subst w_
  have g := rxcVRR_0_0 hP hin I0 hinv l8 u8 l9 u9 l10 u10 l11 u11 f0 f1 e0
  refine ⟨bx_narP_ok (l := []) g.1, bx_nfP_ok h0_ (fvs := []) (by decide +kernel) g.2.1, ?_, ?_⟩
  · show rxIVRR_1 S0 ws (bx_up T1 480 (0) (0)) (bx_val [(0, 0), (0, 0), (0, 0), (0, 0), (0, 0), (0, 0), (0, 0), (0, 0), (8, 0), (9, 0), (11, 298)] r_p 8) (bx_val [(0, 0), (0, 0), (0, 0), (0, 0), (0, 0), (0, 0), (0, 0), (0, 0), (8, 0), (9, 0), (11, 298)] r_p 9) (bx_val [(0, 0), (0, 0), (0, 0), (0, 0), (0, 0), (0, 0), (0, 0), (0, 0), (8, 0), (9, 0), (11, 298)] r_p 10)
    rw [bx_val_x (n := 8) (e := (8, 0)) h0_ rfl, bx_val_x (n := 9) (e := (9, 0)) h0_ rfl, bx_val_x (n := 10) (e := (11, 298)) h0_ rfl]
    exact g.2.2.1
  · show rxmVRR_1 S0 ws (bx_up T1 480 (0) (0)) (bx_val [(0, 0), (0, 0), (0, 0), (0, 0), (0, 0), (0, 0), (0, 0), (0, 0), (8, 0), (9, 0), (11, 298)] r_p 8) (bx_val [(0, 0), (0, 0), (0, 0), (0, 0), (0, 0), (0, 0), (0, 0), (0, 0), (8, 0), (9, 0), (11, 298)] r_p 9) (bx_val [(0, 0), (0, 0), (0, 0), (0, 0), (0, 0), (0, 0), (0, 0), (0, 0), (8, 0), (9, 0), (11, 298)] r_p 10) < rxmVRR_0 S0 ws T1 (r 8) (r 9)
    rw [bx_val_x (n := 8) (e := (8, 0)) h0_ rfl, bx_val_x (n := 9) (e := (9, 0)) h0_ rfl, bx_val_x (n := 10) (e := (11, 298)) h0_ rfl, ← hr_ 8 (by decide), ← hr_ 9 (by decide)]
    exact g.2.2.2
theorem rxcVRR_0_1 {S0 : Nat → Int → Int} {ws : List Int} {S : Nat → Int → Int} {vs wh x10 : Int} (hP : rxPVRR S0 ws) (hin : bx_same rxL (bx_mdl rxC164.2.2.1) S0 S) (I0 : bx_Inv rxL S) (hinv : rxIVRR_0 S0 ws S vs wh) (l8 : 0 ≤ vs) (u8 : vs ≤ 11) (l9 : 4 ≤ wh) (u9 : wh ≤ 4) (l10 : 1 ≤ x10) (u10 : x10 ≤ 12) (f0 : vs ≤ x10 + (-1)) (e0 : (bx_up S 480 0 0) 482 2 = x10) : (True) ∧ (True) ∧ rxIVRR_3 S0 ws (bx_up S 480 0 0) vs wh 0 0 ∧ rxmVRR_3 S0 ws (bx_up S 480 0 0) vs wh 0 0 < rxmVRR_0 S0 ws S vs wh := by
  obtain ⟨rfl, hw⟩ := hinv
  have qe0 := e0
  rw [bx_up_ne (by omega)] at qe0
  exact ⟨trivial, trivial, ⟨hw, by omega, rfl, by omega, fun j => bx_up_ne (by omega)⟩, by unfold rxmVRR_0 rxmVRR_3; omega⟩
theorem rxgVRR_0_1 {X : (Nat → Int → Int) → Prop} {S0 : Nat → Int → Int} {ws : List Int} (hP : rxPVRR S0 ws) : bx_obC rxL X S0 rxC164.2.2.1 (rxIVRR S0 ws) (rxmVRR S0 ws) 0 rxzVRR_0 rxoVRR_0_1 := by
  intro S S_p r r_p hinv hX hin hsm_ hseg
  obtain ⟨I0, I1, h0_, hr_, b_, f_, d_⟩ := bx_cl (evs := [(0, (0, 482), (0, 2), .inr (0, (10, 0))), (1, (0, 480), (0, 0), .inr (0, (0, 0)))]) (fvs := [(1, (8, 0), (10, (-1)), (0, 0))]) hseg (by decide +kernel) (by decide +kernel)
  have hinv : rxIVRR_0 S0 ws S (r 8) (r 9) := hinv
  rw [← hr_ 8 (by decide), ← hr_ 9 (by decide)] at hinv
  obtain ⟨⟨l8, u8⟩, ⟨l9, u9⟩, ⟨l10, u10⟩, -⟩ := b_
  obtain ⟨f0, -⟩ := f_
  obtain ⟨e0, ⟨T1, w_, w1⟩⟩ := d_
  subst w1
  subst w_
  have g := rxcVRR_0_1 hP hin I0 hinv l8 u8 l9 u9 l10 u10 f0 e0
  refine ⟨bx_narP_ok (l := []) g.1, bx_nfP_ok h0_ (fvs := []) (by decide +kernel) g.2.1, ?_, ?_⟩
  · show rxIVRR_3 S0 ws (bx_up T1 480 (0) (0)) (bx_val [(0, 0), (0, 0), (0, 0), (0, 0), (0, 0), (0, 0), (0, 0), (0, 0), (8, 0), (9, 0), (0, 0), (0, 0)] r_p 8) (bx_val [(0, 0), (0, 0), (0, 0), (0, 0), (0, 0), (0, 0), (0, 0), (0, 0), (8, 0), (9, 0), (0, 0), (0, 0)] r_p 9) (bx_val [(0, 0), (0, 0), (0, 0), (0, 0), (0, 0), (0, 0), (0, 0), (0, 0), (8, 0), (9, 0), (0, 0), (0, 0)] r_p 10) (bx_val [(0, 0), (0, 0), (0, 0), (0, 0), (0, 0), (0, 0), (0, 0), (0, 0), (8, 0), (9, 0), (0, 0), (0, 0)] r_p 11)
    rw [bx_val_x (n := 8) (e := (8, 0)) h0_ rfl, bx_val_x (n := 9) (e := (9, 0)) h0_ rfl, bx_val_x (n := 10) (e := (0, 0)) h0_ rfl, bx_val_x (n := 11) (e := (0, 0)) h0_ rfl]
    exact g.2.2.1
  · show rxmVRR_3 S0 ws (bx_up T1 480 (0) (0)) (bx_val [(0, 0), (0, 0), (0, 0), (0, 0), (0, 0), (0, 0), (0, 0), (0, 0), (8, 0), (9, 0), (0, 0), (0, 0)] r_p 8) (bx_val [(0, 0), (0, 0), (0, 0), (0, 0), (0, 0), (0, 0), (0, 0), (0, 0), (8, 0), (9, 0), (0, 0), (0, 0)] r_p 9) (bx_val [(0, 0), (0, 0), (0, 0), (0, 0), (0, 0), (0, 0), (0, 0), (0, 0), (8, 0), (9, 0), (0, 0), (0, 0)] r_p 10) (bx_val [(0, 0), (0, 0), (0, 0), (0, 0), (0, 0), (0, 0), (0, 0), (0, 0), (8, 0), (9, 0), (0, 0), (0, 0)] r_p 11) < rxmVRR_0 S0 ws T1 (r 8) (r 9)
    rw [bx_val_x (n := 8) (e := (8, 0)) h0_ rfl, bx_val_x (n := 9) (e := (9, 0)) h0_ rfl, bx_val_x (n := 10) (e := (0, 0)) h0_ rfl, bx_val_x (n := 11) (e := (0, 0)) h0_ rfl, ← hr_ 8 (by decide), ← hr_ 9 (by decide)]
    exact g.2.2.2
theorem rxdVRR_0_0 {S0 : Nat → Int → Int} {ws : List Int} {S : Nat → Int → Int} {vs wh x10 : Int} (hP : rxPVRR S0 ws) (hin : bx_same rxL (bx_mdl rxC164.2.2.1) S0 S) (hin2 : bx_same rxL (bx_mdl rxC164.2.2.1) S (bx_up S 480 0 0)) (I0 : bx_Inv rxL S) (I1 : bx_Inv rxL (bx_up S 480 0 0)) (hinv : rxIVRR_0 S0 ws S vs wh) (l8 : 0 ≤ vs) (u8 : vs ≤ 11) (l9 : (-2147483648) ≤ wh) (u9 : wh ≤ (-1)) (l10 : 1 ≤ x10) (u10 : x10 ≤ 12) (f0 : vs ≤ x10 + (-1)) (e0 : (bx_up S 480 0 0) 482 2 = x10) : (True) ∧ rxPSVRR S0 ws (bx_up S 480 0 0) (some ((-1))) := by
  obtain ⟨rfl, hw⟩ := hinv
  have qe0 := e0
  rw [bx_up_ne (by omega)] at qe0
  exact ⟨trivial, vs, wh, hw, Or.inl ⟨by omega, rfl⟩⟩
theorem rxfVRR_0_0 {X : (Nat → Int → Int) → Prop} {S0 : Nat → Int → Int} {ws : List Int} (hP : rxPVRR S0 ws) : bx_obE rxL X S0 rxC164.2.2.1 (rxIVRR S0 ws) (rxPSVRR S0 ws) 0 rxzVRR_0 rxeVRR_0_0 := by
  intro S S_p r r_p hinv hX hin hsm_ hseg
  obtain ⟨I0, I1, h0_, hr_, b_, f_, d_⟩ := bx_cl (evs := [(0, (0, 482), (0, 2), .inr (0, (10, 0))), (1, (0, 480), (0, 0), .inr (0, (0, 0)))]) (fvs := [(1, (8, 0), (10, (-1)), (0, 0))]) hseg (by decide +kernel) (by decide +kernel)
  have hinv : rxIVRR_0 S0 ws S (r 8) (r 9) := hinv
  rw [← hr_ 8 (by decide), ← hr_ 9 (by decide)] at hinv
  obtain ⟨⟨l8, u8⟩, ⟨l9, u9⟩, ⟨l10, u10⟩, -⟩ := b_
  obtain ⟨f0, -⟩ := f_
  obtain ⟨e0, ⟨T1, w_, w1⟩⟩ := d_
  subst w1
  subst w_
  have g := rxdVRR_0_0 hP hin hsm_ I0 I1 hinv l8 u8 l9 u9 l10 u10 f0 e0
  refine ⟨bx_narP_ok (l := []) g.1, ?_⟩
  show rxPSVRR S0 ws (bx_up T1 480 (0) (0)) (some (bx_num r_p (.inr (0, (0, (-1))))))
  rw [bx_xv_ok h0_]
  exact g.2
theorem rxdVRR_0_1 {S0 : Nat → Int → Int} {ws : List Int} {S : Nat → Int → Int} {vs wh x10 : Int} (hP : rxPVRR S0 ws) (hin : bx_same rxL (bx_mdl rxC164.2.2.1) S0 S) (hin2 : bx_same rxL (bx_mdl rxC164.2.2.1) S (bx_up S 480 0 0)) (I0 : bx_Inv rxL S) (I1 : bx_Inv rxL (bx_up S 480 0 0)) (hinv : rxIVRR_0 S0 ws S vs wh) (l8 : 0 ≤ vs) (u8 : vs ≤ 11) (l9 : 5 ≤ wh) (u9 : wh ≤ 2147483647) (l10 : 1 ≤ x10) (u10 : x10 ≤ 12) (f0 : vs ≤ x10 + (-1)) (e0 : (bx_up S 480 0 0) 482 2 = x10) : (True) ∧ rxPSVRR S0 ws (bx_up S 480 0 0) (some ((-1))) := by
  obtain ⟨rfl, hw⟩ := hinv
  have qe0 := e0
  rw [bx_up_ne (by omega)] at qe0
  exact ⟨trivial, vs, wh, hw, Or.inl ⟨by omega, rfl⟩⟩
theorem rxfVRR_0_1 {X : (Nat → Int → Int) → Prop} {S0 : Nat → Int → Int} {ws : List Int} (hP : rxPVRR S0 ws) : bx_obE rxL X S0 rxC164.2.2.1 (rxIVRR S0 ws) (rxPSVRR S0 ws) 0 rxzVRR_0 rxeVRR_0_1 := by
  intro S S_p r r_p hinv hX hin hsm_ hseg
  obtain ⟨I0, I1, h0_, hr_, b_, f_, d_⟩ := bx_cl (evs := [(0, (0, 482), (0, 2), .inr (0, (10, 0))), (1, (0, 480), (0, 0), .inr (0, (0, 0)))]) (fvs := [(1, (8, 0), (10, (-1)), (0, 0))]) hseg (by decide +kernel) (by decide +kernel)
  have hinv : rxIVRR_0 S0 ws S (r 8) (r 9) := hinv
  rw [← hr_ 8 (by decide), ← hr_ 9 (by decide)] at hinv
  obtain ⟨⟨l8, u8⟩, ⟨l9, u9⟩, ⟨l10, u10⟩, -⟩ := b_
  obtain ⟨f0, -⟩ := f_
  obtain ⟨e0, ⟨T1, w_, w1⟩⟩ := d_
  subst w1
  subst w_
  have g := rxdVRR_0_1 hP hin hsm_ I0 I1 hinv l8 u8 l9 u9 l10 u10 f0 e0
  refine ⟨bx_narP_ok (l := []) g.1, ?_⟩
  show rxPSVRR S0 ws (bx_up T1 480 (0) (0)) (some (bx_num r_p (.inr (0, (0, (-1))))))
  rw [bx_xv_ok h0_]
  exact g.2
theorem rxdVRR_0_2 {S0 : Nat → Int → Int} {ws : List Int} {S : Nat → Int → Int} {vs wh x10 x11 x12 x13 : Int} (hP : rxPVRR S0 ws) (hin : bx_same rxL (bx_mdl rxC164.2.2.1) S0 S) (hin2 : bx_same rxL (bx_mdl rxC164.2.2.1) S (bx_up S 480 0 0)) (I0 : bx_Inv rxL S) (I1 : bx_Inv rxL (bx_up S 480 0 0)) (hinv : rxIVRR_0 S0 ws S vs wh) (l8 : 0 ≤ vs) (u8 : vs ≤ 11) (l9 : 0 ≤ wh) (u9 : wh ≤ 2) (l10 : 1 ≤ x10) (u10 : x10 ≤ 12) (l11 : 0 ≤ x11) (u11 : x11 ≤ 33) (l12 : 262 ≤ x12) (u12 : x12 ≤ 297) (l13 : (-1) ≤ x13) (u13 : x13 ≤ 11) (f0 : x12 = x11 + 262 + wh) (f1 : x11 = 3 * (vs)) (f2 : vs ≤ x10 + (-1)) (e1 : (bx_up S 480 0 0) 482 2 = x10) (e0 : (bx_up S 480 0 0) 482 x12 = x13) : (True) ∧ rxPSVRR S0 ws (bx_up S 480 0 0) (some x13) := by
  obtain ⟨rfl, hw⟩ := hinv
  have qe1 := e1
  rw [bx_up_ne (by omega)] at qe1
  have qe0 := e0
  rw [bx_up_ne (by omega)] at qe0
  rcases (show wh = 0 ∨ wh = 1 ∨ wh = 2 by omega) with c | c | c
  · have ix : x12 = 262 + 3 * vs := by omega
    rw [ix] at qe0
    exact ⟨trivial, vs, wh, hw, Or.inr (Or.inl (⟨⟨by omega, by omega⟩, c, congrArg some qe0.symm⟩))⟩
  · have ix : x12 = 263 + 3 * vs := by omega
    rw [ix] at qe0
    exact ⟨trivial, vs, wh, hw, Or.inr (Or.inr (Or.inl (⟨⟨by omega, by omega⟩, c, congrArg some qe0.symm⟩)))⟩
  · have ix : x12 = 264 + 3 * vs := by omega
    rw [ix] at qe0
    exact ⟨trivial, vs, wh, hw, Or.inr (Or.inr (Or.inr (Or.inl (⟨⟨by omega, by omega⟩, c, congrArg some qe0.symm⟩))))⟩
theorem rxfVRR_0_2 {X : (Nat → Int → Int) → Prop} {S0 : Nat → Int → Int} {ws : List Int} (hP : rxPVRR S0 ws) : bx_obE rxL X S0 rxC164.2.2.1 (rxIVRR S0 ws) (rxPSVRR S0 ws) 0 rxzVRR_0 rxeVRR_0_2 := by
  intro S S_p r r_p hinv hX hin hsm_ hseg
  obtain ⟨I0, I1, h0_, hr_, b_, f_, d_⟩ := bx_cl (evs := [(0, (0, 482), (12, 0), .inr (0, (13, 0))), (0, (0, 482), (0, 2), .inr (0, (10, 0))), (1, (0, 480), (0, 0), .inr (0, (0, 0)))]) (fvs := [(5, (12, 0), (11, 262), (9, 0)), (4, (11, 0), (8, 0), (0, 3)), (1, (8, 0), (10, (-1)), (0, 0))]) hseg (by decide +kernel) (by decide +kernel)
  have hinv : rxIVRR_0 S0 ws S (r 8) (r 9) := hinv
  rw [← hr_ 8 (by decide), ← hr_ 9 (by decide)] at hinv
  obtain ⟨⟨l8, u8⟩, ⟨l9, u9⟩, ⟨l10, u10⟩, ⟨l11, u11⟩, ⟨l12, u12⟩, ⟨l13, u13⟩, -⟩ := b_
  obtain ⟨f0, f1, f2, -⟩ := f_
  obtain ⟨e0, ⟨e1, ⟨T2, w_, w2⟩⟩⟩ := d_
  subst w2
  subst w_
  have g := rxdVRR_0_2 hP hin hsm_ I0 I1 hinv l8 u8 l9 u9 l10 u10 l11 u11 l12 u12 l13 u13 f0 f1 f2 e1 e0
  refine ⟨bx_narP_ok (l := []) g.1, ?_⟩
  show rxPSVRR S0 ws (bx_up T2 480 (0) (0)) (some (bx_num r_p (.inr (0, (13, 0)))))
  rw [bx_xv_ok h0_]
  exact g.2
theorem rxdVRR_0_3 {S0 : Nat → Int → Int} {ws : List Int} {S : Nat → Int → Int} {vs wh x10 : Int} (hP : rxPVRR S0 ws) (hin : bx_same rxL (bx_mdl rxC164.2.2.1) S0 S) (hin2 : bx_same rxL (bx_mdl rxC164.2.2.1) S (bx_up S 480 0 0)) (I0 : bx_Inv rxL S) (I1 : bx_Inv rxL (bx_up S 480 0 0)) (hinv : rxIVRR_0 S0 ws S vs wh) (l8 : 0 ≤ vs) (u8 : vs ≤ 2147483647) (l9 : (-2147483648) ≤ wh) (u9 : wh ≤ 2147483647) (l10 : 0 ≤ x10) (u10 : x10 ≤ 12) (f0 : x10 + (-1) < vs) (e0 : (bx_up S 480 0 0) 482 2 = x10) : (True) ∧ rxPSVRR S0 ws (bx_up S 480 0 0) (some ((-1))) := by
  obtain ⟨rfl, hw⟩ := hinv
  have qe0 := e0
  rw [bx_up_ne (by omega)] at qe0
  exact ⟨trivial, vs, wh, hw, Or.inl ⟨by omega, rfl⟩⟩
theorem rxfVRR_0_3 {X : (Nat → Int → Int) → Prop} {S0 : Nat → Int → Int} {ws : List Int} (hP : rxPVRR S0 ws) : bx_obE rxL X S0 rxC164.2.2.1 (rxIVRR S0 ws) (rxPSVRR S0 ws) 0 rxzVRR_0 rxeVRR_0_3 := by
  intro S S_p r r_p hinv hX hin hsm_ hseg
  obtain ⟨I0, I1, h0_, hr_, b_, f_, d_⟩ := bx_cl (evs := [(0, (0, 482), (0, 2), .inr (0, (10, 0))), (1, (0, 480), (0, 0), .inr (0, (0, 0)))]) (fvs := [(0, (10, (-1)), (8, 0), (0, 0))]) hseg (by decide +kernel) (by decide +kernel)
  have hinv : rxIVRR_0 S0 ws S (r 8) (r 9) := hinv
  rw [← hr_ 8 (by decide), ← hr_ 9 (by decide)] at hinv
  obtain ⟨⟨l8, u8⟩, ⟨l9, u9⟩, ⟨l10, u10⟩, -⟩ := b_
  obtain ⟨f0, -⟩ := f_
  obtain ⟨e0, ⟨T1, w_, w1⟩⟩ := d_
  subst w1
  subst w_
  have g := rxdVRR_0_3 hP hin hsm_ I0 I1 hinv l8 u8 l9 u9 l10 u10 f0 e0
  refine ⟨bx_narP_ok (l := []) g.1, ?_⟩
  show rxPSVRR S0 ws (bx_up T1 480 (0) (0)) (some (bx_num r_p (.inr (0, (0, (-1))))))
  rw [bx_xv_ok h0_]
  exact g.2
theorem rxdVRR_0_4 {S0 : Nat → Int → Int} {ws : List Int} {S : Nat → Int → Int} {vs wh x10 : Int} (hP : rxPVRR S0 ws) (hin : bx_same rxL (bx_mdl rxC164.2.2.1) S0 S) (hin2 : bx_same rxL (bx_mdl rxC164.2.2.1) S (bx_up S 480 0 0)) (I0 : bx_Inv rxL S) (I1 : bx_Inv rxL (bx_up S 480 0 0)) (hinv : rxIVRR_0 S0 ws S vs wh) (l8 : (-2147483648) ≤ vs) (u8 : vs ≤ (-1)) (l9 : (-2147483648) ≤ wh) (u9 : wh ≤ 2147483647) (l10 : 0 ≤ x10) (u10 : x10 ≤ 12) (e0 : (bx_up S 480 0 0) 482 2 = x10) : (True) ∧ rxPSVRR S0 ws (bx_up S 480 0 0) (some ((-1))) := by
  obtain ⟨rfl, hw⟩ := hinv
  have qe0 := e0
  rw [bx_up_ne (by omega)] at qe0
  exact ⟨trivial, vs, wh, hw, Or.inl ⟨by omega, rfl⟩⟩
theorem rxfVRR_0_4 {X : (Nat → Int → Int) → Prop} {S0 : Nat → Int → Int} {ws : List Int} (hP : rxPVRR S0 ws) : bx_obE rxL X S0 rxC164.2.2.1 (rxIVRR S0 ws) (rxPSVRR S0 ws) 0 rxzVRR_0 rxeVRR_0_4 := by
  intro S S_p r r_p hinv hX hin hsm_ hseg
  obtain ⟨I0, I1, h0_, hr_, b_, f_, d_⟩ := bx_cl (evs := [(0, (0, 482), (0, 2), .inr (0, (10, 0))), (1, (0, 480), (0, 0), .inr (0, (0, 0)))]) (fvs := []) hseg (by decide +kernel) (by decide +kernel)
  have hinv : rxIVRR_0 S0 ws S (r 8) (r 9) := hinv
  rw [← hr_ 8 (by decide), ← hr_ 9 (by decide)] at hinv
  obtain ⟨⟨l8, u8⟩, ⟨l9, u9⟩, ⟨l10, u10⟩, -⟩ := b_
  obtain ⟨e0, ⟨T1, w_, w1⟩⟩ := d_
  subst w1
  subst w_
  have g := rxdVRR_0_4 hP hin hsm_ I0 I1 hinv l8 u8 l9 u9 l10 u10 e0
  refine ⟨bx_narP_ok (l := []) g.1, ?_⟩
  show rxPSVRR S0 ws (bx_up T1 480 (0) (0)) (some (bx_num r_p (.inr (0, (0, (-1))))))
  rw [bx_xv_ok h0_]
  exact g.2
theorem rxdVRR_2_0 {S0 : Nat → Int → Int} {ws : List Int} {S : Nat → Int → Int} {vs wh at_ m : Int} (hP : rxPVRR S0 ws) (hin : bx_same rxL (bx_mdl rxC164.2.2.1) S0 S) (hin2 : bx_same rxL (bx_mdl rxC164.2.2.1) S S) (I0 : bx_Inv rxL S) (I1 : bx_Inv rxL S) (hinv : rxIVRR_2 S0 ws S vs wh at_ m) (l8 : 0 ≤ vs) (u8 : vs ≤ 11) (l9 : 3 ≤ wh) (u9 : wh ≤ 3) (l10 : 298 ≤ at_) (u10 : at_ ≤ 694) (l11 : (-2147483648) ≤ m) (u11 : m ≤ 2147483647) : (True) ∧ rxPSVRR S0 ws S (some m) := by
  obtain ⟨hw, hp, hm⟩ := hinv
  exact ⟨trivial, vs, wh, hw, Or.inr (Or.inr (Or.inr (Or.inr (Or.inl (⟨⟨by omega, hp⟩, by omega, congrArg some hm⟩)))))⟩
theorem rxfVRR_2_0 {X : (Nat → Int → Int) → Prop} {S0 : Nat → Int → Int} {ws : List Int} (hP : rxPVRR S0 ws) : bx_obE rxL X S0 rxC164.2.2.1 (rxIVRR S0 ws) (rxPSVRR S0 ws) 2 rxzVRR_2 rxeVRR_2_0 := by
  intro S S_p r r_p hinv hX hin hsm_ hseg
  obtain ⟨I0, I1, h0_, hr_, b_, f_, d_⟩ := bx_cl (evs := []) (fvs := []) hseg (by decide +kernel) (by decide +kernel)
  have hinv : rxIVRR_2 S0 ws S (r 8) (r 9) (r 10) (r 11) := hinv
  rw [← hr_ 8 (by decide), ← hr_ 9 (by decide), ← hr_ 10 (by decide), ← hr_ 11 (by decide)] at hinv
  obtain ⟨⟨l8, u8⟩, ⟨l9, u9⟩, ⟨l10, u10⟩, ⟨l11, u11⟩, -⟩ := b_
  have w_ := d_
  subst w_
  have g := rxdVRR_2_0 hP hin hsm_ I0 I1 hinv l8 u8 l9 u9 l10 u10 l11 u11
  refine ⟨bx_narP_ok (l := []) g.1, ?_⟩
  show rxPSVRR S0 ws S_p (some (bx_num r_p (.inr (0, (11, 0)))))
  rw [bx_xv_ok h0_]
  exact g.2
theorem rxcVRR_3_0 {S0 : Nat → Int → Int} {ws : List Int} {S : Nat → Int → Int} {vs wh n i x12 x13 x14 x15 x16 x17 x18 x19 : Int} (hP : rxPVRR S0 ws) (hin : bx_same rxL (bx_mdl rxC164.2.2.1) S0 S) (I0 : bx_Inv rxL S) (hinv : rxIVRR_3 S0 ws S vs wh n i) (l8 : 0 ≤ vs) (u8 : vs ≤ 11) (l9 : 4 ≤ wh) (u9 : wh ≤ 4) (l10 : 0 ≤ n) (u10 : n ≤ 36) (l11 : 0 ≤ i) (u11 : i ≤ 35) (l12 : 0 ≤ x12) (u12 : x12 ≤ 396) (l13 : 298 ≤ x13) (u13 : x13 ≤ 729) (l14 : (-1) ≤ x14) (u14 : x14 ≤ 59) (l15 : 0 ≤ x15) (u15 : x15 ≤ 33) (l16 : 0 ≤ x16) (u16 : x16 ≤ 5) (l17 : 0 ≤ x17) (u17 : x17 ≤ 180) (l18 : 22 ≤ x18) (u18 : x18 ≤ 237) (l19 : (-1) ≤ x19) (u19 : x19 ≤ 59) (f0 : x14 = x19) (f1 : x18 = x17 + 22 + i) (f2 : x17 = 36 * (x16)) (f3 : x15 = 3 * (vs)) (f4 : x13 = x12 + 298 + i) (f5 : x12 = 36 * (vs)) (e2 : S 482 x13 = x14) (e1 : S 482 (x15 + 262) = x16) (e0 : S 482 x18 = x19) : (True) ∧ (True) ∧ rxIVRR_3 S0 ws S vs wh n (i + 1) ∧ rxmVRR_3 S0 ws S vs wh n (i + 1) < rxmVRR_3 S0 ws S vs wh n i := by
  obtain ⟨hw, hp, hn, hle, hf⟩ := hinv
  have hk : ((i.toNat : Nat) : Int) = i := Int.toNat_of_nonneg (by omega)
  have ek : (i + 1).toNat = i.toNat + 1 := by omega
  have qe2 := e2
  have qe1 := e1
  have qe0 := e0
  have ix0 : x13 = 298 + 36 * vs + i := by omega
  rw [ix0, hf] at qe2
  have ix1 : (x15 + 262) = 262 + 3 * vs := by omega
  rw [ix1, hf] at qe1
  have ix2 : x18 = 22 + 36 * x16 + i := by omega
  rw [ix2, hf] at qe0
  have hb : (fun t => decide (S0 482 (298 + 36 * vs + t) ≠ S0 482 (22 + 36 * S0 482 (262 + 3 * vs) + t))) i = false := decide_eq_false (fun z => z (by rw [qe2, qe1, qe0]; omega))
  exact ⟨trivial, trivial, ⟨hw, hp, by rw [ek, rjCn_f hk.symm hb]; exact hn, by omega, hf⟩, by unfold rxmVRR_3; omega⟩
theorem rxgVRR_3_0 {X : (Nat → Int → Int) → Prop} {S0 : Nat → Int → Int} {ws : List Int} (hP : rxPVRR S0 ws) : bx_obC rxL X S0 rxC164.2.2.1 (rxIVRR S0 ws) (rxmVRR S0 ws) 3 rxzVRR_3 rxoVRR_3_0 := by
  intro S S_p r r_p hinv hX hin hsm_ hseg
  obtain ⟨I0, I1, h0_, hr_, b_, f_, d_⟩ := bx_cl (evs := [(0, (0, 482), (18, 0), .inr (0, (19, 0))), (0, (0, 482), (15, 262), .inr (0, (16, 0))), (0, (0, 482), (13, 0), .inr (0, (14, 0)))]) (fvs := [(2, (14, 0), (19, 0), (0, 0)), (5, (18, 0), (17, 22), (11, 0)), (4, (17, 0), (16, 0), (0, 36)), (4, (15, 0), (8, 0), (0, 3)), (5, (13, 0), (12, 298), (11, 0)), (4, (12, 0), (8, 0), (0, 36))]) hseg (by decide +kernel) (by decide +kernel)
  have hinv : rxIVRR_3 S0 ws S (r 8) (r 9) (r 10) (r 11) := hinv
  rw [← hr_ 8 (by decide), ← hr_ 9 (by decide), ← hr_ 10 (by decide), ← hr_ 11 (by decide)] at hinv
  obtain ⟨⟨l8, u8⟩, ⟨l9, u9⟩, ⟨l10, u10⟩, ⟨l11, u11⟩, ⟨l12, u12⟩, ⟨l13, u13⟩, ⟨l14, u14⟩, ⟨l15, u15⟩, ⟨l16, u16⟩, ⟨l17, u17⟩, ⟨l18, u18⟩, ⟨l19, u19⟩, -⟩ := b_
  obtain ⟨f0, f1, f2, f3, f4, f5, -⟩ := f_
  obtain ⟨e0, ⟨e1, ⟨e2, w_⟩⟩⟩ := d_
  subst w_
  have g := rxcVRR_3_0 hP hin I0 hinv l8 u8 l9 u9 l10 u10 l11 u11 l12 u12 l13 u13 l14 u14 l15 u15 l16 u16 l17 u17 l18 u18 l19 u19 f0 f1 f2 f3 f4 f5 e2 e1 e0
  refine ⟨bx_narP_ok (l := []) g.1, bx_nfP_ok h0_ (fvs := []) (by decide +kernel) g.2.1, ?_, ?_⟩
  · show rxIVRR_3 S0 ws S_p (bx_val [(0, 0), (0, 0), (0, 0), (0, 0), (0, 0), (0, 0), (0, 0), (0, 0), (8, 0), (9, 0), (10, 0), (11, 1)] r_p 8) (bx_val [(0, 0), (0, 0), (0, 0), (0, 0), (0, 0), (0, 0), (0, 0), (0, 0), (8, 0), (9, 0), (10, 0), (11, 1)] r_p 9) (bx_val [(0, 0), (0, 0), (0, 0), (0, 0), (0, 0), (0, 0), (0, 0), (0, 0), (8, 0), (9, 0), (10, 0), (11, 1)] r_p 10) (bx_val [(0, 0), (0, 0), (0, 0), (0, 0), (0, 0), (0, 0), (0, 0), (0, 0), (8, 0), (9, 0), (10, 0), (11, 1)] r_p 11)
    rw [bx_val_x (n := 8) (e := (8, 0)) h0_ rfl, bx_val_x (n := 9) (e := (9, 0)) h0_ rfl, bx_val_x (n := 10) (e := (10, 0)) h0_ rfl, bx_val_x (n := 11) (e := (11, 1)) h0_ rfl]
    exact g.2.2.1
  · show rxmVRR_3 S0 ws S_p (bx_val [(0, 0), (0, 0), (0, 0), (0, 0), (0, 0), (0, 0), (0, 0), (0, 0), (8, 0), (9, 0), (10, 0), (11, 1)] r_p 8) (bx_val [(0, 0), (0, 0), (0, 0), (0, 0), (0, 0), (0, 0), (0, 0), (0, 0), (8, 0), (9, 0), (10, 0), (11, 1)] r_p 9) (bx_val [(0, 0), (0, 0), (0, 0), (0, 0), (0, 0), (0, 0), (0, 0), (0, 0), (8, 0), (9, 0), (10, 0), (11, 1)] r_p 10) (bx_val [(0, 0), (0, 0), (0, 0), (0, 0), (0, 0), (0, 0), (0, 0), (0, 0), (8, 0), (9, 0), (10, 0), (11, 1)] r_p 11) < rxmVRR_3 S0 ws S_p (r 8) (r 9) (r 10) (r 11)
    rw [bx_val_x (n := 8) (e := (8, 0)) h0_ rfl, bx_val_x (n := 9) (e := (9, 0)) h0_ rfl, bx_val_x (n := 10) (e := (10, 0)) h0_ rfl, bx_val_x (n := 11) (e := (11, 1)) h0_ rfl, ← hr_ 8 (by decide), ← hr_ 9 (by decide), ← hr_ 10 (by decide), ← hr_ 11 (by decide)]
    exact g.2.2.2
theorem rxcVRR_3_1 {S0 : Nat → Int → Int} {ws : List Int} {S : Nat → Int → Int} {vs wh n i x12 x13 x14 x15 x16 x17 x18 x19 : Int} (hP : rxPVRR S0 ws) (hin : bx_same rxL (bx_mdl rxC164.2.2.1) S0 S) (I0 : bx_Inv rxL S) (hinv : rxIVRR_3 S0 ws S vs wh n i) (l8 : 0 ≤ vs) (u8 : vs ≤ 11) (l9 : 4 ≤ wh) (u9 : wh ≤ 4) (l10 : 0 ≤ n) (u10 : n ≤ 36) (l11 : 0 ≤ i) (u11 : i ≤ 35) (l12 : 0 ≤ x12) (u12 : x12 ≤ 396) (l13 : 298 ≤ x13) (u13 : x13 ≤ 729) (l14 : (-1) ≤ x14) (u14 : x14 ≤ 59) (l15 : 0 ≤ x15) (u15 : x15 ≤ 33) (l16 : 0 ≤ x16) (u16 : x16 ≤ 5) (l17 : 0 ≤ x17) (u17 : x17 ≤ 180) (l18 : 22 ≤ x18) (u18 : x18 ≤ 237) (l19 : (-1) ≤ x19) (u19 : x19 ≤ 59) (f0 : x14 ≠ x19) (f1 : x18 = x17 + 22 + i) (f2 : x17 = 36 * (x16)) (f3 : x15 = 3 * (vs)) (f4 : x13 = x12 + 298 + i) (f5 : x12 = 36 * (vs)) (e2 : S 482 x13 = x14) (e1 : S 482 (x15 + 262) = x16) (e0 : S 482 x18 = x19) : (((-1) ≤ n ∧ n ≤ 35) ∧ True) ∧ (True) ∧ rxIVRR_3 S0 ws S vs wh (n + 1) (i + 1) ∧ rxmVRR_3 S0 ws S vs wh (n + 1) (i + 1) < rxmVRR_3 S0 ws S vs wh n i := by
  obtain ⟨hw, hp, hn, hle, hf⟩ := hinv
  have hk : ((i.toNat : Nat) : Int) = i := Int.toNat_of_nonneg (by omega)
  have ek : (i + 1).toNat = i.toNat + 1 := by omega
  have qe2 := e2
  have qe1 := e1
  have qe0 := e0
  have ix0 : x13 = 298 + 36 * vs + i := by omega
  rw [ix0, hf] at qe2
  have ix1 : (x15 + 262) = 262 + 3 * vs := by omega
  rw [ix1, hf] at qe1
  have ix2 : x18 = 22 + 36 * x16 + i := by omega
  rw [ix2, hf] at qe0
  have hb : (fun t => decide (S0 482 (298 + 36 * vs + t) ≠ S0 482 (22 + 36 * S0 482 (262 + 3 * vs) + t))) i = true := decide_eq_true (by rw [qe2, qe1, qe0]; omega)
  exact ⟨⟨⟨by omega, by omega⟩, trivial⟩, trivial, ⟨hw, hp, by rw [ek, rjCn_t hk.symm hb]; omega, by omega, hf⟩, by unfold rxmVRR_3; omega⟩
theorem rxgVRR_3_1 {X : (Nat → Int → Int) → Prop} {S0 : Nat → Int → Int} {ws : List Int} (hP : rxPVRR S0 ws) : bx_obC rxL X S0 rxC164.2.2.1 (rxIVRR S0 ws) (rxmVRR S0 ws) 3 rxzVRR_3 rxoVRR_3_1 := by
  intro S S_p r r_p hinv hX hin hsm_ hseg
  obtain ⟨I0, I1, h0_, hr_, b_, f_, d_⟩ := bx_cl (evs := [(0, (0, 482), (18, 0), .inr (0, (19, 0))), (0, (0, 482), (15, 262), .inr (0, (16, 0))), (0, (0, 482), (13, 0), .inr (0, (14, 0)))]) (fvs := [(3, (14, 0), (19, 0), (0, 0)), (5, (18, 0), (17, 22), (11, 0)), (4, (17, 0), (16, 0), (0, 36)), (4, (15, 0), (8, 0), (0, 3)), (5, (13, 0), (12, 298), (11, 0)), (4, (12, 0), (8, 0), (0, 36))]) hseg (by decide +kernel) (by decide +kernel)
  have hinv : rxIVRR_3 S0 ws S (r 8) (r 9) (r 10) (r 11) := hinv
  rw [← hr_ 8 (by decide), ← hr_ 9 (by decide), ← hr_ 10 (by decide), ← hr_ 11 (by decide)] at hinv
  obtain ⟨⟨l8, u8⟩, ⟨l9, u9⟩, ⟨l10, u10⟩, ⟨l11, u11⟩, ⟨l12, u12⟩, ⟨l13, u13⟩, ⟨l14, u14⟩, ⟨l15, u15⟩, ⟨l16, u16⟩, ⟨l17, u17⟩, ⟨l18, u18⟩, ⟨l19, u19⟩, -⟩ := b_
  obtain ⟨f0, f1, f2, f3, f4, f5, -⟩ := f_
  obtain ⟨e0, ⟨e1, ⟨e2, w_⟩⟩⟩ := d_
  subst w_
  have g := rxcVRR_3_1 hP hin I0 hinv l8 u8 l9 u9 l10 u10 l11 u11 l12 u12 l13 u13 l14 u14 l15 u15 l16 u16 l17 u17 l18 u18 l19 u19 f0 f1 f2 f3 f4 f5 e2 e1 e0
  refine ⟨bx_narP_ok (l := [(10, (-1), 35)]) g.1, bx_nfP_ok h0_ (fvs := []) (by decide +kernel) g.2.1, ?_, ?_⟩
  · show rxIVRR_3 S0 ws S_p (bx_val [(0, 0), (0, 0), (0, 0), (0, 0), (0, 0), (0, 0), (0, 0), (0, 0), (8, 0), (9, 0), (10, 1), (11, 1)] r_p 8) (bx_val [(0, 0), (0, 0), (0, 0), (0, 0), (0, 0), (0, 0), (0, 0), (0, 0), (8, 0), (9, 0), (10, 1), (11, 1)] r_p 9) (bx_val [(0, 0), (0, 0), (0, 0), (0, 0), (0, 0), (0, 0), (0, 0), (0, 0), (8, 0), (9, 0), (10, 1), (11, 1)] r_p 10) (bx_val [(0, 0), (0, 0), (0, 0), (0, 0), (0, 0), (0, 0), (0, 0), (0, 0), (8, 0), (9, 0), (10, 1), (11, 1)] r_p 11)
    rw [bx_val_x (n := 8) (e := (8, 0)) h0_ rfl, bx_val_x (n := 9) (e := (9, 0)) h0_ rfl, bx_val_x (n := 10) (e := (10, 1)) h0_ rfl, bx_val_x (n := 11) (e := (11, 1)) h0_ rfl]
    exact g.2.2.1
  · show rxmVRR_3 S0 ws S_p (bx_val [(0, 0), (0, 0), (0, 0), (0, 0), (0, 0), (0, 0), (0, 0), (0, 0), (8, 0), (9, 0), (10, 1), (11, 1)] r_p 8) (bx_val [(0, 0), (0, 0), (0, 0), (0, 0), (0, 0), (0, 0), (0, 0), (0, 0), (8, 0), (9, 0), (10, 1), (11, 1)] r_p 9) (bx_val [(0, 0), (0, 0), (0, 0), (0, 0), (0, 0), (0, 0), (0, 0), (0, 0), (8, 0), (9, 0), (10, 1), (11, 1)] r_p 10) (bx_val [(0, 0), (0, 0), (0, 0), (0, 0), (0, 0), (0, 0), (0, 0), (0, 0), (8, 0), (9, 0), (10, 1), (11, 1)] r_p 11) < rxmVRR_3 S0 ws S_p (r 8) (r 9) (r 10) (r 11)
    rw [bx_val_x (n := 8) (e := (8, 0)) h0_ rfl, bx_val_x (n := 9) (e := (9, 0)) h0_ rfl, bx_val_x (n := 10) (e := (10, 1)) h0_ rfl, bx_val_x (n := 11) (e := (11, 1)) h0_ rfl, ← hr_ 8 (by decide), ← hr_ 9 (by decide), ← hr_ 10 (by decide), ← hr_ 11 (by decide)]
    exact g.2.2.2
theorem rxdVRR_3_0 {S0 : Nat → Int → Int} {ws : List Int} {S : Nat → Int → Int} {vs wh n i : Int} (hP : rxPVRR S0 ws) (hin : bx_same rxL (bx_mdl rxC164.2.2.1) S0 S) (hin2 : bx_same rxL (bx_mdl rxC164.2.2.1) S S) (I0 : bx_Inv rxL S) (I1 : bx_Inv rxL S) (hinv : rxIVRR_3 S0 ws S vs wh n i) (l8 : 0 ≤ vs) (u8 : vs ≤ 11) (l9 : 4 ≤ wh) (u9 : wh ≤ 4) (l10 : 0 ≤ n) (u10 : n ≤ 36) (l11 : 36 ≤ i) (u11 : i ≤ 36) : (True) ∧ rxPSVRR S0 ws S (some n) := by
  obtain ⟨hw, hp, hn, hle, hf⟩ := hinv
  have hk : ((i.toNat : Nat) : Int) = i := Int.toNat_of_nonneg (by omega)
  have ek : (i + 1).toNat = i.toNat + 1 := by omega
  exact ⟨trivial, vs, wh, hw, Or.inr (Or.inr (Or.inr (Or.inr (Or.inr (⟨⟨by omega, hp⟩, by omega, congrArg some (hn.trans (by rw [show i.toNat = 36 by omega]))⟩)))))⟩
theorem rxfVRR_3_0 {X : (Nat → Int → Int) → Prop} {S0 : Nat → Int → Int} {ws : List Int} (hP : rxPVRR S0 ws) : bx_obE rxL X S0 rxC164.2.2.1 (rxIVRR S0 ws) (rxPSVRR S0 ws) 3 rxzVRR_3 rxeVRR_3_0 := by
  intro S S_p r r_p hinv hX hin hsm_ hseg
  obtain ⟨I0, I1, h0_, hr_, b_, f_, d_⟩ := bx_cl (evs := []) (fvs := []) hseg (by decide +kernel) (by decide +kernel)
  have hinv : rxIVRR_3 S0 ws S (r 8) (r 9) (r 10) (r 11) := hinv
  rw [← hr_ 8 (by decide), ← hr_ 9 (by decide), ← hr_ 10 (by decide), ← hr_ 11 (by decide)] at hinv
  obtain ⟨⟨l8, u8⟩, ⟨l9, u9⟩, ⟨l10, u10⟩, ⟨l11, u11⟩, -⟩ := b_
  have w_ := d_
  subst w_
  have g := rxdVRR_3_0 hP hin hsm_ I0 I1 hinv l8 u8 l9 u9 l10 u10 l11 u11
  refine ⟨bx_narP_ok (l := []) g.1, ?_⟩
  show rxPSVRR S0 ws S_p (some (bx_num r_p (.inr (0, (10, 0)))))
  rw [bx_xv_ok h0_]
  exact g.2
theorem rxgCVRR {X : (Nat → Int → Int) → Prop} {S0 : Nat → Int → Int} {ws : List Int} (hP : rxPVRR S0 ws) : bx_allI (fun i q => rxUVRR q = true ∨ bx_allP (fun o => bx_obC rxL X S0 rxC164.2.2.1 (rxIVRR S0 ws) (rxmVRR S0 ws) i q.1 o) q.2.1) 0 rxYVRR := ⟨Or.inr ⟨rxgVRR_0_0 hP, rxgVRR_0_1 hP, trivial⟩, Or.inl rfl, Or.inr trivial, Or.inr ⟨rxgVRR_3_0 hP, rxgVRR_3_1 hP, trivial⟩, trivial⟩
theorem rxgEVRR {X : (Nat → Int → Int) → Prop} {S0 : Nat → Int → Int} {ws : List Int} (hP : rxPVRR S0 ws) : bx_allI (fun i q => rxUVRR q = true ∨ bx_allP (fun E => bx_obE rxL X S0 rxC164.2.2.1 (rxIVRR S0 ws) (rxPSVRR S0 ws) i q.1 E) q.2.2) 0 rxYVRR := ⟨Or.inr ⟨rxfVRR_0_0 hP, rxfVRR_0_1 hP, rxfVRR_0_2 hP, rxfVRR_0_3 hP, rxfVRR_0_4 hP, trivial⟩, Or.inl rfl, Or.inr ⟨rxfVRR_2_0 hP, trivial⟩, Or.inr ⟨rxfVRR_3_0 hP, trivial⟩, trivial⟩
theorem rxuVRR {PX : State → Prop} {Dg : va_G} {A : Nat → Prop} {ad xa : Nat → Nat} {l : Launch} {X : (Nat → Int → Int) → Prop} (hPX : rx_PXOK rxNW A PX) (hX : ∀ S S1 : Nat → Int → Int, X S → bx_same rxL (bx_mdl rxC164.2.2.1) S S1 → X S1) (hQTLD : bx_ConP rxG rxNW rxAO PX Dg rxL X vwCl A ad l rxM260 rxCTLD rxPTLD rxPSTLD) {S0 : Nat → Int → Int} {ws : List Int} (hP : rxPVRR S0 ws) : ∀ (i : Nat) (q : bx_HE), rxYVRR[i]? = some q → rxUVRR q = true → ∀ {p : Program} {e : Env} {R : Room} {s : State} {m : MethodId} {args : Array Value} {below : List Frame} {meth : Method} {c : Code} {Q : State → Prop} {H0 : Heap}, rx_Fr rxG rxNW rxAO PX p s m args meth c rxM164 → (∀ q, H0.size ≤ q → A q) → H0 = s.heap → rxM164.2.2.2.2.2.2.1 ≤ R.cells → rxM164.2.2.2.2.2.2.2 ≤ R.slots → rxC164.2.2.2.1 ≤ R.frames → rxC164.2.2.2.1 * 40 ≤ R.locals → bx_Step p l e R s m args below meth c Q Dg rxL X vwCl A xa H0 ad rxM164 rxYVRR (rxIVRR S0 ws) (rxmVRR S0 ws) S0 rxC164.2.2.1 i q := by
  intro i q hq hus p e R s m args below meth c Q H0 hF hA hH0 hmc hms hd hdl
  match i, hq with
  | 0, hq =>
    cases hq
    exact absurd (show false = true from hus) Bool.false_ne_true
  | 1, hq =>
    cases hq
    exact rx_stepC (ins := .invokevirtual 221) (len := 3) (i_p := 2) (M_p := rxM260) (d := rxC164.2.2.2.1) (as := [.inr (3, (0, 480)), .inr (0, (10, 0))]) (t := []) (ct := rxCTLD) hPX hF rfl hA hH0 hmc hms hd hdl (by decide +kernel) rfl rfl (by decide +kernel) (by decide +kernel) hQTLD (by decide +kernel) rfl (Or.inr ⟨_, _, _, 1, rfl, rfl, by omega, rfl, rfl, rfl⟩) (rxsVRR_1 hP)
  | 2, hq =>
    cases hq
    exact absurd (show false = true from hus) Bool.false_ne_true
  | 3, hq =>
    cases hq
    exact absurd (show false = true from hus) Bool.false_ne_true
  | n + 4, hq => cases hq
theorem rxQVRR {PX : State → Prop} {Dg : va_G} {A : Nat → Prop} {ad xa : Nat → Nat} {l : Launch} {X : (Nat → Int → Int) → Prop} (hPX : rx_PXOK rxNW A PX) (hsl : ∀ s : State, PX s → ∀ o idx n : Nat, rxSl o idx = some n → ∃ tx : String, vk_R (rxNm o) idx tx (ad n) s)
    (hX : ∀ S S_p : Nat → Int → Int, X S → bx_same rxL (bx_mdl rxC164.2.2.1) S S_p → X S_p)
    (ih : ∀ (j2 : Nat) (ct2 : bx_Ct) (M2 : rx_Mt), ct2 ∈ rxCnE j2 → ct2.2.2.2.1 + 1 ≤ rxC164.2.2.2.1 → rxT.2.2.2.2.2 j2 = some M2 → bx_Con rxG rxNW rxAO PX Dg rxL X vwCl A ad l M2 ct2) (hQTLD : bx_ConP rxG rxNW rxAO PX Dg rxL X vwCl A ad l rxM260 rxCTLD rxPTLD rxPSTLD) : bx_ConP rxG rxNW rxAO PX Dg rxL X vwCl A ad l rxM164 rxC164 rxPVRR rxPSVRR :=
  rxQof (xa := xa) (Cn := rxCnE) (f := 30000) (j := 164) (tab := rxYVRR) (us := rxUVRR) hPX hsl hX ih rfl rxYcVRR rxIVRR rxmVRR
    (fun S0 ws r I0 I ht0 ht as he he1 hX0 hI0 hP hs ha => by
      have e := he.symm.trans (show bx_ent0 rxNP rxC164.1 bx_I0 [] = some ([(0, 0), (0, 0), (0, 0), (0, 0), (0, 0), (0, 0), (0, 0), (0, 0), ((-2147483648), 2147483647), ((-2147483648), 2147483647)], [], [.inr (3, (0, 480)), .inr (0, (8, 0)), .inr (0, (9, 0))]) from rfl)
      cases e
      subst ha
      have h0 : r 0 = 0 := hs.1
      show rxIVRR_0 S0 _ S0 (r 8) (r 9)
      refine ⟨rfl, ?_⟩
      simp only [List.map_cons, List.map_nil, bx_xv_ok h0]
      rfl)
    (fun S0 ws hP => rxuVRR (xa := xa) hPX hX hQTLD hP) (fun S0 ws hP => rxgCVRR hP) (fun S0 ws hP => rxgEVRR hP)
