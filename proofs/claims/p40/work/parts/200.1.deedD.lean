/-! CONTRACT BY HAND, by program (wip/sim/genhand.py): DeadUnderstudies.deed -/
def rxI192_0 (S0 : Nat → Int → Int) (ws : List Int) (S : Nat → Int → Int) (ra cb wc : Int) : Prop := S = S0 ∧ ws = [0, ra, cb, wc]
def rxm192_0 (S0 : Nat → Int → Int) (ws : List Int) (S : Nat → Int → Int) (ra cb wc : Int) : Nat := 100
def rxz192_0 : rx_Z := ([(0, 0), (0, 0), (0, 0), (0, 0), (0, 0), (0, 0), (0, 0), (0, 0), ((-2147483648), 2147483647), ((-2147483648), 2147483647), ((-2147483648), 2147483647)], [], [], 0, 0, 0, [(0, .inr (3, (0, 0))), (1, .inr (0, (8, 0))), (2, .inr (0, (9, 0))), (3, .inr (0, (10, 0)))], [])
def rxI192_1 (S0 : Nat → Int → Int) (ws : List Int) (S : Nat → Int → Int) (ra cb wc : Int) : Prop := S = S0 ∧ ((ra < 0 ∨ 3 < ra ∨ cb < 0 ∨ 5 < cb ∨ wc < 0 ∨ 9 < wc)) ∧ ws = [0, ra, cb, wc]
def rxm192_1 (S0 : Nat → Int → Int) (ws : List Int) (S : Nat → Int → Int) (ra cb wc : Int) : Nat := 50
def rxz192_1 : rx_Z := ([(0, 0), (0, 0), (0, 0), (0, 0), (0, 0), (0, 0), (0, 0), (0, 0), ((-2147483648), 2147483647), ((-2147483648), 2147483647), ((-2147483648), 2147483647)], [], [], 0, 0, 31, [(0, .inr (3, (0, 0))), (1, .inr (0, (8, 0))), (2, .inr (0, (9, 0))), (3, .inr (0, (10, 0)))], [.inr (0, (0, (-1))), .inr (3, (0, 0))])
def rxI192_2 (S0 : Nat → Int → Int) (ws : List Int) (S : Nat → Int → Int) (ra cb wc res : Int) : Prop := res = (-1) ∧ ((ra < 0 ∨ 3 < ra ∨ cb < 0 ∨ 5 < cb ∨ wc < 0 ∨ 9 < wc)) ∧ ws = [0, ra, cb, wc] ∧ bx_same rxL (bx_mdl rxC110.2.2.1) S0 S
def rxm192_2 (S0 : Nat → Int → Int) (ws : List Int) (S : Nat → Int → Int) (ra cb wc res : Int) : Nat := 20
def rxz192_2 : rx_Z := ([(0, 0), (0, 0), (0, 0), (0, 0), (0, 0), (0, 0), (0, 0), (0, 0), ((-2147483648), 2147483647), ((-2147483648), 2147483647), ((-2147483648), 2147483647), ((-6), (-1))], [], [], 0, 0, 34, [(0, .inr (3, (0, 0))), (1, .inr (0, (8, 0))), (2, .inr (0, (9, 0))), (3, .inr (0, (10, 0)))], [.inr (0, (11, 0))])
def rxI192_3 (S0 : Nat → Int → Int) (ws : List Int) (S : Nat → Int → Int) (ra cb wc : Int) : Prop := S = S0 ∧ (0 ≤ ra ∧ ra ≤ 3 ∧ 0 ≤ cb ∧ cb ≤ 5 ∧ 0 ≤ wc ∧ wc ≤ 9 ∧ 12 ≤ S 14 0) ∧ ws = [0, ra, cb, wc]
def rxm192_3 (S0 : Nat → Int → Int) (ws : List Int) (S : Nat → Int → Int) (ra cb wc : Int) : Nat := 50
def rxz192_3 : rx_Z := ([(0, 0), (0, 0), (0, 0), (0, 0), (0, 0), (0, 0), (0, 0), (0, 0), (0, 3), (0, 5), (0, 9)], [], [], 0, 0, 53, [(0, .inr (3, (0, 0))), (1, .inr (0, (8, 0))), (2, .inr (0, (9, 0))), (3, .inr (0, (10, 0)))], [.inr (0, (0, (-5))), .inr (3, (0, 0))])
def rxI192_4 (S0 : Nat → Int → Int) (ws : List Int) (S : Nat → Int → Int) (ra cb wc res : Int) : Prop := res = (-5) ∧ (0 ≤ ra ∧ ra ≤ 3 ∧ 0 ≤ cb ∧ cb ≤ 5 ∧ 0 ≤ wc ∧ wc ≤ 9 ∧ 12 ≤ S0 14 0) ∧ ws = [0, ra, cb, wc] ∧ bx_same rxL (bx_mdl rxC110.2.2.1) S0 S
def rxm192_4 (S0 : Nat → Int → Int) (ws : List Int) (S : Nat → Int → Int) (ra cb wc res : Int) : Nat := 20
def rxz192_4 : rx_Z := ([(0, 0), (0, 0), (0, 0), (0, 0), (0, 0), (0, 0), (0, 0), (0, 0), (0, 3), (0, 5), (0, 9), ((-6), (-1))], [], [], 0, 0, 56, [(0, .inr (3, (0, 0))), (1, .inr (0, (8, 0))), (2, .inr (0, (9, 0))), (3, .inr (0, (10, 0)))], [.inr (0, (11, 0))])
def rxo192_0_0 : bx_HO := (([(0, 0), (0, 0), (0, 0), (0, 0), (0, 0), (0, 0), (0, 0), (0, 0), (0, 3), (0, 5), (10, 2147483647)], [], [], 0, 0, 31, [(0, .inr (3, (0, 0))), (1, .inr (0, (8, 0))), (2, .inr (0, (9, 0))), (3, .inr (0, (10, 0)))], [.inr (0, (0, (-1))), .inr (3, (0, 0))]), [], [], [(0, 0), (0, 0), (0, 0), (0, 0), (0, 0), (0, 0), (0, 0), (0, 0), (8, 0), (9, 0), (10, 0)], 1)
def rxo192_0_1 : bx_HO := (([(0, 0), (0, 0), (0, 0), (0, 0), (0, 0), (0, 0), (0, 0), (0, 0), (0, 3), (0, 5), (0, 9), (12, 12)], [], [(((0, 0), 1851192626986356797424340330377019318111018015026043177561620480000000), .inr (0, (11, 0))), (((0, 14), 0), .inr (0, (11, 0))), (((0, 1), 12), .inr (3, (0, 14))), (((0, 0), 0), .inr (3, (0, 1)))], 0, 0, 53, [(0, .inr (3, (0, 0))), (1, .inr (0, (8, 0))), (2, .inr (0, (9, 0))), (3, .inr (0, (10, 0)))], [.inr (0, (0, (-5))), .inr (3, (0, 0))]), [], [], [(0, 0), (0, 0), (0, 0), (0, 0), (0, 0), (0, 0), (0, 0), (0, 0), (8, 0), (9, 0), (10, 0)], 3)
def rxo192_0_2 : bx_HO := (([(0, 0), (0, 0), (0, 0), (0, 0), (0, 0), (0, 0), (0, 0), (0, 0), (0, 3), (0, 5), ((-2147483648), (-1))], [], [], 0, 0, 31, [(0, .inr (3, (0, 0))), (1, .inr (0, (8, 0))), (2, .inr (0, (9, 0))), (3, .inr (0, (10, 0)))], [.inr (0, (0, (-1))), .inr (3, (0, 0))]), [], [], [(0, 0), (0, 0), (0, 0), (0, 0), (0, 0), (0, 0), (0, 0), (0, 0), (8, 0), (9, 0), (10, 0)], 1)
def rxo192_0_3 : bx_HO := (([(0, 0), (0, 0), (0, 0), (0, 0), (0, 0), (0, 0), (0, 0), (0, 0), (0, 3), (6, 2147483647), ((-2147483648), 2147483647)], [], [], 0, 0, 31, [(0, .inr (3, (0, 0))), (1, .inr (0, (8, 0))), (2, .inr (0, (9, 0))), (3, .inr (0, (10, 0)))], [.inr (0, (0, (-1))), .inr (3, (0, 0))]), [], [], [(0, 0), (0, 0), (0, 0), (0, 0), (0, 0), (0, 0), (0, 0), (0, 0), (8, 0), (9, 0), (10, 0)], 1)
def rxo192_0_4 : bx_HO := (([(0, 0), (0, 0), (0, 0), (0, 0), (0, 0), (0, 0), (0, 0), (0, 0), (0, 3), ((-2147483648), (-1)), ((-2147483648), 2147483647)], [], [], 0, 0, 31, [(0, .inr (3, (0, 0))), (1, .inr (0, (8, 0))), (2, .inr (0, (9, 0))), (3, .inr (0, (10, 0)))], [.inr (0, (0, (-1))), .inr (3, (0, 0))]), [], [], [(0, 0), (0, 0), (0, 0), (0, 0), (0, 0), (0, 0), (0, 0), (0, 0), (8, 0), (9, 0), (10, 0)], 1)
def rxo192_0_5 : bx_HO := (([(0, 0), (0, 0), (0, 0), (0, 0), (0, 0), (0, 0), (0, 0), (0, 0), (4, 2147483647), ((-2147483648), 2147483647), ((-2147483648), 2147483647)], [], [], 0, 0, 31, [(0, .inr (3, (0, 0))), (1, .inr (0, (8, 0))), (2, .inr (0, (9, 0))), (3, .inr (0, (10, 0)))], [.inr (0, (0, (-1))), .inr (3, (0, 0))]), [], [], [(0, 0), (0, 0), (0, 0), (0, 0), (0, 0), (0, 0), (0, 0), (0, 0), (8, 0), (9, 0), (10, 0)], 1)
def rxo192_0_6 : bx_HO := (([(0, 0), (0, 0), (0, 0), (0, 0), (0, 0), (0, 0), (0, 0), (0, 0), ((-2147483648), (-1)), ((-2147483648), 2147483647), ((-2147483648), 2147483647)], [], [], 0, 0, 31, [(0, .inr (3, (0, 0))), (1, .inr (0, (8, 0))), (2, .inr (0, (9, 0))), (3, .inr (0, (10, 0)))], [.inr (0, (0, (-1))), .inr (3, (0, 0))]), [], [], [(0, 0), (0, 0), (0, 0), (0, 0), (0, 0), (0, 0), (0, 0), (0, 0), (8, 0), (9, 0), (10, 0)], 1)
def rxe192_0_0 : rx_End × List (Nat × Int × Int) := (([(0, 0), (0, 0), (0, 0), (0, 0), (0, 0), (0, 0), (0, 0), (0, 0), (0, 3), (0, 5), (0, 9), (0, 11)], [], [(((0, 0), 1851192626986356799029993984671224184301589730656725205983952899000000), .inr (0, (0, 0))), (((0, 0), 8), .inr (0, (0, 0))), (((0, 0), 1851192626986356797424340330377019318111018015026043177561620483000000), .inr (0, (11, 1))), (((0, 14), 0), .inr (0, (11, 1))), (((0, 0), 1851192626986356797424374018331344491018900889112178922616324099000000), .inr (0, (10, 0))), (((0, 14), 3), .inr (3, (0, 17))), (((0, 0), 1851192626986356797424374018331344491018900889112178922615734275000000), .inr (0, (9, 0))), (((0, 14), 2), .inr (3, (0, 16))), (((0, 0), 1851192626986356797424374018331344491018900889112178922615144451000000), .inr (0, (8, 0))), (((0, 14), 1), .inr (3, (0, 15))), (((0, 0), 1851192626986356797424340330377019318111018015026043177561620480000000), .inr (0, (11, 0))), (((0, 1), 12), .inr (3, (0, 14))), (((0, 0), 0), .inr (3, (0, 1)))], some (.inr (0, (11, 1)))), [])
def rxe192_2_0 : rx_End × List (Nat × Int × Int) := (([(0, 0), (0, 0), (0, 0), (0, 0), (0, 0), (0, 0), (0, 0), (0, 0), ((-2147483648), 2147483647), ((-2147483648), 2147483647), ((-2147483648), 2147483647), ((-6), (-1))], [], [], some (.inr (0, (11, 0)))), [])
def rxe192_4_0 : rx_End × List (Nat × Int × Int) := (([(0, 0), (0, 0), (0, 0), (0, 0), (0, 0), (0, 0), (0, 0), (0, 0), (0, 3), (0, 5), (0, 9), ((-6), (-1))], [], [], some (.inr (0, (11, 0)))), [])
def rxY192 : List bx_HE := [(rxz192_0, [rxo192_0_0, rxo192_0_1, rxo192_0_2, rxo192_0_3, rxo192_0_4, rxo192_0_5, rxo192_0_6], [rxe192_0_0]), (rxz192_1, [], []), (rxz192_2, [], [rxe192_2_0]), (rxz192_3, [], []), (rxz192_4, [], [rxe192_4_0])]
def rxU192 (q : bx_HE) : Bool := Nat.beq (rx_zpc q.1) 31 || Nat.beq (rx_zpc q.1) 53
def rxYB192 : bx_B := (rxV, rxNP, rxDmf, bx_mdH rxC192.2.2.1)
set_option maxRecDepth 100000 in
theorem rxYc192 : bx_chkH rxYB192 rxM192 rxC192 rxY192 (rxU192, fun cut z => rx_ex2 (rxCT rxYB192 rxCnE) cut 30000 rxC192.2.2.2.1 192 z) = true := by decide +kernel
def rxI192 (S0 : Nat → Int → Int) (ws : List Int) (i : Nat) : bx_SP := fun S r => match i with | 0 => rxI192_0 S0 ws S (r 8) (r 9) (r 10) | 1 => rxI192_1 S0 ws S (r 8) (r 9) (r 10) | 2 => rxI192_2 S0 ws S (r 8) (r 9) (r 10) (r 11) | 3 => rxI192_3 S0 ws S (r 8) (r 9) (r 10) | 4 => rxI192_4 S0 ws S (r 8) (r 9) (r 10) (r 11) | _ => False
def rxm192 (S0 : Nat → Int → Int) (ws : List Int) (i : Nat) (S : Nat → Int → Int) (r : Nat → Int) : Nat := match i with | 0 => rxm192_0 S0 ws S (r 8) (r 9) (r 10) | 1 => rxm192_1 S0 ws S (r 8) (r 9) (r 10) | 2 => rxm192_2 S0 ws S (r 8) (r 9) (r 10) (r 11) | 3 => rxm192_3 S0 ws S (r 8) (r 9) (r 10) | 4 => rxm192_4 S0 ws S (r 8) (r 9) (r 10) (r 11) | _ => 0
def rxP192 (S0 : Nat → Int → Int) (ws : List Int) : Prop := True
def rxPS192 (S0 : Nat → Int → Int) (ws : List Int) (S : Nat → Int → Int) (w : Option Int) : Prop := ∃ ra cb wc : Int, ws = [0, ra, cb, wc] ∧ (((ra < 0 ∨ 3 < ra ∨ cb < 0 ∨ 5 < cb ∨ wc < 0 ∨ 9 < wc) ∧ w = some (-1) ∧ bx_same rxL (bx_mdl rxC110.2.2.1) S0 S) ∨ (0 ≤ ra ∧ ra ≤ 3 ∧ 0 ≤ cb ∧ cb ≤ 5 ∧ 0 ≤ wc ∧ wc ≤ 9 ∧ 12 ≤ S0 14 0 ∧ w = some (-5) ∧ bx_same rxL (bx_mdl rxC110.2.2.1) S0 S) ∨ (0 ≤ ra ∧ ra ≤ 3 ∧ 0 ≤ cb ∧ cb ≤ 5 ∧ 0 ≤ wc ∧ wc ≤ 9 ∧ S0 14 0 < 12 ∧ w = some (S0 14 0 + 1) ∧ S 14 0 = S0 14 0 + 1 ∧ S 151 0 = S0 151 0 ∧ S 287 0 = S0 287 0))
theorem rxk192_1 {S0 : Nat → Int → Int} {ws : List Int} {S : Nat → Int → Int} {ra cb wc : Int} (hP : rxP192 S0 ws) (hin : bx_same rxL (bx_mdl rxC192.2.2.1) S0 S) (I0 : bx_Inv rxL S) (hinv : rxI192_1 S0 ws S ra cb wc) (l8 : (-2147483648) ≤ ra) (u8 : ra ≤ 2147483647) (l9 : (-2147483648) ≤ cb) (u9 : cb ≤ 2147483647) (l10 : (-2147483648) ≤ wc) (u10 : wc ≤ 2147483647) : rxP110 S [0, (-1)] ∧ ∀ (S' : Nat → Int → Int) (res : Int), (-6) ≤ res → res ≤ (-1) → rxPS110 S [0, (-1)] S' (some res) → bx_Inv rxL S' → bx_same rxL (bx_mdl rxC110.2.2.1) S S' → rxI192_2 S0 ws S' ra cb wc res ∧ rxm192_2 S0 ws S' ra cb wc res < rxm192_1 S0 ws S ra cb wc := by
  obtain ⟨rfl, h1, hw⟩ := hinv
  refine ⟨trivial, fun S' res _ _ hq _ hsm => ⟨⟨?_, h1, hw, hsm⟩, by unfold rxm192_1 rxm192_2; omega⟩⟩
  obtain ⟨c, hc, hr⟩ := hq
  simp only [List.cons.injEq, and_true, true_and] at hc
  simp only [Option.some.injEq] at hr
  omega
theorem rxs192_1 {X : (Nat → Int → Int) → Prop} {S0 : Nat → Int → Int} {ws : List Int} (hP : rxP192 S0 ws) : rx_obK X S0 rxC192.2.2.1 rxC110.2.2.1 (rxI192 S0 ws) (rxm192 S0 ws) 1 2 rxz192_1 rxz192_2 [.inr (3, (0, 0)), .inr (0, (0, (-1)))] (some 11) rxP110 rxPS110 := by
  intro S r hinv hXS I0 hin hs_ hf_
  have b_ := bx_bds_sat hs_
  have f_ := bx_fcl_ok hs_.1 hf_
  obtain ⟨⟨l8, u8⟩, ⟨l9, u9⟩, ⟨l10, u10⟩, -⟩ := b_
  have g := rxk192_1 hP hin I0 hinv l8 u8 l9 u9 l10 u10
  have ea : List.map (bx_num r) [.inr (3, (0, 0)), .inr (0, (0, (-1)))] = [0, -1] := by
    simp only [List.map_cons, List.map_nil, bx_xv_ok hs_.1]
    rfl
  rw [ea]
  refine ⟨g.1, fun S' w r' hPS hX' I1 hsm hr hw hs' => ?_⟩
  have hw := hw _ rfl
  subst hw
  have b' := hs'.2.2 11 _ _ rfl
  have g2 := g.2 S' (r' 11) b'.1 b'.2 hPS I1 hsm
  show rxI192_2 S0 ws S' (r' 8) (r' 9) (r' 10) (r' 11) ∧ rxm192_2 S0 ws S' (r' 8) (r' 9) (r' 10) (r' 11) < _
  rw [hr 8 (by decide), hr 9 (by decide), hr 10 (by decide)]
  exact g2
theorem rxk192_3 {S0 : Nat → Int → Int} {ws : List Int} {S : Nat → Int → Int} {ra cb wc : Int} (hP : rxP192 S0 ws) (hin : bx_same rxL (bx_mdl rxC192.2.2.1) S0 S) (I0 : bx_Inv rxL S) (hinv : rxI192_3 S0 ws S ra cb wc) (l8 : 0 ≤ ra) (u8 : ra ≤ 3) (l9 : 0 ≤ cb) (u9 : cb ≤ 5) (l10 : 0 ≤ wc) (u10 : wc ≤ 9) : rxP110 S [0, (-5)] ∧ ∀ (S' : Nat → Int → Int) (res : Int), (-6) ≤ res → res ≤ (-1) → rxPS110 S [0, (-5)] S' (some res) → bx_Inv rxL S' → bx_same rxL (bx_mdl rxC110.2.2.1) S S' → rxI192_4 S0 ws S' ra cb wc res ∧ rxm192_4 S0 ws S' ra cb wc res < rxm192_3 S0 ws S ra cb wc := by
  obtain ⟨rfl, h1, hw⟩ := hinv
  refine ⟨trivial, fun S' res _ _ hq _ hsm => ⟨⟨?_, h1, hw, hsm⟩, by unfold rxm192_3 rxm192_4; omega⟩⟩
  obtain ⟨c, hc, hr⟩ := hq
  simp only [List.cons.injEq, and_true, true_and] at hc
  simp only [Option.some.injEq] at hr
  omega
theorem rxs192_3 {X : (Nat → Int → Int) → Prop} {S0 : Nat → Int → Int} {ws : List Int} (hP : rxP192 S0 ws) : rx_obK X S0 rxC192.2.2.1 rxC110.2.2.1 (rxI192 S0 ws) (rxm192 S0 ws) 3 4 rxz192_3 rxz192_4 [.inr (3, (0, 0)), .inr (0, (0, (-5)))] (some 11) rxP110 rxPS110 := by
  intro S r hinv hXS I0 hin hs_ hf_
  have b_ := bx_bds_sat hs_
  have f_ := bx_fcl_ok hs_.1 hf_
  obtain ⟨⟨l8, u8⟩, ⟨l9, u9⟩, ⟨l10, u10⟩, -⟩ := b_
  have g := rxk192_3 hP hin I0 hinv l8 u8 l9 u9 l10 u10
  have ea : List.map (bx_num r) [.inr (3, (0, 0)), .inr (0, (0, (-5)))] = [0, -5] := by
    simp only [List.map_cons, List.map_nil, bx_xv_ok hs_.1]
    rfl
  rw [ea]
  refine ⟨g.1, fun S' w r' hPS hX' I1 hsm hr hw hs' => ?_⟩
  have hw := hw _ rfl
  subst hw
  have b' := hs'.2.2 11 _ _ rfl
  have g2 := g.2 S' (r' 11) b'.1 b'.2 hPS I1 hsm
  show rxI192_4 S0 ws S' (r' 8) (r' 9) (r' 10) (r' 11) ∧ rxm192_4 S0 ws S' (r' 8) (r' 9) (r' 10) (r' 11) < _
  rw [hr 8 (by decide), hr 9 (by decide), hr 10 (by decide)]
  exact g2
theorem rxc192_0_0 {S0 : Nat → Int → Int} {ws : List Int} {S : Nat → Int → Int} {ra cb wc : Int} (hP : rxP192 S0 ws) (hin : bx_same rxL (bx_mdl rxC192.2.2.1) S0 S) (I0 : bx_Inv rxL S) (hinv : rxI192_0 S0 ws S ra cb wc) (l8 : 0 ≤ ra) (u8 : ra ≤ 3) (l9 : 0 ≤ cb) (u9 : cb ≤ 5) (l10 : 10 ≤ wc) (u10 : wc ≤ 2147483647) : (True) ∧ (True) ∧ rxI192_1 S0 ws S ra cb wc ∧ rxm192_1 S0 ws S ra cb wc < rxm192_0 S0 ws S ra cb wc := by
  obtain ⟨rfl, hw⟩ := hinv
  exact ⟨trivial, trivial, ⟨rfl, by omega, hw⟩, by unfold rxm192_0 rxm192_1; omega⟩
theorem rxg192_0_0 {X : (Nat → Int → Int) → Prop} {S0 : Nat → Int → Int} {ws : List Int} (hP : rxP192 S0 ws) : bx_obC rxL X S0 rxC192.2.2.1 (rxI192 S0 ws) (rxm192 S0 ws) 0 rxz192_0 rxo192_0_0 := by
  intro S S' r r' hinv hX hin hsm_ hseg
  obtain ⟨I0, I1, h0_, hr_, b_, f_, d_⟩ := bx_cl (evs := []) (fvs := []) hseg (by decide +kernel) (by decide +kernel)
  have hinv : rxI192_0 S0 ws S (r 8) (r 9) (r 10) := hinv
  rw [← hr_ 8 (by decide), ← hr_ 9 (by decide), ← hr_ 10 (by decide)] at hinv
  obtain ⟨⟨l8, u8⟩, ⟨l9, u9⟩, ⟨l10, u10⟩, -⟩ := b_
  have w_ := d_
  subst w_
  have g := rxc192_0_0 hP hin I0 hinv l8 u8 l9 u9 l10 u10
  refine ⟨bx_narP_ok (l := []) g.1, bx_nfP_ok h0_ (fvs := []) (by decide +kernel) g.2.1, ?_, ?_⟩
  · show rxI192_1 S0 ws S' (bx_val [(0, 0), (0, 0), (0, 0), (0, 0), (0, 0), (0, 0), (0, 0), (0, 0), (8, 0), (9, 0), (10, 0)] r' 8) (bx_val [(0, 0), (0, 0), (0, 0), (0, 0), (0, 0), (0, 0), (0, 0), (0, 0), (8, 0), (9, 0), (10, 0)] r' 9) (bx_val [(0, 0), (0, 0), (0, 0), (0, 0), (0, 0), (0, 0), (0, 0), (0, 0), (8, 0), (9, 0), (10, 0)] r' 10)
    rw [bx_val_x (n := 8) (e := (8, 0)) h0_ rfl, bx_val_x (n := 9) (e := (9, 0)) h0_ rfl, bx_val_x (n := 10) (e := (10, 0)) h0_ rfl]
    exact g.2.2.1
  · show rxm192_1 S0 ws S' (bx_val [(0, 0), (0, 0), (0, 0), (0, 0), (0, 0), (0, 0), (0, 0), (0, 0), (8, 0), (9, 0), (10, 0)] r' 8) (bx_val [(0, 0), (0, 0), (0, 0), (0, 0), (0, 0), (0, 0), (0, 0), (0, 0), (8, 0), (9, 0), (10, 0)] r' 9) (bx_val [(0, 0), (0, 0), (0, 0), (0, 0), (0, 0), (0, 0), (0, 0), (0, 0), (8, 0), (9, 0), (10, 0)] r' 10) < rxm192_0 S0 ws S' (r 8) (r 9) (r 10)
    rw [bx_val_x (n := 8) (e := (8, 0)) h0_ rfl, bx_val_x (n := 9) (e := (9, 0)) h0_ rfl, bx_val_x (n := 10) (e := (10, 0)) h0_ rfl, ← hr_ 8 (by decide), ← hr_ 9 (by decide), ← hr_ 10 (by decide)]
    exact g.2.2.2
theorem rxc192_0_1 {S0 : Nat → Int → Int} {ws : List Int} {S : Nat → Int → Int} {ra cb wc x11 : Int} (hP : rxP192 S0 ws) (hin : bx_same rxL (bx_mdl rxC192.2.2.1) S0 S) (I0 : bx_Inv rxL S) (hinv : rxI192_0 S0 ws S ra cb wc) (l8 : 0 ≤ ra) (u8 : ra ≤ 3) (l9 : 0 ≤ cb) (u9 : cb ≤ 5) (l10 : 0 ≤ wc) (u10 : wc ≤ 9) (l11 : 12 ≤ x11) (u11 : x11 ≤ 12) (e0 : S 14 0 = x11) : (True) ∧ (True) ∧ rxI192_3 S0 ws S ra cb wc ∧ rxm192_3 S0 ws S ra cb wc < rxm192_0 S0 ws S ra cb wc := by
  obtain ⟨rfl, hw⟩ := hinv
  exact ⟨trivial, trivial, ⟨rfl, by omega, hw⟩, by unfold rxm192_0 rxm192_3; omega⟩
theorem rxg192_0_1 {X : (Nat → Int → Int) → Prop} {S0 : Nat → Int → Int} {ws : List Int} (hP : rxP192 S0 ws) : bx_obC rxL X S0 rxC192.2.2.1 (rxI192 S0 ws) (rxm192 S0 ws) 0 rxz192_0 rxo192_0_1 := by
  intro S S' r r' hinv hX hin hsm_ hseg
  obtain ⟨I0, I1, h0_, hr_, b_, f_, d_⟩ := bx_cl (evs := [(0, (0, 14), (0, 0), .inr (0, (11, 0)))]) (fvs := []) hseg (by decide +kernel) (by decide +kernel)
  have hinv : rxI192_0 S0 ws S (r 8) (r 9) (r 10) := hinv
  rw [← hr_ 8 (by decide), ← hr_ 9 (by decide), ← hr_ 10 (by decide)] at hinv
  obtain ⟨⟨l8, u8⟩, ⟨l9, u9⟩, ⟨l10, u10⟩, ⟨l11, u11⟩, -⟩ := b_
  obtain ⟨e0, w_⟩ := d_
  subst w_
  have g := rxc192_0_1 hP hin I0 hinv l8 u8 l9 u9 l10 u10 l11 u11 e0
  refine ⟨bx_narP_ok (l := []) g.1, bx_nfP_ok h0_ (fvs := []) (by decide +kernel) g.2.1, ?_, ?_⟩
  · show rxI192_3 S0 ws S' (bx_val [(0, 0), (0, 0), (0, 0), (0, 0), (0, 0), (0, 0), (0, 0), (0, 0), (8, 0), (9, 0), (10, 0)] r' 8) (bx_val [(0, 0), (0, 0), (0, 0), (0, 0), (0, 0), (0, 0), (0, 0), (0, 0), (8, 0), (9, 0), (10, 0)] r' 9) (bx_val [(0, 0), (0, 0), (0, 0), (0, 0), (0, 0), (0, 0), (0, 0), (0, 0), (8, 0), (9, 0), (10, 0)] r' 10)
    rw [bx_val_x (n := 8) (e := (8, 0)) h0_ rfl, bx_val_x (n := 9) (e := (9, 0)) h0_ rfl, bx_val_x (n := 10) (e := (10, 0)) h0_ rfl]
    exact g.2.2.1
  · show rxm192_3 S0 ws S' (bx_val [(0, 0), (0, 0), (0, 0), (0, 0), (0, 0), (0, 0), (0, 0), (0, 0), (8, 0), (9, 0), (10, 0)] r' 8) (bx_val [(0, 0), (0, 0), (0, 0), (0, 0), (0, 0), (0, 0), (0, 0), (0, 0), (8, 0), (9, 0), (10, 0)] r' 9) (bx_val [(0, 0), (0, 0), (0, 0), (0, 0), (0, 0), (0, 0), (0, 0), (0, 0), (8, 0), (9, 0), (10, 0)] r' 10) < rxm192_0 S0 ws S' (r 8) (r 9) (r 10)
    rw [bx_val_x (n := 8) (e := (8, 0)) h0_ rfl, bx_val_x (n := 9) (e := (9, 0)) h0_ rfl, bx_val_x (n := 10) (e := (10, 0)) h0_ rfl, ← hr_ 8 (by decide), ← hr_ 9 (by decide), ← hr_ 10 (by decide)]
    exact g.2.2.2
theorem rxc192_0_2 {S0 : Nat → Int → Int} {ws : List Int} {S : Nat → Int → Int} {ra cb wc : Int} (hP : rxP192 S0 ws) (hin : bx_same rxL (bx_mdl rxC192.2.2.1) S0 S) (I0 : bx_Inv rxL S) (hinv : rxI192_0 S0 ws S ra cb wc) (l8 : 0 ≤ ra) (u8 : ra ≤ 3) (l9 : 0 ≤ cb) (u9 : cb ≤ 5) (l10 : (-2147483648) ≤ wc) (u10 : wc ≤ (-1)) : (True) ∧ (True) ∧ rxI192_1 S0 ws S ra cb wc ∧ rxm192_1 S0 ws S ra cb wc < rxm192_0 S0 ws S ra cb wc := by
  obtain ⟨rfl, hw⟩ := hinv
  exact ⟨trivial, trivial, ⟨rfl, by omega, hw⟩, by unfold rxm192_0 rxm192_1; omega⟩
theorem rxg192_0_2 {X : (Nat → Int → Int) → Prop} {S0 : Nat → Int → Int} {ws : List Int} (hP : rxP192 S0 ws) : bx_obC rxL X S0 rxC192.2.2.1 (rxI192 S0 ws) (rxm192 S0 ws) 0 rxz192_0 rxo192_0_2 := by
  intro S S' r r' hinv hX hin hsm_ hseg
  obtain ⟨I0, I1, h0_, hr_, b_, f_, d_⟩ := bx_cl (evs := []) (fvs := []) hseg (by decide +kernel) (by decide +kernel)
  have hinv : rxI192_0 S0 ws S (r 8) (r 9) (r 10) := hinv
  rw [← hr_ 8 (by decide), ← hr_ 9 (by decide), ← hr_ 10 (by decide)] at hinv
  obtain ⟨⟨l8, u8⟩, ⟨l9, u9⟩, ⟨l10, u10⟩, -⟩ := b_
  have w_ := d_
  subst w_
  have g := rxc192_0_2 hP hin I0 hinv l8 u8 l9 u9 l10 u10
  refine ⟨bx_narP_ok (l := []) g.1, bx_nfP_ok h0_ (fvs := []) (by decide +kernel) g.2.1, ?_, ?_⟩
  · show rxI192_1 S0 ws S' (bx_val [(0, 0), (0, 0), (0, 0), (0, 0), (0, 0), (0, 0), (0, 0), (0, 0), (8, 0), (9, 0), (10, 0)] r' 8) (bx_val [(0, 0), (0, 0), (0, 0), (0, 0), (0, 0), (0, 0), (0, 0), (0, 0), (8, 0), (9, 0), (10, 0)] r' 9) (bx_val [(0, 0), (0, 0), (0, 0), (0, 0), (0, 0), (0, 0), (0, 0), (0, 0), (8, 0), (9, 0), (10, 0)] r' 10)
    rw [bx_val_x (n := 8) (e := (8, 0)) h0_ rfl, bx_val_x (n := 9) (e := (9, 0)) h0_ rfl, bx_val_x (n := 10) (e := (10, 0)) h0_ rfl]
    exact g.2.2.1
  · show rxm192_1 S0 ws S' (bx_val [(0, 0), (0, 0), (0, 0), (0, 0), (0, 0), (0, 0), (0, 0), (0, 0), (8, 0), (9, 0), (10, 0)] r' 8) (bx_val [(0, 0), (0, 0), (0, 0), (0, 0), (0, 0), (0, 0), (0, 0), (0, 0), (8, 0), (9, 0), (10, 0)] r' 9) (bx_val [(0, 0), (0, 0), (0, 0), (0, 0), (0, 0), (0, 0), (0, 0), (0, 0), (8, 0), (9, 0), (10, 0)] r' 10) < rxm192_0 S0 ws S' (r 8) (r 9) (r 10)
    rw [bx_val_x (n := 8) (e := (8, 0)) h0_ rfl, bx_val_x (n := 9) (e := (9, 0)) h0_ rfl, bx_val_x (n := 10) (e := (10, 0)) h0_ rfl, ← hr_ 8 (by decide), ← hr_ 9 (by decide), ← hr_ 10 (by decide)]
    exact g.2.2.2
theorem rxc192_0_3 {S0 : Nat → Int → Int} {ws : List Int} {S : Nat → Int → Int} {ra cb wc : Int} (hP : rxP192 S0 ws) (hin : bx_same rxL (bx_mdl rxC192.2.2.1) S0 S) (I0 : bx_Inv rxL S) (hinv : rxI192_0 S0 ws S ra cb wc) (l8 : 0 ≤ ra) (u8 : ra ≤ 3) (l9 : 6 ≤ cb) (u9 : cb ≤ 2147483647) (l10 : (-2147483648) ≤ wc) (u10 : wc ≤ 2147483647) : (True) ∧ (True) ∧ rxI192_1 S0 ws S ra cb wc ∧ rxm192_1 S0 ws S ra cb wc < rxm192_0 S0 ws S ra cb wc := by
  obtain ⟨rfl, hw⟩ := hinv
  exact ⟨trivial, trivial, ⟨rfl, by omega, hw⟩, by unfold rxm192_0 rxm192_1; omega⟩
theorem rxg192_0_3 {X : (Nat → Int → Int) → Prop} {S0 : Nat → Int → Int} {ws : List Int} (hP : rxP192 S0 ws) : bx_obC rxL X S0 rxC192.2.2.1 (rxI192 S0 ws) (rxm192 S0 ws) 0 rxz192_0 rxo192_0_3 := by
  intro S S' r r' hinv hX hin hsm_ hseg
  obtain ⟨I0, I1, h0_, hr_, b_, f_, d_⟩ := bx_cl (evs := []) (fvs := []) hseg (by decide +kernel) (by decide +kernel)
  have hinv : rxI192_0 S0 ws S (r 8) (r 9) (r 10) := hinv
  rw [← hr_ 8 (by decide), ← hr_ 9 (by decide), ← hr_ 10 (by decide)] at hinv
  obtain ⟨⟨l8, u8⟩, ⟨l9, u9⟩, ⟨l10, u10⟩, -⟩ := b_
  have w_ := d_
  subst w_
  have g := rxc192_0_3 hP hin I0 hinv l8 u8 l9 u9 l10 u10
  refine ⟨bx_narP_ok (l := []) g.1, bx_nfP_ok h0_ (fvs := []) (by decide +kernel) g.2.1, ?_, ?_⟩
  · show rxI192_1 S0 ws S' (bx_val [(0, 0), (0, 0), (0, 0), (0, 0), (0, 0), (0, 0), (0, 0), (0, 0), (8, 0), (9, 0), (10, 0)] r' 8) (bx_val [(0, 0), (0, 0), (0, 0), (0, 0), (0, 0), (0, 0), (0, 0), (0, 0), (8, 0), (9, 0), (10, 0)] r' 9) (bx_val [(0, 0), (0, 0), (0, 0), (0, 0), (0, 0), (0, 0), (0, 0), (0, 0), (8, 0), (9, 0), (10, 0)] r' 10)
    rw [bx_val_x (n := 8) (e := (8, 0)) h0_ rfl, bx_val_x (n := 9) (e := (9, 0)) h0_ rfl, bx_val_x (n := 10) (e := (10, 0)) h0_ rfl]
    exact g.2.2.1
  · show rxm192_1 S0 ws S' (bx_val [(0, 0), (0, 0), (0, 0), (0, 0), (0, 0), (0, 0), (0, 0), (0, 0), (8, 0), (9, 0), (10, 0)] r' 8) (bx_val [(0, 0), (0, 0), (0, 0), (0, 0), (0, 0), (0, 0), (0, 0), (0, 0), (8, 0), (9, 0), (10, 0)] r' 9) (bx_val [(0, 0), (0, 0), (0, 0), (0, 0), (0, 0), (0, 0), (0, 0), (0, 0), (8, 0), (9, 0), (10, 0)] r' 10) < rxm192_0 S0 ws S' (r 8) (r 9) (r 10)
    rw [bx_val_x (n := 8) (e := (8, 0)) h0_ rfl, bx_val_x (n := 9) (e := (9, 0)) h0_ rfl, bx_val_x (n := 10) (e := (10, 0)) h0_ rfl, ← hr_ 8 (by decide), ← hr_ 9 (by decide), ← hr_ 10 (by decide)]
    exact g.2.2.2
theorem rxc192_0_4 {S0 : Nat → Int → Int} {ws : List Int} {S : Nat → Int → Int} {ra cb wc : Int} (hP : rxP192 S0 ws) (hin : bx_same rxL (bx_mdl rxC192.2.2.1) S0 S) (I0 : bx_Inv rxL S) (hinv : rxI192_0 S0 ws S ra cb wc) (l8 : 0 ≤ ra) (u8 : ra ≤ 3) (l9 : (-2147483648) ≤ cb) (u9 : cb ≤ (-1)) (l10 : (-2147483648) ≤ wc) (u10 : wc ≤ 2147483647) : (True) ∧ (True) ∧ rxI192_1 S0 ws S ra cb wc ∧ rxm192_1 S0 ws S ra cb wc < rxm192_0 S0 ws S ra cb wc := by
  obtain ⟨rfl, hw⟩ := hinv
  exact ⟨trivial, trivial, ⟨rfl, by omega, hw⟩, by unfold rxm192_0 rxm192_1; omega⟩
theorem rxg192_0_4 {X : (Nat → Int → Int) → Prop} {S0 : Nat → Int → Int} {ws : List Int} (hP : rxP192 S0 ws) : bx_obC rxL X S0 rxC192.2.2.1 (rxI192 S0 ws) (rxm192 S0 ws) 0 rxz192_0 rxo192_0_4 := by
  intro S S' r r' hinv hX hin hsm_ hseg
  obtain ⟨I0, I1, h0_, hr_, b_, f_, d_⟩ := bx_cl (evs := []) (fvs := []) hseg (by decide +kernel) (by decide +kernel)
  have hinv : rxI192_0 S0 ws S (r 8) (r 9) (r 10) := hinv
  rw [← hr_ 8 (by decide), ← hr_ 9 (by decide), ← hr_ 10 (by decide)] at hinv
  obtain ⟨⟨l8, u8⟩, ⟨l9, u9⟩, ⟨l10, u10⟩, -⟩ := b_
  have w_ := d_
  subst w_
  have g := rxc192_0_4 hP hin I0 hinv l8 u8 l9 u9 l10 u10
  refine ⟨bx_narP_ok (l := []) g.1, bx_nfP_ok h0_ (fvs := []) (by decide +kernel) g.2.1, ?_, ?_⟩
  · show rxI192_1 S0 ws S' (bx_val [(0, 0), (0, 0), (0, 0), (0, 0), (0, 0), (0, 0), (0, 0), (0, 0), (8, 0), (9, 0), (10, 0)] r' 8) (bx_val [(0, 0), (0, 0), (0, 0), (0, 0), (0, 0), (0, 0), (0, 0), (0, 0), (8, 0), (9, 0), (10, 0)] r' 9) (bx_val [(0, 0), (0, 0), (0, 0), (0, 0), (0, 0), (0, 0), (0, 0), (0, 0), (8, 0), (9, 0), (10, 0)] r' 10)
    rw [bx_val_x (n := 8) (e := (8, 0)) h0_ rfl, bx_val_x (n := 9) (e := (9, 0)) h0_ rfl, bx_val_x (n := 10) (e := (10, 0)) h0_ rfl]
    exact g.2.2.1
  · show rxm192_1 S0 ws S' (bx_val [(0, 0), (0, 0), (0, 0), (0, 0), (0, 0), (0, 0), (0, 0), (0, 0), (8, 0), (9, 0), (10, 0)] r' 8) (bx_val [(0, 0), (0, 0), (0, 0), (0, 0), (0, 0), (0, 0), (0, 0), (0, 0), (8, 0), (9, 0), (10, 0)] r' 9) (bx_val [(0, 0), (0, 0), (0, 0), (0, 0), (0, 0), (0, 0), (0, 0), (0, 0), (8, 0), (9, 0), (10, 0)] r' 10) < rxm192_0 S0 ws S' (r 8) (r 9) (r 10)
    rw [bx_val_x (n := 8) (e := (8, 0)) h0_ rfl, bx_val_x (n := 9) (e := (9, 0)) h0_ rfl, bx_val_x (n := 10) (e := (10, 0)) h0_ rfl, ← hr_ 8 (by decide), ← hr_ 9 (by decide), ← hr_ 10 (by decide)]
    exact g.2.2.2
theorem rxc192_0_5 {S0 : Nat → Int → Int} {ws : List Int} {S : Nat → Int → Int} {ra cb wc : Int} (hP : rxP192 S0 ws) (hin : bx_same rxL (bx_mdl rxC192.2.2.1) S0 S) (I0 : bx_Inv rxL S) (hinv : rxI192_0 S0 ws S ra cb wc) (l8 : 4 ≤ ra) (u8 : ra ≤ 2147483647) (l9 : (-2147483648) ≤ cb) (u9 : cb ≤ 2147483647) (l10 : (-2147483648) ≤ wc) (u10 : wc ≤ 2147483647) : (True) ∧ (True) ∧ rxI192_1 S0 ws S ra cb wc ∧ rxm192_1 S0 ws S ra cb wc < rxm192_0 S0 ws S ra cb wc := by
  obtain ⟨rfl, hw⟩ := hinv
  exact ⟨trivial, trivial, ⟨rfl, by omega, hw⟩, by unfold rxm192_0 rxm192_1; omega⟩
theorem rxg192_0_5 {X : (Nat → Int → Int) → Prop} {S0 : Nat → Int → Int} {ws : List Int} (hP : rxP192 S0 ws) : bx_obC rxL X S0 rxC192.2.2.1 (rxI192 S0 ws) (rxm192 S0 ws) 0 rxz192_0 rxo192_0_5 := by
  intro S S' r r' hinv hX hin hsm_ hseg
  obtain ⟨I0, I1, h0_, hr_, b_, f_, d_⟩ := bx_cl (evs := []) (fvs := []) hseg (by decide +kernel) (by decide +kernel)
  have hinv : rxI192_0 S0 ws S (r 8) (r 9) (r 10) := hinv
  rw [← hr_ 8 (by decide), ← hr_ 9 (by decide), ← hr_ 10 (by decide)] at hinv
  obtain ⟨⟨l8, u8⟩, ⟨l9, u9⟩, ⟨l10, u10⟩, -⟩ := b_
  have w_ := d_
  subst w_
  have g := rxc192_0_5 hP hin I0 hinv l8 u8 l9 u9 l10 u10
  refine ⟨bx_narP_ok (l := []) g.1, bx_nfP_ok h0_ (fvs := []) (by decide +kernel) g.2.1, ?_, ?_⟩
  · show rxI192_1 S0 ws S' (bx_val [(0, 0), (0, 0), (0, 0), (0, 0), (0, 0), (0, 0), (0, 0), (0, 0), (8, 0), (9, 0), (10, 0)] r' 8) (bx_val [(0, 0), (0, 0), (0, 0), (0, 0), (0, 0), (0, 0), (0, 0), (0, 0), (8, 0), (9, 0), (10, 0)] r' 9) (bx_val [(0, 0), (0, 0), (0, 0), (0, 0), (0, 0), (0, 0), (0, 0), (0, 0), (8, 0), (9, 0), (10, 0)] r' 10)
    rw [bx_val_x (n := 8) (e := (8, 0)) h0_ rfl, bx_val_x (n := 9) (e := (9, 0)) h0_ rfl, bx_val_x (n := 10) (e := (10, 0)) h0_ rfl]
    exact g.2.2.1
  · show rxm192_1 S0 ws S' (bx_val [(0, 0), (0, 0), (0, 0), (0, 0), (0, 0), (0, 0), (0, 0), (0, 0), (8, 0), (9, 0), (10, 0)] r' 8) (bx_val [(0, 0), (0, 0), (0, 0), (0, 0), (0, 0), (0, 0), (0, 0), (0, 0), (8, 0), (9, 0), (10, 0)] r' 9) (bx_val [(0, 0), (0, 0), (0, 0), (0, 0), (0, 0), (0, 0), (0, 0), (0, 0), (8, 0), (9, 0), (10, 0)] r' 10) < rxm192_0 S0 ws S' (r 8) (r 9) (r 10)
    rw [bx_val_x (n := 8) (e := (8, 0)) h0_ rfl, bx_val_x (n := 9) (e := (9, 0)) h0_ rfl, bx_val_x (n := 10) (e := (10, 0)) h0_ rfl, ← hr_ 8 (by decide), ← hr_ 9 (by decide), ← hr_ 10 (by decide)]
    exact g.2.2.2
theorem rxc192_0_6 {S0 : Nat → Int → Int} {ws : List Int} {S : Nat → Int → Int} {ra cb wc : Int} (hP : rxP192 S0 ws) (hin : bx_same rxL (bx_mdl rxC192.2.2.1) S0 S) (I0 : bx_Inv rxL S) (hinv : rxI192_0 S0 ws S ra cb wc) (l8 : (-2147483648) ≤ ra) (u8 : ra ≤ (-1)) (l9 : (-2147483648) ≤ cb) (u9 : cb ≤ 2147483647) (l10 : (-2147483648) ≤ wc) (u10 : wc ≤ 2147483647) : (True) ∧ (True) ∧ rxI192_1 S0 ws S ra cb wc ∧ rxm192_1 S0 ws S ra cb wc < rxm192_0 S0 ws S ra cb wc := by
  obtain ⟨rfl, hw⟩ := hinv
  exact ⟨trivial, trivial, ⟨rfl, by omega, hw⟩, by unfold rxm192_0 rxm192_1; omega⟩
theorem rxg192_0_6 {X : (Nat → Int → Int) → Prop} {S0 : Nat → Int → Int} {ws : List Int} (hP : rxP192 S0 ws) : bx_obC rxL X S0 rxC192.2.2.1 (rxI192 S0 ws) (rxm192 S0 ws) 0 rxz192_0 rxo192_0_6 := by
  intro S S' r r' hinv hX hin hsm_ hseg
  obtain ⟨I0, I1, h0_, hr_, b_, f_, d_⟩ := bx_cl (evs := []) (fvs := []) hseg (by decide +kernel) (by decide +kernel)
  have hinv : rxI192_0 S0 ws S (r 8) (r 9) (r 10) := hinv
  rw [← hr_ 8 (by decide), ← hr_ 9 (by decide), ← hr_ 10 (by decide)] at hinv
  obtain ⟨⟨l8, u8⟩, ⟨l9, u9⟩, ⟨l10, u10⟩, -⟩ := b_
  have w_ := d_
  subst w_
  have g := rxc192_0_6 hP hin I0 hinv l8 u8 l9 u9 l10 u10
  refine ⟨bx_narP_ok (l := []) g.1, bx_nfP_ok h0_ (fvs := []) (by decide +kernel) g.2.1, ?_, ?_⟩
  · show rxI192_1 S0 ws S' (bx_val [(0, 0), (0, 0), (0, 0), (0, 0), (0, 0), (0, 0), (0, 0), (0, 0), (8, 0), (9, 0), (10, 0)] r' 8) (bx_val [(0, 0), (0, 0), (0, 0), (0, 0), (0, 0), (0, 0), (0, 0), (0, 0), (8, 0), (9, 0), (10, 0)] r' 9) (bx_val [(0, 0), (0, 0), (0, 0), (0, 0), (0, 0), (0, 0), (0, 0), (0, 0), (8, 0), (9, 0), (10, 0)] r' 10)
    rw [bx_val_x (n := 8) (e := (8, 0)) h0_ rfl, bx_val_x (n := 9) (e := (9, 0)) h0_ rfl, bx_val_x (n := 10) (e := (10, 0)) h0_ rfl]
    exact g.2.2.1
  · show rxm192_1 S0 ws S' (bx_val [(0, 0), (0, 0), (0, 0), (0, 0), (0, 0), (0, 0), (0, 0), (0, 0), (8, 0), (9, 0), (10, 0)] r' 8) (bx_val [(0, 0), (0, 0), (0, 0), (0, 0), (0, 0), (0, 0), (0, 0), (0, 0), (8, 0), (9, 0), (10, 0)] r' 9) (bx_val [(0, 0), (0, 0), (0, 0), (0, 0), (0, 0), (0, 0), (0, 0), (0, 0), (8, 0), (9, 0), (10, 0)] r' 10) < rxm192_0 S0 ws S' (r 8) (r 9) (r 10)
    rw [bx_val_x (n := 8) (e := (8, 0)) h0_ rfl, bx_val_x (n := 9) (e := (9, 0)) h0_ rfl, bx_val_x (n := 10) (e := (10, 0)) h0_ rfl, ← hr_ 8 (by decide), ← hr_ 9 (by decide), ← hr_ 10 (by decide)]
    exact g.2.2.2
theorem rxd192_0_0 {S0 : Nat → Int → Int} {ws : List Int} {S : Nat → Int → Int} {ra cb wc x11 : Int} (hP : rxP192 S0 ws) (hin : bx_same rxL (bx_mdl rxC192.2.2.1) S0 S) (hin2 : bx_same rxL (bx_mdl rxC192.2.2.1) S (bx_up (bx_up (bx_up (bx_up (bx_up S 15 x11 ra) 16 x11 cb) 17 x11 wc) 14 0 (x11 + 1)) 0 8 0)) (I0 : bx_Inv rxL S) (I1 : bx_Inv rxL (bx_up (bx_up (bx_up (bx_up (bx_up S 15 x11 ra) 16 x11 cb) 17 x11 wc) 14 0 (x11 + 1)) 0 8 0)) (hinv : rxI192_0 S0 ws S ra cb wc) (l8 : 0 ≤ ra) (u8 : ra ≤ 3) (l9 : 0 ≤ cb) (u9 : cb ≤ 5) (l10 : 0 ≤ wc) (u10 : wc ≤ 9) (l11 : 0 ≤ x11) (u11 : x11 ≤ 11) (e5 : S 14 0 = x11) : (True) ∧ rxPS192 S0 ws (bx_up (bx_up (bx_up (bx_up (bx_up S 15 x11 ra) 16 x11 cb) 17 x11 wc) 14 0 (x11 + 1)) 0 8 0) (some (x11 + 1)) := by
  obtain ⟨rfl, hw⟩ := hinv
  refine ⟨trivial, ra, cb, wc, hw, Or.inr (Or.inr (⟨?_, ?_, ?_, ?_, ?_, ?_, ?_, ?_, ((bx_up_ne (by omega)).trans (bx_up_at)).trans (by omega), (bx_up_ne (by omega)).trans ((bx_up_ne (by omega)).trans ((bx_up_ne (by omega)).trans ((bx_up_ne (by omega)).trans ((bx_up_ne (by omega)))))), (bx_up_ne (by omega)).trans ((bx_up_ne (by omega)).trans ((bx_up_ne (by omega)).trans ((bx_up_ne (by omega)).trans ((bx_up_ne (by omega))))))⟩))⟩ <;> first | omega | exact hin2 | exact congrArg some (by omega) | (intro i i0 i1; simp only [bx_up]; (repeat' split) <;> first | rfl | omega | (simp_all; done) | (simp_all; omega)) | ((repeat (first | rw [bx_up_at] | rw [bx_up_ne (by omega)])); omega) | exact True.intro
theorem rxf192_0_0 {X : (Nat → Int → Int) → Prop} {S0 : Nat → Int → Int} {ws : List Int} (hP : rxP192 S0 ws) : bx_obE rxL X S0 rxC192.2.2.1 (rxI192 S0 ws) (rxPS192 S0 ws) 0 rxz192_0 rxe192_0_0 := by
  intro S S' r r' hinv hX hin hsm_ hseg
  obtain ⟨I0, I1, h0_, hr_, b_, f_, d_⟩ := bx_cl (evs := [(1, (0, 0), (0, 8), .inr (0, (0, 0))), (1, (0, 14), (0, 0), .inr (0, (11, 1))), (1, (0, 17), (11, 0), .inr (0, (10, 0))), (1, (0, 16), (11, 0), .inr (0, (9, 0))), (1, (0, 15), (11, 0), .inr (0, (8, 0))), (0, (0, 14), (0, 0), .inr (0, (11, 0)))]) (fvs := []) hseg (by decide +kernel) (by decide +kernel)
  have hinv : rxI192_0 S0 ws S (r 8) (r 9) (r 10) := hinv
  rw [← hr_ 8 (by decide), ← hr_ 9 (by decide), ← hr_ 10 (by decide)] at hinv
  obtain ⟨⟨l8, u8⟩, ⟨l9, u9⟩, ⟨l10, u10⟩, ⟨l11, u11⟩, -⟩ := b_
  obtain ⟨T0, ⟨T1, ⟨T2, ⟨T3, ⟨T4, ⟨e5, w_⟩, w4⟩, w3⟩, w2⟩, w1⟩, w0⟩ := d_
  subst w0
  subst w1
  subst w2
  subst w3
  subst w4
  subst w_
  have g := rxd192_0_0 hP hin hsm_ I0 I1 hinv l8 u8 l9 u9 l10 u10 l11 u11 e5
  refine ⟨bx_narP_ok (l := []) g.1, ?_⟩
  show rxPS192 S0 ws (bx_up (bx_up (bx_up (bx_up (bx_up T4 15 (r' 11) (r' 8)) 16 (r' 11) (r' 9)) 17 (r' 11) (r' 10)) 14 (0) (r' 11 + 1)) 0 (8) (0)) (some (bx_num r' (.inr (0, (11, 1)))))
  rw [bx_xv_ok h0_]
  exact g.2
theorem rxd192_2_0 {S0 : Nat → Int → Int} {ws : List Int} {S : Nat → Int → Int} {ra cb wc res : Int} (hP : rxP192 S0 ws) (hin : bx_same rxL (bx_mdl rxC192.2.2.1) S0 S) (hin2 : bx_same rxL (bx_mdl rxC192.2.2.1) S S) (I0 : bx_Inv rxL S) (I1 : bx_Inv rxL S) (hinv : rxI192_2 S0 ws S ra cb wc res) (l8 : (-2147483648) ≤ ra) (u8 : ra ≤ 2147483647) (l9 : (-2147483648) ≤ cb) (u9 : cb ≤ 2147483647) (l10 : (-2147483648) ≤ wc) (u10 : wc ≤ 2147483647) (l11 : (-6) ≤ res) (u11 : res ≤ (-1)) : (True) ∧ rxPS192 S0 ws S (some res) := by
  obtain ⟨h1, h2, hw, hs⟩ := hinv
  refine ⟨trivial, ra, cb, wc, hw, Or.inl (⟨by omega, ?_, ?_⟩)⟩
  · exact congrArg some h1
  · exact hs
theorem rxf192_2_0 {X : (Nat → Int → Int) → Prop} {S0 : Nat → Int → Int} {ws : List Int} (hP : rxP192 S0 ws) : bx_obE rxL X S0 rxC192.2.2.1 (rxI192 S0 ws) (rxPS192 S0 ws) 2 rxz192_2 rxe192_2_0 := by
  intro S S' r r' hinv hX hin hsm_ hseg
  obtain ⟨I0, I1, h0_, hr_, b_, f_, d_⟩ := bx_cl (evs := []) (fvs := []) hseg (by decide +kernel) (by decide +kernel)
  have hinv : rxI192_2 S0 ws S (r 8) (r 9) (r 10) (r 11) := hinv
  rw [← hr_ 8 (by decide), ← hr_ 9 (by decide), ← hr_ 10 (by decide), ← hr_ 11 (by decide)] at hinv
  obtain ⟨⟨l8, u8⟩, ⟨l9, u9⟩, ⟨l10, u10⟩, ⟨l11, u11⟩, -⟩ := b_
  have w_ := d_
  subst w_
  have g := rxd192_2_0 hP hin hsm_ I0 I1 hinv l8 u8 l9 u9 l10 u10 l11 u11
  refine ⟨bx_narP_ok (l := []) g.1, ?_⟩
  show rxPS192 S0 ws S' (some (bx_num r' (.inr (0, (11, 0)))))
  rw [bx_xv_ok h0_]
  exact g.2
theorem rxd192_4_0 {S0 : Nat → Int → Int} {ws : List Int} {S : Nat → Int → Int} {ra cb wc res : Int} (hP : rxP192 S0 ws) (hin : bx_same rxL (bx_mdl rxC192.2.2.1) S0 S) (hin2 : bx_same rxL (bx_mdl rxC192.2.2.1) S S) (I0 : bx_Inv rxL S) (I1 : bx_Inv rxL S) (hinv : rxI192_4 S0 ws S ra cb wc res) (l8 : 0 ≤ ra) (u8 : ra ≤ 3) (l9 : 0 ≤ cb) (u9 : cb ≤ 5) (l10 : 0 ≤ wc) (u10 : wc ≤ 9) (l11 : (-6) ≤ res) (u11 : res ≤ (-1)) : (True) ∧ rxPS192 S0 ws S (some res) := by
  obtain ⟨h1, h2, hw, hs⟩ := hinv
  refine ⟨trivial, ra, cb, wc, hw, Or.inr (Or.inl (⟨by omega, by omega, by omega, by omega, by omega, by omega, by omega, ?_, ?_⟩))⟩
  · exact congrArg some h1
  · exact hs
theorem rxf192_4_0 {X : (Nat → Int → Int) → Prop} {S0 : Nat → Int → Int} {ws : List Int} (hP : rxP192 S0 ws) : bx_obE rxL X S0 rxC192.2.2.1 (rxI192 S0 ws) (rxPS192 S0 ws) 4 rxz192_4 rxe192_4_0 := by
  intro S S' r r' hinv hX hin hsm_ hseg
  obtain ⟨I0, I1, h0_, hr_, b_, f_, d_⟩ := bx_cl (evs := []) (fvs := []) hseg (by decide +kernel) (by decide +kernel)
  have hinv : rxI192_4 S0 ws S (r 8) (r 9) (r 10) (r 11) := hinv
  rw [← hr_ 8 (by decide), ← hr_ 9 (by decide), ← hr_ 10 (by decide), ← hr_ 11 (by decide)] at hinv
  obtain ⟨⟨l8, u8⟩, ⟨l9, u9⟩, ⟨l10, u10⟩, ⟨l11, u11⟩, -⟩ := b_
  have w_ := d_
  subst w_
  have g := rxd192_4_0 hP hin hsm_ I0 I1 hinv l8 u8 l9 u9 l10 u10 l11 u11
  refine ⟨bx_narP_ok (l := []) g.1, ?_⟩
  show rxPS192 S0 ws S' (some (bx_num r' (.inr (0, (11, 0)))))
  rw [bx_xv_ok h0_]
  exact g.2
theorem rxgC192 {X : (Nat → Int → Int) → Prop} {S0 : Nat → Int → Int} {ws : List Int} (hP : rxP192 S0 ws) : bx_allI (fun i q => rxU192 q = true ∨ bx_allP (fun o => bx_obC rxL X S0 rxC192.2.2.1 (rxI192 S0 ws) (rxm192 S0 ws) i q.1 o) q.2.1) 0 rxY192 := ⟨Or.inr ⟨rxg192_0_0 hP, rxg192_0_1 hP, rxg192_0_2 hP, rxg192_0_3 hP, rxg192_0_4 hP, rxg192_0_5 hP, rxg192_0_6 hP, trivial⟩, Or.inl rfl, Or.inr trivial, Or.inl rfl, Or.inr trivial, trivial⟩
theorem rxgE192 {X : (Nat → Int → Int) → Prop} {S0 : Nat → Int → Int} {ws : List Int} (hP : rxP192 S0 ws) : bx_allI (fun i q => rxU192 q = true ∨ bx_allP (fun E => bx_obE rxL X S0 rxC192.2.2.1 (rxI192 S0 ws) (rxPS192 S0 ws) i q.1 E) q.2.2) 0 rxY192 := ⟨Or.inr ⟨rxf192_0_0 hP, trivial⟩, Or.inl rfl, Or.inr ⟨rxf192_2_0 hP, trivial⟩, Or.inl rfl, Or.inr ⟨rxf192_4_0 hP, trivial⟩, trivial⟩
theorem rxu192 {PX : State → Prop} {Dg : va_G} {A : Nat → Prop} {ad xa : Nat → Nat} {l : Launch} {X : (Nat → Int → Int) → Prop} (hPX : rx_PXOK rxNW A PX) (hX : ∀ S S1 : Nat → Int → Int, X S → bx_same rxL (bx_mdl rxC192.2.2.1) S S1 → X S1) (hQ110 : bx_ConP rxG rxNW rxAO PX Dg rxL X vwCl A ad l rxM110 rxC110 rxP110 rxPS110) {S0 : Nat → Int → Int} {ws : List Int} (hP : rxP192 S0 ws) : ∀ (i : Nat) (q : bx_HE), rxY192[i]? = some q → rxU192 q = true → ∀ {p : Program} {e : Env} {R : Room} {s : State} {m : MethodId} {args : Array Value} {below : List Frame} {meth : Method} {c : Code} {Q : State → Prop} {H0 : Heap}, rx_Fr rxG rxNW rxAO PX p s m args meth c rxM192 → (∀ q, H0.size ≤ q → A q) → H0 = s.heap → rxM192.2.2.2.2.2.2.1 ≤ R.cells → rxM192.2.2.2.2.2.2.2 ≤ R.slots → rxC192.2.2.2.1 ≤ R.frames → rxC192.2.2.2.1 * 40 ≤ R.locals → bx_Step p l e R s m args below meth c Q Dg rxL X vwCl A xa H0 ad rxM192 rxY192 (rxI192 S0 ws) (rxm192 S0 ws) S0 rxC192.2.2.1 i q := by
  intro i q hq hus p e R s m args below meth c Q H0 hF hA hH0 hmc hms hd hdl
  match i, hq with
  | 0, hq =>
    cases hq
    exact absurd (show false = true from hus) Bool.false_ne_true
  | 1, hq =>
    cases hq
    exact rx_stepC (ins := .invokevirtual 110) (len := 3) (i' := 2) (M' := rxM110) (d := rxC192.2.2.2.1) (as := [.inr (3, (0, 0)), .inr (0, (0, (-1)))]) (t := []) (ct := rxC110) hPX hF rfl hA hH0 hmc hms hd hdl (by decide +kernel) rfl rfl (by decide +kernel) (by decide +kernel) hQ110 (by decide +kernel) rfl (Or.inr ⟨_, _, _, 1, rfl, rfl, by omega, rfl, rfl, rfl⟩) (rxs192_1 hP)
  | 2, hq =>
    cases hq
    exact absurd (show false = true from hus) Bool.false_ne_true
  | 3, hq =>
    cases hq
    exact rx_stepC (ins := .invokevirtual 110) (len := 3) (i' := 4) (M' := rxM110) (d := rxC192.2.2.2.1) (as := [.inr (3, (0, 0)), .inr (0, (0, (-5)))]) (t := []) (ct := rxC110) hPX hF rfl hA hH0 hmc hms hd hdl (by decide +kernel) rfl rfl (by decide +kernel) (by decide +kernel) hQ110 (by decide +kernel) rfl (Or.inr ⟨_, _, _, 1, rfl, rfl, by omega, rfl, rfl, rfl⟩) (rxs192_3 hP)
  | 4, hq =>
    cases hq
    exact absurd (show false = true from hus) Bool.false_ne_true
  | n + 5, hq => cases hq
theorem rxQ192 {PX : State → Prop} {Dg : va_G} {A : Nat → Prop} {ad xa : Nat → Nat} {l : Launch} {X : (Nat → Int → Int) → Prop} (hPX : rx_PXOK rxNW A PX) (hsl : ∀ s : State, PX s → ∀ o idx n : Nat, rxSl o idx = some n → ∃ tx : String, vk_R (rxNm o) idx tx (ad n) s)
    (hX : ∀ S S' : Nat → Int → Int, X S → bx_same rxL (bx_mdl rxC192.2.2.1) S S' → X S')
    (ih : ∀ (j2 : Nat) (ct2 : bx_Ct) (M2 : rx_Mt), ct2 ∈ rxCnE j2 → ct2.2.2.2.1 + 1 ≤ rxC192.2.2.2.1 → rxT.2.2.2.2.2 j2 = some M2 → bx_Con rxG rxNW rxAO PX Dg rxL X vwCl A ad l M2 ct2) (hQ110 : bx_ConP rxG rxNW rxAO PX Dg rxL X vwCl A ad l rxM110 rxC110 rxP110 rxPS110) : bx_ConP rxG rxNW rxAO PX Dg rxL X vwCl A ad l rxM192 rxC192 rxP192 rxPS192 :=
  rxQof (xa := xa) (Cn := rxCnE) (f := 30000) (j := 192) (tab := rxY192) (us := rxU192) hPX hsl hX ih rfl rxYc192 rxI192 rxm192
    (fun S0 ws r I0 I ht0 ht as he he1 hX0 hI0 hP hs ha => by
      have e := he.symm.trans (show bx_ent0 rxNP rxC192.1 bx_I0 [] = some ([(0, 0), (0, 0), (0, 0), (0, 0), (0, 0), (0, 0), (0, 0), (0, 0), ((-2147483648), 2147483647), ((-2147483648), 2147483647), ((-2147483648), 2147483647)], [], [.inr (3, (0, 0)), .inr (0, (8, 0)), .inr (0, (9, 0)), .inr (0, (10, 0))]) from rfl)
      cases e
      subst ha
      have h0 : r 0 = 0 := hs.1
      show rxI192_0 S0 _ S0 (r 8) (r 9) (r 10)
      refine ⟨rfl, ?_⟩
      simp only [List.map_cons, List.map_nil, bx_xv_ok h0]
      rfl)
    (fun S0 ws hP => rxu192 (xa := xa) hPX hX hQ110 hP) (fun S0 ws hP => rxgC192 hP) (fun S0 ws hP => rxgE192 hP)
set_option maxHeartbeats 1000000 in
theorem rzQ192 {PX : State → Prop} {Dg : va_G} {A : Nat → Prop} {ad : Nat → Nat} {l : Launch} (hPX : rx_PXOK rxNW A PX) (hsl : ∀ s : State, PX s → ∀ o idx n : Nat, rxSl o idx = some n → ∃ tx : String, vk_R (rxNm o) idx tx (ad n) s) (ih : ∀ (j : Nat) (ct : bx_Ct) (M : rx_Mt), ct ∈ rxCn j → rxT.2.2.2.2.2 j = some M → bx_Con rxG rxNW rxAO PX Dg rxL rxX vwCl A ad l M ct) : bx_ConP rxG rxNW rxAO PX Dg rxL rxX vwCl A ad l rxM192 rxC192 (fun _ _ => True) rxPS192 := by
  have q110 := rxQ110 (PX := PX) (Dg := Dg) (A := A) (ad := ad) (xa := fun n => n) (l := l) (X := rxX) hPX hsl (fun _ _ h hm => rxX_of (by decide +kernel) h hm) (fun _ _ _ h => absurd h List.not_mem_nil)
  have q192 := rxQ192 (PX := PX) (Dg := Dg) (A := A) (ad := ad) (xa := fun n => n) (l := l) (X := rxX) hPX hsl (fun _ _ h hm => rxX_of (by decide +kernel) h hm) (fun _ _ _ h => absurd h List.not_mem_nil) q110
  exact fun S0 ws h1 h2 h3 _ => q192 S0 ws h1 h2 h3 trivial
