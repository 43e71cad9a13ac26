/-! CONTRACT BY HAND, by program (wip/sim/genhand.py): DeadUnderstudies.person -/
def rxI223_0 (S0 : Nat → Int → Int) (ws : List Int) (S : Nat → Int → Int) (bo de me : Int) : Prop := S = S0 ∧ ws = [0, bo, de, me]
def rxm223_0 (S0 : Nat → Int → Int) (ws : List Int) (S : Nat → Int → Int) (bo de me : Int) : Nat := 100
def rxz223_0 : rx_Z := ([(0, 0), (0, 0), (0, 0), (0, 0), (0, 0), (0, 0), (0, 0), (0, 0), ((-2147483648), 2147483647), ((-2147483648), 2147483647), ((-2147483648), 2147483647)], [], [], 0, 0, 0, [(0, .inr (3, (0, 0))), (1, .inr (0, (8, 0))), (2, .inr (0, (9, 0))), (3, .inr (0, (10, 0)))], [])
def rxI223_1 (S0 : Nat → Int → Int) (ws : List Int) (S : Nat → Int → Int) (bo de me : Int) : Prop := S = S0 ∧ ((bo < 0 ∨ 200 < bo ∨ de ≤ bo ∨ 300 < de ∨ me < 1 ∨ 9 < me)) ∧ ws = [0, bo, de, me]
def rxm223_1 (S0 : Nat → Int → Int) (ws : List Int) (S : Nat → Int → Int) (bo de me : Int) : Nat := 50
def rxz223_1 : rx_Z := ([(0, 0), (0, 0), (0, 0), (0, 0), (0, 0), (0, 0), (0, 0), (0, 0), ((-2147483648), 2147483647), ((-2147483648), 2147483647), ((-2147483648), 2147483647)], [], [], 0, 0, 32, [(0, .inr (3, (0, 0))), (1, .inr (0, (8, 0))), (2, .inr (0, (9, 0))), (3, .inr (0, (10, 0)))], [.inr (0, (0, (-1))), .inr (3, (0, 0))])
def rxI223_2 (S0 : Nat → Int → Int) (ws : List Int) (S : Nat → Int → Int) (bo de me res : Int) : Prop := res = (-1) ∧ ((bo < 0 ∨ 200 < bo ∨ de ≤ bo ∨ 300 < de ∨ me < 1 ∨ 9 < me)) ∧ ws = [0, bo, de, me] ∧ bx_same rxL (bx_mdl rxC110.2.2.1) S0 S
def rxm223_2 (S0 : Nat → Int → Int) (ws : List Int) (S : Nat → Int → Int) (bo de me res : Int) : Nat := 20
def rxz223_2 : rx_Z := ([(0, 0), (0, 0), (0, 0), (0, 0), (0, 0), (0, 0), (0, 0), (0, 0), ((-2147483648), 2147483647), ((-2147483648), 2147483647), ((-2147483648), 2147483647), ((-6), (-1))], [], [], 0, 0, 35, [(0, .inr (3, (0, 0))), (1, .inr (0, (8, 0))), (2, .inr (0, (9, 0))), (3, .inr (0, (10, 0)))], [.inr (0, (11, 0))])
def rxI223_3 (S0 : Nat → Int → Int) (ws : List Int) (S : Nat → Int → Int) (bo de me : Int) : Prop := S = S0 ∧ (0 ≤ bo ∧ bo ≤ 200 ∧ bo < de ∧ de ≤ 300 ∧ 1 ≤ me ∧ me ≤ 9 ∧ 8 ≤ S 5 0) ∧ ws = [0, bo, de, me]
def rxm223_3 (S0 : Nat → Int → Int) (ws : List Int) (S : Nat → Int → Int) (bo de me : Int) : Nat := 50
def rxz223_3 : rx_Z := ([(0, 0), (0, 0), (0, 0), (0, 0), (0, 0), (0, 0), (0, 0), (0, 0), (0, 200), ((-2147483648), 300), ((-2147483648), 2147483647)], [], [], 0, 0, 54, [(0, .inr (3, (0, 0))), (1, .inr (0, (8, 0))), (2, .inr (0, (9, 0))), (3, .inr (0, (10, 0)))], [.inr (0, (0, (-5))), .inr (3, (0, 0))])
def rxI223_4 (S0 : Nat → Int → Int) (ws : List Int) (S : Nat → Int → Int) (bo de me res : Int) : Prop := res = (-5) ∧ (0 ≤ bo ∧ bo ≤ 200 ∧ bo < de ∧ de ≤ 300 ∧ 1 ≤ me ∧ me ≤ 9 ∧ 8 ≤ S0 5 0) ∧ ws = [0, bo, de, me] ∧ bx_same rxL (bx_mdl rxC110.2.2.1) S0 S
def rxm223_4 (S0 : Nat → Int → Int) (ws : List Int) (S : Nat → Int → Int) (bo de me res : Int) : Nat := 20
def rxz223_4 : rx_Z := ([(0, 0), (0, 0), (0, 0), (0, 0), (0, 0), (0, 0), (0, 0), (0, 0), (0, 200), ((-2147483648), 300), ((-2147483648), 2147483647), ((-6), (-1))], [], [], 0, 0, 57, [(0, .inr (3, (0, 0))), (1, .inr (0, (8, 0))), (2, .inr (0, (9, 0))), (3, .inr (0, (10, 0)))], [.inr (0, (11, 0))])
def rxo223_0_0 : bx_HO := (([(0, 0), (0, 0), (0, 0), (0, 0), (0, 0), (0, 0), (0, 0), (0, 0), (0, 200), (1, 300), ((-2147483648), 0)], [(0, (8, 0), (9, 0))], [], 0, 0, 32, [(0, .inr (3, (0, 0))), (1, .inr (0, (8, 0))), (2, .inr (0, (9, 0))), (3, .inr (0, (10, 0)))], [.inr (0, (0, (-1))), .inr (3, (0, 0))]), [], [], [(0, 0), (0, 0), (0, 0), (0, 0), (0, 0), (0, 0), (0, 0), (0, 0), (8, 0), (9, 0), (10, 0)], 1)
def rxo223_0_1 : bx_HO := (([(0, 0), (0, 0), (0, 0), (0, 0), (0, 0), (0, 0), (0, 0), (0, 0), (0, 200), (1, 300), (10, 2147483647)], [(0, (8, 0), (9, 0))], [], 0, 0, 32, [(0, .inr (3, (0, 0))), (1, .inr (0, (8, 0))), (2, .inr (0, (9, 0))), (3, .inr (0, (10, 0)))], [.inr (0, (0, (-1))), .inr (3, (0, 0))]), [], [], [(0, 0), (0, 0), (0, 0), (0, 0), (0, 0), (0, 0), (0, 0), (0, 0), (8, 0), (9, 0), (10, 0)], 1)
def rxo223_0_2 : bx_HO := (([(0, 0), (0, 0), (0, 0), (0, 0), (0, 0), (0, 0), (0, 0), (0, 0), (0, 200), (1, 300), (1, 9), (8, 8)], [(0, (8, 0), (9, 0))], [(((0, 0), 1851192626986356797424340330377019318111018015026043177556312064000000), .inr (0, (11, 0))), (((0, 5), 0), .inr (0, (11, 0))), (((0, 1), 4), .inr (3, (0, 5))), (((0, 0), 0), .inr (3, (0, 1)))], 0, 0, 54, [(0, .inr (3, (0, 0))), (1, .inr (0, (8, 0))), (2, .inr (0, (9, 0))), (3, .inr (0, (10, 0)))], [.inr (0, (0, (-5))), .inr (3, (0, 0))]), [], [], [(0, 0), (0, 0), (0, 0), (0, 0), (0, 0), (0, 0), (0, 0), (0, 0), (8, 0), (9, 0), (10, 0)], 3)
def rxo223_0_3 : bx_HO := (([(0, 0), (0, 0), (0, 0), (0, 0), (0, 0), (0, 0), (0, 0), (0, 0), (0, 200), (301, 2147483647), ((-2147483648), 2147483647)], [(0, (8, 0), (9, 0))], [], 0, 0, 32, [(0, .inr (3, (0, 0))), (1, .inr (0, (8, 0))), (2, .inr (0, (9, 0))), (3, .inr (0, (10, 0)))], [.inr (0, (0, (-1))), .inr (3, (0, 0))]), [], [], [(0, 0), (0, 0), (0, 0), (0, 0), (0, 0), (0, 0), (0, 0), (0, 0), (8, 0), (9, 0), (10, 0)], 1)
def rxo223_0_4 : bx_HO := (([(0, 0), (0, 0), (0, 0), (0, 0), (0, 0), (0, 0), (0, 0), (0, 0), (0, 200), ((-2147483648), 200), ((-2147483648), 2147483647)], [(1, (9, 0), (8, 0))], [], 0, 0, 32, [(0, .inr (3, (0, 0))), (1, .inr (0, (8, 0))), (2, .inr (0, (9, 0))), (3, .inr (0, (10, 0)))], [.inr (0, (0, (-1))), .inr (3, (0, 0))]), [], [], [(0, 0), (0, 0), (0, 0), (0, 0), (0, 0), (0, 0), (0, 0), (0, 0), (8, 0), (9, 0), (10, 0)], 1)
def rxo223_0_5 : bx_HO := (([(0, 0), (0, 0), (0, 0), (0, 0), (0, 0), (0, 0), (0, 0), (0, 0), (201, 2147483647), ((-2147483648), 2147483647), ((-2147483648), 2147483647)], [], [], 0, 0, 32, [(0, .inr (3, (0, 0))), (1, .inr (0, (8, 0))), (2, .inr (0, (9, 0))), (3, .inr (0, (10, 0)))], [.inr (0, (0, (-1))), .inr (3, (0, 0))]), [], [], [(0, 0), (0, 0), (0, 0), (0, 0), (0, 0), (0, 0), (0, 0), (0, 0), (8, 0), (9, 0), (10, 0)], 1)
def rxo223_0_6 : bx_HO := (([(0, 0), (0, 0), (0, 0), (0, 0), (0, 0), (0, 0), (0, 0), (0, 0), ((-2147483648), (-1)), ((-2147483648), 2147483647), ((-2147483648), 2147483647)], [], [], 0, 0, 32, [(0, .inr (3, (0, 0))), (1, .inr (0, (8, 0))), (2, .inr (0, (9, 0))), (3, .inr (0, (10, 0)))], [.inr (0, (0, (-1))), .inr (3, (0, 0))]), [], [], [(0, 0), (0, 0), (0, 0), (0, 0), (0, 0), (0, 0), (0, 0), (0, 0), (8, 0), (9, 0), (10, 0)], 1)
def rxe223_0_0 : rx_End × List (Nat × Int × Int) := (([(0, 0), (0, 0), (0, 0), (0, 0), (0, 0), (0, 0), (0, 0), (0, 0), (0, 200), (1, 300), (1, 9), (0, 7)], [(0, (8, 0), (9, 0))], [(((0, 0), 1851192626986356799029993984671224184301589730656725205983952899000000), .inr (0, (0, 0))), (((0, 0), 8), .inr (0, (0, 0))), (((0, 0), 1851192626986356797424340330377019318111018015026043177556312067000000), .inr (0, (11, 1))), (((0, 5), 0), .inr (0, (11, 1))), (((0, 0), 1851192626986356797424374018331344491018900889112178922611015683000000), .inr (0, (10, 0))), (((0, 5), 3), .inr (3, (0, 8))), (((0, 0), 1851192626986356797424374018331344491018900889112178922610425859000000), .inr (0, (9, 0))), (((0, 5), 2), .inr (3, (0, 7))), (((0, 0), 1851192626986356797424374018331344491018900889112178922609836035000000), .inr (0, (8, 0))), (((0, 5), 1), .inr (3, (0, 6))), (((0, 0), 1851192626986356797424340330377019318111018015026043177556312064000000), .inr (0, (11, 0))), (((0, 1), 4), .inr (3, (0, 5))), (((0, 0), 0), .inr (3, (0, 1)))], some (.inr (0, (11, 0)))), [])
def rxe223_2_0 : rx_End × List (Nat × Int × Int) := (([(0, 0), (0, 0), (0, 0), (0, 0), (0, 0), (0, 0), (0, 0), (0, 0), ((-2147483648), 2147483647), ((-2147483648), 2147483647), ((-2147483648), 2147483647), ((-6), (-1))], [], [], some (.inr (0, (11, 0)))), [])
def rxe223_4_0 : rx_End × List (Nat × Int × Int) := (([(0, 0), (0, 0), (0, 0), (0, 0), (0, 0), (0, 0), (0, 0), (0, 0), (0, 200), ((-2147483648), 300), ((-2147483648), 2147483647), ((-6), (-1))], [], [], some (.inr (0, (11, 0)))), [])
def rxY223 : List bx_HE := [(rxz223_0, [rxo223_0_0, rxo223_0_1, rxo223_0_2, rxo223_0_3, rxo223_0_4, rxo223_0_5, rxo223_0_6], [rxe223_0_0]), (rxz223_1, [], []), (rxz223_2, [], [rxe223_2_0]), (rxz223_3, [], []), (rxz223_4, [], [rxe223_4_0])]
def rxU223 (q : bx_HE) : Bool := Nat.beq (rx_zpc q.1) 32 || Nat.beq (rx_zpc q.1) 54
def rxYB223 : bx_B := (rxV, rxNP, rxDmf, bx_mdH rxC223.2.2.1)
set_option maxRecDepth 100000 in
theorem rxYc223 : bx_chkH rxYB223 rxM223 rxC223 rxY223 (rxU223, fun cut z => rx_ex2 (rxCT rxYB223 rxCnE) cut 30000 rxC223.2.2.2.1 223 z) = true := by decide +kernel
def rxI223 (S0 : Nat → Int → Int) (ws : List Int) (i : Nat) : bx_SP := fun S r => match i with | 0 => rxI223_0 S0 ws S (r 8) (r 9) (r 10) | 1 => rxI223_1 S0 ws S (r 8) (r 9) (r 10) | 2 => rxI223_2 S0 ws S (r 8) (r 9) (r 10) (r 11) | 3 => rxI223_3 S0 ws S (r 8) (r 9) (r 10) | 4 => rxI223_4 S0 ws S (r 8) (r 9) (r 10) (r 11) | _ => False
def rxm223 (S0 : Nat → Int → Int) (ws : List Int) (i : Nat) (S : Nat → Int → Int) (r : Nat → Int) : Nat := match i with | 0 => rxm223_0 S0 ws S (r 8) (r 9) (r 10) | 1 => rxm223_1 S0 ws S (r 8) (r 9) (r 10) | 2 => rxm223_2 S0 ws S (r 8) (r 9) (r 10) (r 11) | 3 => rxm223_3 S0 ws S (r 8) (r 9) (r 10) | 4 => rxm223_4 S0 ws S (r 8) (r 9) (r 10) (r 11) | _ => 0
def rxP223 (S0 : Nat → Int → Int) (ws : List Int) : Prop := True
def rxPS223 (S0 : Nat → Int → Int) (ws : List Int) (S : Nat → Int → Int) (w : Option Int) : Prop := ∃ bo de me : Int, ws = [0, bo, de, me] ∧ (((bo < 0 ∨ 200 < bo ∨ de ≤ bo ∨ 300 < de ∨ me < 1 ∨ 9 < me) ∧ w = some (-1) ∧ bx_same rxL (bx_mdl rxC110.2.2.1) S0 S) ∨ (0 ≤ bo ∧ bo ≤ 200 ∧ bo < de ∧ de ≤ 300 ∧ 1 ≤ me ∧ me ≤ 9 ∧ 8 ≤ S0 5 0 ∧ w = some (-5) ∧ bx_same rxL (bx_mdl rxC110.2.2.1) S0 S) ∨ (0 ≤ bo ∧ bo ≤ 200 ∧ bo < de ∧ de ≤ 300 ∧ 1 ≤ me ∧ me ≤ 9 ∧ S0 5 0 < 8 ∧ w = some (S0 5 0) ∧ S 5 0 = S0 5 0 + 1 ∧ (∀ i : Int, 0 ≤ i → i < 8 → S 6 i = if i = S0 5 0 then bo else S0 6 i) ∧ (∀ i : Int, 0 ≤ i → i < 8 → S 7 i = if i = S0 5 0 then de else S0 7 i) ∧ (∀ i : Int, 0 ≤ i → i < 8 → S 8 i = if i = S0 5 0 then me else S0 8 i) ∧ S 142 0 = S0 142 0 ∧ S 278 0 = S0 278 0 ∧ (∀ i : Int, 0 ≤ i → i < 8 → S 143 i = S0 143 i) ∧ (∀ i : Int, 0 ≤ i → i < 8 → S 279 i = S0 279 i) ∧ (∀ i : Int, 0 ≤ i → i < 8 → S 144 i = S0 144 i) ∧ (∀ i : Int, 0 ≤ i → i < 8 → S 280 i = S0 280 i) ∧ (∀ i : Int, 0 ≤ i → i < 8 → S 145 i = S0 145 i) ∧ (∀ i : Int, 0 ≤ i → i < 8 → S 281 i = S0 281 i)))
theorem rxk223_1 {S0 : Nat → Int → Int} {ws : List Int} {S : Nat → Int → Int} {bo de me : Int} (hP : rxP223 S0 ws) (hin : bx_same rxL (bx_mdl rxC223.2.2.1) S0 S) (I0 : bx_Inv rxL S) (hinv : rxI223_1 S0 ws S bo de me) (l8 : (-2147483648) ≤ bo) (u8 : bo ≤ 2147483647) (l9 : (-2147483648) ≤ de) (u9 : de ≤ 2147483647) (l10 : (-2147483648) ≤ me) (u10 : me ≤ 2147483647) : rxP110 S [0, (-1)] ∧ ∀ (S' : Nat → Int → Int) (res : Int), (-6) ≤ res → res ≤ (-1) → rxPS110 S [0, (-1)] S' (some res) → bx_Inv rxL S' → bx_same rxL (bx_mdl rxC110.2.2.1) S S' → rxI223_2 S0 ws S' bo de me res ∧ rxm223_2 S0 ws S' bo de me res < rxm223_1 S0 ws S bo de me := by
  obtain ⟨rfl, h1, hw⟩ := hinv
  refine ⟨trivial, fun S' res _ _ hq _ hsm => ⟨⟨?_, h1, hw, hsm⟩, by unfold rxm223_1 rxm223_2; omega⟩⟩
  obtain ⟨c, hc, hr⟩ := hq
  simp only [List.cons.injEq, and_true, true_and] at hc
  simp only [Option.some.injEq] at hr
  omega
theorem rxs223_1 {X : (Nat → Int → Int) → Prop} {S0 : Nat → Int → Int} {ws : List Int} (hP : rxP223 S0 ws) : rx_obK X S0 rxC223.2.2.1 rxC110.2.2.1 (rxI223 S0 ws) (rxm223 S0 ws) 1 2 rxz223_1 rxz223_2 [.inr (3, (0, 0)), .inr (0, (0, (-1)))] (some 11) rxP110 rxPS110 := by
  intro S r hinv hXS I0 hin hs_ hf_
  have b_ := bx_bds_sat hs_
  have f_ := bx_fcl_ok hs_.1 hf_
  obtain ⟨⟨l8, u8⟩, ⟨l9, u9⟩, ⟨l10, u10⟩, -⟩ := b_
  have g := rxk223_1 hP hin I0 hinv l8 u8 l9 u9 l10 u10
  have ea : List.map (bx_num r) [.inr (3, (0, 0)), .inr (0, (0, (-1)))] = [0, -1] := by
    simp only [List.map_cons, List.map_nil, bx_xv_ok hs_.1]
    rfl
  rw [ea]
  refine ⟨g.1, fun S' w r' hPS hX' I1 hsm hr hw hs' => ?_⟩
  have hw := hw _ rfl
  subst hw
  have b' := hs'.2.2 11 _ _ rfl
  have g2 := g.2 S' (r' 11) b'.1 b'.2 hPS I1 hsm
  show rxI223_2 S0 ws S' (r' 8) (r' 9) (r' 10) (r' 11) ∧ rxm223_2 S0 ws S' (r' 8) (r' 9) (r' 10) (r' 11) < _
  rw [hr 8 (by decide), hr 9 (by decide), hr 10 (by decide)]
  exact g2
theorem rxk223_3 {S0 : Nat → Int → Int} {ws : List Int} {S : Nat → Int → Int} {bo de me : Int} (hP : rxP223 S0 ws) (hin : bx_same rxL (bx_mdl rxC223.2.2.1) S0 S) (I0 : bx_Inv rxL S) (hinv : rxI223_3 S0 ws S bo de me) (l8 : 0 ≤ bo) (u8 : bo ≤ 200) (l9 : (-2147483648) ≤ de) (u9 : de ≤ 300) (l10 : (-2147483648) ≤ me) (u10 : me ≤ 2147483647) : rxP110 S [0, (-5)] ∧ ∀ (S' : Nat → Int → Int) (res : Int), (-6) ≤ res → res ≤ (-1) → rxPS110 S [0, (-5)] S' (some res) → bx_Inv rxL S' → bx_same rxL (bx_mdl rxC110.2.2.1) S S' → rxI223_4 S0 ws S' bo de me res ∧ rxm223_4 S0 ws S' bo de me res < rxm223_3 S0 ws S bo de me := by
  obtain ⟨rfl, h1, hw⟩ := hinv
  refine ⟨trivial, fun S' res _ _ hq _ hsm => ⟨⟨?_, h1, hw, hsm⟩, by unfold rxm223_3 rxm223_4; omega⟩⟩
  obtain ⟨c, hc, hr⟩ := hq
  simp only [List.cons.injEq, and_true, true_and] at hc
  simp only [Option.some.injEq] at hr
  omega
theorem rxs223_3 {X : (Nat → Int → Int) → Prop} {S0 : Nat → Int → Int} {ws : List Int} (hP : rxP223 S0 ws) : rx_obK X S0 rxC223.2.2.1 rxC110.2.2.1 (rxI223 S0 ws) (rxm223 S0 ws) 3 4 rxz223_3 rxz223_4 [.inr (3, (0, 0)), .inr (0, (0, (-5)))] (some 11) rxP110 rxPS110 := by
  intro S r hinv hXS I0 hin hs_ hf_
  have b_ := bx_bds_sat hs_
  have f_ := bx_fcl_ok hs_.1 hf_
  obtain ⟨⟨l8, u8⟩, ⟨l9, u9⟩, ⟨l10, u10⟩, -⟩ := b_
  have g := rxk223_3 hP hin I0 hinv l8 u8 l9 u9 l10 u10
  have ea : List.map (bx_num r) [.inr (3, (0, 0)), .inr (0, (0, (-5)))] = [0, -5] := by
    simp only [List.map_cons, List.map_nil, bx_xv_ok hs_.1]
    rfl
  rw [ea]
  refine ⟨g.1, fun S' w r' hPS hX' I1 hsm hr hw hs' => ?_⟩
  have hw := hw _ rfl
  subst hw
  have b' := hs'.2.2 11 _ _ rfl
  have g2 := g.2 S' (r' 11) b'.1 b'.2 hPS I1 hsm
  show rxI223_4 S0 ws S' (r' 8) (r' 9) (r' 10) (r' 11) ∧ rxm223_4 S0 ws S' (r' 8) (r' 9) (r' 10) (r' 11) < _
  rw [hr 8 (by decide), hr 9 (by decide), hr 10 (by decide)]
  exact g2
theorem rxc223_0_0 {S0 : Nat → Int → Int} {ws : List Int} {S : Nat → Int → Int} {bo de me : Int} (hP : rxP223 S0 ws) (hin : bx_same rxL (bx_mdl rxC223.2.2.1) S0 S) (I0 : bx_Inv rxL S) (hinv : rxI223_0 S0 ws S bo de me) (l8 : 0 ≤ bo) (u8 : bo ≤ 200) (l9 : 1 ≤ de) (u9 : de ≤ 300) (l10 : (-2147483648) ≤ me) (u10 : me ≤ 0) (f0 : bo < de) : (True) ∧ (True) ∧ rxI223_1 S0 ws S bo de me ∧ rxm223_1 S0 ws S bo de me < rxm223_0 S0 ws S bo de me := by
  obtain ⟨rfl, hw⟩ := hinv
  exact ⟨trivial, trivial, ⟨rfl, by omega, hw⟩, by unfold rxm223_0 rxm223_1; omega⟩
theorem rxg223_0_0 {X : (Nat → Int → Int) → Prop} {S0 : Nat → Int → Int} {ws : List Int} (hP : rxP223 S0 ws) : bx_obC rxL X S0 rxC223.2.2.1 (rxI223 S0 ws) (rxm223 S0 ws) 0 rxz223_0 rxo223_0_0 := by
  intro S S' r r' hinv hX hin hsm_ hseg
  obtain ⟨I0, I1, h0_, hr_, b_, f_, d_⟩ := bx_cl (evs := []) (fvs := [(0, (8, 0), (9, 0), (0, 0))]) hseg (by decide +kernel) (by decide +kernel)
  have hinv : rxI223_0 S0 ws S (r 8) (r 9) (r 10) := hinv
  rw [← hr_ 8 (by decide), ← hr_ 9 (by decide), ← hr_ 10 (by decide)] at hinv
  obtain ⟨⟨l8, u8⟩, ⟨l9, u9⟩, ⟨l10, u10⟩, -⟩ := b_
  obtain ⟨f0, -⟩ := f_
  have w_ := d_
  subst w_
  have g := rxc223_0_0 hP hin I0 hinv l8 u8 l9 u9 l10 u10 f0
  refine ⟨bx_narP_ok (l := []) g.1, bx_nfP_ok h0_ (fvs := []) (by decide +kernel) g.2.1, ?_, ?_⟩
  · show rxI223_1 S0 ws S' (bx_val [(0, 0), (0, 0), (0, 0), (0, 0), (0, 0), (0, 0), (0, 0), (0, 0), (8, 0), (9, 0), (10, 0)] r' 8) (bx_val [(0, 0), (0, 0), (0, 0), (0, 0), (0, 0), (0, 0), (0, 0), (0, 0), (8, 0), (9, 0), (10, 0)] r' 9) (bx_val [(0, 0), (0, 0), (0, 0), (0, 0), (0, 0), (0, 0), (0, 0), (0, 0), (8, 0), (9, 0), (10, 0)] r' 10)
    rw [bx_val_x (n := 8) (e := (8, 0)) h0_ rfl, bx_val_x (n := 9) (e := (9, 0)) h0_ rfl, bx_val_x (n := 10) (e := (10, 0)) h0_ rfl]
    exact g.2.2.1
  · show rxm223_1 S0 ws S' (bx_val [(0, 0), (0, 0), (0, 0), (0, 0), (0, 0), (0, 0), (0, 0), (0, 0), (8, 0), (9, 0), (10, 0)] r' 8) (bx_val [(0, 0), (0, 0), (0, 0), (0, 0), (0, 0), (0, 0), (0, 0), (0, 0), (8, 0), (9, 0), (10, 0)] r' 9) (bx_val [(0, 0), (0, 0), (0, 0), (0, 0), (0, 0), (0, 0), (0, 0), (0, 0), (8, 0), (9, 0), (10, 0)] r' 10) < rxm223_0 S0 ws S' (r 8) (r 9) (r 10)
    rw [bx_val_x (n := 8) (e := (8, 0)) h0_ rfl, bx_val_x (n := 9) (e := (9, 0)) h0_ rfl, bx_val_x (n := 10) (e := (10, 0)) h0_ rfl, ← hr_ 8 (by decide), ← hr_ 9 (by decide), ← hr_ 10 (by decide)]
    exact g.2.2.2
theorem rxc223_0_1 {S0 : Nat → Int → Int} {ws : List Int} {S : Nat → Int → Int} {bo de me : Int} (hP : rxP223 S0 ws) (hin : bx_same rxL (bx_mdl rxC223.2.2.1) S0 S) (I0 : bx_Inv rxL S) (hinv : rxI223_0 S0 ws S bo de me) (l8 : 0 ≤ bo) (u8 : bo ≤ 200) (l9 : 1 ≤ de) (u9 : de ≤ 300) (l10 : 10 ≤ me) (u10 : me ≤ 2147483647) (f0 : bo < de) : (True) ∧ (True) ∧ rxI223_1 S0 ws S bo de me ∧ rxm223_1 S0 ws S bo de me < rxm223_0 S0 ws S bo de me := by
  obtain ⟨rfl, hw⟩ := hinv
  exact ⟨trivial, trivial, ⟨rfl, by omega, hw⟩, by unfold rxm223_0 rxm223_1; omega⟩
theorem rxg223_0_1 {X : (Nat → Int → Int) → Prop} {S0 : Nat → Int → Int} {ws : List Int} (hP : rxP223 S0 ws) : bx_obC rxL X S0 rxC223.2.2.1 (rxI223 S0 ws) (rxm223 S0 ws) 0 rxz223_0 rxo223_0_1 := by
  intro S S' r r' hinv hX hin hsm_ hseg
  obtain ⟨I0, I1, h0_, hr_, b_, f_, d_⟩ := bx_cl (evs := []) (fvs := [(0, (8, 0), (9, 0), (0, 0))]) hseg (by decide +kernel) (by decide +kernel)
  have hinv : rxI223_0 S0 ws S (r 8) (r 9) (r 10) := hinv
  rw [← hr_ 8 (by decide), ← hr_ 9 (by decide), ← hr_ 10 (by decide)] at hinv
  obtain ⟨⟨l8, u8⟩, ⟨l9, u9⟩, ⟨l10, u10⟩, -⟩ := b_
  obtain ⟨f0, -⟩ := f_
  have w_ := d_
  subst w_
  have g := rxc223_0_1 hP hin I0 hinv l8 u8 l9 u9 l10 u10 f0
  refine ⟨bx_narP_ok (l := []) g.1, bx_nfP_ok h0_ (fvs := []) (by decide +kernel) g.2.1, ?_, ?_⟩
  · show rxI223_1 S0 ws S' (bx_val [(0, 0), (0, 0), (0, 0), (0, 0), (0, 0), (0, 0), (0, 0), (0, 0), (8, 0), (9, 0), (10, 0)] r' 8) (bx_val [(0, 0), (0, 0), (0, 0), (0, 0), (0, 0), (0, 0), (0, 0), (0, 0), (8, 0), (9, 0), (10, 0)] r' 9) (bx_val [(0, 0), (0, 0), (0, 0), (0, 0), (0, 0), (0, 0), (0, 0), (0, 0), (8, 0), (9, 0), (10, 0)] r' 10)
    rw [bx_val_x (n := 8) (e := (8, 0)) h0_ rfl, bx_val_x (n := 9) (e := (9, 0)) h0_ rfl, bx_val_x (n := 10) (e := (10, 0)) h0_ rfl]
    exact g.2.2.1
  · show rxm223_1 S0 ws S' (bx_val [(0, 0), (0, 0), (0, 0), (0, 0), (0, 0), (0, 0), (0, 0), (0, 0), (8, 0), (9, 0), (10, 0)] r' 8) (bx_val [(0, 0), (0, 0), (0, 0), (0, 0), (0, 0), (0, 0), (0, 0), (0, 0), (8, 0), (9, 0), (10, 0)] r' 9) (bx_val [(0, 0), (0, 0), (0, 0), (0, 0), (0, 0), (0, 0), (0, 0), (0, 0), (8, 0), (9, 0), (10, 0)] r' 10) < rxm223_0 S0 ws S' (r 8) (r 9) (r 10)
    rw [bx_val_x (n := 8) (e := (8, 0)) h0_ rfl, bx_val_x (n := 9) (e := (9, 0)) h0_ rfl, bx_val_x (n := 10) (e := (10, 0)) h0_ rfl, ← hr_ 8 (by decide), ← hr_ 9 (by decide), ← hr_ 10 (by decide)]
    exact g.2.2.2
theorem rxc223_0_2 {S0 : Nat → Int → Int} {ws : List Int} {S : Nat → Int → Int} {bo de me x11 : Int} (hP : rxP223 S0 ws) (hin : bx_same rxL (bx_mdl rxC223.2.2.1) S0 S) (I0 : bx_Inv rxL S) (hinv : rxI223_0 S0 ws S bo de me) (l8 : 0 ≤ bo) (u8 : bo ≤ 200) (l9 : 1 ≤ de) (u9 : de ≤ 300) (l10 : 1 ≤ me) (u10 : me ≤ 9) (l11 : 8 ≤ x11) (u11 : x11 ≤ 8) (f0 : bo < de) (e0 : S 5 0 = x11) : (True) ∧ (True) ∧ rxI223_3 S0 ws S bo de me ∧ rxm223_3 S0 ws S bo de me < rxm223_0 S0 ws S bo de me := by
  obtain ⟨rfl, hw⟩ := hinv
  exact ⟨trivial, trivial, ⟨rfl, by omega, hw⟩, by unfold rxm223_0 rxm223_3; omega⟩
theorem rxg223_0_2 {X : (Nat → Int → Int) → Prop} {S0 : Nat → Int → Int} {ws : List Int} (hP : rxP223 S0 ws) : bx_obC rxL X S0 rxC223.2.2.1 (rxI223 S0 ws) (rxm223 S0 ws) 0 rxz223_0 rxo223_0_2 := by
  intro S S' r r' hinv hX hin hsm_ hseg
  obtain ⟨I0, I1, h0_, hr_, b_, f_, d_⟩ := bx_cl (evs := [(0, (0, 5), (0, 0), .inr (0, (11, 0)))]) (fvs := [(0, (8, 0), (9, 0), (0, 0))]) hseg (by decide +kernel) (by decide +kernel)
  have hinv : rxI223_0 S0 ws S (r 8) (r 9) (r 10) := hinv
  rw [← hr_ 8 (by decide), ← hr_ 9 (by decide), ← hr_ 10 (by decide)] at hinv
  obtain ⟨⟨l8, u8⟩, ⟨l9, u9⟩, ⟨l10, u10⟩, ⟨l11, u11⟩, -⟩ := b_
  obtain ⟨f0, -⟩ := f_
  obtain ⟨e0, w_⟩ := d_
  subst w_
  have g := rxc223_0_2 hP hin I0 hinv l8 u8 l9 u9 l10 u10 l11 u11 f0 e0
  refine ⟨bx_narP_ok (l := []) g.1, bx_nfP_ok h0_ (fvs := []) (by decide +kernel) g.2.1, ?_, ?_⟩
  · show rxI223_3 S0 ws S' (bx_val [(0, 0), (0, 0), (0, 0), (0, 0), (0, 0), (0, 0), (0, 0), (0, 0), (8, 0), (9, 0), (10, 0)] r' 8) (bx_val [(0, 0), (0, 0), (0, 0), (0, 0), (0, 0), (0, 0), (0, 0), (0, 0), (8, 0), (9, 0), (10, 0)] r' 9) (bx_val [(0, 0), (0, 0), (0, 0), (0, 0), (0, 0), (0, 0), (0, 0), (0, 0), (8, 0), (9, 0), (10, 0)] r' 10)
    rw [bx_val_x (n := 8) (e := (8, 0)) h0_ rfl, bx_val_x (n := 9) (e := (9, 0)) h0_ rfl, bx_val_x (n := 10) (e := (10, 0)) h0_ rfl]
    exact g.2.2.1
  · show rxm223_3 S0 ws S' (bx_val [(0, 0), (0, 0), (0, 0), (0, 0), (0, 0), (0, 0), (0, 0), (0, 0), (8, 0), (9, 0), (10, 0)] r' 8) (bx_val [(0, 0), (0, 0), (0, 0), (0, 0), (0, 0), (0, 0), (0, 0), (0, 0), (8, 0), (9, 0), (10, 0)] r' 9) (bx_val [(0, 0), (0, 0), (0, 0), (0, 0), (0, 0), (0, 0), (0, 0), (0, 0), (8, 0), (9, 0), (10, 0)] r' 10) < rxm223_0 S0 ws S' (r 8) (r 9) (r 10)
    rw [bx_val_x (n := 8) (e := (8, 0)) h0_ rfl, bx_val_x (n := 9) (e := (9, 0)) h0_ rfl, bx_val_x (n := 10) (e := (10, 0)) h0_ rfl, ← hr_ 8 (by decide), ← hr_ 9 (by decide), ← hr_ 10 (by decide)]
    exact g.2.2.2
theorem rxc223_0_3 {S0 : Nat → Int → Int} {ws : List Int} {S : Nat → Int → Int} {bo de me : Int} (hP : rxP223 S0 ws) (hin : bx_same rxL (bx_mdl rxC223.2.2.1) S0 S) (I0 : bx_Inv rxL S) (hinv : rxI223_0 S0 ws S bo de me) (l8 : 0 ≤ bo) (u8 : bo ≤ 200) (l9 : 301 ≤ de) (u9 : de ≤ 2147483647) (l10 : (-2147483648) ≤ me) (u10 : me ≤ 2147483647) (f0 : bo < de) : (True) ∧ (True) ∧ rxI223_1 S0 ws S bo de me ∧ rxm223_1 S0 ws S bo de me < rxm223_0 S0 ws S bo de me := by
  obtain ⟨rfl, hw⟩ := hinv
  exact ⟨trivial, trivial, ⟨rfl, by omega, hw⟩, by unfold rxm223_0 rxm223_1; omega⟩
theorem rxg223_0_3 {X : (Nat → Int → Int) → Prop} {S0 : Nat → Int → Int} {ws : List Int} (hP : rxP223 S0 ws) : bx_obC rxL X S0 rxC223.2.2.1 (rxI223 S0 ws) (rxm223 S0 ws) 0 rxz223_0 rxo223_0_3 := by
  intro S S' r r' hinv hX hin hsm_ hseg
  obtain ⟨I0, I1, h0_, hr_, b_, f_, d_⟩ := bx_cl (evs := []) (fvs := [(0, (8, 0), (9, 0), (0, 0))]) hseg (by decide +kernel) (by decide +kernel)
  have hinv : rxI223_0 S0 ws S (r 8) (r 9) (r 10) := hinv
  rw [← hr_ 8 (by decide), ← hr_ 9 (by decide), ← hr_ 10 (by decide)] at hinv
  obtain ⟨⟨l8, u8⟩, ⟨l9, u9⟩, ⟨l10, u10⟩, -⟩ := b_
  obtain ⟨f0, -⟩ := f_
  have w_ := d_
  subst w_
  have g := rxc223_0_3 hP hin I0 hinv l8 u8 l9 u9 l10 u10 f0
  refine ⟨bx_narP_ok (l := []) g.1, bx_nfP_ok h0_ (fvs := []) (by decide +kernel) g.2.1, ?_, ?_⟩
  · show rxI223_1 S0 ws S' (bx_val [(0, 0), (0, 0), (0, 0), (0, 0), (0, 0), (0, 0), (0, 0), (0, 0), (8, 0), (9, 0), (10, 0)] r' 8) (bx_val [(0, 0), (0, 0), (0, 0), (0, 0), (0, 0), (0, 0), (0, 0), (0, 0), (8, 0), (9, 0), (10, 0)] r' 9) (bx_val [(0, 0), (0, 0), (0, 0), (0, 0), (0, 0), (0, 0), (0, 0), (0, 0), (8, 0), (9, 0), (10, 0)] r' 10)
    rw [bx_val_x (n := 8) (e := (8, 0)) h0_ rfl, bx_val_x (n := 9) (e := (9, 0)) h0_ rfl, bx_val_x (n := 10) (e := (10, 0)) h0_ rfl]
    exact g.2.2.1
  · show rxm223_1 S0 ws S' (bx_val [(0, 0), (0, 0), (0, 0), (0, 0), (0, 0), (0, 0), (0, 0), (0, 0), (8, 0), (9, 0), (10, 0)] r' 8) (bx_val [(0, 0), (0, 0), (0, 0), (0, 0), (0, 0), (0, 0), (0, 0), (0, 0), (8, 0), (9, 0), (10, 0)] r' 9) (bx_val [(0, 0), (0, 0), (0, 0), (0, 0), (0, 0), (0, 0), (0, 0), (0, 0), (8, 0), (9, 0), (10, 0)] r' 10) < rxm223_0 S0 ws S' (r 8) (r 9) (r 10)
    rw [bx_val_x (n := 8) (e := (8, 0)) h0_ rfl, bx_val_x (n := 9) (e := (9, 0)) h0_ rfl, bx_val_x (n := 10) (e := (10, 0)) h0_ rfl, ← hr_ 8 (by decide), ← hr_ 9 (by decide), ← hr_ 10 (by decide)]
    exact g.2.2.2
theorem rxc223_0_4 {S0 : Nat → Int → Int} {ws : List Int} {S : Nat → Int → Int} {bo de me : Int} (hP : rxP223 S0 ws) (hin : bx_same rxL (bx_mdl rxC223.2.2.1) S0 S) (I0 : bx_Inv rxL S) (hinv : rxI223_0 S0 ws S bo de me) (l8 : 0 ≤ bo) (u8 : bo ≤ 200) (l9 : (-2147483648) ≤ de) (u9 : de ≤ 200) (l10 : (-2147483648) ≤ me) (u10 : me ≤ 2147483647) (f0 : de ≤ bo) : (True) ∧ (True) ∧ rxI223_1 S0 ws S bo de me ∧ rxm223_1 S0 ws S bo de me < rxm223_0 S0 ws S bo de me := by
  obtain ⟨rfl, hw⟩ := hinv
  exact ⟨trivial, trivial, ⟨rfl, by omega, hw⟩, by unfold rxm223_0 rxm223_1; omega⟩
theorem rxg223_0_4 {X : (Nat → Int → Int) → Prop} {S0 : Nat → Int → Int} {ws : List Int} (hP : rxP223 S0 ws) : bx_obC rxL X S0 rxC223.2.2.1 (rxI223 S0 ws) (rxm223 S0 ws) 0 rxz223_0 rxo223_0_4 := by
  intro S S' r r' hinv hX hin hsm_ hseg
  obtain ⟨I0, I1, h0_, hr_, b_, f_, d_⟩ := bx_cl (evs := []) (fvs := [(1, (9, 0), (8, 0), (0, 0))]) hseg (by decide +kernel) (by decide +kernel)
  have hinv : rxI223_0 S0 ws S (r 8) (r 9) (r 10) := hinv
  rw [← hr_ 8 (by decide), ← hr_ 9 (by decide), ← hr_ 10 (by decide)] at hinv
  obtain ⟨⟨l8, u8⟩, ⟨l9, u9⟩, ⟨l10, u10⟩, -⟩ := b_
  obtain ⟨f0, -⟩ := f_
  have w_ := d_
  subst w_
  have g := rxc223_0_4 hP hin I0 hinv l8 u8 l9 u9 l10 u10 f0
  refine ⟨bx_narP_ok (l := []) g.1, bx_nfP_ok h0_ (fvs := []) (by decide +kernel) g.2.1, ?_, ?_⟩
  · show rxI223_1 S0 ws S' (bx_val [(0, 0), (0, 0), (0, 0), (0, 0), (0, 0), (0, 0), (0, 0), (0, 0), (8, 0), (9, 0), (10, 0)] r' 8) (bx_val [(0, 0), (0, 0), (0, 0), (0, 0), (0, 0), (0, 0), (0, 0), (0, 0), (8, 0), (9, 0), (10, 0)] r' 9) (bx_val [(0, 0), (0, 0), (0, 0), (0, 0), (0, 0), (0, 0), (0, 0), (0, 0), (8, 0), (9, 0), (10, 0)] r' 10)
    rw [bx_val_x (n := 8) (e := (8, 0)) h0_ rfl, bx_val_x (n := 9) (e := (9, 0)) h0_ rfl, bx_val_x (n := 10) (e := (10, 0)) h0_ rfl]
    exact g.2.2.1
  · show rxm223_1 S0 ws S' (bx_val [(0, 0), (0, 0), (0, 0), (0, 0), (0, 0), (0, 0), (0, 0), (0, 0), (8, 0), (9, 0), (10, 0)] r' 8) (bx_val [(0, 0), (0, 0), (0, 0), (0, 0), (0, 0), (0, 0), (0, 0), (0, 0), (8, 0), (9, 0), (10, 0)] r' 9) (bx_val [(0, 0), (0, 0), (0, 0), (0, 0), (0, 0), (0, 0), (0, 0), (0, 0), (8, 0), (9, 0), (10, 0)] r' 10) < rxm223_0 S0 ws S' (r 8) (r 9) (r 10)
    rw [bx_val_x (n := 8) (e := (8, 0)) h0_ rfl, bx_val_x (n := 9) (e := (9, 0)) h0_ rfl, bx_val_x (n := 10) (e := (10, 0)) h0_ rfl, ← hr_ 8 (by decide), ← hr_ 9 (by decide), ← hr_ 10 (by decide)]
    exact g.2.2.2
theorem rxc223_0_5 {S0 : Nat → Int → Int} {ws : List Int} {S : Nat → Int → Int} {bo de me : Int} (hP : rxP223 S0 ws) (hin : bx_same rxL (bx_mdl rxC223.2.2.1) S0 S) (I0 : bx_Inv rxL S) (hinv : rxI223_0 S0 ws S bo de me) (l8 : 201 ≤ bo) (u8 : bo ≤ 2147483647) (l9 : (-2147483648) ≤ de) (u9 : de ≤ 2147483647) (l10 : (-2147483648) ≤ me) (u10 : me ≤ 2147483647) : (True) ∧ (True) ∧ rxI223_1 S0 ws S bo de me ∧ rxm223_1 S0 ws S bo de me < rxm223_0 S0 ws S bo de me := by
  obtain ⟨rfl, hw⟩ := hinv
  exact ⟨trivial, trivial, ⟨rfl, by omega, hw⟩, by unfold rxm223_0 rxm223_1; omega⟩
theorem rxg223_0_5 {X : (Nat → Int → Int) → Prop} {S0 : Nat → Int → Int} {ws : List Int} (hP : rxP223 S0 ws) : bx_obC rxL X S0 rxC223.2.2.1 (rxI223 S0 ws) (rxm223 S0 ws) 0 rxz223_0 rxo223_0_5 := by
  intro S S' r r' hinv hX hin hsm_ hseg
  obtain ⟨I0, I1, h0_, hr_, b_, f_, d_⟩ := bx_cl (evs := []) (fvs := []) hseg (by decide +kernel) (by decide +kernel)
  have hinv : rxI223_0 S0 ws S (r 8) (r 9) (r 10) := hinv
  rw [← hr_ 8 (by decide), ← hr_ 9 (by decide), ← hr_ 10 (by decide)] at hinv
  obtain ⟨⟨l8, u8⟩, ⟨l9, u9⟩, ⟨l10, u10⟩, -⟩ := b_
  have w_ := d_
  subst w_
  have g := rxc223_0_5 hP hin I0 hinv l8 u8 l9 u9 l10 u10
  refine ⟨bx_narP_ok (l := []) g.1, bx_nfP_ok h0_ (fvs := []) (by decide +kernel) g.2.1, ?_, ?_⟩
  · show rxI223_1 S0 ws S' (bx_val [(0, 0), (0, 0), (0, 0), (0, 0), (0, 0), (0, 0), (0, 0), (0, 0), (8, 0), (9, 0), (10, 0)] r' 8) (bx_val [(0, 0), (0, 0), (0, 0), (0, 0), (0, 0), (0, 0), (0, 0), (0, 0), (8, 0), (9, 0), (10, 0)] r' 9) (bx_val [(0, 0), (0, 0), (0, 0), (0, 0), (0, 0), (0, 0), (0, 0), (0, 0), (8, 0), (9, 0), (10, 0)] r' 10)
    rw [bx_val_x (n := 8) (e := (8, 0)) h0_ rfl, bx_val_x (n := 9) (e := (9, 0)) h0_ rfl, bx_val_x (n := 10) (e := (10, 0)) h0_ rfl]
    exact g.2.2.1
  · show rxm223_1 S0 ws S' (bx_val [(0, 0), (0, 0), (0, 0), (0, 0), (0, 0), (0, 0), (0, 0), (0, 0), (8, 0), (9, 0), (10, 0)] r' 8) (bx_val [(0, 0), (0, 0), (0, 0), (0, 0), (0, 0), (0, 0), (0, 0), (0, 0), (8, 0), (9, 0), (10, 0)] r' 9) (bx_val [(0, 0), (0, 0), (0, 0), (0, 0), (0, 0), (0, 0), (0, 0), (0, 0), (8, 0), (9, 0), (10, 0)] r' 10) < rxm223_0 S0 ws S' (r 8) (r 9) (r 10)
    rw [bx_val_x (n := 8) (e := (8, 0)) h0_ rfl, bx_val_x (n := 9) (e := (9, 0)) h0_ rfl, bx_val_x (n := 10) (e := (10, 0)) h0_ rfl, ← hr_ 8 (by decide), ← hr_ 9 (by decide), ← hr_ 10 (by decide)]
    exact g.2.2.2
theorem rxc223_0_6 {S0 : Nat → Int → Int} {ws : List Int} {S : Nat → Int → Int} {bo de me : Int} (hP : rxP223 S0 ws) (hin : bx_same rxL (bx_mdl rxC223.2.2.1) S0 S) (I0 : bx_Inv rxL S) (hinv : rxI223_0 S0 ws S bo de me) (l8 : (-2147483648) ≤ bo) (u8 : bo ≤ (-1)) (l9 : (-2147483648) ≤ de) (u9 : de ≤ 2147483647) (l10 : (-2147483648) ≤ me) (u10 : me ≤ 2147483647) : (True) ∧ (True) ∧ rxI223_1 S0 ws S bo de me ∧ rxm223_1 S0 ws S bo de me < rxm223_0 S0 ws S bo de me := by
  obtain ⟨rfl, hw⟩ := hinv
  exact ⟨trivial, trivial, ⟨rfl, by omega, hw⟩, by unfold rxm223_0 rxm223_1; omega⟩
theorem rxg223_0_6 {X : (Nat → Int → Int) → Prop} {S0 : Nat → Int → Int} {ws : List Int} (hP : rxP223 S0 ws) : bx_obC rxL X S0 rxC223.2.2.1 (rxI223 S0 ws) (rxm223 S0 ws) 0 rxz223_0 rxo223_0_6 := by
  intro S S' r r' hinv hX hin hsm_ hseg
  obtain ⟨I0, I1, h0_, hr_, b_, f_, d_⟩ := bx_cl (evs := []) (fvs := []) hseg (by decide +kernel) (by decide +kernel)
  have hinv : rxI223_0 S0 ws S (r 8) (r 9) (r 10) := hinv
  rw [← hr_ 8 (by decide), ← hr_ 9 (by decide), ← hr_ 10 (by decide)] at hinv
  obtain ⟨⟨l8, u8⟩, ⟨l9, u9⟩, ⟨l10, u10⟩, -⟩ := b_
  have w_ := d_
  subst w_
  have g := rxc223_0_6 hP hin I0 hinv l8 u8 l9 u9 l10 u10
  refine ⟨bx_narP_ok (l := []) g.1, bx_nfP_ok h0_ (fvs := []) (by decide +kernel) g.2.1, ?_, ?_⟩
  · show rxI223_1 S0 ws S' (bx_val [(0, 0), (0, 0), (0, 0), (0, 0), (0, 0), (0, 0), (0, 0), (0, 0), (8, 0), (9, 0), (10, 0)] r' 8) (bx_val [(0, 0), (0, 0), (0, 0), (0, 0), (0, 0), (0, 0), (0, 0), (0, 0), (8, 0), (9, 0), (10, 0)] r' 9) (bx_val [(0, 0), (0, 0), (0, 0), (0, 0), (0, 0), (0, 0), (0, 0), (0, 0), (8, 0), (9, 0), (10, 0)] r' 10)
    rw [bx_val_x (n := 8) (e := (8, 0)) h0_ rfl, bx_val_x (n := 9) (e := (9, 0)) h0_ rfl, bx_val_x (n := 10) (e := (10, 0)) h0_ rfl]
    exact g.2.2.1
  · show rxm223_1 S0 ws S' (bx_val [(0, 0), (0, 0), (0, 0), (0, 0), (0, 0), (0, 0), (0, 0), (0, 0), (8, 0), (9, 0), (10, 0)] r' 8) (bx_val [(0, 0), (0, 0), (0, 0), (0, 0), (0, 0), (0, 0), (0, 0), (0, 0), (8, 0), (9, 0), (10, 0)] r' 9) (bx_val [(0, 0), (0, 0), (0, 0), (0, 0), (0, 0), (0, 0), (0, 0), (0, 0), (8, 0), (9, 0), (10, 0)] r' 10) < rxm223_0 S0 ws S' (r 8) (r 9) (r 10)
    rw [bx_val_x (n := 8) (e := (8, 0)) h0_ rfl, bx_val_x (n := 9) (e := (9, 0)) h0_ rfl, bx_val_x (n := 10) (e := (10, 0)) h0_ rfl, ← hr_ 8 (by decide), ← hr_ 9 (by decide), ← hr_ 10 (by decide)]
    exact g.2.2.2
theorem rxd223_0_0 {S0 : Nat → Int → Int} {ws : List Int} {S : Nat → Int → Int} {bo de me x11 : Int} (hP : rxP223 S0 ws) (hin : bx_same rxL (bx_mdl rxC223.2.2.1) S0 S) (hin2 : bx_same rxL (bx_mdl rxC223.2.2.1) S (bx_up (bx_up (bx_up (bx_up (bx_up S 6 x11 bo) 7 x11 de) 8 x11 me) 5 0 (x11 + 1)) 0 8 0)) (I0 : bx_Inv rxL S) (I1 : bx_Inv rxL (bx_up (bx_up (bx_up (bx_up (bx_up S 6 x11 bo) 7 x11 de) 8 x11 me) 5 0 (x11 + 1)) 0 8 0)) (hinv : rxI223_0 S0 ws S bo de me) (l8 : 0 ≤ bo) (u8 : bo ≤ 200) (l9 : 1 ≤ de) (u9 : de ≤ 300) (l10 : 1 ≤ me) (u10 : me ≤ 9) (l11 : 0 ≤ x11) (u11 : x11 ≤ 7) (f0 : bo < de) (e5 : S 5 0 = x11) : (True) ∧ rxPS223 S0 ws (bx_up (bx_up (bx_up (bx_up (bx_up S 6 x11 bo) 7 x11 de) 8 x11 me) 5 0 (x11 + 1)) 0 8 0) (some x11) := by
  obtain ⟨rfl, hw⟩ := hinv
  refine ⟨trivial, bo, de, me, hw, Or.inr (Or.inr (⟨?_, ?_, ?_, ?_, ?_, ?_, ?_, ?_, ((bx_up_ne (by omega)).trans (bx_up_at)).trans (by omega), ?_, ?_, ?_, (bx_up_ne (by omega)).trans ((bx_up_ne (by omega)).trans ((bx_up_ne (by omega)).trans ((bx_up_ne (by omega)).trans ((bx_up_ne (by omega)))))), (bx_up_ne (by omega)).trans ((bx_up_ne (by omega)).trans ((bx_up_ne (by omega)).trans ((bx_up_ne (by omega)).trans ((bx_up_ne (by omega)))))), ?_, ?_, ?_, ?_, ?_, ?_⟩))⟩ <;> first | omega | exact hin2 | exact congrArg some (by omega) | (intro i i0 i1; simp only [bx_up]; (repeat' split) <;> first | rfl | omega | (simp_all; done) | (simp_all; omega)) | ((repeat (first | rw [bx_up_at] | rw [bx_up_ne (by omega)])); omega) | exact True.intro
theorem rxf223_0_0 {X : (Nat → Int → Int) → Prop} {S0 : Nat → Int → Int} {ws : List Int} (hP : rxP223 S0 ws) : bx_obE rxL X S0 rxC223.2.2.1 (rxI223 S0 ws) (rxPS223 S0 ws) 0 rxz223_0 rxe223_0_0 := by
  intro S S' r r' hinv hX hin hsm_ hseg
  obtain ⟨I0, I1, h0_, hr_, b_, f_, d_⟩ := bx_cl (evs := [(1, (0, 0), (0, 8), .inr (0, (0, 0))), (1, (0, 5), (0, 0), .inr (0, (11, 1))), (1, (0, 8), (11, 0), .inr (0, (10, 0))), (1, (0, 7), (11, 0), .inr (0, (9, 0))), (1, (0, 6), (11, 0), .inr (0, (8, 0))), (0, (0, 5), (0, 0), .inr (0, (11, 0)))]) (fvs := [(0, (8, 0), (9, 0), (0, 0))]) hseg (by decide +kernel) (by decide +kernel)
  have hinv : rxI223_0 S0 ws S (r 8) (r 9) (r 10) := hinv
  rw [← hr_ 8 (by decide), ← hr_ 9 (by decide), ← hr_ 10 (by decide)] at hinv
  obtain ⟨⟨l8, u8⟩, ⟨l9, u9⟩, ⟨l10, u10⟩, ⟨l11, u11⟩, -⟩ := b_
  obtain ⟨f0, -⟩ := f_
  obtain ⟨T0, ⟨T1, ⟨T2, ⟨T3, ⟨T4, ⟨e5, w_⟩, w4⟩, w3⟩, w2⟩, w1⟩, w0⟩ := d_
  subst w0
  subst w1
  subst w2
  subst w3
  subst w4
  subst w_
  have g := rxd223_0_0 hP hin hsm_ I0 I1 hinv l8 u8 l9 u9 l10 u10 l11 u11 f0 e5
  refine ⟨bx_narP_ok (l := []) g.1, ?_⟩
  show rxPS223 S0 ws (bx_up (bx_up (bx_up (bx_up (bx_up T4 6 (r' 11) (r' 8)) 7 (r' 11) (r' 9)) 8 (r' 11) (r' 10)) 5 (0) (r' 11 + 1)) 0 (8) (0)) (some (bx_num r' (.inr (0, (11, 0)))))
  rw [bx_xv_ok h0_]
  exact g.2
theorem rxd223_2_0 {S0 : Nat → Int → Int} {ws : List Int} {S : Nat → Int → Int} {bo de me res : Int} (hP : rxP223 S0 ws) (hin : bx_same rxL (bx_mdl rxC223.2.2.1) S0 S) (hin2 : bx_same rxL (bx_mdl rxC223.2.2.1) S S) (I0 : bx_Inv rxL S) (I1 : bx_Inv rxL S) (hinv : rxI223_2 S0 ws S bo de me res) (l8 : (-2147483648) ≤ bo) (u8 : bo ≤ 2147483647) (l9 : (-2147483648) ≤ de) (u9 : de ≤ 2147483647) (l10 : (-2147483648) ≤ me) (u10 : me ≤ 2147483647) (l11 : (-6) ≤ res) (u11 : res ≤ (-1)) : (True) ∧ rxPS223 S0 ws S (some res) := by
  obtain ⟨h1, h2, hw, hs⟩ := hinv
  refine ⟨trivial, bo, de, me, hw, Or.inl (⟨by omega, ?_, ?_⟩)⟩
  · exact congrArg some h1
  · exact hs
theorem rxf223_2_0 {X : (Nat → Int → Int) → Prop} {S0 : Nat → Int → Int} {ws : List Int} (hP : rxP223 S0 ws) : bx_obE rxL X S0 rxC223.2.2.1 (rxI223 S0 ws) (rxPS223 S0 ws) 2 rxz223_2 rxe223_2_0 := by
  intro S S' r r' hinv hX hin hsm_ hseg
  obtain ⟨I0, I1, h0_, hr_, b_, f_, d_⟩ := bx_cl (evs := []) (fvs := []) hseg (by decide +kernel) (by decide +kernel)
  have hinv : rxI223_2 S0 ws S (r 8) (r 9) (r 10) (r 11) := hinv
  rw [← hr_ 8 (by decide), ← hr_ 9 (by decide), ← hr_ 10 (by decide), ← hr_ 11 (by decide)] at hinv
  obtain ⟨⟨l8, u8⟩, ⟨l9, u9⟩, ⟨l10, u10⟩, ⟨l11, u11⟩, -⟩ := b_
  have w_ := d_
  subst w_
  have g := rxd223_2_0 hP hin hsm_ I0 I1 hinv l8 u8 l9 u9 l10 u10 l11 u11
  refine ⟨bx_narP_ok (l := []) g.1, ?_⟩
  show rxPS223 S0 ws S' (some (bx_num r' (.inr (0, (11, 0)))))
  rw [bx_xv_ok h0_]
  exact g.2
theorem rxd223_4_0 {S0 : Nat → Int → Int} {ws : List Int} {S : Nat → Int → Int} {bo de me res : Int} (hP : rxP223 S0 ws) (hin : bx_same rxL (bx_mdl rxC223.2.2.1) S0 S) (hin2 : bx_same rxL (bx_mdl rxC223.2.2.1) S S) (I0 : bx_Inv rxL S) (I1 : bx_Inv rxL S) (hinv : rxI223_4 S0 ws S bo de me res) (l8 : 0 ≤ bo) (u8 : bo ≤ 200) (l9 : (-2147483648) ≤ de) (u9 : de ≤ 300) (l10 : (-2147483648) ≤ me) (u10 : me ≤ 2147483647) (l11 : (-6) ≤ res) (u11 : res ≤ (-1)) : (True) ∧ rxPS223 S0 ws S (some res) := by
  obtain ⟨h1, h2, hw, hs⟩ := hinv
  refine ⟨trivial, bo, de, me, hw, Or.inr (Or.inl (⟨by omega, by omega, by omega, by omega, by omega, by omega, by omega, ?_, ?_⟩))⟩
  · exact congrArg some h1
  · exact hs
theorem rxf223_4_0 {X : (Nat → Int → Int) → Prop} {S0 : Nat → Int → Int} {ws : List Int} (hP : rxP223 S0 ws) : bx_obE rxL X S0 rxC223.2.2.1 (rxI223 S0 ws) (rxPS223 S0 ws) 4 rxz223_4 rxe223_4_0 := by
  intro S S' r r' hinv hX hin hsm_ hseg
  obtain ⟨I0, I1, h0_, hr_, b_, f_, d_⟩ := bx_cl (evs := []) (fvs := []) hseg (by decide +kernel) (by decide +kernel)
  have hinv : rxI223_4 S0 ws S (r 8) (r 9) (r 10) (r 11) := hinv
  rw [← hr_ 8 (by decide), ← hr_ 9 (by decide), ← hr_ 10 (by decide), ← hr_ 11 (by decide)] at hinv
  obtain ⟨⟨l8, u8⟩, ⟨l9, u9⟩, ⟨l10, u10⟩, ⟨l11, u11⟩, -⟩ := b_
  have w_ := d_
  subst w_
  have g := rxd223_4_0 hP hin hsm_ I0 I1 hinv l8 u8 l9 u9 l10 u10 l11 u11
  refine ⟨bx_narP_ok (l := []) g.1, ?_⟩
  show rxPS223 S0 ws S' (some (bx_num r' (.inr (0, (11, 0)))))
  rw [bx_xv_ok h0_]
  exact g.2
theorem rxgC223 {X : (Nat → Int → Int) → Prop} {S0 : Nat → Int → Int} {ws : List Int} (hP : rxP223 S0 ws) : bx_allI (fun i q => rxU223 q = true ∨ bx_allP (fun o => bx_obC rxL X S0 rxC223.2.2.1 (rxI223 S0 ws) (rxm223 S0 ws) i q.1 o) q.2.1) 0 rxY223 := ⟨Or.inr ⟨rxg223_0_0 hP, rxg223_0_1 hP, rxg223_0_2 hP, rxg223_0_3 hP, rxg223_0_4 hP, rxg223_0_5 hP, rxg223_0_6 hP, trivial⟩, Or.inl rfl, Or.inr trivial, Or.inl rfl, Or.inr trivial, trivial⟩
theorem rxgE223 {X : (Nat → Int → Int) → Prop} {S0 : Nat → Int → Int} {ws : List Int} (hP : rxP223 S0 ws) : bx_allI (fun i q => rxU223 q = true ∨ bx_allP (fun E => bx_obE rxL X S0 rxC223.2.2.1 (rxI223 S0 ws) (rxPS223 S0 ws) i q.1 E) q.2.2) 0 rxY223 := ⟨Or.inr ⟨rxf223_0_0 hP, trivial⟩, Or.inl rfl, Or.inr ⟨rxf223_2_0 hP, trivial⟩, Or.inl rfl, Or.inr ⟨rxf223_4_0 hP, trivial⟩, trivial⟩
theorem rxu223 {PX : State → Prop} {Dg : va_G} {A : Nat → Prop} {ad xa : Nat → Nat} {l : Launch} {X : (Nat → Int → Int) → Prop} (hPX : rx_PXOK rxNW A PX) (hX : ∀ S S1 : Nat → Int → Int, X S → bx_same rxL (bx_mdl rxC223.2.2.1) S S1 → X S1) (hQ110 : bx_ConP rxG rxNW rxAO PX Dg rxL X vwCl A ad l rxM110 rxC110 rxP110 rxPS110) {S0 : Nat → Int → Int} {ws : List Int} (hP : rxP223 S0 ws) : ∀ (i : Nat) (q : bx_HE), rxY223[i]? = some q → rxU223 q = true → ∀ {p : Program} {e : Env} {R : Room} {s : State} {m : MethodId} {args : Array Value} {below : List Frame} {meth : Method} {c : Code} {Q : State → Prop} {H0 : Heap}, rx_Fr rxG rxNW rxAO PX p s m args meth c rxM223 → (∀ q, H0.size ≤ q → A q) → H0 = s.heap → rxM223.2.2.2.2.2.2.1 ≤ R.cells → rxM223.2.2.2.2.2.2.2 ≤ R.slots → rxC223.2.2.2.1 ≤ R.frames → rxC223.2.2.2.1 * 40 ≤ R.locals → bx_Step p l e R s m args below meth c Q Dg rxL X vwCl A xa H0 ad rxM223 rxY223 (rxI223 S0 ws) (rxm223 S0 ws) S0 rxC223.2.2.1 i q := by
  intro i q hq hus p e R s m args below meth c Q H0 hF hA hH0 hmc hms hd hdl
  match i, hq with
  | 0, hq =>
    cases hq
    exact absurd (show false = true from hus) Bool.false_ne_true
  | 1, hq =>
    cases hq
    exact rx_stepC (ins := .invokevirtual 110) (len := 3) (i' := 2) (M' := rxM110) (d := rxC223.2.2.2.1) (as := [.inr (3, (0, 0)), .inr (0, (0, (-1)))]) (t := []) (ct := rxC110) hPX hF rfl hA hH0 hmc hms hd hdl (by decide +kernel) rfl rfl (by decide +kernel) (by decide +kernel) hQ110 (by decide +kernel) rfl (Or.inr ⟨_, _, _, 1, rfl, rfl, by omega, rfl, rfl, rfl⟩) (rxs223_1 hP)
  | 2, hq =>
    cases hq
    exact absurd (show false = true from hus) Bool.false_ne_true
  | 3, hq =>
    cases hq
    exact rx_stepC (ins := .invokevirtual 110) (len := 3) (i' := 4) (M' := rxM110) (d := rxC223.2.2.2.1) (as := [.inr (3, (0, 0)), .inr (0, (0, (-5)))]) (t := []) (ct := rxC110) hPX hF rfl hA hH0 hmc hms hd hdl (by decide +kernel) rfl rfl (by decide +kernel) (by decide +kernel) hQ110 (by decide +kernel) rfl (Or.inr ⟨_, _, _, 1, rfl, rfl, by omega, rfl, rfl, rfl⟩) (rxs223_3 hP)
  | 4, hq =>
    cases hq
    exact absurd (show false = true from hus) Bool.false_ne_true
  | n + 5, hq => cases hq
theorem rxQ223 {PX : State → Prop} {Dg : va_G} {A : Nat → Prop} {ad xa : Nat → Nat} {l : Launch} {X : (Nat → Int → Int) → Prop} (hPX : rx_PXOK rxNW A PX) (hsl : ∀ s : State, PX s → ∀ o idx n : Nat, rxSl o idx = some n → ∃ tx : String, vk_R (rxNm o) idx tx (ad n) s)
    (hX : ∀ S S' : Nat → Int → Int, X S → bx_same rxL (bx_mdl rxC223.2.2.1) S S' → X S')
    (ih : ∀ (j2 : Nat) (ct2 : bx_Ct) (M2 : rx_Mt), ct2 ∈ rxCnE j2 → ct2.2.2.2.1 + 1 ≤ rxC223.2.2.2.1 → rxT.2.2.2.2.2 j2 = some M2 → bx_Con rxG rxNW rxAO PX Dg rxL X vwCl A ad l M2 ct2) (hQ110 : bx_ConP rxG rxNW rxAO PX Dg rxL X vwCl A ad l rxM110 rxC110 rxP110 rxPS110) : bx_ConP rxG rxNW rxAO PX Dg rxL X vwCl A ad l rxM223 rxC223 rxP223 rxPS223 :=
  rxQof (xa := xa) (Cn := rxCnE) (f := 30000) (j := 223) (tab := rxY223) (us := rxU223) hPX hsl hX ih rfl rxYc223 rxI223 rxm223
    (fun S0 ws r I0 I ht0 ht as he he1 hX0 hI0 hP hs ha => by
      have e := he.symm.trans (show bx_ent0 rxNP rxC223.1 bx_I0 [] = some ([(0, 0), (0, 0), (0, 0), (0, 0), (0, 0), (0, 0), (0, 0), (0, 0), ((-2147483648), 2147483647), ((-2147483648), 2147483647), ((-2147483648), 2147483647)], [], [.inr (3, (0, 0)), .inr (0, (8, 0)), .inr (0, (9, 0)), .inr (0, (10, 0))]) from rfl)
      cases e
      subst ha
      have h0 : r 0 = 0 := hs.1
      show rxI223_0 S0 _ S0 (r 8) (r 9) (r 10)
      refine ⟨rfl, ?_⟩
      simp only [List.map_cons, List.map_nil, bx_xv_ok h0]
      rfl)
    (fun S0 ws hP => rxu223 (xa := xa) hPX hX hQ110 hP) (fun S0 ws hP => rxgC223 hP) (fun S0 ws hP => rxgE223 hP)
set_option maxHeartbeats 1000000 in
theorem rzQ223 {PX : State → Prop} {Dg : va_G} {A : Nat → Prop} {ad : Nat → Nat} {l : Launch} (hPX : rx_PXOK rxNW A PX) (hsl : ∀ s : State, PX s → ∀ o idx n : Nat, rxSl o idx = some n → ∃ tx : String, vk_R (rxNm o) idx tx (ad n) s) (ih : ∀ (j : Nat) (ct : bx_Ct) (M : rx_Mt), ct ∈ rxCn j → rxT.2.2.2.2.2 j = some M → bx_Con rxG rxNW rxAO PX Dg rxL rxX vwCl A ad l M ct) : bx_ConP rxG rxNW rxAO PX Dg rxL rxX vwCl A ad l rxM223 rxC223 (fun _ _ => True) rxPS223 := by
  have q110 := rxQ110 (PX := PX) (Dg := Dg) (A := A) (ad := ad) (xa := fun n => n) (l := l) (X := rxX) hPX hsl (fun _ _ h hm => rxX_of (by decide +kernel) h hm) (fun _ _ _ h => absurd h List.not_mem_nil)
  have q223 := rxQ223 (PX := PX) (Dg := Dg) (A := A) (ad := ad) (xa := fun n => n) (l := l) (X := rxX) hPX hsl (fun _ _ h hm => rxX_of (by decide +kernel) h hm) (fun _ _ _ h => absurd h List.not_mem_nil) q110
  exact fun S0 ws h1 h2 h3 _ => q223 S0 ws h1 h2 h3 trivial
