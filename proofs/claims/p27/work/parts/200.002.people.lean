noncomputable def rxI223_0 (S0 : Nat → Int → Int) (ws : List Int) (S : Nat → Int → Int) (bo de me : Int) : Prop := S = S0 ∧ ws = [0, bo, de, me]
noncomputable def rxm223_0 (S0 : Nat → Int → Int) (ws : List Int) (S : Nat → Int → Int) (bo de me : Int) : Nat := 100
noncomputable def rxz223_0 : rx_Z := ([(0, 0), (0, 0), (0, 0), (0, 0), (0, 0), (0, 0), (0, 0), (0, 0), ((-2147483648), 2147483647), ((-2147483648), 2147483647), ((-2147483648), 2147483647)], [], [], 0, 0, 0, [(0, .inr (3, (0, 0))), (1, .inr (0, (8, 0))), (2, .inr (0, (9, 0))), (3, .inr (0, (10, 0)))], [])
noncomputable def rxI223_1 (S0 : Nat → Int → Int) (ws : List Int) (S : Nat → Int → Int) (bo de me : Int) : Prop := S = S0 ∧ ((bo < 0 ∨ 200 < bo ∨ de ≤ bo ∨ 300 < de ∨ me < 1 ∨ 9 < me)) ∧ ws = [0, bo, de, me]
noncomputable def rxm223_1 (S0 : Nat → Int → Int) (ws : List Int) (S : Nat → Int → Int) (bo de me : Int) : Nat := 50
noncomputable def rxz223_1 : rx_Z := ([(0, 0), (0, 0), (0, 0), (0, 0), (0, 0), (0, 0), (0, 0), (0, 0), ((-2147483648), 2147483647), ((-2147483648), 2147483647), ((-2147483648), 2147483647)], [], [], 0, 0, 32, [(0, .inr (3, (0, 0))), (1, .inr (0, (8, 0))), (2, .inr (0, (9, 0))), (3, .inr (0, (10, 0)))], [.inr (0, (0, (-1))), .inr (3, (0, 0))])
noncomputable def rxI223_2 (S0 : Nat → Int → Int) (ws : List Int) (S : Nat → Int → Int) (bo de me res : Int) : Prop := res = (-1) ∧ ((bo < 0 ∨ 200 < bo ∨ de ≤ bo ∨ 300 < de ∨ me < 1 ∨ 9 < me)) ∧ ws = [0, bo, de, me] ∧ bx_same rxL (bx_mdl rxC110.2.2.1) S0 S
noncomputable def rxm223_2 (S0 : Nat → Int → Int) (ws : List Int) (S : Nat → Int → Int) (bo de me res : Int) : Nat := 20
noncomputable def rxz223_2 : rx_Z := ([(0, 0), (0, 0), (0, 0), (0, 0), (0, 0), (0, 0), (0, 0), (0, 0), ((-2147483648), 2147483647), ((-2147483648), 2147483647), ((-2147483648), 2147483647), ((-6), (-1))], [], [], 0, 0, 35, [(0, .inr (3, (0, 0))), (1, .inr (0, (8, 0))), (2, .inr (0, (9, 0))), (3, .inr (0, (10, 0)))], [.inr (0, (11, 0))])
noncomputable def rxI223_3 (S0 : Nat → Int → Int) (ws : List Int) (S : Nat → Int → Int) (bo de me : Int) : Prop := S = S0 ∧ (0 ≤ bo ∧ bo ≤ 200 ∧ bo < de ∧ de ≤ 300 ∧ 1 ≤ me ∧ me ≤ 9 ∧ 8 ≤ S 5 0) ∧ ws = [0, bo, de, me]
noncomputable def rxm223_3 (S0 : Nat → Int → Int) (ws : List Int) (S : Nat → Int → Int) (bo de me : Int) : Nat := 50
noncomputable def rxz223_3 : rx_Z := ([(0, 0), (0, 0), (0, 0), (0, 0), (0, 0), (0, 0), (0, 0), (0, 0), (0, 200), ((-2147483648), 300), ((-2147483648), 2147483647)], [], [], 0, 0, 54, [(0, .inr (3, (0, 0))), (1, .inr (0, (8, 0))), (2, .inr (0, (9, 0))), (3, .inr (0, (10, 0)))], [.inr (0, (0, (-5))), .inr (3, (0, 0))])
noncomputable def rxI223_4 (S0 : Nat → Int → Int) (ws : List Int) (S : Nat → Int → Int) (bo de me res : Int) : Prop := res = (-5) ∧ (0 ≤ bo ∧ bo ≤ 200 ∧ bo < de ∧ de ≤ 300 ∧ 1 ≤ me ∧ me ≤ 9 ∧ 8 ≤ S0 5 0) ∧ ws = [0, bo, de, me] ∧ bx_same rxL (bx_mdl rxC110.2.2.1) S0 S
noncomputable def rxm223_4 (S0 : Nat → Int → Int) (ws : List Int) (S : Nat → Int → Int) (bo de me res : Int) : Nat := 20
noncomputable def rxz223_4 : rx_Z := ([(0, 0), (0, 0), (0, 0), (0, 0), (0, 0), (0, 0), (0, 0), (0, 0), (0, 200), ((-2147483648), 300), ((-2147483648), 2147483647), ((-6), (-1))], [], [], 0, 0, 57, [(0, .inr (3, (0, 0))), (1, .inr (0, (8, 0))), (2, .inr (0, (9, 0))), (3, .inr (0, (10, 0)))], [.inr (0, (11, 0))])
noncomputable def rxo223_0_0 : bx_HO := (([(0, 0), (0, 0), (0, 0), (0, 0), (0, 0), (0, 0), (0, 0), (0, 0), (0, 200), (1, 300), ((-2147483648), 0)], [(0, (8, 0), (9, 0))], [], 0, 0, 32, [(0, .inr (3, (0, 0))), (1, .inr (0, (8, 0))), (2, .inr (0, (9, 0))), (3, .inr (0, (10, 0)))], [.inr (0, (0, (-1))), .inr (3, (0, 0))]), [], [], [(0, 0), (0, 0), (0, 0), (0, 0), (0, 0), (0, 0), (0, 0), (0, 0), (8, 0), (9, 0), (10, 0)], 1)
noncomputable def rxo223_0_1 : bx_HO := (([(0, 0), (0, 0), (0, 0), (0, 0), (0, 0), (0, 0), (0, 0), (0, 0), (0, 200), (1, 300), (10, 2147483647)], [(0, (8, 0), (9, 0))], [], 0, 0, 32, [(0, .inr (3, (0, 0))), (1, .inr (0, (8, 0))), (2, .inr (0, (9, 0))), (3, .inr (0, (10, 0)))], [.inr (0, (0, (-1))), .inr (3, (0, 0))]), [], [], [(0, 0), (0, 0), (0, 0), (0, 0), (0, 0), (0, 0), (0, 0), (0, 0), (8, 0), (9, 0), (10, 0)], 1)
noncomputable def rxo223_0_2 : bx_HO := (([(0, 0), (0, 0), (0, 0), (0, 0), (0, 0), (0, 0), (0, 0), (0, 0), (0, 200), (1, 300), (1, 9), (8, 8)], [(0, (8, 0), (9, 0))], [(((0, 0), 1851192626986356797424340330377019318111018015026043177556312064000000), .inr (0, (11, 0))), (((0, 5), 0), .inr (0, (11, 0))), (((0, 1), 4), .inr (3, (0, 5))), (((0, 0), 0), .inr (3, (0, 1)))], 0, 0, 54, [(0, .inr (3, (0, 0))), (1, .inr (0, (8, 0))), (2, .inr (0, (9, 0))), (3, .inr (0, (10, 0)))], [.inr (0, (0, (-5))), .inr (3, (0, 0))]), [], [], [(0, 0), (0, 0), (0, 0), (0, 0), (0, 0), (0, 0), (0, 0), (0, 0), (8, 0), (9, 0), (10, 0)], 3)
noncomputable def rxo223_0_3 : bx_HO := (([(0, 0), (0, 0), (0, 0), (0, 0), (0, 0), (0, 0), (0, 0), (0, 0), (0, 200), (301, 2147483647), ((-2147483648), 2147483647)], [(0, (8, 0), (9, 0))], [], 0, 0, 32, [(0, .inr (3, (0, 0))), (1, .inr (0, (8, 0))), (2, .inr (0, (9, 0))), (3, .inr (0, (10, 0)))], [.inr (0, (0, (-1))), .inr (3, (0, 0))]), [], [], [(0, 0), (0, 0), (0, 0), (0, 0), (0, 0), (0, 0), (0, 0), (0, 0), (8, 0), (9, 0), (10, 0)], 1)
noncomputable def rxo223_0_4 : bx_HO := (([(0, 0), (0, 0), (0, 0), (0, 0), (0, 0), (0, 0), (0, 0), (0, 0), (0, 200), ((-2147483648), 200), ((-2147483648), 2147483647)], [(1, (9, 0), (8, 0))], [], 0, 0, 32, [(0, .inr (3, (0, 0))), (1, .inr (0, (8, 0))), (2, .inr (0, (9, 0))), (3, .inr (0, (10, 0)))], [.inr (0, (0, (-1))), .inr (3, (0, 0))]), [], [], [(0, 0), (0, 0), (0, 0), (0, 0), (0, 0), (0, 0), (0, 0), (0, 0), (8, 0), (9, 0), (10, 0)], 1)
noncomputable def rxo223_0_5 : bx_HO := (([(0, 0), (0, 0), (0, 0), (0, 0), (0, 0), (0, 0), (0, 0), (0, 0), (201, 2147483647), ((-2147483648), 2147483647), ((-2147483648), 2147483647)], [], [], 0, 0, 32, [(0, .inr (3, (0, 0))), (1, .inr (0, (8, 0))), (2, .inr (0, (9, 0))), (3, .inr (0, (10, 0)))], [.inr (0, (0, (-1))), .inr (3, (0, 0))]), [], [], [(0, 0), (0, 0), (0, 0), (0, 0), (0, 0), (0, 0), (0, 0), (0, 0), (8, 0), (9, 0), (10, 0)], 1)
noncomputable def rxo223_0_6 : bx_HO := (([(0, 0), (0, 0), (0, 0), (0, 0), (0, 0), (0, 0), (0, 0), (0, 0), ((-2147483648), (-1)), ((-2147483648), 2147483647), ((-2147483648), 2147483647)], [], [], 0, 0, 32, [(0, .inr (3, (0, 0))), (1, .inr (0, (8, 0))), (2, .inr (0, (9, 0))), (3, .inr (0, (10, 0)))], [.inr (0, (0, (-1))), .inr (3, (0, 0))]), [], [], [(0, 0), (0, 0), (0, 0), (0, 0), (0, 0), (0, 0), (0, 0), (0, 0), (8, 0), (9, 0), (10, 0)], 1)
noncomputable def rxe223_0_0 : rx_End × List (Nat × Int × Int) := (([(0, 0), (0, 0), (0, 0), (0, 0), (0, 0), (0, 0), (0, 0), (0, 0), (0, 200), (1, 300), (1, 9), (0, 7)], [(0, (8, 0), (9, 0))], [(((0, 0), 1851192626986356799029993984671224184301589730656725205983952899000000), .inr (0, (0, 0))), (((0, 0), 8), .inr (0, (0, 0))), (((0, 0), 1851192626986356797424340330377019318111018015026043177556312067000000), .inr (0, (11, 1))), (((0, 5), 0), .inr (0, (11, 1))), (((0, 0), 1851192626986356797424374018331344491018900889112178922611015683000000), .inr (0, (10, 0))), (((0, 5), 3), .inr (3, (0, 8))), (((0, 0), 1851192626986356797424374018331344491018900889112178922610425859000000), .inr (0, (9, 0))), (((0, 5), 2), .inr (3, (0, 7))), (((0, 0), 1851192626986356797424374018331344491018900889112178922609836035000000), .inr (0, (8, 0))), (((0, 5), 1), .inr (3, (0, 6))), (((0, 0), 1851192626986356797424340330377019318111018015026043177556312064000000), .inr (0, (11, 0))), (((0, 1), 4), .inr (3, (0, 5))), (((0, 0), 0), .inr (3, (0, 1)))], some (.inr (0, (11, 0)))), [])
noncomputable def rxe223_2_0 : rx_End × List (Nat × Int × Int) := (([(0, 0), (0, 0), (0, 0), (0, 0), (0, 0), (0, 0), (0, 0), (0, 0), ((-2147483648), 2147483647), ((-2147483648), 2147483647), ((-2147483648), 2147483647), ((-6), (-1))], [], [], some (.inr (0, (11, 0)))), [])
noncomputable def rxe223_4_0 : rx_End × List (Nat × Int × Int) := (([(0, 0), (0, 0), (0, 0), (0, 0), (0, 0), (0, 0), (0, 0), (0, 0), (0, 200), ((-2147483648), 300), ((-2147483648), 2147483647), ((-6), (-1))], [], [], some (.inr (0, (11, 0)))), [])
noncomputable def rxY223 : List bx_HE := [(rxz223_0, [rxo223_0_0, rxo223_0_1, rxo223_0_2, rxo223_0_3, rxo223_0_4, rxo223_0_5, rxo223_0_6], [rxe223_0_0]), (rxz223_1, [], []), (rxz223_2, [], [rxe223_2_0]), (rxz223_3, [], []), (rxz223_4, [], [rxe223_4_0])]
noncomputable def rxU223 (q : bx_HE) : Bool := Nat.beq (rx_zpc q.1) 32 || Nat.beq (rx_zpc q.1) 54
noncomputable def rxYB223 : bx_B := (rxV, rxNP, rxDmf, bx_mdH rxC223.2.2.1)
set_option maxRecDepth 100000 in
theorem rxYc223 : bx_chkH rxYB223 rxM223 rxC223 rxY223 (rxU223, fun cut z => rx_ex2 (rxCT rxYB223 rxCnE) cut 30000 rxC223.2.2.2.1 223 z) = true := by decide +kernel
noncomputable def rxI223 (S0 : Nat → Int → Int) (ws : List Int) (i : Nat) : bx_SP := fun S r => match i with | 0 => rxI223_0 S0 ws S (r 8) (r 9) (r 10) | 1 => rxI223_1 S0 ws S (r 8) (r 9) (r 10) | 2 => rxI223_2 S0 ws S (r 8) (r 9) (r 10) (r 11) | 3 => rxI223_3 S0 ws S (r 8) (r 9) (r 10) | 4 => rxI223_4 S0 ws S (r 8) (r 9) (r 10) (r 11) | _ => False
noncomputable def rxm223 (S0 : Nat → Int → Int) (ws : List Int) (i : Nat) (S : Nat → Int → Int) (r : Nat → Int) : Nat := match i with | 0 => rxm223_0 S0 ws S (r 8) (r 9) (r 10) | 1 => rxm223_1 S0 ws S (r 8) (r 9) (r 10) | 2 => rxm223_2 S0 ws S (r 8) (r 9) (r 10) (r 11) | 3 => rxm223_3 S0 ws S (r 8) (r 9) (r 10) | 4 => rxm223_4 S0 ws S (r 8) (r 9) (r 10) (r 11) | _ => 0
noncomputable def rxP223 (S0 : Nat → Int → Int) (ws : List Int) : Prop := True
noncomputable def rxPS223 (S0 : Nat → Int → Int) (ws : List Int) (S : Nat → Int → Int) (w : Option Int) : Prop := ∃ bo de me : Int, ws = [0, bo, de, me] ∧ (((bo < 0 ∨ 200 < bo ∨ de ≤ bo ∨ 300 < de ∨ me < 1 ∨ 9 < me) ∧ w = some (-1) ∧ bx_same rxL (bx_mdl rxC110.2.2.1) S0 S) ∨ (0 ≤ bo ∧ bo ≤ 200 ∧ bo < de ∧ de ≤ 300 ∧ 1 ≤ me ∧ me ≤ 9 ∧ 8 ≤ S0 5 0 ∧ w = some (-5) ∧ bx_same rxL (bx_mdl rxC110.2.2.1) S0 S) ∨ (0 ≤ bo ∧ bo ≤ 200 ∧ bo < de ∧ de ≤ 300 ∧ 1 ≤ me ∧ me ≤ 9 ∧ S0 5 0 < 8 ∧ w = some (S0 5 0) ∧ S 5 0 = S0 5 0 + 1 ∧ (∀ i : Int, 0 ≤ i → i < 8 → S 6 i = if i = S0 5 0 then bo else S0 6 i) ∧ (∀ i : Int, 0 ≤ i → i < 8 → S 7 i = if i = S0 5 0 then de else S0 7 i) ∧ (∀ i : Int, 0 ≤ i → i < 8 → S 8 i = if i = S0 5 0 then me else S0 8 i) ∧ S 142 0 = S0 142 0 ∧ S 278 0 = S0 278 0 ∧ (∀ i : Int, 0 ≤ i → i < 8 → S 143 i = S0 143 i) ∧ (∀ i : Int, 0 ≤ i → i < 8 → S 279 i = S0 279 i) ∧ (∀ i : Int, 0 ≤ i → i < 8 → S 144 i = S0 144 i) ∧ (∀ i : Int, 0 ≤ i → i < 8 → S 280 i = S0 280 i) ∧ (∀ i : Int, 0 ≤ i → i < 8 → S 145 i = S0 145 i) ∧ (∀ i : Int, 0 ≤ i → i < 8 → S 281 i = S0 281 i)))
theorem rxk223_1 {S0 : Nat → Int → Int} {ws : List Int} {S : Nat → Int → Int} {bo de me : Int} (hP : rxP223 S0 ws) (hin : bx_same rxL (bx_mdl rxC223.2.2.1) S0 S) (I0 : bx_Inv rxL S) (hinv : rxI223_1 S0 ws S bo de me) (l8 : (-2147483648) ≤ bo) (u8 : bo ≤ 2147483647) (l9 : (-2147483648) ≤ de) (u9 : de ≤ 2147483647) (l10 : (-2147483648) ≤ me) (u10 : me ≤ 2147483647) : rxP110 S [0, (-1)] ∧ ∀ (S_p : Nat → Int → Int) (res : Int), (-6) ≤ res → res ≤ (-1) → rxPS110 S [0, (-1)] S_p (some res) → bx_Inv rxL S_p → bx_same rxL (bx_mdl rxC110.2.2.1) S S_p → rxI223_2 S0 ws S_p bo de me res ∧ rxm223_2 S0 ws S_p bo de me res < rxm223_1 S0 ws S bo de me := by
  obtain ⟨rfl, h1, hw⟩ := hinv
  refine ⟨trivial, fun S_p res _ _ hq _ hsm => ⟨⟨?_, h1, hw, hsm⟩, by unfold rxm223_1 rxm223_2; omega⟩⟩
  obtain ⟨c, hc, hr⟩ := hq
  simp only [List.cons.injEq, and_true, true_and] at hc
  simp only [Option.some.injEq] at hr
  omega
theorem rxs223_1 {X : (Nat → Int → Int) → Prop} {S0 : Nat → Int → Int} {ws : List Int} (hP : rxP223 S0 ws) : rx_obK X S0 rxC223.2.2.1 rxC110.2.2.1 (rxI223 S0 ws) (rxm223 S0 ws) 1 2 rxz223_1 rxz223_2 [.inr (3, (0, 0)), .inr (0, (0, (-1)))] (some 11) rxP110 rxPS110 := by
  intro S r hinv hXS I0 hin hs_ hf_
  have b_ := bx_bds_sat hs_
  have f_ := bx_fcl_ok hs_.1 hf_
  obtain ⟨⟨l8, u8⟩, ⟨l9, u9⟩, ⟨l10, u10⟩, -⟩ := b_
  have g := rxk223_1 hP hin I0 hinv l8 u8 l9 u9 l10 u10
  have ea : List.map (bx_num r) [.inr (3, (0, 0)), .inr (0, (0, (-1)))] = [0, -1] := by
    simp only [List.map_cons, List.map_nil, bx_xv_ok hs_.1]
    rfl
  rw [ea]
  refine ⟨g.1, fun S_p w r_p hPS hX_p I1 hsm hr hw hs_p => ?_⟩
  have hw := hw _ rfl
  subst hw
  have b_p := hs_p.2.2 11 _ _ rfl
  have g2 := g.2 S_p (r_p 11) b_p.1 b_p.2 hPS I1 hsm
  show rxI223_2 S0 ws S_p (r_p 8) (r_p 9) (r_p 10) (r_p 11) ∧ rxm223_2 S0 ws S_p (r_p 8) (r_p 9) (r_p 10) (r_p 11) < _
  rw [hr 8 (by decide), hr 9 (by decide), hr 10 (by decide)]
  exact g2
theorem rxk223_3 {S0 : Nat → Int → Int} {ws : List Int} {S : Nat → Int → Int} {bo de me : Int} (hP : rxP223 S0 ws) (hin : bx_same rxL (bx_mdl rxC223.2.2.1) S0 S) (I0 : bx_Inv rxL S) (hinv : rxI223_3 S0 ws S bo de me) (l8 : 0 ≤ bo) (u8 : bo ≤ 200) (l9 : (-2147483648) ≤ de) (u9 : de ≤ 300) (l10 : (-2147483648) ≤ me) (u10 : me ≤ 2147483647) : rxP110 S [0, (-5)] ∧ ∀ (S_p : Nat → Int → Int) (res : Int), (-6) ≤ res → res ≤ (-1) → rxPS110 S [0, (-5)] S_p (some res) → bx_Inv rxL S_p → bx_same rxL (bx_mdl rxC110.2.2.1) S S_p → rxI223_4 S0 ws S_p bo de me res ∧ rxm223_4 S0 ws S_p bo de me res < rxm223_3 S0 ws S bo de me := by
  obtain ⟨rfl, h1, hw⟩ := hinv
  refine ⟨trivial, fun S_p res _ _ hq _ hsm => ⟨⟨?_, h1, hw, hsm⟩, by unfold rxm223_3 rxm223_4; omega⟩⟩
  obtain ⟨c, hc, hr⟩ := hq
  simp only [List.cons.injEq, and_true, true_and] at hc
  simp only [Option.some.injEq] at hr
  omega
theorem rxs223_3 {X : (Nat → Int → Int) → Prop} {S0 : Nat → Int → Int} {ws : List Int} (hP : rxP223 S0 ws) : rx_obK X S0 rxC223.2.2.1 rxC110.2.2.1 (rxI223 S0 ws) (rxm223 S0 ws) 3 4 rxz223_3 rxz223_4 [.inr (3, (0, 0)), .inr (0, (0, (-5)))] (some 11) rxP110 rxPS110 := by
  intro S r hinv hXS I0 hin hs_ hf_
  have b_ := bx_bds_sat hs_
  have f_ := bx_fcl_ok hs_.1 hf_
  obtain ⟨⟨l8, u8⟩, ⟨l9, u9⟩, ⟨l10, u10⟩, -⟩ := b_
  have g := rxk223_3 hP hin I0 hinv l8 u8 l9 u9 l10 u10
  have ea : List.map (bx_num r) [.inr (3, (0, 0)), .inr (0, (0, (-5)))] = [0, -5] := by
    simp only [List.map_cons, List.map_nil, bx_xv_ok hs_.1]
    rfl
  rw [ea]
  refine ⟨g.1, fun S_p w r_p hPS hX_p I1 hsm hr hw hs_p => ?_⟩
  have hw := hw _ rfl
  subst hw
  have b_p := hs_p.2.2 11 _ _ rfl
  have g2 := g.2 S_p (r_p 11) b_p.1 b_p.2 hPS I1 hsm
  show rxI223_4 S0 ws S_p (r_p 8) (r_p 9) (r_p 10) (r_p 11) ∧ rxm223_4 S0 ws S_p (r_p 8) (r_p 9) (r_p 10) (r_p 11) < _
  rw [hr 8 (by decide), hr 9 (by decide), hr 10 (by decide)]
  exact g2
theorem rxc223_0_0 {S0 : Nat → Int → Int} {ws : List Int} {S : Nat → Int → Int} {bo de me : Int} (hP : rxP223 S0 ws) (hin : bx_same rxL (bx_mdl rxC223.2.2.1) S0 S) (I0 : bx_Inv rxL S) (hinv : rxI223_0 S0 ws S bo de me) (l8 : 0 ≤ bo) (u8 : bo ≤ 200) (l9 : 1 ≤ de) (u9 : de ≤ 300) (l10 : (-2147483648) ≤ me) (u10 : me ≤ 0) (f0 : bo < de) : (True) ∧ (True) ∧ rxI223_1 S0 ws S bo de me ∧ rxm223_1 S0 ws S bo de me < rxm223_0 S0 ws S bo de me := by
  obtain ⟨rfl, hw⟩ := hinv
  exact ⟨trivial, trivial, ⟨rfl, by omega, hw⟩, by unfold rxm223_0 rxm223_1; omega⟩
theorem rxg223_0_0 {X : (Nat → Int → Int) → Prop} {S0 : Nat → Int → Int} {ws : List Int} (hP : rxP223 S0 ws) : bx_obC rxL X S0 rxC223.2.2.1 (rxI223 S0 ws) (rxm223 S0 ws) 0 rxz223_0 rxo223_0_0 := by
  intro S S_p r r_p hinv hX hin hsm_ hseg
  obtain ⟨I0, I1, h0_, hr_, b_, f_, d_⟩ := bx_cl (evs := []) (fvs := [(0, (8, 0), (9, 0), (0, 0))]) hseg (by decide +kernel) (by decide +kernel)
  have hinv : rxI223_0 S0 ws S (r 8) (r 9) (r 10) := hinv
  rw [← hr_ 8 (by decide), ← hr_ 9 (by decide), ← hr_ 10 (by decide)] at hinv
  obtain ⟨⟨l8, u8⟩, ⟨l9, u9⟩, ⟨l10, u10⟩, -⟩ := b_
  obtain ⟨f0, -⟩ := f_
  have w_ := d_
  subst w_
  have g := rxc223_0_0 hP hin I0 hinv l8 u8 l9 u9 l10 u10 f0
  refine ⟨bx_narP_ok (l := []) g.1, bx_nfP_ok h0_ (fvs := []) (by decide +kernel) g.2.1, ?_, ?_⟩
  · show rxI223_1 S0 ws S_p (bx_val [(0, 0), (0, 0), (0, 0), (0, 0), (0, 0), (0, 0), (0, 0), (0, 0), (8, 0), (9, 0), (10, 0)] r_p 8) (bx_val [(0, 0), (0, 0), (0, 0), (0, 0), (0, 0), (0, 0), (0, 0), (0, 0), (8, 0), (9, 0), (10, 0)] r_p 9) (bx_val [(0, 0), (0, 0), (0, 0), (0, 0), (0, 0), (0, 0), (0, 0), (0, 0), (8, 0), (9, 0), (10, 0)] r_p 10)
    rw [bx_val_x (n := 8) (e := (8, 0)) h0_ rfl, bx_val_x (n := 9) (e := (9, 0)) h0_ rfl, bx_val_x (n := 10) (e := (10, 0)) h0_ rfl]
    exact g.2.2.1
  · show rxm223_1 S0 ws S_p (bx_val [(0, 0), (0, 0), (0, 0), (0, 0), (0, 0), (0, 0), (0, 0), (0, 0), (8, 0), (9, 0), (10, 0)] r_p 8) (bx_val [(0, 0), (0, 0), (0, 0), (0, 0), (0, 0), (0, 0), (0, 0), (0, 0), (8, 0), (9, 0), (10, 0)] r_p 9) (bx_val [(0, 0), (0, 0), (0, 0), (0, 0), (0, 0), (0, 0), (0, 0), (0, 0), (8, 0), (9, 0), (10, 0)] r_p 10) < rxm223_0 S0 ws S_p (r 8) (r 9) (r 10)
    rw [bx_val_x (n := 8) (e := (8, 0)) h0_ rfl, bx_val_x (n := 9) (e := (9, 0)) h0_ rfl, bx_val_x (n := 10) (e := (10, 0)) h0_ rfl, ← hr_ 8 (by decide), ← hr_ 9 (by decide), ← hr_ 10 (by decide)]
    exact g.2.2.2
theorem rxc223_0_1 {S0 : Nat → Int → Int} {ws : List Int} {S : Nat → Int → Int} {bo de me : Int} (hP : rxP223 S0 ws) (hin : bx_same rxL (bx_mdl rxC223.2.2.1) S0 S) (I0 : bx_Inv rxL S) (hinv : rxI223_0 S0 ws S bo de me) (l8 : 0 ≤ bo) (u8 : bo ≤ 200) (l9 : 1 ≤ de) (u9 : de ≤ 300) (l10 : 10 ≤ me) (u10 : me ≤ 2147483647) (f0 : bo < de) : (True) ∧ (True) ∧ rxI223_1 S0 ws S bo de me ∧ rxm223_1 S0 ws S bo de me < rxm223_0 S0 ws S bo de me := by
  obtain ⟨rfl, hw⟩ := hinv
  exact ⟨trivial, trivial, ⟨rfl, by omega, hw⟩, by unfold rxm223_0 rxm223_1; omega⟩
theorem rxg223_0_1 {X : (Nat → Int → Int) → Prop} {S0 : Nat → Int → Int} {ws : List Int} (hP : rxP223 S0 ws) : bx_obC rxL X S0 rxC223.2.2.1 (rxI223 S0 ws) (rxm223 S0 ws) 0 rxz223_0 rxo223_0_1 := by
  intro S S_p r r_p hinv hX hin hsm_ hseg
  obtain ⟨I0, I1, h0_, hr_, b_, f_, d_⟩ := bx_cl (evs := []) (fvs := [(0, (8, 0), (9, 0), (0, 0))]) hseg (by decide +kernel) (by decide +kernel)
  have hinv : rxI223_0 S0 ws S (r 8) (r 9) (r 10) := hinv
  rw [← hr_ 8 (by decide), ← hr_ 9 (by decide), ← hr_ 10 (by decide)] at hinv
  obtain ⟨⟨l8, u8⟩, ⟨l9, u9⟩, ⟨l10, u10⟩, -⟩ := b_
  obtain ⟨f0, -⟩ := f_
  have w_ := d_
  subst w_
  have g := rxc223_0_1 hP hin I0 hinv l8 u8 l9 u9 l10 u10 f0
  refine ⟨bx_narP_ok (l := []) g.1, bx_nfP_ok h0_ (fvs := []) (by decide +kernel) g.2.1, ?_, ?_⟩
  · show rxI223_1 S0 ws S_p (bx_val [(0, 0), (0, 0), (0, 0), (0, 0), (0, 0), (0, 0), (0, 0), (0, 0), (8, 0), (9, 0), (10, 0)] r_p 8) (bx_val [(0, 0), (0, 0), (0, 0), (0, 0), (0, 0), (0, 0), (0, 0), (0, 0), (8, 0), (9, 0), (10, 0)] r_p 9) (bx_val [(0, 0), (0, 0), (0, 0), (0, 0), (0, 0), (0, 0), (0, 0), (0, 0), (8, 0), (9, 0), (10, 0)] r_p 10)
    rw [bx_val_x (n := 8) (e := (8, 0)) h0_ rfl, bx_val_x (n := 9) (e := (9, 0)) h0_ rfl, bx_val_x (n := 10) (e := (10, 0)) h0_ rfl]
    exact g.2.2.1
  · show rxm223_1 S0 ws S_p (bx_val [(0, 0), (0, 0), (0, 0), (0, 0), (0, 0), (0, 0), (0, 0), (0, 0), (8, 0), (9, 0), (10, 0)] r_p 8) (bx_val [(0, 0), (0, 0), (0, 0), (0, 0), (0, 0), (0, 0), (0, 0), (0, 0), (8, 0), (9, 0), (10, 0)] r_p 9) (bx_val [(0, 0), (0, 0), (0, 0), (0, 0), (0, 0), (0, 0), (0, 0), (0, 0), (8, 0), (9, 0), (10, 0)] r_p 10) < rxm223_0 S0 ws S_p (r 8) (r 9) (r 10)
    rw [bx_val_x (n := 8) (e := (8, 0)) h0_ rfl, bx_val_x (n := 9) (e := (9, 0)) h0_ rfl, bx_val_x (n := 10) (e := (10, 0)) h0_ rfl, ← hr_ 8 (by decide), ← hr_ 9 (by decide), ← hr_ 10 (by decide)]
    exact g.2.2.2
theorem rxc223_0_2 {S0 : Nat → Int → Int} {ws : List Int} {S : Nat → Int → Int} {bo de me x11 : Int} (hP : rxP223 S0 ws) (hin : bx_same rxL (bx_mdl rxC223.2.2.1) S0 S) (I0 : bx_Inv rxL S) (hinv : rxI223_0 S0 ws S bo de me) (l8 : 0 ≤ bo) (u8 : bo ≤ 200) (l9 : 1 ≤ de) (u9 : de ≤ 300) (l10 : 1 ≤ me) (u10 : me ≤ 9) (l11 : 8 ≤ x11) (u11 : x11 ≤ 8) (f0 : bo < de) (e0 : S 5 0 = x11) : (True) ∧ (True) ∧ rxI223_3 S0 ws S bo de me ∧ rxm223_3 S0 ws S bo de me < rxm223_0 S0 ws S bo de me := by
  obtain ⟨rfl, hw⟩ := hinv
  exact ⟨trivial, trivial, ⟨rfl, by omega, hw⟩, by unfold rxm223_0 rxm223_3; omega⟩
theorem rxg223_0_2 {X : (Nat → Int → Int) → Prop} {S0 : Nat → Int → Int} {ws : List Int} (hP : rxP223 S0 ws) : bx_obC rxL X S0 rxC223.2.2.1 (rxI223 S0 ws) (rxm223 S0 ws) 0 rxz223_0 rxo223_0_2 := by
  intro S S_p r r_p hinv hX hin hsm_ hseg
  obtain ⟨I0, I1, h0_, hr_, b_, f_, d_⟩ := bx_cl (evs := [(0, (0, 5), (0, 0), .inr (0, (11, 0)))]) (fvs := [(0, (8, 0), (9, 0), (0, 0))]) hseg (by decide +kernel) (by decide +kernel)
  have hinv : rxI223_0 S0 ws S (r 8) (r 9) (r 10) := hinv
  rw [← hr_ 8 (by decide), ← hr_ 9 (by decide), ← hr_ 10 (by decide)] at hinv
  obtain ⟨⟨l8, u8⟩, ⟨l9, u9⟩, ⟨l10, u10⟩, ⟨l11, u11⟩, -⟩ := b_
  obtain ⟨f0, -⟩ := f_
  obtain ⟨e0, w_⟩ := d_
  subst w_
  have g := rxc223_0_2 hP hin I0 hinv l8 u8 l9 u9 l10 u10 l11 u11 f0 e0
  refine ⟨bx_narP_ok (l := []) g.1, bx_nfP_ok h0_ (fvs := []) (by decide +kernel) g.2.1, ?_, ?_⟩
  · show rxI223_3 S0 ws S_p (bx_val [(0, 0), (0, 0), (0, 0), (0, 0), (0, 0), (0, 0), (0, 0), (0, 0), (8, 0), (9, 0), (10, 0)] r_p 8) (bx_val [(0, 0), (0, 0), (0, 0), (0, 0), (0, 0), (0, 0), (0, 0), (0, 0), (8, 0), (9, 0), (10, 0)] r_p 9) (bx_val [(0, 0), (0, 0), (0, 0), (0, 0), (0, 0), (0, 0), (0, 0), (0, 0), (8, 0), (9, 0), (10, 0)] r_p 10)
    rw [bx_val_x (n := 8) (e := (8, 0)) h0_ rfl, bx_val_x (n := 9) (e := (9, 0)) h0_ rfl, bx_val_x (n := 10) (e := (10, 0)) h0_ rfl]
    exact g.2.2.1
  · show rxm223_3 S0 ws S_p (bx_val [(0, 0), (0, 0), (0, 0), (0, 0), (0, 0), (0, 0), (0, 0), (0, 0), (8, 0), (9, 0), (10, 0)] r_p 8) (bx_val [(0, 0), (0, 0), (0, 0), (0, 0), (0, 0), (0, 0), (0, 0), (0, 0), (8, 0), (9, 0), (10, 0)] r_p 9) (bx_val [(0, 0), (0, 0), (0, 0), (0, 0), (0, 0), (0, 0), (0, 0), (0, 0), (8, 0), (9, 0), (10, 0)] r_p 10) < rxm223_0 S0 ws S_p (r 8) (r 9) (r 10)
    rw [bx_val_x (n := 8) (e := (8, 0)) h0_ rfl, bx_val_x (n := 9) (e := (9, 0)) h0_ rfl, bx_val_x (n := 10) (e := (10, 0)) h0_ rfl, ← hr_ 8 (by decide), ← hr_ 9 (by decide), ← hr_ 10 (by decide)]
    exact g.2.2.2
theorem rxc223_0_3 {S0 : Nat → Int → Int} {ws : List Int} {S : Nat → Int → Int} {bo de me : Int} (hP : rxP223 S0 ws) (hin : bx_same rxL (bx_mdl rxC223.2.2.1) S0 S) (I0 : bx_Inv rxL S) (hinv : rxI223_0 S0 ws S bo de me) (l8 : 0 ≤ bo) (u8 : bo ≤ 200) (l9 : 301 ≤ de) (u9 : de ≤ 2147483647) (l10 : (-2147483648) ≤ me) (u10 : me ≤ 2147483647) (f0 : bo < de) : (True) ∧ (True) ∧ rxI223_1 S0 ws S bo de me ∧ rxm223_1 S0 ws S bo de me < rxm223_0 S0 ws S bo de me := by
  obtain ⟨rfl, hw⟩ := hinv
  exact ⟨trivial, trivial, ⟨rfl, by omega, hw⟩, by unfold rxm223_0 rxm223_1; omega⟩
theorem rxg223_0_3 {X : (Nat → Int → Int) → Prop} {S0 : Nat → Int → Int} {ws : List Int} (hP : rxP223 S0 ws) : bx_obC rxL X S0 rxC223.2.2.1 (rxI223 S0 ws) (rxm223 S0 ws) 0 rxz223_0 rxo223_0_3 := by
  intro S S_p r r_p hinv hX hin hsm_ hseg
  obtain ⟨I0, I1, h0_, hr_, b_, f_, d_⟩ := bx_cl (evs := []) (fvs := [(0, (8, 0), (9, 0), (0, 0))]) hseg (by decide +kernel) (by decide +kernel)
  have hinv : rxI223_0 S0 ws S (r 8) (r 9) (r 10) := hinv
  rw [← hr_ 8 (by decide), ← hr_ 9 (by decide), ← hr_ 10 (by decide)] at hinv
  obtain ⟨⟨l8, u8⟩, ⟨l9, u9⟩, ⟨l10, u10⟩, -⟩ := b_
  obtain ⟨f0, -⟩ := f_
  have w_ := d_
  subst w_
  have g := rxc223_0_3 hP hin I0 hinv l8 u8 l9 u9 l10 u10 f0
  refine ⟨bx_narP_ok (l := []) g.1, bx_nfP_ok h0_ (fvs := []) (by decide +kernel) g.2.1, ?_, ?_⟩
  · show rxI223_1 S0 ws S_p (bx_val [(0, 0), (0, 0), (0, 0), (0, 0), (0, 0), (0, 0), (0, 0), (0, 0), (8, 0), (9, 0), (10, 0)] r_p 8) (bx_val [(0, 0), (0, 0), (0, 0), (0, 0), (0, 0), (0, 0), (0, 0), (0, 0), (8, 0), (9, 0), (10, 0)] r_p 9) (bx_val [(0, 0), (0, 0), (0, 0), (0, 0), (0, 0), (0, 0), (0, 0), (0, 0), (8, 0), (9, 0), (10, 0)] r_p 10)
    rw [bx_val_x (n := 8) (e := (8, 0)) h0_ rfl, bx_val_x (n := 9) (e := (9, 0)) h0_ rfl, bx_val_x (n := 10) (e := (10, 0)) h0_ rfl]
    exact g.2.2.1
  · show rxm223_1 S0 ws S_p (bx_val [(0, 0), (0, 0), (0, 0), (0, 0), (0, 0), (0, 0), (0, 0), (0, 0), (8, 0), (9, 0), (10, 0)] r_p 8) (bx_val [(0, 0), (0, 0), (0, 0), (0, 0), (0, 0), (0, 0), (0, 0), (0, 0), (8, 0), (9, 0), (10, 0)] r_p 9) (bx_val [(0, 0), (0, 0), (0, 0), (0, 0), (0, 0), (0, 0), (0, 0), (0, 0), (8, 0), (9, 0), (10, 0)] r_p 10) < rxm223_0 S0 ws S_p (r 8) (r 9) (r 10)
    rw [bx_val_x (n := 8) (e := (8, 0)) h0_ rfl, bx_val_x (n := 9) (e := (9, 0)) h0_ rfl, bx_val_x (n := 10) (e := (10, 0)) h0_ rfl, ← hr_ 8 (by decide), ← hr_ 9 (by decide), ← hr_ 10 (by decide)]
    exact g.2.2.2
theorem rxc223_0_4 {S0 : Nat → Int → Int} {ws : List Int} {S : Nat → Int → Int} {bo de me : Int} (hP : rxP223 S0 ws) (hin : bx_same rxL (bx_mdl rxC223.2.2.1) S0 S) (I0 : bx_Inv rxL S) (hinv : rxI223_0 S0 ws S bo de me) (l8 : 0 ≤ bo) (u8 : bo ≤ 200) (l9 : (-2147483648) ≤ de) (u9 : de ≤ 200) (l10 : (-2147483648) ≤ me) (u10 : me ≤ 2147483647) (f0 : de ≤ bo) : (True) ∧ (True) ∧ rxI223_1 S0 ws S bo de me ∧ rxm223_1 S0 ws S bo de me < rxm223_0 S0 ws S bo de me := by
  obtain ⟨rfl, hw⟩ := hinv
  exact ⟨trivial, trivial, ⟨rfl, by omega, hw⟩, by unfold rxm223_0 rxm223_1; omega⟩
theorem rxg223_0_4 {X : (Nat → Int → Int) → Prop} {S0 : Nat → Int → Int} {ws : List Int} (hP : rxP223 S0 ws) : bx_obC rxL X S0 rxC223.2.2.1 (rxI223 S0 ws) (rxm223 S0 ws) 0 rxz223_0 rxo223_0_4 := by
  intro S S_p r r_p hinv hX hin hsm_ hseg
  obtain ⟨I0, I1, h0_, hr_, b_, f_, d_⟩ := bx_cl (evs := []) (fvs := [(1, (9, 0), (8, 0), (0, 0))]) hseg (by decide +kernel) (by decide +kernel)
  have hinv : rxI223_0 S0 ws S (r 8) (r 9) (r 10) := hinv
  rw [← hr_ 8 (by decide), ← hr_ 9 (by decide), ← hr_ 10 (by decide)] at hinv
  obtain ⟨⟨l8, u8⟩, ⟨l9, u9⟩, ⟨l10, u10⟩, -⟩ := b_
  obtain ⟨f0, -⟩ := f_
  have w_ := d_
  subst w_
  have g := rxc223_0_4 hP hin I0 hinv l8 u8 l9 u9 l10 u10 f0
  refine ⟨bx_narP_ok (l := []) g.1, bx_nfP_ok h0_ (fvs := []) (by decide +kernel) g.2.1, ?_, ?_⟩
  · show rxI223_1 S0 ws S_p (bx_val [(0, 0), (0, 0), (0, 0), (0, 0), (0, 0), (0, 0), (0, 0), (0, 0), (8, 0), (9, 0), (10, 0)] r_p 8) (bx_val [(0, 0), (0, 0), (0, 0), (0, 0), (0, 0), (0, 0), (0, 0), (0, 0), (8, 0), (9, 0), (10, 0)] r_p 9) (bx_val [(0, 0), (0, 0), (0, 0), (0, 0), (0, 0), (0, 0), (0, 0), (0, 0), (8, 0), (9, 0), (10, 0)] r_p 10)
    rw [bx_val_x (n := 8) (e := (8, 0)) h0_ rfl, bx_val_x (n := 9) (e := (9, 0)) h0_ rfl, bx_val_x (n := 10) (e := (10, 0)) h0_ rfl]
    exact g.2.2.1
  · show rxm223_1 S0 ws S_p (bx_val [(0, 0), (0, 0), (0, 0), (0, 0), (0, 0), (0, 0), (0, 0), (0, 0), (8, 0), (9, 0), (10, 0)] r_p 8) (bx_val [(0, 0), (0, 0), (0, 0), (0, 0), (0, 0), (0, 0), (0, 0), (0, 0), (8, 0), (9, 0), (10, 0)] r_p 9) (bx_val [(0, 0), (0, 0), (0, 0), (0, 0), (0, 0), (0, 0), (0, 0), (0, 0), (8, 0), (9, 0), (10, 0)] r_p 10) < rxm223_0 S0 ws S_p (r 8) (r 9) (r 10)
    rw [bx_val_x (n := 8) (e := (8, 0)) h0_ rfl, bx_val_x (n := 9) (e := (9, 0)) h0_ rfl, bx_val_x (n := 10) (e := (10, 0)) h0_ rfl, ← hr_ 8 (by decide), ← hr_ 9 (by decide), ← hr_ 10 (by decide)]
    exact g.2.2.2
theorem rxc223_0_5 {S0 : Nat → Int → Int} {ws : List Int} {S : Nat → Int → Int} {bo de me : Int} (hP : rxP223 S0 ws) (hin : bx_same rxL (bx_mdl rxC223.2.2.1) S0 S) (I0 : bx_Inv rxL S) (hinv : rxI223_0 S0 ws S bo de me) (l8 : 201 ≤ bo) (u8 : bo ≤ 2147483647) (l9 : (-2147483648) ≤ de) (u9 : de ≤ 2147483647) (l10 : (-2147483648) ≤ me) (u10 : me ≤ 2147483647) : (True) ∧ (True) ∧ rxI223_1 S0 ws S bo de me ∧ rxm223_1 S0 ws S bo de me < rxm223_0 S0 ws S bo de me := by
  obtain ⟨rfl, hw⟩ := hinv
  exact ⟨trivial, trivial, ⟨rfl, by omega, hw⟩, by unfold rxm223_0 rxm223_1; omega⟩
theorem rxg223_0_5 {X : (Nat → Int → Int) → Prop} {S0 : Nat → Int → Int} {ws : List Int} (hP : rxP223 S0 ws) : bx_obC rxL X S0 rxC223.2.2.1 (rxI223 S0 ws) (rxm223 S0 ws) 0 rxz223_0 rxo223_0_5 := by
  intro S S_p r r_p hinv hX hin hsm_ hseg
  obtain ⟨I0, I1, h0_, hr_, b_, f_, d_⟩ := bx_cl (evs := []) (fvs := []) hseg (by decide +kernel) (by decide +kernel)
  have hinv : rxI223_0 S0 ws S (r 8) (r 9) (r 10) := hinv
  rw [← hr_ 8 (by decide), ← hr_ 9 (by decide), ← hr_ 10 (by decide)] at hinv
  obtain ⟨⟨l8, u8⟩, ⟨l9, u9⟩, ⟨l10, u10⟩, -⟩ := b_
  have w_ := d_
  subst w_
  have g := rxc223_0_5 hP hin I0 hinv l8 u8 l9 u9 l10 u10
  refine ⟨bx_narP_ok (l := []) g.1, bx_nfP_ok h0_ (fvs := []) (by decide +kernel) g.2.1, ?_, ?_⟩
  · show rxI223_1 S0 ws S_p (bx_val [(0, 0), (0, 0), (0, 0), (0, 0), (0, 0), (0, 0), (0, 0), (0, 0), (8, 0), (9, 0), (10, 0)] r_p 8) (bx_val [(0, 0), (0, 0), (0, 0), (0, 0), (0, 0), (0, 0), (0, 0), (0, 0), (8, 0), (9, 0), (10, 0)] r_p 9) (bx_val [(0, 0), (0, 0), (0, 0), (0, 0), (0, 0), (0, 0), (0, 0), (0, 0), (8, 0), (9, 0), (10, 0)] r_p 10)
    rw [bx_val_x (n := 8) (e := (8, 0)) h0_ rfl, bx_val_x (n := 9) (e := (9, 0)) h0_ rfl, bx_val_x (n := 10) (e := (10, 0)) h0_ rfl]
    exact g.2.2.1
  · show rxm223_1 S0 ws S_p (bx_val [(0, 0), (0, 0), (0, 0), (0, 0), (0, 0), (0, 0), (0, 0), (0, 0), (8, 0), (9, 0), (10, 0)] r_p 8) (bx_val [(0, 0), (0, 0), (0, 0), (0, 0), (0, 0), (0, 0), (0, 0), (0, 0), (8, 0), (9, 0), (10, 0)] r_p 9) (bx_val [(0, 0), (0, 0), (0, 0), (0, 0), (0, 0), (0, 0), (0, 0), (0, 0), (8, 0), (9, 0), (10, 0)] r_p 10) < rxm223_0 S0 ws S_p (r 8) (r 9) (r 10)
    rw [bx_val_x (n := 8) (e := (8, 0)) h0_ rfl, bx_val_x (n := 9) (e := (9, 0)) h0_ rfl, bx_val_x (n := 10) (e := (10, 0)) h0_ rfl, ← hr_ 8 (by decide), ← hr_ 9 (by decide), ← hr_ 10 (by decide)]
    exact g.2.2.2
theorem rxc223_0_6 {S0 : Nat → Int → Int} {ws : List Int} {S : Nat → Int → Int} {bo de me : Int} (hP : rxP223 S0 ws) (hin : bx_same rxL (bx_mdl rxC223.2.2.1) S0 S) (I0 : bx_Inv rxL S) (hinv : rxI223_0 S0 ws S bo de me) (l8 : (-2147483648) ≤ bo) (u8 : bo ≤ (-1)) (l9 : (-2147483648) ≤ de) (u9 : de ≤ 2147483647) (l10 : (-2147483648) ≤ me) (u10 : me ≤ 2147483647) : (True) ∧ (True) ∧ rxI223_1 S0 ws S bo de me ∧ rxm223_1 S0 ws S bo de me < rxm223_0 S0 ws S bo de me := by
  obtain ⟨rfl, hw⟩ := hinv
  exact ⟨trivial, trivial, ⟨rfl, by omega, hw⟩, by unfold rxm223_0 rxm223_1; omega⟩
theorem rxg223_0_6 {X : (Nat → Int → Int) → Prop} {S0 : Nat → Int → Int} {ws : List Int} (hP : rxP223 S0 ws) : bx_obC rxL X S0 rxC223.2.2.1 (rxI223 S0 ws) (rxm223 S0 ws) 0 rxz223_0 rxo223_0_6 := by
  intro S S_p r r_p hinv hX hin hsm_ hseg
  obtain ⟨I0, I1, h0_, hr_, b_, f_, d_⟩ := bx_cl (evs := []) (fvs := []) hseg (by decide +kernel) (by decide +kernel)
  have hinv : rxI223_0 S0 ws S (r 8) (r 9) (r 10) := hinv
  rw [← hr_ 8 (by decide), ← hr_ 9 (by decide), ← hr_ 10 (by decide)] at hinv
  obtain ⟨⟨l8, u8⟩, ⟨l9, u9⟩, ⟨l10, u10⟩, -⟩ := b_
  have w_ := d_
  subst w_
  have g := rxc223_0_6 hP hin I0 hinv l8 u8 l9 u9 l10 u10
  refine ⟨bx_narP_ok (l := []) g.1, bx_nfP_ok h0_ (fvs := []) (by decide +kernel) g.2.1, ?_, ?_⟩
  · show rxI223_1 S0 ws S_p (bx_val [(0, 0), (0, 0), (0, 0), (0, 0), (0, 0), (0, 0), (0, 0), (0, 0), (8, 0), (9, 0), (10, 0)] r_p 8) (bx_val [(0, 0), (0, 0), (0, 0), (0, 0), (0, 0), (0, 0), (0, 0), (0, 0), (8, 0), (9, 0), (10, 0)] r_p 9) (bx_val [(0, 0), (0, 0), (0, 0), (0, 0), (0, 0), (0, 0), (0, 0), (0, 0), (8, 0), (9, 0), (10, 0)] r_p 10)
    rw [bx_val_x (n := 8) (e := (8, 0)) h0_ rfl, bx_val_x (n := 9) (e := (9, 0)) h0_ rfl, bx_val_x (n := 10) (e := (10, 0)) h0_ rfl]
    exact g.2.2.1
  · show rxm223_1 S0 ws S_p (bx_val [(0, 0), (0, 0), (0, 0), (0, 0), (0, 0), (0, 0), (0, 0), (0, 0), (8, 0), (9, 0), (10, 0)] r_p 8) (bx_val [(0, 0), (0, 0), (0, 0), (0, 0), (0, 0), (0, 0), (0, 0), (0, 0), (8, 0), (9, 0), (10, 0)] r_p 9) (bx_val [(0, 0), (0, 0), (0, 0), (0, 0), (0, 0), (0, 0), (0, 0), (0, 0), (8, 0), (9, 0), (10, 0)] r_p 10) < rxm223_0 S0 ws S_p (r 8) (r 9) (r 10)
    rw [bx_val_x (n := 8) (e := (8, 0)) h0_ rfl, bx_val_x (n := 9) (e := (9, 0)) h0_ rfl, bx_val_x (n := 10) (e := (10, 0)) h0_ rfl, ← hr_ 8 (by decide), ← hr_ 9 (by decide), ← hr_ 10 (by decide)]
    exact g.2.2.2
theorem rxd223_0_0 {S0 : Nat → Int → Int} {ws : List Int} {S : Nat → Int → Int} {bo de me x11 : Int} (hP : rxP223 S0 ws) (hin : bx_same rxL (bx_mdl rxC223.2.2.1) S0 S) (hin2 : bx_same rxL (bx_mdl rxC223.2.2.1) S (bx_up (bx_up (bx_up (bx_up (bx_up S 6 x11 bo) 7 x11 de) 8 x11 me) 5 0 (x11 + 1)) 0 8 0)) (I0 : bx_Inv rxL S) (I1 : bx_Inv rxL (bx_up (bx_up (bx_up (bx_up (bx_up S 6 x11 bo) 7 x11 de) 8 x11 me) 5 0 (x11 + 1)) 0 8 0)) (hinv : rxI223_0 S0 ws S bo de me) (l8 : 0 ≤ bo) (u8 : bo ≤ 200) (l9 : 1 ≤ de) (u9 : de ≤ 300) (l10 : 1 ≤ me) (u10 : me ≤ 9) (l11 : 0 ≤ x11) (u11 : x11 ≤ 7) (f0 : bo < de) (e5 : S 5 0 = x11) : (True) ∧ rxPS223 S0 ws (bx_up (bx_up (bx_up (bx_up (bx_up S 6 x11 bo) 7 x11 de) 8 x11 me) 5 0 (x11 + 1)) 0 8 0) (some x11) := by
  obtain ⟨rfl, hw⟩ := hinv
  refine ⟨trivial, bo, de, me, hw, Or.inr (Or.inr (⟨?_, ?_, ?_, ?_, ?_, ?_, ?_, ?_, ((bx_up_ne (by omega)).trans (bx_up_at)).trans (by omega), ?_, ?_, ?_, (bx_up_ne (by omega)).trans ((bx_up_ne (by omega)).trans ((bx_up_ne (by omega)).trans ((bx_up_ne (by omega)).trans ((bx_up_ne (by omega)))))), (bx_up_ne (by omega)).trans ((bx_up_ne (by omega)).trans ((bx_up_ne (by omega)).trans ((bx_up_ne (by omega)).trans ((bx_up_ne (by omega)))))), ?_, ?_, ?_, ?_, ?_, ?_⟩))⟩ <;> first | omega | exact hin2 | exact congrArg some (by omega) | (intro i i0 i1; simp only [bx_up]; (repeat' split) <;> first | rfl | omega | (simp_all; done) | (simp_all; omega)) | ((repeat (first | rw [bx_up_at] | rw [bx_up_ne (by omega)])); omega) | exact True.intro
theorem rxf223_0_0 {X : (Nat → Int → Int) → Prop} {S0 : Nat → Int → Int} {ws : List Int} (hP : rxP223 S0 ws) : bx_obE rxL X S0 rxC223.2.2.1 (rxI223 S0 ws) (rxPS223 S0 ws) 0 rxz223_0 rxe223_0_0 := by
  intro S S_p r r_p hinv hX hin hsm_ hseg
  obtain ⟨I0, I1, h0_, hr_, b_, f_, d_⟩ := bx_cl (evs := [(1, (0, 0), (0, 8), .inr (0, (0, 0))), (1, (0, 5), (0, 0), .inr (0, (11, 1))), (1, (0, 8), (11, 0), .inr (0, (10, 0))), (1, (0, 7), (11, 0), .inr (0, (9, 0))), (1, (0, 6), (11, 0), .inr (0, (8, 0))), (0, (0, 5), (0, 0), .inr (0, (11, 0)))]) (fvs := [(0, (8, 0), (9, 0), (0, 0))]) hseg (by decide +kernel) (by decide +kernel)
  have hinv : rxI223_0 S0 ws S (r 8) (r 9) (r 10) := hinv
  rw [← hr_ 8 (by decide), ← hr_ 9 (by decide), ← hr_ 10 (by decide)] at hinv
  obtain ⟨⟨l8, u8⟩, ⟨l9, u9⟩, ⟨l10, u10⟩, ⟨l11, u11⟩, -⟩ := b_
  obtain ⟨f0, -⟩ := f_
  obtain ⟨T0, ⟨T1, ⟨T2, ⟨T3, ⟨T4, ⟨e5, w_⟩, w4⟩, w3⟩, w2⟩, w1⟩, w0⟩ := d_
  subst w0
  subst w1
  subst w2
  subst w3
  subst w4
  subst w_
  have g := rxd223_0_0 hP hin hsm_ I0 I1 hinv l8 u8 l9 u9 l10 u10 l11 u11 f0 e5
  refine ⟨bx_narP_ok (l := []) g.1, ?_⟩
  show rxPS223 S0 ws (bx_up (bx_up (bx_up (bx_up (bx_up T4 6 (r_p 11) (r_p 8)) 7 (r_p 11) (r_p 9)) 8 (r_p 11) (r_p 10)) 5 (0) (r_p 11 + 1)) 0 (8) (0)) (some (bx_num r_p (.inr (0, (11, 0)))))
  rw [bx_xv_ok h0_]
  exact g.2
theorem rxd223_2_0 {S0 : Nat → Int → Int} {ws : List Int} {S : Nat → Int → Int} {bo de me res : Int} (hP : rxP223 S0 ws) (hin : bx_same rxL (bx_mdl rxC223.2.2.1) S0 S) (hin2 : bx_same rxL (bx_mdl rxC223.2.2.1) S S) (I0 : bx_Inv rxL S) (I1 : bx_Inv rxL S) (hinv : rxI223_2 S0 ws S bo de me res) (l8 : (-2147483648) ≤ bo) (u8 : bo ≤ 2147483647) (l9 : (-2147483648) ≤ de) (u9 : de ≤ 2147483647) (l10 : (-2147483648) ≤ me) (u10 : me ≤ 2147483647) (l11 : (-6) ≤ res) (u11 : res ≤ (-1)) : (True) ∧ rxPS223 S0 ws S (some res) := by
  obtain ⟨h1, h2, hw, hs⟩ := hinv
  refine ⟨trivial, bo, de, me, hw, Or.inl (⟨by omega, ?_, ?_⟩)⟩
  · exact congrArg some h1
  · exact hs
theorem rxf223_2_0 {X : (Nat → Int → Int) → Prop} {S0 : Nat → Int → Int} {ws : List Int} (hP : rxP223 S0 ws) : bx_obE rxL X S0 rxC223.2.2.1 (rxI223 S0 ws) (rxPS223 S0 ws) 2 rxz223_2 rxe223_2_0 := by
  intro S S_p r r_p hinv hX hin hsm_ hseg
  obtain ⟨I0, I1, h0_, hr_, b_, f_, d_⟩ := bx_cl (evs := []) (fvs := []) hseg (by decide +kernel) (by decide +kernel)
  have hinv : rxI223_2 S0 ws S (r 8) (r 9) (r 10) (r 11) := hinv
  rw [← hr_ 8 (by decide), ← hr_ 9 (by decide), ← hr_ 10 (by decide), ← hr_ 11 (by decide)] at hinv
  obtain ⟨⟨l8, u8⟩, ⟨l9, u9⟩, ⟨l10, u10⟩, ⟨l11, u11⟩, -⟩ := b_
  have w_ := d_
  subst w_
  have g := rxd223_2_0 hP hin hsm_ I0 I1 hinv l8 u8 l9 u9 l10 u10 l11 u11
  refine ⟨bx_narP_ok (l := []) g.1, ?_⟩
  show rxPS223 S0 ws S_p (some (bx_num r_p (.inr (0, (11, 0)))))
  rw [bx_xv_ok h0_]
  exact g.2
theorem rxd223_4_0 {S0 : Nat → Int → Int} {ws : List Int} {S : Nat → Int → Int} {bo de me res : Int} (hP : rxP223 S0 ws) (hin : bx_same rxL (bx_mdl rxC223.2.2.1) S0 S) (hin2 : bx_same rxL (bx_mdl rxC223.2.2.1) S S) (I0 : bx_Inv rxL S) (I1 : bx_Inv rxL S) (hinv : rxI223_4 S0 ws S bo de me res) (l8 : 0 ≤ bo) (u8 : bo ≤ 200) (l9 : (-2147483648) ≤ de) (u9 : de ≤ 300) (l10 : (-2147483648) ≤ me) (u10 : me ≤ 2147483647) (l11 : (-6) ≤ res) (u11 : res ≤ (-1)) : (True) ∧ rxPS223 S0 ws S (some res) := by
  obtain ⟨h1, h2, hw, hs⟩ := hinv
  refine ⟨trivial, bo, de, me, hw, Or.inr (Or.inl (⟨by omega, by omega, by omega, by omega, by omega, by omega, by omega, ?_, ?_⟩))⟩
  · exact congrArg some h1
  · exact hs
theorem rxf223_4_0 {X : (Nat → Int → Int) → Prop} {S0 : Nat → Int → Int} {ws : List Int} (hP : rxP223 S0 ws) : bx_obE rxL X S0 rxC223.2.2.1 (rxI223 S0 ws) (rxPS223 S0 ws) 4 rxz223_4 rxe223_4_0 := by
  intro S S_p r r_p hinv hX hin hsm_ hseg
  obtain ⟨I0, I1, h0_, hr_, b_, f_, d_⟩ := bx_cl (evs := []) (fvs := []) hseg (by decide +kernel) (by decide +kernel)
  have hinv : rxI223_4 S0 ws S (r 8) (r 9) (r 10) (r 11) := hinv
  rw [← hr_ 8 (by decide), ← hr_ 9 (by decide), ← hr_ 10 (by decide), ← hr_ 11 (by decide)] at hinv
  obtain ⟨⟨l8, u8⟩, ⟨l9, u9⟩, ⟨l10, u10⟩, ⟨l11, u11⟩, -⟩ := b_
  have w_ := d_
  subst w_
  have g := rxd223_4_0 hP hin hsm_ I0 I1 hinv l8 u8 l9 u9 l10 u10 l11 u11
  refine ⟨bx_narP_ok (l := []) g.1, ?_⟩
  show rxPS223 S0 ws S_p (some (bx_num r_p (.inr (0, (11, 0)))))
  rw [bx_xv_ok h0_]
  exact g.2
theorem rxgC223 {X : (Nat → Int → Int) → Prop} {S0 : Nat → Int → Int} {ws : List Int} (hP : rxP223 S0 ws) : bx_allI (fun i q => rxU223 q = true ∨ bx_allP (fun o => bx_obC rxL X S0 rxC223.2.2.1 (rxI223 S0 ws) (rxm223 S0 ws) i q.1 o) q.2.1) 0 rxY223 := ⟨Or.inr ⟨rxg223_0_0 hP, rxg223_0_1 hP, rxg223_0_2 hP, rxg223_0_3 hP, rxg223_0_4 hP, rxg223_0_5 hP, rxg223_0_6 hP, trivial⟩, Or.inl rfl, Or.inr trivial, Or.inl rfl, Or.inr trivial, trivial⟩
theorem rxgE223 {X : (Nat → Int → Int) → Prop} {S0 : Nat → Int → Int} {ws : List Int} (hP : rxP223 S0 ws) : bx_allI (fun i q => rxU223 q = true ∨ bx_allP (fun E => bx_obE rxL X S0 rxC223.2.2.1 (rxI223 S0 ws) (rxPS223 S0 ws) i q.1 E) q.2.2) 0 rxY223 := ⟨Or.inr ⟨rxf223_0_0 hP, trivial⟩, Or.inl rfl, Or.inr ⟨rxf223_2_0 hP, trivial⟩, Or.inl rfl, Or.inr ⟨rxf223_4_0 hP, trivial⟩, trivial⟩
theorem rxu223 {PX : State → Prop} {Dg : va_G} {A : Nat → Prop} {ad xa : Nat → Nat} {l : Launch} {X : (Nat → Int → Int) → Prop} (hPX : rx_PXOK rxNW A PX) (hX : ∀ S S1 : Nat → Int → Int, X S → bx_same rxL (bx_mdl rxC223.2.2.1) S S1 → X S1) (hQ110 : bx_ConP rxG rxNW rxAO PX Dg rxL X vwCl A ad l rxM110 rxC110 rxP110 rxPS110) {S0 : Nat → Int → Int} {ws : List Int} (hP : rxP223 S0 ws) : ∀ (i : Nat) (q : bx_HE), rxY223[i]? = some q → rxU223 q = true → ∀ {p : Program} {e : Env} {R : Room} {s : State} {m : MethodId} {args : Array Value} {below : List Frame} {meth : Method} {c : Code} {Q : State → Prop} {H0 : Heap}, rx_Fr rxG rxNW rxAO PX p s m args meth c rxM223 → (∀ q, H0.size ≤ q → A q) → H0 = s.heap → rxM223.2.2.2.2.2.2.1 ≤ R.cells → rxM223.2.2.2.2.2.2.2 ≤ R.slots → rxC223.2.2.2.1 ≤ R.frames → rxC223.2.2.2.1 * 40 ≤ R.locals → bx_Step p l e R s m args below meth c Q Dg rxL X vwCl A xa H0 ad rxM223 rxY223 (rxI223 S0 ws) (rxm223 S0 ws) S0 rxC223.2.2.1 i q := by
  intro i q hq hus p e R s m args below meth c Q H0 hF hA hH0 hmc hms hd hdl
  match i, hq with
  | 0, hq =>
    cases hq
    exact absurd (show false = true from hus) Bool.false_ne_true
  | 1, hq =>
    cases hq
    exact rx_stepC (ins := .invokevirtual 110) (len := 3) (i_p := 2) (M_p := rxM110) (d := rxC223.2.2.2.1) (as := [.inr (3, (0, 0)), .inr (0, (0, (-1)))]) (t := []) (ct := rxC110) hPX hF rfl hA hH0 hmc hms hd hdl (by decide +kernel) rfl rfl (by decide +kernel) (by decide +kernel) hQ110 (by decide +kernel) rfl (Or.inr ⟨_, _, _, 1, rfl, rfl, by omega, rfl, rfl, rfl⟩) (rxs223_1 hP)
  | 2, hq =>
    cases hq
    exact absurd (show false = true from hus) Bool.false_ne_true
  | 3, hq =>
    cases hq
    exact rx_stepC (ins := .invokevirtual 110) (len := 3) (i_p := 4) (M_p := rxM110) (d := rxC223.2.2.2.1) (as := [.inr (3, (0, 0)), .inr (0, (0, (-5)))]) (t := []) (ct := rxC110) hPX hF rfl hA hH0 hmc hms hd hdl (by decide +kernel) rfl rfl (by decide +kernel) (by decide +kernel) hQ110 (by decide +kernel) rfl (Or.inr ⟨_, _, _, 1, rfl, rfl, by omega, rfl, rfl, rfl⟩) (rxs223_3 hP)
  | 4, hq =>
    cases hq
    exact absurd (show false = true from hus) Bool.false_ne_true
  | n + 5, hq => cases hq
theorem rxQ223 {PX : State → Prop} {Dg : va_G} {A : Nat → Prop} {ad xa : Nat → Nat} {l : Launch} {X : (Nat → Int → Int) → Prop} (hPX : rx_PXOK rxNW A PX) (hsl : ∀ s : State, PX s → ∀ o idx n : Nat, rxSl o idx = some n → ∃ tx : String, vk_R (rxNm o) idx tx (ad n) s)
    (hX : ∀ S S_p : Nat → Int → Int, X S → bx_same rxL (bx_mdl rxC223.2.2.1) S S_p → X S_p)
    (ih : ∀ (j2 : Nat) (ct2 : bx_Ct) (M2 : rx_Mt), ct2 ∈ rxCnE j2 → ct2.2.2.2.1 + 1 ≤ rxC223.2.2.2.1 → rxT.2.2.2.2.2 j2 = some M2 → bx_Con rxG rxNW rxAO PX Dg rxL X vwCl A ad l M2 ct2) (hQ110 : bx_ConP rxG rxNW rxAO PX Dg rxL X vwCl A ad l rxM110 rxC110 rxP110 rxPS110) : bx_ConP rxG rxNW rxAO PX Dg rxL X vwCl A ad l rxM223 rxC223 rxP223 rxPS223 :=
  rxQof (xa := xa) (Cn := rxCnE) (f := 30000) (j := 223) (tab := rxY223) (us := rxU223) hPX hsl hX ih rfl rxYc223 rxI223 rxm223
    (fun S0 ws r I0 I ht0 ht as he he1 hX0 hI0 hP hs ha => by
      have e := he.symm.trans (show bx_ent0 rxNP rxC223.1 bx_I0 [] = some ([(0, 0), (0, 0), (0, 0), (0, 0), (0, 0), (0, 0), (0, 0), (0, 0), ((-2147483648), 2147483647), ((-2147483648), 2147483647), ((-2147483648), 2147483647)], [], [.inr (3, (0, 0)), .inr (0, (8, 0)), .inr (0, (9, 0)), .inr (0, (10, 0))]) from rfl)
      cases e
      subst ha
      have h0 : r 0 = 0 := hs.1
      show rxI223_0 S0 _ S0 (r 8) (r 9) (r 10)
      refine ⟨rfl, ?_⟩
      simp only [List.map_cons, List.map_nil, bx_xv_ok h0]
      rfl)
    (fun S0 ws hP => rxu223 (xa := xa) hPX hX hQ110 hP) (fun S0 ws hP => rxgC223 hP) (fun S0 ws hP => rxgE223 hP)
set_option maxHeartbeats 1000000 in
theorem rzQ223 {PX : State → Prop} {Dg : va_G} {A : Nat → Prop} {ad : Nat → Nat} {l : Launch} (hPX : rx_PXOK rxNW A PX) (hsl : ∀ s : State, PX s → ∀ o idx n : Nat, rxSl o idx = some n → ∃ tx : String, vk_R (rxNm o) idx tx (ad n) s) (ih : ∀ (j : Nat) (ct : bx_Ct) (M : rx_Mt), ct ∈ rxCn j → rxT.2.2.2.2.2 j = some M → bx_Con rxG rxNW rxAO PX Dg rxL rxX vwCl A ad l M ct) : bx_ConP rxG rxNW rxAO PX Dg rxL rxX vwCl A ad l rxM223 rxC223 (fun _ _ => True) rxPS223 := by
  have q110 := rxQ110 (PX := PX) (Dg := Dg) (A := A) (ad := ad) (xa := fun n => n) (l := l) (X := rxX) hPX hsl (fun _ _ h hm => rxX_of (by decide +kernel) h hm) (fun _ _ _ h => absurd h List.not_mem_nil)
  have q223 := rxQ223 (PX := PX) (Dg := Dg) (A := A) (ad := ad) (xa := fun n => n) (l := l) (X := rxX) hPX hsl (fun _ _ h hm => rxX_of (by decide +kernel) h hm) (fun _ _ _ h => absurd h List.not_mem_nil) q110
  exact fun S0 ws h1 h2 h3 _ => q223 S0 ws h1 h2 h3 trivial
noncomputable def rxI225_0 (S0 : Nat → Int → Int) (ws : List Int) (S : Nat → Int → Int) (pe wh va : Int) : Prop := S = S0 ∧ ws = [0, pe, wh, va]
noncomputable def rxm225_0 (S0 : Nat → Int → Int) (ws : List Int) (S : Nat → Int → Int) (pe wh va : Int) : Nat := 100
noncomputable def rxz225_0 : rx_Z := ([(0, 0), (0, 0), (0, 0), (0, 0), (0, 0), (0, 0), (0, 0), (0, 0), ((-2147483648), 2147483647), ((-2147483648), 2147483647), ((-2147483648), 2147483647)], [], [], 0, 0, 0, [(0, .inr (3, (0, 0))), (1, .inr (0, (8, 0))), (2, .inr (0, (9, 0))), (3, .inr (0, (10, 0)))], [])
noncomputable def rxI225_1 (S0 : Nat → Int → Int) (ws : List Int) (S : Nat → Int → Int) (pe wh va : Int) : Prop := S = S0 ∧ (((wh = 0 ∧ (va < 0 ∨ 300 < va)) ∨ (wh = 1 ∧ (va < 1 ∨ 9 < va)) ∨ (wh ≠ 0 ∧ wh ≠ 1))) ∧ ws = [0, pe, wh, va]
noncomputable def rxm225_1 (S0 : Nat → Int → Int) (ws : List Int) (S : Nat → Int → Int) (pe wh va : Int) : Nat := 50
noncomputable def rxz225_1 : rx_Z := ([(0, 0), (0, 0), (0, 0), (0, 0), (0, 0), (0, 0), (0, 0), (0, 0), ((-2147483648), 2147483647), ((-2147483648), 2147483647), ((-2147483648), 2147483647)], [], [], 0, 0, 37, [(0, .inr (3, (0, 0))), (1, .inr (0, (8, 0))), (2, .inr (0, (9, 0))), (3, .inr (0, (10, 0))), (4, .inr (0, (0, 0)))], [.inr (0, (0, (-1))), .inr (3, (0, 0))])
noncomputable def rxI225_2 (S0 : Nat → Int → Int) (ws : List Int) (S : Nat → Int → Int) (pe wh va res : Int) : Prop := res = (-1) ∧ (((wh = 0 ∧ (va < 0 ∨ 300 < va)) ∨ (wh = 1 ∧ (va < 1 ∨ 9 < va)) ∨ (wh ≠ 0 ∧ wh ≠ 1))) ∧ ws = [0, pe, wh, va] ∧ bx_same rxL (bx_mdl rxC110.2.2.1) S0 S
noncomputable def rxm225_2 (S0 : Nat → Int → Int) (ws : List Int) (S : Nat → Int → Int) (pe wh va res : Int) : Nat := 20
noncomputable def rxz225_2 : rx_Z := ([(0, 0), (0, 0), (0, 0), (0, 0), (0, 0), (0, 0), (0, 0), (0, 0), ((-2147483648), 2147483647), ((-2147483648), 2147483647), ((-2147483648), 2147483647), ((-6), (-1))], [], [], 0, 0, 40, [(0, .inr (3, (0, 0))), (1, .inr (0, (8, 0))), (2, .inr (0, (9, 0))), (3, .inr (0, (10, 0))), (4, .inr (0, (0, 0)))], [.inr (0, (11, 0))])
noncomputable def rxI225_3 (S0 : Nat → Int → Int) (ws : List Int) (S : Nat → Int → Int) (pe wh va : Int) : Prop := S = S0 ∧ (((wh = 0 ∧ 0 ≤ va ∧ va ≤ 300) ∨ (wh = 1 ∧ 1 ≤ va ∧ va ≤ 9)) ∧ (pe < 0 ∨ S 5 0 ≤ pe)) ∧ ws = [0, pe, wh, va]
noncomputable def rxm225_3 (S0 : Nat → Int → Int) (ws : List Int) (S : Nat → Int → Int) (pe wh va : Int) : Nat := 50
noncomputable def rxz225_3 : rx_Z := ([(0, 0), (0, 0), (0, 0), (0, 0), (0, 0), (0, 0), (0, 0), (0, 0), ((-2147483648), 2147483647), (0, 1), (0, 300)], [], [], 0, 0, 62, [(0, .inr (3, (0, 0))), (1, .inr (0, (8, 0))), (2, .inr (0, (9, 0))), (3, .inr (0, (10, 0))), (4, .inr (0, (0, 1))), (5, .inr (3, (0, 5)))], [.inr (0, (0, (-2))), .inr (3, (0, 0))])
noncomputable def rxI225_4 (S0 : Nat → Int → Int) (ws : List Int) (S : Nat → Int → Int) (pe wh va res : Int) : Prop := res = (-2) ∧ (((wh = 0 ∧ 0 ≤ va ∧ va ≤ 300) ∨ (wh = 1 ∧ 1 ≤ va ∧ va ≤ 9)) ∧ (pe < 0 ∨ S0 5 0 ≤ pe)) ∧ ws = [0, pe, wh, va] ∧ bx_same rxL (bx_mdl rxC110.2.2.1) S0 S
noncomputable def rxm225_4 (S0 : Nat → Int → Int) (ws : List Int) (S : Nat → Int → Int) (pe wh va res : Int) : Nat := 20
noncomputable def rxz225_4 : rx_Z := ([(0, 0), (0, 0), (0, 0), (0, 0), (0, 0), (0, 0), (0, 0), (0, 0), ((-2147483648), 2147483647), (0, 1), (0, 300), ((-6), (-1))], [], [], 0, 0, 65, [(0, .inr (3, (0, 0))), (1, .inr (0, (8, 0))), (2, .inr (0, (9, 0))), (3, .inr (0, (10, 0))), (4, .inr (0, (0, 1))), (5, .inr (3, (0, 5)))], [.inr (0, (11, 0))])
noncomputable def rxI225_5 (S0 : Nat → Int → Int) (ws : List Int) (S : Nat → Int → Int) (pe wh va : Int) : Prop := S = S0 ∧ (wh = 0 ∧ 0 ≤ va ∧ va ≤ 300 ∧ 0 ≤ pe ∧ pe ≤ 7 ∧ pe < S 5 0 ∧ va ≤ S 6 pe) ∧ ws = [0, pe, wh, va]
noncomputable def rxm225_5 (S0 : Nat → Int → Int) (ws : List Int) (S : Nat → Int → Int) (pe wh va : Int) : Nat := 50
noncomputable def rxz225_5 : rx_Z := ([(0, 0), (0, 0), (0, 0), (0, 0), (0, 0), (0, 0), (0, 0), (0, 0), (0, 7), (0, 0), (0, 200)], [], [], 0, 0, 83, [(0, .inr (3, (0, 0))), (1, .inr (0, (8, 0))), (2, .inr (0, (9, 0))), (3, .inr (0, (10, 0))), (4, .inr (0, (0, 1))), (5, .inr (3, (0, 5)))], [.inr (0, (0, (-1))), .inr (3, (0, 0))])
noncomputable def rxI225_6 (S0 : Nat → Int → Int) (ws : List Int) (S : Nat → Int → Int) (pe wh va res : Int) : Prop := res = (-1) ∧ (wh = 0 ∧ 0 ≤ va ∧ va ≤ 300 ∧ 0 ≤ pe ∧ pe ≤ 7 ∧ pe < S0 5 0 ∧ va ≤ S0 6 pe) ∧ ws = [0, pe, wh, va] ∧ bx_same rxL (bx_mdl rxC110.2.2.1) S0 S
noncomputable def rxm225_6 (S0 : Nat → Int → Int) (ws : List Int) (S : Nat → Int → Int) (pe wh va res : Int) : Nat := 20
noncomputable def rxz225_6 : rx_Z := ([(0, 0), (0, 0), (0, 0), (0, 0), (0, 0), (0, 0), (0, 0), (0, 0), (0, 7), (0, 0), (0, 200), ((-6), (-1))], [], [], 0, 0, 86, [(0, .inr (3, (0, 0))), (1, .inr (0, (8, 0))), (2, .inr (0, (9, 0))), (3, .inr (0, (10, 0))), (4, .inr (0, (0, 1))), (5, .inr (3, (0, 5)))], [.inr (0, (11, 0))])
noncomputable def rxo225_0_0 : bx_HO := (([(0, 0), (0, 0), (0, 0), (0, 0), (0, 0), (0, 0), (0, 0), (0, 0), ((-2147483648), 2147483647), (0, 0), ((-2147483648), (-1))], [], [], 0, 0, 37, [(4, .inr (0, (0, 0))), (0, .inr (3, (0, 0))), (1, .inr (0, (8, 0))), (2, .inr (0, (9, 0))), (3, .inr (0, (10, 0)))], [.inr (0, (0, (-1))), .inr (3, (0, 0))]), [], [], [(0, 0), (0, 0), (0, 0), (0, 0), (0, 0), (0, 0), (0, 0), (0, 0), (8, 0), (9, 0), (10, 0)], 1)
noncomputable def rxo225_0_1 : bx_HO := (([(0, 0), (0, 0), (0, 0), (0, 0), (0, 0), (0, 0), (0, 0), (0, 0), ((-2147483648), 2147483647), (0, 0), (301, 2147483647)], [], [], 0, 0, 37, [(4, .inr (0, (0, 0))), (0, .inr (3, (0, 0))), (1, .inr (0, (8, 0))), (2, .inr (0, (9, 0))), (3, .inr (0, (10, 0)))], [.inr (0, (0, (-1))), .inr (3, (0, 0))]), [], [], [(0, 0), (0, 0), (0, 0), (0, 0), (0, 0), (0, 0), (0, 0), (0, 0), (8, 0), (9, 0), (10, 0)], 1)
noncomputable def rxo225_0_2 : bx_HO := (([(0, 0), (0, 0), (0, 0), (0, 0), (0, 0), (0, 0), (0, 0), (0, 0), ((-2147483648), (-1)), (0, 0), (0, 300)], [], [(((0, 1), 4), .inr (3, (0, 5))), (((0, 0), 0), .inr (3, (0, 1)))], 0, 0, 62, [(5, .inr (3, (0, 5))), (4, .inr (0, (0, 1))), (0, .inr (3, (0, 0))), (1, .inr (0, (8, 0))), (2, .inr (0, (9, 0))), (3, .inr (0, (10, 0)))], [.inr (0, (0, (-2))), .inr (3, (0, 0))]), [], [], [(0, 0), (0, 0), (0, 0), (0, 0), (0, 0), (0, 0), (0, 0), (0, 0), (8, 0), (9, 0), (10, 0)], 3)
noncomputable def rxo225_0_3 : bx_HO := (([(0, 0), (0, 0), (0, 0), (0, 0), (0, 0), (0, 0), (0, 0), (0, 0), (0, 2147483647), (0, 0), (0, 300), (0, 8)], [(1, (11, 0), (8, 0))], [(((0, 0), 1851192626986356797424340330377019318111018015026043177556312064000000), .inr (0, (11, 0))), (((0, 5), 0), .inr (0, (11, 0))), (((0, 1), 4), .inr (3, (0, 5))), (((0, 0), 0), .inr (3, (0, 1)))], 0, 0, 62, [(5, .inr (3, (0, 5))), (4, .inr (0, (0, 1))), (0, .inr (3, (0, 0))), (1, .inr (0, (8, 0))), (2, .inr (0, (9, 0))), (3, .inr (0, (10, 0)))], [.inr (0, (0, (-2))), .inr (3, (0, 0))]), [], [], [(0, 0), (0, 0), (0, 0), (0, 0), (0, 0), (0, 0), (0, 0), (0, 0), (8, 0), (9, 0), (10, 0)], 3)
noncomputable def rxo225_0_4 : bx_HO := (([(0, 0), (0, 0), (0, 0), (0, 0), (0, 0), (0, 0), (0, 0), (0, 0), (0, 7), (0, 0), (0, 200), (1, 8), (0, 200)], [(1, (10, 0), (12, 0)), (0, (8, 0), (11, 0))], [(((0, 0), 1851192626986356797424364830707437625680387377997778264868126720000000), .inr (0, (12, 0))), (((0, 5), 1), .inr (3, (0, 6))), (((0, 0), 1851192626986356797424340330377019318111018015026043177556312064000000), .inr (0, (11, 0))), (((0, 5), 0), .inr (0, (11, 0))), (((0, 1), 4), .inr (3, (0, 5))), (((0, 0), 0), .inr (3, (0, 1)))], 0, 0, 83, [(5, .inr (3, (0, 5))), (4, .inr (0, (0, 1))), (0, .inr (3, (0, 0))), (1, .inr (0, (8, 0))), (2, .inr (0, (9, 0))), (3, .inr (0, (10, 0)))], [.inr (0, (0, (-1))), .inr (3, (0, 0))]), [], [], [(0, 0), (0, 0), (0, 0), (0, 0), (0, 0), (0, 0), (0, 0), (0, 0), (8, 0), (9, 0), (10, 0)], 5)
noncomputable def rxo225_0_5 : bx_HO := (([(0, 0), (0, 0), (0, 0), (0, 0), (0, 0), (0, 0), (0, 0), (0, 0), ((-2147483648), 2147483647), (1, 1), ((-2147483648), 0)], [(3, (9, 0), (0, 0))], [], 0, 0, 37, [(4, .inr (0, (0, 0))), (0, .inr (3, (0, 0))), (1, .inr (0, (8, 0))), (2, .inr (0, (9, 0))), (3, .inr (0, (10, 0)))], [.inr (0, (0, (-1))), .inr (3, (0, 0))]), [], [], [(0, 0), (0, 0), (0, 0), (0, 0), (0, 0), (0, 0), (0, 0), (0, 0), (8, 0), (9, 0), (10, 0)], 1)
noncomputable def rxo225_0_6 : bx_HO := (([(0, 0), (0, 0), (0, 0), (0, 0), (0, 0), (0, 0), (0, 0), (0, 0), ((-2147483648), 2147483647), (1, 1), (10, 2147483647)], [(3, (9, 0), (0, 0))], [], 0, 0, 37, [(4, .inr (0, (0, 0))), (0, .inr (3, (0, 0))), (1, .inr (0, (8, 0))), (2, .inr (0, (9, 0))), (3, .inr (0, (10, 0)))], [.inr (0, (0, (-1))), .inr (3, (0, 0))]), [], [], [(0, 0), (0, 0), (0, 0), (0, 0), (0, 0), (0, 0), (0, 0), (0, 0), (8, 0), (9, 0), (10, 0)], 1)
noncomputable def rxo225_0_7 : bx_HO := (([(0, 0), (0, 0), (0, 0), (0, 0), (0, 0), (0, 0), (0, 0), (0, 0), ((-2147483648), (-1)), (1, 1), (1, 9)], [(3, (9, 0), (0, 0))], [(((0, 1), 4), .inr (3, (0, 5))), (((0, 0), 0), .inr (3, (0, 1)))], 0, 0, 62, [(5, .inr (3, (0, 5))), (4, .inr (0, (0, 1))), (0, .inr (3, (0, 0))), (1, .inr (0, (8, 0))), (2, .inr (0, (9, 0))), (3, .inr (0, (10, 0)))], [.inr (0, (0, (-2))), .inr (3, (0, 0))]), [], [], [(0, 0), (0, 0), (0, 0), (0, 0), (0, 0), (0, 0), (0, 0), (0, 0), (8, 0), (9, 0), (10, 0)], 3)
noncomputable def rxo225_0_8 : bx_HO := (([(0, 0), (0, 0), (0, 0), (0, 0), (0, 0), (0, 0), (0, 0), (0, 0), (0, 2147483647), (1, 1), (1, 9), (0, 8)], [(1, (11, 0), (8, 0)), (3, (9, 0), (0, 0))], [(((0, 0), 1851192626986356797424340330377019318111018015026043177556312064000000), .inr (0, (11, 0))), (((0, 5), 0), .inr (0, (11, 0))), (((0, 1), 4), .inr (3, (0, 5))), (((0, 0), 0), .inr (3, (0, 1)))], 0, 0, 62, [(5, .inr (3, (0, 5))), (4, .inr (0, (0, 1))), (0, .inr (3, (0, 0))), (1, .inr (0, (8, 0))), (2, .inr (0, (9, 0))), (3, .inr (0, (10, 0)))], [.inr (0, (0, (-2))), .inr (3, (0, 0))]), [], [], [(0, 0), (0, 0), (0, 0), (0, 0), (0, 0), (0, 0), (0, 0), (0, 0), (8, 0), (9, 0), (10, 0)], 3)
noncomputable def rxo225_0_9 : bx_HO := (([(0, 0), (0, 0), (0, 0), (0, 0), (0, 0), (0, 0), (0, 0), (0, 0), ((-2147483648), 2147483647), ((-2147483648), 2147483647), ((-2147483648), 2147483647)], [(3, (9, 0), (0, 1)), (3, (9, 0), (0, 0))], [], 0, 0, 37, [(4, .inr (0, (0, 0))), (0, .inr (3, (0, 0))), (1, .inr (0, (8, 0))), (2, .inr (0, (9, 0))), (3, .inr (0, (10, 0)))], [.inr (0, (0, (-1))), .inr (3, (0, 0))]), [], [], [(0, 0), (0, 0), (0, 0), (0, 0), (0, 0), (0, 0), (0, 0), (0, 0), (8, 0), (9, 0), (10, 0)], 1)
noncomputable def rxe225_0_0 : rx_End × List (Nat × Int × Int) := (([(0, 0), (0, 0), (0, 0), (0, 0), (0, 0), (0, 0), (0, 0), (0, 0), (0, 7), (0, 0), (1, 300), (1, 8), (0, 200), (0, 300)], [(0, (12, 0), (10, 0)), (0, (8, 0), (11, 0))], [(((0, 0), 1851192626986356799029993984671224184301589730656725205983952899000000), .inr (0, (0, 0))), (((0, 0), 8), .inr (0, (0, 0))), (((0, 0), 1851192626986356797424364830707437625680387377997778264868716547000000), .inr (0, (10, 0))), (((0, 0), 1851192626986356797424364830707437625680387377997778264868716544000000), .inr (0, (13, 0))), (((0, 5), 2), .inr (3, (0, 7))), (((0, 0), 1851192626986356797424364830707437625680387377997778264868126720000000), .inr (0, (12, 0))), (((0, 5), 1), .inr (3, (0, 6))), (((0, 0), 1851192626986356797424340330377019318111018015026043177556312064000000), .inr (0, (11, 0))), (((0, 5), 0), .inr (0, (11, 0))), (((0, 1), 4), .inr (3, (0, 5))), (((0, 0), 0), .inr (3, (0, 1)))], some (.inr (0, (13, 0)))), [])
noncomputable def rxe225_0_1 : rx_End × List (Nat × Int × Int) := (([(0, 0), (0, 0), (0, 0), (0, 0), (0, 0), (0, 0), (0, 0), (0, 0), (0, 7), (1, 1), (1, 9), (1, 8), (0, 9)], [(0, (8, 0), (11, 0)), (3, (9, 0), (0, 0))], [(((0, 0), 1851192626986356799029993984671224184301589730656725205983952899000000), .inr (0, (0, 0))), (((0, 0), 8), .inr (0, (0, 0))), (((0, 0), 1851192626986356797424364830707437625680387377997778264869306371000000), .inr (0, (10, 0))), (((0, 0), 1851192626986356797424364830707437625680387377997778264869306368000000), .inr (0, (12, 0))), (((0, 5), 3), .inr (3, (0, 8))), (((0, 0), 1851192626986356797424340330377019318111018015026043177556312064000000), .inr (0, (11, 0))), (((0, 5), 0), .inr (0, (11, 0))), (((0, 1), 4), .inr (3, (0, 5))), (((0, 0), 0), .inr (3, (0, 1)))], some (.inr (0, (12, 0)))), [])
noncomputable def rxe225_2_0 : rx_End × List (Nat × Int × Int) := (([(0, 0), (0, 0), (0, 0), (0, 0), (0, 0), (0, 0), (0, 0), (0, 0), ((-2147483648), 2147483647), ((-2147483648), 2147483647), ((-2147483648), 2147483647), ((-6), (-1))], [], [], some (.inr (0, (11, 0)))), [])
noncomputable def rxe225_4_0 : rx_End × List (Nat × Int × Int) := (([(0, 0), (0, 0), (0, 0), (0, 0), (0, 0), (0, 0), (0, 0), (0, 0), ((-2147483648), 2147483647), (0, 1), (0, 300), ((-6), (-1))], [], [], some (.inr (0, (11, 0)))), [])
noncomputable def rxe225_6_0 : rx_End × List (Nat × Int × Int) := (([(0, 0), (0, 0), (0, 0), (0, 0), (0, 0), (0, 0), (0, 0), (0, 0), (0, 7), (0, 0), (0, 200), ((-6), (-1))], [], [], some (.inr (0, (11, 0)))), [])
noncomputable def rxY225 : List bx_HE := [(rxz225_0, [rxo225_0_0, rxo225_0_1, rxo225_0_2, rxo225_0_3, rxo225_0_4, rxo225_0_5, rxo225_0_6, rxo225_0_7, rxo225_0_8, rxo225_0_9], [rxe225_0_0, rxe225_0_1]), (rxz225_1, [], []), (rxz225_2, [], [rxe225_2_0]), (rxz225_3, [], []), (rxz225_4, [], [rxe225_4_0]), (rxz225_5, [], []), (rxz225_6, [], [rxe225_6_0])]
noncomputable def rxU225 (q : bx_HE) : Bool := Nat.beq (rx_zpc q.1) 37 || Nat.beq (rx_zpc q.1) 62 || Nat.beq (rx_zpc q.1) 83
noncomputable def rxYB225 : bx_B := (rxV, rxNP, rxDmf, bx_mdH rxC225.2.2.1)
set_option maxRecDepth 100000 in
theorem rxYc225 : bx_chkH rxYB225 rxM225 rxC225 rxY225 (rxU225, fun cut z => rx_ex2 (rxCT rxYB225 rxCnE) cut 30000 rxC225.2.2.2.1 225 z) = true := by decide +kernel
noncomputable def rxI225 (S0 : Nat → Int → Int) (ws : List Int) (i : Nat) : bx_SP := fun S r => match i with | 0 => rxI225_0 S0 ws S (r 8) (r 9) (r 10) | 1 => rxI225_1 S0 ws S (r 8) (r 9) (r 10) | 2 => rxI225_2 S0 ws S (r 8) (r 9) (r 10) (r 11) | 3 => rxI225_3 S0 ws S (r 8) (r 9) (r 10) | 4 => rxI225_4 S0 ws S (r 8) (r 9) (r 10) (r 11) | 5 => rxI225_5 S0 ws S (r 8) (r 9) (r 10) | 6 => rxI225_6 S0 ws S (r 8) (r 9) (r 10) (r 11) | _ => False
noncomputable def rxm225 (S0 : Nat → Int → Int) (ws : List Int) (i : Nat) (S : Nat → Int → Int) (r : Nat → Int) : Nat := match i with | 0 => rxm225_0 S0 ws S (r 8) (r 9) (r 10) | 1 => rxm225_1 S0 ws S (r 8) (r 9) (r 10) | 2 => rxm225_2 S0 ws S (r 8) (r 9) (r 10) (r 11) | 3 => rxm225_3 S0 ws S (r 8) (r 9) (r 10) | 4 => rxm225_4 S0 ws S (r 8) (r 9) (r 10) (r 11) | 5 => rxm225_5 S0 ws S (r 8) (r 9) (r 10) | 6 => rxm225_6 S0 ws S (r 8) (r 9) (r 10) (r 11) | _ => 0
noncomputable def rxP225 (S0 : Nat → Int → Int) (ws : List Int) : Prop := True
noncomputable def rxPS225 (S0 : Nat → Int → Int) (ws : List Int) (S : Nat → Int → Int) (w : Option Int) : Prop := ∃ pe wh va : Int, ws = [0, pe, wh, va] ∧ ((((wh = 0 ∧ (va < 0 ∨ 300 < va)) ∨ (wh = 1 ∧ (va < 1 ∨ 9 < va)) ∨ (wh ≠ 0 ∧ wh ≠ 1)) ∧ w = some (-1) ∧ bx_same rxL (bx_mdl rxC110.2.2.1) S0 S) ∨ (((wh = 0 ∧ 0 ≤ va ∧ va ≤ 300) ∨ (wh = 1 ∧ 1 ≤ va ∧ va ≤ 9)) ∧ (pe < 0 ∨ S0 5 0 ≤ pe) ∧ w = some (-2) ∧ bx_same rxL (bx_mdl rxC110.2.2.1) S0 S) ∨ (wh = 0 ∧ 0 ≤ va ∧ va ≤ 300 ∧ 0 ≤ pe ∧ pe ≤ 7 ∧ pe < S0 5 0 ∧ va ≤ S0 6 pe ∧ w = some (-1) ∧ bx_same rxL (bx_mdl rxC110.2.2.1) S0 S) ∨ (wh = 0 ∧ 0 ≤ va ∧ va ≤ 300 ∧ 0 ≤ pe ∧ pe ≤ 7 ∧ pe < S0 5 0 ∧ S0 6 pe < va ∧ w = some (S0 7 pe) ∧ (∀ i : Int, 0 ≤ i → i < 8 → S 6 i = S0 6 i) ∧ (∀ i : Int, 0 ≤ i → i < 8 → S 7 i = if i = pe then va else S0 7 i) ∧ (∀ i : Int, 0 ≤ i → i < 8 → S 8 i = S0 8 i) ∧ (∀ i : Int, 0 ≤ i → i < 8 → S 144 i = S0 144 i) ∧ (∀ i : Int, 0 ≤ i → i < 8 → S 280 i = S0 280 i) ∧ (∀ i : Int, 0 ≤ i → i < 8 → S 145 i = S0 145 i) ∧ (∀ i : Int, 0 ≤ i → i < 8 → S 281 i = S0 281 i)) ∨ (wh = 1 ∧ 1 ≤ va ∧ va ≤ 9 ∧ 0 ≤ pe ∧ pe ≤ 7 ∧ pe < S0 5 0 ∧ w = some (S0 8 pe) ∧ (∀ i : Int, 0 ≤ i → i < 8 → S 6 i = S0 6 i) ∧ (∀ i : Int, 0 ≤ i → i < 8 → S 7 i = S0 7 i) ∧ (∀ i : Int, 0 ≤ i → i < 8 → S 8 i = if i = pe then va else S0 8 i) ∧ (∀ i : Int, 0 ≤ i → i < 8 → S 144 i = S0 144 i) ∧ (∀ i : Int, 0 ≤ i → i < 8 → S 280 i = S0 280 i) ∧ (∀ i : Int, 0 ≤ i → i < 8 → S 145 i = S0 145 i) ∧ (∀ i : Int, 0 ≤ i → i < 8 → S 281 i = S0 281 i)))
theorem rxk225_1 {S0 : Nat → Int → Int} {ws : List Int} {S : Nat → Int → Int} {pe wh va : Int} (hP : rxP225 S0 ws) (hin : bx_same rxL (bx_mdl rxC225.2.2.1) S0 S) (I0 : bx_Inv rxL S) (hinv : rxI225_1 S0 ws S pe wh va) (l8 : (-2147483648) ≤ pe) (u8 : pe ≤ 2147483647) (l9 : (-2147483648) ≤ wh) (u9 : wh ≤ 2147483647) (l10 : (-2147483648) ≤ va) (u10 : va ≤ 2147483647) : rxP110 S [0, (-1)] ∧ ∀ (S_p : Nat → Int → Int) (res : Int), (-6) ≤ res → res ≤ (-1) → rxPS110 S [0, (-1)] S_p (some res) → bx_Inv rxL S_p → bx_same rxL (bx_mdl rxC110.2.2.1) S S_p → rxI225_2 S0 ws S_p pe wh va res ∧ rxm225_2 S0 ws S_p pe wh va res < rxm225_1 S0 ws S pe wh va := by
  obtain ⟨rfl, h1, hw⟩ := hinv
  refine ⟨trivial, fun S_p res _ _ hq _ hsm => ⟨⟨?_, h1, hw, hsm⟩, by unfold rxm225_1 rxm225_2; omega⟩⟩
  obtain ⟨c, hc, hr⟩ := hq
  simp only [List.cons.injEq, and_true, true_and] at hc
  simp only [Option.some.injEq] at hr
  omega
theorem rxs225_1 {X : (Nat → Int → Int) → Prop} {S0 : Nat → Int → Int} {ws : List Int} (hP : rxP225 S0 ws) : rx_obK X S0 rxC225.2.2.1 rxC110.2.2.1 (rxI225 S0 ws) (rxm225 S0 ws) 1 2 rxz225_1 rxz225_2 [.inr (3, (0, 0)), .inr (0, (0, (-1)))] (some 11) rxP110 rxPS110 := by
  intro S r hinv hXS I0 hin hs_ hf_
  have b_ := bx_bds_sat hs_
  have f_ := bx_fcl_ok hs_.1 hf_
  obtain ⟨⟨l8, u8⟩, ⟨l9, u9⟩, ⟨l10, u10⟩, -⟩ := b_
  have g := rxk225_1 hP hin I0 hinv l8 u8 l9 u9 l10 u10
  have ea : List.map (bx_num r) [.inr (3, (0, 0)), .inr (0, (0, (-1)))] = [0, -1] := by
    simp only [List.map_cons, List.map_nil, bx_xv_ok hs_.1]
    rfl
  rw [ea]
  refine ⟨g.1, fun S_p w r_p hPS hX_p I1 hsm hr hw hs_p => ?_⟩
  have hw := hw _ rfl
  subst hw
  have b_p := hs_p.2.2 11 _ _ rfl
  have g2 := g.2 S_p (r_p 11) b_p.1 b_p.2 hPS I1 hsm
  show rxI225_2 S0 ws S_p (r_p 8) (r_p 9) (r_p 10) (r_p 11) ∧ rxm225_2 S0 ws S_p (r_p 8) (r_p 9) (r_p 10) (r_p 11) < _
  rw [hr 8 (by decide), hr 9 (by decide), hr 10 (by decide)]
  exact g2
theorem rxk225_3 {S0 : Nat → Int → Int} {ws : List Int} {S : Nat → Int → Int} {pe wh va : Int} (hP : rxP225 S0 ws) (hin : bx_same rxL (bx_mdl rxC225.2.2.1) S0 S) (I0 : bx_Inv rxL S) (hinv : rxI225_3 S0 ws S pe wh va) (l8 : (-2147483648) ≤ pe) (u8 : pe ≤ 2147483647) (l9 : 0 ≤ wh) (u9 : wh ≤ 1) (l10 : 0 ≤ va) (u10 : va ≤ 300) : rxP110 S [0, (-2)] ∧ ∀ (S_p : Nat → Int → Int) (res : Int), (-6) ≤ res → res ≤ (-1) → rxPS110 S [0, (-2)] S_p (some res) → bx_Inv rxL S_p → bx_same rxL (bx_mdl rxC110.2.2.1) S S_p → rxI225_4 S0 ws S_p pe wh va res ∧ rxm225_4 S0 ws S_p pe wh va res < rxm225_3 S0 ws S pe wh va := by
  obtain ⟨rfl, h1, hw⟩ := hinv
  refine ⟨trivial, fun S_p res _ _ hq _ hsm => ⟨⟨?_, h1, hw, hsm⟩, by unfold rxm225_3 rxm225_4; omega⟩⟩
  obtain ⟨c, hc, hr⟩ := hq
  simp only [List.cons.injEq, and_true, true_and] at hc
  simp only [Option.some.injEq] at hr
  omega
theorem rxs225_3 {X : (Nat → Int → Int) → Prop} {S0 : Nat → Int → Int} {ws : List Int} (hP : rxP225 S0 ws) : rx_obK X S0 rxC225.2.2.1 rxC110.2.2.1 (rxI225 S0 ws) (rxm225 S0 ws) 3 4 rxz225_3 rxz225_4 [.inr (3, (0, 0)), .inr (0, (0, (-2)))] (some 11) rxP110 rxPS110 := by
  intro S r hinv hXS I0 hin hs_ hf_
  have b_ := bx_bds_sat hs_
  have f_ := bx_fcl_ok hs_.1 hf_
  obtain ⟨⟨l8, u8⟩, ⟨l9, u9⟩, ⟨l10, u10⟩, -⟩ := b_
  have g := rxk225_3 hP hin I0 hinv l8 u8 l9 u9 l10 u10
  have ea : List.map (bx_num r) [.inr (3, (0, 0)), .inr (0, (0, (-2)))] = [0, -2] := by
    simp only [List.map_cons, List.map_nil, bx_xv_ok hs_.1]
    rfl
  rw [ea]
  refine ⟨g.1, fun S_p w r_p hPS hX_p I1 hsm hr hw hs_p => ?_⟩
  have hw := hw _ rfl
  subst hw
  have b_p := hs_p.2.2 11 _ _ rfl
  have g2 := g.2 S_p (r_p 11) b_p.1 b_p.2 hPS I1 hsm
  show rxI225_4 S0 ws S_p (r_p 8) (r_p 9) (r_p 10) (r_p 11) ∧ rxm225_4 S0 ws S_p (r_p 8) (r_p 9) (r_p 10) (r_p 11) < _
  rw [hr 8 (by decide), hr 9 (by decide), hr 10 (by decide)]
  exact g2
theorem rxk225_5 {S0 : Nat → Int → Int} {ws : List Int} {S : Nat → Int → Int} {pe wh va : Int} (hP : rxP225 S0 ws) (hin : bx_same rxL (bx_mdl rxC225.2.2.1) S0 S) (I0 : bx_Inv rxL S) (hinv : rxI225_5 S0 ws S pe wh va) (l8 : 0 ≤ pe) (u8 : pe ≤ 7) (l9 : 0 ≤ wh) (u9 : wh ≤ 0) (l10 : 0 ≤ va) (u10 : va ≤ 200) : rxP110 S [0, (-1)] ∧ ∀ (S_p : Nat → Int → Int) (res : Int), (-6) ≤ res → res ≤ (-1) → rxPS110 S [0, (-1)] S_p (some res) → bx_Inv rxL S_p → bx_same rxL (bx_mdl rxC110.2.2.1) S S_p → rxI225_6 S0 ws S_p pe wh va res ∧ rxm225_6 S0 ws S_p pe wh va res < rxm225_5 S0 ws S pe wh va := by
  obtain ⟨rfl, h1, hw⟩ := hinv
  refine ⟨trivial, fun S_p res _ _ hq _ hsm => ⟨⟨?_, h1, hw, hsm⟩, by unfold rxm225_5 rxm225_6; omega⟩⟩
  obtain ⟨c, hc, hr⟩ := hq
  simp only [List.cons.injEq, and_true, true_and] at hc
  simp only [Option.some.injEq] at hr
  omega
theorem rxs225_5 {X : (Nat → Int → Int) → Prop} {S0 : Nat → Int → Int} {ws : List Int} (hP : rxP225 S0 ws) : rx_obK X S0 rxC225.2.2.1 rxC110.2.2.1 (rxI225 S0 ws) (rxm225 S0 ws) 5 6 rxz225_5 rxz225_6 [.inr (3, (0, 0)), .inr (0, (0, (-1)))] (some 11) rxP110 rxPS110 := by
  intro S r hinv hXS I0 hin hs_ hf_
  have b_ := bx_bds_sat hs_
  have f_ := bx_fcl_ok hs_.1 hf_
  obtain ⟨⟨l8, u8⟩, ⟨l9, u9⟩, ⟨l10, u10⟩, -⟩ := b_
  have g := rxk225_5 hP hin I0 hinv l8 u8 l9 u9 l10 u10
  have ea : List.map (bx_num r) [.inr (3, (0, 0)), .inr (0, (0, (-1)))] = [0, -1] := by
    simp only [List.map_cons, List.map_nil, bx_xv_ok hs_.1]
    rfl
  rw [ea]
  refine ⟨g.1, fun S_p w r_p hPS hX_p I1 hsm hr hw hs_p => ?_⟩
  have hw := hw _ rfl
  subst hw
  have b_p := hs_p.2.2 11 _ _ rfl
  have g2 := g.2 S_p (r_p 11) b_p.1 b_p.2 hPS I1 hsm
  show rxI225_6 S0 ws S_p (r_p 8) (r_p 9) (r_p 10) (r_p 11) ∧ rxm225_6 S0 ws S_p (r_p 8) (r_p 9) (r_p 10) (r_p 11) < _
  rw [hr 8 (by decide), hr 9 (by decide), hr 10 (by decide)]
  exact g2
theorem rxc225_0_0 {S0 : Nat → Int → Int} {ws : List Int} {S : Nat → Int → Int} {pe wh va : Int} (hP : rxP225 S0 ws) (hin : bx_same rxL (bx_mdl rxC225.2.2.1) S0 S) (I0 : bx_Inv rxL S) (hinv : rxI225_0 S0 ws S pe wh va) (l8 : (-2147483648) ≤ pe) (u8 : pe ≤ 2147483647) (l9 : 0 ≤ wh) (u9 : wh ≤ 0) (l10 : (-2147483648) ≤ va) (u10 : va ≤ (-1)) : (True) ∧ (True) ∧ rxI225_1 S0 ws S pe wh va ∧ rxm225_1 S0 ws S pe wh va < rxm225_0 S0 ws S pe wh va := by
  obtain ⟨rfl, hw⟩ := hinv
  exact ⟨trivial, trivial, ⟨rfl, by omega, hw⟩, by unfold rxm225_0 rxm225_1; omega⟩
theorem rxg225_0_0 {X : (Nat → Int → Int) → Prop} {S0 : Nat → Int → Int} {ws : List Int} (hP : rxP225 S0 ws) : bx_obC rxL X S0 rxC225.2.2.1 (rxI225 S0 ws) (rxm225 S0 ws) 0 rxz225_0 rxo225_0_0 := by
  intro S S_p r r_p hinv hX hin hsm_ hseg
  obtain ⟨I0, I1, h0_, hr_, b_, f_, d_⟩ := bx_cl (evs := []) (fvs := []) hseg (by decide +kernel) (by decide +kernel)
  have hinv : rxI225_0 S0 ws S (r 8) (r 9) (r 10) := hinv
  rw [← hr_ 8 (by decide), ← hr_ 9 (by decide), ← hr_ 10 (by decide)] at hinv
  obtain ⟨⟨l8, u8⟩, ⟨l9, u9⟩, ⟨l10, u10⟩, -⟩ := b_
  have w_ := d_
  subst w_
  have g := rxc225_0_0 hP hin I0 hinv l8 u8 l9 u9 l10 u10
  refine ⟨bx_narP_ok (l := []) g.1, bx_nfP_ok h0_ (fvs := []) (by decide +kernel) g.2.1, ?_, ?_⟩
  · show rxI225_1 S0 ws S_p (bx_val [(0, 0), (0, 0), (0, 0), (0, 0), (0, 0), (0, 0), (0, 0), (0, 0), (8, 0), (9, 0), (10, 0)] r_p 8) (bx_val [(0, 0), (0, 0), (0, 0), (0, 0), (0, 0), (0, 0), (0, 0), (0, 0), (8, 0), (9, 0), (10, 0)] r_p 9) (bx_val [(0, 0), (0, 0), (0, 0), (0, 0), (0, 0), (0, 0), (0, 0), (0, 0), (8, 0), (9, 0), (10, 0)] r_p 10)
    rw [bx_val_x (n := 8) (e := (8, 0)) h0_ rfl, bx_val_x (n := 9) (e := (9, 0)) h0_ rfl, bx_val_x (n := 10) (e := (10, 0)) h0_ rfl]
    exact g.2.2.1
  · show rxm225_1 S0 ws S_p (bx_val [(0, 0), (0, 0), (0, 0), (0, 0), (0, 0), (0, 0), (0, 0), (0, 0), (8, 0), (9, 0), (10, 0)] r_p 8) (bx_val [(0, 0), (0, 0), (0, 0), (0, 0), (0, 0), (0, 0), (0, 0), (0, 0), (8, 0), (9, 0), (10, 0)] r_p 9) (bx_val [(0, 0), (0, 0), (0, 0), (0, 0), (0, 0), (0, 0), (0, 0), (0, 0), (8, 0), (9, 0), (10, 0)] r_p 10) < rxm225_0 S0 ws S_p (r 8) (r 9) (r 10)
    rw [bx_val_x (n := 8) (e := (8, 0)) h0_ rfl, bx_val_x (n := 9) (e := (9, 0)) h0_ rfl, bx_val_x (n := 10) (e := (10, 0)) h0_ rfl, ← hr_ 8 (by decide), ← hr_ 9 (by decide), ← hr_ 10 (by decide)]
    exact g.2.2.2
theorem rxc225_0_1 {S0 : Nat → Int → Int} {ws : List Int} {S : Nat → Int → Int} {pe wh va : Int} (hP : rxP225 S0 ws) (hin : bx_same rxL (bx_mdl rxC225.2.2.1) S0 S) (I0 : bx_Inv rxL S) (hinv : rxI225_0 S0 ws S pe wh va) (l8 : (-2147483648) ≤ pe) (u8 : pe ≤ 2147483647) (l9 : 0 ≤ wh) (u9 : wh ≤ 0) (l10 : 301 ≤ va) (u10 : va ≤ 2147483647) : (True) ∧ (True) ∧ rxI225_1 S0 ws S pe wh va ∧ rxm225_1 S0 ws S pe wh va < rxm225_0 S0 ws S pe wh va := by
  obtain ⟨rfl, hw⟩ := hinv
  exact ⟨trivial, trivial, ⟨rfl, by omega, hw⟩, by unfold rxm225_0 rxm225_1; omega⟩
theorem rxg225_0_1 {X : (Nat → Int → Int) → Prop} {S0 : Nat → Int → Int} {ws : List Int} (hP : rxP225 S0 ws) : bx_obC rxL X S0 rxC225.2.2.1 (rxI225 S0 ws) (rxm225 S0 ws) 0 rxz225_0 rxo225_0_1 := by
  intro S S_p r r_p hinv hX hin hsm_ hseg
  obtain ⟨I0, I1, h0_, hr_, b_, f_, d_⟩ := bx_cl (evs := []) (fvs := []) hseg (by decide +kernel) (by decide +kernel)
  have hinv : rxI225_0 S0 ws S (r 8) (r 9) (r 10) := hinv
  rw [← hr_ 8 (by decide), ← hr_ 9 (by decide), ← hr_ 10 (by decide)] at hinv
  obtain ⟨⟨l8, u8⟩, ⟨l9, u9⟩, ⟨l10, u10⟩, -⟩ := b_
  have w_ := d_
  subst w_
  have g := rxc225_0_1 hP hin I0 hinv l8 u8 l9 u9 l10 u10
  refine ⟨bx_narP_ok (l := []) g.1, bx_nfP_ok h0_ (fvs := []) (by decide +kernel) g.2.1, ?_, ?_⟩
  · show rxI225_1 S0 ws S_p (bx_val [(0, 0), (0, 0), (0, 0), (0, 0), (0, 0), (0, 0), (0, 0), (0, 0), (8, 0), (9, 0), (10, 0)] r_p 8) (bx_val [(0, 0), (0, 0), (0, 0), (0, 0), (0, 0), (0, 0), (0, 0), (0, 0), (8, 0), (9, 0), (10, 0)] r_p 9) (bx_val [(0, 0), (0, 0), (0, 0), (0, 0), (0, 0), (0, 0), (0, 0), (0, 0), (8, 0), (9, 0), (10, 0)] r_p 10)
    rw [bx_val_x (n := 8) (e := (8, 0)) h0_ rfl, bx_val_x (n := 9) (e := (9, 0)) h0_ rfl, bx_val_x (n := 10) (e := (10, 0)) h0_ rfl]
    exact g.2.2.1
  · show rxm225_1 S0 ws S_p (bx_val [(0, 0), (0, 0), (0, 0), (0, 0), (0, 0), (0, 0), (0, 0), (0, 0), (8, 0), (9, 0), (10, 0)] r_p 8) (bx_val [(0, 0), (0, 0), (0, 0), (0, 0), (0, 0), (0, 0), (0, 0), (0, 0), (8, 0), (9, 0), (10, 0)] r_p 9) (bx_val [(0, 0), (0, 0), (0, 0), (0, 0), (0, 0), (0, 0), (0, 0), (0, 0), (8, 0), (9, 0), (10, 0)] r_p 10) < rxm225_0 S0 ws S_p (r 8) (r 9) (r 10)
    rw [bx_val_x (n := 8) (e := (8, 0)) h0_ rfl, bx_val_x (n := 9) (e := (9, 0)) h0_ rfl, bx_val_x (n := 10) (e := (10, 0)) h0_ rfl, ← hr_ 8 (by decide), ← hr_ 9 (by decide), ← hr_ 10 (by decide)]
    exact g.2.2.2
theorem rxc225_0_2 {S0 : Nat → Int → Int} {ws : List Int} {S : Nat → Int → Int} {pe wh va : Int} (hP : rxP225 S0 ws) (hin : bx_same rxL (bx_mdl rxC225.2.2.1) S0 S) (I0 : bx_Inv rxL S) (hinv : rxI225_0 S0 ws S pe wh va) (l8 : (-2147483648) ≤ pe) (u8 : pe ≤ (-1)) (l9 : 0 ≤ wh) (u9 : wh ≤ 0) (l10 : 0 ≤ va) (u10 : va ≤ 300) : (True) ∧ (True) ∧ rxI225_3 S0 ws S pe wh va ∧ rxm225_3 S0 ws S pe wh va < rxm225_0 S0 ws S pe wh va := by
  obtain ⟨rfl, hw⟩ := hinv
  exact ⟨trivial, trivial, ⟨rfl, by omega, hw⟩, by unfold rxm225_0 rxm225_3; omega⟩
theorem rxg225_0_2 {X : (Nat → Int → Int) → Prop} {S0 : Nat → Int → Int} {ws : List Int} (hP : rxP225 S0 ws) : bx_obC rxL X S0 rxC225.2.2.1 (rxI225 S0 ws) (rxm225 S0 ws) 0 rxz225_0 rxo225_0_2 := by
  intro S S_p r r_p hinv hX hin hsm_ hseg
  obtain ⟨I0, I1, h0_, hr_, b_, f_, d_⟩ := bx_cl (evs := []) (fvs := []) hseg (by decide +kernel) (by decide +kernel)
  have hinv : rxI225_0 S0 ws S (r 8) (r 9) (r 10) := hinv
  rw [← hr_ 8 (by decide), ← hr_ 9 (by decide), ← hr_ 10 (by decide)] at hinv
  obtain ⟨⟨l8, u8⟩, ⟨l9, u9⟩, ⟨l10, u10⟩, -⟩ := b_
  have w_ := d_
  subst w_
  have g := rxc225_0_2 hP hin I0 hinv l8 u8 l9 u9 l10 u10
  refine ⟨bx_narP_ok (l := []) g.1, bx_nfP_ok h0_ (fvs := []) (by decide +kernel) g.2.1, ?_, ?_⟩
  · show rxI225_3 S0 ws S_p (bx_val [(0, 0), (0, 0), (0, 0), (0, 0), (0, 0), (0, 0), (0, 0), (0, 0), (8, 0), (9, 0), (10, 0)] r_p 8) (bx_val [(0, 0), (0, 0), (0, 0), (0, 0), (0, 0), (0, 0), (0, 0), (0, 0), (8, 0), (9, 0), (10, 0)] r_p 9) (bx_val [(0, 0), (0, 0), (0, 0), (0, 0), (0, 0), (0, 0), (0, 0), (0, 0), (8, 0), (9, 0), (10, 0)] r_p 10)
    rw [bx_val_x (n := 8) (e := (8, 0)) h0_ rfl, bx_val_x (n := 9) (e := (9, 0)) h0_ rfl, bx_val_x (n := 10) (e := (10, 0)) h0_ rfl]
    exact g.2.2.1
  · show rxm225_3 S0 ws S_p (bx_val [(0, 0), (0, 0), (0, 0), (0, 0), (0, 0), (0, 0), (0, 0), (0, 0), (8, 0), (9, 0), (10, 0)] r_p 8) (bx_val [(0, 0), (0, 0), (0, 0), (0, 0), (0, 0), (0, 0), (0, 0), (0, 0), (8, 0), (9, 0), (10, 0)] r_p 9) (bx_val [(0, 0), (0, 0), (0, 0), (0, 0), (0, 0), (0, 0), (0, 0), (0, 0), (8, 0), (9, 0), (10, 0)] r_p 10) < rxm225_0 S0 ws S_p (r 8) (r 9) (r 10)
    rw [bx_val_x (n := 8) (e := (8, 0)) h0_ rfl, bx_val_x (n := 9) (e := (9, 0)) h0_ rfl, bx_val_x (n := 10) (e := (10, 0)) h0_ rfl, ← hr_ 8 (by decide), ← hr_ 9 (by decide), ← hr_ 10 (by decide)]
    exact g.2.2.2
theorem rxc225_0_3 {S0 : Nat → Int → Int} {ws : List Int} {S : Nat → Int → Int} {pe wh va x11 : Int} (hP : rxP225 S0 ws) (hin : bx_same rxL (bx_mdl rxC225.2.2.1) S0 S) (I0 : bx_Inv rxL S) (hinv : rxI225_0 S0 ws S pe wh va) (l8 : 0 ≤ pe) (u8 : pe ≤ 2147483647) (l9 : 0 ≤ wh) (u9 : wh ≤ 0) (l10 : 0 ≤ va) (u10 : va ≤ 300) (l11 : 0 ≤ x11) (u11 : x11 ≤ 8) (f0 : x11 ≤ pe) (e0 : S 5 0 = x11) : (True) ∧ (True) ∧ rxI225_3 S0 ws S pe wh va ∧ rxm225_3 S0 ws S pe wh va < rxm225_0 S0 ws S pe wh va := by
  obtain ⟨rfl, hw⟩ := hinv
  exact ⟨trivial, trivial, ⟨rfl, by omega, hw⟩, by unfold rxm225_0 rxm225_3; omega⟩
theorem rxg225_0_3 {X : (Nat → Int → Int) → Prop} {S0 : Nat → Int → Int} {ws : List Int} (hP : rxP225 S0 ws) : bx_obC rxL X S0 rxC225.2.2.1 (rxI225 S0 ws) (rxm225 S0 ws) 0 rxz225_0 rxo225_0_3 := by
  intro S S_p r r_p hinv hX hin hsm_ hseg
  obtain ⟨I0, I1, h0_, hr_, b_, f_, d_⟩ := bx_cl (evs := [(0, (0, 5), (0, 0), .inr (0, (11, 0)))]) (fvs := [(1, (11, 0), (8, 0), (0, 0))]) hseg (by decide +kernel) (by decide +kernel)
  have hinv : rxI225_0 S0 ws S (r 8) (r 9) (r 10) := hinv
  rw [← hr_ 8 (by decide), ← hr_ 9 (by decide), ← hr_ 10 (by decide)] at hinv
  obtain ⟨⟨l8, u8⟩, ⟨l9, u9⟩, ⟨l10, u10⟩, ⟨l11, u11⟩, -⟩ := b_
  obtain ⟨f0, -⟩ := f_
  obtain ⟨e0, w_⟩ := d_
  subst w_
  have g := rxc225_0_3 hP hin I0 hinv l8 u8 l9 u9 l10 u10 l11 u11 f0 e0
  refine ⟨bx_narP_ok (l := []) g.1, bx_nfP_ok h0_ (fvs := []) (by decide +kernel) g.2.1, ?_, ?_⟩
  · show rxI225_3 S0 ws S_p (bx_val [(0, 0), (0, 0), (0, 0), (0, 0), (0, 0), (0, 0), (0, 0), (0, 0), (8, 0), (9, 0), (10, 0)] r_p 8) (bx_val [(0, 0), (0, 0), (0, 0), (0, 0), (0, 0), (0, 0), (0, 0), (0, 0), (8, 0), (9, 0), (10, 0)] r_p 9) (bx_val [(0, 0), (0, 0), (0, 0), (0, 0), (0, 0), (0, 0), (0, 0), (0, 0), (8, 0), (9, 0), (10, 0)] r_p 10)
    rw [bx_val_x (n := 8) (e := (8, 0)) h0_ rfl, bx_val_x (n := 9) (e := (9, 0)) h0_ rfl, bx_val_x (n := 10) (e := (10, 0)) h0_ rfl]
    exact g.2.2.1
  · show rxm225_3 S0 ws S_p (bx_val [(0, 0), (0, 0), (0, 0), (0, 0), (0, 0), (0, 0), (0, 0), (0, 0), (8, 0), (9, 0), (10, 0)] r_p 8) (bx_val [(0, 0), (0, 0), (0, 0), (0, 0), (0, 0), (0, 0), (0, 0), (0, 0), (8, 0), (9, 0), (10, 0)] r_p 9) (bx_val [(0, 0), (0, 0), (0, 0), (0, 0), (0, 0), (0, 0), (0, 0), (0, 0), (8, 0), (9, 0), (10, 0)] r_p 10) < rxm225_0 S0 ws S_p (r 8) (r 9) (r 10)
    rw [bx_val_x (n := 8) (e := (8, 0)) h0_ rfl, bx_val_x (n := 9) (e := (9, 0)) h0_ rfl, bx_val_x (n := 10) (e := (10, 0)) h0_ rfl, ← hr_ 8 (by decide), ← hr_ 9 (by decide), ← hr_ 10 (by decide)]
    exact g.2.2.2
theorem rxc225_0_4 {S0 : Nat → Int → Int} {ws : List Int} {S : Nat → Int → Int} {pe wh va x11 x12 : Int} (hP : rxP225 S0 ws) (hin : bx_same rxL (bx_mdl rxC225.2.2.1) S0 S) (I0 : bx_Inv rxL S) (hinv : rxI225_0 S0 ws S pe wh va) (l8 : 0 ≤ pe) (u8 : pe ≤ 7) (l9 : 0 ≤ wh) (u9 : wh ≤ 0) (l10 : 0 ≤ va) (u10 : va ≤ 200) (l11 : 1 ≤ x11) (u11 : x11 ≤ 8) (l12 : 0 ≤ x12) (u12 : x12 ≤ 200) (f0 : va ≤ x12) (f1 : pe < x11) (e1 : S 5 0 = x11) (e0 : S 6 pe = x12) : (True) ∧ (True) ∧ rxI225_5 S0 ws S pe wh va ∧ rxm225_5 S0 ws S pe wh va < rxm225_0 S0 ws S pe wh va := by
  obtain ⟨rfl, hw⟩ := hinv
  exact ⟨trivial, trivial, ⟨rfl, by omega, hw⟩, by unfold rxm225_0 rxm225_5; omega⟩
theorem rxg225_0_4 {X : (Nat → Int → Int) → Prop} {S0 : Nat → Int → Int} {ws : List Int} (hP : rxP225 S0 ws) : bx_obC rxL X S0 rxC225.2.2.1 (rxI225 S0 ws) (rxm225 S0 ws) 0 rxz225_0 rxo225_0_4 := by
  intro S S_p r r_p hinv hX hin hsm_ hseg
  obtain ⟨I0, I1, h0_, hr_, b_, f_, d_⟩ := bx_cl (evs := [(0, (0, 6), (8, 0), .inr (0, (12, 0))), (0, (0, 5), (0, 0), .inr (0, (11, 0)))]) (fvs := [(1, (10, 0), (12, 0), (0, 0)), (0, (8, 0), (11, 0), (0, 0))]) hseg (by decide +kernel) (by decide +kernel)
  have hinv : rxI225_0 S0 ws S (r 8) (r 9) (r 10) := hinv
  rw [← hr_ 8 (by decide), ← hr_ 9 (by decide), ← hr_ 10 (by decide)] at hinv
  obtain ⟨⟨l8, u8⟩, ⟨l9, u9⟩, ⟨l10, u10⟩, ⟨l11, u11⟩, ⟨l12, u12⟩, -⟩ := b_
  obtain ⟨f0, f1, -⟩ := f_
  obtain ⟨e0, ⟨e1, w_⟩⟩ := d_
  subst w_
  have g := rxc225_0_4 hP hin I0 hinv l8 u8 l9 u9 l10 u10 l11 u11 l12 u12 f0 f1 e1 e0
  refine ⟨bx_narP_ok (l := []) g.1, bx_nfP_ok h0_ (fvs := []) (by decide +kernel) g.2.1, ?_, ?_⟩
  · show rxI225_5 S0 ws S_p (bx_val [(0, 0), (0, 0), (0, 0), (0, 0), (0, 0), (0, 0), (0, 0), (0, 0), (8, 0), (9, 0), (10, 0)] r_p 8) (bx_val [(0, 0), (0, 0), (0, 0), (0, 0), (0, 0), (0, 0), (0, 0), (0, 0), (8, 0), (9, 0), (10, 0)] r_p 9) (bx_val [(0, 0), (0, 0), (0, 0), (0, 0), (0, 0), (0, 0), (0, 0), (0, 0), (8, 0), (9, 0), (10, 0)] r_p 10)
    rw [bx_val_x (n := 8) (e := (8, 0)) h0_ rfl, bx_val_x (n := 9) (e := (9, 0)) h0_ rfl, bx_val_x (n := 10) (e := (10, 0)) h0_ rfl]
    exact g.2.2.1
  · show rxm225_5 S0 ws S_p (bx_val [(0, 0), (0, 0), (0, 0), (0, 0), (0, 0), (0, 0), (0, 0), (0, 0), (8, 0), (9, 0), (10, 0)] r_p 8) (bx_val [(0, 0), (0, 0), (0, 0), (0, 0), (0, 0), (0, 0), (0, 0), (0, 0), (8, 0), (9, 0), (10, 0)] r_p 9) (bx_val [(0, 0), (0, 0), (0, 0), (0, 0), (0, 0), (0, 0), (0, 0), (0, 0), (8, 0), (9, 0), (10, 0)] r_p 10) < rxm225_0 S0 ws S_p (r 8) (r 9) (r 10)
    rw [bx_val_x (n := 8) (e := (8, 0)) h0_ rfl, bx_val_x (n := 9) (e := (9, 0)) h0_ rfl, bx_val_x (n := 10) (e := (10, 0)) h0_ rfl, ← hr_ 8 (by decide), ← hr_ 9 (by decide), ← hr_ 10 (by decide)]
    exact g.2.2.2
theorem rxc225_0_5 {S0 : Nat → Int → Int} {ws : List Int} {S : Nat → Int → Int} {pe wh va : Int} (hP : rxP225 S0 ws) (hin : bx_same rxL (bx_mdl rxC225.2.2.1) S0 S) (I0 : bx_Inv rxL S) (hinv : rxI225_0 S0 ws S pe wh va) (l8 : (-2147483648) ≤ pe) (u8 : pe ≤ 2147483647) (l9 : 1 ≤ wh) (u9 : wh ≤ 1) (l10 : (-2147483648) ≤ va) (u10 : va ≤ 0) (f0 : wh ≠ 0) : (True) ∧ (True) ∧ rxI225_1 S0 ws S pe wh va ∧ rxm225_1 S0 ws S pe wh va < rxm225_0 S0 ws S pe wh va := by
  obtain ⟨rfl, hw⟩ := hinv
  exact ⟨trivial, trivial, ⟨rfl, by omega, hw⟩, by unfold rxm225_0 rxm225_1; omega⟩
theorem rxg225_0_5 {X : (Nat → Int → Int) → Prop} {S0 : Nat → Int → Int} {ws : List Int} (hP : rxP225 S0 ws) : bx_obC rxL X S0 rxC225.2.2.1 (rxI225 S0 ws) (rxm225 S0 ws) 0 rxz225_0 rxo225_0_5 := by
  intro S S_p r r_p hinv hX hin hsm_ hseg
  obtain ⟨I0, I1, h0_, hr_, b_, f_, d_⟩ := bx_cl (evs := []) (fvs := [(3, (9, 0), (0, 0), (0, 0))]) hseg (by decide +kernel) (by decide +kernel)
  have hinv : rxI225_0 S0 ws S (r 8) (r 9) (r 10) := hinv
  rw [← hr_ 8 (by decide), ← hr_ 9 (by decide), ← hr_ 10 (by decide)] at hinv
  obtain ⟨⟨l8, u8⟩, ⟨l9, u9⟩, ⟨l10, u10⟩, -⟩ := b_
  obtain ⟨f0, -⟩ := f_
  have w_ := d_
  subst w_
  have g := rxc225_0_5 hP hin I0 hinv l8 u8 l9 u9 l10 u10 f0
  refine ⟨bx_narP_ok (l := []) g.1, bx_nfP_ok h0_ (fvs := []) (by decide +kernel) g.2.1, ?_, ?_⟩
  · show rxI225_1 S0 ws S_p (bx_val [(0, 0), (0, 0), (0, 0), (0, 0), (0, 0), (0, 0), (0, 0), (0, 0), (8, 0), (9, 0), (10, 0)] r_p 8) (bx_val [(0, 0), (0, 0), (0, 0), (0, 0), (0, 0), (0, 0), (0, 0), (0, 0), (8, 0), (9, 0), (10, 0)] r_p 9) (bx_val [(0, 0), (0, 0), (0, 0), (0, 0), (0, 0), (0, 0), (0, 0), (0, 0), (8, 0), (9, 0), (10, 0)] r_p 10)
    rw [bx_val_x (n := 8) (e := (8, 0)) h0_ rfl, bx_val_x (n := 9) (e := (9, 0)) h0_ rfl, bx_val_x (n := 10) (e := (10, 0)) h0_ rfl]
    exact g.2.2.1
  · show rxm225_1 S0 ws S_p (bx_val [(0, 0), (0, 0), (0, 0), (0, 0), (0, 0), (0, 0), (0, 0), (0, 0), (8, 0), (9, 0), (10, 0)] r_p 8) (bx_val [(0, 0), (0, 0), (0, 0), (0, 0), (0, 0), (0, 0), (0, 0), (0, 0), (8, 0), (9, 0), (10, 0)] r_p 9) (bx_val [(0, 0), (0, 0), (0, 0), (0, 0), (0, 0), (0, 0), (0, 0), (0, 0), (8, 0), (9, 0), (10, 0)] r_p 10) < rxm225_0 S0 ws S_p (r 8) (r 9) (r 10)
    rw [bx_val_x (n := 8) (e := (8, 0)) h0_ rfl, bx_val_x (n := 9) (e := (9, 0)) h0_ rfl, bx_val_x (n := 10) (e := (10, 0)) h0_ rfl, ← hr_ 8 (by decide), ← hr_ 9 (by decide), ← hr_ 10 (by decide)]
    exact g.2.2.2
theorem rxc225_0_6 {S0 : Nat → Int → Int} {ws : List Int} {S : Nat → Int → Int} {pe wh va : Int} (hP : rxP225 S0 ws) (hin : bx_same rxL (bx_mdl rxC225.2.2.1) S0 S) (I0 : bx_Inv rxL S) (hinv : rxI225_0 S0 ws S pe wh va) (l8 : (-2147483648) ≤ pe) (u8 : pe ≤ 2147483647) (l9 : 1 ≤ wh) (u9 : wh ≤ 1) (l10 : 10 ≤ va) (u10 : va ≤ 2147483647) (f0 : wh ≠ 0) : (True) ∧ (True) ∧ rxI225_1 S0 ws S pe wh va ∧ rxm225_1 S0 ws S pe wh va < rxm225_0 S0 ws S pe wh va := by
  obtain ⟨rfl, hw⟩ := hinv
  exact ⟨trivial, trivial, ⟨rfl, by omega, hw⟩, by unfold rxm225_0 rxm225_1; omega⟩
theorem rxg225_0_6 {X : (Nat → Int → Int) → Prop} {S0 : Nat → Int → Int} {ws : List Int} (hP : rxP225 S0 ws) : bx_obC rxL X S0 rxC225.2.2.1 (rxI225 S0 ws) (rxm225 S0 ws) 0 rxz225_0 rxo225_0_6 := by
  intro S S_p r r_p hinv hX hin hsm_ hseg
  obtain ⟨I0, I1, h0_, hr_, b_, f_, d_⟩ := bx_cl (evs := []) (fvs := [(3, (9, 0), (0, 0), (0, 0))]) hseg (by decide +kernel) (by decide +kernel)
  have hinv : rxI225_0 S0 ws S (r 8) (r 9) (r 10) := hinv
  rw [← hr_ 8 (by decide), ← hr_ 9 (by decide), ← hr_ 10 (by decide)] at hinv
  obtain ⟨⟨l8, u8⟩, ⟨l9, u9⟩, ⟨l10, u10⟩, -⟩ := b_
  obtain ⟨f0, -⟩ := f_
  have w_ := d_
  subst w_
  have g := rxc225_0_6 hP hin I0 hinv l8 u8 l9 u9 l10 u10 f0
  refine ⟨bx_narP_ok (l := []) g.1, bx_nfP_ok h0_ (fvs := []) (by decide +kernel) g.2.1, ?_, ?_⟩
  · show rxI225_1 S0 ws S_p (bx_val [(0, 0), (0, 0), (0, 0), (0, 0), (0, 0), (0, 0), (0, 0), (0, 0), (8, 0), (9, 0), (10, 0)] r_p 8) (bx_val [(0, 0), (0, 0), (0, 0), (0, 0), (0, 0), (0, 0), (0, 0), (0, 0), (8, 0), (9, 0), (10, 0)] r_p 9) (bx_val [(0, 0), (0, 0), (0, 0), (0, 0), (0, 0), (0, 0), (0, 0), (0, 0), (8, 0), (9, 0), (10, 0)] r_p 10)
    rw [bx_val_x (n := 8) (e := (8, 0)) h0_ rfl, bx_val_x (n := 9) (e := (9, 0)) h0_ rfl, bx_val_x (n := 10) (e := (10, 0)) h0_ rfl]
    exact g.2.2.1
  · show rxm225_1 S0 ws S_p (bx_val [(0, 0), (0, 0), (0, 0), (0, 0), (0, 0), (0, 0), (0, 0), (0, 0), (8, 0), (9, 0), (10, 0)] r_p 8) (bx_val [(0, 0), (0, 0), (0, 0), (0, 0), (0, 0), (0, 0), (0, 0), (0, 0), (8, 0), (9, 0), (10, 0)] r_p 9) (bx_val [(0, 0), (0, 0), (0, 0), (0, 0), (0, 0), (0, 0), (0, 0), (0, 0), (8, 0), (9, 0), (10, 0)] r_p 10) < rxm225_0 S0 ws S_p (r 8) (r 9) (r 10)
    rw [bx_val_x (n := 8) (e := (8, 0)) h0_ rfl, bx_val_x (n := 9) (e := (9, 0)) h0_ rfl, bx_val_x (n := 10) (e := (10, 0)) h0_ rfl, ← hr_ 8 (by decide), ← hr_ 9 (by decide), ← hr_ 10 (by decide)]
    exact g.2.2.2
theorem rxc225_0_7 {S0 : Nat → Int → Int} {ws : List Int} {S : Nat → Int → Int} {pe wh va : Int} (hP : rxP225 S0 ws) (hin : bx_same rxL (bx_mdl rxC225.2.2.1) S0 S) (I0 : bx_Inv rxL S) (hinv : rxI225_0 S0 ws S pe wh va) (l8 : (-2147483648) ≤ pe) (u8 : pe ≤ (-1)) (l9 : 1 ≤ wh) (u9 : wh ≤ 1) (l10 : 1 ≤ va) (u10 : va ≤ 9) (f0 : wh ≠ 0) : (True) ∧ (True) ∧ rxI225_3 S0 ws S pe wh va ∧ rxm225_3 S0 ws S pe wh va < rxm225_0 S0 ws S pe wh va := by
  obtain ⟨rfl, hw⟩ := hinv
  exact ⟨trivial, trivial, ⟨rfl, by omega, hw⟩, by unfold rxm225_0 rxm225_3; omega⟩
theorem rxg225_0_7 {X : (Nat → Int → Int) → Prop} {S0 : Nat → Int → Int} {ws : List Int} (hP : rxP225 S0 ws) : bx_obC rxL X S0 rxC225.2.2.1 (rxI225 S0 ws) (rxm225 S0 ws) 0 rxz225_0 rxo225_0_7 := by
  intro S S_p r r_p hinv hX hin hsm_ hseg
  obtain ⟨I0, I1, h0_, hr_, b_, f_, d_⟩ := bx_cl (evs := []) (fvs := [(3, (9, 0), (0, 0), (0, 0))]) hseg (by decide +kernel) (by decide +kernel)
  have hinv : rxI225_0 S0 ws S (r 8) (r 9) (r 10) := hinv
  rw [← hr_ 8 (by decide), ← hr_ 9 (by decide), ← hr_ 10 (by decide)] at hinv
  obtain ⟨⟨l8, u8⟩, ⟨l9, u9⟩, ⟨l10, u10⟩, -⟩ := b_
  obtain ⟨f0, -⟩ := f_
  have w_ := d_
  subst w_
  have g := rxc225_0_7 hP hin I0 hinv l8 u8 l9 u9 l10 u10 f0
  refine ⟨bx_narP_ok (l := []) g.1, bx_nfP_ok h0_ (fvs := []) (by decide +kernel) g.2.1, ?_, ?_⟩
  · show rxI225_3 S0 ws S_p (bx_val [(0, 0), (0, 0), (0, 0), (0, 0), (0, 0), (0, 0), (0, 0), (0, 0), (8, 0), (9, 0), (10, 0)] r_p 8) (bx_val [(0, 0), (0, 0), (0, 0), (0, 0), (0, 0), (0, 0), (0, 0), (0, 0), (8, 0), (9, 0), (10, 0)] r_p 9) (bx_val [(0, 0), (0, 0), (0, 0), (0, 0), (0, 0), (0, 0), (0, 0), (0, 0), (8, 0), (9, 0), (10, 0)] r_p 10)
    rw [bx_val_x (n := 8) (e := (8, 0)) h0_ rfl, bx_val_x (n := 9) (e := (9, 0)) h0_ rfl, bx_val_x (n := 10) (e := (10, 0)) h0_ rfl]
    exact g.2.2.1
  · show rxm225_3 S0 ws S_p (bx_val [(0, 0), (0, 0), (0, 0), (0, 0), (0, 0), (0, 0), (0, 0), (0, 0), (8, 0), (9, 0), (10, 0)] r_p 8) (bx_val [(0, 0), (0, 0), (0, 0), (0, 0), (0, 0), (0, 0), (0, 0), (0, 0), (8, 0), (9, 0), (10, 0)] r_p 9) (bx_val [(0, 0), (0, 0), (0, 0), (0, 0), (0, 0), (0, 0), (0, 0), (0, 0), (8, 0), (9, 0), (10, 0)] r_p 10) < rxm225_0 S0 ws S_p (r 8) (r 9) (r 10)
    rw [bx_val_x (n := 8) (e := (8, 0)) h0_ rfl, bx_val_x (n := 9) (e := (9, 0)) h0_ rfl, bx_val_x (n := 10) (e := (10, 0)) h0_ rfl, ← hr_ 8 (by decide), ← hr_ 9 (by decide), ← hr_ 10 (by decide)]
    exact g.2.2.2
theorem rxc225_0_8 {S0 : Nat → Int → Int} {ws : List Int} {S : Nat → Int → Int} {pe wh va x11 : Int} (hP : rxP225 S0 ws) (hin : bx_same rxL (bx_mdl rxC225.2.2.1) S0 S) (I0 : bx_Inv rxL S) (hinv : rxI225_0 S0 ws S pe wh va) (l8 : 0 ≤ pe) (u8 : pe ≤ 2147483647) (l9 : 1 ≤ wh) (u9 : wh ≤ 1) (l10 : 1 ≤ va) (u10 : va ≤ 9) (l11 : 0 ≤ x11) (u11 : x11 ≤ 8) (f0 : x11 ≤ pe) (f1 : wh ≠ 0) (e0 : S 5 0 = x11) : (True) ∧ (True) ∧ rxI225_3 S0 ws S pe wh va ∧ rxm225_3 S0 ws S pe wh va < rxm225_0 S0 ws S pe wh va := by
  obtain ⟨rfl, hw⟩ := hinv
  exact ⟨trivial, trivial, ⟨rfl, by omega, hw⟩, by unfold rxm225_0 rxm225_3; omega⟩
theorem rxg225_0_8 {X : (Nat → Int → Int) → Prop} {S0 : Nat → Int → Int} {ws : List Int} (hP : rxP225 S0 ws) : bx_obC rxL X S0 rxC225.2.2.1 (rxI225 S0 ws) (rxm225 S0 ws) 0 rxz225_0 rxo225_0_8 := by
  intro S S_p r r_p hinv hX hin hsm_ hseg
  obtain ⟨I0, I1, h0_, hr_, b_, f_, d_⟩ := bx_cl (evs := [(0, (0, 5), (0, 0), .inr (0, (11, 0)))]) (fvs := [(1, (11, 0), (8, 0), (0, 0)), (3, (9, 0), (0, 0), (0, 0))]) hseg (by decide +kernel) (by decide +kernel)
  have hinv : rxI225_0 S0 ws S (r 8) (r 9) (r 10) := hinv
  rw [← hr_ 8 (by decide), ← hr_ 9 (by decide), ← hr_ 10 (by decide)] at hinv
  obtain ⟨⟨l8, u8⟩, ⟨l9, u9⟩, ⟨l10, u10⟩, ⟨l11, u11⟩, -⟩ := b_
  obtain ⟨f0, f1, -⟩ := f_
  obtain ⟨e0, w_⟩ := d_
  subst w_
  have g := rxc225_0_8 hP hin I0 hinv l8 u8 l9 u9 l10 u10 l11 u11 f0 f1 e0
  refine ⟨bx_narP_ok (l := []) g.1, bx_nfP_ok h0_ (fvs := []) (by decide +kernel) g.2.1, ?_, ?_⟩
  · show rxI225_3 S0 ws S_p (bx_val [(0, 0), (0, 0), (0, 0), (0, 0), (0, 0), (0, 0), (0, 0), (0, 0), (8, 0), (9, 0), (10, 0)] r_p 8) (bx_val [(0, 0), (0, 0), (0, 0), (0, 0), (0, 0), (0, 0), (0, 0), (0, 0), (8, 0), (9, 0), (10, 0)] r_p 9) (bx_val [(0, 0), (0, 0), (0, 0), (0, 0), (0, 0), (0, 0), (0, 0), (0, 0), (8, 0), (9, 0), (10, 0)] r_p 10)
    rw [bx_val_x (n := 8) (e := (8, 0)) h0_ rfl, bx_val_x (n := 9) (e := (9, 0)) h0_ rfl, bx_val_x (n := 10) (e := (10, 0)) h0_ rfl]
    exact g.2.2.1
  · show rxm225_3 S0 ws S_p (bx_val [(0, 0), (0, 0), (0, 0), (0, 0), (0, 0), (0, 0), (0, 0), (0, 0), (8, 0), (9, 0), (10, 0)] r_p 8) (bx_val [(0, 0), (0, 0), (0, 0), (0, 0), (0, 0), (0, 0), (0, 0), (0, 0), (8, 0), (9, 0), (10, 0)] r_p 9) (bx_val [(0, 0), (0, 0), (0, 0), (0, 0), (0, 0), (0, 0), (0, 0), (0, 0), (8, 0), (9, 0), (10, 0)] r_p 10) < rxm225_0 S0 ws S_p (r 8) (r 9) (r 10)
    rw [bx_val_x (n := 8) (e := (8, 0)) h0_ rfl, bx_val_x (n := 9) (e := (9, 0)) h0_ rfl, bx_val_x (n := 10) (e := (10, 0)) h0_ rfl, ← hr_ 8 (by decide), ← hr_ 9 (by decide), ← hr_ 10 (by decide)]
    exact g.2.2.2
theorem rxc225_0_9 {S0 : Nat → Int → Int} {ws : List Int} {S : Nat → Int → Int} {pe wh va : Int} (hP : rxP225 S0 ws) (hin : bx_same rxL (bx_mdl rxC225.2.2.1) S0 S) (I0 : bx_Inv rxL S) (hinv : rxI225_0 S0 ws S pe wh va) (l8 : (-2147483648) ≤ pe) (u8 : pe ≤ 2147483647) (l9 : (-2147483648) ≤ wh) (u9 : wh ≤ 2147483647) (l10 : (-2147483648) ≤ va) (u10 : va ≤ 2147483647) (f0 : wh ≠ 1) (f1 : wh ≠ 0) : (True) ∧ (True) ∧ rxI225_1 S0 ws S pe wh va ∧ rxm225_1 S0 ws S pe wh va < rxm225_0 S0 ws S pe wh va := by
  obtain ⟨rfl, hw⟩ := hinv
  exact ⟨trivial, trivial, ⟨rfl, by omega, hw⟩, by unfold rxm225_0 rxm225_1; omega⟩
theorem rxg225_0_9 {X : (Nat → Int → Int) → Prop} {S0 : Nat → Int → Int} {ws : List Int} (hP : rxP225 S0 ws) : bx_obC rxL X S0 rxC225.2.2.1 (rxI225 S0 ws) (rxm225 S0 ws) 0 rxz225_0 rxo225_0_9 := by
  intro S S_p r r_p hinv hX hin hsm_ hseg
  obtain ⟨I0, I1, h0_, hr_, b_, f_, d_⟩ := bx_cl (evs := []) (fvs := [(3, (9, 0), (0, 1), (0, 0)), (3, (9, 0), (0, 0), (0, 0))]) hseg (by decide +kernel) (by decide +kernel)
  have hinv : rxI225_0 S0 ws S (r 8) (r 9) (r 10) := hinv
  rw [← hr_ 8 (by decide), ← hr_ 9 (by decide), ← hr_ 10 (by decide)] at hinv
  obtain ⟨⟨l8, u8⟩, ⟨l9, u9⟩, ⟨l10, u10⟩, -⟩ := b_
  obtain ⟨f0, f1, -⟩ := f_
  have w_ := d_
  subst w_
  have g := rxc225_0_9 hP hin I0 hinv l8 u8 l9 u9 l10 u10 f0 f1
  refine ⟨bx_narP_ok (l := []) g.1, bx_nfP_ok h0_ (fvs := []) (by decide +kernel) g.2.1, ?_, ?_⟩
  · show rxI225_1 S0 ws S_p (bx_val [(0, 0), (0, 0), (0, 0), (0, 0), (0, 0), (0, 0), (0, 0), (0, 0), (8, 0), (9, 0), (10, 0)] r_p 8) (bx_val [(0, 0), (0, 0), (0, 0), (0, 0), (0, 0), (0, 0), (0, 0), (0, 0), (8, 0), (9, 0), (10, 0)] r_p 9) (bx_val [(0, 0), (0, 0), (0, 0), (0, 0), (0, 0), (0, 0), (0, 0), (0, 0), (8, 0), (9, 0), (10, 0)] r_p 10)
    rw [bx_val_x (n := 8) (e := (8, 0)) h0_ rfl, bx_val_x (n := 9) (e := (9, 0)) h0_ rfl, bx_val_x (n := 10) (e := (10, 0)) h0_ rfl]
    exact g.2.2.1
  · show rxm225_1 S0 ws S_p (bx_val [(0, 0), (0, 0), (0, 0), (0, 0), (0, 0), (0, 0), (0, 0), (0, 0), (8, 0), (9, 0), (10, 0)] r_p 8) (bx_val [(0, 0), (0, 0), (0, 0), (0, 0), (0, 0), (0, 0), (0, 0), (0, 0), (8, 0), (9, 0), (10, 0)] r_p 9) (bx_val [(0, 0), (0, 0), (0, 0), (0, 0), (0, 0), (0, 0), (0, 0), (0, 0), (8, 0), (9, 0), (10, 0)] r_p 10) < rxm225_0 S0 ws S_p (r 8) (r 9) (r 10)
    rw [bx_val_x (n := 8) (e := (8, 0)) h0_ rfl, bx_val_x (n := 9) (e := (9, 0)) h0_ rfl, bx_val_x (n := 10) (e := (10, 0)) h0_ rfl, ← hr_ 8 (by decide), ← hr_ 9 (by decide), ← hr_ 10 (by decide)]
    exact g.2.2.2
theorem rxd225_0_0 {S0 : Nat → Int → Int} {ws : List Int} {S : Nat → Int → Int} {pe wh va x11 x12 x13 : Int} (hP : rxP225 S0 ws) (hin : bx_same rxL (bx_mdl rxC225.2.2.1) S0 S) (hin2 : bx_same rxL (bx_mdl rxC225.2.2.1) S (bx_up (bx_up S 7 pe va) 0 8 0)) (I0 : bx_Inv rxL S) (I1 : bx_Inv rxL (bx_up (bx_up S 7 pe va) 0 8 0)) (hinv : rxI225_0 S0 ws S pe wh va) (l8 : 0 ≤ pe) (u8 : pe ≤ 7) (l9 : 0 ≤ wh) (u9 : wh ≤ 0) (l10 : 1 ≤ va) (u10 : va ≤ 300) (l11 : 1 ≤ x11) (u11 : x11 ≤ 8) (l12 : 0 ≤ x12) (u12 : x12 ≤ 200) (l13 : 0 ≤ x13) (u13 : x13 ≤ 300) (f0 : x12 < va) (f1 : pe < x11) (e4 : S 5 0 = x11) (e3 : S 6 pe = x12) (e2 : S 7 pe = x13) : (True) ∧ rxPS225 S0 ws (bx_up (bx_up S 7 pe va) 0 8 0) (some x13) := by
  obtain ⟨rfl, hw⟩ := hinv
  refine ⟨trivial, pe, wh, va, hw, Or.inr (Or.inr (Or.inr (Or.inl (⟨?_, ?_, ?_, ?_, ?_, ?_, ?_, ?_, ?_, ?_, ?_, ?_, ?_, ?_, ?_⟩))))⟩ <;> first | omega | exact hin2 | exact congrArg some (by omega) | (intro i i0 i1; simp only [bx_up]; (repeat' split) <;> first | rfl | omega | (simp_all; done) | (simp_all; omega)) | ((repeat (first | rw [bx_up_at] | rw [bx_up_ne (by omega)])); omega) | exact True.intro
theorem rxf225_0_0 {X : (Nat → Int → Int) → Prop} {S0 : Nat → Int → Int} {ws : List Int} (hP : rxP225 S0 ws) : bx_obE rxL X S0 rxC225.2.2.1 (rxI225 S0 ws) (rxPS225 S0 ws) 0 rxz225_0 rxe225_0_0 := by
  intro S S_p r r_p hinv hX hin hsm_ hseg
  obtain ⟨I0, I1, h0_, hr_, b_, f_, d_⟩ := bx_cl (evs := [(1, (0, 0), (0, 8), .inr (0, (0, 0))), (1, (0, 7), (8, 0), .inr (0, (10, 0))), (0, (0, 7), (8, 0), .inr (0, (13, 0))), (0, (0, 6), (8, 0), .inr (0, (12, 0))), (0, (0, 5), (0, 0), .inr (0, (11, 0)))]) (fvs := [(0, (12, 0), (10, 0), (0, 0)), (0, (8, 0), (11, 0), (0, 0))]) hseg (by decide +kernel) (by decide +kernel)
  have hinv : rxI225_0 S0 ws S (r 8) (r 9) (r 10) := hinv
  rw [← hr_ 8 (by decide), ← hr_ 9 (by decide), ← hr_ 10 (by decide)] at hinv
  obtain ⟨⟨l8, u8⟩, ⟨l9, u9⟩, ⟨l10, u10⟩, ⟨l11, u11⟩, ⟨l12, u12⟩, ⟨l13, u13⟩, -⟩ := b_
  obtain ⟨f0, f1, -⟩ := f_
  obtain ⟨T0, ⟨T1, ⟨e2, ⟨e3, ⟨e4, w_⟩⟩⟩, w1⟩, w0⟩ := d_
  subst w0
  subst w1
  subst w_
  have g := rxd225_0_0 hP hin hsm_ I0 I1 hinv l8 u8 l9 u9 l10 u10 l11 u11 l12 u12 l13 u13 f0 f1 e4 e3 e2
  refine ⟨bx_narP_ok (l := []) g.1, ?_⟩
  show rxPS225 S0 ws (bx_up (bx_up T1 7 (r_p 8) (r_p 10)) 0 (8) (0)) (some (bx_num r_p (.inr (0, (13, 0)))))
  rw [bx_xv_ok h0_]
  exact g.2
theorem rxd225_0_1 {S0 : Nat → Int → Int} {ws : List Int} {S : Nat → Int → Int} {pe wh va x11 x12 : Int} (hP : rxP225 S0 ws) (hin : bx_same rxL (bx_mdl rxC225.2.2.1) S0 S) (hin2 : bx_same rxL (bx_mdl rxC225.2.2.1) S (bx_up (bx_up S 8 pe va) 0 8 0)) (I0 : bx_Inv rxL S) (I1 : bx_Inv rxL (bx_up (bx_up S 8 pe va) 0 8 0)) (hinv : rxI225_0 S0 ws S pe wh va) (l8 : 0 ≤ pe) (u8 : pe ≤ 7) (l9 : 1 ≤ wh) (u9 : wh ≤ 1) (l10 : 1 ≤ va) (u10 : va ≤ 9) (l11 : 1 ≤ x11) (u11 : x11 ≤ 8) (l12 : 0 ≤ x12) (u12 : x12 ≤ 9) (f0 : pe < x11) (f1 : wh ≠ 0) (e3 : S 5 0 = x11) (e2 : S 8 pe = x12) : (True) ∧ rxPS225 S0 ws (bx_up (bx_up S 8 pe va) 0 8 0) (some x12) := by
  obtain ⟨rfl, hw⟩ := hinv
  refine ⟨trivial, pe, wh, va, hw, Or.inr (Or.inr (Or.inr (Or.inr (⟨?_, ?_, ?_, ?_, ?_, ?_, ?_, ?_, ?_, ?_, ?_, ?_, ?_, ?_⟩))))⟩ <;> first | omega | exact hin2 | exact congrArg some (by omega) | (intro i i0 i1; simp only [bx_up]; (repeat' split) <;> first | rfl | omega | (simp_all; done) | (simp_all; omega)) | ((repeat (first | rw [bx_up_at] | rw [bx_up_ne (by omega)])); omega) | exact True.intro
theorem rxf225_0_1 {X : (Nat → Int → Int) → Prop} {S0 : Nat → Int → Int} {ws : List Int} (hP : rxP225 S0 ws) : bx_obE rxL X S0 rxC225.2.2.1 (rxI225 S0 ws) (rxPS225 S0 ws) 0 rxz225_0 rxe225_0_1 := by
  intro S S_p r r_p hinv hX hin hsm_ hseg
  obtain ⟨I0, I1, h0_, hr_, b_, f_, d_⟩ := bx_cl (evs := [(1, (0, 0), (0, 8), .inr (0, (0, 0))), (1, (0, 8), (8, 0), .inr (0, (10, 0))), (0, (0, 8), (8, 0), .inr (0, (12, 0))), (0, (0, 5), (0, 0), .inr (0, (11, 0)))]) (fvs := [(0, (8, 0), (11, 0), (0, 0)), (3, (9, 0), (0, 0), (0, 0))]) hseg (by decide +kernel) (by decide +kernel)
  have hinv : rxI225_0 S0 ws S (r 8) (r 9) (r 10) := hinv
  rw [← hr_ 8 (by decide), ← hr_ 9 (by decide), ← hr_ 10 (by decide)] at hinv
  obtain ⟨⟨l8, u8⟩, ⟨l9, u9⟩, ⟨l10, u10⟩, ⟨l11, u11⟩, ⟨l12, u12⟩, -⟩ := b_
  obtain ⟨f0, f1, -⟩ := f_
  obtain ⟨T0, ⟨T1, ⟨e2, ⟨e3, w_⟩⟩, w1⟩, w0⟩ := d_
  subst w0
  subst w1
  subst w_
  have g := rxd225_0_1 hP hin hsm_ I0 I1 hinv l8 u8 l9 u9 l10 u10 l11 u11 l12 u12 f0 f1 e3 e2
  refine ⟨bx_narP_ok (l := []) g.1, ?_⟩
  show rxPS225 S0 ws (bx_up (bx_up T1 8 (r_p 8) (r_p 10)) 0 (8) (0)) (some (bx_num r_p (.inr (0, (12, 0)))))
  rw [bx_xv_ok h0_]
  exact g.2
theorem rxd225_2_0 {S0 : Nat → Int → Int} {ws : List Int} {S : Nat → Int → Int} {pe wh va res : Int} (hP : rxP225 S0 ws) (hin : bx_same rxL (bx_mdl rxC225.2.2.1) S0 S) (hin2 : bx_same rxL (bx_mdl rxC225.2.2.1) S S) (I0 : bx_Inv rxL S) (I1 : bx_Inv rxL S) (hinv : rxI225_2 S0 ws S pe wh va res) (l8 : (-2147483648) ≤ pe) (u8 : pe ≤ 2147483647) (l9 : (-2147483648) ≤ wh) (u9 : wh ≤ 2147483647) (l10 : (-2147483648) ≤ va) (u10 : va ≤ 2147483647) (l11 : (-6) ≤ res) (u11 : res ≤ (-1)) : (True) ∧ rxPS225 S0 ws S (some res) := by
  obtain ⟨h1, h2, hw, hs⟩ := hinv
  refine ⟨trivial, pe, wh, va, hw, Or.inl (⟨by omega, ?_, ?_⟩)⟩
  · exact congrArg some h1
  · exact hs
theorem rxf225_2_0 {X : (Nat → Int → Int) → Prop} {S0 : Nat → Int → Int} {ws : List Int} (hP : rxP225 S0 ws) : bx_obE rxL X S0 rxC225.2.2.1 (rxI225 S0 ws) (rxPS225 S0 ws) 2 rxz225_2 rxe225_2_0 := by
  intro S S_p r r_p hinv hX hin hsm_ hseg
  obtain ⟨I0, I1, h0_, hr_, b_, f_, d_⟩ := bx_cl (evs := []) (fvs := []) hseg (by decide +kernel) (by decide +kernel)
  have hinv : rxI225_2 S0 ws S (r 8) (r 9) (r 10) (r 11) := hinv
  rw [← hr_ 8 (by decide), ← hr_ 9 (by decide), ← hr_ 10 (by decide), ← hr_ 11 (by decide)] at hinv
  obtain ⟨⟨l8, u8⟩, ⟨l9, u9⟩, ⟨l10, u10⟩, ⟨l11, u11⟩, -⟩ := b_
  have w_ := d_
  subst w_
  have g := rxd225_2_0 hP hin hsm_ I0 I1 hinv l8 u8 l9 u9 l10 u10 l11 u11
  refine ⟨bx_narP_ok (l := []) g.1, ?_⟩
  show rxPS225 S0 ws S_p (some (bx_num r_p (.inr (0, (11, 0)))))
  rw [bx_xv_ok h0_]
  exact g.2
theorem rxd225_4_0 {S0 : Nat → Int → Int} {ws : List Int} {S : Nat → Int → Int} {pe wh va res : Int} (hP : rxP225 S0 ws) (hin : bx_same rxL (bx_mdl rxC225.2.2.1) S0 S) (hin2 : bx_same rxL (bx_mdl rxC225.2.2.1) S S) (I0 : bx_Inv rxL S) (I1 : bx_Inv rxL S) (hinv : rxI225_4 S0 ws S pe wh va res) (l8 : (-2147483648) ≤ pe) (u8 : pe ≤ 2147483647) (l9 : 0 ≤ wh) (u9 : wh ≤ 1) (l10 : 0 ≤ va) (u10 : va ≤ 300) (l11 : (-6) ≤ res) (u11 : res ≤ (-1)) : (True) ∧ rxPS225 S0 ws S (some res) := by
  obtain ⟨h1, h2, hw, hs⟩ := hinv
  refine ⟨trivial, pe, wh, va, hw, Or.inr (Or.inl (⟨by omega, by omega, ?_, ?_⟩))⟩
  · exact congrArg some h1
  · exact hs
theorem rxf225_4_0 {X : (Nat → Int → Int) → Prop} {S0 : Nat → Int → Int} {ws : List Int} (hP : rxP225 S0 ws) : bx_obE rxL X S0 rxC225.2.2.1 (rxI225 S0 ws) (rxPS225 S0 ws) 4 rxz225_4 rxe225_4_0 := by
  intro S S_p r r_p hinv hX hin hsm_ hseg
  obtain ⟨I0, I1, h0_, hr_, b_, f_, d_⟩ := bx_cl (evs := []) (fvs := []) hseg (by decide +kernel) (by decide +kernel)
  have hinv : rxI225_4 S0 ws S (r 8) (r 9) (r 10) (r 11) := hinv
  rw [← hr_ 8 (by decide), ← hr_ 9 (by decide), ← hr_ 10 (by decide), ← hr_ 11 (by decide)] at hinv
  obtain ⟨⟨l8, u8⟩, ⟨l9, u9⟩, ⟨l10, u10⟩, ⟨l11, u11⟩, -⟩ := b_
  have w_ := d_
  subst w_
  have g := rxd225_4_0 hP hin hsm_ I0 I1 hinv l8 u8 l9 u9 l10 u10 l11 u11
  refine ⟨bx_narP_ok (l := []) g.1, ?_⟩
  show rxPS225 S0 ws S_p (some (bx_num r_p (.inr (0, (11, 0)))))
  rw [bx_xv_ok h0_]
  exact g.2
theorem rxd225_6_0 {S0 : Nat → Int → Int} {ws : List Int} {S : Nat → Int → Int} {pe wh va res : Int} (hP : rxP225 S0 ws) (hin : bx_same rxL (bx_mdl rxC225.2.2.1) S0 S) (hin2 : bx_same rxL (bx_mdl rxC225.2.2.1) S S) (I0 : bx_Inv rxL S) (I1 : bx_Inv rxL S) (hinv : rxI225_6 S0 ws S pe wh va res) (l8 : 0 ≤ pe) (u8 : pe ≤ 7) (l9 : 0 ≤ wh) (u9 : wh ≤ 0) (l10 : 0 ≤ va) (u10 : va ≤ 200) (l11 : (-6) ≤ res) (u11 : res ≤ (-1)) : (True) ∧ rxPS225 S0 ws S (some res) := by
  obtain ⟨h1, h2, hw, hs⟩ := hinv
  refine ⟨trivial, pe, wh, va, hw, Or.inr (Or.inr (Or.inl (⟨by omega, by omega, by omega, by omega, by omega, by omega, by omega, ?_, ?_⟩)))⟩
  · exact congrArg some h1
  · exact hs
theorem rxf225_6_0 {X : (Nat → Int → Int) → Prop} {S0 : Nat → Int → Int} {ws : List Int} (hP : rxP225 S0 ws) : bx_obE rxL X S0 rxC225.2.2.1 (rxI225 S0 ws) (rxPS225 S0 ws) 6 rxz225_6 rxe225_6_0 := by
  intro S S_p r r_p hinv hX hin hsm_ hseg
  obtain ⟨I0, I1, h0_, hr_, b_, f_, d_⟩ := bx_cl (evs := []) (fvs := []) hseg (by decide +kernel) (by decide +kernel)
  have hinv : rxI225_6 S0 ws S (r 8) (r 9) (r 10) (r 11) := hinv
  rw [← hr_ 8 (by decide), ← hr_ 9 (by decide), ← hr_ 10 (by decide), ← hr_ 11 (by decide)] at hinv
  obtain ⟨⟨l8, u8⟩, ⟨l9, u9⟩, ⟨l10, u10⟩, ⟨l11, u11⟩, -⟩ := b_
  have w_ := d_
  subst w_
  have g := rxd225_6_0 hP hin hsm_ I0 I1 hinv l8 u8 l9 u9 l10 u10 l11 u11
  refine ⟨bx_narP_ok (l := []) g.1, ?_⟩
  show rxPS225 S0 ws S_p (some (bx_num r_p (.inr (0, (11, 0)))))
  rw [bx_xv_ok h0_]
  exact g.2
theorem rxgC225 {X : (Nat → Int → Int) → Prop} {S0 : Nat → Int → Int} {ws : List Int} (hP : rxP225 S0 ws) : bx_allI (fun i q => rxU225 q = true ∨ bx_allP (fun o => bx_obC rxL X S0 rxC225.2.2.1 (rxI225 S0 ws) (rxm225 S0 ws) i q.1 o) q.2.1) 0 rxY225 := ⟨Or.inr ⟨rxg225_0_0 hP, rxg225_0_1 hP, rxg225_0_2 hP, rxg225_0_3 hP, rxg225_0_4 hP, rxg225_0_5 hP, rxg225_0_6 hP, rxg225_0_7 hP, rxg225_0_8 hP, rxg225_0_9 hP, trivial⟩, Or.inl rfl, Or.inr trivial, Or.inl rfl, Or.inr trivial, Or.inl rfl, Or.inr trivial, trivial⟩
theorem rxgE225 {X : (Nat → Int → Int) → Prop} {S0 : Nat → Int → Int} {ws : List Int} (hP : rxP225 S0 ws) : bx_allI (fun i q => rxU225 q = true ∨ bx_allP (fun E => bx_obE rxL X S0 rxC225.2.2.1 (rxI225 S0 ws) (rxPS225 S0 ws) i q.1 E) q.2.2) 0 rxY225 := ⟨Or.inr ⟨rxf225_0_0 hP, rxf225_0_1 hP, trivial⟩, Or.inl rfl, Or.inr ⟨rxf225_2_0 hP, trivial⟩, Or.inl rfl, Or.inr ⟨rxf225_4_0 hP, trivial⟩, Or.inl rfl, Or.inr ⟨rxf225_6_0 hP, trivial⟩, trivial⟩
theorem rxu225 {PX : State → Prop} {Dg : va_G} {A : Nat → Prop} {ad xa : Nat → Nat} {l : Launch} {X : (Nat → Int → Int) → Prop} (hPX : rx_PXOK rxNW A PX) (hX : ∀ S S1 : Nat → Int → Int, X S → bx_same rxL (bx_mdl rxC225.2.2.1) S S1 → X S1) (hQ110 : bx_ConP rxG rxNW rxAO PX Dg rxL X vwCl A ad l rxM110 rxC110 rxP110 rxPS110) {S0 : Nat → Int → Int} {ws : List Int} (hP : rxP225 S0 ws) : ∀ (i : Nat) (q : bx_HE), rxY225[i]? = some q → rxU225 q = true → ∀ {p : Program} {e : Env} {R : Room} {s : State} {m : MethodId} {args : Array Value} {below : List Frame} {meth : Method} {c : Code} {Q : State → Prop} {H0 : Heap}, rx_Fr rxG rxNW rxAO PX p s m args meth c rxM225 → (∀ q, H0.size ≤ q → A q) → H0 = s.heap → rxM225.2.2.2.2.2.2.1 ≤ R.cells → rxM225.2.2.2.2.2.2.2 ≤ R.slots → rxC225.2.2.2.1 ≤ R.frames → rxC225.2.2.2.1 * 40 ≤ R.locals → bx_Step p l e R s m args below meth c Q Dg rxL X vwCl A xa H0 ad rxM225 rxY225 (rxI225 S0 ws) (rxm225 S0 ws) S0 rxC225.2.2.1 i q := by
  intro i q hq hus p e R s m args below meth c Q H0 hF hA hH0 hmc hms hd hdl
  match i, hq with
  | 0, hq =>
    cases hq
    exact absurd (show false = true from hus) Bool.false_ne_true
  | 1, hq =>
    cases hq
    exact rx_stepC (ins := .invokevirtual 110) (len := 3) (i_p := 2) (M_p := rxM110) (d := rxC225.2.2.2.1) (as := [.inr (3, (0, 0)), .inr (0, (0, (-1)))]) (t := []) (ct := rxC110) hPX hF rfl hA hH0 hmc hms hd hdl (by decide +kernel) rfl rfl (by decide +kernel) (by decide +kernel) hQ110 (by decide +kernel) rfl (Or.inr ⟨_, _, _, 1, rfl, rfl, by omega, rfl, rfl, rfl⟩) (rxs225_1 hP)
  | 2, hq =>
    cases hq
    exact absurd (show false = true from hus) Bool.false_ne_true
  | 3, hq =>
    cases hq
    exact rx_stepC (ins := .invokevirtual 110) (len := 3) (i_p := 4) (M_p := rxM110) (d := rxC225.2.2.2.1) (as := [.inr (3, (0, 0)), .inr (0, (0, (-2)))]) (t := []) (ct := rxC110) hPX hF rfl hA hH0 hmc hms hd hdl (by decide +kernel) rfl rfl (by decide +kernel) (by decide +kernel) hQ110 (by decide +kernel) rfl (Or.inr ⟨_, _, _, 1, rfl, rfl, by omega, rfl, rfl, rfl⟩) (rxs225_3 hP)
  | 4, hq =>
    cases hq
    exact absurd (show false = true from hus) Bool.false_ne_true
  | 5, hq =>
    cases hq
    exact rx_stepC (ins := .invokevirtual 110) (len := 3) (i_p := 6) (M_p := rxM110) (d := rxC225.2.2.2.1) (as := [.inr (3, (0, 0)), .inr (0, (0, (-1)))]) (t := []) (ct := rxC110) hPX hF rfl hA hH0 hmc hms hd hdl (by decide +kernel) rfl rfl (by decide +kernel) (by decide +kernel) hQ110 (by decide +kernel) rfl (Or.inr ⟨_, _, _, 1, rfl, rfl, by omega, rfl, rfl, rfl⟩) (rxs225_5 hP)
  | 6, hq =>
    cases hq
    exact absurd (show false = true from hus) Bool.false_ne_true
  | n + 7, hq => cases hq
theorem rxQ225 {PX : State → Prop} {Dg : va_G} {A : Nat → Prop} {ad xa : Nat → Nat} {l : Launch} {X : (Nat → Int → Int) → Prop} (hPX : rx_PXOK rxNW A PX) (hsl : ∀ s : State, PX s → ∀ o idx n : Nat, rxSl o idx = some n → ∃ tx : String, vk_R (rxNm o) idx tx (ad n) s)
    (hX : ∀ S S_p : Nat → Int → Int, X S → bx_same rxL (bx_mdl rxC225.2.2.1) S S_p → X S_p)
    (ih : ∀ (j2 : Nat) (ct2 : bx_Ct) (M2 : rx_Mt), ct2 ∈ rxCnE j2 → ct2.2.2.2.1 + 1 ≤ rxC225.2.2.2.1 → rxT.2.2.2.2.2 j2 = some M2 → bx_Con rxG rxNW rxAO PX Dg rxL X vwCl A ad l M2 ct2) (hQ110 : bx_ConP rxG rxNW rxAO PX Dg rxL X vwCl A ad l rxM110 rxC110 rxP110 rxPS110) : bx_ConP rxG rxNW rxAO PX Dg rxL X vwCl A ad l rxM225 rxC225 rxP225 rxPS225 :=
  rxQof (xa := xa) (Cn := rxCnE) (f := 30000) (j := 225) (tab := rxY225) (us := rxU225) hPX hsl hX ih rfl rxYc225 rxI225 rxm225
    (fun S0 ws r I0 I ht0 ht as he he1 hX0 hI0 hP hs ha => by
      have e := he.symm.trans (show bx_ent0 rxNP rxC225.1 bx_I0 [] = some ([(0, 0), (0, 0), (0, 0), (0, 0), (0, 0), (0, 0), (0, 0), (0, 0), ((-2147483648), 2147483647), ((-2147483648), 2147483647), ((-2147483648), 2147483647)], [], [.inr (3, (0, 0)), .inr (0, (8, 0)), .inr (0, (9, 0)), .inr (0, (10, 0))]) from rfl)
      cases e
      subst ha
      have h0 : r 0 = 0 := hs.1
      show rxI225_0 S0 _ S0 (r 8) (r 9) (r 10)
      refine ⟨rfl, ?_⟩
      simp only [List.map_cons, List.map_nil, bx_xv_ok h0]
      rfl)
    (fun S0 ws hP => rxu225 (xa := xa) hPX hX hQ110 hP) (fun S0 ws hP => rxgC225 hP) (fun S0 ws hP => rxgE225 hP)
set_option maxHeartbeats 1000000 in
theorem rzQ225 {PX : State → Prop} {Dg : va_G} {A : Nat → Prop} {ad : Nat → Nat} {l : Launch} (hPX : rx_PXOK rxNW A PX) (hsl : ∀ s : State, PX s → ∀ o idx n : Nat, rxSl o idx = some n → ∃ tx : String, vk_R (rxNm o) idx tx (ad n) s) (ih : ∀ (j : Nat) (ct : bx_Ct) (M : rx_Mt), ct ∈ rxCn j → rxT.2.2.2.2.2 j = some M → bx_Con rxG rxNW rxAO PX Dg rxL rxX vwCl A ad l M ct) : bx_ConP rxG rxNW rxAO PX Dg rxL rxX vwCl A ad l rxM225 rxC225 (fun _ _ => True) rxPS225 := by
  have q110 := rxQ110 (PX := PX) (Dg := Dg) (A := A) (ad := ad) (xa := fun n => n) (l := l) (X := rxX) hPX hsl (fun _ _ h hm => rxX_of (by decide +kernel) h hm) (fun _ _ _ h => absurd h List.not_mem_nil)
  have q225 := rxQ225 (PX := PX) (Dg := Dg) (A := A) (ad := ad) (xa := fun n => n) (l := l) (X := rxX) hPX hsl (fun _ _ h hm => rxX_of (by decide +kernel) h hm) (fun _ _ _ h => absurd h List.not_mem_nil) q110
  exact fun S0 ws h1 h2 h3 _ => q225 S0 ws h1 h2 h3 trivial
noncomputable def rxI224_0 (S0 : Nat → Int → Int) (ws : List Int) (S : Nat → Int → Int) (bo de me : Int) : Prop := S = S0 ∧ ws = [480, bo, de, me]
noncomputable def rxm224_0 (S0 : Nat → Int → Int) (ws : List Int) (S : Nat → Int → Int) (bo de me : Int) : Nat := 100
noncomputable def rxz224_0 : rx_Z := ([(0, 0), (0, 0), (0, 0), (0, 0), (0, 0), (0, 0), (0, 0), (0, 0), ((-2147483648), 2147483647), ((-2147483648), 2147483647), ((-2147483648), 2147483647)], [], [], 0, 0, 0, [(0, .inr (3, (0, 480))), (1, .inr (0, (8, 0))), (2, .inr (0, (9, 0))), (3, .inr (0, (10, 0)))], [])
noncomputable def rxe224_0_0 : rx_End × List (Nat × Int × Int) := (([(0, 0), (0, 0), (0, 0), (0, 0), (0, 0), (0, 0), (0, 0), (0, 0), ((-2147483648), (-1)), ((-2147483648), 2147483647), ((-2147483648), 2147483647), ((-2147483648), 2147483647), ((-2147483648), 2147483647)], [], [(((0, 0), 1851192626986356797625047037163794926384839479479878431390892035000000), .inr (0, (12, 0))), (((0, 481), 1), .inr (0, (12, 0))), (((0, 0), 1851192626986356797625047037163794926384839479479878431390892032000000), .inr (0, (11, 0))), (((0, 480), 2), .inr (3, (0, 481))), (((0, 0), 1851192626986356797625047037163794926384839479479878431390302211000000), .inr (0, (0, (-1)))), (((0, 480), 1), .inr (0, (0, (-1)))), (((0, 0), 1851192626986356797424340330377019318111018015026043177836478467000000), .inr (0, (0, 0))), (((0, 480), 0), .inr (0, (0, 0)))], some (.inr (0, (0, (-1))))), [])
noncomputable def rxe224_0_1 : rx_End × List (Nat × Int × Int) := (([(0, 0), (0, 0), (0, 0), (0, 0), (0, 0), (0, 0), (0, 0), (0, 0), (201, 2147483647), ((-2147483648), 2147483647), ((-2147483648), 2147483647), ((-2147483648), 2147483647), ((-2147483648), 2147483647)], [], [(((0, 0), 1851192626986356797625047037163794926384839479479878431390892035000000), .inr (0, (12, 0))), (((0, 481), 1), .inr (0, (12, 0))), (((0, 0), 1851192626986356797625047037163794926384839479479878431390892032000000), .inr (0, (11, 0))), (((0, 480), 2), .inr (3, (0, 481))), (((0, 0), 1851192626986356797625047037163794926384839479479878431390302211000000), .inr (0, (0, (-1)))), (((0, 480), 1), .inr (0, (0, (-1)))), (((0, 0), 1851192626986356797424340330377019318111018015026043177836478467000000), .inr (0, (0, 0))), (((0, 480), 0), .inr (0, (0, 0)))], some (.inr (0, (0, (-1))))), [])
noncomputable def rxe224_0_2 : rx_End × List (Nat × Int × Int) := (([(0, 0), (0, 0), (0, 0), (0, 0), (0, 0), (0, 0), (0, 0), (0, 0), (0, 200), ((-2147483648), 200), ((-2147483648), 2147483647), ((-2147483648), 2147483647), ((-2147483648), 2147483647)], [(0, (9, 0), (8, 1))], [(((0, 0), 1851192626986356797625047037163794926384839479479878431390892035000000), .inr (0, (12, 0))), (((0, 481), 1), .inr (0, (12, 0))), (((0, 0), 1851192626986356797625047037163794926384839479479878431390892032000000), .inr (0, (11, 0))), (((0, 480), 2), .inr (3, (0, 481))), (((0, 0), 1851192626986356797625047037163794926384839479479878431390302211000000), .inr (0, (0, (-1)))), (((0, 480), 1), .inr (0, (0, (-1)))), (((0, 0), 1851192626986356797424340330377019318111018015026043177836478467000000), .inr (0, (0, 0))), (((0, 480), 0), .inr (0, (0, 0)))], some (.inr (0, (0, (-1))))), [])
noncomputable def rxe224_0_3 : rx_End × List (Nat × Int × Int) := (([(0, 0), (0, 0), (0, 0), (0, 0), (0, 0), (0, 0), (0, 0), (0, 0), (0, 200), (301, 2147483647), ((-2147483648), 2147483647), ((-2147483648), 2147483647), ((-2147483648), 2147483647)], [(1, (8, 1), (9, 0))], [(((0, 0), 1851192626986356797625047037163794926384839479479878431390892035000000), .inr (0, (12, 0))), (((0, 481), 1), .inr (0, (12, 0))), (((0, 0), 1851192626986356797625047037163794926384839479479878431390892032000000), .inr (0, (11, 0))), (((0, 480), 2), .inr (3, (0, 481))), (((0, 0), 1851192626986356797625047037163794926384839479479878431390302211000000), .inr (0, (0, (-1)))), (((0, 480), 1), .inr (0, (0, (-1)))), (((0, 0), 1851192626986356797424340330377019318111018015026043177836478467000000), .inr (0, (0, 0))), (((0, 480), 0), .inr (0, (0, 0)))], some (.inr (0, (0, (-1))))), [])
noncomputable def rxe224_0_4 : rx_End × List (Nat × Int × Int) := (([(0, 0), (0, 0), (0, 0), (0, 0), (0, 0), (0, 0), (0, 0), (0, 0), (0, 200), (1, 300), ((-2147483648), 0), ((-2147483648), 2147483647), ((-2147483648), 2147483647)], [(1, (8, 1), (9, 0))], [(((0, 0), 1851192626986356797625047037163794926384839479479878431390892035000000), .inr (0, (12, 0))), (((0, 481), 1), .inr (0, (12, 0))), (((0, 0), 1851192626986356797625047037163794926384839479479878431390892032000000), .inr (0, (11, 0))), (((0, 480), 2), .inr (3, (0, 481))), (((0, 0), 1851192626986356797625047037163794926384839479479878431390302211000000), .inr (0, (0, (-1)))), (((0, 480), 1), .inr (0, (0, (-1)))), (((0, 0), 1851192626986356797424340330377019318111018015026043177836478467000000), .inr (0, (0, 0))), (((0, 480), 0), .inr (0, (0, 0)))], some (.inr (0, (0, (-1))))), [])
noncomputable def rxe224_0_5 : rx_End × List (Nat × Int × Int) := (([(0, 0), (0, 0), (0, 0), (0, 0), (0, 0), (0, 0), (0, 0), (0, 0), (0, 200), (1, 300), (10, 2147483647), ((-2147483648), 2147483647), ((-2147483648), 2147483647)], [(1, (8, 1), (9, 0))], [(((0, 0), 1851192626986356797625047037163794926384839479479878431390892035000000), .inr (0, (12, 0))), (((0, 481), 1), .inr (0, (12, 0))), (((0, 0), 1851192626986356797625047037163794926384839479479878431390892032000000), .inr (0, (11, 0))), (((0, 480), 2), .inr (3, (0, 481))), (((0, 0), 1851192626986356797625047037163794926384839479479878431390302211000000), .inr (0, (0, (-1)))), (((0, 480), 1), .inr (0, (0, (-1)))), (((0, 0), 1851192626986356797424340330377019318111018015026043177836478467000000), .inr (0, (0, 0))), (((0, 480), 0), .inr (0, (0, 0)))], some (.inr (0, (0, (-1))))), [])
noncomputable def rxe224_0_6 : rx_End × List (Nat × Int × Int) := (([(0, 0), (0, 0), (0, 0), (0, 0), (0, 0), (0, 0), (0, 0), (0, 0), (0, 200), (1, 300), (1, 9), (8, 8), ((-2147483648), 2147483647), ((-2147483648), 2147483647)], [(1, (8, 1), (9, 0))], [(((0, 0), 1851192626986356798427873864310897359480125337295219445606187011000000), .inr (0, (13, 0))), (((0, 481), 5), .inr (0, (13, 0))), (((0, 0), 1851192626986356798427873864310897359480125337295219445606187008000000), .inr (0, (12, 0))), (((0, 480), 2), .inr (3, (0, 481))), (((0, 0), 1851192626986356797625047037163794926384839479479878431390302211000000), .inr (0, (0, (-5)))), (((0, 480), 1), .inr (0, (0, (-5)))), (((0, 0), 1851192626986356797625047037163794926384839479479878431391481856000000), .inr (0, (11, 0))), (((0, 480), 3), .inr (3, (0, 482))), (((0, 0), 1851192626986356797424340330377019318111018015026043177836478467000000), .inr (0, (0, 0))), (((0, 480), 0), .inr (0, (0, 0)))], some (.inr (0, (0, (-5))))), [])
noncomputable def rxe224_0_7 : rx_End × List (Nat × Int × Int) := (([(0, 0), (0, 0), (0, 0), (0, 0), (0, 0), (0, 0), (0, 0), (0, 0), (0, 200), (1, 300), (1, 9), (0, 7), (0, 21), (0, 21), (0, 21)], [(7, (14, 0), (11, 0)), (7, (13, 0), (11, 0)), (7, (12, 0), (11, 0)), (3, (11, 0), (0, 8)), (1, (8, 1), (9, 0))], [(((0, 0), 1851192626986356797625047037163794926384839479479878431390302211000000), .inr (0, (0, 0))), (((0, 480), 1), .inr (0, (0, 0))), (((0, 0), 1851192626986356797625047037163794926384839479479878431391481859000000), .inr (0, (11, 1))), (((0, 0), 1851192626986356845593992834781397342074565869147040433550000131000000), .inr (0, (10, 0))), (((0, 0), 1851192626986356845393283065453319445354573234321738294082273283000000), .inr (0, (9, 0))), (((0, 0), 1851192626986356845192573296125241548634580599496436154614546435000000), .inr (0, (8, 0))), (((0, 0), 1851192626986356797625047037163794926384839479479878431391481856000000), .inr (0, (11, 0))), (((0, 480), 3), .inr (3, (0, 482))), (((0, 0), 1851192626986356797424340330377019318111018015026043177836478467000000), .inr (0, (0, 0))), (((0, 480), 0), .inr (0, (0, 0)))], some (.inr (0, (11, 0)))), [])
noncomputable def rxY224 : List bx_HE := [(rxz224_0, [], [rxe224_0_0, rxe224_0_1, rxe224_0_2, rxe224_0_3, rxe224_0_4, rxe224_0_5, rxe224_0_6, rxe224_0_7])]
noncomputable def rxU224 (q : bx_HE) : Bool := false
noncomputable def rxYB224 : bx_B := (rxV, rxNP, rxDmf, bx_mdH rxC224.2.2.1)
set_option maxRecDepth 100000 in
theorem rxYc224 : bx_chkH rxYB224 rxM224 rxC224 rxY224 (rxU224, fun cut z => rx_ex2 (rxCT rxYB224 rxCnE) cut 30000 rxC224.2.2.2.1 224 z) = true := by decide +kernel
noncomputable def rxI224 (S0 : Nat → Int → Int) (ws : List Int) (i : Nat) : bx_SP := fun S r => match i with | 0 => rxI224_0 S0 ws S (r 8) (r 9) (r 10) | _ => False
noncomputable def rxm224 (S0 : Nat → Int → Int) (ws : List Int) (i : Nat) (S : Nat → Int → Int) (r : Nat → Int) : Nat := match i with | 0 => rxm224_0 S0 ws S (r 8) (r 9) (r 10) | _ => 0
noncomputable def rxP224 (S0 : Nat → Int → Int) (ws : List Int) : Prop := True
noncomputable def rxPS224 (S0 : Nat → Int → Int) (ws : List Int) (S : Nat → Int → Int) (w : Option Int) : Prop := ∃ bo de me : Int, ws = [480, bo, de, me] ∧ (((bo < 0 ∨ 200 < bo ∨ de ≤ bo ∨ 300 < de ∨ me < 1 ∨ 9 < me) ∧ w = some (-1) ∧ (∀ j : Int, S 482 j = S0 482 j)) ∨ (0 ≤ bo ∧ bo ≤ 200 ∧ bo < de ∧ de ≤ 300 ∧ 1 ≤ me ∧ me ≤ 9 ∧ 8 ≤ S0 482 1 ∧ w = some (-5) ∧ (∀ j : Int, S 482 j = S0 482 j)) ∨ (0 ≤ bo ∧ bo ≤ 200 ∧ bo < de ∧ de ≤ 300 ∧ 1 ≤ me ∧ me ≤ 9 ∧ S0 482 1 < 8 ∧ w = some (S0 482 1) ∧ S 482 1 = S0 482 1 + 1 ∧ (∀ i : Int, 0 ≤ i → i < 8 → S 482 (238 + 3 * i) = if i = S0 482 1 then bo else S0 482 (238 + 3 * i)) ∧ (∀ i : Int, 0 ≤ i → i < 8 → S 482 (239 + 3 * i) = if i = S0 482 1 then de else S0 482 (239 + 3 * i)) ∧ (∀ i : Int, 0 ≤ i → i < 8 → S 482 (240 + 3 * i) = if i = S0 482 1 then me else S0 482 (240 + 3 * i))))
theorem rxd224_0_0 {S0 : Nat → Int → Int} {ws : List Int} {S : Nat → Int → Int} {bo de me x11 x12 : Int} (hP : rxP224 S0 ws) (hin : bx_same rxL (bx_mdl rxC224.2.2.1) S0 S) (hin2 : bx_same rxL (bx_mdl rxC224.2.2.1) S (bx_up (bx_up (bx_up S 480 0 0) 480 1 ((-1))) 481 1 x12)) (I0 : bx_Inv rxL S) (I1 : bx_Inv rxL (bx_up (bx_up (bx_up S 480 0 0) 480 1 ((-1))) 481 1 x12)) (hinv : rxI224_0 S0 ws S bo de me) (l8 : (-2147483648) ≤ bo) (u8 : bo ≤ (-1)) (l9 : (-2147483648) ≤ de) (u9 : de ≤ 2147483647) (l10 : (-2147483648) ≤ me) (u10 : me ≤ 2147483647) (l11 : (-2147483648) ≤ x11) (u11 : x11 ≤ 2147483647) (l12 : (-2147483648) ≤ x12) (u12 : x12 ≤ 2147483647) (e1 : (bx_up (bx_up S 480 0 0) 480 1 ((-1))) 481 1 = x11) : (True) ∧ rxPS224 S0 ws (bx_up (bx_up (bx_up S 480 0 0) 480 1 ((-1))) 481 1 x12) (some ((-1))) := by
  obtain ⟨rfl, hw⟩ := hinv
  have e1 := (show _ = S 481 1 from (bx_up_ne (by omega)).trans ((bx_up_ne (by omega)))).symm.trans e1
  refine ⟨trivial, bo, de, me, hw, Or.inl (⟨?_, ?_, fun j => (bx_up_ne (by omega)).trans ((bx_up_ne (by omega)).trans ((bx_up_ne (by omega))))⟩)⟩ <;> first | omega | exact hin2 | exact congrArg some (by omega) | (intro i i0 i1; simp only [bx_up]; (repeat' split) <;> first | rfl | omega | (simp_all; done) | (simp_all; omega)) | ((repeat (first | rw [bx_up_at] | rw [bx_up_ne (by omega)])); omega) | exact True.intro
theorem rxf224_0_0 {X : (Nat → Int → Int) → Prop} {S0 : Nat → Int → Int} {ws : List Int} (hP : rxP224 S0 ws) : bx_obE rxL X S0 rxC224.2.2.1 (rxI224 S0 ws) (rxPS224 S0 ws) 0 rxz224_0 rxe224_0_0 := by
  intro S S_p r r_p hinv hX hin hsm_ hseg
  obtain ⟨I0, I1, h0_, hr_, b_, f_, d_⟩ := bx_cl (evs := [(1, (0, 481), (0, 1), .inr (0, (12, 0))), (0, (0, 481), (0, 1), .inr (0, (11, 0))), (1, (0, 480), (0, 1), .inr (0, (0, (-1)))), (1, (0, 480), (0, 0), .inr (0, (0, 0)))]) (fvs := []) hseg (by decide +kernel) (by decide +kernel)
  have hinv : rxI224_0 S0 ws S (r 8) (r 9) (r 10) := hinv
  rw [← hr_ 8 (by decide), ← hr_ 9 (by decide), ← hr_ 10 (by decide)] at hinv
  obtain ⟨⟨l8, u8⟩, ⟨l9, u9⟩, ⟨l10, u10⟩, ⟨l11, u11⟩, ⟨l12, u12⟩, -⟩ := b_
  obtain ⟨T0, ⟨e1, ⟨T2, ⟨T3, w_, w3⟩, w2⟩⟩, w0⟩ := d_
  subst w0
  subst w2
  subst w3
  subst w_
  have g := rxd224_0_0 hP hin hsm_ I0 I1 hinv l8 u8 l9 u9 l10 u10 l11 u11 l12 u12 e1
  refine ⟨bx_narP_ok (l := []) g.1, ?_⟩
  show rxPS224 S0 ws (bx_up (bx_up (bx_up T3 480 (0) (0)) 480 (1) ((-1))) 481 (1) (r_p 12)) (some (bx_num r_p (.inr (0, (0, (-1))))))
  rw [bx_xv_ok h0_]
  exact g.2
theorem rxd224_0_1 {S0 : Nat → Int → Int} {ws : List Int} {S : Nat → Int → Int} {bo de me x11 x12 : Int} (hP : rxP224 S0 ws) (hin : bx_same rxL (bx_mdl rxC224.2.2.1) S0 S) (hin2 : bx_same rxL (bx_mdl rxC224.2.2.1) S (bx_up (bx_up (bx_up S 480 0 0) 480 1 ((-1))) 481 1 x12)) (I0 : bx_Inv rxL S) (I1 : bx_Inv rxL (bx_up (bx_up (bx_up S 480 0 0) 480 1 ((-1))) 481 1 x12)) (hinv : rxI224_0 S0 ws S bo de me) (l8 : 201 ≤ bo) (u8 : bo ≤ 2147483647) (l9 : (-2147483648) ≤ de) (u9 : de ≤ 2147483647) (l10 : (-2147483648) ≤ me) (u10 : me ≤ 2147483647) (l11 : (-2147483648) ≤ x11) (u11 : x11 ≤ 2147483647) (l12 : (-2147483648) ≤ x12) (u12 : x12 ≤ 2147483647) (e1 : (bx_up (bx_up S 480 0 0) 480 1 ((-1))) 481 1 = x11) : (True) ∧ rxPS224 S0 ws (bx_up (bx_up (bx_up S 480 0 0) 480 1 ((-1))) 481 1 x12) (some ((-1))) := by
  obtain ⟨rfl, hw⟩ := hinv
  have e1 := (show _ = S 481 1 from (bx_up_ne (by omega)).trans ((bx_up_ne (by omega)))).symm.trans e1
  refine ⟨trivial, bo, de, me, hw, Or.inl (⟨?_, ?_, fun j => (bx_up_ne (by omega)).trans ((bx_up_ne (by omega)).trans ((bx_up_ne (by omega))))⟩)⟩ <;> first | omega | exact hin2 | exact congrArg some (by omega) | (intro i i0 i1; simp only [bx_up]; (repeat' split) <;> first | rfl | omega | (simp_all; done) | (simp_all; omega)) | ((repeat (first | rw [bx_up_at] | rw [bx_up_ne (by omega)])); omega) | exact True.intro
theorem rxf224_0_1 {X : (Nat → Int → Int) → Prop} {S0 : Nat → Int → Int} {ws : List Int} (hP : rxP224 S0 ws) : bx_obE rxL X S0 rxC224.2.2.1 (rxI224 S0 ws) (rxPS224 S0 ws) 0 rxz224_0 rxe224_0_1 := by
  intro S S_p r r_p hinv hX hin hsm_ hseg
  obtain ⟨I0, I1, h0_, hr_, b_, f_, d_⟩ := bx_cl (evs := [(1, (0, 481), (0, 1), .inr (0, (12, 0))), (0, (0, 481), (0, 1), .inr (0, (11, 0))), (1, (0, 480), (0, 1), .inr (0, (0, (-1)))), (1, (0, 480), (0, 0), .inr (0, (0, 0)))]) (fvs := []) hseg (by decide +kernel) (by decide +kernel)
  have hinv : rxI224_0 S0 ws S (r 8) (r 9) (r 10) := hinv
  rw [← hr_ 8 (by decide), ← hr_ 9 (by decide), ← hr_ 10 (by decide)] at hinv
  obtain ⟨⟨l8, u8⟩, ⟨l9, u9⟩, ⟨l10, u10⟩, ⟨l11, u11⟩, ⟨l12, u12⟩, -⟩ := b_
  obtain ⟨T0, ⟨e1, ⟨T2, ⟨T3, w_, w3⟩, w2⟩⟩, w0⟩ := d_
  subst w0
  subst w2
  subst w3
  subst w_
  have g := rxd224_0_1 hP hin hsm_ I0 I1 hinv l8 u8 l9 u9 l10 u10 l11 u11 l12 u12 e1
  refine ⟨bx_narP_ok (l := []) g.1, ?_⟩
  show rxPS224 S0 ws (bx_up (bx_up (bx_up T3 480 (0) (0)) 480 (1) ((-1))) 481 (1) (r_p 12)) (some (bx_num r_p (.inr (0, (0, (-1))))))
  rw [bx_xv_ok h0_]
  exact g.2
theorem rxd224_0_2 {S0 : Nat → Int → Int} {ws : List Int} {S : Nat → Int → Int} {bo de me x11 x12 : Int} (hP : rxP224 S0 ws) (hin : bx_same rxL (bx_mdl rxC224.2.2.1) S0 S) (hin2 : bx_same rxL (bx_mdl rxC224.2.2.1) S (bx_up (bx_up (bx_up S 480 0 0) 480 1 ((-1))) 481 1 x12)) (I0 : bx_Inv rxL S) (I1 : bx_Inv rxL (bx_up (bx_up (bx_up S 480 0 0) 480 1 ((-1))) 481 1 x12)) (hinv : rxI224_0 S0 ws S bo de me) (l8 : 0 ≤ bo) (u8 : bo ≤ 200) (l9 : (-2147483648) ≤ de) (u9 : de ≤ 200) (l10 : (-2147483648) ≤ me) (u10 : me ≤ 2147483647) (l11 : (-2147483648) ≤ x11) (u11 : x11 ≤ 2147483647) (l12 : (-2147483648) ≤ x12) (u12 : x12 ≤ 2147483647) (f0 : de < bo + 1) (e1 : (bx_up (bx_up S 480 0 0) 480 1 ((-1))) 481 1 = x11) : (True) ∧ rxPS224 S0 ws (bx_up (bx_up (bx_up S 480 0 0) 480 1 ((-1))) 481 1 x12) (some ((-1))) := by
  obtain ⟨rfl, hw⟩ := hinv
  have e1 := (show _ = S 481 1 from (bx_up_ne (by omega)).trans ((bx_up_ne (by omega)))).symm.trans e1
  refine ⟨trivial, bo, de, me, hw, Or.inl (⟨?_, ?_, fun j => (bx_up_ne (by omega)).trans ((bx_up_ne (by omega)).trans ((bx_up_ne (by omega))))⟩)⟩ <;> first | omega | exact hin2 | exact congrArg some (by omega) | (intro i i0 i1; simp only [bx_up]; (repeat' split) <;> first | rfl | omega | (simp_all; done) | (simp_all; omega)) | ((repeat (first | rw [bx_up_at] | rw [bx_up_ne (by omega)])); omega) | exact True.intro
theorem rxf224_0_2 {X : (Nat → Int → Int) → Prop} {S0 : Nat → Int → Int} {ws : List Int} (hP : rxP224 S0 ws) : bx_obE rxL X S0 rxC224.2.2.1 (rxI224 S0 ws) (rxPS224 S0 ws) 0 rxz224_0 rxe224_0_2 := by
  intro S S_p r r_p hinv hX hin hsm_ hseg
  obtain ⟨I0, I1, h0_, hr_, b_, f_, d_⟩ := bx_cl (evs := [(1, (0, 481), (0, 1), .inr (0, (12, 0))), (0, (0, 481), (0, 1), .inr (0, (11, 0))), (1, (0, 480), (0, 1), .inr (0, (0, (-1)))), (1, (0, 480), (0, 0), .inr (0, (0, 0)))]) (fvs := [(0, (9, 0), (8, 1), (0, 0))]) hseg (by decide +kernel) (by decide +kernel)
  have hinv : rxI224_0 S0 ws S (r 8) (r 9) (r 10) := hinv
  rw [← hr_ 8 (by decide), ← hr_ 9 (by decide), ← hr_ 10 (by decide)] at hinv
  obtain ⟨⟨l8, u8⟩, ⟨l9, u9⟩, ⟨l10, u10⟩, ⟨l11, u11⟩, ⟨l12, u12⟩, -⟩ := b_
  obtain ⟨f0, -⟩ := f_
  obtain ⟨T0, ⟨e1, ⟨T2, ⟨T3, w_, w3⟩, w2⟩⟩, w0⟩ := d_
  subst w0
  subst w2
  subst w3
  subst w_
  have g := rxd224_0_2 hP hin hsm_ I0 I1 hinv l8 u8 l9 u9 l10 u10 l11 u11 l12 u12 f0 e1
  refine ⟨bx_narP_ok (l := []) g.1, ?_⟩
  show rxPS224 S0 ws (bx_up (bx_up (bx_up T3 480 (0) (0)) 480 (1) ((-1))) 481 (1) (r_p 12)) (some (bx_num r_p (.inr (0, (0, (-1))))))
  rw [bx_xv_ok h0_]
  exact g.2
theorem rxd224_0_3 {S0 : Nat → Int → Int} {ws : List Int} {S : Nat → Int → Int} {bo de me x11 x12 : Int} (hP : rxP224 S0 ws) (hin : bx_same rxL (bx_mdl rxC224.2.2.1) S0 S) (hin2 : bx_same rxL (bx_mdl rxC224.2.2.1) S (bx_up (bx_up (bx_up S 480 0 0) 480 1 ((-1))) 481 1 x12)) (I0 : bx_Inv rxL S) (I1 : bx_Inv rxL (bx_up (bx_up (bx_up S 480 0 0) 480 1 ((-1))) 481 1 x12)) (hinv : rxI224_0 S0 ws S bo de me) (l8 : 0 ≤ bo) (u8 : bo ≤ 200) (l9 : 301 ≤ de) (u9 : de ≤ 2147483647) (l10 : (-2147483648) ≤ me) (u10 : me ≤ 2147483647) (l11 : (-2147483648) ≤ x11) (u11 : x11 ≤ 2147483647) (l12 : (-2147483648) ≤ x12) (u12 : x12 ≤ 2147483647) (f0 : bo + 1 ≤ de) (e1 : (bx_up (bx_up S 480 0 0) 480 1 ((-1))) 481 1 = x11) : (True) ∧ rxPS224 S0 ws (bx_up (bx_up (bx_up S 480 0 0) 480 1 ((-1))) 481 1 x12) (some ((-1))) := by
  obtain ⟨rfl, hw⟩ := hinv
  have e1 := (show _ = S 481 1 from (bx_up_ne (by omega)).trans ((bx_up_ne (by omega)))).symm.trans e1
  refine ⟨trivial, bo, de, me, hw, Or.inl (⟨?_, ?_, fun j => (bx_up_ne (by omega)).trans ((bx_up_ne (by omega)).trans ((bx_up_ne (by omega))))⟩)⟩ <;> first | omega | exact hin2 | exact congrArg some (by omega) | (intro i i0 i1; simp only [bx_up]; (repeat' split) <;> first | rfl | omega | (simp_all; done) | (simp_all; omega)) | ((repeat (first | rw [bx_up_at] | rw [bx_up_ne (by omega)])); omega) | exact True.intro
theorem rxf224_0_3 {X : (Nat → Int → Int) → Prop} {S0 : Nat → Int → Int} {ws : List Int} (hP : rxP224 S0 ws) : bx_obE rxL X S0 rxC224.2.2.1 (rxI224 S0 ws) (rxPS224 S0 ws) 0 rxz224_0 rxe224_0_3 := by
  intro S S_p r r_p hinv hX hin hsm_ hseg
  obtain ⟨I0, I1, h0_, hr_, b_, f_, d_⟩ := bx_cl (evs := [(1, (0, 481), (0, 1), .inr (0, (12, 0))), (0, (0, 481), (0, 1), .inr (0, (11, 0))), (1, (0, 480), (0, 1), .inr (0, (0, (-1)))), (1, (0, 480), (0, 0), .inr (0, (0, 0)))]) (fvs := [(1, (8, 1), (9, 0), (0, 0))]) hseg (by decide +kernel) (by decide +kernel)
  have hinv : rxI224_0 S0 ws S (r 8) (r 9) (r 10) := hinv
  rw [← hr_ 8 (by decide), ← hr_ 9 (by decide), ← hr_ 10 (by decide)] at hinv
  obtain ⟨⟨l8, u8⟩, ⟨l9, u9⟩, ⟨l10, u10⟩, ⟨l11, u11⟩, ⟨l12, u12⟩, -⟩ := b_
  obtain ⟨f0, -⟩ := f_
  obtain ⟨T0, ⟨e1, ⟨T2, ⟨T3, w_, w3⟩, w2⟩⟩, w0⟩ := d_
  subst w0
  subst w2
  subst w3
  subst w_
  have g := rxd224_0_3 hP hin hsm_ I0 I1 hinv l8 u8 l9 u9 l10 u10 l11 u11 l12 u12 f0 e1
  refine ⟨bx_narP_ok (l := []) g.1, ?_⟩
  show rxPS224 S0 ws (bx_up (bx_up (bx_up T3 480 (0) (0)) 480 (1) ((-1))) 481 (1) (r_p 12)) (some (bx_num r_p (.inr (0, (0, (-1))))))
  rw [bx_xv_ok h0_]
  exact g.2
theorem rxd224_0_4 {S0 : Nat → Int → Int} {ws : List Int} {S : Nat → Int → Int} {bo de me x11 x12 : Int} (hP : rxP224 S0 ws) (hin : bx_same rxL (bx_mdl rxC224.2.2.1) S0 S) (hin2 : bx_same rxL (bx_mdl rxC224.2.2.1) S (bx_up (bx_up (bx_up S 480 0 0) 480 1 ((-1))) 481 1 x12)) (I0 : bx_Inv rxL S) (I1 : bx_Inv rxL (bx_up (bx_up (bx_up S 480 0 0) 480 1 ((-1))) 481 1 x12)) (hinv : rxI224_0 S0 ws S bo de me) (l8 : 0 ≤ bo) (u8 : bo ≤ 200) (l9 : 1 ≤ de) (u9 : de ≤ 300) (l10 : (-2147483648) ≤ me) (u10 : me ≤ 0) (l11 : (-2147483648) ≤ x11) (u11 : x11 ≤ 2147483647) (l12 : (-2147483648) ≤ x12) (u12 : x12 ≤ 2147483647) (f0 : bo + 1 ≤ de) (e1 : (bx_up (bx_up S 480 0 0) 480 1 ((-1))) 481 1 = x11) : (True) ∧ rxPS224 S0 ws (bx_up (bx_up (bx_up S 480 0 0) 480 1 ((-1))) 481 1 x12) (some ((-1))) := by
  obtain ⟨rfl, hw⟩ := hinv
  have e1 := (show _ = S 481 1 from (bx_up_ne (by omega)).trans ((bx_up_ne (by omega)))).symm.trans e1
  refine ⟨trivial, bo, de, me, hw, Or.inl (⟨?_, ?_, fun j => (bx_up_ne (by omega)).trans ((bx_up_ne (by omega)).trans ((bx_up_ne (by omega))))⟩)⟩ <;> first | omega | exact hin2 | exact congrArg some (by omega) | (intro i i0 i1; simp only [bx_up]; (repeat' split) <;> first | rfl | omega | (simp_all; done) | (simp_all; omega)) | ((repeat (first | rw [bx_up_at] | rw [bx_up_ne (by omega)])); omega) | exact True.intro
theorem rxf224_0_4 {X : (Nat → Int → Int) → Prop} {S0 : Nat → Int → Int} {ws : List Int} (hP : rxP224 S0 ws) : bx_obE rxL X S0 rxC224.2.2.1 (rxI224 S0 ws) (rxPS224 S0 ws) 0 rxz224_0 rxe224_0_4 := by
  intro S S_p r r_p hinv hX hin hsm_ hseg
  obtain ⟨I0, I1, h0_, hr_, b_, f_, d_⟩ := bx_cl (evs := [(1, (0, 481), (0, 1), .inr (0, (12, 0))), (0, (0, 481), (0, 1), .inr (0, (11, 0))), (1, (0, 480), (0, 1), .inr (0, (0, (-1)))), (1, (0, 480), (0, 0), .inr (0, (0, 0)))]) (fvs := [(1, (8, 1), (9, 0), (0, 0))]) hseg (by decide +kernel) (by decide +kernel)
  have hinv : rxI224_0 S0 ws S (r 8) (r 9) (r 10) := hinv
  rw [← hr_ 8 (by decide), ← hr_ 9 (by decide), ← hr_ 10 (by decide)] at hinv
  obtain ⟨⟨l8, u8⟩, ⟨l9, u9⟩, ⟨l10, u10⟩, ⟨l11, u11⟩, ⟨l12, u12⟩, -⟩ := b_
  obtain ⟨f0, -⟩ := f_
  obtain ⟨T0, ⟨e1, ⟨T2, ⟨T3, w_, w3⟩, w2⟩⟩, w0⟩ := d_
  subst w0
  subst w2
  subst w3
  subst w_
  have g := rxd224_0_4 hP hin hsm_ I0 I1 hinv l8 u8 l9 u9 l10 u10 l11 u11 l12 u12 f0 e1
  refine ⟨bx_narP_ok (l := []) g.1, ?_⟩
  show rxPS224 S0 ws (bx_up (bx_up (bx_up T3 480 (0) (0)) 480 (1) ((-1))) 481 (1) (r_p 12)) (some (bx_num r_p (.inr (0, (0, (-1))))))
  rw [bx_xv_ok h0_]
  exact g.2
theorem rxd224_0_5 {S0 : Nat → Int → Int} {ws : List Int} {S : Nat → Int → Int} {bo de me x11 x12 : Int} (hP : rxP224 S0 ws) (hin : bx_same rxL (bx_mdl rxC224.2.2.1) S0 S) (hin2 : bx_same rxL (bx_mdl rxC224.2.2.1) S (bx_up (bx_up (bx_up S 480 0 0) 480 1 ((-1))) 481 1 x12)) (I0 : bx_Inv rxL S) (I1 : bx_Inv rxL (bx_up (bx_up (bx_up S 480 0 0) 480 1 ((-1))) 481 1 x12)) (hinv : rxI224_0 S0 ws S bo de me) (l8 : 0 ≤ bo) (u8 : bo ≤ 200) (l9 : 1 ≤ de) (u9 : de ≤ 300) (l10 : 10 ≤ me) (u10 : me ≤ 2147483647) (l11 : (-2147483648) ≤ x11) (u11 : x11 ≤ 2147483647) (l12 : (-2147483648) ≤ x12) (u12 : x12 ≤ 2147483647) (f0 : bo + 1 ≤ de) (e1 : (bx_up (bx_up S 480 0 0) 480 1 ((-1))) 481 1 = x11) : (True) ∧ rxPS224 S0 ws (bx_up (bx_up (bx_up S 480 0 0) 480 1 ((-1))) 481 1 x12) (some ((-1))) := by
  obtain ⟨rfl, hw⟩ := hinv
  have e1 := (show _ = S 481 1 from (bx_up_ne (by omega)).trans ((bx_up_ne (by omega)))).symm.trans e1
  refine ⟨trivial, bo, de, me, hw, Or.inl (⟨?_, ?_, fun j => (bx_up_ne (by omega)).trans ((bx_up_ne (by omega)).trans ((bx_up_ne (by omega))))⟩)⟩ <;> first | omega | exact hin2 | exact congrArg some (by omega) | (intro i i0 i1; simp only [bx_up]; (repeat' split) <;> first | rfl | omega | (simp_all; done) | (simp_all; omega)) | ((repeat (first | rw [bx_up_at] | rw [bx_up_ne (by omega)])); omega) | exact True.intro
theorem rxf224_0_5 {X : (Nat → Int → Int) → Prop} {S0 : Nat → Int → Int} {ws : List Int} (hP : rxP224 S0 ws) : bx_obE rxL X S0 rxC224.2.2.1 (rxI224 S0 ws) (rxPS224 S0 ws) 0 rxz224_0 rxe224_0_5 := by
  intro S S_p r r_p hinv hX hin hsm_ hseg
  obtain ⟨I0, I1, h0_, hr_, b_, f_, d_⟩ := bx_cl (evs := [(1, (0, 481), (0, 1), .inr (0, (12, 0))), (0, (0, 481), (0, 1), .inr (0, (11, 0))), (1, (0, 480), (0, 1), .inr (0, (0, (-1)))), (1, (0, 480), (0, 0), .inr (0, (0, 0)))]) (fvs := [(1, (8, 1), (9, 0), (0, 0))]) hseg (by decide +kernel) (by decide +kernel)
  have hinv : rxI224_0 S0 ws S (r 8) (r 9) (r 10) := hinv
  rw [← hr_ 8 (by decide), ← hr_ 9 (by decide), ← hr_ 10 (by decide)] at hinv
  obtain ⟨⟨l8, u8⟩, ⟨l9, u9⟩, ⟨l10, u10⟩, ⟨l11, u11⟩, ⟨l12, u12⟩, -⟩ := b_
  obtain ⟨f0, -⟩ := f_
  obtain ⟨T0, ⟨e1, ⟨T2, ⟨T3, w_, w3⟩, w2⟩⟩, w0⟩ := d_
  subst w0
  subst w2
  subst w3
  subst w_
  have g := rxd224_0_5 hP hin hsm_ I0 I1 hinv l8 u8 l9 u9 l10 u10 l11 u11 l12 u12 f0 e1
  refine ⟨bx_narP_ok (l := []) g.1, ?_⟩
  show rxPS224 S0 ws (bx_up (bx_up (bx_up T3 480 (0) (0)) 480 (1) ((-1))) 481 (1) (r_p 12)) (some (bx_num r_p (.inr (0, (0, (-1))))))
  rw [bx_xv_ok h0_]
  exact g.2
theorem rxd224_0_6 {S0 : Nat → Int → Int} {ws : List Int} {S : Nat → Int → Int} {bo de me x11 x12 x13 : Int} (hP : rxP224 S0 ws) (hin : bx_same rxL (bx_mdl rxC224.2.2.1) S0 S) (hin2 : bx_same rxL (bx_mdl rxC224.2.2.1) S (bx_up (bx_up (bx_up S 480 0 0) 480 1 ((-5))) 481 5 x13)) (I0 : bx_Inv rxL S) (I1 : bx_Inv rxL (bx_up (bx_up (bx_up S 480 0 0) 480 1 ((-5))) 481 5 x13)) (hinv : rxI224_0 S0 ws S bo de me) (l8 : 0 ≤ bo) (u8 : bo ≤ 200) (l9 : 1 ≤ de) (u9 : de ≤ 300) (l10 : 1 ≤ me) (u10 : me ≤ 9) (l11 : 8 ≤ x11) (u11 : x11 ≤ 8) (l12 : (-2147483648) ≤ x12) (u12 : x12 ≤ 2147483647) (l13 : (-2147483648) ≤ x13) (u13 : x13 ≤ 2147483647) (f0 : bo + 1 ≤ de) (e3 : (bx_up S 480 0 0) 482 1 = x11) (e1 : (bx_up (bx_up S 480 0 0) 480 1 ((-5))) 481 5 = x12) : (True) ∧ rxPS224 S0 ws (bx_up (bx_up (bx_up S 480 0 0) 480 1 ((-5))) 481 5 x13) (some ((-5))) := by
  obtain ⟨rfl, hw⟩ := hinv
  have e3 := (show _ = S 482 1 from (bx_up_ne (by omega))).symm.trans e3
  have e1 := (show _ = S 481 5 from (bx_up_ne (by omega)).trans ((bx_up_ne (by omega)))).symm.trans e1
  refine ⟨trivial, bo, de, me, hw, Or.inr (Or.inl (⟨?_, ?_, ?_, ?_, ?_, ?_, ?_, ?_, fun j => (bx_up_ne (by omega)).trans ((bx_up_ne (by omega)).trans ((bx_up_ne (by omega))))⟩))⟩ <;> first | omega | exact hin2 | exact congrArg some (by omega) | (intro i i0 i1; simp only [bx_up]; (repeat' split) <;> first | rfl | omega | (simp_all; done) | (simp_all; omega)) | ((repeat (first | rw [bx_up_at] | rw [bx_up_ne (by omega)])); omega) | exact True.intro
theorem rxf224_0_6 {X : (Nat → Int → Int) → Prop} {S0 : Nat → Int → Int} {ws : List Int} (hP : rxP224 S0 ws) : bx_obE rxL X S0 rxC224.2.2.1 (rxI224 S0 ws) (rxPS224 S0 ws) 0 rxz224_0 rxe224_0_6 := by
  intro S S_p r r_p hinv hX hin hsm_ hseg
  obtain ⟨I0, I1, h0_, hr_, b_, f_, d_⟩ := bx_cl (evs := [(1, (0, 481), (0, 5), .inr (0, (13, 0))), (0, (0, 481), (0, 5), .inr (0, (12, 0))), (1, (0, 480), (0, 1), .inr (0, (0, (-5)))), (0, (0, 482), (0, 1), .inr (0, (11, 0))), (1, (0, 480), (0, 0), .inr (0, (0, 0)))]) (fvs := [(1, (8, 1), (9, 0), (0, 0))]) hseg (by decide +kernel) (by decide +kernel)
  have hinv : rxI224_0 S0 ws S (r 8) (r 9) (r 10) := hinv
  rw [← hr_ 8 (by decide), ← hr_ 9 (by decide), ← hr_ 10 (by decide)] at hinv
  obtain ⟨⟨l8, u8⟩, ⟨l9, u9⟩, ⟨l10, u10⟩, ⟨l11, u11⟩, ⟨l12, u12⟩, ⟨l13, u13⟩, -⟩ := b_
  obtain ⟨f0, -⟩ := f_
  obtain ⟨T0, ⟨e1, ⟨T2, ⟨e3, ⟨T4, w_, w4⟩⟩, w2⟩⟩, w0⟩ := d_
  subst w0
  subst w2
  subst w4
  subst w_
  have g := rxd224_0_6 hP hin hsm_ I0 I1 hinv l8 u8 l9 u9 l10 u10 l11 u11 l12 u12 l13 u13 f0 e3 e1
  refine ⟨bx_narP_ok (l := []) g.1, ?_⟩
  show rxPS224 S0 ws (bx_up (bx_up (bx_up T4 480 (0) (0)) 480 (1) ((-5))) 481 (5) (r_p 13)) (some (bx_num r_p (.inr (0, (0, (-5))))))
  rw [bx_xv_ok h0_]
  exact g.2
theorem rxd224_0_7 {S0 : Nat → Int → Int} {ws : List Int} {S : Nat → Int → Int} {bo de me x11 x12 x13 x14 : Int} (hP : rxP224 S0 ws) (hin : bx_same rxL (bx_mdl rxC224.2.2.1) S0 S) (hin2 : bx_same rxL (bx_mdl rxC224.2.2.1) S (bx_up (bx_up (bx_up (bx_up (bx_up (bx_up S 480 0 0) 482 (x12 + 238) bo) 482 (x13 + 239) de) 482 (x14 + 240) me) 482 1 (x11 + 1)) 480 1 0)) (I0 : bx_Inv rxL S) (I1 : bx_Inv rxL (bx_up (bx_up (bx_up (bx_up (bx_up (bx_up S 480 0 0) 482 (x12 + 238) bo) 482 (x13 + 239) de) 482 (x14 + 240) me) 482 1 (x11 + 1)) 480 1 0)) (hinv : rxI224_0 S0 ws S bo de me) (l8 : 0 ≤ bo) (u8 : bo ≤ 200) (l9 : 1 ≤ de) (u9 : de ≤ 300) (l10 : 1 ≤ me) (u10 : me ≤ 9) (l11 : 0 ≤ x11) (u11 : x11 ≤ 7) (l12 : 0 ≤ x12) (u12 : x12 ≤ 21) (l13 : 0 ≤ x13) (u13 : x13 ≤ 21) (l14 : 0 ≤ x14) (u14 : x14 ≤ 21) (f0 : x14 = 3 * (x11)) (f1 : x13 = 3 * (x11)) (f2 : x12 = 3 * (x11)) (f3 : x11 ≠ 8) (f4 : bo + 1 ≤ de) (e5 : (bx_up S 480 0 0) 482 1 = x11) : (True) ∧ rxPS224 S0 ws (bx_up (bx_up (bx_up (bx_up (bx_up (bx_up S 480 0 0) 482 (x12 + 238) bo) 482 (x13 + 239) de) 482 (x14 + 240) me) 482 1 (x11 + 1)) 480 1 0) (some x11) := by
  obtain ⟨rfl, hw⟩ := hinv
  have e5 := (show _ = S 482 1 from (bx_up_ne (by omega))).symm.trans e5
  refine ⟨trivial, bo, de, me, hw, Or.inr (Or.inr (⟨?_, ?_, ?_, ?_, ?_, ?_, ?_, ?_, ((bx_up_ne (by omega)).trans (bx_up_at)).trans (by omega), ?_, ?_, ?_⟩))⟩ <;> first | omega | exact hin2 | exact congrArg some (by omega) | (intro i i0 i1; simp only [bx_up]; (repeat' split) <;> first | rfl | omega | (simp_all; done) | (simp_all; omega)) | ((repeat (first | rw [bx_up_at] | rw [bx_up_ne (by omega)])); omega) | exact True.intro
theorem rxf224_0_7 {X : (Nat → Int → Int) → Prop} {S0 : Nat → Int → Int} {ws : List Int} (hP : rxP224 S0 ws) : bx_obE rxL X S0 rxC224.2.2.1 (rxI224 S0 ws) (rxPS224 S0 ws) 0 rxz224_0 rxe224_0_7 := by
  intro S S_p r r_p hinv hX hin hsm_ hseg
  obtain ⟨I0, I1, h0_, hr_, b_, f_, d_⟩ := bx_cl (evs := [(1, (0, 480), (0, 1), .inr (0, (0, 0))), (1, (0, 482), (0, 1), .inr (0, (11, 1))), (1, (0, 482), (14, 240), .inr (0, (10, 0))), (1, (0, 482), (13, 239), .inr (0, (9, 0))), (1, (0, 482), (12, 238), .inr (0, (8, 0))), (0, (0, 482), (0, 1), .inr (0, (11, 0))), (1, (0, 480), (0, 0), .inr (0, (0, 0)))]) (fvs := [(4, (14, 0), (11, 0), (0, 3)), (4, (13, 0), (11, 0), (0, 3)), (4, (12, 0), (11, 0), (0, 3)), (3, (11, 0), (0, 8), (0, 0)), (1, (8, 1), (9, 0), (0, 0))]) hseg (by decide +kernel) (by decide +kernel)
  have hinv : rxI224_0 S0 ws S (r 8) (r 9) (r 10) := hinv
  rw [← hr_ 8 (by decide), ← hr_ 9 (by decide), ← hr_ 10 (by decide)] at hinv
  obtain ⟨⟨l8, u8⟩, ⟨l9, u9⟩, ⟨l10, u10⟩, ⟨l11, u11⟩, ⟨l12, u12⟩, ⟨l13, u13⟩, ⟨l14, u14⟩, -⟩ := b_
  obtain ⟨f0, f1, f2, f3, f4, -⟩ := f_
  obtain ⟨T0, ⟨T1, ⟨T2, ⟨T3, ⟨T4, ⟨e5, ⟨T6, w_, w6⟩⟩, w4⟩, w3⟩, w2⟩, w1⟩, w0⟩ := d_
  subst w0
  subst w1
  subst w2
  subst w3
  subst w4
  subst w6
  subst w_
  have g := rxd224_0_7 hP hin hsm_ I0 I1 hinv l8 u8 l9 u9 l10 u10 l11 u11 l12 u12 l13 u13 l14 u14 f0 f1 f2 f3 f4 e5
  refine ⟨bx_narP_ok (l := []) g.1, ?_⟩
  show rxPS224 S0 ws (bx_up (bx_up (bx_up (bx_up (bx_up (bx_up T6 480 (0) (0)) 482 (r_p 12 + 238) (r_p 8)) 482 (r_p 13 + 239) (r_p 9)) 482 (r_p 14 + 240) (r_p 10)) 482 (1) (r_p 11 + 1)) 480 (1) (0)) (some (bx_num r_p (.inr (0, (11, 0)))))
  rw [bx_xv_ok h0_]
  exact g.2
theorem rxgC224 {X : (Nat → Int → Int) → Prop} {S0 : Nat → Int → Int} {ws : List Int} (hP : rxP224 S0 ws) : bx_allI (fun i q => rxU224 q = true ∨ bx_allP (fun o => bx_obC rxL X S0 rxC224.2.2.1 (rxI224 S0 ws) (rxm224 S0 ws) i q.1 o) q.2.1) 0 rxY224 := ⟨Or.inr trivial, trivial⟩
theorem rxgE224 {X : (Nat → Int → Int) → Prop} {S0 : Nat → Int → Int} {ws : List Int} (hP : rxP224 S0 ws) : bx_allI (fun i q => rxU224 q = true ∨ bx_allP (fun E => bx_obE rxL X S0 rxC224.2.2.1 (rxI224 S0 ws) (rxPS224 S0 ws) i q.1 E) q.2.2) 0 rxY224 := ⟨Or.inr ⟨rxf224_0_0 hP, rxf224_0_1 hP, rxf224_0_2 hP, rxf224_0_3 hP, rxf224_0_4 hP, rxf224_0_5 hP, rxf224_0_6 hP, rxf224_0_7 hP, trivial⟩, trivial⟩
theorem rxQ224 {PX : State → Prop} {Dg : va_G} {A : Nat → Prop} {ad xa : Nat → Nat} {l : Launch} {X : (Nat → Int → Int) → Prop} (hPX : rx_PXOK rxNW A PX) (hsl : ∀ s : State, PX s → ∀ o idx n : Nat, rxSl o idx = some n → ∃ tx : String, vk_R (rxNm o) idx tx (ad n) s)
    (hX : ∀ S S_p : Nat → Int → Int, X S → bx_same rxL (bx_mdl rxC224.2.2.1) S S_p → X S_p)
    (ih : ∀ (j2 : Nat) (ct2 : bx_Ct) (M2 : rx_Mt), ct2 ∈ rxCnE j2 → ct2.2.2.2.1 + 1 ≤ rxC224.2.2.2.1 → rxT.2.2.2.2.2 j2 = some M2 → bx_Con rxG rxNW rxAO PX Dg rxL X vwCl A ad l M2 ct2) : bx_ConP rxG rxNW rxAO PX Dg rxL X vwCl A ad l rxM224 rxC224 rxP224 rxPS224 :=
  rxQof (xa := xa) (Cn := rxCnE) (f := 30000) (j := 224) (tab := rxY224) (us := rxU224) hPX hsl hX ih rfl rxYc224 rxI224 rxm224
    (fun S0 ws r I0 I ht0 ht as he he1 hX0 hI0 hP hs ha => by
      have e := he.symm.trans (show bx_ent0 rxNP rxC224.1 bx_I0 [] = some ([(0, 0), (0, 0), (0, 0), (0, 0), (0, 0), (0, 0), (0, 0), (0, 0), ((-2147483648), 2147483647), ((-2147483648), 2147483647), ((-2147483648), 2147483647)], [], [.inr (3, (0, 480)), .inr (0, (8, 0)), .inr (0, (9, 0)), .inr (0, (10, 0))]) from rfl)
      cases e
      subst ha
      have h0 : r 0 = 0 := hs.1
      show rxI224_0 S0 _ S0 (r 8) (r 9) (r 10)
      refine ⟨rfl, ?_⟩
      simp only [List.map_cons, List.map_nil, bx_xv_ok h0]
      rfl)
    (fun S0 ws hP => fun i q hq hus => absurd (show false = true from hus) Bool.false_ne_true) (fun S0 ws hP => rxgC224 hP) (fun S0 ws hP => rxgE224 hP)
set_option maxHeartbeats 1000000 in
theorem rzQ224 {PX : State → Prop} {Dg : va_G} {A : Nat → Prop} {ad : Nat → Nat} {l : Launch} (hPX : rx_PXOK rxNW A PX) (hsl : ∀ s : State, PX s → ∀ o idx n : Nat, rxSl o idx = some n → ∃ tx : String, vk_R (rxNm o) idx tx (ad n) s) : bx_ConP rxG rxNW rxAO PX Dg rxL rxX vwCl A ad l rxM224 rxC224 (fun _ _ => True) rxPS224 := by
  have q224 := rxQ224 (PX := PX) (Dg := Dg) (A := A) (ad := ad) (xa := fun n => n) (l := l) (X := rxX) hPX hsl (fun _ _ h hm => rxX_of (by decide +kernel) h hm) (fun _ _ _ h => absurd h List.not_mem_nil)
  exact fun S0 ws h1 h2 h3 _ => q224 S0 ws h1 h2 h3 trivial
noncomputable def rxI226_0 (S0 : Nat → Int → Int) (ws : List Int) (S : Nat → Int → Int) (pe wh va : Int) : Prop := S = S0 ∧ ws = [480, pe, wh, va]
noncomputable def rxm226_0 (S0 : Nat → Int → Int) (ws : List Int) (S : Nat → Int → Int) (pe wh va : Int) : Nat := 100
noncomputable def rxz226_0 : rx_Z := ([(0, 0), (0, 0), (0, 0), (0, 0), (0, 0), (0, 0), (0, 0), (0, 0), ((-2147483648), 2147483647), ((-2147483648), 2147483647), ((-2147483648), 2147483647)], [], [], 0, 0, 0, [(0, .inr (3, (0, 480))), (1, .inr (0, (8, 0))), (2, .inr (0, (9, 0))), (3, .inr (0, (10, 0)))], [])
noncomputable def rxe226_0_0 : rx_End × List (Nat × Int × Int) := (([(0, 0), (0, 0), (0, 0), (0, 0), (0, 0), (0, 0), (0, 0), (0, 0), ((-2147483648), 2147483647), (0, 0), ((-2147483648), (-1)), ((-2147483648), 2147483647), ((-2147483648), 2147483647)], [], [(((0, 0), 1851192626986356797625047037163794926384839479479878431390892035000000), .inr (0, (12, 0))), (((0, 481), 1), .inr (0, (12, 0))), (((0, 0), 1851192626986356797625047037163794926384839479479878431390892032000000), .inr (0, (11, 0))), (((0, 480), 2), .inr (3, (0, 481))), (((0, 0), 1851192626986356797625047037163794926384839479479878431390302211000000), .inr (0, (0, (-1)))), (((0, 480), 1), .inr (0, (0, (-1)))), (((0, 0), 1851192626986356797424340330377019318111018015026043177836478467000000), .inr (0, (0, 0))), (((0, 480), 0), .inr (0, (0, 0)))], some (.inr (0, (0, (-1))))), [])
noncomputable def rxe226_0_1 : rx_End × List (Nat × Int × Int) := (([(0, 0), (0, 0), (0, 0), (0, 0), (0, 0), (0, 0), (0, 0), (0, 0), ((-2147483648), 2147483647), (0, 0), (301, 2147483647), ((-2147483648), 2147483647), ((-2147483648), 2147483647)], [], [(((0, 0), 1851192626986356797625047037163794926384839479479878431390892035000000), .inr (0, (12, 0))), (((0, 481), 1), .inr (0, (12, 0))), (((0, 0), 1851192626986356797625047037163794926384839479479878431390892032000000), .inr (0, (11, 0))), (((0, 480), 2), .inr (3, (0, 481))), (((0, 0), 1851192626986356797625047037163794926384839479479878431390302211000000), .inr (0, (0, (-1)))), (((0, 480), 1), .inr (0, (0, (-1)))), (((0, 0), 1851192626986356797424340330377019318111018015026043177836478467000000), .inr (0, (0, 0))), (((0, 480), 0), .inr (0, (0, 0)))], some (.inr (0, (0, (-1))))), [])
noncomputable def rxe226_0_2 : rx_End × List (Nat × Int × Int) := (([(0, 0), (0, 0), (0, 0), (0, 0), (0, 0), (0, 0), (0, 0), (0, 0), (0, 7), (0, 0), (0, 200), (1, 8), (0, 21), (0, 200), ((-2147483648), 2147483647), ((-2147483648), 2147483647)], [(1, (10, 0), (13, 0)), (7, (12, 0), (8, 0)), (1, (8, 0), (11, (-1)))], [(((0, 0), 1851192626986356797625047037163794926384839479479878431390892035000000), .inr (0, (15, 0))), (((0, 481), 1), .inr (0, (15, 0))), (((0, 0), 1851192626986356797625047037163794926384839479479878431390892032000000), .inr (0, (14, 0))), (((0, 480), 2), .inr (3, (0, 481))), (((0, 0), 1851192626986356797625047037163794926384839479479878431390302211000000), .inr (0, (0, (-1)))), (((0, 480), 1), .inr (0, (0, (-1)))), (((0, 0), 1851192626986356845192573296125241548634580599496436154614546432000000), .inr (0, (13, 0))), (((0, 0), 1851192626986356797625047037163794926384839479479878431391481856000000), .inr (0, (11, 0))), (((0, 480), 3), .inr (3, (0, 482))), (((0, 0), 1851192626986356797424340330377019318111018015026043177836478467000000), .inr (0, (0, 0))), (((0, 480), 0), .inr (0, (0, 0)))], some (.inr (0, (0, (-1))))), [])
noncomputable def rxe226_0_3 : rx_End × List (Nat × Int × Int) := (([(0, 0), (0, 0), (0, 0), (0, 0), (0, 0), (0, 0), (0, 0), (0, 0), (0, 7), (0, 0), (1, 300), (1, 8), (0, 21), (0, 200), (0, 21), (0, 300)], [(7, (14, 0), (8, 0)), (0, (13, 0), (10, 0)), (7, (12, 0), (8, 0)), (1, (8, 0), (11, (-1)))], [(((0, 0), 1851192626986356797625047037163794926384839479479878431390302211000000), .inr (0, (0, 0))), (((0, 480), 1), .inr (0, (0, 0))), (((0, 0), 1851192626986356845393286127994621733800744404693205179996176387000000), .inr (0, (10, 0))), (((0, 0), 1851192626986356845393286127994621733800744404693205179996176384000000), .inr (0, (15, 0))), (((0, 0), 1851192626986356845192573296125241548634580599496436154614546432000000), .inr (0, (13, 0))), (((0, 0), 1851192626986356797625047037163794926384839479479878431391481856000000), .inr (0, (11, 0))), (((0, 480), 3), .inr (3, (0, 482))), (((0, 0), 1851192626986356797424340330377019318111018015026043177836478467000000), .inr (0, (0, 0))), (((0, 480), 0), .inr (0, (0, 0)))], some (.inr (0, (15, 0)))), [])
noncomputable def rxe226_0_4 : rx_End × List (Nat × Int × Int) := (([(0, 0), (0, 0), (0, 0), (0, 0), (0, 0), (0, 0), (0, 0), (0, 0), (0, 2147483647), (0, 0), (0, 300), (0, 8), ((-2147483648), 2147483647), ((-2147483648), 2147483647)], [(0, (11, (-1)), (8, 0))], [(((0, 0), 1851192626986356797825753743950570534658660943933713684944715779000000), .inr (0, (13, 0))), (((0, 481), 2), .inr (0, (13, 0))), (((0, 0), 1851192626986356797825753743950570534658660943933713684944715776000000), .inr (0, (12, 0))), (((0, 480), 2), .inr (3, (0, 481))), (((0, 0), 1851192626986356797625047037163794926384839479479878431390302211000000), .inr (0, (0, (-2)))), (((0, 480), 1), .inr (0, (0, (-2)))), (((0, 0), 1851192626986356797625047037163794926384839479479878431391481856000000), .inr (0, (11, 0))), (((0, 480), 3), .inr (3, (0, 482))), (((0, 0), 1851192626986356797424340330377019318111018015026043177836478467000000), .inr (0, (0, 0))), (((0, 480), 0), .inr (0, (0, 0)))], some (.inr (0, (0, (-2))))), [])
noncomputable def rxe226_0_5 : rx_End × List (Nat × Int × Int) := (([(0, 0), (0, 0), (0, 0), (0, 0), (0, 0), (0, 0), (0, 0), (0, 0), ((-2147483648), (-1)), (0, 0), (0, 300), (0, 8), ((-2147483648), 2147483647), ((-2147483648), 2147483647)], [], [(((0, 0), 1851192626986356797825753743950570534658660943933713684944715779000000), .inr (0, (13, 0))), (((0, 481), 2), .inr (0, (13, 0))), (((0, 0), 1851192626986356797825753743950570534658660943933713684944715776000000), .inr (0, (12, 0))), (((0, 480), 2), .inr (3, (0, 481))), (((0, 0), 1851192626986356797625047037163794926384839479479878431390302211000000), .inr (0, (0, (-2)))), (((0, 480), 1), .inr (0, (0, (-2)))), (((0, 0), 1851192626986356797625047037163794926384839479479878431391481856000000), .inr (0, (11, 0))), (((0, 480), 3), .inr (3, (0, 482))), (((0, 0), 1851192626986356797424340330377019318111018015026043177836478467000000), .inr (0, (0, 0))), (((0, 480), 0), .inr (0, (0, 0)))], some (.inr (0, (0, (-2))))), [])
noncomputable def rxe226_0_6 : rx_End × List (Nat × Int × Int) := (([(0, 0), (0, 0), (0, 0), (0, 0), (0, 0), (0, 0), (0, 0), (0, 0), ((-2147483648), 2147483647), (1, 1), ((-2147483648), 0), ((-2147483648), 2147483647), ((-2147483648), 2147483647)], [(3, (9, 0), (0, 0))], [(((0, 0), 1851192626986356797625047037163794926384839479479878431390892035000000), .inr (0, (12, 0))), (((0, 481), 1), .inr (0, (12, 0))), (((0, 0), 1851192626986356797625047037163794926384839479479878431390892032000000), .inr (0, (11, 0))), (((0, 480), 2), .inr (3, (0, 481))), (((0, 0), 1851192626986356797625047037163794926384839479479878431390302211000000), .inr (0, (0, (-1)))), (((0, 480), 1), .inr (0, (0, (-1)))), (((0, 0), 1851192626986356797424340330377019318111018015026043177836478467000000), .inr (0, (0, 0))), (((0, 480), 0), .inr (0, (0, 0)))], some (.inr (0, (0, (-1))))), [])
noncomputable def rxe226_0_7 : rx_End × List (Nat × Int × Int) := (([(0, 0), (0, 0), (0, 0), (0, 0), (0, 0), (0, 0), (0, 0), (0, 0), ((-2147483648), 2147483647), (1, 1), (10, 2147483647), ((-2147483648), 2147483647), ((-2147483648), 2147483647)], [(3, (9, 0), (0, 0))], [(((0, 0), 1851192626986356797625047037163794926384839479479878431390892035000000), .inr (0, (12, 0))), (((0, 481), 1), .inr (0, (12, 0))), (((0, 0), 1851192626986356797625047037163794926384839479479878431390892032000000), .inr (0, (11, 0))), (((0, 480), 2), .inr (3, (0, 481))), (((0, 0), 1851192626986356797625047037163794926384839479479878431390302211000000), .inr (0, (0, (-1)))), (((0, 480), 1), .inr (0, (0, (-1)))), (((0, 0), 1851192626986356797424340330377019318111018015026043177836478467000000), .inr (0, (0, 0))), (((0, 480), 0), .inr (0, (0, 0)))], some (.inr (0, (0, (-1))))), [])
noncomputable def rxe226_0_8 : rx_End × List (Nat × Int × Int) := (([(0, 0), (0, 0), (0, 0), (0, 0), (0, 0), (0, 0), (0, 0), (0, 0), (0, 7), (1, 1), (1, 9), (1, 8), (0, 21), (0, 9)], [(7, (12, 0), (8, 0)), (1, (8, 0), (11, (-1))), (3, (9, 0), (0, 0))], [(((0, 0), 1851192626986356797625047037163794926384839479479878431390302211000000), .inr (0, (0, 0))), (((0, 480), 1), .inr (0, (0, 0))), (((0, 0), 1851192626986356845593986709698792765182223528404106661722193923000000), .inr (0, (10, 0))), (((0, 0), 1851192626986356845593986709698792765182223528404106661722193920000000), .inr (0, (13, 0))), (((0, 0), 1851192626986356797625047037163794926384839479479878431391481856000000), .inr (0, (11, 0))), (((0, 480), 3), .inr (3, (0, 482))), (((0, 0), 1851192626986356797424340330377019318111018015026043177836478467000000), .inr (0, (0, 0))), (((0, 480), 0), .inr (0, (0, 0)))], some (.inr (0, (13, 0)))), [])
noncomputable def rxe226_0_9 : rx_End × List (Nat × Int × Int) := (([(0, 0), (0, 0), (0, 0), (0, 0), (0, 0), (0, 0), (0, 0), (0, 0), (0, 2147483647), (1, 1), (1, 9), (0, 8), ((-2147483648), 2147483647), ((-2147483648), 2147483647)], [(0, (11, (-1)), (8, 0)), (3, (9, 0), (0, 0))], [(((0, 0), 1851192626986356797825753743950570534658660943933713684944715779000000), .inr (0, (13, 0))), (((0, 481), 2), .inr (0, (13, 0))), (((0, 0), 1851192626986356797825753743950570534658660943933713684944715776000000), .inr (0, (12, 0))), (((0, 480), 2), .inr (3, (0, 481))), (((0, 0), 1851192626986356797625047037163794926384839479479878431390302211000000), .inr (0, (0, (-2)))), (((0, 480), 1), .inr (0, (0, (-2)))), (((0, 0), 1851192626986356797625047037163794926384839479479878431391481856000000), .inr (0, (11, 0))), (((0, 480), 3), .inr (3, (0, 482))), (((0, 0), 1851192626986356797424340330377019318111018015026043177836478467000000), .inr (0, (0, 0))), (((0, 480), 0), .inr (0, (0, 0)))], some (.inr (0, (0, (-2))))), [])
noncomputable def rxe226_0_10 : rx_End × List (Nat × Int × Int) := (([(0, 0), (0, 0), (0, 0), (0, 0), (0, 0), (0, 0), (0, 0), (0, 0), ((-2147483648), (-1)), (1, 1), (1, 9), (0, 8), ((-2147483648), 2147483647), ((-2147483648), 2147483647)], [(3, (9, 0), (0, 0))], [(((0, 0), 1851192626986356797825753743950570534658660943933713684944715779000000), .inr (0, (13, 0))), (((0, 481), 2), .inr (0, (13, 0))), (((0, 0), 1851192626986356797825753743950570534658660943933713684944715776000000), .inr (0, (12, 0))), (((0, 480), 2), .inr (3, (0, 481))), (((0, 0), 1851192626986356797625047037163794926384839479479878431390302211000000), .inr (0, (0, (-2)))), (((0, 480), 1), .inr (0, (0, (-2)))), (((0, 0), 1851192626986356797625047037163794926384839479479878431391481856000000), .inr (0, (11, 0))), (((0, 480), 3), .inr (3, (0, 482))), (((0, 0), 1851192626986356797424340330377019318111018015026043177836478467000000), .inr (0, (0, 0))), (((0, 480), 0), .inr (0, (0, 0)))], some (.inr (0, (0, (-2))))), [])
noncomputable def rxe226_0_11 : rx_End × List (Nat × Int × Int) := (([(0, 0), (0, 0), (0, 0), (0, 0), (0, 0), (0, 0), (0, 0), (0, 0), ((-2147483648), 2147483647), ((-2147483648), 2147483647), ((-2147483648), 2147483647), ((-2147483648), 2147483647), ((-2147483648), 2147483647)], [(3, (9, 0), (0, 1)), (3, (9, 0), (0, 0))], [(((0, 0), 1851192626986356797625047037163794926384839479479878431390892035000000), .inr (0, (12, 0))), (((0, 481), 1), .inr (0, (12, 0))), (((0, 0), 1851192626986356797625047037163794926384839479479878431390892032000000), .inr (0, (11, 0))), (((0, 480), 2), .inr (3, (0, 481))), (((0, 0), 1851192626986356797625047037163794926384839479479878431390302211000000), .inr (0, (0, (-1)))), (((0, 480), 1), .inr (0, (0, (-1)))), (((0, 0), 1851192626986356797424340330377019318111018015026043177836478467000000), .inr (0, (0, 0))), (((0, 480), 0), .inr (0, (0, 0)))], some (.inr (0, (0, (-1))))), [])
noncomputable def rxY226 : List bx_HE := [(rxz226_0, [], [rxe226_0_0, rxe226_0_1, rxe226_0_2, rxe226_0_3, rxe226_0_4, rxe226_0_5, rxe226_0_6, rxe226_0_7, rxe226_0_8, rxe226_0_9, rxe226_0_10, rxe226_0_11])]
noncomputable def rxU226 (q : bx_HE) : Bool := false
noncomputable def rxYB226 : bx_B := (rxV, rxNP, rxDmf, bx_mdH rxC226.2.2.1)
set_option maxRecDepth 100000 in
theorem rxYc226 : bx_chkH rxYB226 rxM226 rxC226 rxY226 (rxU226, fun cut z => rx_ex2 (rxCT rxYB226 rxCnE) cut 30000 rxC226.2.2.2.1 226 z) = true := by decide +kernel
noncomputable def rxI226 (S0 : Nat → Int → Int) (ws : List Int) (i : Nat) : bx_SP := fun S r => match i with | 0 => rxI226_0 S0 ws S (r 8) (r 9) (r 10) | _ => False
noncomputable def rxm226 (S0 : Nat → Int → Int) (ws : List Int) (i : Nat) (S : Nat → Int → Int) (r : Nat → Int) : Nat := match i with | 0 => rxm226_0 S0 ws S (r 8) (r 9) (r 10) | _ => 0
noncomputable def rxP226 (S0 : Nat → Int → Int) (ws : List Int) : Prop := True
noncomputable def rxPS226 (S0 : Nat → Int → Int) (ws : List Int) (S : Nat → Int → Int) (w : Option Int) : Prop := ∃ pe wh va : Int, ws = [480, pe, wh, va] ∧ ((((wh = 0 ∧ (va < 0 ∨ 300 < va)) ∨ (wh = 1 ∧ (va < 1 ∨ 9 < va)) ∨ (wh ≠ 0 ∧ wh ≠ 1)) ∧ w = some (-1) ∧ (∀ j : Int, S 482 j = S0 482 j)) ∨ (((wh = 0 ∧ 0 ≤ va ∧ va ≤ 300) ∨ (wh = 1 ∧ 1 ≤ va ∧ va ≤ 9)) ∧ (pe < 0 ∨ S0 482 1 ≤ pe) ∧ w = some (-2) ∧ (∀ j : Int, S 482 j = S0 482 j)) ∨ (wh = 0 ∧ 0 ≤ va ∧ va ≤ 300 ∧ 0 ≤ pe ∧ pe ≤ 7 ∧ pe < S0 482 1 ∧ va ≤ S0 482 (238 + 3 * pe) ∧ w = some (-1) ∧ (∀ j : Int, S 482 j = S0 482 j)) ∨ (wh = 0 ∧ 0 ≤ va ∧ va ≤ 300 ∧ 0 ≤ pe ∧ pe ≤ 7 ∧ pe < S0 482 1 ∧ S0 482 (238 + 3 * pe) < va ∧ w = some (S0 482 (239 + 3 * pe)) ∧ (∀ i : Int, 0 ≤ i → i < 8 → S 482 (238 + 3 * i) = S0 482 (238 + 3 * i)) ∧ (∀ i : Int, 0 ≤ i → i < 8 → S 482 (239 + 3 * i) = if i = pe then va else S0 482 (239 + 3 * i)) ∧ (∀ i : Int, 0 ≤ i → i < 8 → S 482 (240 + 3 * i) = S0 482 (240 + 3 * i))) ∨ (wh = 1 ∧ 1 ≤ va ∧ va ≤ 9 ∧ 0 ≤ pe ∧ pe ≤ 7 ∧ pe < S0 482 1 ∧ w = some (S0 482 (240 + 3 * pe)) ∧ (∀ i : Int, 0 ≤ i → i < 8 → S 482 (238 + 3 * i) = S0 482 (238 + 3 * i)) ∧ (∀ i : Int, 0 ≤ i → i < 8 → S 482 (239 + 3 * i) = S0 482 (239 + 3 * i)) ∧ (∀ i : Int, 0 ≤ i → i < 8 → S 482 (240 + 3 * i) = if i = pe then va else S0 482 (240 + 3 * i))))
theorem rxd226_0_0 {S0 : Nat → Int → Int} {ws : List Int} {S : Nat → Int → Int} {pe wh va x11 x12 : Int} (hP : rxP226 S0 ws) (hin : bx_same rxL (bx_mdl rxC226.2.2.1) S0 S) (hin2 : bx_same rxL (bx_mdl rxC226.2.2.1) S (bx_up (bx_up (bx_up S 480 0 0) 480 1 ((-1))) 481 1 x12)) (I0 : bx_Inv rxL S) (I1 : bx_Inv rxL (bx_up (bx_up (bx_up S 480 0 0) 480 1 ((-1))) 481 1 x12)) (hinv : rxI226_0 S0 ws S pe wh va) (l8 : (-2147483648) ≤ pe) (u8 : pe ≤ 2147483647) (l9 : 0 ≤ wh) (u9 : wh ≤ 0) (l10 : (-2147483648) ≤ va) (u10 : va ≤ (-1)) (l11 : (-2147483648) ≤ x11) (u11 : x11 ≤ 2147483647) (l12 : (-2147483648) ≤ x12) (u12 : x12 ≤ 2147483647) (e1 : (bx_up (bx_up S 480 0 0) 480 1 ((-1))) 481 1 = x11) : (True) ∧ rxPS226 S0 ws (bx_up (bx_up (bx_up S 480 0 0) 480 1 ((-1))) 481 1 x12) (some ((-1))) := by
  obtain ⟨rfl, hw⟩ := hinv
  have e1 := (show _ = S 481 1 from (bx_up_ne (by omega)).trans ((bx_up_ne (by omega)))).symm.trans e1
  refine ⟨trivial, pe, wh, va, hw, Or.inl (⟨?_, ?_, fun j => (bx_up_ne (by omega)).trans ((bx_up_ne (by omega)).trans ((bx_up_ne (by omega))))⟩)⟩ <;> first | omega | exact hin2 | exact congrArg some (by omega) | (intro i i0 i1; simp only [bx_up]; (repeat' split) <;> first | rfl | omega | (simp_all; done) | (simp_all; omega)) | ((repeat (first | rw [bx_up_at] | rw [bx_up_ne (by omega)])); omega) | exact True.intro
theorem rxf226_0_0 {X : (Nat → Int → Int) → Prop} {S0 : Nat → Int → Int} {ws : List Int} (hP : rxP226 S0 ws) : bx_obE rxL X S0 rxC226.2.2.1 (rxI226 S0 ws) (rxPS226 S0 ws) 0 rxz226_0 rxe226_0_0 := by
  intro S S_p r r_p hinv hX hin hsm_ hseg
  obtain ⟨I0, I1, h0_, hr_, b_, f_, d_⟩ := bx_cl (evs := [(1, (0, 481), (0, 1), .inr (0, (12, 0))), (0, (0, 481), (0, 1), .inr (0, (11, 0))), (1, (0, 480), (0, 1), .inr (0, (0, (-1)))), (1, (0, 480), (0, 0), .inr (0, (0, 0)))]) (fvs := []) hseg (by decide +kernel) (by decide +kernel)
  have hinv : rxI226_0 S0 ws S (r 8) (r 9) (r 10) := hinv
  rw [← hr_ 8 (by decide), ← hr_ 9 (by decide), ← hr_ 10 (by decide)] at hinv
  obtain ⟨⟨l8, u8⟩, ⟨l9, u9⟩, ⟨l10, u10⟩, ⟨l11, u11⟩, ⟨l12, u12⟩, -⟩ := b_
  obtain ⟨T0, ⟨e1, ⟨T2, ⟨T3, w_, w3⟩, w2⟩⟩, w0⟩ := d_
  subst w0
  subst w2
  subst w3
  subst w_
  have g := rxd226_0_0 hP hin hsm_ I0 I1 hinv l8 u8 l9 u9 l10 u10 l11 u11 l12 u12 e1
  refine ⟨bx_narP_ok (l := []) g.1, ?_⟩
  show rxPS226 S0 ws (bx_up (bx_up (bx_up T3 480 (0) (0)) 480 (1) ((-1))) 481 (1) (r_p 12)) (some (bx_num r_p (.inr (0, (0, (-1))))))
  rw [bx_xv_ok h0_]
  exact g.2
theorem rxd226_0_1 {S0 : Nat → Int → Int} {ws : List Int} {S : Nat → Int → Int} {pe wh va x11 x12 : Int} (hP : rxP226 S0 ws) (hin : bx_same rxL (bx_mdl rxC226.2.2.1) S0 S) (hin2 : bx_same rxL (bx_mdl rxC226.2.2.1) S (bx_up (bx_up (bx_up S 480 0 0) 480 1 ((-1))) 481 1 x12)) (I0 : bx_Inv rxL S) (I1 : bx_Inv rxL (bx_up (bx_up (bx_up S 480 0 0) 480 1 ((-1))) 481 1 x12)) (hinv : rxI226_0 S0 ws S pe wh va) (l8 : (-2147483648) ≤ pe) (u8 : pe ≤ 2147483647) (l9 : 0 ≤ wh) (u9 : wh ≤ 0) (l10 : 301 ≤ va) (u10 : va ≤ 2147483647) (l11 : (-2147483648) ≤ x11) (u11 : x11 ≤ 2147483647) (l12 : (-2147483648) ≤ x12) (u12 : x12 ≤ 2147483647) (e1 : (bx_up (bx_up S 480 0 0) 480 1 ((-1))) 481 1 = x11) : (True) ∧ rxPS226 S0 ws (bx_up (bx_up (bx_up S 480 0 0) 480 1 ((-1))) 481 1 x12) (some ((-1))) := by
  obtain ⟨rfl, hw⟩ := hinv
  have e1 := (show _ = S 481 1 from (bx_up_ne (by omega)).trans ((bx_up_ne (by omega)))).symm.trans e1
  refine ⟨trivial, pe, wh, va, hw, Or.inl (⟨?_, ?_, fun j => (bx_up_ne (by omega)).trans ((bx_up_ne (by omega)).trans ((bx_up_ne (by omega))))⟩)⟩ <;> first | omega | exact hin2 | exact congrArg some (by omega) | (intro i i0 i1; simp only [bx_up]; (repeat' split) <;> first | rfl | omega | (simp_all; done) | (simp_all; omega)) | ((repeat (first | rw [bx_up_at] | rw [bx_up_ne (by omega)])); omega) | exact True.intro
theorem rxf226_0_1 {X : (Nat → Int → Int) → Prop} {S0 : Nat → Int → Int} {ws : List Int} (hP : rxP226 S0 ws) : bx_obE rxL X S0 rxC226.2.2.1 (rxI226 S0 ws) (rxPS226 S0 ws) 0 rxz226_0 rxe226_0_1 := by
  intro S S_p r r_p hinv hX hin hsm_ hseg
  obtain ⟨I0, I1, h0_, hr_, b_, f_, d_⟩ := bx_cl (evs := [(1, (0, 481), (0, 1), .inr (0, (12, 0))), (0, (0, 481), (0, 1), .inr (0, (11, 0))), (1, (0, 480), (0, 1), .inr (0, (0, (-1)))), (1, (0, 480), (0, 0), .inr (0, (0, 0)))]) (fvs := []) hseg (by decide +kernel) (by decide +kernel)
  have hinv : rxI226_0 S0 ws S (r 8) (r 9) (r 10) := hinv
  rw [← hr_ 8 (by decide), ← hr_ 9 (by decide), ← hr_ 10 (by decide)] at hinv
  obtain ⟨⟨l8, u8⟩, ⟨l9, u9⟩, ⟨l10, u10⟩, ⟨l11, u11⟩, ⟨l12, u12⟩, -⟩ := b_
  obtain ⟨T0, ⟨e1, ⟨T2, ⟨T3, w_, w3⟩, w2⟩⟩, w0⟩ := d_
  subst w0
  subst w2
  subst w3
  subst w_
  have g := rxd226_0_1 hP hin hsm_ I0 I1 hinv l8 u8 l9 u9 l10 u10 l11 u11 l12 u12 e1
  refine ⟨bx_narP_ok (l := []) g.1, ?_⟩
  show rxPS226 S0 ws (bx_up (bx_up (bx_up T3 480 (0) (0)) 480 (1) ((-1))) 481 (1) (r_p 12)) (some (bx_num r_p (.inr (0, (0, (-1))))))
  rw [bx_xv_ok h0_]
  exact g.2
theorem rxd226_0_2 {S0 : Nat → Int → Int} {ws : List Int} {S : Nat → Int → Int} {pe wh va x11 x12 x13 x14 x15 : Int} (hP : rxP226 S0 ws) (hin : bx_same rxL (bx_mdl rxC226.2.2.1) S0 S) (hin2 : bx_same rxL (bx_mdl rxC226.2.2.1) S (bx_up (bx_up (bx_up S 480 0 0) 480 1 ((-1))) 481 1 x15)) (I0 : bx_Inv rxL S) (I1 : bx_Inv rxL (bx_up (bx_up (bx_up S 480 0 0) 480 1 ((-1))) 481 1 x15)) (hinv : rxI226_0 S0 ws S pe wh va) (l8 : 0 ≤ pe) (u8 : pe ≤ 7) (l9 : 0 ≤ wh) (u9 : wh ≤ 0) (l10 : 0 ≤ va) (u10 : va ≤ 200) (l11 : 1 ≤ x11) (u11 : x11 ≤ 8) (l12 : 0 ≤ x12) (u12 : x12 ≤ 21) (l13 : 0 ≤ x13) (u13 : x13 ≤ 200) (l14 : (-2147483648) ≤ x14) (u14 : x14 ≤ 2147483647) (l15 : (-2147483648) ≤ x15) (u15 : x15 ≤ 2147483647) (f0 : va ≤ x13) (f1 : x12 = 3 * (pe)) (f2 : pe ≤ x11 + (-1)) (e4 : (bx_up S 480 0 0) 482 1 = x11) (e3 : (bx_up S 480 0 0) 482 (x12 + 238) = x13) (e1 : (bx_up (bx_up S 480 0 0) 480 1 ((-1))) 481 1 = x14) : (True) ∧ rxPS226 S0 ws (bx_up (bx_up (bx_up S 480 0 0) 480 1 ((-1))) 481 1 x15) (some ((-1))) := by
  obtain ⟨rfl, hw⟩ := hinv
  have e4 := (show _ = S 482 1 from (bx_up_ne (by omega))).symm.trans e4
  have e1 := (show _ = S 481 1 from (bx_up_ne (by omega)).trans ((bx_up_ne (by omega)))).symm.trans e1
  have e3 : S 482 (238 + 3 * pe) = x13 := by
    rw [show (238 + 3 * pe : Int) = x12 + 238 by omega]
    exact (show _ = S 482 (x12 + 238) from (bx_up_ne (by omega))).symm.trans e3
  refine ⟨trivial, pe, wh, va, hw, Or.inr (Or.inr (Or.inl (⟨?_, ?_, ?_, ?_, ?_, ?_, ?_, ?_, fun j => (bx_up_ne (by omega)).trans ((bx_up_ne (by omega)).trans ((bx_up_ne (by omega))))⟩)))⟩ <;> first | omega | exact hin2 | exact congrArg some (by omega) | (intro i i0 i1; simp only [bx_up]; (repeat' split) <;> first | rfl | omega | (simp_all; done) | (simp_all; omega)) | ((repeat (first | rw [bx_up_at] | rw [bx_up_ne (by omega)])); omega) | exact True.intro
theorem rxf226_0_2 {X : (Nat → Int → Int) → Prop} {S0 : Nat → Int → Int} {ws : List Int} (hP : rxP226 S0 ws) : bx_obE rxL X S0 rxC226.2.2.1 (rxI226 S0 ws) (rxPS226 S0 ws) 0 rxz226_0 rxe226_0_2 := by
  intro S S_p r r_p hinv hX hin hsm_ hseg
  obtain ⟨I0, I1, h0_, hr_, b_, f_, d_⟩ := bx_cl (evs := [(1, (0, 481), (0, 1), .inr (0, (15, 0))), (0, (0, 481), (0, 1), .inr (0, (14, 0))), (1, (0, 480), (0, 1), .inr (0, (0, (-1)))), (0, (0, 482), (12, 238), .inr (0, (13, 0))), (0, (0, 482), (0, 1), .inr (0, (11, 0))), (1, (0, 480), (0, 0), .inr (0, (0, 0)))]) (fvs := [(1, (10, 0), (13, 0), (0, 0)), (4, (12, 0), (8, 0), (0, 3)), (1, (8, 0), (11, (-1)), (0, 0))]) hseg (by decide +kernel) (by decide +kernel)
  have hinv : rxI226_0 S0 ws S (r 8) (r 9) (r 10) := hinv
  rw [← hr_ 8 (by decide), ← hr_ 9 (by decide), ← hr_ 10 (by decide)] at hinv
  obtain ⟨⟨l8, u8⟩, ⟨l9, u9⟩, ⟨l10, u10⟩, ⟨l11, u11⟩, ⟨l12, u12⟩, ⟨l13, u13⟩, ⟨l14, u14⟩, ⟨l15, u15⟩, -⟩ := b_
  obtain ⟨f0, f1, f2, -⟩ := f_
  obtain ⟨T0, ⟨e1, ⟨T2, ⟨e3, ⟨e4, ⟨T5, w_, w5⟩⟩⟩, w2⟩⟩, w0⟩ := d_
  subst w0
  subst w2
  subst w5
  subst w_
  have g := rxd226_0_2 hP hin hsm_ I0 I1 hinv l8 u8 l9 u9 l10 u10 l11 u11 l12 u12 l13 u13 l14 u14 l15 u15 f0 f1 f2 e4 e3 e1
  refine ⟨bx_narP_ok (l := []) g.1, ?_⟩
  show rxPS226 S0 ws (bx_up (bx_up (bx_up T5 480 (0) (0)) 480 (1) ((-1))) 481 (1) (r_p 15)) (some (bx_num r_p (.inr (0, (0, (-1))))))
  rw [bx_xv_ok h0_]
  exact g.2
theorem rxd226_0_3 {S0 : Nat → Int → Int} {ws : List Int} {S : Nat → Int → Int} {pe wh va x11 x12 x13 x14 x15 : Int} (hP : rxP226 S0 ws) (hin : bx_same rxL (bx_mdl rxC226.2.2.1) S0 S) (hin2 : bx_same rxL (bx_mdl rxC226.2.2.1) S (bx_up (bx_up (bx_up S 480 0 0) 482 (x14 + 239) va) 480 1 0)) (I0 : bx_Inv rxL S) (I1 : bx_Inv rxL (bx_up (bx_up (bx_up S 480 0 0) 482 (x14 + 239) va) 480 1 0)) (hinv : rxI226_0 S0 ws S pe wh va) (l8 : 0 ≤ pe) (u8 : pe ≤ 7) (l9 : 0 ≤ wh) (u9 : wh ≤ 0) (l10 : 1 ≤ va) (u10 : va ≤ 300) (l11 : 1 ≤ x11) (u11 : x11 ≤ 8) (l12 : 0 ≤ x12) (u12 : x12 ≤ 21) (l13 : 0 ≤ x13) (u13 : x13 ≤ 200) (l14 : 0 ≤ x14) (u14 : x14 ≤ 21) (l15 : 0 ≤ x15) (u15 : x15 ≤ 300) (f0 : x14 = 3 * (pe)) (f1 : x13 < va) (f2 : x12 = 3 * (pe)) (f3 : pe ≤ x11 + (-1)) (e4 : (bx_up S 480 0 0) 482 1 = x11) (e3 : (bx_up S 480 0 0) 482 (x12 + 238) = x13) (e2 : (bx_up S 480 0 0) 482 (x14 + 239) = x15) : (True) ∧ rxPS226 S0 ws (bx_up (bx_up (bx_up S 480 0 0) 482 (x14 + 239) va) 480 1 0) (some x15) := by
  obtain ⟨rfl, hw⟩ := hinv
  have e4 := (show _ = S 482 1 from (bx_up_ne (by omega))).symm.trans e4
  have e3 : S 482 (238 + 3 * pe) = x13 := by
    rw [show (238 + 3 * pe : Int) = x12 + 238 by omega]
    exact (show _ = S 482 (x12 + 238) from (bx_up_ne (by omega))).symm.trans e3
  have e2 : S 482 (239 + 3 * pe) = x15 := by
    rw [show (239 + 3 * pe : Int) = x14 + 239 by omega]
    exact (show _ = S 482 (x14 + 239) from (bx_up_ne (by omega))).symm.trans e2
  refine ⟨trivial, pe, wh, va, hw, Or.inr (Or.inr (Or.inr (Or.inl (⟨?_, ?_, ?_, ?_, ?_, ?_, ?_, ?_, ?_, ?_, ?_⟩))))⟩ <;> first | omega | exact hin2 | exact congrArg some (by omega) | (intro i i0 i1; simp only [bx_up]; (repeat' split) <;> first | rfl | omega | (simp_all; done) | (simp_all; omega)) | ((repeat (first | rw [bx_up_at] | rw [bx_up_ne (by omega)])); omega) | exact True.intro
theorem rxf226_0_3 {X : (Nat → Int → Int) → Prop} {S0 : Nat → Int → Int} {ws : List Int} (hP : rxP226 S0 ws) : bx_obE rxL X S0 rxC226.2.2.1 (rxI226 S0 ws) (rxPS226 S0 ws) 0 rxz226_0 rxe226_0_3 := by
  intro S S_p r r_p hinv hX hin hsm_ hseg
  obtain ⟨I0, I1, h0_, hr_, b_, f_, d_⟩ := bx_cl (evs := [(1, (0, 480), (0, 1), .inr (0, (0, 0))), (1, (0, 482), (14, 239), .inr (0, (10, 0))), (0, (0, 482), (14, 239), .inr (0, (15, 0))), (0, (0, 482), (12, 238), .inr (0, (13, 0))), (0, (0, 482), (0, 1), .inr (0, (11, 0))), (1, (0, 480), (0, 0), .inr (0, (0, 0)))]) (fvs := [(4, (14, 0), (8, 0), (0, 3)), (0, (13, 0), (10, 0), (0, 0)), (4, (12, 0), (8, 0), (0, 3)), (1, (8, 0), (11, (-1)), (0, 0))]) hseg (by decide +kernel) (by decide +kernel)
  have hinv : rxI226_0 S0 ws S (r 8) (r 9) (r 10) := hinv
  rw [← hr_ 8 (by decide), ← hr_ 9 (by decide), ← hr_ 10 (by decide)] at hinv
  obtain ⟨⟨l8, u8⟩, ⟨l9, u9⟩, ⟨l10, u10⟩, ⟨l11, u11⟩, ⟨l12, u12⟩, ⟨l13, u13⟩, ⟨l14, u14⟩, ⟨l15, u15⟩, -⟩ := b_
  obtain ⟨f0, f1, f2, f3, -⟩ := f_
  obtain ⟨T0, ⟨T1, ⟨e2, ⟨e3, ⟨e4, ⟨T5, w_, w5⟩⟩⟩⟩, w1⟩, w0⟩ := d_
  subst w0
  subst w1
  subst w5
  subst w_
  have g := rxd226_0_3 hP hin hsm_ I0 I1 hinv l8 u8 l9 u9 l10 u10 l11 u11 l12 u12 l13 u13 l14 u14 l15 u15 f0 f1 f2 f3 e4 e3 e2
  refine ⟨bx_narP_ok (l := []) g.1, ?_⟩
  show rxPS226 S0 ws (bx_up (bx_up (bx_up T5 480 (0) (0)) 482 (r_p 14 + 239) (r_p 10)) 480 (1) (0)) (some (bx_num r_p (.inr (0, (15, 0)))))
  rw [bx_xv_ok h0_]
  exact g.2
theorem rxd226_0_4 {S0 : Nat → Int → Int} {ws : List Int} {S : Nat → Int → Int} {pe wh va x11 x12 x13 : Int} (hP : rxP226 S0 ws) (hin : bx_same rxL (bx_mdl rxC226.2.2.1) S0 S) (hin2 : bx_same rxL (bx_mdl rxC226.2.2.1) S (bx_up (bx_up (bx_up S 480 0 0) 480 1 ((-2))) 481 2 x13)) (I0 : bx_Inv rxL S) (I1 : bx_Inv rxL (bx_up (bx_up (bx_up S 480 0 0) 480 1 ((-2))) 481 2 x13)) (hinv : rxI226_0 S0 ws S pe wh va) (l8 : 0 ≤ pe) (u8 : pe ≤ 2147483647) (l9 : 0 ≤ wh) (u9 : wh ≤ 0) (l10 : 0 ≤ va) (u10 : va ≤ 300) (l11 : 0 ≤ x11) (u11 : x11 ≤ 8) (l12 : (-2147483648) ≤ x12) (u12 : x12 ≤ 2147483647) (l13 : (-2147483648) ≤ x13) (u13 : x13 ≤ 2147483647) (f0 : x11 + (-1) < pe) (e3 : (bx_up S 480 0 0) 482 1 = x11) (e1 : (bx_up (bx_up S 480 0 0) 480 1 ((-2))) 481 2 = x12) : (True) ∧ rxPS226 S0 ws (bx_up (bx_up (bx_up S 480 0 0) 480 1 ((-2))) 481 2 x13) (some ((-2))) := by
  obtain ⟨rfl, hw⟩ := hinv
  have e3 := (show _ = S 482 1 from (bx_up_ne (by omega))).symm.trans e3
  have e1 := (show _ = S 481 2 from (bx_up_ne (by omega)).trans ((bx_up_ne (by omega)))).symm.trans e1
  refine ⟨trivial, pe, wh, va, hw, Or.inr (Or.inl (⟨?_, ?_, ?_, fun j => (bx_up_ne (by omega)).trans ((bx_up_ne (by omega)).trans ((bx_up_ne (by omega))))⟩))⟩ <;> first | omega | exact hin2 | exact congrArg some (by omega) | (intro i i0 i1; simp only [bx_up]; (repeat' split) <;> first | rfl | omega | (simp_all; done) | (simp_all; omega)) | ((repeat (first | rw [bx_up_at] | rw [bx_up_ne (by omega)])); omega) | exact True.intro
theorem rxf226_0_4 {X : (Nat → Int → Int) → Prop} {S0 : Nat → Int → Int} {ws : List Int} (hP : rxP226 S0 ws) : bx_obE rxL X S0 rxC226.2.2.1 (rxI226 S0 ws) (rxPS226 S0 ws) 0 rxz226_0 rxe226_0_4 := by
  intro S S_p r r_p hinv hX hin hsm_ hseg
  obtain ⟨I0, I1, h0_, hr_, b_, f_, d_⟩ := bx_cl (evs := [(1, (0, 481), (0, 2), .inr (0, (13, 0))), (0, (0, 481), (0, 2), .inr (0, (12, 0))), (1, (0, 480), (0, 1), .inr (0, (0, (-2)))), (0, (0, 482), (0, 1), .inr (0, (11, 0))), (1, (0, 480), (0, 0), .inr (0, (0, 0)))]) (fvs := [(0, (11, (-1)), (8, 0), (0, 0))]) hseg (by decide +kernel) (by decide +kernel)
  have hinv : rxI226_0 S0 ws S (r 8) (r 9) (r 10) := hinv
  rw [← hr_ 8 (by decide), ← hr_ 9 (by decide), ← hr_ 10 (by decide)] at hinv
  obtain ⟨⟨l8, u8⟩, ⟨l9, u9⟩, ⟨l10, u10⟩, ⟨l11, u11⟩, ⟨l12, u12⟩, ⟨l13, u13⟩, -⟩ := b_
  obtain ⟨f0, -⟩ := f_
  obtain ⟨T0, ⟨e1, ⟨T2, ⟨e3, ⟨T4, w_, w4⟩⟩, w2⟩⟩, w0⟩ := d_
  subst w0
  subst w2
  subst w4
  subst w_
  have g := rxd226_0_4 hP hin hsm_ I0 I1 hinv l8 u8 l9 u9 l10 u10 l11 u11 l12 u12 l13 u13 f0 e3 e1
  refine ⟨bx_narP_ok (l := []) g.1, ?_⟩
  show rxPS226 S0 ws (bx_up (bx_up (bx_up T4 480 (0) (0)) 480 (1) ((-2))) 481 (2) (r_p 13)) (some (bx_num r_p (.inr (0, (0, (-2))))))
  rw [bx_xv_ok h0_]
  exact g.2
theorem rxd226_0_5 {S0 : Nat → Int → Int} {ws : List Int} {S : Nat → Int → Int} {pe wh va x11 x12 x13 : Int} (hP : rxP226 S0 ws) (hin : bx_same rxL (bx_mdl rxC226.2.2.1) S0 S) (hin2 : bx_same rxL (bx_mdl rxC226.2.2.1) S (bx_up (bx_up (bx_up S 480 0 0) 480 1 ((-2))) 481 2 x13)) (I0 : bx_Inv rxL S) (I1 : bx_Inv rxL (bx_up (bx_up (bx_up S 480 0 0) 480 1 ((-2))) 481 2 x13)) (hinv : rxI226_0 S0 ws S pe wh va) (l8 : (-2147483648) ≤ pe) (u8 : pe ≤ (-1)) (l9 : 0 ≤ wh) (u9 : wh ≤ 0) (l10 : 0 ≤ va) (u10 : va ≤ 300) (l11 : 0 ≤ x11) (u11 : x11 ≤ 8) (l12 : (-2147483648) ≤ x12) (u12 : x12 ≤ 2147483647) (l13 : (-2147483648) ≤ x13) (u13 : x13 ≤ 2147483647) (e3 : (bx_up S 480 0 0) 482 1 = x11) (e1 : (bx_up (bx_up S 480 0 0) 480 1 ((-2))) 481 2 = x12) : (True) ∧ rxPS226 S0 ws (bx_up (bx_up (bx_up S 480 0 0) 480 1 ((-2))) 481 2 x13) (some ((-2))) := by
  obtain ⟨rfl, hw⟩ := hinv
  have e3 := (show _ = S 482 1 from (bx_up_ne (by omega))).symm.trans e3
  have e1 := (show _ = S 481 2 from (bx_up_ne (by omega)).trans ((bx_up_ne (by omega)))).symm.trans e1
  refine ⟨trivial, pe, wh, va, hw, Or.inr (Or.inl (⟨?_, ?_, ?_, fun j => (bx_up_ne (by omega)).trans ((bx_up_ne (by omega)).trans ((bx_up_ne (by omega))))⟩))⟩ <;> first | omega | exact hin2 | exact congrArg some (by omega) | (intro i i0 i1; simp only [bx_up]; (repeat' split) <;> first | rfl | omega | (simp_all; done) | (simp_all; omega)) | ((repeat (first | rw [bx_up_at] | rw [bx_up_ne (by omega)])); omega) | exact True.intro
theorem rxf226_0_5 {X : (Nat → Int → Int) → Prop} {S0 : Nat → Int → Int} {ws : List Int} (hP : rxP226 S0 ws) : bx_obE rxL X S0 rxC226.2.2.1 (rxI226 S0 ws) (rxPS226 S0 ws) 0 rxz226_0 rxe226_0_5 := by
  intro S S_p r r_p hinv hX hin hsm_ hseg
  obtain ⟨I0, I1, h0_, hr_, b_, f_, d_⟩ := bx_cl (evs := [(1, (0, 481), (0, 2), .inr (0, (13, 0))), (0, (0, 481), (0, 2), .inr (0, (12, 0))), (1, (0, 480), (0, 1), .inr (0, (0, (-2)))), (0, (0, 482), (0, 1), .inr (0, (11, 0))), (1, (0, 480), (0, 0), .inr (0, (0, 0)))]) (fvs := []) hseg (by decide +kernel) (by decide +kernel)
  have hinv : rxI226_0 S0 ws S (r 8) (r 9) (r 10) := hinv
  rw [← hr_ 8 (by decide), ← hr_ 9 (by decide), ← hr_ 10 (by decide)] at hinv
  obtain ⟨⟨l8, u8⟩, ⟨l9, u9⟩, ⟨l10, u10⟩, ⟨l11, u11⟩, ⟨l12, u12⟩, ⟨l13, u13⟩, -⟩ := b_
  obtain ⟨T0, ⟨e1, ⟨T2, ⟨e3, ⟨T4, w_, w4⟩⟩, w2⟩⟩, w0⟩ := d_
  subst w0
  subst w2
  subst w4
  subst w_
  have g := rxd226_0_5 hP hin hsm_ I0 I1 hinv l8 u8 l9 u9 l10 u10 l11 u11 l12 u12 l13 u13 e3 e1
  refine ⟨bx_narP_ok (l := []) g.1, ?_⟩
  show rxPS226 S0 ws (bx_up (bx_up (bx_up T4 480 (0) (0)) 480 (1) ((-2))) 481 (2) (r_p 13)) (some (bx_num r_p (.inr (0, (0, (-2))))))
  rw [bx_xv_ok h0_]
  exact g.2
theorem rxd226_0_6 {S0 : Nat → Int → Int} {ws : List Int} {S : Nat → Int → Int} {pe wh va x11 x12 : Int} (hP : rxP226 S0 ws) (hin : bx_same rxL (bx_mdl rxC226.2.2.1) S0 S) (hin2 : bx_same rxL (bx_mdl rxC226.2.2.1) S (bx_up (bx_up (bx_up S 480 0 0) 480 1 ((-1))) 481 1 x12)) (I0 : bx_Inv rxL S) (I1 : bx_Inv rxL (bx_up (bx_up (bx_up S 480 0 0) 480 1 ((-1))) 481 1 x12)) (hinv : rxI226_0 S0 ws S pe wh va) (l8 : (-2147483648) ≤ pe) (u8 : pe ≤ 2147483647) (l9 : 1 ≤ wh) (u9 : wh ≤ 1) (l10 : (-2147483648) ≤ va) (u10 : va ≤ 0) (l11 : (-2147483648) ≤ x11) (u11 : x11 ≤ 2147483647) (l12 : (-2147483648) ≤ x12) (u12 : x12 ≤ 2147483647) (f0 : wh ≠ 0) (e1 : (bx_up (bx_up S 480 0 0) 480 1 ((-1))) 481 1 = x11) : (True) ∧ rxPS226 S0 ws (bx_up (bx_up (bx_up S 480 0 0) 480 1 ((-1))) 481 1 x12) (some ((-1))) := by
  obtain ⟨rfl, hw⟩ := hinv
  have e1 := (show _ = S 481 1 from (bx_up_ne (by omega)).trans ((bx_up_ne (by omega)))).symm.trans e1
  refine ⟨trivial, pe, wh, va, hw, Or.inl (⟨?_, ?_, fun j => (bx_up_ne (by omega)).trans ((bx_up_ne (by omega)).trans ((bx_up_ne (by omega))))⟩)⟩ <;> first | omega | exact hin2 | exact congrArg some (by omega) | (intro i i0 i1; simp only [bx_up]; (repeat' split) <;> first | rfl | omega | (simp_all; done) | (simp_all; omega)) | ((repeat (first | rw [bx_up_at] | rw [bx_up_ne (by omega)])); omega) | exact True.intro
theorem rxf226_0_6 {X : (Nat → Int → Int) → Prop} {S0 : Nat → Int → Int} {ws : List Int} (hP : rxP226 S0 ws) : bx_obE rxL X S0 rxC226.2.2.1 (rxI226 S0 ws) (rxPS226 S0 ws) 0 rxz226_0 rxe226_0_6 := by
  intro S S_p r r_p hinv hX hin hsm_ hseg
  obtain ⟨I0, I1, h0_, hr_, b_, f_, d_⟩ := bx_cl (evs := [(1, (0, 481), (0, 1), .inr (0, (12, 0))), (0, (0, 481), (0, 1), .inr (0, (11, 0))), (1, (0, 480), (0, 1), .inr (0, (0, (-1)))), (1, (0, 480), (0, 0), .inr (0, (0, 0)))]) (fvs := [(3, (9, 0), (0, 0), (0, 0))]) hseg (by decide +kernel) (by decide +kernel)
  have hinv : rxI226_0 S0 ws S (r 8) (r 9) (r 10) := hinv
  rw [← hr_ 8 (by decide), ← hr_ 9 (by decide), ← hr_ 10 (by decide)] at hinv
  obtain ⟨⟨l8, u8⟩, ⟨l9, u9⟩, ⟨l10, u10⟩, ⟨l11, u11⟩, ⟨l12, u12⟩, -⟩ := b_
  obtain ⟨f0, -⟩ := f_
  obtain ⟨T0, ⟨e1, ⟨T2, ⟨T3, w_, w3⟩, w2⟩⟩, w0⟩ := d_
  subst w0
  subst w2
  subst w3
  subst w_
  have g := rxd226_0_6 hP hin hsm_ I0 I1 hinv l8 u8 l9 u9 l10 u10 l11 u11 l12 u12 f0 e1
  refine ⟨bx_narP_ok (l := []) g.1, ?_⟩
  show rxPS226 S0 ws (bx_up (bx_up (bx_up T3 480 (0) (0)) 480 (1) ((-1))) 481 (1) (r_p 12)) (some (bx_num r_p (.inr (0, (0, (-1))))))
  rw [bx_xv_ok h0_]
  exact g.2
theorem rxd226_0_7 {S0 : Nat → Int → Int} {ws : List Int} {S : Nat → Int → Int} {pe wh va x11 x12 : Int} (hP : rxP226 S0 ws) (hin : bx_same rxL (bx_mdl rxC226.2.2.1) S0 S) (hin2 : bx_same rxL (bx_mdl rxC226.2.2.1) S (bx_up (bx_up (bx_up S 480 0 0) 480 1 ((-1))) 481 1 x12)) (I0 : bx_Inv rxL S) (I1 : bx_Inv rxL (bx_up (bx_up (bx_up S 480 0 0) 480 1 ((-1))) 481 1 x12)) (hinv : rxI226_0 S0 ws S pe wh va) (l8 : (-2147483648) ≤ pe) (u8 : pe ≤ 2147483647) (l9 : 1 ≤ wh) (u9 : wh ≤ 1) (l10 : 10 ≤ va) (u10 : va ≤ 2147483647) (l11 : (-2147483648) ≤ x11) (u11 : x11 ≤ 2147483647) (l12 : (-2147483648) ≤ x12) (u12 : x12 ≤ 2147483647) (f0 : wh ≠ 0) (e1 : (bx_up (bx_up S 480 0 0) 480 1 ((-1))) 481 1 = x11) : (True) ∧ rxPS226 S0 ws (bx_up (bx_up (bx_up S 480 0 0) 480 1 ((-1))) 481 1 x12) (some ((-1))) := by
  obtain ⟨rfl, hw⟩ := hinv
  have e1 := (show _ = S 481 1 from (bx_up_ne (by omega)).trans ((bx_up_ne (by omega)))).symm.trans e1
  refine ⟨trivial, pe, wh, va, hw, Or.inl (⟨?_, ?_, fun j => (bx_up_ne (by omega)).trans ((bx_up_ne (by omega)).trans ((bx_up_ne (by omega))))⟩)⟩ <;> first | omega | exact hin2 | exact congrArg some (by omega) | (intro i i0 i1; simp only [bx_up]; (repeat' split) <;> first | rfl | omega | (simp_all; done) | (simp_all; omega)) | ((repeat (first | rw [bx_up_at] | rw [bx_up_ne (by omega)])); omega) | exact True.intro
theorem rxf226_0_7 {X : (Nat → Int → Int) → Prop} {S0 : Nat → Int → Int} {ws : List Int} (hP : rxP226 S0 ws) : bx_obE rxL X S0 rxC226.2.2.1 (rxI226 S0 ws) (rxPS226 S0 ws) 0 rxz226_0 rxe226_0_7 := by
  intro S S_p r r_p hinv hX hin hsm_ hseg
  obtain ⟨I0, I1, h0_, hr_, b_, f_, d_⟩ := bx_cl (evs := [(1, (0, 481), (0, 1), .inr (0, (12, 0))), (0, (0, 481), (0, 1), .inr (0, (11, 0))), (1, (0, 480), (0, 1), .inr (0, (0, (-1)))), (1, (0, 480), (0, 0), .inr (0, (0, 0)))]) (fvs := [(3, (9, 0), (0, 0), (0, 0))]) hseg (by decide +kernel) (by decide +kernel)
  have hinv : rxI226_0 S0 ws S (r 8) (r 9) (r 10) := hinv
  rw [← hr_ 8 (by decide), ← hr_ 9 (by decide), ← hr_ 10 (by decide)] at hinv
  obtain ⟨⟨l8, u8⟩, ⟨l9, u9⟩, ⟨l10, u10⟩, ⟨l11, u11⟩, ⟨l12, u12⟩, -⟩ := b_
  obtain ⟨f0, -⟩ := f_
  obtain ⟨T0, ⟨e1, ⟨T2, ⟨T3, w_, w3⟩, w2⟩⟩, w0⟩ := d_
  subst w0
  subst w2
  subst w3
  subst w_
  have g := rxd226_0_7 hP hin hsm_ I0 I1 hinv l8 u8 l9 u9 l10 u10 l11 u11 l12 u12 f0 e1
  refine ⟨bx_narP_ok (l := []) g.1, ?_⟩
  show rxPS226 S0 ws (bx_up (bx_up (bx_up T3 480 (0) (0)) 480 (1) ((-1))) 481 (1) (r_p 12)) (some (bx_num r_p (.inr (0, (0, (-1))))))
  rw [bx_xv_ok h0_]
  exact g.2
theorem rxd226_0_8 {S0 : Nat → Int → Int} {ws : List Int} {S : Nat → Int → Int} {pe wh va x11 x12 x13 : Int} (hP : rxP226 S0 ws) (hin : bx_same rxL (bx_mdl rxC226.2.2.1) S0 S) (hin2 : bx_same rxL (bx_mdl rxC226.2.2.1) S (bx_up (bx_up (bx_up S 480 0 0) 482 (x12 + 240) va) 480 1 0)) (I0 : bx_Inv rxL S) (I1 : bx_Inv rxL (bx_up (bx_up (bx_up S 480 0 0) 482 (x12 + 240) va) 480 1 0)) (hinv : rxI226_0 S0 ws S pe wh va) (l8 : 0 ≤ pe) (u8 : pe ≤ 7) (l9 : 1 ≤ wh) (u9 : wh ≤ 1) (l10 : 1 ≤ va) (u10 : va ≤ 9) (l11 : 1 ≤ x11) (u11 : x11 ≤ 8) (l12 : 0 ≤ x12) (u12 : x12 ≤ 21) (l13 : 0 ≤ x13) (u13 : x13 ≤ 9) (f0 : x12 = 3 * (pe)) (f1 : pe ≤ x11 + (-1)) (f2 : wh ≠ 0) (e3 : (bx_up S 480 0 0) 482 1 = x11) (e2 : (bx_up S 480 0 0) 482 (x12 + 240) = x13) : (True) ∧ rxPS226 S0 ws (bx_up (bx_up (bx_up S 480 0 0) 482 (x12 + 240) va) 480 1 0) (some x13) := by
  obtain ⟨rfl, hw⟩ := hinv
  have e3 := (show _ = S 482 1 from (bx_up_ne (by omega))).symm.trans e3
  have e2 : S 482 (240 + 3 * pe) = x13 := by
    rw [show (240 + 3 * pe : Int) = x12 + 240 by omega]
    exact (show _ = S 482 (x12 + 240) from (bx_up_ne (by omega))).symm.trans e2
  refine ⟨trivial, pe, wh, va, hw, Or.inr (Or.inr (Or.inr (Or.inr (⟨?_, ?_, ?_, ?_, ?_, ?_, ?_, ?_, ?_, ?_⟩))))⟩ <;> first | omega | exact hin2 | exact congrArg some (by omega) | (intro i i0 i1; simp only [bx_up]; (repeat' split) <;> first | rfl | omega | (simp_all; done) | (simp_all; omega)) | ((repeat (first | rw [bx_up_at] | rw [bx_up_ne (by omega)])); omega) | exact True.intro
theorem rxf226_0_8 {X : (Nat → Int → Int) → Prop} {S0 : Nat → Int → Int} {ws : List Int} (hP : rxP226 S0 ws) : bx_obE rxL X S0 rxC226.2.2.1 (rxI226 S0 ws) (rxPS226 S0 ws) 0 rxz226_0 rxe226_0_8 := by
  intro S S_p r r_p hinv hX hin hsm_ hseg
  obtain ⟨I0, I1, h0_, hr_, b_, f_, d_⟩ := bx_cl (evs := [(1, (0, 480), (0, 1), .inr (0, (0, 0))), (1, (0, 482), (12, 240), .inr (0, (10, 0))), (0, (0, 482), (12, 240), .inr (0, (13, 0))), (0, (0, 482), (0, 1), .inr (0, (11, 0))), (1, (0, 480), (0, 0), .inr (0, (0, 0)))]) (fvs := [(4, (12, 0), (8, 0), (0, 3)), (1, (8, 0), (11, (-1)), (0, 0)), (3, (9, 0), (0, 0), (0, 0))]) hseg (by decide +kernel) (by decide +kernel)
  have hinv : rxI226_0 S0 ws S (r 8) (r 9) (r 10) := hinv
  rw [← hr_ 8 (by decide), ← hr_ 9 (by decide), ← hr_ 10 (by decide)] at hinv
  obtain ⟨⟨l8, u8⟩, ⟨l9, u9⟩, ⟨l10, u10⟩, ⟨l11, u11⟩, ⟨l12, u12⟩, ⟨l13, u13⟩, -⟩ := b_
  obtain ⟨f0, f1, f2, -⟩ := f_
  obtain ⟨T0, ⟨T1, ⟨e2, ⟨e3, ⟨T4, w_, w4⟩⟩⟩, w1⟩, w0⟩ := d_
  subst w0
  subst w1
  subst w4
  subst w_
  have g := rxd226_0_8 hP hin hsm_ I0 I1 hinv l8 u8 l9 u9 l10 u10 l11 u11 l12 u12 l13 u13 f0 f1 f2 e3 e2
  refine ⟨bx_narP_ok (l := []) g.1, ?_⟩
  show rxPS226 S0 ws (bx_up (bx_up (bx_up T4 480 (0) (0)) 482 (r_p 12 + 240) (r_p 10)) 480 (1) (0)) (some (bx_num r_p (.inr (0, (13, 0)))))
  rw [bx_xv_ok h0_]
  exact g.2
theorem rxd226_0_9 {S0 : Nat → Int → Int} {ws : List Int} {S : Nat → Int → Int} {pe wh va x11 x12 x13 : Int} (hP : rxP226 S0 ws) (hin : bx_same rxL (bx_mdl rxC226.2.2.1) S0 S) (hin2 : bx_same rxL (bx_mdl rxC226.2.2.1) S (bx_up (bx_up (bx_up S 480 0 0) 480 1 ((-2))) 481 2 x13)) (I0 : bx_Inv rxL S) (I1 : bx_Inv rxL (bx_up (bx_up (bx_up S 480 0 0) 480 1 ((-2))) 481 2 x13)) (hinv : rxI226_0 S0 ws S pe wh va) (l8 : 0 ≤ pe) (u8 : pe ≤ 2147483647) (l9 : 1 ≤ wh) (u9 : wh ≤ 1) (l10 : 1 ≤ va) (u10 : va ≤ 9) (l11 : 0 ≤ x11) (u11 : x11 ≤ 8) (l12 : (-2147483648) ≤ x12) (u12 : x12 ≤ 2147483647) (l13 : (-2147483648) ≤ x13) (u13 : x13 ≤ 2147483647) (f0 : x11 + (-1) < pe) (f1 : wh ≠ 0) (e3 : (bx_up S 480 0 0) 482 1 = x11) (e1 : (bx_up (bx_up S 480 0 0) 480 1 ((-2))) 481 2 = x12) : (True) ∧ rxPS226 S0 ws (bx_up (bx_up (bx_up S 480 0 0) 480 1 ((-2))) 481 2 x13) (some ((-2))) := by
  obtain ⟨rfl, hw⟩ := hinv
  have e3 := (show _ = S 482 1 from (bx_up_ne (by omega))).symm.trans e3
  have e1 := (show _ = S 481 2 from (bx_up_ne (by omega)).trans ((bx_up_ne (by omega)))).symm.trans e1
  refine ⟨trivial, pe, wh, va, hw, Or.inr (Or.inl (⟨?_, ?_, ?_, fun j => (bx_up_ne (by omega)).trans ((bx_up_ne (by omega)).trans ((bx_up_ne (by omega))))⟩))⟩ <;> first | omega | exact hin2 | exact congrArg some (by omega) | (intro i i0 i1; simp only [bx_up]; (repeat' split) <;> first | rfl | omega | (simp_all; done) | (simp_all; omega)) | ((repeat (first | rw [bx_up_at] | rw [bx_up_ne (by omega)])); omega) | exact True.intro
theorem rxf226_0_9 {X : (Nat → Int → Int) → Prop} {S0 : Nat → Int → Int} {ws : List Int} (hP : rxP226 S0 ws) : bx_obE rxL X S0 rxC226.2.2.1 (rxI226 S0 ws) (rxPS226 S0 ws) 0 rxz226_0 rxe226_0_9 := by
  intro S S_p r r_p hinv hX hin hsm_ hseg
  obtain ⟨I0, I1, h0_, hr_, b_, f_, d_⟩ := bx_cl (evs := [(1, (0, 481), (0, 2), .inr (0, (13, 0))), (0, (0, 481), (0, 2), .inr (0, (12, 0))), (1, (0, 480), (0, 1), .inr (0, (0, (-2)))), (0, (0, 482), (0, 1), .inr (0, (11, 0))), (1, (0, 480), (0, 0), .inr (0, (0, 0)))]) (fvs := [(0, (11, (-1)), (8, 0), (0, 0)), (3, (9, 0), (0, 0), (0, 0))]) hseg (by decide +kernel) (by decide +kernel)
  have hinv : rxI226_0 S0 ws S (r 8) (r 9) (r 10) := hinv
  rw [← hr_ 8 (by decide), ← hr_ 9 (by decide), ← hr_ 10 (by decide)] at hinv
  obtain ⟨⟨l8, u8⟩, ⟨l9, u9⟩, ⟨l10, u10⟩, ⟨l11, u11⟩, ⟨l12, u12⟩, ⟨l13, u13⟩, -⟩ := b_
  obtain ⟨f0, f1, -⟩ := f_
  obtain ⟨T0, ⟨e1, ⟨T2, ⟨e3, ⟨T4, w_, w4⟩⟩, w2⟩⟩, w0⟩ := d_
  subst w0
  subst w2
  subst w4
  subst w_
  have g := rxd226_0_9 hP hin hsm_ I0 I1 hinv l8 u8 l9 u9 l10 u10 l11 u11 l12 u12 l13 u13 f0 f1 e3 e1
  refine ⟨bx_narP_ok (l := []) g.1, ?_⟩
  show rxPS226 S0 ws (bx_up (bx_up (bx_up T4 480 (0) (0)) 480 (1) ((-2))) 481 (2) (r_p 13)) (some (bx_num r_p (.inr (0, (0, (-2))))))
  rw [bx_xv_ok h0_]
  exact g.2
theorem rxd226_0_10 {S0 : Nat → Int → Int} {ws : List Int} {S : Nat → Int → Int} {pe wh va x11 x12 x13 : Int} (hP : rxP226 S0 ws) (hin : bx_same rxL (bx_mdl rxC226.2.2.1) S0 S) (hin2 : bx_same rxL (bx_mdl rxC226.2.2.1) S (bx_up (bx_up (bx_up S 480 0 0) 480 1 ((-2))) 481 2 x13)) (I0 : bx_Inv rxL S) (I1 : bx_Inv rxL (bx_up (bx_up (bx_up S 480 0 0) 480 1 ((-2))) 481 2 x13)) (hinv : rxI226_0 S0 ws S pe wh va) (l8 : (-2147483648) ≤ pe) (u8 : pe ≤ (-1)) (l9 : 1 ≤ wh) (u9 : wh ≤ 1) (l10 : 1 ≤ va) (u10 : va ≤ 9) (l11 : 0 ≤ x11) (u11 : x11 ≤ 8) (l12 : (-2147483648) ≤ x12) (u12 : x12 ≤ 2147483647) (l13 : (-2147483648) ≤ x13) (u13 : x13 ≤ 2147483647) (f0 : wh ≠ 0) (e3 : (bx_up S 480 0 0) 482 1 = x11) (e1 : (bx_up (bx_up S 480 0 0) 480 1 ((-2))) 481 2 = x12) : (True) ∧ rxPS226 S0 ws (bx_up (bx_up (bx_up S 480 0 0) 480 1 ((-2))) 481 2 x13) (some ((-2))) := by
  obtain ⟨rfl, hw⟩ := hinv
  have e3 := (show _ = S 482 1 from (bx_up_ne (by omega))).symm.trans e3
  have e1 := (show _ = S 481 2 from (bx_up_ne (by omega)).trans ((bx_up_ne (by omega)))).symm.trans e1
  refine ⟨trivial, pe, wh, va, hw, Or.inr (Or.inl (⟨?_, ?_, ?_, fun j => (bx_up_ne (by omega)).trans ((bx_up_ne (by omega)).trans ((bx_up_ne (by omega))))⟩))⟩ <;> first | omega | exact hin2 | exact congrArg some (by omega) | (intro i i0 i1; simp only [bx_up]; (repeat' split) <;> first | rfl | omega | (simp_all; done) | (simp_all; omega)) | ((repeat (first | rw [bx_up_at] | rw [bx_up_ne (by omega)])); omega) | exact True.intro
theorem rxf226_0_10 {X : (Nat → Int → Int) → Prop} {S0 : Nat → Int → Int} {ws : List Int} (hP : rxP226 S0 ws) : bx_obE rxL X S0 rxC226.2.2.1 (rxI226 S0 ws) (rxPS226 S0 ws) 0 rxz226_0 rxe226_0_10 := by
  intro S S_p r r_p hinv hX hin hsm_ hseg
  obtain ⟨I0, I1, h0_, hr_, b_, f_, d_⟩ := bx_cl (evs := [(1, (0, 481), (0, 2), .inr (0, (13, 0))), (0, (0, 481), (0, 2), .inr (0, (12, 0))), (1, (0, 480), (0, 1), .inr (0, (0, (-2)))), (0, (0, 482), (0, 1), .inr (0, (11, 0))), (1, (0, 480), (0, 0), .inr (0, (0, 0)))]) (fvs := [(3, (9, 0), (0, 0), (0, 0))]) hseg (by decide +kernel) (by decide +kernel)
  have hinv : rxI226_0 S0 ws S (r 8) (r 9) (r 10) := hinv
  rw [← hr_ 8 (by decide), ← hr_ 9 (by decide), ← hr_ 10 (by decide)] at hinv
  obtain ⟨⟨l8, u8⟩, ⟨l9, u9⟩, ⟨l10, u10⟩, ⟨l11, u11⟩, ⟨l12, u12⟩, ⟨l13, u13⟩, -⟩ := b_
  obtain ⟨f0, -⟩ := f_
  obtain ⟨T0, ⟨e1, ⟨T2, ⟨e3, ⟨T4, w_, w4⟩⟩, w2⟩⟩, w0⟩ := d_
  subst w0
  subst w2
  subst w4
  subst w_
  have g := rxd226_0_10 hP hin hsm_ I0 I1 hinv l8 u8 l9 u9 l10 u10 l11 u11 l12 u12 l13 u13 f0 e3 e1
  refine ⟨bx_narP_ok (l := []) g.1, ?_⟩
  show rxPS226 S0 ws (bx_up (bx_up (bx_up T4 480 (0) (0)) 480 (1) ((-2))) 481 (2) (r_p 13)) (some (bx_num r_p (.inr (0, (0, (-2))))))
  rw [bx_xv_ok h0_]
  exact g.2
theorem rxd226_0_11 {S0 : Nat → Int → Int} {ws : List Int} {S : Nat → Int → Int} {pe wh va x11 x12 : Int} (hP : rxP226 S0 ws) (hin : bx_same rxL (bx_mdl rxC226.2.2.1) S0 S) (hin2 : bx_same rxL (bx_mdl rxC226.2.2.1) S (bx_up (bx_up (bx_up S 480 0 0) 480 1 ((-1))) 481 1 x12)) (I0 : bx_Inv rxL S) (I1 : bx_Inv rxL (bx_up (bx_up (bx_up S 480 0 0) 480 1 ((-1))) 481 1 x12)) (hinv : rxI226_0 S0 ws S pe wh va) (l8 : (-2147483648) ≤ pe) (u8 : pe ≤ 2147483647) (l9 : (-2147483648) ≤ wh) (u9 : wh ≤ 2147483647) (l10 : (-2147483648) ≤ va) (u10 : va ≤ 2147483647) (l11 : (-2147483648) ≤ x11) (u11 : x11 ≤ 2147483647) (l12 : (-2147483648) ≤ x12) (u12 : x12 ≤ 2147483647) (f0 : wh ≠ 1) (f1 : wh ≠ 0) (e1 : (bx_up (bx_up S 480 0 0) 480 1 ((-1))) 481 1 = x11) : (True) ∧ rxPS226 S0 ws (bx_up (bx_up (bx_up S 480 0 0) 480 1 ((-1))) 481 1 x12) (some ((-1))) := by
  obtain ⟨rfl, hw⟩ := hinv
  have e1 := (show _ = S 481 1 from (bx_up_ne (by omega)).trans ((bx_up_ne (by omega)))).symm.trans e1
  refine ⟨trivial, pe, wh, va, hw, Or.inl (⟨?_, ?_, fun j => (bx_up_ne (by omega)).trans ((bx_up_ne (by omega)).trans ((bx_up_ne (by omega))))⟩)⟩ <;> first | omega | exact hin2 | exact congrArg some (by omega) | (intro i i0 i1; simp only [bx_up]; (repeat' split) <;> first | rfl | omega | (simp_all; done) | (simp_all; omega)) | ((repeat (first | rw [bx_up_at] | rw [bx_up_ne (by omega)])); omega) | exact True.intro
theorem rxf226_0_11 {X : (Nat → Int → Int) → Prop} {S0 : Nat → Int → Int} {ws : List Int} (hP : rxP226 S0 ws) : bx_obE rxL X S0 rxC226.2.2.1 (rxI226 S0 ws) (rxPS226 S0 ws) 0 rxz226_0 rxe226_0_11 := by
  intro S S_p r r_p hinv hX hin hsm_ hseg
  obtain ⟨I0, I1, h0_, hr_, b_, f_, d_⟩ := bx_cl (evs := [(1, (0, 481), (0, 1), .inr (0, (12, 0))), (0, (0, 481), (0, 1), .inr (0, (11, 0))), (1, (0, 480), (0, 1), .inr (0, (0, (-1)))), (1, (0, 480), (0, 0), .inr (0, (0, 0)))]) (fvs := [(3, (9, 0), (0, 1), (0, 0)), (3, (9, 0), (0, 0), (0, 0))]) hseg (by decide +kernel) (by decide +kernel)
  have hinv : rxI226_0 S0 ws S (r 8) (r 9) (r 10) := hinv
  rw [← hr_ 8 (by decide), ← hr_ 9 (by decide), ← hr_ 10 (by decide)] at hinv
  obtain ⟨⟨l8, u8⟩, ⟨l9, u9⟩, ⟨l10, u10⟩, ⟨l11, u11⟩, ⟨l12, u12⟩, -⟩ := b_
  obtain ⟨f0, f1, -⟩ := f_
  obtain ⟨T0, ⟨e1, ⟨T2, ⟨T3, w_, w3⟩, w2⟩⟩, w0⟩ := d_
  subst w0
  subst w2
  subst w3
  subst w_
  have g := rxd226_0_11 hP hin hsm_ I0 I1 hinv l8 u8 l9 u9 l10 u10 l11 u11 l12 u12 f0 f1 e1
  refine ⟨bx_narP_ok (l := []) g.1, ?_⟩
  show rxPS226 S0 ws (bx_up (bx_up (bx_up T3 480 (0) (0)) 480 (1) ((-1))) 481 (1) (r_p 12)) (some (bx_num r_p (.inr (0, (0, (-1))))))
  rw [bx_xv_ok h0_]
  exact g.2
theorem rxgC226 {X : (Nat → Int → Int) → Prop} {S0 : Nat → Int → Int} {ws : List Int} (hP : rxP226 S0 ws) : bx_allI (fun i q => rxU226 q = true ∨ bx_allP (fun o => bx_obC rxL X S0 rxC226.2.2.1 (rxI226 S0 ws) (rxm226 S0 ws) i q.1 o) q.2.1) 0 rxY226 := ⟨Or.inr trivial, trivial⟩
theorem rxgE226 {X : (Nat → Int → Int) → Prop} {S0 : Nat → Int → Int} {ws : List Int} (hP : rxP226 S0 ws) : bx_allI (fun i q => rxU226 q = true ∨ bx_allP (fun E => bx_obE rxL X S0 rxC226.2.2.1 (rxI226 S0 ws) (rxPS226 S0 ws) i q.1 E) q.2.2) 0 rxY226 := ⟨Or.inr ⟨rxf226_0_0 hP, rxf226_0_1 hP, rxf226_0_2 hP, rxf226_0_3 hP, rxf226_0_4 hP, rxf226_0_5 hP, rxf226_0_6 hP, rxf226_0_7 hP, rxf226_0_8 hP, rxf226_0_9 hP, rxf226_0_10 hP, rxf226_0_11 hP, trivial⟩, trivial⟩
theorem rxQ226 {PX : State → Prop} {Dg : va_G} {A : Nat → Prop} {ad xa : Nat → Nat} {l : Launch} {X : (Nat → Int → Int) → Prop} (hPX : rx_PXOK rxNW A PX) (hsl : ∀ s : State, PX s → ∀ o idx n : Nat, rxSl o idx = some n → ∃ tx : String, vk_R (rxNm o) idx tx (ad n) s)
    (hX : ∀ S S_p : Nat → Int → Int, X S → bx_same rxL (bx_mdl rxC226.2.2.1) S S_p → X S_p)
    (ih : ∀ (j2 : Nat) (ct2 : bx_Ct) (M2 : rx_Mt), ct2 ∈ rxCnE j2 → ct2.2.2.2.1 + 1 ≤ rxC226.2.2.2.1 → rxT.2.2.2.2.2 j2 = some M2 → bx_Con rxG rxNW rxAO PX Dg rxL X vwCl A ad l M2 ct2) : bx_ConP rxG rxNW rxAO PX Dg rxL X vwCl A ad l rxM226 rxC226 rxP226 rxPS226 :=
  rxQof (xa := xa) (Cn := rxCnE) (f := 30000) (j := 226) (tab := rxY226) (us := rxU226) hPX hsl hX ih rfl rxYc226 rxI226 rxm226
    (fun S0 ws r I0 I ht0 ht as he he1 hX0 hI0 hP hs ha => by
      have e := he.symm.trans (show bx_ent0 rxNP rxC226.1 bx_I0 [] = some ([(0, 0), (0, 0), (0, 0), (0, 0), (0, 0), (0, 0), (0, 0), (0, 0), ((-2147483648), 2147483647), ((-2147483648), 2147483647), ((-2147483648), 2147483647)], [], [.inr (3, (0, 480)), .inr (0, (8, 0)), .inr (0, (9, 0)), .inr (0, (10, 0))]) from rfl)
      cases e
      subst ha
      have h0 : r 0 = 0 := hs.1
      show rxI226_0 S0 _ S0 (r 8) (r 9) (r 10)
      refine ⟨rfl, ?_⟩
      simp only [List.map_cons, List.map_nil, bx_xv_ok h0]
      rfl)
    (fun S0 ws hP => fun i q hq hus => absurd (show false = true from hus) Bool.false_ne_true) (fun S0 ws hP => rxgC226 hP) (fun S0 ws hP => rxgE226 hP)
set_option maxHeartbeats 1000000 in
theorem rzQ226 {PX : State → Prop} {Dg : va_G} {A : Nat → Prop} {ad : Nat → Nat} {l : Launch} (hPX : rx_PXOK rxNW A PX) (hsl : ∀ s : State, PX s → ∀ o idx n : Nat, rxSl o idx = some n → ∃ tx : String, vk_R (rxNm o) idx tx (ad n) s) : bx_ConP rxG rxNW rxAO PX Dg rxL rxX vwCl A ad l rxM226 rxC226 (fun _ _ => True) rxPS226 := by
  have q226 := rxQ226 (PX := PX) (Dg := Dg) (A := A) (ad := ad) (xa := fun n => n) (l := l) (X := rxX) hPX hsl (fun _ _ h hm => rxX_of (by decide +kernel) h hm) (fun _ _ _ h => absurd h List.not_mem_nil)
  exact fun S0 ws h1 h2 h3 _ => q226 S0 ws h1 h2 h3 trivial
