section
noncomputable def rxISDT_0 (S0 : Nat → Int → Int) (ws : List Int) (S : Nat → Int → Int) (on ot cu : Int) : Prop := S = S0 ∧ ws = [0, on, ot, cu]
noncomputable def rxmSDT_0 (S0 : Nat → Int → Int) (ws : List Int) (S : Nat → Int → Int) (on ot cu : Int) : Nat := 100
noncomputable def rxzSDT_0 : rx_Z := ([(0, 0), (0, 0), (0, 0), (0, 0), (0, 0), (0, 0), (0, 0), (0, 0), ((-2147483648), 2147483647), ((-2147483648), 2147483647), ((-2147483648), 2147483647)], [], [], 0, 0, 0, [(0, .inr (3, (0, 0))), (1, .inr (0, (8, 0))), (2, .inr (0, (9, 0))), (3, .inr (0, (10, 0)))], [])
noncomputable def rxISDT_1 (S0 : Nat → Int → Int) (ws : List Int) (S : Nat → Int → Int) (on ot cu po pt fl : Int) : Prop := S = S0 ∧ ws = [0, on, ot, cu] ∧ (0 ≤ on ∧ on < S0 1 5 ∧ 0 ≤ ot ∧ ot < S0 1 5 ∧ 0 ≤ cu ∧ cu ≤ 5) ∧ po = 41 + 3 * on ∧ pt = 41 + 3 * ot ∧ fl = (if on = ot then 1 else 0)
noncomputable def rxmSDT_1 (S0 : Nat → Int → Int) (ws : List Int) (S : Nat → Int → Int) (on ot cu po pt fl : Int) : Nat := 90
noncomputable def rxzSDT_1 : rx_Z := ([(0, 0), (0, 0), (0, 0), (0, 0), (0, 0), (0, 0), (0, 0), (0, 0), (0, 11), (0, 11), (0, 5), (0, 1522), (0, 1522), (0, 1)], [], [(((11, 0), 1000010), .inl none), (((12, 0), 1000010), .inl none)], 0, 0, 64, [(0, .inr (3, (0, 0))), (1, .inr (0, (8, 0))), (2, .inr (0, (9, 0))), (3, .inr (0, (10, 0)))], [.inr (0, (13, 0)), .inr (3, (12, 0)), .inr (3, (11, 0)), .inr (3, (0, 443))])
noncomputable def rxISDT_2 (S0 : Nat → Int → Int) (ws : List Int) (S : Nat → Int → Int) (on ot cu po pt fl : Int) : Prop := ws = [0, on, ot, cu] ∧ (0 ≤ on ∧ on < S0 1 5 ∧ 0 ≤ ot ∧ ot < S0 1 5 ∧ 0 ≤ cu ∧ cu ≤ 5) ∧ (∀ j : Int, 0 ≤ j → j < 36 → S 445 j = S0 (42 + 3 * on).toNat j ∧ S 446 j = S0 (43 + 3 * on).toNat j) ∧ (∀ j : Int, 0 ≤ j → j < 36 → S 448 j = S0 (42 + 3 * ot).toNat j ∧ S 449 j = S0 (43 + 3 * ot).toNat j) ∧ S 443 2 = (if on = ot then 1 else 0) ∧ (∀ (p : Nat) (j : Int), p ≠ 445 → p ≠ 446 → p ≠ 448 → p ≠ 449 → ¬ (p = 443 ∧ j = 2) → S p j = S0 p j)
noncomputable def rxmSDT_2 (S0 : Nat → Int → Int) (ws : List Int) (S : Nat → Int → Int) (on ot cu po pt fl : Int) : Nat := 80
noncomputable def rxzSDT_2 : rx_Z := ([(0, 0), (0, 0), (0, 0), (0, 0), (0, 0), (0, 0), (0, 0), (0, 0), (0, 11), (0, 11), (0, 5), (0, 1522), (0, 1522), (0, 1)], [], [(((11, 0), 1000010), .inl none), (((12, 0), 1000010), .inl none)], 0, 0, 67, [(0, .inr (3, (0, 0))), (1, .inr (0, (8, 0))), (2, .inr (0, (9, 0))), (3, .inr (0, (10, 0)))], [])
noncomputable def rxoSDT_0_0 : bx_HO := (([(0, 0), (0, 0), (0, 0), (0, 0), (0, 0), (0, 0), (0, 0), (0, 0), (0, 11), (0, 11), (0, 5), (1, 12), (0, 1522), (0, 1522)], [(2, (8, 0), (9, 0)), (0, (9, 0), (11, 0)), (0, (8, 0), (11, 0))], [(((0, 0), 1851192626986356797424367893248739914126558548369245150785568768000000), .inr (3, (13, 0))), (((13, 0), 1000010), .inl none), (((0, 0), 1851192626986356797424364830707437625680387377997778264871665664000000), .inr (3, (12, 0))), (((12, 0), 1000010), .inl none), (((0, 1), 9), .inr (3, (0, 12))), (((0, 0), 11), .inr (3, (0, 443))), (((0, 0), 1851192626986356798427873864310897359480125337295219445323071488000000), .inr (0, (11, 0))), (((0, 1), 5), .inr (0, (11, 0))), (((0, 0), 0), .inr (3, (0, 1)))], 0, 0, 64, [(0, .inr (3, (0, 0))), (1, .inr (0, (8, 0))), (2, .inr (0, (9, 0))), (3, .inr (0, (10, 0)))], [.inr (0, (0, 1)), .inr (3, (13, 0)), .inr (3, (12, 0)), .inr (3, (0, 443))]), [], [], [(0, 0), (0, 0), (0, 0), (0, 0), (0, 0), (0, 0), (0, 0), (0, 0), (8, 0), (9, 0), (10, 0), (12, 0), (13, 0), (0, 1)], 1)
noncomputable def rxoSDT_0_1 : bx_HO := (([(0, 0), (0, 0), (0, 0), (0, 0), (0, 0), (0, 0), (0, 0), (0, 0), (0, 11), (0, 11), (0, 5), (1, 12), (0, 1522), (0, 1522)], [(3, (8, 0), (9, 0)), (0, (9, 0), (11, 0)), (0, (8, 0), (11, 0))], [(((0, 0), 1851192626986356797424367893248739914126558548369245150785568768000000), .inr (3, (13, 0))), (((13, 0), 1000010), .inl none), (((0, 0), 1851192626986356797424364830707437625680387377997778264871665664000000), .inr (3, (12, 0))), (((12, 0), 1000010), .inl none), (((0, 1), 9), .inr (3, (0, 12))), (((0, 0), 11), .inr (3, (0, 443))), (((0, 0), 1851192626986356798427873864310897359480125337295219445323071488000000), .inr (0, (11, 0))), (((0, 1), 5), .inr (0, (11, 0))), (((0, 0), 0), .inr (3, (0, 1)))], 0, 0, 64, [(0, .inr (3, (0, 0))), (1, .inr (0, (8, 0))), (2, .inr (0, (9, 0))), (3, .inr (0, (10, 0)))], [.inr (0, (0, 0)), .inr (3, (13, 0)), .inr (3, (12, 0)), .inr (3, (0, 443))]), [], [], [(0, 0), (0, 0), (0, 0), (0, 0), (0, 0), (0, 0), (0, 0), (0, 0), (8, 0), (9, 0), (10, 0), (12, 0), (13, 0), (0, 0)], 1)
noncomputable def rxeSDT_0_0 : rx_End × List (Nat × Int × Int) := (([(0, 0), (0, 0), (0, 0), (0, 0), (0, 0), (0, 0), (0, 0), (0, 0), ((-2147483648), (-1)), ((-2147483648), 2147483647), ((-2147483648), 2147483647)], [], [(((0, 0), 0), .inr (3, (0, 1)))], some (.inr (0, (0, 0)))), [])
noncomputable def rxeSDT_0_1 : rx_End × List (Nat × Int × Int) := (([(0, 0), (0, 0), (0, 0), (0, 0), (0, 0), (0, 0), (0, 0), (0, 0), (0, 2147483647), ((-2147483648), 2147483647), ((-2147483648), 2147483647), (0, 12)], [(1, (11, 0), (8, 0))], [(((0, 0), 1851192626986356798427873864310897359480125337295219445323071488000000), .inr (0, (11, 0))), (((0, 1), 5), .inr (0, (11, 0))), (((0, 0), 0), .inr (3, (0, 1)))], some (.inr (0, (0, 0)))), [])
noncomputable def rxeSDT_0_2 : rx_End × List (Nat × Int × Int) := (([(0, 0), (0, 0), (0, 0), (0, 0), (0, 0), (0, 0), (0, 0), (0, 0), (0, 11), ((-2147483648), (-1)), ((-2147483648), 2147483647), (1, 12)], [(0, (8, 0), (11, 0))], [(((0, 0), 1851192626986356798427873864310897359480125337295219445323071488000000), .inr (0, (11, 0))), (((0, 1), 5), .inr (0, (11, 0))), (((0, 0), 0), .inr (3, (0, 1)))], some (.inr (0, (0, 0)))), [])
noncomputable def rxeSDT_0_3 : rx_End × List (Nat × Int × Int) := (([(0, 0), (0, 0), (0, 0), (0, 0), (0, 0), (0, 0), (0, 0), (0, 0), (0, 11), (1, 2147483647), ((-2147483648), 2147483647), (1, 12)], [(1, (11, 0), (9, 0)), (0, (8, 0), (11, 0))], [(((0, 0), 1851192626986356798427873864310897359480125337295219445323071488000000), .inr (0, (11, 0))), (((0, 1), 5), .inr (0, (11, 0))), (((0, 0), 0), .inr (3, (0, 1)))], some (.inr (0, (0, 0)))), [])
noncomputable def rxeSDT_0_4 : rx_End × List (Nat × Int × Int) := (([(0, 0), (0, 0), (0, 0), (0, 0), (0, 0), (0, 0), (0, 0), (0, 0), (0, 11), (0, 11), (6, 2147483647), (1, 12)], [(0, (9, 0), (11, 0)), (0, (8, 0), (11, 0))], [(((0, 0), 1851192626986356798427873864310897359480125337295219445323071488000000), .inr (0, (11, 0))), (((0, 1), 5), .inr (0, (11, 0))), (((0, 0), 0), .inr (3, (0, 1)))], some (.inr (0, (0, 0)))), [])
noncomputable def rxeSDT_0_5 : rx_End × List (Nat × Int × Int) := (([(0, 0), (0, 0), (0, 0), (0, 0), (0, 0), (0, 0), (0, 0), (0, 0), (0, 11), (0, 11), ((-2147483648), (-1)), (1, 12)], [(0, (9, 0), (11, 0)), (0, (8, 0), (11, 0))], [(((0, 0), 1851192626986356798427873864310897359480125337295219445323071488000000), .inr (0, (11, 0))), (((0, 1), 5), .inr (0, (11, 0))), (((0, 0), 0), .inr (3, (0, 1)))], some (.inr (0, (0, 0)))), [])
noncomputable def rxeSDT_2_0 : rx_End × List (Nat × Int × Int) := (([(0, 0), (0, 0), (0, 0), (0, 0), (0, 0), (0, 0), (0, 0), (0, 0), (0, 11), (0, 11), (0, 5), (0, 1522), (0, 1522), (0, 1)], [], [(((11, 0), 1000010), .inl none), (((12, 0), 1000010), .inl none)], some (.inr (0, (0, 1)))), [])
noncomputable def rxYSDT : List bx_HE := [(rxzSDT_0, [rxoSDT_0_0, rxoSDT_0_1], [rxeSDT_0_0, rxeSDT_0_1, rxeSDT_0_2, rxeSDT_0_3, rxeSDT_0_4, rxeSDT_0_5]), (rxzSDT_1, [], []), (rxzSDT_2, [], [rxeSDT_2_0])]
noncomputable def rxUSDT (q : bx_HE) : Bool := Nat.beq (rx_zpc q.1) 64
noncomputable def rxYBSDT : bx_B := (rxV, rxNP, rxDmf, bx_mdH rxC130.2.2.1)
set_option maxRecDepth 100000 in
theorem rxYcSDT : bx_chkH rxYBSDT rxM130 rxC130 rxYSDT (rxUSDT, fun cut z => rx_ex2 (rxCT rxYBSDT rxCnE) cut 30000 rxC130.2.2.2.1 130 z) = true := by decide +kernel
noncomputable def rxISDT (S0 : Nat → Int → Int) (ws : List Int) (i : Nat) : bx_SP := fun S r => match i with | 0 => rxISDT_0 S0 ws S (r 8) (r 9) (r 10) | 1 => rxISDT_1 S0 ws S (r 8) (r 9) (r 10) (r 11) (r 12) (r 13) | 2 => rxISDT_2 S0 ws S (r 8) (r 9) (r 10) (r 11) (r 12) (r 13) | _ => False
noncomputable def rxmSDT (S0 : Nat → Int → Int) (ws : List Int) (i : Nat) (S : Nat → Int → Int) (r : Nat → Int) : Nat := match i with | 0 => rxmSDT_0 S0 ws S (r 8) (r 9) (r 10) | 1 => rxmSDT_1 S0 ws S (r 8) (r 9) (r 10) (r 11) (r 12) (r 13) | 2 => rxmSDT_2 S0 ws S (r 8) (r 9) (r 10) (r 11) (r 12) (r 13) | _ => 0
noncomputable def rxPSDT (S0 : Nat → Int → Int) (ws : List Int) : Prop := rkPl S0 ∧ rkDu S0
noncomputable def rxPSSDT (S0 : Nat → Int → Int) (ws : List Int) (S : Nat → Int → Int) (w : Option Int) : Prop := ∃ on ot cu : Int, ws = [0, on, ot, cu] ∧ (((on < 0 ∨ S0 1 5 ≤ on ∨ ot < 0 ∨ S0 1 5 ≤ ot ∨ cu < 0 ∨ 5 < cu) ∧ w = some 0 ∧ S = S0) ∨ ((0 ≤ on ∧ on < S0 1 5 ∧ 0 ≤ ot ∧ ot < S0 1 5 ∧ 0 ≤ cu ∧ cu ≤ 5) ∧ w = some 1 ∧ (∀ j : Int, 0 ≤ j → j < 36 → S 445 j = S0 (42 + 3 * on).toNat j ∧ S 446 j = S0 (43 + 3 * on).toNat j) ∧ (∀ j : Int, 0 ≤ j → j < 36 → S 448 j = S0 (42 + 3 * ot).toNat j ∧ S 449 j = S0 (43 + 3 * ot).toNat j) ∧ S 443 2 = (if on = ot then 1 else 0) ∧ (∀ (p : Nat) (j : Int), p ≠ 445 → p ≠ 446 → p ≠ 448 → p ≠ 449 → ¬ (p = 443 ∧ j = 2) → S p j = S0 p j)))
theorem rxkSDT_1 {S0 : Nat → Int → Int} {ws : List Int} {S : Nat → Int → Int} {on ot cu po pt fl : Int} (hP : rxPSDT S0 ws) (hin : bx_same rxL (bx_mdl rxC130.2.2.1) S0 S) (I0 : bx_Inv rxL S) (hinv : rxISDT_1 S0 ws S on ot cu po pt fl) (l8 : 0 ≤ on) (u8 : on ≤ 11) (l9 : 0 ≤ ot) (u9 : ot ≤ 11) (l10 : 0 ≤ cu) (u10 : cu ≤ 5) (l11 : 0 ≤ po) (u11 : po ≤ 1522) (l12 : 0 ≤ pt) (u12 : pt ≤ 1522) (l13 : 0 ≤ fl) (u13 : fl ≤ 1) : rxPSEAT S [443, po, pt, fl] ∧ ∀ (S_p : Nat → Int → Int), rxPSSEAT S [443, po, pt, fl] S_p none → bx_Inv rxL S_p → bx_same rxL (bx_mdl rxCSEAT.2.2.1) S S_p → rxISDT_2 S0 ws S_p on ot cu po pt fl ∧ rxmSDT_2 S0 ws S_p on ot cu po pt fl < rxmSDT_1 S0 ws S on ot cu po pt fl := by
  obtain ⟨rfl, hw, hg, hpo, hpt, hfl⟩ := hinv
  refine ⟨⟨hP.1, hP.2, po, pt, fl, 6 + on, 6 + ot, rfl, by omega, by omega, ⟨by omega, by omega⟩, by omega, by omega⟩, fun S_p hq _ hsm => ⟨⟨hw, hg, ?_⟩, by unfold rxmSDT_1 rxmSDT_2; omega⟩⟩
  obtain ⟨-, o2, t2, f2, hw3, h5, h8, hal, hf⟩ := hq
  have k1 : po = o2 := Option.some.inj (congrArg (fun l : List Int => l[1]?) hw3)
  have k2 : pt = t2 := Option.some.inj (congrArg (fun l : List Int => l[2]?) hw3)
  have k3 : fl = f2 := Option.some.inj (congrArg (fun l : List Int => l[3]?) hw3)
  subst k1
  subst k2
  subst k3
  have g5 := h5 (6 + on) (by omega) (by omega)
  have g8 := h8 (6 + ot) (by omega) (by omega) (by omega)
  rw [show 24 + 3 * (6 + on) = 42 + 3 * on by omega, show 25 + 3 * (6 + on) = 43 + 3 * on by omega] at g5
  rw [show 24 + 3 * (6 + ot) = 42 + 3 * ot by omega, show 25 + 3 * (6 + ot) = 43 + 3 * ot by omega] at g8
  exact ⟨g5, g8, hal.trans hfl, hf⟩
theorem rxsSDT_1 {X : (Nat → Int → Int) → Prop} {S0 : Nat → Int → Int} {ws : List Int} (hP : rxPSDT S0 ws) : rx_obK X S0 rxC130.2.2.1 rxCSEAT.2.2.1 (rxISDT S0 ws) (rxmSDT S0 ws) 1 2 rxzSDT_1 rxzSDT_2 [.inr (3, (0, 443)), .inr (3, (11, 0)), .inr (3, (12, 0)), .inr (0, (13, 0))] none rxPSEAT rxPSSEAT := by
  intro S r hinv hXS I0 hin hs_ hf_
  have b_ := bx_bds_sat hs_
  have f_ := bx_fcl_ok hs_.1 hf_
  obtain ⟨⟨l8, u8⟩, ⟨l9, u9⟩, ⟨l10, u10⟩, ⟨l11, u11⟩, ⟨l12, u12⟩, ⟨l13, u13⟩, -⟩ := b_
  have g := rxkSDT_1 hP hin I0 hinv l8 u8 l9 u9 l10 u10 l11 u11 l12 u12 l13 u13
  have ea : List.map (bx_num r) [.inr (3, (0, 443)), .inr (3, (11, 0)), .inr (3, (12, 0)), .inr (0, (13, 0))] = [443, (r 11), (r 12), (r 13)] := by
    simp only [List.map_cons, List.map_nil, bx_xv_ok hs_.1]
    rfl
  rw [ea]
  refine ⟨g.1, fun S_p w r_p hPS hX_p I1 hsm hr hw hs_p => ?_⟩
  have hw : w = none := hPS.1
  subst hw
  have g2 := g.2 S_p hPS I1 hsm
  show rxISDT_2 S0 ws S_p (r_p 8) (r_p 9) (r_p 10) (r_p 11) (r_p 12) (r_p 13) ∧ rxmSDT_2 S0 ws S_p (r_p 8) (r_p 9) (r_p 10) (r_p 11) (r_p 12) (r_p 13) < _
  rw [hr 8 (by decide), hr 9 (by decide), hr 10 (by decide), hr 11 (by decide), hr 12 (by decide), hr 13 (by decide)]
  exact g2
theorem rxcSDT_0_0 {S0 : Nat → Int → Int} {ws : List Int} {S : Nat → Int → Int} {on ot cu x11 x12 x13 : Int} (hP : rxPSDT S0 ws) (hin : bx_same rxL (bx_mdl rxC130.2.2.1) S0 S) (I0 : bx_Inv rxL S) (hinv : rxISDT_0 S0 ws S on ot cu) (l8 : 0 ≤ on) (u8 : on ≤ 11) (l9 : 0 ≤ ot) (u9 : ot ≤ 11) (l10 : 0 ≤ cu) (u10 : cu ≤ 5) (l11 : 1 ≤ x11) (u11 : x11 ≤ 12) (l12 : 0 ≤ x12) (u12 : x12 ≤ 1522) (l13 : 0 ≤ x13) (u13 : x13 ≤ 1522) (f0 : on = ot) (f1 : ot < x11) (f2 : on < x11) (e2 : S 1 5 = x11) (e1 : S 12 on = x12) (e0 : S 12 ot = x13) : (True) ∧ (True) ∧ rxISDT_1 S0 ws S on ot cu x12 x13 1 ∧ rxmSDT_1 S0 ws S on ot cu x12 x13 1 < rxmSDT_0 S0 ws S on ot cu := by
  obtain ⟨rfl, hw⟩ := hinv
  have hq := hP.1.2.1.2
  obtain ⟨za, -⟩ := hq on.toNat (by omega)
  rw [Int.toNat_of_nonneg (show 0 ≤ on by omega)] at za
  obtain ⟨zb, -⟩ := hq ot.toNat (by omega)
  rw [Int.toNat_of_nonneg (show 0 ≤ ot by omega)] at zb
  exact ⟨trivial, trivial, ⟨rfl, hw, by omega, e1.symm.trans (za.trans (by omega)), e0.symm.trans (zb.trans (by omega)), by first | exact (if_pos (by omega)).symm | exact (if_neg (by omega)).symm⟩, by unfold rxmSDT_0 rxmSDT_1; omega⟩
theorem rxgSDT_0_0 {X : (Nat → Int → Int) → Prop} {S0 : Nat → Int → Int} {ws : List Int} (hP : rxPSDT S0 ws) : bx_obC rxL X S0 rxC130.2.2.1 (rxISDT S0 ws) (rxmSDT S0 ws) 0 rxzSDT_0 rxoSDT_0_0 := by
  intro S S_p r r_p hinv hX hin hsm_ hseg
  obtain ⟨I0, I1, h0_, hr_, b_, f_, d_⟩ := bx_cl (evs := [(0, (0, 12), (9, 0), .inr (3, (13, 0))), (0, (0, 12), (8, 0), .inr (3, (12, 0))), (0, (0, 1), (0, 5), .inr (0, (11, 0)))]) (fvs := [(2, (8, 0), (9, 0), (0, 0)), (0, (9, 0), (11, 0), (0, 0)), (0, (8, 0), (11, 0), (0, 0))]) hseg (by decide +kernel) (by decide +kernel)
  have hinv : rxISDT_0 S0 ws S (r 8) (r 9) (r 10) := hinv
  rw [← hr_ 8 (by decide), ← hr_ 9 (by decide), ← hr_ 10 (by decide)] at hinv
  obtain ⟨⟨l8, u8⟩, ⟨l9, u9⟩, ⟨l10, u10⟩, ⟨l11, u11⟩, ⟨l12, u12⟩, ⟨l13, u13⟩, -⟩ := b_
  obtain ⟨f0, f1, f2, -⟩ := f_
  obtain ⟨e0, ⟨e1, ⟨e2, w_⟩⟩⟩ := d_
  subst w_
  have g := rxcSDT_0_0 hP hin I0 hinv l8 u8 l9 u9 l10 u10 l11 u11 l12 u12 l13 u13 f0 f1 f2 e2 e1 e0
  refine ⟨bx_narP_ok (l := []) g.1, bx_nfP_ok h0_ (fvs := []) (by decide +kernel) g.2.1, ?_, ?_⟩
  · show rxISDT_1 S0 ws S_p (bx_val [(0, 0), (0, 0), (0, 0), (0, 0), (0, 0), (0, 0), (0, 0), (0, 0), (8, 0), (9, 0), (10, 0), (12, 0), (13, 0), (0, 1)] r_p 8) (bx_val [(0, 0), (0, 0), (0, 0), (0, 0), (0, 0), (0, 0), (0, 0), (0, 0), (8, 0), (9, 0), (10, 0), (12, 0), (13, 0), (0, 1)] r_p 9) (bx_val [(0, 0), (0, 0), (0, 0), (0, 0), (0, 0), (0, 0), (0, 0), (0, 0), (8, 0), (9, 0), (10, 0), (12, 0), (13, 0), (0, 1)] r_p 10) (bx_val [(0, 0), (0, 0), (0, 0), (0, 0), (0, 0), (0, 0), (0, 0), (0, 0), (8, 0), (9, 0), (10, 0), (12, 0), (13, 0), (0, 1)] r_p 11) (bx_val [(0, 0), (0, 0), (0, 0), (0, 0), (0, 0), (0, 0), (0, 0), (0, 0), (8, 0), (9, 0), (10, 0), (12, 0), (13, 0), (0, 1)] r_p 12) (bx_val [(0, 0), (0, 0), (0, 0), (0, 0), (0, 0), (0, 0), (0, 0), (0, 0), (8, 0), (9, 0), (10, 0), (12, 0), (13, 0), (0, 1)] r_p 13)
    rw [bx_val_x (n := 8) (e := (8, 0)) h0_ rfl, bx_val_x (n := 9) (e := (9, 0)) h0_ rfl, bx_val_x (n := 10) (e := (10, 0)) h0_ rfl, bx_val_x (n := 11) (e := (12, 0)) h0_ rfl, bx_val_x (n := 12) (e := (13, 0)) h0_ rfl, bx_val_x (n := 13) (e := (0, 1)) h0_ rfl]
    exact g.2.2.1
  · show rxmSDT_1 S0 ws S_p (bx_val [(0, 0), (0, 0), (0, 0), (0, 0), (0, 0), (0, 0), (0, 0), (0, 0), (8, 0), (9, 0), (10, 0), (12, 0), (13, 0), (0, 1)] r_p 8) (bx_val [(0, 0), (0, 0), (0, 0), (0, 0), (0, 0), (0, 0), (0, 0), (0, 0), (8, 0), (9, 0), (10, 0), (12, 0), (13, 0), (0, 1)] r_p 9) (bx_val [(0, 0), (0, 0), (0, 0), (0, 0), (0, 0), (0, 0), (0, 0), (0, 0), (8, 0), (9, 0), (10, 0), (12, 0), (13, 0), (0, 1)] r_p 10) (bx_val [(0, 0), (0, 0), (0, 0), (0, 0), (0, 0), (0, 0), (0, 0), (0, 0), (8, 0), (9, 0), (10, 0), (12, 0), (13, 0), (0, 1)] r_p 11) (bx_val [(0, 0), (0, 0), (0, 0), (0, 0), (0, 0), (0, 0), (0, 0), (0, 0), (8, 0), (9, 0), (10, 0), (12, 0), (13, 0), (0, 1)] r_p 12) (bx_val [(0, 0), (0, 0), (0, 0), (0, 0), (0, 0), (0, 0), (0, 0), (0, 0), (8, 0), (9, 0), (10, 0), (12, 0), (13, 0), (0, 1)] r_p 13) < rxmSDT_0 S0 ws S_p (r 8) (r 9) (r 10)
    rw [bx_val_x (n := 8) (e := (8, 0)) h0_ rfl, bx_val_x (n := 9) (e := (9, 0)) h0_ rfl, bx_val_x (n := 10) (e := (10, 0)) h0_ rfl, bx_val_x (n := 11) (e := (12, 0)) h0_ rfl, bx_val_x (n := 12) (e := (13, 0)) h0_ rfl, bx_val_x (n := 13) (e := (0, 1)) h0_ rfl, ← hr_ 8 (by decide), ← hr_ 9 (by decide), ← hr_ 10 (by decide)]
    exact g.2.2.2
theorem rxcSDT_0_1 {S0 : Nat → Int → Int} {ws : List Int} {S : Nat → Int → Int} {on ot cu x11 x12 x13 : Int} (hP : rxPSDT S0 ws) (hin : bx_same rxL (bx_mdl rxC130.2.2.1) S0 S) (I0 : bx_Inv rxL S) (hinv : rxISDT_0 S0 ws S on ot cu) (l8 : 0 ≤ on) (u8 : on ≤ 11) (l9 : 0 ≤ ot) (u9 : ot ≤ 11) (l10 : 0 ≤ cu) (u10 : cu ≤ 5) (l11 : 1 ≤ x11) (u11 : x11 ≤ 12) (l12 : 0 ≤ x12) (u12 : x12 ≤ 1522) (l13 : 0 ≤ x13) (u13 : x13 ≤ 1522) (f0 : on ≠ ot) (f1 : ot < x11) (f2 : on < x11) (e2 : S 1 5 = x11) (e1 : S 12 on = x12) (e0 : S 12 ot = x13) : (True) ∧ (True) ∧ rxISDT_1 S0 ws S on ot cu x12 x13 0 ∧ rxmSDT_1 S0 ws S on ot cu x12 x13 0 < rxmSDT_0 S0 ws S on ot cu := by
  obtain ⟨rfl, hw⟩ := hinv
  have hq := hP.1.2.1.2
  obtain ⟨za, -⟩ := hq on.toNat (by omega)
  rw [Int.toNat_of_nonneg (show 0 ≤ on by omega)] at za
  obtain ⟨zb, -⟩ := hq ot.toNat (by omega)
  rw [Int.toNat_of_nonneg (show 0 ≤ ot by omega)] at zb
  exact ⟨trivial, trivial, ⟨rfl, hw, by omega, e1.symm.trans (za.trans (by omega)), e0.symm.trans (zb.trans (by omega)), by first | exact (if_pos (by omega)).symm | exact (if_neg (by omega)).symm⟩, by unfold rxmSDT_0 rxmSDT_1; omega⟩
theorem rxgSDT_0_1 {X : (Nat → Int → Int) → Prop} {S0 : Nat → Int → Int} {ws : List Int} (hP : rxPSDT S0 ws) : bx_obC rxL X S0 rxC130.2.2.1 (rxISDT S0 ws) (rxmSDT S0 ws) 0 rxzSDT_0 rxoSDT_0_1 := by
  intro S S_p r r_p hinv hX hin hsm_ hseg
  obtain ⟨I0, I1, h0_, hr_, b_, f_, d_⟩ := bx_cl (evs := [(0, (0, 12), (9, 0), .inr (3, (13, 0))), (0, (0, 12), (8, 0), .inr (3, (12, 0))), (0, (0, 1), (0, 5), .inr (0, (11, 0)))]) (fvs := [(3, (8, 0), (9, 0), (0, 0)), (0, (9, 0), (11, 0), (0, 0)), (0, (8, 0), (11, 0), (0, 0))]) hseg (by decide +kernel) (by decide +kernel)
  have hinv : rxISDT_0 S0 ws S (r 8) (r 9) (r 10) := hinv
  rw [← hr_ 8 (by decide), ← hr_ 9 (by decide), ← hr_ 10 (by decide)] at hinv
  obtain ⟨⟨l8, u8⟩, ⟨l9, u9⟩, ⟨l10, u10⟩, ⟨l11, u11⟩, ⟨l12, u12⟩, ⟨l13, u13⟩, -⟩ := b_
  obtain ⟨f0, f1, f2, -⟩ := f_
  obtain ⟨e0, ⟨e1, ⟨e2, w_⟩⟩⟩ := d_
  subst w_
  have g := rxcSDT_0_1 hP hin I0 hinv l8 u8 l9 u9 l10 u10 l11 u11 l12 u12 l13 u13 f0 f1 f2 e2 e1 e0
  refine ⟨bx_narP_ok (l := []) g.1, bx_nfP_ok h0_ (fvs := []) (by decide +kernel) g.2.1, ?_, ?_⟩
  · show rxISDT_1 S0 ws S_p (bx_val [(0, 0), (0, 0), (0, 0), (0, 0), (0, 0), (0, 0), (0, 0), (0, 0), (8, 0), (9, 0), (10, 0), (12, 0), (13, 0), (0, 0)] r_p 8) (bx_val [(0, 0), (0, 0), (0, 0), (0, 0), (0, 0), (0, 0), (0, 0), (0, 0), (8, 0), (9, 0), (10, 0), (12, 0), (13, 0), (0, 0)] r_p 9) (bx_val [(0, 0), (0, 0), (0, 0), (0, 0), (0, 0), (0, 0), (0, 0), (0, 0), (8, 0), (9, 0), (10, 0), (12, 0), (13, 0), (0, 0)] r_p 10) (bx_val [(0, 0), (0, 0), (0, 0), (0, 0), (0, 0), (0, 0), (0, 0), (0, 0), (8, 0), (9, 0), (10, 0), (12, 0), (13, 0), (0, 0)] r_p 11) (bx_val [(0, 0), (0, 0), (0, 0), (0, 0), (0, 0), (0, 0), (0, 0), (0, 0), (8, 0), (9, 0), (10, 0), (12, 0), (13, 0), (0, 0)] r_p 12) (bx_val [(0, 0), (0, 0), (0, 0), (0, 0), (0, 0), (0, 0), (0, 0), (0, 0), (8, 0), (9, 0), (10, 0), (12, 0), (13, 0), (0, 0)] r_p 13)
    rw [bx_val_x (n := 8) (e := (8, 0)) h0_ rfl, bx_val_x (n := 9) (e := (9, 0)) h0_ rfl, bx_val_x (n := 10) (e := (10, 0)) h0_ rfl, bx_val_x (n := 11) (e := (12, 0)) h0_ rfl, bx_val_x (n := 12) (e := (13, 0)) h0_ rfl, bx_val_x (n := 13) (e := (0, 0)) h0_ rfl]
    exact g.2.2.1
  · show rxmSDT_1 S0 ws S_p (bx_val [(0, 0), (0, 0), (0, 0), (0, 0), (0, 0), (0, 0), (0, 0), (0, 0), (8, 0), (9, 0), (10, 0), (12, 0), (13, 0), (0, 0)] r_p 8) (bx_val [(0, 0), (0, 0), (0, 0), (0, 0), (0, 0), (0, 0), (0, 0), (0, 0), (8, 0), (9, 0), (10, 0), (12, 0), (13, 0), (0, 0)] r_p 9) (bx_val [(0, 0), (0, 0), (0, 0), (0, 0), (0, 0), (0, 0), (0, 0), (0, 0), (8, 0), (9, 0), (10, 0), (12, 0), (13, 0), (0, 0)] r_p 10) (bx_val [(0, 0), (0, 0), (0, 0), (0, 0), (0, 0), (0, 0), (0, 0), (0, 0), (8, 0), (9, 0), (10, 0), (12, 0), (13, 0), (0, 0)] r_p 11) (bx_val [(0, 0), (0, 0), (0, 0), (0, 0), (0, 0), (0, 0), (0, 0), (0, 0), (8, 0), (9, 0), (10, 0), (12, 0), (13, 0), (0, 0)] r_p 12) (bx_val [(0, 0), (0, 0), (0, 0), (0, 0), (0, 0), (0, 0), (0, 0), (0, 0), (8, 0), (9, 0), (10, 0), (12, 0), (13, 0), (0, 0)] r_p 13) < rxmSDT_0 S0 ws S_p (r 8) (r 9) (r 10)
    rw [bx_val_x (n := 8) (e := (8, 0)) h0_ rfl, bx_val_x (n := 9) (e := (9, 0)) h0_ rfl, bx_val_x (n := 10) (e := (10, 0)) h0_ rfl, bx_val_x (n := 11) (e := (12, 0)) h0_ rfl, bx_val_x (n := 12) (e := (13, 0)) h0_ rfl, bx_val_x (n := 13) (e := (0, 0)) h0_ rfl, ← hr_ 8 (by decide), ← hr_ 9 (by decide), ← hr_ 10 (by decide)]
    exact g.2.2.2
theorem rxdSDT_0_0 {S0 : Nat → Int → Int} {ws : List Int} {S : Nat → Int → Int} {on ot cu : Int} (hP : rxPSDT S0 ws) (hin : bx_same rxL (bx_mdl rxC130.2.2.1) S0 S) (hin2 : bx_same rxL (bx_mdl rxC130.2.2.1) S S) (I0 : bx_Inv rxL S) (I1 : bx_Inv rxL S) (hinv : rxISDT_0 S0 ws S on ot cu) (l8 : (-2147483648) ≤ on) (u8 : on ≤ (-1)) (l9 : (-2147483648) ≤ ot) (u9 : ot ≤ 2147483647) (l10 : (-2147483648) ≤ cu) (u10 : cu ≤ 2147483647) : (True) ∧ rxPSSDT S0 ws S (some 0) := by
  obtain ⟨rfl, hw⟩ := hinv
  exact ⟨trivial, on, ot, cu, hw, Or.inl ⟨by omega, rfl, rfl⟩⟩
theorem rxfSDT_0_0 {X : (Nat → Int → Int) → Prop} {S0 : Nat → Int → Int} {ws : List Int} (hP : rxPSDT S0 ws) : bx_obE rxL X S0 rxC130.2.2.1 (rxISDT S0 ws) (rxPSSDT S0 ws) 0 rxzSDT_0 rxeSDT_0_0 := by
  intro S S_p r r_p hinv hX hin hsm_ hseg
  obtain ⟨I0, I1, h0_, hr_, b_, f_, d_⟩ := bx_cl (evs := []) (fvs := []) hseg (by decide +kernel) (by decide +kernel)
  have hinv : rxISDT_0 S0 ws S (r 8) (r 9) (r 10) := hinv
  rw [← hr_ 8 (by decide), ← hr_ 9 (by decide), ← hr_ 10 (by decide)] at hinv
  obtain ⟨⟨l8, u8⟩, ⟨l9, u9⟩, ⟨l10, u10⟩, -⟩ := b_
  have w_ := d_
  subst w_
  have g := rxdSDT_0_0 hP hin hsm_ I0 I1 hinv l8 u8 l9 u9 l10 u10
  refine ⟨bx_narP_ok (l := []) g.1, ?_⟩
  show rxPSSDT S0 ws S_p (some (bx_num r_p (.inr (0, (0, 0)))))
  rw [bx_xv_ok h0_]
  exact g.2
theorem rxdSDT_0_1 {S0 : Nat → Int → Int} {ws : List Int} {S : Nat → Int → Int} {on ot cu x11 : Int} (hP : rxPSDT S0 ws) (hin : bx_same rxL (bx_mdl rxC130.2.2.1) S0 S) (hin2 : bx_same rxL (bx_mdl rxC130.2.2.1) S S) (I0 : bx_Inv rxL S) (I1 : bx_Inv rxL S) (hinv : rxISDT_0 S0 ws S on ot cu) (l8 : 0 ≤ on) (u8 : on ≤ 2147483647) (l9 : (-2147483648) ≤ ot) (u9 : ot ≤ 2147483647) (l10 : (-2147483648) ≤ cu) (u10 : cu ≤ 2147483647) (l11 : 0 ≤ x11) (u11 : x11 ≤ 12) (f0 : x11 ≤ on) (e0 : S 1 5 = x11) : (True) ∧ rxPSSDT S0 ws S (some 0) := by
  obtain ⟨rfl, hw⟩ := hinv
  exact ⟨trivial, on, ot, cu, hw, Or.inl ⟨by omega, rfl, rfl⟩⟩
theorem rxfSDT_0_1 {X : (Nat → Int → Int) → Prop} {S0 : Nat → Int → Int} {ws : List Int} (hP : rxPSDT S0 ws) : bx_obE rxL X S0 rxC130.2.2.1 (rxISDT S0 ws) (rxPSSDT S0 ws) 0 rxzSDT_0 rxeSDT_0_1 := by
  intro S S_p r r_p hinv hX hin hsm_ hseg
  obtain ⟨I0, I1, h0_, hr_, b_, f_, d_⟩ := bx_cl (evs := [(0, (0, 1), (0, 5), .inr (0, (11, 0)))]) (fvs := [(1, (11, 0), (8, 0), (0, 0))]) hseg (by decide +kernel) (by decide +kernel)
  have hinv : rxISDT_0 S0 ws S (r 8) (r 9) (r 10) := hinv
  rw [← hr_ 8 (by decide), ← hr_ 9 (by decide), ← hr_ 10 (by decide)] at hinv
  obtain ⟨⟨l8, u8⟩, ⟨l9, u9⟩, ⟨l10, u10⟩, ⟨l11, u11⟩, -⟩ := b_
  obtain ⟨f0, -⟩ := f_
  obtain ⟨e0, w_⟩ := d_
  subst w_
  have g := rxdSDT_0_1 hP hin hsm_ I0 I1 hinv l8 u8 l9 u9 l10 u10 l11 u11 f0 e0
  refine ⟨bx_narP_ok (l := []) g.1, ?_⟩
  show rxPSSDT S0 ws S_p (some (bx_num r_p (.inr (0, (0, 0)))))
  rw [bx_xv_ok h0_]
  exact g.2
theorem rxdSDT_0_2 {S0 : Nat → Int → Int} {ws : List Int} {S : Nat → Int → Int} {on ot cu x11 : Int} (hP : rxPSDT S0 ws) (hin : bx_same rxL (bx_mdl rxC130.2.2.1) S0 S) (hin2 : bx_same rxL (bx_mdl rxC130.2.2.1) S S) (I0 : bx_Inv rxL S) (I1 : bx_Inv rxL S) (hinv : rxISDT_0 S0 ws S on ot cu) (l8 : 0 ≤ on) (u8 : on ≤ 11) (l9 : (-2147483648) ≤ ot) (u9 : ot ≤ (-1)) (l10 : (-2147483648) ≤ cu) (u10 : cu ≤ 2147483647) (l11 : 1 ≤ x11) (u11 : x11 ≤ 12) (f0 : on < x11) (e0 : S 1 5 = x11) : (True) ∧ rxPSSDT S0 ws S (some 0) := by
  obtain ⟨rfl, hw⟩ := hinv
  exact ⟨trivial, on, ot, cu, hw, Or.inl ⟨by omega, rfl, rfl⟩⟩
theorem rxfSDT_0_2 {X : (Nat → Int → Int) → Prop} {S0 : Nat → Int → Int} {ws : List Int} (hP : rxPSDT S0 ws) : bx_obE rxL X S0 rxC130.2.2.1 (rxISDT S0 ws) (rxPSSDT S0 ws) 0 rxzSDT_0 rxeSDT_0_2 := by
  intro S S_p r r_p hinv hX hin hsm_ hseg
  obtain ⟨I0, I1, h0_, hr_, b_, f_, d_⟩ := bx_cl (evs := [(0, (0, 1), (0, 5), .inr (0, (11, 0)))]) (fvs := [(0, (8, 0), (11, 0), (0, 0))]) hseg (by decide +kernel) (by decide +kernel)
  have hinv : rxISDT_0 S0 ws S (r 8) (r 9) (r 10) := hinv
  rw [← hr_ 8 (by decide), ← hr_ 9 (by decide), ← hr_ 10 (by decide)] at hinv
  obtain ⟨⟨l8, u8⟩, ⟨l9, u9⟩, ⟨l10, u10⟩, ⟨l11, u11⟩, -⟩ := b_
  obtain ⟨f0, -⟩ := f_
  obtain ⟨e0, w_⟩ := d_
  subst w_
  have g := rxdSDT_0_2 hP hin hsm_ I0 I1 hinv l8 u8 l9 u9 l10 u10 l11 u11 f0 e0
  refine ⟨bx_narP_ok (l := []) g.1, ?_⟩
  show rxPSSDT S0 ws S_p (some (bx_num r_p (.inr (0, (0, 0)))))
  rw [bx_xv_ok h0_]
  exact g.2
theorem rxdSDT_0_3 {S0 : Nat → Int → Int} {ws : List Int} {S : Nat → Int → Int} {on ot cu x11 : Int} (hP : rxPSDT S0 ws) (hin : bx_same rxL (bx_mdl rxC130.2.2.1) S0 S) (hin2 : bx_same rxL (bx_mdl rxC130.2.2.1) S S) (I0 : bx_Inv rxL S) (I1 : bx_Inv rxL S) (hinv : rxISDT_0 S0 ws S on ot cu) (l8 : 0 ≤ on) (u8 : on ≤ 11) (l9 : 1 ≤ ot) (u9 : ot ≤ 2147483647) (l10 : (-2147483648) ≤ cu) (u10 : cu ≤ 2147483647) (l11 : 1 ≤ x11) (u11 : x11 ≤ 12) (f0 : x11 ≤ ot) (f1 : on < x11) (e0 : S 1 5 = x11) : (True) ∧ rxPSSDT S0 ws S (some 0) := by
  obtain ⟨rfl, hw⟩ := hinv
  exact ⟨trivial, on, ot, cu, hw, Or.inl ⟨by omega, rfl, rfl⟩⟩
theorem rxfSDT_0_3 {X : (Nat → Int → Int) → Prop} {S0 : Nat → Int → Int} {ws : List Int} (hP : rxPSDT S0 ws) : bx_obE rxL X S0 rxC130.2.2.1 (rxISDT S0 ws) (rxPSSDT S0 ws) 0 rxzSDT_0 rxeSDT_0_3 := by
  intro S S_p r r_p hinv hX hin hsm_ hseg
  obtain ⟨I0, I1, h0_, hr_, b_, f_, d_⟩ := bx_cl (evs := [(0, (0, 1), (0, 5), .inr (0, (11, 0)))]) (fvs := [(1, (11, 0), (9, 0), (0, 0)), (0, (8, 0), (11, 0), (0, 0))]) hseg (by decide +kernel) (by decide +kernel)
  have hinv : rxISDT_0 S0 ws S (r 8) (r 9) (r 10) := hinv
  rw [← hr_ 8 (by decide), ← hr_ 9 (by decide), ← hr_ 10 (by decide)] at hinv
  obtain ⟨⟨l8, u8⟩, ⟨l9, u9⟩, ⟨l10, u10⟩, ⟨l11, u11⟩, -⟩ := b_
  obtain ⟨f0, f1, -⟩ := f_
  obtain ⟨e0, w_⟩ := d_
  subst w_
  have g := rxdSDT_0_3 hP hin hsm_ I0 I1 hinv l8 u8 l9 u9 l10 u10 l11 u11 f0 f1 e0
  refine ⟨bx_narP_ok (l := []) g.1, ?_⟩
  show rxPSSDT S0 ws S_p (some (bx_num r_p (.inr (0, (0, 0)))))
  rw [bx_xv_ok h0_]
  exact g.2
theorem rxdSDT_0_4 {S0 : Nat → Int → Int} {ws : List Int} {S : Nat → Int → Int} {on ot cu x11 : Int} (hP : rxPSDT S0 ws) (hin : bx_same rxL (bx_mdl rxC130.2.2.1) S0 S) (hin2 : bx_same rxL (bx_mdl rxC130.2.2.1) S S) (I0 : bx_Inv rxL S) (I1 : bx_Inv rxL S) (hinv : rxISDT_0 S0 ws S on ot cu) (l8 : 0 ≤ on) (u8 : on ≤ 11) (l9 : 0 ≤ ot) (u9 : ot ≤ 11) (l10 : 6 ≤ cu) (u10 : cu ≤ 2147483647) (l11 : 1 ≤ x11) (u11 : x11 ≤ 12) (f0 : ot < x11) (f1 : on < x11) (e0 : S 1 5 = x11) : (True) ∧ rxPSSDT S0 ws S (some 0) := by
  obtain ⟨rfl, hw⟩ := hinv
  exact ⟨trivial, on, ot, cu, hw, Or.inl ⟨by omega, rfl, rfl⟩⟩
theorem rxfSDT_0_4 {X : (Nat → Int → Int) → Prop} {S0 : Nat → Int → Int} {ws : List Int} (hP : rxPSDT S0 ws) : bx_obE rxL X S0 rxC130.2.2.1 (rxISDT S0 ws) (rxPSSDT S0 ws) 0 rxzSDT_0 rxeSDT_0_4 := by
  intro S S_p r r_p hinv hX hin hsm_ hseg
  obtain ⟨I0, I1, h0_, hr_, b_, f_, d_⟩ := bx_cl (evs := [(0, (0, 1), (0, 5), .inr (0, (11, 0)))]) (fvs := [(0, (9, 0), (11, 0), (0, 0)), (0, (8, 0), (11, 0), (0, 0))]) hseg (by decide +kernel) (by decide +kernel)
  have hinv : rxISDT_0 S0 ws S (r 8) (r 9) (r 10) := hinv
  rw [← hr_ 8 (by decide), ← hr_ 9 (by decide), ← hr_ 10 (by decide)] at hinv
  obtain ⟨⟨l8, u8⟩, ⟨l9, u9⟩, ⟨l10, u10⟩, ⟨l11, u11⟩, -⟩ := b_
  obtain ⟨f0, f1, -⟩ := f_
  obtain ⟨e0, w_⟩ := d_
  subst w_
  have g := rxdSDT_0_4 hP hin hsm_ I0 I1 hinv l8 u8 l9 u9 l10 u10 l11 u11 f0 f1 e0
  refine ⟨bx_narP_ok (l := []) g.1, ?_⟩
  show rxPSSDT S0 ws S_p (some (bx_num r_p (.inr (0, (0, 0)))))
  rw [bx_xv_ok h0_]
  exact g.2
theorem rxdSDT_0_5 {S0 : Nat → Int → Int} {ws : List Int} {S : Nat → Int → Int} {on ot cu x11 : Int} (hP : rxPSDT S0 ws) (hin : bx_same rxL (bx_mdl rxC130.2.2.1) S0 S) (hin2 : bx_same rxL (bx_mdl rxC130.2.2.1) S S) (I0 : bx_Inv rxL S) (I1 : bx_Inv rxL S) (hinv : rxISDT_0 S0 ws S on ot cu) (l8 : 0 ≤ on) (u8 : on ≤ 11) (l9 : 0 ≤ ot) (u9 : ot ≤ 11) (l10 : (-2147483648) ≤ cu) (u10 : cu ≤ (-1)) (l11 : 1 ≤ x11) (u11 : x11 ≤ 12) (f0 : ot < x11) (f1 : on < x11) (e0 : S 1 5 = x11) : (True) ∧ rxPSSDT S0 ws S (some 0) := by
  obtain ⟨rfl, hw⟩ := hinv
  exact ⟨trivial, on, ot, cu, hw, Or.inl ⟨by omega, rfl, rfl⟩⟩
theorem rxfSDT_0_5 {X : (Nat → Int → Int) → Prop} {S0 : Nat → Int → Int} {ws : List Int} (hP : rxPSDT S0 ws) : bx_obE rxL X S0 rxC130.2.2.1 (rxISDT S0 ws) (rxPSSDT S0 ws) 0 rxzSDT_0 rxeSDT_0_5 := by
  intro S S_p r r_p hinv hX hin hsm_ hseg
  obtain ⟨I0, I1, h0_, hr_, b_, f_, d_⟩ := bx_cl (evs := [(0, (0, 1), (0, 5), .inr (0, (11, 0)))]) (fvs := [(0, (9, 0), (11, 0), (0, 0)), (0, (8, 0), (11, 0), (0, 0))]) hseg (by decide +kernel) (by decide +kernel)
  have hinv : rxISDT_0 S0 ws S (r 8) (r 9) (r 10) := hinv
  rw [← hr_ 8 (by decide), ← hr_ 9 (by decide), ← hr_ 10 (by decide)] at hinv
  obtain ⟨⟨l8, u8⟩, ⟨l9, u9⟩, ⟨l10, u10⟩, ⟨l11, u11⟩, -⟩ := b_
  obtain ⟨f0, f1, -⟩ := f_
  obtain ⟨e0, w_⟩ := d_
  subst w_
  have g := rxdSDT_0_5 hP hin hsm_ I0 I1 hinv l8 u8 l9 u9 l10 u10 l11 u11 f0 f1 e0
  refine ⟨bx_narP_ok (l := []) g.1, ?_⟩
  show rxPSSDT S0 ws S_p (some (bx_num r_p (.inr (0, (0, 0)))))
  rw [bx_xv_ok h0_]
  exact g.2
theorem rxdSDT_2_0 {S0 : Nat → Int → Int} {ws : List Int} {S : Nat → Int → Int} {on ot cu po pt fl : Int} (hP : rxPSDT S0 ws) (hin : bx_same rxL (bx_mdl rxC130.2.2.1) S0 S) (hin2 : bx_same rxL (bx_mdl rxC130.2.2.1) S S) (I0 : bx_Inv rxL S) (I1 : bx_Inv rxL S) (hinv : rxISDT_2 S0 ws S on ot cu po pt fl) (l8 : 0 ≤ on) (u8 : on ≤ 11) (l9 : 0 ≤ ot) (u9 : ot ≤ 11) (l10 : 0 ≤ cu) (u10 : cu ≤ 5) (l11 : 0 ≤ po) (u11 : po ≤ 1522) (l12 : 0 ≤ pt) (u12 : pt ≤ 1522) (l13 : 0 ≤ fl) (u13 : fl ≤ 1) : (True) ∧ rxPSSDT S0 ws S (some 1) := by
  obtain ⟨hw, hg, h⟩ := hinv
  exact ⟨trivial, on, ot, cu, hw, Or.inr ⟨hg, rfl, h⟩⟩
theorem rxfSDT_2_0 {X : (Nat → Int → Int) → Prop} {S0 : Nat → Int → Int} {ws : List Int} (hP : rxPSDT S0 ws) : bx_obE rxL X S0 rxC130.2.2.1 (rxISDT S0 ws) (rxPSSDT S0 ws) 2 rxzSDT_2 rxeSDT_2_0 := by
  intro S S_p r r_p hinv hX hin hsm_ hseg
  obtain ⟨I0, I1, h0_, hr_, b_, f_, d_⟩ := bx_cl (evs := []) (fvs := []) hseg (by decide +kernel) (by decide +kernel)
  have hinv : rxISDT_2 S0 ws S (r 8) (r 9) (r 10) (r 11) (r 12) (r 13) := hinv
  rw [← hr_ 8 (by decide), ← hr_ 9 (by decide), ← hr_ 10 (by decide), ← hr_ 11 (by decide), ← hr_ 12 (by decide), ← hr_ 13 (by decide)] at hinv
  obtain ⟨⟨l8, u8⟩, ⟨l9, u9⟩, ⟨l10, u10⟩, ⟨l11, u11⟩, ⟨l12, u12⟩, ⟨l13, u13⟩, -⟩ := b_
  have w_ := d_
  subst w_
  have g := rxdSDT_2_0 hP hin hsm_ I0 I1 hinv l8 u8 l9 u9 l10 u10 l11 u11 l12 u12 l13 u13
  refine ⟨bx_narP_ok (l := []) g.1, ?_⟩
  show rxPSSDT S0 ws S_p (some (bx_num r_p (.inr (0, (0, 1)))))
  rw [bx_xv_ok h0_]
  exact g.2
theorem rxgCSDT {X : (Nat → Int → Int) → Prop} {S0 : Nat → Int → Int} {ws : List Int} (hP : rxPSDT S0 ws) : bx_allI (fun i q => rxUSDT q = true ∨ bx_allP (fun o => bx_obC rxL X S0 rxC130.2.2.1 (rxISDT S0 ws) (rxmSDT S0 ws) i q.1 o) q.2.1) 0 rxYSDT := ⟨Or.inr ⟨rxgSDT_0_0 hP, rxgSDT_0_1 hP, trivial⟩, Or.inl rfl, Or.inr trivial, trivial⟩
theorem rxgESDT {X : (Nat → Int → Int) → Prop} {S0 : Nat → Int → Int} {ws : List Int} (hP : rxPSDT S0 ws) : bx_allI (fun i q => rxUSDT q = true ∨ bx_allP (fun E => bx_obE rxL X S0 rxC130.2.2.1 (rxISDT S0 ws) (rxPSSDT S0 ws) i q.1 E) q.2.2) 0 rxYSDT := ⟨Or.inr ⟨rxfSDT_0_0 hP, rxfSDT_0_1 hP, rxfSDT_0_2 hP, rxfSDT_0_3 hP, rxfSDT_0_4 hP, rxfSDT_0_5 hP, trivial⟩, Or.inl rfl, Or.inr ⟨rxfSDT_2_0 hP, trivial⟩, trivial⟩
theorem rxuSDT {PX : State → Prop} {Dg : va_G} {A : Nat → Prop} {ad xa : Nat → Nat} {l : Launch} {X : (Nat → Int → Int) → Prop} (hPX : rx_PXOK rxNW A PX) (hX : ∀ S S1 : Nat → Int → Int, X S → bx_same rxL (bx_mdl rxC130.2.2.1) S S1 → X S1) (hQSEAT : bx_ConP rxG rxNW rxAO PX Dg rxL X vwCl A ad l rxM155 rxCSEAT rxPSEAT rxPSSEAT) {S0 : Nat → Int → Int} {ws : List Int} (hP : rxPSDT S0 ws) : ∀ (i : Nat) (q : bx_HE), rxYSDT[i]? = some q → rxUSDT q = true → ∀ {p : Program} {e : Env} {R : Room} {s : State} {m : MethodId} {args : Array Value} {below : List Frame} {meth : Method} {c : Code} {Q : State → Prop} {H0 : Heap}, rx_Fr rxG rxNW rxAO PX p s m args meth c rxM130 → (∀ q, H0.size ≤ q → A q) → H0 = s.heap → rxM130.2.2.2.2.2.2.1 ≤ R.cells → rxM130.2.2.2.2.2.2.2 ≤ R.slots → rxC130.2.2.2.1 ≤ R.frames → rxC130.2.2.2.1 * 40 ≤ R.locals → bx_Step p l e R s m args below meth c Q Dg rxL X vwCl A xa H0 ad rxM130 rxYSDT (rxISDT S0 ws) (rxmSDT S0 ws) S0 rxC130.2.2.1 i q := by
  intro i q hq hus p e R s m args below meth c Q H0 hF hA hH0 hmc hms hd hdl
  match i, hq with
  | 0, hq =>
    cases hq
    exact absurd (show false = true from hus) Bool.false_ne_true
  | 1, hq =>
    cases hq
    exact rx_stepC (ins := .invokevirtual 436) (len := 3) (i_p := 2) (M_p := rxM155) (d := rxC130.2.2.2.1) (as := [.inr (3, (0, 443)), .inr (3, (11, 0)), .inr (3, (12, 0)), .inr (0, (13, 0))]) (t := []) (ct := rxCSEAT) hPX hF rfl hA hH0 hmc hms hd hdl (by decide +kernel) rfl rfl (by decide +kernel) (by decide +kernel) hQSEAT (by decide +kernel) rfl (Or.inl ⟨rfl, rfl, rfl⟩) (rxsSDT_1 hP)
  | 2, hq =>
    cases hq
    exact absurd (show false = true from hus) Bool.false_ne_true
  | n + 3, hq => cases hq
theorem rxQSDT {PX : State → Prop} {Dg : va_G} {A : Nat → Prop} {ad xa : Nat → Nat} {l : Launch} {X : (Nat → Int → Int) → Prop} (hPX : rx_PXOK rxNW A PX) (hsl : ∀ s : State, PX s → ∀ o idx n : Nat, rxSl o idx = some n → ∃ tx : String, vk_R (rxNm o) idx tx (ad n) s)
    (hX : ∀ S S_p : Nat → Int → Int, X S → bx_same rxL (bx_mdl rxC130.2.2.1) S S_p → X S_p)
    (ih : ∀ (j2 : Nat) (ct2 : bx_Ct) (M2 : rx_Mt), ct2 ∈ rxCnE j2 → ct2.2.2.2.1 + 1 ≤ rxC130.2.2.2.1 → rxT.2.2.2.2.2 j2 = some M2 → bx_Con rxG rxNW rxAO PX Dg rxL X vwCl A ad l M2 ct2) (hQSEAT : bx_ConP rxG rxNW rxAO PX Dg rxL X vwCl A ad l rxM155 rxCSEAT rxPSEAT rxPSSEAT) : bx_ConP rxG rxNW rxAO PX Dg rxL X vwCl A ad l rxM130 rxC130 rxPSDT rxPSSDT :=
  rxQof (xa := xa) (Cn := rxCnE) (f := 30000) (j := 130) (tab := rxYSDT) (us := rxUSDT) hPX hsl hX ih rfl rxYcSDT rxISDT rxmSDT
    (fun S0 ws r I0 I ht0 ht as he he1 hX0 hI0 hP hs ha => by
      have e := he.symm.trans (show bx_ent0 rxNP rxC130.1 bx_I0 [] = some ([(0, 0), (0, 0), (0, 0), (0, 0), (0, 0), (0, 0), (0, 0), (0, 0), ((-2147483648), 2147483647), ((-2147483648), 2147483647), ((-2147483648), 2147483647)], [], [.inr (3, (0, 0)), .inr (0, (8, 0)), .inr (0, (9, 0)), .inr (0, (10, 0))]) from rfl)
      cases e
      subst ha
      have h0 : r 0 = 0 := hs.1
      show rxISDT_0 S0 _ S0 (r 8) (r 9) (r 10)
      refine ⟨rfl, ?_⟩
      simp only [List.map_cons, List.map_nil, bx_xv_ok h0]
      rfl)
    (fun S0 ws hP => rxuSDT (xa := xa) hPX hX hQSEAT hP) (fun S0 ws hP => rxgCSDT hP) (fun S0 ws hP => rxgESDT hP)
end
section
noncomputable def rxITLF_0 (S0 : Nat → Int → Int) (ws : List Int) (S : Nat → Int → Int) (on ot cu wh : Int) : Prop := S = S0 ∧ ws = [0, on, ot, cu, wh]
noncomputable def rxmTLF_0 (S0 : Nat → Int → Int) (ws : List Int) (S : Nat → Int → Int) (on ot cu wh : Int) : Nat := 100
noncomputable def rxzTLF_0 : rx_Z := ([(0, 0), (0, 0), (0, 0), (0, 0), (0, 0), (0, 0), (0, 0), (0, 0), ((-2147483648), 2147483647), ((-2147483648), 2147483647), ((-2147483648), 2147483647), ((-2147483648), 2147483647)], [], [], 0, 0, 0, [(0, .inr (3, (0, 0))), (1, .inr (0, (8, 0))), (2, .inr (0, (9, 0))), (3, .inr (0, (10, 0))), (4, .inr (0, (11, 0)))], [])
noncomputable def rxITLF_1 (S0 : Nat → Int → Int) (ws : List Int) (S : Nat → Int → Int) (on ot cu wh : Int) : Prop := S = S0 ∧ ws = [0, on, ot, cu, wh]
noncomputable def rxmTLF_1 (S0 : Nat → Int → Int) (ws : List Int) (S : Nat → Int → Int) (on ot cu wh : Int) : Nat := 90
noncomputable def rxzTLF_1 : rx_Z := ([(0, 0), (0, 0), (0, 0), (0, 0), (0, 0), (0, 0), (0, 0), (0, 0), ((-2147483648), 2147483647), ((-2147483648), 2147483647), ((-2147483648), 2147483647), ((-2147483648), 2147483647)], [], [], 0, 0, 4, [(0, .inr (3, (0, 0))), (1, .inr (0, (8, 0))), (2, .inr (0, (9, 0))), (3, .inr (0, (10, 0))), (4, .inr (0, (11, 0)))], [.inr (0, (10, 0)), .inr (0, (9, 0)), .inr (0, (8, 0)), .inr (3, (0, 0))])
noncomputable def rxITLF_2 (S0 : Nat → Int → Int) (ws : List Int) (S : Nat → Int → Int) (on ot cu wh r : Int) : Prop := rjdSm S0 S ∧ (r = 1 → 0 ≤ cu ∧ cu ≤ 5)
noncomputable def rxmTLF_2 (S0 : Nat → Int → Int) (ws : List Int) (S : Nat → Int → Int) (on ot cu wh r : Int) : Nat := 80
noncomputable def rxzTLF_2 : rx_Z := ([(0, 0), (0, 0), (0, 0), (0, 0), (0, 0), (0, 0), (0, 0), (0, 0), ((-2147483648), 2147483647), ((-2147483648), 2147483647), ((-2147483648), 2147483647), ((-2147483648), 2147483647), (0, 1)], [], [], 0, 0, 7, [(0, .inr (3, (0, 0))), (1, .inr (0, (8, 0))), (2, .inr (0, (9, 0))), (3, .inr (0, (10, 0))), (4, .inr (0, (11, 0)))], [.inr (0, (12, 0))])
noncomputable def rxoTLF_0_0 : bx_HO := (([(0, 0), (0, 0), (0, 0), (0, 0), (0, 0), (0, 0), (0, 0), (0, 0), ((-2147483648), 2147483647), ((-2147483648), 2147483647), ((-2147483648), 2147483647), ((-2147483648), 2147483647)], [], [], 0, 0, 4, [(0, .inr (3, (0, 0))), (1, .inr (0, (8, 0))), (2, .inr (0, (9, 0))), (3, .inr (0, (10, 0))), (4, .inr (0, (11, 0)))], [.inr (0, (10, 0)), .inr (0, (9, 0)), .inr (0, (8, 0)), .inr (3, (0, 0))]), [], [], [(0, 0), (0, 0), (0, 0), (0, 0), (0, 0), (0, 0), (0, 0), (0, 0), (8, 0), (9, 0), (10, 0), (11, 0)], 1)
noncomputable def rxeTLF_2_0 : rx_End × List (Nat × Int × Int) := (([(0, 0), (0, 0), (0, 0), (0, 0), (0, 0), (0, 0), (0, 0), (0, 0), ((-2147483648), 2147483647), ((-2147483648), 2147483647), ((-2147483648), 2147483647), ((-2147483648), 2147483647), (0, 0)], [], [], some (.inr (0, (0, (-1))))), [])
noncomputable def rxeTLF_2_1 : rx_End × List (Nat × Int × Int) := (([(0, 0), (0, 0), (0, 0), (0, 0), (0, 0), (0, 0), (0, 0), (0, 0), ((-2147483648), 2147483647), ((-2147483648), 2147483647), ((-2147483648), 2147483647), (10, 99), (1, 1), ((-1), 9)], [(3, (12, 0), (0, 0))], [(((0, 0), 2700033000000), .inl none), (((0, 0), 2700042000000), .inl none), (((0, 0), 2700051000000), .inl none), (((0, 0), 2700060000000), .inl none), (((0, 0), 89999100006000000), .inl none), (((0, 0), 11), .inr (3, (0, 443)))], some (.inr (0, (13, 0)))), [])
noncomputable def rxeTLF_2_2 : rx_End × List (Nat × Int × Int) := (([(0, 0), (0, 0), (0, 0), (0, 0), (0, 0), (0, 0), (0, 0), (0, 0), ((-2147483648), 2147483647), ((-2147483648), 2147483647), ((-2147483648), 2147483647), (100, 2147483647), (1, 1)], [(3, (12, 0), (0, 0))], [(((0, 0), 2700033000000), .inl none), (((0, 0), 2700042000000), .inl none), (((0, 0), 2700051000000), .inl none), (((0, 0), 2700060000000), .inl none), (((0, 0), 2700078000000), .inl none), (((0, 0), 2700087000000), .inl none), (((0, 0), 2700096000000), .inl none), (((0, 0), 2700105000000), .inl none), (((0, 0), 937800006000000), .inl none), (((0, 0), 89999100006000000), .inl none), (((0, 0), 11), .inr (3, (0, 443)))], some (.inr (0, (0, (-1))))), [])
noncomputable def rxeTLF_2_3 : rx_End × List (Nat × Int × Int) := (([(0, 0), (0, 0), (0, 0), (0, 0), (0, 0), (0, 0), (0, 0), (0, 0), ((-2147483648), 2147483647), ((-2147483648), 2147483647), ((-2147483648), 2147483647), (3, 9), (1, 1)], [(3, (12, 0), (0, 0))], [(((0, 0), 2700033000000), .inl none), (((0, 0), 2700042000000), .inl none), (((0, 0), 2700051000000), .inl none), (((0, 0), 2700060000000), .inl none), (((0, 0), 2700078000000), .inl none), (((0, 0), 2700087000000), .inl none), (((0, 0), 2700096000000), .inl none), (((0, 0), 2700105000000), .inl none), (((0, 0), 937800006000000), .inl none), (((0, 0), 89999100006000000), .inl none), (((0, 0), 11), .inr (3, (0, 443)))], some (.inr (0, (0, (-1))))), [])
noncomputable def rxeTLF_2_4 : rx_End × List (Nat × Int × Int) := (([(0, 0), (0, 0), (0, 0), (0, 0), (0, 0), (0, 0), (0, 0), (0, 0), ((-2147483648), 2147483647), ((-2147483648), 2147483647), ((-2147483648), 2147483647), ((-2147483648), (-1)), (1, 1)], [(3, (12, 0), (0, 0))], [(((0, 0), 2700033000000), .inl none), (((0, 0), 2700042000000), .inl none), (((0, 0), 2700051000000), .inl none), (((0, 0), 2700060000000), .inl none), (((0, 0), 2700078000000), .inl none), (((0, 0), 2700087000000), .inl none), (((0, 0), 2700096000000), .inl none), (((0, 0), 2700105000000), .inl none), (((0, 0), 937800006000000), .inl none), (((0, 0), 89999100006000000), .inl none), (((0, 0), 11), .inr (3, (0, 443)))], some (.inr (0, (0, (-1))))), [])
noncomputable def rxeTLF_2_5 : rx_End × List (Nat × Int × Int) := (([(0, 0), (0, 0), (0, 0), (0, 0), (0, 0), (0, 0), (0, 0), (0, 0), ((-2147483648), 2147483647), ((-2147483648), 2147483647), ((-2147483648), 2147483647), (2, 2), (1, 1), ((-2147483648), 2147483647)], [(3, (12, 0), (0, 0))], [(((0, 0), 1851192626986356799632114105031551009123054124018230966906716160000000), .inr (0, (13, 0))), (((0, 443), 11), .inr (0, (13, 0))), (((0, 0), 2700033000000), .inl none), (((0, 0), 2700042000000), .inl none), (((0, 0), 2700051000000), .inl none), (((0, 0), 2700060000000), .inl none), (((0, 0), 2700078000000), .inl none), (((0, 0), 2700087000000), .inl none), (((0, 0), 2700096000000), .inl none), (((0, 0), 2700105000000), .inl none), (((0, 0), 937800006000000), .inl none), (((0, 0), 89999100006000000), .inl none), (((0, 0), 11), .inr (3, (0, 443)))], some (.inr (0, (13, 0)))), [])
noncomputable def rxeTLF_2_6 : rx_End × List (Nat × Int × Int) := (([(0, 0), (0, 0), (0, 0), (0, 0), (0, 0), (0, 0), (0, 0), (0, 0), ((-2147483648), 2147483647), ((-2147483648), 2147483647), ((-2147483648), 2147483647), (1, 1), (1, 1), ((-2147483648), 2147483647)], [(3, (12, 0), (0, 0))], [(((0, 0), 1851192626986356799431407398244775400849232659564395713352892416000000), .inr (0, (13, 0))), (((0, 443), 10), .inr (0, (13, 0))), (((0, 0), 2700033000000), .inl none), (((0, 0), 2700042000000), .inl none), (((0, 0), 2700051000000), .inl none), (((0, 0), 2700060000000), .inl none), (((0, 0), 2700078000000), .inl none), (((0, 0), 2700087000000), .inl none), (((0, 0), 2700096000000), .inl none), (((0, 0), 2700105000000), .inl none), (((0, 0), 937800006000000), .inl none), (((0, 0), 89999100006000000), .inl none), (((0, 0), 11), .inr (3, (0, 443)))], some (.inr (0, (13, 0)))), [])
noncomputable def rxeTLF_2_7 : rx_End × List (Nat × Int × Int) := (([(0, 0), (0, 0), (0, 0), (0, 0), (0, 0), (0, 0), (0, 0), (0, 0), ((-2147483648), 2147483647), ((-2147483648), 2147483647), ((-2147483648), 2147483647), (0, 0), (1, 1), ((-1), 432)], [(3, (12, 0), (0, 0))], [(((0, 0), 1851192626986356799230700691457999792575411195110560459799068672000000), .inr (0, (13, 0))), (((0, 443), 9), .inr (0, (13, 0))), (((0, 0), 2700033000000), .inl none), (((0, 0), 2700042000000), .inl none), (((0, 0), 2700051000000), .inl none), (((0, 0), 2700060000000), .inl none), (((0, 0), 2700078000000), .inl none), (((0, 0), 2700087000000), .inl none), (((0, 0), 2700096000000), .inl none), (((0, 0), 2700105000000), .inl none), (((0, 0), 937800006000000), .inl none), (((0, 0), 89999100006000000), .inl none), (((0, 0), 11), .inr (3, (0, 443)))], some (.inr (0, (13, 0)))), [])
noncomputable def rxYTLF : List bx_HE := [(rxzTLF_0, [rxoTLF_0_0], []), (rxzTLF_1, [], []), (rxzTLF_2, [], [rxeTLF_2_0, rxeTLF_2_1, rxeTLF_2_2, rxeTLF_2_3, rxeTLF_2_4, rxeTLF_2_5, rxeTLF_2_6, rxeTLF_2_7])]
noncomputable def rxUTLF (q : bx_HE) : Bool := Nat.beq (rx_zpc q.1) 4
noncomputable def rxYBTLF : bx_B := (rxV, rxNP, rxDmf, bx_mdH rxC176.2.2.1)
set_option maxRecDepth 100000 in
theorem rxYcTLF : bx_chkH rxYBTLF rxM176 rxC176 rxYTLF (rxUTLF, fun cut z => rx_ex2 (rxCT rxYBTLF rxCn) cut 30000 rxC176.2.2.2.1 176 z) = true := by decide +kernel
noncomputable def rxITLF (S0 : Nat → Int → Int) (ws : List Int) (i : Nat) : bx_SP := fun S r => match i with | 0 => rxITLF_0 S0 ws S (r 8) (r 9) (r 10) (r 11) | 1 => rxITLF_1 S0 ws S (r 8) (r 9) (r 10) (r 11) | 2 => rxITLF_2 S0 ws S (r 8) (r 9) (r 10) (r 11) (r 12) | _ => False
noncomputable def rxmTLF (S0 : Nat → Int → Int) (ws : List Int) (i : Nat) (S : Nat → Int → Int) (r : Nat → Int) : Nat := match i with | 0 => rxmTLF_0 S0 ws S (r 8) (r 9) (r 10) (r 11) | 1 => rxmTLF_1 S0 ws S (r 8) (r 9) (r 10) (r 11) | 2 => rxmTLF_2 S0 ws S (r 8) (r 9) (r 10) (r 11) (r 12) | _ => 0
noncomputable def rxPTLF (S0 : Nat → Int → Int) (ws : List Int) : Prop := rkPl S0 ∧ rkDu S0
noncomputable def rxPSTLF (S0 : Nat → Int → Int) (ws : List Int) (S : Nat → Int → Int) (w : Option Int) : Prop := rjdSm S0 S
theorem rxkTLF_1 {S0 : Nat → Int → Int} {ws : List Int} {S : Nat → Int → Int} {on ot cu wh : Int} (hP : rxPTLF S0 ws) (hin : bx_same rxL (bx_mdl rxC176.2.2.1) S0 S) (I0 : bx_Inv rxL S) (hinv : rxITLF_1 S0 ws S on ot cu wh) (l8 : (-2147483648) ≤ on) (u8 : on ≤ 2147483647) (l9 : (-2147483648) ≤ ot) (u9 : ot ≤ 2147483647) (l10 : (-2147483648) ≤ cu) (u10 : cu ≤ 2147483647) (l11 : (-2147483648) ≤ wh) (u11 : wh ≤ 2147483647) : rxPSDT S [0, on, ot, cu] ∧ ∀ (S_p : Nat → Int → Int) (r : Int), 0 ≤ r → r ≤ 1 → rxPSSDT S [0, on, ot, cu] S_p (some r) → bx_Inv rxL S_p → bx_same rxL (bx_mdl rxC130.2.2.1) S S_p → rxITLF_2 S0 ws S_p on ot cu wh r ∧ rxmTLF_2 S0 ws S_p on ot cu wh r < rxmTLF_1 S0 ws S on ot cu wh := by
  obtain ⟨rfl, hw⟩ := hinv
  refine ⟨hP, fun S_p r _ _ hq _ hsm => ⟨?_, by unfold rxmTLF_1 rxmTLF_2; omega⟩⟩
  obtain ⟨o2, t2, c2, hw3, h⟩ := hq
  have k3 : cu = c2 := Option.some.inj (congrArg (fun l : List Int => l[3]?) hw3)
  subst k3
  rcases h with ⟨-, hr, hS⟩ | ⟨hg, hr, -, -, -, hf⟩
  · subst hS
    exact ⟨rjdSm_r, fun e => (by have := Option.some.inj hr; exfalso; omega)⟩
  · exact ⟨(fun p t a b c => hf p t (by omega) (by omega) (by omega) (by omega) (by omega)), fun _ => ⟨by omega, by omega⟩⟩
theorem rxsTLF_1 {X : (Nat → Int → Int) → Prop} {S0 : Nat → Int → Int} {ws : List Int} (hP : rxPTLF S0 ws) : rx_obK X S0 rxC176.2.2.1 rxC130.2.2.1 (rxITLF S0 ws) (rxmTLF S0 ws) 1 2 rxzTLF_1 rxzTLF_2 [.inr (3, (0, 0)), .inr (0, (8, 0)), .inr (0, (9, 0)), .inr (0, (10, 0))] (some 12) rxPSDT rxPSSDT := by
  intro S r hinv hXS I0 hin hs_ hf_
  have b_ := bx_bds_sat hs_
  have f_ := bx_fcl_ok hs_.1 hf_
  obtain ⟨⟨l8, u8⟩, ⟨l9, u9⟩, ⟨l10, u10⟩, ⟨l11, u11⟩, -⟩ := b_
  have g := rxkTLF_1 hP hin I0 hinv l8 u8 l9 u9 l10 u10 l11 u11
  have ea : List.map (bx_num r) [.inr (3, (0, 0)), .inr (0, (8, 0)), .inr (0, (9, 0)), .inr (0, (10, 0))] = [0, (r 8), (r 9), (r 10)] := by
    simp only [List.map_cons, List.map_nil, bx_xv_ok hs_.1]
    rfl
  rw [ea]
  refine ⟨g.1, fun S_p w r_p hPS hX_p I1 hsm hr hw hs_p => ?_⟩
  have hw := hw _ rfl
  subst hw
  have b_p := hs_p.2.2 12 _ _ rfl
  have g2 := g.2 S_p (r_p 12) b_p.1 b_p.2 hPS I1 hsm
  show rxITLF_2 S0 ws S_p (r_p 8) (r_p 9) (r_p 10) (r_p 11) (r_p 12) ∧ rxmTLF_2 S0 ws S_p (r_p 8) (r_p 9) (r_p 10) (r_p 11) (r_p 12) < _
  rw [hr 8 (by decide), hr 9 (by decide), hr 10 (by decide), hr 11 (by decide)]
  exact g2
theorem rxcTLF_0_0 {S0 : Nat → Int → Int} {ws : List Int} {S : Nat → Int → Int} {on ot cu wh : Int} (hP : rxPTLF S0 ws) (hin : bx_same rxL (bx_mdl rxC176.2.2.1) S0 S) (I0 : bx_Inv rxL S) (hinv : rxITLF_0 S0 ws S on ot cu wh) (l8 : (-2147483648) ≤ on) (u8 : on ≤ 2147483647) (l9 : (-2147483648) ≤ ot) (u9 : ot ≤ 2147483647) (l10 : (-2147483648) ≤ cu) (u10 : cu ≤ 2147483647) (l11 : (-2147483648) ≤ wh) (u11 : wh ≤ 2147483647) : (True) ∧ (True) ∧ rxITLF_1 S0 ws S on ot cu wh ∧ rxmTLF_1 S0 ws S on ot cu wh < rxmTLF_0 S0 ws S on ot cu wh := by
  obtain ⟨rfl, hw⟩ := hinv
  exact ⟨trivial, trivial, ⟨rfl, hw⟩, by unfold rxmTLF_0 rxmTLF_1; omega⟩
theorem rxgTLF_0_0 {X : (Nat → Int → Int) → Prop} {S0 : Nat → Int → Int} {ws : List Int} (hP : rxPTLF S0 ws) : bx_obC rxL X S0 rxC176.2.2.1 (rxITLF S0 ws) (rxmTLF S0 ws) 0 rxzTLF_0 rxoTLF_0_0 := by
  intro S S_p r r_p hinv hX hin hsm_ hseg
  obtain ⟨I0, I1, h0_, hr_, b_, f_, d_⟩ := bx_cl (evs := []) (fvs := []) hseg (by decide +kernel) (by decide +kernel)
  have hinv : rxITLF_0 S0 ws S (r 8) (r 9) (r 10) (r 11) := hinv
  rw [← hr_ 8 (by decide), ← hr_ 9 (by decide), ← hr_ 10 (by decide), ← hr_ 11 (by decide)] at hinv
  obtain ⟨⟨l8, u8⟩, ⟨l9, u9⟩, ⟨l10, u10⟩, ⟨l11, u11⟩, -⟩ := b_
  have w_ := d_
  subst w_
  have g := rxcTLF_0_0 hP hin I0 hinv l8 u8 l9 u9 l10 u10 l11 u11
  refine ⟨bx_narP_ok (l := []) g.1, bx_nfP_ok h0_ (fvs := []) (by decide +kernel) g.2.1, ?_, ?_⟩
  · show rxITLF_1 S0 ws S_p (bx_val [(0, 0), (0, 0), (0, 0), (0, 0), (0, 0), (0, 0), (0, 0), (0, 0), (8, 0), (9, 0), (10, 0), (11, 0)] r_p 8) (bx_val [(0, 0), (0, 0), (0, 0), (0, 0), (0, 0), (0, 0), (0, 0), (0, 0), (8, 0), (9, 0), (10, 0), (11, 0)] r_p 9) (bx_val [(0, 0), (0, 0), (0, 0), (0, 0), (0, 0), (0, 0), (0, 0), (0, 0), (8, 0), (9, 0), (10, 0), (11, 0)] r_p 10) (bx_val [(0, 0), (0, 0), (0, 0), (0, 0), (0, 0), (0, 0), (0, 0), (0, 0), (8, 0), (9, 0), (10, 0), (11, 0)] r_p 11)
    rw [bx_val_x (n := 8) (e := (8, 0)) h0_ rfl, bx_val_x (n := 9) (e := (9, 0)) h0_ rfl, bx_val_x (n := 10) (e := (10, 0)) h0_ rfl, bx_val_x (n := 11) (e := (11, 0)) h0_ rfl]
    exact g.2.2.1
  · show rxmTLF_1 S0 ws S_p (bx_val [(0, 0), (0, 0), (0, 0), (0, 0), (0, 0), (0, 0), (0, 0), (0, 0), (8, 0), (9, 0), (10, 0), (11, 0)] r_p 8) (bx_val [(0, 0), (0, 0), (0, 0), (0, 0), (0, 0), (0, 0), (0, 0), (0, 0), (8, 0), (9, 0), (10, 0), (11, 0)] r_p 9) (bx_val [(0, 0), (0, 0), (0, 0), (0, 0), (0, 0), (0, 0), (0, 0), (0, 0), (8, 0), (9, 0), (10, 0), (11, 0)] r_p 10) (bx_val [(0, 0), (0, 0), (0, 0), (0, 0), (0, 0), (0, 0), (0, 0), (0, 0), (8, 0), (9, 0), (10, 0), (11, 0)] r_p 11) < rxmTLF_0 S0 ws S_p (r 8) (r 9) (r 10) (r 11)
    rw [bx_val_x (n := 8) (e := (8, 0)) h0_ rfl, bx_val_x (n := 9) (e := (9, 0)) h0_ rfl, bx_val_x (n := 10) (e := (10, 0)) h0_ rfl, bx_val_x (n := 11) (e := (11, 0)) h0_ rfl, ← hr_ 8 (by decide), ← hr_ 9 (by decide), ← hr_ 10 (by decide), ← hr_ 11 (by decide)]
    exact g.2.2.2
theorem rxdTLF_2_0 {S0 : Nat → Int → Int} {ws : List Int} {S : Nat → Int → Int} {on ot cu wh r : Int} (hP : rxPTLF S0 ws) (hin : bx_same rxL (bx_mdl rxC176.2.2.1) S0 S) (hin2 : bx_same rxL (bx_mdl rxC176.2.2.1) S S) (I0 : bx_Inv rxL S) (I1 : bx_Inv rxL S) (hinv : rxITLF_2 S0 ws S on ot cu wh r) (l8 : (-2147483648) ≤ on) (u8 : on ≤ 2147483647) (l9 : (-2147483648) ≤ ot) (u9 : ot ≤ 2147483647) (l10 : (-2147483648) ≤ cu) (u10 : cu ≤ 2147483647) (l11 : (-2147483648) ≤ wh) (u11 : wh ≤ 2147483647) (l12 : 0 ≤ r) (u12 : r ≤ 0) : (True) ∧ rxPSTLF S0 ws S (some ((-1))) := by
  obtain ⟨hf, hc⟩ := hinv
  exact ⟨trivial, rjdSm_t hf rjdSm_r⟩
theorem rxfTLF_2_0 {X : (Nat → Int → Int) → Prop} {S0 : Nat → Int → Int} {ws : List Int} (hP : rxPTLF S0 ws) : bx_obE rxL X S0 rxC176.2.2.1 (rxITLF S0 ws) (rxPSTLF S0 ws) 2 rxzTLF_2 rxeTLF_2_0 := by
  intro S S_p r r_p hinv hX hin hsm_ hseg
  obtain ⟨I0, I1, h0_, hr_, b_, f_, d_⟩ := bx_cl (evs := []) (fvs := []) hseg (by decide +kernel) (by decide +kernel)
  have hinv : rxITLF_2 S0 ws S (r 8) (r 9) (r 10) (r 11) (r 12) := hinv
  rw [← hr_ 8 (by decide), ← hr_ 9 (by decide), ← hr_ 10 (by decide), ← hr_ 11 (by decide), ← hr_ 12 (by decide)] at hinv
  obtain ⟨⟨l8, u8⟩, ⟨l9, u9⟩, ⟨l10, u10⟩, ⟨l11, u11⟩, ⟨l12, u12⟩, -⟩ := b_
  have w_ := d_
  subst w_
  have g := rxdTLF_2_0 hP hin hsm_ I0 I1 hinv l8 u8 l9 u9 l10 u10 l11 u11 l12 u12
  refine ⟨bx_narP_ok (l := []) g.1, ?_⟩
  show rxPSTLF S0 ws S_p (some (bx_num r_p (.inr (0, (0, (-1))))))
  rw [bx_xv_ok h0_]
  exact g.2
theorem rxdTLF_2_1 {S0 : Nat → Int → Int} {ws : List Int} {S T4 T3 T2 T1 T0 : Nat → Int → Int} {on ot cu wh r x13 : Int} (hP : rxPTLF S0 ws) (hin : bx_same rxL (bx_mdl rxC176.2.2.1) S0 S) (hin2 : bx_same rxL (bx_mdl rxC176.2.2.1) S T0) (I0 : bx_Inv rxL S) (I1 : bx_Inv rxL T0) (hinv : rxITLF_2 S0 ws S on ot cu wh r) (l8 : (-2147483648) ≤ on) (u8 : on ≤ 2147483647) (l9 : (-2147483648) ≤ ot) (u9 : ot ≤ 2147483647) (l10 : (-2147483648) ≤ cu) (u10 : cu ≤ 2147483647) (l11 : 10 ≤ wh) (u11 : wh ≤ 99) (l12 : 1 ≤ r) (u12 : r ≤ 1) (l13 : (-1) ≤ x13) (u13 : x13 ≤ 9) (f0 : r ≠ 0) (v4 : ∀ (p i : Nat), p < rxL.2.1 → i < bx_wd (rxL.1 p) → bx_mc (rxL.1 p) i ≠ (99999, 0) → T4 p (i : Int) = S p (i : Int)) (v3 : ∀ (p i : Nat), p < rxL.2.1 → i < bx_wd (rxL.1 p) → bx_mc (rxL.1 p) i ≠ (3, 6) → T3 p (i : Int) = T4 p (i : Int)) (v2 : ∀ (p i : Nat), p < rxL.2.1 → i < bx_wd (rxL.1 p) → bx_mc (rxL.1 p) i ≠ (3, 5) → T2 p (i : Int) = T3 p (i : Int)) (v1 : ∀ (p i : Nat), p < rxL.2.1 → i < bx_wd (rxL.1 p) → bx_mc (rxL.1 p) i ≠ (3, 4) → T1 p (i : Int) = T2 p (i : Int)) (v0 : ∀ (p i : Nat), p < rxL.2.1 → i < bx_wd (rxL.1 p) → bx_mc (rxL.1 p) i ≠ (3, 3) → T0 p (i : Int) = T1 p (i : Int)) : (True) ∧ rxPSTLF S0 ws T0 (some x13) := by
  obtain ⟨hf, hc⟩ := hinv
  exact ⟨trivial, rjdSm_t hf (rjdSm_t (rjdSm_t (rjdSm_t (rjdSm_t (rjdSm_v v4 (by decide) (by decide)) (rjdSm_v v3 (by decide) (by decide))) (rjdSm_v v2 (by decide) (by decide))) (rjdSm_v v1 (by decide) (by decide))) (rjdSm_v v0 (by decide) (by decide)))⟩
theorem rxfTLF_2_1 {X : (Nat → Int → Int) → Prop} {S0 : Nat → Int → Int} {ws : List Int} (hP : rxPTLF S0 ws) : bx_obE rxL X S0 rxC176.2.2.1 (rxITLF S0 ws) (rxPSTLF S0 ws) 2 rxzTLF_2 rxeTLF_2_1 := by
  intro S S_p r r_p hinv hX hin hsm_ hseg
  obtain ⟨I0, I1, h0_, hr_, b_, f_, d_⟩ := bx_cl (evs := [(2, (3, 0), (3, 0), .inl none), (2, (3, 0), (4, 0), .inl none), (2, (3, 0), (5, 0), .inl none), (2, (3, 0), (6, 0), .inl none), (2, (99999, 0), (0, 0), .inl none)]) (fvs := [(3, (12, 0), (0, 0), (0, 0))]) hseg (by decide +kernel) (by decide +kernel)
  have hinv : rxITLF_2 S0 ws S (r 8) (r 9) (r 10) (r 11) (r 12) := hinv
  rw [← hr_ 8 (by decide), ← hr_ 9 (by decide), ← hr_ 10 (by decide), ← hr_ 11 (by decide), ← hr_ 12 (by decide)] at hinv
  obtain ⟨⟨l8, u8⟩, ⟨l9, u9⟩, ⟨l10, u10⟩, ⟨l11, u11⟩, ⟨l12, u12⟩, ⟨l13, u13⟩, -⟩ := b_
  obtain ⟨f0, -⟩ := f_
  obtain ⟨T0, ⟨T1, ⟨T2, ⟨T3, ⟨T4, w_, v4⟩, v3⟩, v2⟩, v1⟩, v0⟩ := d_
  subst w_
  have g := rxdTLF_2_1 hP hin hsm_ I0 I1 hinv l8 u8 l9 u9 l10 u10 l11 u11 l12 u12 l13 u13 f0 v4 v3 v2 v1 v0
  refine ⟨bx_narP_ok (l := []) g.1, ?_⟩
  show rxPSTLF S0 ws S_p (some (bx_num r_p (.inr (0, (13, 0)))))
  rw [bx_xv_ok h0_]
  exact g.2
theorem rxdTLF_2_2 {S0 : Nat → Int → Int} {ws : List Int} {S T9 T8 T7 T6 T5 T4 T3 T2 T1 T0 : Nat → Int → Int} {on ot cu wh r : Int} (hP : rxPTLF S0 ws) (hin : bx_same rxL (bx_mdl rxC176.2.2.1) S0 S) (hin2 : bx_same rxL (bx_mdl rxC176.2.2.1) S T0) (I0 : bx_Inv rxL S) (I1 : bx_Inv rxL T0) (hinv : rxITLF_2 S0 ws S on ot cu wh r) (l8 : (-2147483648) ≤ on) (u8 : on ≤ 2147483647) (l9 : (-2147483648) ≤ ot) (u9 : ot ≤ 2147483647) (l10 : (-2147483648) ≤ cu) (u10 : cu ≤ 2147483647) (l11 : 100 ≤ wh) (u11 : wh ≤ 2147483647) (l12 : 1 ≤ r) (u12 : r ≤ 1) (f0 : r ≠ 0) (v9 : ∀ (p i : Nat), p < rxL.2.1 → i < bx_wd (rxL.1 p) → bx_mc (rxL.1 p) i ≠ (99999, 0) → T9 p (i : Int) = S p (i : Int)) (v8 : ∀ (p i : Nat), p < rxL.2.1 → i < bx_wd (rxL.1 p) → bx_mc (rxL.1 p) i ≠ (1042, 0) → T8 p (i : Int) = T9 p (i : Int)) (v7 : ∀ (p i : Nat), p < rxL.2.1 → i < bx_wd (rxL.1 p) → bx_mc (rxL.1 p) i ≠ (3, 11) → T7 p (i : Int) = T8 p (i : Int)) (v6 : ∀ (p i : Nat), p < rxL.2.1 → i < bx_wd (rxL.1 p) → bx_mc (rxL.1 p) i ≠ (3, 10) → T6 p (i : Int) = T7 p (i : Int)) (v5 : ∀ (p i : Nat), p < rxL.2.1 → i < bx_wd (rxL.1 p) → bx_mc (rxL.1 p) i ≠ (3, 9) → T5 p (i : Int) = T6 p (i : Int)) (v4 : ∀ (p i : Nat), p < rxL.2.1 → i < bx_wd (rxL.1 p) → bx_mc (rxL.1 p) i ≠ (3, 8) → T4 p (i : Int) = T5 p (i : Int)) (v3 : ∀ (p i : Nat), p < rxL.2.1 → i < bx_wd (rxL.1 p) → bx_mc (rxL.1 p) i ≠ (3, 6) → T3 p (i : Int) = T4 p (i : Int)) (v2 : ∀ (p i : Nat), p < rxL.2.1 → i < bx_wd (rxL.1 p) → bx_mc (rxL.1 p) i ≠ (3, 5) → T2 p (i : Int) = T3 p (i : Int)) (v1 : ∀ (p i : Nat), p < rxL.2.1 → i < bx_wd (rxL.1 p) → bx_mc (rxL.1 p) i ≠ (3, 4) → T1 p (i : Int) = T2 p (i : Int)) (v0 : ∀ (p i : Nat), p < rxL.2.1 → i < bx_wd (rxL.1 p) → bx_mc (rxL.1 p) i ≠ (3, 3) → T0 p (i : Int) = T1 p (i : Int)) : (True) ∧ rxPSTLF S0 ws T0 (some ((-1))) := by
  obtain ⟨hf, hc⟩ := hinv
  exact ⟨trivial, rjdSm_t hf (rjdSm_t (rjdSm_t (rjdSm_t (rjdSm_t (rjdSm_t (rjdSm_t (rjdSm_t (rjdSm_t (rjdSm_t (rjdSm_v v9 (by decide) (by decide)) (rjdSm_v v8 (by decide) (by decide))) (rjdSm_v v7 (by decide) (by decide))) (rjdSm_v v6 (by decide) (by decide))) (rjdSm_v v5 (by decide) (by decide))) (rjdSm_v v4 (by decide) (by decide))) (rjdSm_v v3 (by decide) (by decide))) (rjdSm_v v2 (by decide) (by decide))) (rjdSm_v v1 (by decide) (by decide))) (rjdSm_v v0 (by decide) (by decide)))⟩
theorem rxfTLF_2_2 {X : (Nat → Int → Int) → Prop} {S0 : Nat → Int → Int} {ws : List Int} (hP : rxPTLF S0 ws) : bx_obE rxL X S0 rxC176.2.2.1 (rxITLF S0 ws) (rxPSTLF S0 ws) 2 rxzTLF_2 rxeTLF_2_2 := by
  intro S S_p r r_p hinv hX hin hsm_ hseg
  obtain ⟨I0, I1, h0_, hr_, b_, f_, d_⟩ := bx_cl (evs := [(2, (3, 0), (3, 0), .inl none), (2, (3, 0), (4, 0), .inl none), (2, (3, 0), (5, 0), .inl none), (2, (3, 0), (6, 0), .inl none), (2, (3, 0), (8, 0), .inl none), (2, (3, 0), (9, 0), .inl none), (2, (3, 0), (10, 0), .inl none), (2, (3, 0), (11, 0), .inl none), (2, (1042, 0), (0, 0), .inl none), (2, (99999, 0), (0, 0), .inl none)]) (fvs := [(3, (12, 0), (0, 0), (0, 0))]) hseg (by decide +kernel) (by decide +kernel)
  have hinv : rxITLF_2 S0 ws S (r 8) (r 9) (r 10) (r 11) (r 12) := hinv
  rw [← hr_ 8 (by decide), ← hr_ 9 (by decide), ← hr_ 10 (by decide), ← hr_ 11 (by decide), ← hr_ 12 (by decide)] at hinv
  obtain ⟨⟨l8, u8⟩, ⟨l9, u9⟩, ⟨l10, u10⟩, ⟨l11, u11⟩, ⟨l12, u12⟩, -⟩ := b_
  obtain ⟨f0, -⟩ := f_
  obtain ⟨T0, ⟨T1, ⟨T2, ⟨T3, ⟨T4, ⟨T5, ⟨T6, ⟨T7, ⟨T8, ⟨T9, w_, v9⟩, v8⟩, v7⟩, v6⟩, v5⟩, v4⟩, v3⟩, v2⟩, v1⟩, v0⟩ := d_
  subst w_
  have g := rxdTLF_2_2 hP hin hsm_ I0 I1 hinv l8 u8 l9 u9 l10 u10 l11 u11 l12 u12 f0 v9 v8 v7 v6 v5 v4 v3 v2 v1 v0
  refine ⟨bx_narP_ok (l := []) g.1, ?_⟩
  show rxPSTLF S0 ws S_p (some (bx_num r_p (.inr (0, (0, (-1))))))
  rw [bx_xv_ok h0_]
  exact g.2
theorem rxdTLF_2_3 {S0 : Nat → Int → Int} {ws : List Int} {S T9 T8 T7 T6 T5 T4 T3 T2 T1 T0 : Nat → Int → Int} {on ot cu wh r : Int} (hP : rxPTLF S0 ws) (hin : bx_same rxL (bx_mdl rxC176.2.2.1) S0 S) (hin2 : bx_same rxL (bx_mdl rxC176.2.2.1) S T0) (I0 : bx_Inv rxL S) (I1 : bx_Inv rxL T0) (hinv : rxITLF_2 S0 ws S on ot cu wh r) (l8 : (-2147483648) ≤ on) (u8 : on ≤ 2147483647) (l9 : (-2147483648) ≤ ot) (u9 : ot ≤ 2147483647) (l10 : (-2147483648) ≤ cu) (u10 : cu ≤ 2147483647) (l11 : 3 ≤ wh) (u11 : wh ≤ 9) (l12 : 1 ≤ r) (u12 : r ≤ 1) (f0 : r ≠ 0) (v9 : ∀ (p i : Nat), p < rxL.2.1 → i < bx_wd (rxL.1 p) → bx_mc (rxL.1 p) i ≠ (99999, 0) → T9 p (i : Int) = S p (i : Int)) (v8 : ∀ (p i : Nat), p < rxL.2.1 → i < bx_wd (rxL.1 p) → bx_mc (rxL.1 p) i ≠ (1042, 0) → T8 p (i : Int) = T9 p (i : Int)) (v7 : ∀ (p i : Nat), p < rxL.2.1 → i < bx_wd (rxL.1 p) → bx_mc (rxL.1 p) i ≠ (3, 11) → T7 p (i : Int) = T8 p (i : Int)) (v6 : ∀ (p i : Nat), p < rxL.2.1 → i < bx_wd (rxL.1 p) → bx_mc (rxL.1 p) i ≠ (3, 10) → T6 p (i : Int) = T7 p (i : Int)) (v5 : ∀ (p i : Nat), p < rxL.2.1 → i < bx_wd (rxL.1 p) → bx_mc (rxL.1 p) i ≠ (3, 9) → T5 p (i : Int) = T6 p (i : Int)) (v4 : ∀ (p i : Nat), p < rxL.2.1 → i < bx_wd (rxL.1 p) → bx_mc (rxL.1 p) i ≠ (3, 8) → T4 p (i : Int) = T5 p (i : Int)) (v3 : ∀ (p i : Nat), p < rxL.2.1 → i < bx_wd (rxL.1 p) → bx_mc (rxL.1 p) i ≠ (3, 6) → T3 p (i : Int) = T4 p (i : Int)) (v2 : ∀ (p i : Nat), p < rxL.2.1 → i < bx_wd (rxL.1 p) → bx_mc (rxL.1 p) i ≠ (3, 5) → T2 p (i : Int) = T3 p (i : Int)) (v1 : ∀ (p i : Nat), p < rxL.2.1 → i < bx_wd (rxL.1 p) → bx_mc (rxL.1 p) i ≠ (3, 4) → T1 p (i : Int) = T2 p (i : Int)) (v0 : ∀ (p i : Nat), p < rxL.2.1 → i < bx_wd (rxL.1 p) → bx_mc (rxL.1 p) i ≠ (3, 3) → T0 p (i : Int) = T1 p (i : Int)) : (True) ∧ rxPSTLF S0 ws T0 (some ((-1))) := by
  obtain ⟨hf, hc⟩ := hinv
  exact ⟨trivial, rjdSm_t hf (rjdSm_t (rjdSm_t (rjdSm_t (rjdSm_t (rjdSm_t (rjdSm_t (rjdSm_t (rjdSm_t (rjdSm_t (rjdSm_v v9 (by decide) (by decide)) (rjdSm_v v8 (by decide) (by decide))) (rjdSm_v v7 (by decide) (by decide))) (rjdSm_v v6 (by decide) (by decide))) (rjdSm_v v5 (by decide) (by decide))) (rjdSm_v v4 (by decide) (by decide))) (rjdSm_v v3 (by decide) (by decide))) (rjdSm_v v2 (by decide) (by decide))) (rjdSm_v v1 (by decide) (by decide))) (rjdSm_v v0 (by decide) (by decide)))⟩
theorem rxfTLF_2_3 {X : (Nat → Int → Int) → Prop} {S0 : Nat → Int → Int} {ws : List Int} (hP : rxPTLF S0 ws) : bx_obE rxL X S0 rxC176.2.2.1 (rxITLF S0 ws) (rxPSTLF S0 ws) 2 rxzTLF_2 rxeTLF_2_3 := by
  intro S S_p r r_p hinv hX hin hsm_ hseg
  obtain ⟨I0, I1, h0_, hr_, b_, f_, d_⟩ := bx_cl (evs := [(2, (3, 0), (3, 0), .inl none), (2, (3, 0), (4, 0), .inl none), (2, (3, 0), (5, 0), .inl none), (2, (3, 0), (6, 0), .inl none), (2, (3, 0), (8, 0), .inl none), (2, (3, 0), (9, 0), .inl none), (2, (3, 0), (10, 0), .inl none), (2, (3, 0), (11, 0), .inl none), (2, (1042, 0), (0, 0), .inl none), (2, (99999, 0), (0, 0), .inl none)]) (fvs := [(3, (12, 0), (0, 0), (0, 0))]) hseg (by decide +kernel) (by decide +kernel)
  have hinv : rxITLF_2 S0 ws S (r 8) (r 9) (r 10) (r 11) (r 12) := hinv
  rw [← hr_ 8 (by decide), ← hr_ 9 (by decide), ← hr_ 10 (by decide), ← hr_ 11 (by decide), ← hr_ 12 (by decide)] at hinv
  obtain ⟨⟨l8, u8⟩, ⟨l9, u9⟩, ⟨l10, u10⟩, ⟨l11, u11⟩, ⟨l12, u12⟩, -⟩ := b_
  obtain ⟨f0, -⟩ := f_
  obtain ⟨T0, ⟨T1, ⟨T2, ⟨T3, ⟨T4, ⟨T5, ⟨T6, ⟨T7, ⟨T8, ⟨T9, w_, v9⟩, v8⟩, v7⟩, v6⟩, v5⟩, v4⟩, v3⟩, v2⟩, v1⟩, v0⟩ := d_
  subst w_
  have g := rxdTLF_2_3 hP hin hsm_ I0 I1 hinv l8 u8 l9 u9 l10 u10 l11 u11 l12 u12 f0 v9 v8 v7 v6 v5 v4 v3 v2 v1 v0
  refine ⟨bx_narP_ok (l := []) g.1, ?_⟩
  show rxPSTLF S0 ws S_p (some (bx_num r_p (.inr (0, (0, (-1))))))
  rw [bx_xv_ok h0_]
  exact g.2
theorem rxdTLF_2_4 {S0 : Nat → Int → Int} {ws : List Int} {S T9 T8 T7 T6 T5 T4 T3 T2 T1 T0 : Nat → Int → Int} {on ot cu wh r : Int} (hP : rxPTLF S0 ws) (hin : bx_same rxL (bx_mdl rxC176.2.2.1) S0 S) (hin2 : bx_same rxL (bx_mdl rxC176.2.2.1) S T0) (I0 : bx_Inv rxL S) (I1 : bx_Inv rxL T0) (hinv : rxITLF_2 S0 ws S on ot cu wh r) (l8 : (-2147483648) ≤ on) (u8 : on ≤ 2147483647) (l9 : (-2147483648) ≤ ot) (u9 : ot ≤ 2147483647) (l10 : (-2147483648) ≤ cu) (u10 : cu ≤ 2147483647) (l11 : (-2147483648) ≤ wh) (u11 : wh ≤ (-1)) (l12 : 1 ≤ r) (u12 : r ≤ 1) (f0 : r ≠ 0) (v9 : ∀ (p i : Nat), p < rxL.2.1 → i < bx_wd (rxL.1 p) → bx_mc (rxL.1 p) i ≠ (99999, 0) → T9 p (i : Int) = S p (i : Int)) (v8 : ∀ (p i : Nat), p < rxL.2.1 → i < bx_wd (rxL.1 p) → bx_mc (rxL.1 p) i ≠ (1042, 0) → T8 p (i : Int) = T9 p (i : Int)) (v7 : ∀ (p i : Nat), p < rxL.2.1 → i < bx_wd (rxL.1 p) → bx_mc (rxL.1 p) i ≠ (3, 11) → T7 p (i : Int) = T8 p (i : Int)) (v6 : ∀ (p i : Nat), p < rxL.2.1 → i < bx_wd (rxL.1 p) → bx_mc (rxL.1 p) i ≠ (3, 10) → T6 p (i : Int) = T7 p (i : Int)) (v5 : ∀ (p i : Nat), p < rxL.2.1 → i < bx_wd (rxL.1 p) → bx_mc (rxL.1 p) i ≠ (3, 9) → T5 p (i : Int) = T6 p (i : Int)) (v4 : ∀ (p i : Nat), p < rxL.2.1 → i < bx_wd (rxL.1 p) → bx_mc (rxL.1 p) i ≠ (3, 8) → T4 p (i : Int) = T5 p (i : Int)) (v3 : ∀ (p i : Nat), p < rxL.2.1 → i < bx_wd (rxL.1 p) → bx_mc (rxL.1 p) i ≠ (3, 6) → T3 p (i : Int) = T4 p (i : Int)) (v2 : ∀ (p i : Nat), p < rxL.2.1 → i < bx_wd (rxL.1 p) → bx_mc (rxL.1 p) i ≠ (3, 5) → T2 p (i : Int) = T3 p (i : Int)) (v1 : ∀ (p i : Nat), p < rxL.2.1 → i < bx_wd (rxL.1 p) → bx_mc (rxL.1 p) i ≠ (3, 4) → T1 p (i : Int) = T2 p (i : Int)) (v0 : ∀ (p i : Nat), p < rxL.2.1 → i < bx_wd (rxL.1 p) → bx_mc (rxL.1 p) i ≠ (3, 3) → T0 p (i : Int) = T1 p (i : Int)) : (True) ∧ rxPSTLF S0 ws T0 (some ((-1))) := by
  obtain ⟨hf, hc⟩ := hinv
  exact ⟨trivial, rjdSm_t hf (rjdSm_t (rjdSm_t (rjdSm_t (rjdSm_t (rjdSm_t (rjdSm_t (rjdSm_t (rjdSm_t (rjdSm_t (rjdSm_v v9 (by decide) (by decide)) (rjdSm_v v8 (by decide) (by decide))) (rjdSm_v v7 (by decide) (by decide))) (rjdSm_v v6 (by decide) (by decide))) (rjdSm_v v5 (by decide) (by decide))) (rjdSm_v v4 (by decide) (by decide))) (rjdSm_v v3 (by decide) (by decide))) (rjdSm_v v2 (by decide) (by decide))) (rjdSm_v v1 (by decide) (by decide))) (rjdSm_v v0 (by decide) (by decide)))⟩
theorem rxfTLF_2_4 {X : (Nat → Int → Int) → Prop} {S0 : Nat → Int → Int} {ws : List Int} (hP : rxPTLF S0 ws) : bx_obE rxL X S0 rxC176.2.2.1 (rxITLF S0 ws) (rxPSTLF S0 ws) 2 rxzTLF_2 rxeTLF_2_4 := by
  intro S S_p r r_p hinv hX hin hsm_ hseg
  obtain ⟨I0, I1, h0_, hr_, b_, f_, d_⟩ := bx_cl (evs := [(2, (3, 0), (3, 0), .inl none), (2, (3, 0), (4, 0), .inl none), (2, (3, 0), (5, 0), .inl none), (2, (3, 0), (6, 0), .inl none), (2, (3, 0), (8, 0), .inl none), (2, (3, 0), (9, 0), .inl none), (2, (3, 0), (10, 0), .inl none), (2, (3, 0), (11, 0), .inl none), (2, (1042, 0), (0, 0), .inl none), (2, (99999, 0), (0, 0), .inl none)]) (fvs := [(3, (12, 0), (0, 0), (0, 0))]) hseg (by decide +kernel) (by decide +kernel)
  have hinv : rxITLF_2 S0 ws S (r 8) (r 9) (r 10) (r 11) (r 12) := hinv
  rw [← hr_ 8 (by decide), ← hr_ 9 (by decide), ← hr_ 10 (by decide), ← hr_ 11 (by decide), ← hr_ 12 (by decide)] at hinv
  obtain ⟨⟨l8, u8⟩, ⟨l9, u9⟩, ⟨l10, u10⟩, ⟨l11, u11⟩, ⟨l12, u12⟩, -⟩ := b_
  obtain ⟨f0, -⟩ := f_
  obtain ⟨T0, ⟨T1, ⟨T2, ⟨T3, ⟨T4, ⟨T5, ⟨T6, ⟨T7, ⟨T8, ⟨T9, w_, v9⟩, v8⟩, v7⟩, v6⟩, v5⟩, v4⟩, v3⟩, v2⟩, v1⟩, v0⟩ := d_
  subst w_
  have g := rxdTLF_2_4 hP hin hsm_ I0 I1 hinv l8 u8 l9 u9 l10 u10 l11 u11 l12 u12 f0 v9 v8 v7 v6 v5 v4 v3 v2 v1 v0
  refine ⟨bx_narP_ok (l := []) g.1, ?_⟩
  show rxPSTLF S0 ws S_p (some (bx_num r_p (.inr (0, (0, (-1))))))
  rw [bx_xv_ok h0_]
  exact g.2
theorem rxdTLF_2_5 {S0 : Nat → Int → Int} {ws : List Int} {S T10 T9 T8 T7 T6 T5 T4 T3 T2 T1 : Nat → Int → Int} {on ot cu wh r x13 : Int} (hP : rxPTLF S0 ws) (hin : bx_same rxL (bx_mdl rxC176.2.2.1) S0 S) (hin2 : bx_same rxL (bx_mdl rxC176.2.2.1) S T1) (I0 : bx_Inv rxL S) (I1 : bx_Inv rxL T1) (hinv : rxITLF_2 S0 ws S on ot cu wh r) (l8 : (-2147483648) ≤ on) (u8 : on ≤ 2147483647) (l9 : (-2147483648) ≤ ot) (u9 : ot ≤ 2147483647) (l10 : (-2147483648) ≤ cu) (u10 : cu ≤ 2147483647) (l11 : 2 ≤ wh) (u11 : wh ≤ 2) (l12 : 1 ≤ r) (u12 : r ≤ 1) (l13 : (-2147483648) ≤ x13) (u13 : x13 ≤ 2147483647) (f0 : r ≠ 0) (v10 : ∀ (p i : Nat), p < rxL.2.1 → i < bx_wd (rxL.1 p) → bx_mc (rxL.1 p) i ≠ (99999, 0) → T10 p (i : Int) = S p (i : Int)) (v9 : ∀ (p i : Nat), p < rxL.2.1 → i < bx_wd (rxL.1 p) → bx_mc (rxL.1 p) i ≠ (1042, 0) → T9 p (i : Int) = T10 p (i : Int)) (v8 : ∀ (p i : Nat), p < rxL.2.1 → i < bx_wd (rxL.1 p) → bx_mc (rxL.1 p) i ≠ (3, 11) → T8 p (i : Int) = T9 p (i : Int)) (v7 : ∀ (p i : Nat), p < rxL.2.1 → i < bx_wd (rxL.1 p) → bx_mc (rxL.1 p) i ≠ (3, 10) → T7 p (i : Int) = T8 p (i : Int)) (v6 : ∀ (p i : Nat), p < rxL.2.1 → i < bx_wd (rxL.1 p) → bx_mc (rxL.1 p) i ≠ (3, 9) → T6 p (i : Int) = T7 p (i : Int)) (v5 : ∀ (p i : Nat), p < rxL.2.1 → i < bx_wd (rxL.1 p) → bx_mc (rxL.1 p) i ≠ (3, 8) → T5 p (i : Int) = T6 p (i : Int)) (v4 : ∀ (p i : Nat), p < rxL.2.1 → i < bx_wd (rxL.1 p) → bx_mc (rxL.1 p) i ≠ (3, 6) → T4 p (i : Int) = T5 p (i : Int)) (v3 : ∀ (p i : Nat), p < rxL.2.1 → i < bx_wd (rxL.1 p) → bx_mc (rxL.1 p) i ≠ (3, 5) → T3 p (i : Int) = T4 p (i : Int)) (v2 : ∀ (p i : Nat), p < rxL.2.1 → i < bx_wd (rxL.1 p) → bx_mc (rxL.1 p) i ≠ (3, 4) → T2 p (i : Int) = T3 p (i : Int)) (v1 : ∀ (p i : Nat), p < rxL.2.1 → i < bx_wd (rxL.1 p) → bx_mc (rxL.1 p) i ≠ (3, 3) → T1 p (i : Int) = T2 p (i : Int)) (e0 : T1 443 11 = x13) : (True) ∧ rxPSTLF S0 ws T1 (some x13) := by
  obtain ⟨hf, hc⟩ := hinv
  exact ⟨trivial, rjdSm_t hf (rjdSm_t (rjdSm_t (rjdSm_t (rjdSm_t (rjdSm_t (rjdSm_t (rjdSm_t (rjdSm_t (rjdSm_t (rjdSm_v v10 (by decide) (by decide)) (rjdSm_v v9 (by decide) (by decide))) (rjdSm_v v8 (by decide) (by decide))) (rjdSm_v v7 (by decide) (by decide))) (rjdSm_v v6 (by decide) (by decide))) (rjdSm_v v5 (by decide) (by decide))) (rjdSm_v v4 (by decide) (by decide))) (rjdSm_v v3 (by decide) (by decide))) (rjdSm_v v2 (by decide) (by decide))) (rjdSm_v v1 (by decide) (by decide)))⟩
theorem rxfTLF_2_5 {X : (Nat → Int → Int) → Prop} {S0 : Nat → Int → Int} {ws : List Int} (hP : rxPTLF S0 ws) : bx_obE rxL X S0 rxC176.2.2.1 (rxITLF S0 ws) (rxPSTLF S0 ws) 2 rxzTLF_2 rxeTLF_2_5 := by
  intro S S_p r r_p hinv hX hin hsm_ hseg
  obtain ⟨I0, I1, h0_, hr_, b_, f_, d_⟩ := bx_cl (evs := [(0, (0, 443), (0, 11), .inr (0, (13, 0))), (2, (3, 0), (3, 0), .inl none), (2, (3, 0), (4, 0), .inl none), (2, (3, 0), (5, 0), .inl none), (2, (3, 0), (6, 0), .inl none), (2, (3, 0), (8, 0), .inl none), (2, (3, 0), (9, 0), .inl none), (2, (3, 0), (10, 0), .inl none), (2, (3, 0), (11, 0), .inl none), (2, (1042, 0), (0, 0), .inl none), (2, (99999, 0), (0, 0), .inl none)]) (fvs := [(3, (12, 0), (0, 0), (0, 0))]) hseg (by decide +kernel) (by decide +kernel)
  have hinv : rxITLF_2 S0 ws S (r 8) (r 9) (r 10) (r 11) (r 12) := hinv
  rw [← hr_ 8 (by decide), ← hr_ 9 (by decide), ← hr_ 10 (by decide), ← hr_ 11 (by decide), ← hr_ 12 (by decide)] at hinv
  obtain ⟨⟨l8, u8⟩, ⟨l9, u9⟩, ⟨l10, u10⟩, ⟨l11, u11⟩, ⟨l12, u12⟩, ⟨l13, u13⟩, -⟩ := b_
  obtain ⟨f0, -⟩ := f_
  obtain ⟨e0, ⟨T1, ⟨T2, ⟨T3, ⟨T4, ⟨T5, ⟨T6, ⟨T7, ⟨T8, ⟨T9, ⟨T10, w_, v10⟩, v9⟩, v8⟩, v7⟩, v6⟩, v5⟩, v4⟩, v3⟩, v2⟩, v1⟩⟩ := d_
  subst w_
  have g := rxdTLF_2_5 hP hin hsm_ I0 I1 hinv l8 u8 l9 u9 l10 u10 l11 u11 l12 u12 l13 u13 f0 v10 v9 v8 v7 v6 v5 v4 v3 v2 v1 e0
  refine ⟨bx_narP_ok (l := []) g.1, ?_⟩
  show rxPSTLF S0 ws S_p (some (bx_num r_p (.inr (0, (13, 0)))))
  rw [bx_xv_ok h0_]
  exact g.2
theorem rxdTLF_2_6 {S0 : Nat → Int → Int} {ws : List Int} {S T10 T9 T8 T7 T6 T5 T4 T3 T2 T1 : Nat → Int → Int} {on ot cu wh r x13 : Int} (hP : rxPTLF S0 ws) (hin : bx_same rxL (bx_mdl rxC176.2.2.1) S0 S) (hin2 : bx_same rxL (bx_mdl rxC176.2.2.1) S T1) (I0 : bx_Inv rxL S) (I1 : bx_Inv rxL T1) (hinv : rxITLF_2 S0 ws S on ot cu wh r) (l8 : (-2147483648) ≤ on) (u8 : on ≤ 2147483647) (l9 : (-2147483648) ≤ ot) (u9 : ot ≤ 2147483647) (l10 : (-2147483648) ≤ cu) (u10 : cu ≤ 2147483647) (l11 : 1 ≤ wh) (u11 : wh ≤ 1) (l12 : 1 ≤ r) (u12 : r ≤ 1) (l13 : (-2147483648) ≤ x13) (u13 : x13 ≤ 2147483647) (f0 : r ≠ 0) (v10 : ∀ (p i : Nat), p < rxL.2.1 → i < bx_wd (rxL.1 p) → bx_mc (rxL.1 p) i ≠ (99999, 0) → T10 p (i : Int) = S p (i : Int)) (v9 : ∀ (p i : Nat), p < rxL.2.1 → i < bx_wd (rxL.1 p) → bx_mc (rxL.1 p) i ≠ (1042, 0) → T9 p (i : Int) = T10 p (i : Int)) (v8 : ∀ (p i : Nat), p < rxL.2.1 → i < bx_wd (rxL.1 p) → bx_mc (rxL.1 p) i ≠ (3, 11) → T8 p (i : Int) = T9 p (i : Int)) (v7 : ∀ (p i : Nat), p < rxL.2.1 → i < bx_wd (rxL.1 p) → bx_mc (rxL.1 p) i ≠ (3, 10) → T7 p (i : Int) = T8 p (i : Int)) (v6 : ∀ (p i : Nat), p < rxL.2.1 → i < bx_wd (rxL.1 p) → bx_mc (rxL.1 p) i ≠ (3, 9) → T6 p (i : Int) = T7 p (i : Int)) (v5 : ∀ (p i : Nat), p < rxL.2.1 → i < bx_wd (rxL.1 p) → bx_mc (rxL.1 p) i ≠ (3, 8) → T5 p (i : Int) = T6 p (i : Int)) (v4 : ∀ (p i : Nat), p < rxL.2.1 → i < bx_wd (rxL.1 p) → bx_mc (rxL.1 p) i ≠ (3, 6) → T4 p (i : Int) = T5 p (i : Int)) (v3 : ∀ (p i : Nat), p < rxL.2.1 → i < bx_wd (rxL.1 p) → bx_mc (rxL.1 p) i ≠ (3, 5) → T3 p (i : Int) = T4 p (i : Int)) (v2 : ∀ (p i : Nat), p < rxL.2.1 → i < bx_wd (rxL.1 p) → bx_mc (rxL.1 p) i ≠ (3, 4) → T2 p (i : Int) = T3 p (i : Int)) (v1 : ∀ (p i : Nat), p < rxL.2.1 → i < bx_wd (rxL.1 p) → bx_mc (rxL.1 p) i ≠ (3, 3) → T1 p (i : Int) = T2 p (i : Int)) (e0 : T1 443 10 = x13) : (True) ∧ rxPSTLF S0 ws T1 (some x13) := by
  obtain ⟨hf, hc⟩ := hinv
  exact ⟨trivial, rjdSm_t hf (rjdSm_t (rjdSm_t (rjdSm_t (rjdSm_t (rjdSm_t (rjdSm_t (rjdSm_t (rjdSm_t (rjdSm_t (rjdSm_v v10 (by decide) (by decide)) (rjdSm_v v9 (by decide) (by decide))) (rjdSm_v v8 (by decide) (by decide))) (rjdSm_v v7 (by decide) (by decide))) (rjdSm_v v6 (by decide) (by decide))) (rjdSm_v v5 (by decide) (by decide))) (rjdSm_v v4 (by decide) (by decide))) (rjdSm_v v3 (by decide) (by decide))) (rjdSm_v v2 (by decide) (by decide))) (rjdSm_v v1 (by decide) (by decide)))⟩
theorem rxfTLF_2_6 {X : (Nat → Int → Int) → Prop} {S0 : Nat → Int → Int} {ws : List Int} (hP : rxPTLF S0 ws) : bx_obE rxL X S0 rxC176.2.2.1 (rxITLF S0 ws) (rxPSTLF S0 ws) 2 rxzTLF_2 rxeTLF_2_6 := by
  intro S S_p r r_p hinv hX hin hsm_ hseg
  obtain ⟨I0, I1, h0_, hr_, b_, f_, d_⟩ := bx_cl (evs := [(0, (0, 443), (0, 10), .inr (0, (13, 0))), (2, (3, 0), (3, 0), .inl none), (2, (3, 0), (4, 0), .inl none), (2, (3, 0), (5, 0), .inl none), (2, (3, 0), (6, 0), .inl none), (2, (3, 0), (8, 0), .inl none), (2, (3, 0), (9, 0), .inl none), (2, (3, 0), (10, 0), .inl none), (2, (3, 0), (11, 0), .inl none), (2, (1042, 0), (0, 0), .inl none), (2, (99999, 0), (0, 0), .inl none)]) (fvs := [(3, (12, 0), (0, 0), (0, 0))]) hseg (by decide +kernel) (by decide +kernel)
  have hinv : rxITLF_2 S0 ws S (r 8) (r 9) (r 10) (r 11) (r 12) := hinv
  rw [← hr_ 8 (by decide), ← hr_ 9 (by decide), ← hr_ 10 (by decide), ← hr_ 11 (by decide), ← hr_ 12 (by decide)] at hinv
  obtain ⟨⟨l8, u8⟩, ⟨l9, u9⟩, ⟨l10, u10⟩, ⟨l11, u11⟩, ⟨l12, u12⟩, ⟨l13, u13⟩, -⟩ := b_
  obtain ⟨f0, -⟩ := f_
  obtain ⟨e0, ⟨T1, ⟨T2, ⟨T3, ⟨T4, ⟨T5, ⟨T6, ⟨T7, ⟨T8, ⟨T9, ⟨T10, w_, v10⟩, v9⟩, v8⟩, v7⟩, v6⟩, v5⟩, v4⟩, v3⟩, v2⟩, v1⟩⟩ := d_
  subst w_
  have g := rxdTLF_2_6 hP hin hsm_ I0 I1 hinv l8 u8 l9 u9 l10 u10 l11 u11 l12 u12 l13 u13 f0 v10 v9 v8 v7 v6 v5 v4 v3 v2 v1 e0
  refine ⟨bx_narP_ok (l := []) g.1, ?_⟩
  show rxPSTLF S0 ws S_p (some (bx_num r_p (.inr (0, (13, 0)))))
  rw [bx_xv_ok h0_]
  exact g.2
theorem rxdTLF_2_7 {S0 : Nat → Int → Int} {ws : List Int} {S T10 T9 T8 T7 T6 T5 T4 T3 T2 T1 : Nat → Int → Int} {on ot cu wh r x13 : Int} (hP : rxPTLF S0 ws) (hin : bx_same rxL (bx_mdl rxC176.2.2.1) S0 S) (hin2 : bx_same rxL (bx_mdl rxC176.2.2.1) S T1) (I0 : bx_Inv rxL S) (I1 : bx_Inv rxL T1) (hinv : rxITLF_2 S0 ws S on ot cu wh r) (l8 : (-2147483648) ≤ on) (u8 : on ≤ 2147483647) (l9 : (-2147483648) ≤ ot) (u9 : ot ≤ 2147483647) (l10 : (-2147483648) ≤ cu) (u10 : cu ≤ 2147483647) (l11 : 0 ≤ wh) (u11 : wh ≤ 0) (l12 : 1 ≤ r) (u12 : r ≤ 1) (l13 : (-1) ≤ x13) (u13 : x13 ≤ 432) (f0 : r ≠ 0) (v10 : ∀ (p i : Nat), p < rxL.2.1 → i < bx_wd (rxL.1 p) → bx_mc (rxL.1 p) i ≠ (99999, 0) → T10 p (i : Int) = S p (i : Int)) (v9 : ∀ (p i : Nat), p < rxL.2.1 → i < bx_wd (rxL.1 p) → bx_mc (rxL.1 p) i ≠ (1042, 0) → T9 p (i : Int) = T10 p (i : Int)) (v8 : ∀ (p i : Nat), p < rxL.2.1 → i < bx_wd (rxL.1 p) → bx_mc (rxL.1 p) i ≠ (3, 11) → T8 p (i : Int) = T9 p (i : Int)) (v7 : ∀ (p i : Nat), p < rxL.2.1 → i < bx_wd (rxL.1 p) → bx_mc (rxL.1 p) i ≠ (3, 10) → T7 p (i : Int) = T8 p (i : Int)) (v6 : ∀ (p i : Nat), p < rxL.2.1 → i < bx_wd (rxL.1 p) → bx_mc (rxL.1 p) i ≠ (3, 9) → T6 p (i : Int) = T7 p (i : Int)) (v5 : ∀ (p i : Nat), p < rxL.2.1 → i < bx_wd (rxL.1 p) → bx_mc (rxL.1 p) i ≠ (3, 8) → T5 p (i : Int) = T6 p (i : Int)) (v4 : ∀ (p i : Nat), p < rxL.2.1 → i < bx_wd (rxL.1 p) → bx_mc (rxL.1 p) i ≠ (3, 6) → T4 p (i : Int) = T5 p (i : Int)) (v3 : ∀ (p i : Nat), p < rxL.2.1 → i < bx_wd (rxL.1 p) → bx_mc (rxL.1 p) i ≠ (3, 5) → T3 p (i : Int) = T4 p (i : Int)) (v2 : ∀ (p i : Nat), p < rxL.2.1 → i < bx_wd (rxL.1 p) → bx_mc (rxL.1 p) i ≠ (3, 4) → T2 p (i : Int) = T3 p (i : Int)) (v1 : ∀ (p i : Nat), p < rxL.2.1 → i < bx_wd (rxL.1 p) → bx_mc (rxL.1 p) i ≠ (3, 3) → T1 p (i : Int) = T2 p (i : Int)) (e0 : T1 443 9 = x13) : (True) ∧ rxPSTLF S0 ws T1 (some x13) := by
  obtain ⟨hf, hc⟩ := hinv
  exact ⟨trivial, rjdSm_t hf (rjdSm_t (rjdSm_t (rjdSm_t (rjdSm_t (rjdSm_t (rjdSm_t (rjdSm_t (rjdSm_t (rjdSm_t (rjdSm_v v10 (by decide) (by decide)) (rjdSm_v v9 (by decide) (by decide))) (rjdSm_v v8 (by decide) (by decide))) (rjdSm_v v7 (by decide) (by decide))) (rjdSm_v v6 (by decide) (by decide))) (rjdSm_v v5 (by decide) (by decide))) (rjdSm_v v4 (by decide) (by decide))) (rjdSm_v v3 (by decide) (by decide))) (rjdSm_v v2 (by decide) (by decide))) (rjdSm_v v1 (by decide) (by decide)))⟩
theorem rxfTLF_2_7 {X : (Nat → Int → Int) → Prop} {S0 : Nat → Int → Int} {ws : List Int} (hP : rxPTLF S0 ws) : bx_obE rxL X S0 rxC176.2.2.1 (rxITLF S0 ws) (rxPSTLF S0 ws) 2 rxzTLF_2 rxeTLF_2_7 := by
  intro S S_p r r_p hinv hX hin hsm_ hseg
  obtain ⟨I0, I1, h0_, hr_, b_, f_, d_⟩ := bx_cl (evs := [(0, (0, 443), (0, 9), .inr (0, (13, 0))), (2, (3, 0), (3, 0), .inl none), (2, (3, 0), (4, 0), .inl none), (2, (3, 0), (5, 0), .inl none), (2, (3, 0), (6, 0), .inl none), (2, (3, 0), (8, 0), .inl none), (2, (3, 0), (9, 0), .inl none), (2, (3, 0), (10, 0), .inl none), (2, (3, 0), (11, 0), .inl none), (2, (1042, 0), (0, 0), .inl none), (2, (99999, 0), (0, 0), .inl none)]) (fvs := [(3, (12, 0), (0, 0), (0, 0))]) hseg (by decide +kernel) (by decide +kernel)
  have hinv : rxITLF_2 S0 ws S (r 8) (r 9) (r 10) (r 11) (r 12) := hinv
  rw [← hr_ 8 (by decide), ← hr_ 9 (by decide), ← hr_ 10 (by decide), ← hr_ 11 (by decide), ← hr_ 12 (by decide)] at hinv
  obtain ⟨⟨l8, u8⟩, ⟨l9, u9⟩, ⟨l10, u10⟩, ⟨l11, u11⟩, ⟨l12, u12⟩, ⟨l13, u13⟩, -⟩ := b_
  obtain ⟨f0, -⟩ := f_
  obtain ⟨e0, ⟨T1, ⟨T2, ⟨T3, ⟨T4, ⟨T5, ⟨T6, ⟨T7, ⟨T8, ⟨T9, ⟨T10, w_, v10⟩, v9⟩, v8⟩, v7⟩, v6⟩, v5⟩, v4⟩, v3⟩, v2⟩, v1⟩⟩ := d_
  subst w_
  have g := rxdTLF_2_7 hP hin hsm_ I0 I1 hinv l8 u8 l9 u9 l10 u10 l11 u11 l12 u12 l13 u13 f0 v10 v9 v8 v7 v6 v5 v4 v3 v2 v1 e0
  refine ⟨bx_narP_ok (l := []) g.1, ?_⟩
  show rxPSTLF S0 ws S_p (some (bx_num r_p (.inr (0, (13, 0)))))
  rw [bx_xv_ok h0_]
  exact g.2
theorem rxgCTLF {X : (Nat → Int → Int) → Prop} {S0 : Nat → Int → Int} {ws : List Int} (hP : rxPTLF S0 ws) : bx_allI (fun i q => rxUTLF q = true ∨ bx_allP (fun o => bx_obC rxL X S0 rxC176.2.2.1 (rxITLF S0 ws) (rxmTLF S0 ws) i q.1 o) q.2.1) 0 rxYTLF := ⟨Or.inr ⟨rxgTLF_0_0 hP, trivial⟩, Or.inl rfl, Or.inr trivial, trivial⟩
theorem rxgETLF {X : (Nat → Int → Int) → Prop} {S0 : Nat → Int → Int} {ws : List Int} (hP : rxPTLF S0 ws) : bx_allI (fun i q => rxUTLF q = true ∨ bx_allP (fun E => bx_obE rxL X S0 rxC176.2.2.1 (rxITLF S0 ws) (rxPSTLF S0 ws) i q.1 E) q.2.2) 0 rxYTLF := ⟨Or.inr trivial, Or.inl rfl, Or.inr ⟨rxfTLF_2_0 hP, rxfTLF_2_1 hP, rxfTLF_2_2 hP, rxfTLF_2_3 hP, rxfTLF_2_4 hP, rxfTLF_2_5 hP, rxfTLF_2_6 hP, rxfTLF_2_7 hP, trivial⟩, trivial⟩
theorem rxuTLF {PX : State → Prop} {Dg : va_G} {A : Nat → Prop} {ad xa : Nat → Nat} {l : Launch} {X : (Nat → Int → Int) → Prop} (hPX : rx_PXOK rxNW A PX) (hX : ∀ S S1 : Nat → Int → Int, X S → bx_same rxL (bx_mdl rxC176.2.2.1) S S1 → X S1) (hQSDT : bx_ConP rxG rxNW rxAO PX Dg rxL X vwCl A ad l rxM130 rxC130 rxPSDT rxPSSDT) {S0 : Nat → Int → Int} {ws : List Int} (hP : rxPTLF S0 ws) : ∀ (i : Nat) (q : bx_HE), rxYTLF[i]? = some q → rxUTLF q = true → ∀ {p : Program} {e : Env} {R : Room} {s : State} {m : MethodId} {args : Array Value} {below : List Frame} {meth : Method} {c : Code} {Q : State → Prop} {H0 : Heap}, rx_Fr rxG rxNW rxAO PX p s m args meth c rxM176 → (∀ q, H0.size ≤ q → A q) → H0 = s.heap → rxM176.2.2.2.2.2.2.1 ≤ R.cells → rxM176.2.2.2.2.2.2.2 ≤ R.slots → rxC176.2.2.2.1 ≤ R.frames → rxC176.2.2.2.1 * 40 ≤ R.locals → bx_Step p l e R s m args below meth c Q Dg rxL X vwCl A xa H0 ad rxM176 rxYTLF (rxITLF S0 ws) (rxmTLF S0 ws) S0 rxC176.2.2.1 i q := by
  intro i q hq hus p e R s m args below meth c Q H0 hF hA hH0 hmc hms hd hdl
  match i, hq with
  | 0, hq =>
    cases hq
    exact absurd (show false = true from hus) Bool.false_ne_true
  | 1, hq =>
    cases hq
    exact rx_stepC (ins := .invokevirtual 298) (len := 3) (i_p := 2) (M_p := rxM130) (d := rxC176.2.2.2.1) (as := [.inr (3, (0, 0)), .inr (0, (8, 0)), .inr (0, (9, 0)), .inr (0, (10, 0))]) (t := []) (ct := rxC130) hPX hF rfl hA hH0 hmc hms hd hdl (by decide +kernel) rfl rfl (by decide +kernel) (by decide +kernel) hQSDT (by decide +kernel) rfl (Or.inr ⟨_, _, _, 1, rfl, rfl, by omega, rfl, rfl, rfl⟩) (rxsTLF_1 hP)
  | 2, hq =>
    cases hq
    exact absurd (show false = true from hus) Bool.false_ne_true
  | n + 3, hq => cases hq
theorem rxQTLF {PX : State → Prop} {Dg : va_G} {A : Nat → Prop} {ad xa : Nat → Nat} {l : Launch} {X : (Nat → Int → Int) → Prop} (hPX : rx_PXOK rxNW A PX) (hsl : ∀ s : State, PX s → ∀ o idx n : Nat, rxSl o idx = some n → ∃ tx : String, vk_R (rxNm o) idx tx (ad n) s)
    (hX : ∀ S S_p : Nat → Int → Int, X S → bx_same rxL (bx_mdl rxC176.2.2.1) S S_p → X S_p)
    (ih : ∀ (j2 : Nat) (ct2 : bx_Ct) (M2 : rx_Mt), ct2 ∈ rxCn j2 → ct2.2.2.2.1 + 1 ≤ rxC176.2.2.2.1 → rxT.2.2.2.2.2 j2 = some M2 → bx_Con rxG rxNW rxAO PX Dg rxL X vwCl A ad l M2 ct2) (hQSDT : bx_ConP rxG rxNW rxAO PX Dg rxL X vwCl A ad l rxM130 rxC130 rxPSDT rxPSSDT) : bx_ConP rxG rxNW rxAO PX Dg rxL X vwCl A ad l rxM176 rxC176 rxPTLF rxPSTLF :=
  rxQof (xa := xa) (Cn := rxCn) (f := 30000) (j := 176) (tab := rxYTLF) (us := rxUTLF) hPX hsl hX ih rfl rxYcTLF rxITLF rxmTLF
    (fun S0 ws r I0 I ht0 ht as he he1 hX0 hI0 hP hs ha => by
      have e := he.symm.trans (show bx_ent0 rxNP rxC176.1 bx_I0 [] = some ([(0, 0), (0, 0), (0, 0), (0, 0), (0, 0), (0, 0), (0, 0), (0, 0), ((-2147483648), 2147483647), ((-2147483648), 2147483647), ((-2147483648), 2147483647), ((-2147483648), 2147483647)], [], [.inr (3, (0, 0)), .inr (0, (8, 0)), .inr (0, (9, 0)), .inr (0, (10, 0)), .inr (0, (11, 0))]) from rfl)
      cases e
      subst ha
      have h0 : r 0 = 0 := hs.1
      show rxITLF_0 S0 _ S0 (r 8) (r 9) (r 10) (r 11)
      refine ⟨rfl, ?_⟩
      simp only [List.map_cons, List.map_nil, bx_xv_ok h0]
      rfl)
    (fun S0 ws hP => rxuTLF (xa := xa) hPX hX hQSDT hP) (fun S0 ws hP => rxgCTLF hP) (fun S0 ws hP => rxgETLF hP)
end
