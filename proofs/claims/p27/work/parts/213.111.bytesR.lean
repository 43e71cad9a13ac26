noncomputable def rxCFOUR : bx_Ct := ([(3, (1, 480, 0)), (0, (0, (-2147483648), 2147483647))], none, [(12, 8), (1066, 0)], 0, [])
noncomputable def rxIFOUR_0 (S0 : Nat → Int → Int) (ws : List Int) (S : Nat → Int → Int) (b : Int) : Prop := S = S0 ∧ ws = [480, b]
noncomputable def rxmFOUR_0 (S0 : Nat → Int → Int) (ws : List Int) (S : Nat → Int → Int) (b : Int) : Nat := 1000
noncomputable def rxzFOUR_0 : rx_Z := ([(0, 0), (0, 0), (0, 0), (0, 0), (0, 0), (0, 0), (0, 0), (0, 0), ((-2147483648), 2147483647)], [], [], 0, 0, 0, [(0, .inr (3, (0, 480))), (1, .inr (0, (8, 0)))], [])
noncomputable def rxIFOUR_1 (S0 : Nat → Int → Int) (ws : List Int) (S : Nat → Int → Int) (b sh nn : Int) : Prop := ws = [480, b] ∧ ∃ k : Int, 0 ≤ k ∧ k ≤ 3 ∧ sh = 24 - 8 * k ∧ S 480 8 = S0 480 8 + k ∧ nn = S0 480 8 + k ∧ (∀ i : Int, 0 ≤ i → i < 400 → S 485 i = rzQ k (S0 480 8) b (S0 485 i) i)
noncomputable def rxmFOUR_1 (S0 : Nat → Int → Int) (ws : List Int) (S : Nat → Int → Int) (b sh nn : Int) : Nat := sh.toNat * 10 + 9
noncomputable def rxzFOUR_1 : rx_Z := ([(0, 0), (0, 0), (0, 0), (0, 0), (0, 0), (0, 0), (0, 0), (0, 0), ((-2147483648), 2147483647), (0, 24), (0, 399)], [], [], 0, 0, 17, [(0, .inr (3, (0, 480))), (1, .inr (0, (8, 0))), (2, .inr (0, (9, 0)))], [.inr (0, (9, 0)), .inr (0, (8, 0)), .inr (0, (10, 0)), .inr (3, (0, 485))])
noncomputable def rxIFOUR_2 (S0 : Nat → Int → Int) (ws : List Int) (S : Nat → Int → Int) (b sh nn y : Int) : Prop := ws = [480, b] ∧ ∃ k : Int, 0 ≤ k ∧ k ≤ 3 ∧ sh = 24 - 8 * k ∧ S 480 8 = S0 480 8 + k ∧ nn = S0 480 8 + k ∧ (∀ i : Int, 0 ≤ i → i < 400 → S 485 i = rzQ k (S0 480 8) b (S0 485 i) i) ∧ y = bx_opvB 30 b sh
noncomputable def rxmFOUR_2 (S0 : Nat → Int → Int) (ws : List Int) (S : Nat → Int → Int) (b sh nn y : Int) : Nat := sh.toNat * 10 + 8
noncomputable def rxzFOUR_2 : rx_Z := ([(0, 0), (0, 0), (0, 0), (0, 0), (0, 0), (0, 0), (0, 0), (0, 0), ((-2147483648), 2147483647), (0, 24), (0, 399), ((-2147483648), 2147483647)], [], [], 0, 0, 18, [(0, .inr (3, (0, 480))), (1, .inr (0, (8, 0))), (2, .inr (0, (9, 0)))], [.inr (0, (11, 0)), .inr (0, (10, 0)), .inr (3, (0, 485))])
noncomputable def rxIFOUR_3 (S0 : Nat → Int → Int) (ws : List Int) (S : Nat → Int → Int) (b sh nn y : Int) : Prop := ws = [480, b] ∧ ∃ k : Int, 0 ≤ k ∧ k ≤ 3 ∧ sh = 24 - 8 * k ∧ S 480 8 = S0 480 8 + k ∧ nn = S0 480 8 + k ∧ (∀ i : Int, 0 ≤ i → i < 400 → S 485 i = rzQ k (S0 480 8) b (S0 485 i) i) ∧ y = bx_opvB 30 b sh
noncomputable def rxmFOUR_3 (S0 : Nat → Int → Int) (ws : List Int) (S : Nat → Int → Int) (b sh nn y : Int) : Nat := sh.toNat * 10 + 7
noncomputable def rxzFOUR_3 : rx_Z := ([(0, 0), (0, 0), (0, 0), (0, 0), (0, 0), (0, 0), (0, 0), (0, 0), ((-2147483648), 2147483647), (0, 24), (0, 399), ((-2147483648), 2147483647)], [], [], 0, 0, 21, [(0, .inr (3, (0, 480))), (1, .inr (0, (8, 0))), (2, .inr (0, (9, 0)))], [.inr (0, (0, 255)), .inr (0, (11, 0)), .inr (0, (10, 0)), .inr (3, (0, 485))])
noncomputable def rxIFOUR_4 (S0 : Nat → Int → Int) (ws : List Int) (S : Nat → Int → Int) (b sh nn y v : Int) : Prop := ws = [480, b] ∧ ∃ k : Int, 0 ≤ k ∧ k ≤ 3 ∧ sh = 24 - 8 * k ∧ S 480 8 = S0 480 8 + k ∧ nn = S0 480 8 + k ∧ (∀ i : Int, 0 ≤ i → i < 400 → S 485 i = rzQ k (S0 480 8) b (S0 485 i) i) ∧ v = rzBy b k
noncomputable def rxmFOUR_4 (S0 : Nat → Int → Int) (ws : List Int) (S : Nat → Int → Int) (b sh nn y v : Int) : Nat := sh.toNat * 10 + 6
noncomputable def rxzFOUR_4 : rx_Z := ([(0, 0), (0, 0), (0, 0), (0, 0), (0, 0), (0, 0), (0, 0), (0, 0), ((-2147483648), 2147483647), (0, 24), (0, 399), ((-2147483648), 2147483647), (0, 255)], [], [], 0, 0, 22, [(0, .inr (3, (0, 480))), (1, .inr (0, (8, 0))), (2, .inr (0, (9, 0)))], [.inr (0, (12, 0)), .inr (0, (10, 0)), .inr (3, (0, 485))])
noncomputable def rxIFOUR_5 (S0 : Nat → Int → Int) (ws : List Int) (S : Nat → Int → Int) (b sh x : Int) : Prop := ws = [480, b] ∧ ∃ k : Int, 0 ≤ k ∧ k ≤ 3 ∧ sh = 24 - 8 * k ∧ S 480 8 = S0 480 8 + k ∧ x = S0 480 8 + k ∧ (∀ i : Int, 0 ≤ i → i < 400 → S 485 i = rzQ (k + 1) (S0 480 8) b (S0 485 i) i)
noncomputable def rxmFOUR_5 (S0 : Nat → Int → Int) (ws : List Int) (S : Nat → Int → Int) (b sh x : Int) : Nat := sh.toNat * 10 + 5
noncomputable def rxzFOUR_5 : rx_Z := ([(0, 0), (0, 0), (0, 0), (0, 0), (0, 0), (0, 0), (0, 0), (0, 0), ((-2147483648), 2147483647), (0, 24), (0, 400)], [], [], 0, 0, 29, [(0, .inr (3, (0, 480))), (1, .inr (0, (8, 0))), (2, .inr (0, (9, 0)))], [.inr (0, (0, 1)), .inr (0, (10, 0)), .inr (3, (0, 480))])
noncomputable def rxIFOUR_6 (S0 : Nat → Int → Int) (ws : List Int) (S : Nat → Int → Int) (b sh x n2 : Int) : Prop := ws = [480, b] ∧ ∃ k : Int, 0 ≤ k ∧ k ≤ 3 ∧ sh = 24 - 8 * k ∧ S 480 8 = S0 480 8 + k ∧ n2 = S0 480 8 + k + 1 ∧ (∀ i : Int, 0 ≤ i → i < 400 → S 485 i = rzQ (k + 1) (S0 480 8) b (S0 485 i) i)
noncomputable def rxmFOUR_6 (S0 : Nat → Int → Int) (ws : List Int) (S : Nat → Int → Int) (b sh x n2 : Int) : Nat := sh.toNat * 10 + 4
noncomputable def rxzFOUR_6 : rx_Z := ([(0, 0), (0, 0), (0, 0), (0, 0), (0, 0), (0, 0), (0, 0), (0, 0), ((-2147483648), 2147483647), (0, 24), (0, 400), (0, 400)], [], [], 0, 0, 30, [(0, .inr (3, (0, 480))), (1, .inr (0, (8, 0))), (2, .inr (0, (9, 0)))], [.inr (0, (11, 0)), .inr (3, (0, 480))])
noncomputable def rxoFOUR_0_0 : bx_HO := (([(0, 0), (0, 0), (0, 0), (0, 0), (0, 0), (0, 0), (0, 0), (0, 0), ((-2147483648), 2147483647), (0, 400)], [], [(((0, 0), 1851192626986356799029993984671224184301589730656725206267068416000000), .inr (0, (9, 0))), (((0, 480), 8), .inr (0, (9, 0))), (((0, 480), 7), .inr (3, (0, 485)))], 0, 0, 17, [(2, .inr (0, (0, 24))), (0, .inr (3, (0, 480))), (1, .inr (0, (8, 0)))], [.inr (0, (0, 24)), .inr (0, (8, 0)), .inr (0, (9, 0)), .inr (3, (0, 485))]), [(9, 0, 399)], [], [(0, 0), (0, 0), (0, 0), (0, 0), (0, 0), (0, 0), (0, 0), (0, 0), (8, 0), (0, 24), (9, 0)], 1)
noncomputable def rxoFOUR_2_0 : bx_HO := (([(0, 0), (0, 0), (0, 0), (0, 0), (0, 0), (0, 0), (0, 0), (0, 0), ((-2147483648), 2147483647), (0, 24), (0, 399), ((-2147483648), 2147483647)], [], [], 0, 0, 21, [(0, .inr (3, (0, 480))), (1, .inr (0, (8, 0))), (2, .inr (0, (9, 0)))], [.inr (0, (0, 255)), .inr (0, (11, 0)), .inr (0, (10, 0)), .inr (3, (0, 485))]), [], [], [(0, 0), (0, 0), (0, 0), (0, 0), (0, 0), (0, 0), (0, 0), (0, 0), (8, 0), (9, 0), (10, 0), (11, 0)], 3)
noncomputable def rxoFOUR_4_0 : bx_HO := (([(0, 0), (0, 0), (0, 0), (0, 0), (0, 0), (0, 0), (0, 0), (0, 0), ((-2147483648), 2147483647), (0, 24), (0, 399), ((-2147483648), 2147483647), (0, 255), (0, 400)], [], [(((0, 0), 1851192626986356799029993984671224184301589730656725206267068416000000), .inr (0, (13, 0))), (((0, 480), 8), .inr (0, (13, 0))), (((0, 0), 1851192626986356797424370955790042202572729718740712036978458627000000), .inr (0, (12, 0)))], 0, 0, 29, [(0, .inr (3, (0, 480))), (1, .inr (0, (8, 0))), (2, .inr (0, (9, 0)))], [.inr (0, (0, 1)), .inr (0, (13, 0)), .inr (3, (0, 480))]), [], [], [(0, 0), (0, 0), (0, 0), (0, 0), (0, 0), (0, 0), (0, 0), (0, 0), (8, 0), (9, 0), (13, 0)], 5)
noncomputable def rxoFOUR_6_0 : bx_HO := (([(0, 0), (0, 0), (0, 0), (0, 0), (0, 0), (0, 0), (0, 0), (0, 0), ((-2147483648), 2147483647), (8, 24), (0, 400), (0, 400)], [], [(((0, 480), 7), .inr (3, (0, 485))), (((0, 0), 1851192626986356799029993984671224184301589730656725206267068419000000), .inr (0, (11, 0))), (((0, 480), 8), .inr (0, (11, 0)))], 0, 0, 17, [(2, .inr (0, (9, (-8)))), (0, .inr (3, (0, 480))), (1, .inr (0, (8, 0)))], [.inr (0, (9, (-8))), .inr (0, (8, 0)), .inr (0, (11, 0)), .inr (3, (0, 485))]), [(11, 0, 399)], [], [(0, 0), (0, 0), (0, 0), (0, 0), (0, 0), (0, 0), (0, 0), (0, 0), (8, 0), (9, (-8)), (11, 0)], 1)
noncomputable def rxeFOUR_6_0 : rx_End × List (Nat × Int × Int) := (([(0, 0), (0, 0), (0, 0), (0, 0), (0, 0), (0, 0), (0, 0), (0, 0), ((-2147483648), 2147483647), (0, 7), (0, 400), (0, 400)], [], [(((0, 0), 1851192626986356799029993984671224184301589730656725206267068419000000), .inr (0, (11, 0))), (((0, 480), 8), .inr (0, (11, 0)))], none), [])
noncomputable def rxYFOUR : List bx_HE := [(rxzFOUR_0, [rxoFOUR_0_0], []), (rxzFOUR_1, [], []), (rxzFOUR_2, [rxoFOUR_2_0], []), (rxzFOUR_3, [], []), (rxzFOUR_4, [rxoFOUR_4_0], []), (rxzFOUR_5, [], []), (rxzFOUR_6, [rxoFOUR_6_0], [rxeFOUR_6_0])]
noncomputable def rxUFOUR (q : bx_HE) : Bool := Nat.beq (rx_zpc q.1) 17 || Nat.beq (rx_zpc q.1) 21 || Nat.beq (rx_zpc q.1) 29
noncomputable def rxYBFOUR : bx_B := (rxV, rxNP, rxDmf, bx_mdH rxCFOUR.2.2.1)
set_option maxRecDepth 100000 in
theorem rxYcFOUR : bx_chkH rxYBFOUR rxM263 rxCFOUR rxYFOUR (rxUFOUR, fun cut z => rx_ex2 (rxCT rxYBFOUR rxCnE) cut 30000 rxCFOUR.2.2.2.1 263 z) = true := by decide +kernel
noncomputable def rxIFOUR (S0 : Nat → Int → Int) (ws : List Int) (i : Nat) : bx_SP := fun S r => match i with | 0 => rxIFOUR_0 S0 ws S (r 8) | 1 => rxIFOUR_1 S0 ws S (r 8) (r 9) (r 10) | 2 => rxIFOUR_2 S0 ws S (r 8) (r 9) (r 10) (r 11) | 3 => rxIFOUR_3 S0 ws S (r 8) (r 9) (r 10) (r 11) | 4 => rxIFOUR_4 S0 ws S (r 8) (r 9) (r 10) (r 11) (r 12) | 5 => rxIFOUR_5 S0 ws S (r 8) (r 9) (r 10) | 6 => rxIFOUR_6 S0 ws S (r 8) (r 9) (r 10) (r 11) | _ => False
noncomputable def rxmFOUR (S0 : Nat → Int → Int) (ws : List Int) (i : Nat) (S : Nat → Int → Int) (r : Nat → Int) : Nat := match i with | 0 => rxmFOUR_0 S0 ws S (r 8) | 1 => rxmFOUR_1 S0 ws S (r 8) (r 9) (r 10) | 2 => rxmFOUR_2 S0 ws S (r 8) (r 9) (r 10) (r 11) | 3 => rxmFOUR_3 S0 ws S (r 8) (r 9) (r 10) (r 11) | 4 => rxmFOUR_4 S0 ws S (r 8) (r 9) (r 10) (r 11) (r 12) | 5 => rxmFOUR_5 S0 ws S (r 8) (r 9) (r 10) | 6 => rxmFOUR_6 S0 ws S (r 8) (r 9) (r 10) (r 11) | _ => 0
noncomputable def rxPFOUR (S0 : Nat → Int → Int) (ws : List Int) : Prop := S0 480 8 ≤ 396
noncomputable def rxPSFOUR (S0 : Nat → Int → Int) (ws : List Int) (S : Nat → Int → Int) (w : Option Int) : Prop := w = none ∧ ∃ b : Int, ws = [480, b] ∧ S 480 8 = S0 480 8 + 4 ∧ ∀ i : Int, 0 ≤ i → i < 400 → S 485 i = rzQ 4 (S0 480 8) b (S0 485 i) i
theorem rxbFOUR_1 {S0 : Nat → Int → Int} {ws : List Int} {S : Nat → Int → Int} {b sh nn : Int} (hP : rxPFOUR S0 ws) (hin : bx_same rxL (bx_mdl rxCFOUR.2.2.1) S0 S) (I0 : bx_Inv rxL S) (hinv : rxIFOUR_1 S0 ws S b sh nn) (l8 : (-2147483648) ≤ b) (u8 : b ≤ 2147483647) (l9 : 0 ≤ sh) (u9 : sh ≤ 24) (l10 : 0 ≤ nn) (u10 : nn ≤ 399) : bx_opcB 30 b sh ∧ ∀ y : Int, y = bx_opvB 30 b sh → ((-2147483648) ≤ y ∧ y ≤ 2147483647) ∧ rxIFOUR_2 S0 ws S b sh nn y ∧ rxmFOUR_2 S0 ws S b sh nn y < rxmFOUR_1 S0 ws S b sh nn := by
  obtain ⟨hw, k, k0, k1, hs, h4, hn, ht⟩ := hinv
  refine ⟨⟨⟨by omega, by omega⟩, show sh = 24 ∨ sh = 16 ∨ sh = 8 ∨ sh = 0 by omega⟩, fun y hy => ⟨?_, ⟨hw, k, k0, k1, hs, h4, hn, ht, hy⟩, by unfold rxmFOUR_1 rxmFOUR_2; omega⟩⟩
  have q := rzSh_b (a := b) k0 k1 hs l8 u8 (o := 30) (by decide)
  omega
theorem rxsFOUR_1 {X : (Nat → Int → Int) → Prop} {S0 : Nat → Int → Int} {ws : List Int} (hP : rxPFOUR S0 ws) : rx_obBB X S0 rxCFOUR.2.2.1 (rxIFOUR S0 ws) (rxmFOUR S0 ws) 1 2 rxzFOUR_1 30 (8, 0) (9, 0) (-2147483648) 2147483647 := by
  intro S r hinv hXS I0 hin hs_ hf_
  have b_ := bx_bds_sat hs_
  have f_ := bx_fcl_ok hs_.1 hf_
  obtain ⟨⟨l8, u8⟩, ⟨l9, u9⟩, ⟨l10, u10⟩, -⟩ := b_
  have g := rxbFOUR_1 hP hin I0 hinv l8 u8 l9 u9 l10 u10
  rw [bx_x_ok hs_.1, bx_x_ok hs_.1]
  refine ⟨g.1, fun r_p hr h0_ hv => ?_⟩
  have g2 := g.2 (r_p 11) hv
  show _ ∧ rxIFOUR_2 S0 ws S (r_p 8) (r_p 9) (r_p 10) (r_p 11) ∧ rxmFOUR_2 S0 ws S (r_p 8) (r_p 9) (r_p 10) (r_p 11) < _
  rw [hr 8 (by decide), hr 9 (by decide), hr 10 (by decide)]
  exact g2
theorem rxbFOUR_3 {S0 : Nat → Int → Int} {ws : List Int} {S : Nat → Int → Int} {b sh nn y : Int} (hP : rxPFOUR S0 ws) (hin : bx_same rxL (bx_mdl rxCFOUR.2.2.1) S0 S) (I0 : bx_Inv rxL S) (hinv : rxIFOUR_3 S0 ws S b sh nn y) (l8 : (-2147483648) ≤ b) (u8 : b ≤ 2147483647) (l9 : 0 ≤ sh) (u9 : sh ≤ 24) (l10 : 0 ≤ nn) (u10 : nn ≤ 399) (l11 : (-2147483648) ≤ y) (u11 : y ≤ 2147483647) : bx_opcB 32 y 255 ∧ ∀ v : Int, v = bx_opvB 32 y 255 → (0 ≤ v ∧ v ≤ 255) ∧ rxIFOUR_4 S0 ws S b sh nn y v ∧ rxmFOUR_4 S0 ws S b sh nn y v < rxmFOUR_3 S0 ws S b sh nn y := by
  obtain ⟨hw, k, k0, k1, hs, h4, hn, ht, hy⟩ := hinv
  refine ⟨⟨⟨by omega, by omega⟩, rfl⟩, fun v hv => ⟨?_, ⟨hw, k, k0, k1, hs, h4, hn, ht, ?_⟩, by unfold rxmFOUR_3 rxmFOUR_4; omega⟩⟩
  · have q : v = y % 256 := hv
    omega
  · rw [hv, hy]
    exact rzBy_sh k0 k1 hs (by decide)
theorem rxsFOUR_3 {X : (Nat → Int → Int) → Prop} {S0 : Nat → Int → Int} {ws : List Int} (hP : rxPFOUR S0 ws) : rx_obBB X S0 rxCFOUR.2.2.1 (rxIFOUR S0 ws) (rxmFOUR S0 ws) 3 4 rxzFOUR_3 32 (11, 0) (0, 255) 0 255 := by
  intro S r hinv hXS I0 hin hs_ hf_
  have b_ := bx_bds_sat hs_
  have f_ := bx_fcl_ok hs_.1 hf_
  obtain ⟨⟨l8, u8⟩, ⟨l9, u9⟩, ⟨l10, u10⟩, ⟨l11, u11⟩, -⟩ := b_
  have g := rxbFOUR_3 hP hin I0 hinv l8 u8 l9 u9 l10 u10 l11 u11
  rw [bx_x_ok hs_.1, bx_x_ok hs_.1]
  refine ⟨g.1, fun r_p hr h0_ hv => ?_⟩
  have g2 := g.2 (r_p 12) hv
  show _ ∧ rxIFOUR_4 S0 ws S (r_p 8) (r_p 9) (r_p 10) (r_p 11) (r_p 12) ∧ rxmFOUR_4 S0 ws S (r_p 8) (r_p 9) (r_p 10) (r_p 11) (r_p 12) < _
  rw [hr 8 (by decide), hr 9 (by decide), hr 10 (by decide), hr 11 (by decide)]
  exact g2
theorem rxbFOUR_5 {S0 : Nat → Int → Int} {ws : List Int} {S : Nat → Int → Int} {b sh x : Int} (hP : rxPFOUR S0 ws) (hin : bx_same rxL (bx_mdl rxCFOUR.2.2.1) S0 S) (I0 : bx_Inv rxL S) (hinv : rxIFOUR_5 S0 ws S b sh x) (l8 : (-2147483648) ≤ b) (u8 : b ≤ 2147483647) (l9 : 0 ≤ sh) (u9 : sh ≤ 24) (l10 : 0 ≤ x) (u10 : x ≤ 400) : bx_opcB 33 x 1 ∧ ∀ n2 : Int, n2 = bx_opvB 33 x 1 → (0 ≤ n2 ∧ n2 ≤ 400) ∧ rxIFOUR_6 S0 ws S b sh x n2 ∧ rxmFOUR_6 S0 ws S b sh x n2 < rxmFOUR_5 S0 ws S b sh x := by
  obtain ⟨hw, k, k0, k1, hs, h4, hn, ht⟩ := hinv
  have hP : S0 480 8 ≤ 396 := hP
  refine ⟨⟨⟨by omega, by omega⟩, show (-2147483648 : Int) ≤ 1 ∧ (1 : Int) ≤ 2147483647 ∧ -2147483648 ≤ x + 1 ∧ x + 1 ≤ 2147483647 by omega⟩, fun n2 hv => ?_⟩
  have hv : n2 = x + 1 := hv
  exact ⟨by omega, ⟨hw, k, k0, k1, hs, h4, by omega, ht⟩, by unfold rxmFOUR_5 rxmFOUR_6; omega⟩
theorem rxsFOUR_5 {X : (Nat → Int → Int) → Prop} {S0 : Nat → Int → Int} {ws : List Int} (hP : rxPFOUR S0 ws) : rx_obBB X S0 rxCFOUR.2.2.1 (rxIFOUR S0 ws) (rxmFOUR S0 ws) 5 6 rxzFOUR_5 33 (10, 0) (0, 1) 0 400 := by
  intro S r hinv hXS I0 hin hs_ hf_
  have b_ := bx_bds_sat hs_
  have f_ := bx_fcl_ok hs_.1 hf_
  obtain ⟨⟨l8, u8⟩, ⟨l9, u9⟩, ⟨l10, u10⟩, -⟩ := b_
  have g := rxbFOUR_5 hP hin I0 hinv l8 u8 l9 u9 l10 u10
  rw [bx_x_ok hs_.1, bx_x_ok hs_.1]
  refine ⟨g.1, fun r_p hr h0_ hv => ?_⟩
  have g2 := g.2 (r_p 11) hv
  show _ ∧ rxIFOUR_6 S0 ws S (r_p 8) (r_p 9) (r_p 10) (r_p 11) ∧ rxmFOUR_6 S0 ws S (r_p 8) (r_p 9) (r_p 10) (r_p 11) < _
  rw [hr 8 (by decide), hr 9 (by decide), hr 10 (by decide)]
  exact g2
theorem rxcFOUR_0_0 {S0 : Nat → Int → Int} {ws : List Int} {S : Nat → Int → Int} {b x9 : Int} (hP : rxPFOUR S0 ws) (hin : bx_same rxL (bx_mdl rxCFOUR.2.2.1) S0 S) (I0 : bx_Inv rxL S) (hinv : rxIFOUR_0 S0 ws S b) (l8 : (-2147483648) ≤ b) (u8 : b ≤ 2147483647) (l9 : 0 ≤ x9) (u9 : x9 ≤ 400) (e0 : S 480 8 = x9) : ((0 ≤ x9 ∧ x9 ≤ 399) ∧ True) ∧ (True) ∧ rxIFOUR_1 S0 ws S b 24 x9 ∧ rxmFOUR_1 S0 ws S b 24 x9 < rxmFOUR_0 S0 ws S b := by
  obtain ⟨rfl, hw⟩ := hinv
  have hP : S 480 8 ≤ 396 := hP
  exact ⟨by first | exact trivial | exact ⟨⟨by omega, by omega⟩, trivial⟩ | exact ⟨⟨by omega, by omega⟩, ⟨by omega, by omega⟩, trivial⟩ | exact ⟨⟨by omega, by omega⟩, ⟨by omega, by omega⟩, ⟨by omega, by omega⟩, trivial⟩, trivial, ⟨hw, 0, by omega, by omega, by omega, by omega, by omega, fun i i0 i1 => rzQ_0.symm⟩, by unfold rxmFOUR_0 rxmFOUR_1; omega⟩
theorem rxgFOUR_0_0 {X : (Nat → Int → Int) → Prop} {S0 : Nat → Int → Int} {ws : List Int} (hP : rxPFOUR S0 ws) : bx_obC rxL X S0 rxCFOUR.2.2.1 (rxIFOUR S0 ws) (rxmFOUR S0 ws) 0 rxzFOUR_0 rxoFOUR_0_0 := by
  intro S S_p r r_p hinv hX hin hsm_ hseg
  obtain ⟨I0, I1, h0_, hr_, b_, f_, d_⟩ := bx_cl (evs := [(0, (0, 480), (0, 8), .inr (0, (9, 0)))]) (fvs := []) hseg (by decide +kernel) (by decide +kernel)
  have hinv : rxIFOUR_0 S0 ws S (r 8) := hinv
  rw [← hr_ 8 (by decide)] at hinv
  obtain ⟨⟨l8, u8⟩, ⟨l9, u9⟩, -⟩ := b_
  obtain ⟨e0, w_⟩ := d_
  subst w_
  have g := rxcFOUR_0_0 hP hin I0 hinv l8 u8 l9 u9 e0
  refine ⟨bx_narP_ok (l := [(9, 0, 399)]) g.1, bx_nfP_ok h0_ (fvs := []) (by decide +kernel) g.2.1, ?_, ?_⟩
  · show rxIFOUR_1 S0 ws S_p (bx_val [(0, 0), (0, 0), (0, 0), (0, 0), (0, 0), (0, 0), (0, 0), (0, 0), (8, 0), (0, 24), (9, 0)] r_p 8) (bx_val [(0, 0), (0, 0), (0, 0), (0, 0), (0, 0), (0, 0), (0, 0), (0, 0), (8, 0), (0, 24), (9, 0)] r_p 9) (bx_val [(0, 0), (0, 0), (0, 0), (0, 0), (0, 0), (0, 0), (0, 0), (0, 0), (8, 0), (0, 24), (9, 0)] r_p 10)
    rw [bx_val_x (n := 8) (e := (8, 0)) h0_ rfl, bx_val_x (n := 9) (e := (0, 24)) h0_ rfl, bx_val_x (n := 10) (e := (9, 0)) h0_ rfl]
    exact g.2.2.1
  · show rxmFOUR_1 S0 ws S_p (bx_val [(0, 0), (0, 0), (0, 0), (0, 0), (0, 0), (0, 0), (0, 0), (0, 0), (8, 0), (0, 24), (9, 0)] r_p 8) (bx_val [(0, 0), (0, 0), (0, 0), (0, 0), (0, 0), (0, 0), (0, 0), (0, 0), (8, 0), (0, 24), (9, 0)] r_p 9) (bx_val [(0, 0), (0, 0), (0, 0), (0, 0), (0, 0), (0, 0), (0, 0), (0, 0), (8, 0), (0, 24), (9, 0)] r_p 10) < rxmFOUR_0 S0 ws S_p (r 8)
    rw [bx_val_x (n := 8) (e := (8, 0)) h0_ rfl, bx_val_x (n := 9) (e := (0, 24)) h0_ rfl, bx_val_x (n := 10) (e := (9, 0)) h0_ rfl, ← hr_ 8 (by decide)]
    exact g.2.2.2
theorem rxcFOUR_2_0 {S0 : Nat → Int → Int} {ws : List Int} {S : Nat → Int → Int} {b sh nn y : Int} (hP : rxPFOUR S0 ws) (hin : bx_same rxL (bx_mdl rxCFOUR.2.2.1) S0 S) (I0 : bx_Inv rxL S) (hinv : rxIFOUR_2 S0 ws S b sh nn y) (l8 : (-2147483648) ≤ b) (u8 : b ≤ 2147483647) (l9 : 0 ≤ sh) (u9 : sh ≤ 24) (l10 : 0 ≤ nn) (u10 : nn ≤ 399) (l11 : (-2147483648) ≤ y) (u11 : y ≤ 2147483647) : (True) ∧ (True) ∧ rxIFOUR_3 S0 ws S b sh nn y ∧ rxmFOUR_3 S0 ws S b sh nn y < rxmFOUR_2 S0 ws S b sh nn y := by
  exact ⟨by first | exact trivial | exact ⟨⟨by omega, by omega⟩, trivial⟩ | exact ⟨⟨by omega, by omega⟩, ⟨by omega, by omega⟩, trivial⟩ | exact ⟨⟨by omega, by omega⟩, ⟨by omega, by omega⟩, ⟨by omega, by omega⟩, trivial⟩, trivial, hinv, by unfold rxmFOUR_2 rxmFOUR_3; omega⟩
theorem rxgFOUR_2_0 {X : (Nat → Int → Int) → Prop} {S0 : Nat → Int → Int} {ws : List Int} (hP : rxPFOUR S0 ws) : bx_obC rxL X S0 rxCFOUR.2.2.1 (rxIFOUR S0 ws) (rxmFOUR S0 ws) 2 rxzFOUR_2 rxoFOUR_2_0 := by
  intro S S_p r r_p hinv hX hin hsm_ hseg
  obtain ⟨I0, I1, h0_, hr_, b_, f_, d_⟩ := bx_cl (evs := []) (fvs := []) hseg (by decide +kernel) (by decide +kernel)
  have hinv : rxIFOUR_2 S0 ws S (r 8) (r 9) (r 10) (r 11) := hinv
  rw [← hr_ 8 (by decide), ← hr_ 9 (by decide), ← hr_ 10 (by decide), ← hr_ 11 (by decide)] at hinv
  obtain ⟨⟨l8, u8⟩, ⟨l9, u9⟩, ⟨l10, u10⟩, ⟨l11, u11⟩, -⟩ := b_
  have w_ := d_
  subst w_
  have g := rxcFOUR_2_0 hP hin I0 hinv l8 u8 l9 u9 l10 u10 l11 u11
  refine ⟨bx_narP_ok (l := []) g.1, bx_nfP_ok h0_ (fvs := []) (by decide +kernel) g.2.1, ?_, ?_⟩
  · show rxIFOUR_3 S0 ws S_p (bx_val [(0, 0), (0, 0), (0, 0), (0, 0), (0, 0), (0, 0), (0, 0), (0, 0), (8, 0), (9, 0), (10, 0), (11, 0)] r_p 8) (bx_val [(0, 0), (0, 0), (0, 0), (0, 0), (0, 0), (0, 0), (0, 0), (0, 0), (8, 0), (9, 0), (10, 0), (11, 0)] r_p 9) (bx_val [(0, 0), (0, 0), (0, 0), (0, 0), (0, 0), (0, 0), (0, 0), (0, 0), (8, 0), (9, 0), (10, 0), (11, 0)] r_p 10) (bx_val [(0, 0), (0, 0), (0, 0), (0, 0), (0, 0), (0, 0), (0, 0), (0, 0), (8, 0), (9, 0), (10, 0), (11, 0)] r_p 11)
    rw [bx_val_x (n := 8) (e := (8, 0)) h0_ rfl, bx_val_x (n := 9) (e := (9, 0)) h0_ rfl, bx_val_x (n := 10) (e := (10, 0)) h0_ rfl, bx_val_x (n := 11) (e := (11, 0)) h0_ rfl]
    exact g.2.2.1
  · show rxmFOUR_3 S0 ws S_p (bx_val [(0, 0), (0, 0), (0, 0), (0, 0), (0, 0), (0, 0), (0, 0), (0, 0), (8, 0), (9, 0), (10, 0), (11, 0)] r_p 8) (bx_val [(0, 0), (0, 0), (0, 0), (0, 0), (0, 0), (0, 0), (0, 0), (0, 0), (8, 0), (9, 0), (10, 0), (11, 0)] r_p 9) (bx_val [(0, 0), (0, 0), (0, 0), (0, 0), (0, 0), (0, 0), (0, 0), (0, 0), (8, 0), (9, 0), (10, 0), (11, 0)] r_p 10) (bx_val [(0, 0), (0, 0), (0, 0), (0, 0), (0, 0), (0, 0), (0, 0), (0, 0), (8, 0), (9, 0), (10, 0), (11, 0)] r_p 11) < rxmFOUR_2 S0 ws S_p (r 8) (r 9) (r 10) (r 11)
    rw [bx_val_x (n := 8) (e := (8, 0)) h0_ rfl, bx_val_x (n := 9) (e := (9, 0)) h0_ rfl, bx_val_x (n := 10) (e := (10, 0)) h0_ rfl, bx_val_x (n := 11) (e := (11, 0)) h0_ rfl, ← hr_ 8 (by decide), ← hr_ 9 (by decide), ← hr_ 10 (by decide), ← hr_ 11 (by decide)]
    exact g.2.2.2
theorem rxcFOUR_4_0 {S0 : Nat → Int → Int} {ws : List Int} {S : Nat → Int → Int} {b sh nn y v x13 : Int} (hP : rxPFOUR S0 ws) (hin : bx_same rxL (bx_mdl rxCFOUR.2.2.1) S0 S) (I0 : bx_Inv rxL S) (hinv : rxIFOUR_4 S0 ws S b sh nn y v) (l8 : (-2147483648) ≤ b) (u8 : b ≤ 2147483647) (l9 : 0 ≤ sh) (u9 : sh ≤ 24) (l10 : 0 ≤ nn) (u10 : nn ≤ 399) (l11 : (-2147483648) ≤ y) (u11 : y ≤ 2147483647) (l12 : 0 ≤ v) (u12 : v ≤ 255) (l13 : 0 ≤ x13) (u13 : x13 ≤ 400) (e0 : (bx_up S 485 nn v) 480 8 = x13) : (True) ∧ (True) ∧ rxIFOUR_5 S0 ws (bx_up S 485 nn v) b sh x13 ∧ rxmFOUR_5 S0 ws (bx_up S 485 nn v) b sh x13 < rxmFOUR_4 S0 ws S b sh nn y v := by
  obtain ⟨hw, k, k0, k1, hs, h4, hn, ht, hv⟩ := hinv
  refine ⟨by first | exact trivial | exact ⟨⟨by omega, by omega⟩, trivial⟩ | exact ⟨⟨by omega, by omega⟩, ⟨by omega, by omega⟩, trivial⟩ | exact ⟨⟨by omega, by omega⟩, ⟨by omega, by omega⟩, ⟨by omega, by omega⟩, trivial⟩, trivial, ⟨hw, k, k0, k1, hs, (bx_up_ne (by omega)).trans h4, ?_, fun i i0 i1 => ?_⟩, by unfold rxmFOUR_4 rxmFOUR_5; omega⟩
  · have e := e0
    rw [bx_up_ne (by omega)] at e
    omega
  · by_cases hi : i = nn
    · subst hi
      exact bx_up_at.trans (hv.trans (rzQ_n rfl (by omega) k0).symm)
    · exact (bx_up_ne (by omega)).trans ((ht i i0 i1).trans (rzQ_s rfl (by omega)).symm)
theorem rxgFOUR_4_0 {X : (Nat → Int → Int) → Prop} {S0 : Nat → Int → Int} {ws : List Int} (hP : rxPFOUR S0 ws) : bx_obC rxL X S0 rxCFOUR.2.2.1 (rxIFOUR S0 ws) (rxmFOUR S0 ws) 4 rxzFOUR_4 rxoFOUR_4_0 := by
  intro S S_p r r_p hinv hX hin hsm_ hseg
  obtain ⟨I0, I1, h0_, hr_, b_, f_, d_⟩ := bx_cl (evs := [(0, (0, 480), (0, 8), .inr (0, (13, 0))), (1, (0, 485), (10, 0), .inr (0, (12, 0)))]) (fvs := []) hseg (by decide +kernel) (by decide +kernel)
  have hinv : rxIFOUR_4 S0 ws S (r 8) (r 9) (r 10) (r 11) (r 12) := hinv
  rw [← hr_ 8 (by decide), ← hr_ 9 (by decide), ← hr_ 10 (by decide), ← hr_ 11 (by decide), ← hr_ 12 (by decide)] at hinv
  obtain ⟨⟨l8, u8⟩, ⟨l9, u9⟩, ⟨l10, u10⟩, ⟨l11, u11⟩, ⟨l12, u12⟩, ⟨l13, u13⟩, -⟩ := b_
  obtain ⟨e0, ⟨T1, w_, w1⟩⟩ := d_
  subst w1
  subst w_
  have g := rxcFOUR_4_0 hP hin I0 hinv l8 u8 l9 u9 l10 u10 l11 u11 l12 u12 l13 u13 e0
  refine ⟨bx_narP_ok (l := []) g.1, bx_nfP_ok h0_ (fvs := []) (by decide +kernel) g.2.1, ?_, ?_⟩
  · show rxIFOUR_5 S0 ws (bx_up T1 485 (r_p 10) (r_p 12)) (bx_val [(0, 0), (0, 0), (0, 0), (0, 0), (0, 0), (0, 0), (0, 0), (0, 0), (8, 0), (9, 0), (13, 0)] r_p 8) (bx_val [(0, 0), (0, 0), (0, 0), (0, 0), (0, 0), (0, 0), (0, 0), (0, 0), (8, 0), (9, 0), (13, 0)] r_p 9) (bx_val [(0, 0), (0, 0), (0, 0), (0, 0), (0, 0), (0, 0), (0, 0), (0, 0), (8, 0), (9, 0), (13, 0)] r_p 10)
    rw [bx_val_x (n := 8) (e := (8, 0)) h0_ rfl, bx_val_x (n := 9) (e := (9, 0)) h0_ rfl, bx_val_x (n := 10) (e := (13, 0)) h0_ rfl]
    exact g.2.2.1
  · show rxmFOUR_5 S0 ws (bx_up T1 485 (r_p 10) (r_p 12)) (bx_val [(0, 0), (0, 0), (0, 0), (0, 0), (0, 0), (0, 0), (0, 0), (0, 0), (8, 0), (9, 0), (13, 0)] r_p 8) (bx_val [(0, 0), (0, 0), (0, 0), (0, 0), (0, 0), (0, 0), (0, 0), (0, 0), (8, 0), (9, 0), (13, 0)] r_p 9) (bx_val [(0, 0), (0, 0), (0, 0), (0, 0), (0, 0), (0, 0), (0, 0), (0, 0), (8, 0), (9, 0), (13, 0)] r_p 10) < rxmFOUR_4 S0 ws T1 (r 8) (r 9) (r 10) (r 11) (r 12)
    rw [bx_val_x (n := 8) (e := (8, 0)) h0_ rfl, bx_val_x (n := 9) (e := (9, 0)) h0_ rfl, bx_val_x (n := 10) (e := (13, 0)) h0_ rfl, ← hr_ 8 (by decide), ← hr_ 9 (by decide), ← hr_ 10 (by decide), ← hr_ 11 (by decide), ← hr_ 12 (by decide)]
    exact g.2.2.2
theorem rxcFOUR_6_0 {S0 : Nat → Int → Int} {ws : List Int} {S : Nat → Int → Int} {b sh x n2 : Int} (hP : rxPFOUR S0 ws) (hin : bx_same rxL (bx_mdl rxCFOUR.2.2.1) S0 S) (I0 : bx_Inv rxL S) (hinv : rxIFOUR_6 S0 ws S b sh x n2) (l8 : (-2147483648) ≤ b) (u8 : b ≤ 2147483647) (l9 : 8 ≤ sh) (u9 : sh ≤ 24) (l10 : 0 ≤ x) (u10 : x ≤ 400) (l11 : 0 ≤ n2) (u11 : n2 ≤ 400) : ((0 ≤ n2 ∧ n2 ≤ 399) ∧ True) ∧ (True) ∧ rxIFOUR_1 S0 ws (bx_up S 480 8 n2) b (sh + (-8)) n2 ∧ rxmFOUR_1 S0 ws (bx_up S 480 8 n2) b (sh + (-8)) n2 < rxmFOUR_6 S0 ws S b sh x n2 := by
  obtain ⟨hw, k, k0, k1, hs, h4, hn, ht⟩ := hinv
  have hP : S0 480 8 ≤ 396 := hP
  exact ⟨by first | exact trivial | exact ⟨⟨by omega, by omega⟩, trivial⟩ | exact ⟨⟨by omega, by omega⟩, ⟨by omega, by omega⟩, trivial⟩ | exact ⟨⟨by omega, by omega⟩, ⟨by omega, by omega⟩, ⟨by omega, by omega⟩, trivial⟩, trivial, ⟨hw, k + 1, by omega, by omega, by omega, bx_up_at.trans (by omega), by omega, fun i i0 i1 => (bx_up_ne (by omega)).trans (ht i i0 i1)⟩, by unfold rxmFOUR_6 rxmFOUR_1; omega⟩
theorem rxgFOUR_6_0 {X : (Nat → Int → Int) → Prop} {S0 : Nat → Int → Int} {ws : List Int} (hP : rxPFOUR S0 ws) : bx_obC rxL X S0 rxCFOUR.2.2.1 (rxIFOUR S0 ws) (rxmFOUR S0 ws) 6 rxzFOUR_6 rxoFOUR_6_0 := by
  intro S S_p r r_p hinv hX hin hsm_ hseg
  obtain ⟨I0, I1, h0_, hr_, b_, f_, d_⟩ := bx_cl (evs := [(1, (0, 480), (0, 8), .inr (0, (11, 0)))]) (fvs := []) hseg (by decide +kernel) (by decide +kernel)
  have hinv : rxIFOUR_6 S0 ws S (r 8) (r 9) (r 10) (r 11) := hinv
  rw [← hr_ 8 (by decide), ← hr_ 9 (by decide), ← hr_ 10 (by decide), ← hr_ 11 (by decide)] at hinv
  obtain ⟨⟨l8, u8⟩, ⟨l9, u9⟩, ⟨l10, u10⟩, ⟨l11, u11⟩, -⟩ := b_
  obtain ⟨T0, w_, w0⟩ := d_
  subst w0
  subst w_
  have g := rxcFOUR_6_0 hP hin I0 hinv l8 u8 l9 u9 l10 u10 l11 u11
  refine ⟨bx_narP_ok (l := [(11, 0, 399)]) g.1, bx_nfP_ok h0_ (fvs := []) (by decide +kernel) g.2.1, ?_, ?_⟩
  · show rxIFOUR_1 S0 ws (bx_up T0 480 (8) (r_p 11)) (bx_val [(0, 0), (0, 0), (0, 0), (0, 0), (0, 0), (0, 0), (0, 0), (0, 0), (8, 0), (9, (-8)), (11, 0)] r_p 8) (bx_val [(0, 0), (0, 0), (0, 0), (0, 0), (0, 0), (0, 0), (0, 0), (0, 0), (8, 0), (9, (-8)), (11, 0)] r_p 9) (bx_val [(0, 0), (0, 0), (0, 0), (0, 0), (0, 0), (0, 0), (0, 0), (0, 0), (8, 0), (9, (-8)), (11, 0)] r_p 10)
    rw [bx_val_x (n := 8) (e := (8, 0)) h0_ rfl, bx_val_x (n := 9) (e := (9, (-8))) h0_ rfl, bx_val_x (n := 10) (e := (11, 0)) h0_ rfl]
    exact g.2.2.1
  · show rxmFOUR_1 S0 ws (bx_up T0 480 (8) (r_p 11)) (bx_val [(0, 0), (0, 0), (0, 0), (0, 0), (0, 0), (0, 0), (0, 0), (0, 0), (8, 0), (9, (-8)), (11, 0)] r_p 8) (bx_val [(0, 0), (0, 0), (0, 0), (0, 0), (0, 0), (0, 0), (0, 0), (0, 0), (8, 0), (9, (-8)), (11, 0)] r_p 9) (bx_val [(0, 0), (0, 0), (0, 0), (0, 0), (0, 0), (0, 0), (0, 0), (0, 0), (8, 0), (9, (-8)), (11, 0)] r_p 10) < rxmFOUR_6 S0 ws T0 (r 8) (r 9) (r 10) (r 11)
    rw [bx_val_x (n := 8) (e := (8, 0)) h0_ rfl, bx_val_x (n := 9) (e := (9, (-8))) h0_ rfl, bx_val_x (n := 10) (e := (11, 0)) h0_ rfl, ← hr_ 8 (by decide), ← hr_ 9 (by decide), ← hr_ 10 (by decide), ← hr_ 11 (by decide)]
    exact g.2.2.2
theorem rxdFOUR_6_0 {S0 : Nat → Int → Int} {ws : List Int} {S : Nat → Int → Int} {b sh x n2 : Int} (hP : rxPFOUR S0 ws) (hin : bx_same rxL (bx_mdl rxCFOUR.2.2.1) S0 S) (hin2 : bx_same rxL (bx_mdl rxCFOUR.2.2.1) S (bx_up S 480 8 n2)) (I0 : bx_Inv rxL S) (I1 : bx_Inv rxL (bx_up S 480 8 n2)) (hinv : rxIFOUR_6 S0 ws S b sh x n2) (l8 : (-2147483648) ≤ b) (u8 : b ≤ 2147483647) (l9 : 0 ≤ sh) (u9 : sh ≤ 7) (l10 : 0 ≤ x) (u10 : x ≤ 400) (l11 : 0 ≤ n2) (u11 : n2 ≤ 400) : (True) ∧ rxPSFOUR S0 ws (bx_up S 480 8 n2) none := by
  obtain ⟨hw, k, k0, k1, hs, h4, hn, ht⟩ := hinv
  have hP : S0 480 8 ≤ 396 := hP
  obtain rfl : k = 3 := by omega
  exact ⟨trivial, rfl, b, hw, bx_up_at.trans (by omega), fun i i0 i1 => (bx_up_ne (by omega)).trans (ht i i0 i1)⟩
theorem rxfFOUR_6_0 {X : (Nat → Int → Int) → Prop} {S0 : Nat → Int → Int} {ws : List Int} (hP : rxPFOUR S0 ws) : bx_obE rxL X S0 rxCFOUR.2.2.1 (rxIFOUR S0 ws) (rxPSFOUR S0 ws) 6 rxzFOUR_6 rxeFOUR_6_0 := by
  intro S S_p r r_p hinv hX hin hsm_ hseg
  obtain ⟨I0, I1, h0_, hr_, b_, f_, d_⟩ := bx_cl (evs := [(1, (0, 480), (0, 8), .inr (0, (11, 0)))]) (fvs := []) hseg (by decide +kernel) (by decide +kernel)
  have hinv : rxIFOUR_6 S0 ws S (r 8) (r 9) (r 10) (r 11) := hinv
  rw [← hr_ 8 (by decide), ← hr_ 9 (by decide), ← hr_ 10 (by decide), ← hr_ 11 (by decide)] at hinv
  obtain ⟨⟨l8, u8⟩, ⟨l9, u9⟩, ⟨l10, u10⟩, ⟨l11, u11⟩, -⟩ := b_
  obtain ⟨T0, w_, w0⟩ := d_
  subst w0
  subst w_
  have g := rxdFOUR_6_0 hP hin hsm_ I0 I1 hinv l8 u8 l9 u9 l10 u10 l11 u11
  refine ⟨bx_narP_ok (l := []) g.1, ?_⟩
  exact g.2
theorem rxgCFOUR {X : (Nat → Int → Int) → Prop} {S0 : Nat → Int → Int} {ws : List Int} (hP : rxPFOUR S0 ws) : bx_allI (fun i q => rxUFOUR q = true ∨ bx_allP (fun o => bx_obC rxL X S0 rxCFOUR.2.2.1 (rxIFOUR S0 ws) (rxmFOUR S0 ws) i q.1 o) q.2.1) 0 rxYFOUR := ⟨Or.inr ⟨rxgFOUR_0_0 hP, trivial⟩, Or.inl rfl, Or.inr ⟨rxgFOUR_2_0 hP, trivial⟩, Or.inl rfl, Or.inr ⟨rxgFOUR_4_0 hP, trivial⟩, Or.inl rfl, Or.inr ⟨rxgFOUR_6_0 hP, trivial⟩, trivial⟩
theorem rxgEFOUR {X : (Nat → Int → Int) → Prop} {S0 : Nat → Int → Int} {ws : List Int} (hP : rxPFOUR S0 ws) : bx_allI (fun i q => rxUFOUR q = true ∨ bx_allP (fun E => bx_obE rxL X S0 rxCFOUR.2.2.1 (rxIFOUR S0 ws) (rxPSFOUR S0 ws) i q.1 E) q.2.2) 0 rxYFOUR := ⟨Or.inr trivial, Or.inl rfl, Or.inr trivial, Or.inl rfl, Or.inr trivial, Or.inl rfl, Or.inr ⟨rxfFOUR_6_0 hP, trivial⟩, trivial⟩
theorem rxuFOUR {PX : State → Prop} {Dg : va_G} {A : Nat → Prop} {ad xa : Nat → Nat} {l : Launch} {X : (Nat → Int → Int) → Prop} (hPX : rx_PXOK rxNW A PX) (hX : ∀ S S1 : Nat → Int → Int, X S → bx_same rxL (bx_mdl rxCFOUR.2.2.1) S S1 → X S1) {S0 : Nat → Int → Int} {ws : List Int} (hP : rxPFOUR S0 ws) : ∀ (i : Nat) (q : bx_HE), rxYFOUR[i]? = some q → rxUFOUR q = true → ∀ {p : Program} {e : Env} {R : Room} {s : State} {m : MethodId} {args : Array Value} {below : List Frame} {meth : Method} {c : Code} {Q : State → Prop} {H0 : Heap}, rx_Fr rxG rxNW rxAO PX p s m args meth c rxM263 → (∀ q, H0.size ≤ q → A q) → H0 = s.heap → rxM263.2.2.2.2.2.2.1 ≤ R.cells → rxM263.2.2.2.2.2.2.2 ≤ R.slots → rxCFOUR.2.2.2.1 ≤ R.frames → rxCFOUR.2.2.2.1 * 40 ≤ R.locals → bx_Step p l e R s m args below meth c Q Dg rxL X vwCl A xa H0 ad rxM263 rxYFOUR (rxIFOUR S0 ws) (rxmFOUR S0 ws) S0 rxCFOUR.2.2.1 i q := by
  intro i q hq hus p e R s m args below meth c Q H0 hF hA hH0 hmc hms hd hdl
  match i, hq with
  | 0, hq =>
    cases hq
    exact absurd (show false = true from hus) Bool.false_ne_true
  | 1, hq =>
    cases hq
    exact rx_stepBB (i_p := 2) (o := 30) (a := (8, 0)) (b := (9, 0)) (lo := (-2147483648)) (hi := 2147483647) (t := [.inr (0, (10, 0)), .inr (3, (0, 485))]) hF (Or.inl ⟨rfl, rfl⟩) (by decide +kernel) rfl rfl rfl rfl (rxsFOUR_1 hP)
  | 2, hq =>
    cases hq
    exact absurd (show false = true from hus) Bool.false_ne_true
  | 3, hq =>
    cases hq
    exact rx_stepBB (i_p := 4) (o := 32) (a := (11, 0)) (b := (0, 255)) (lo := 0) (hi := 255) (t := [.inr (0, (10, 0)), .inr (3, (0, 485))]) hF (Or.inr (Or.inr (Or.inl ⟨rfl, rfl⟩))) (by decide +kernel) rfl rfl rfl rfl (rxsFOUR_3 hP)
  | 4, hq =>
    cases hq
    exact absurd (show false = true from hus) Bool.false_ne_true
  | 5, hq =>
    cases hq
    exact rx_stepBB (i_p := 6) (o := 33) (a := (10, 0)) (b := (0, 1)) (lo := 0) (hi := 400) (t := [.inr (3, (0, 480))]) hF (Or.inr (Or.inr (Or.inr (Or.inl ⟨rfl, rfl⟩)))) (by decide +kernel) rfl rfl rfl rfl (rxsFOUR_5 hP)
  | 6, hq =>
    cases hq
    exact absurd (show false = true from hus) Bool.false_ne_true
  | n + 7, hq => cases hq
theorem rxQFOUR {PX : State → Prop} {Dg : va_G} {A : Nat → Prop} {ad xa : Nat → Nat} {l : Launch} {X : (Nat → Int → Int) → Prop} (hPX : rx_PXOK rxNW A PX) (hsl : ∀ s : State, PX s → ∀ o idx n : Nat, rxSl o idx = some n → ∃ tx : String, vk_R (rxNm o) idx tx (ad n) s)
    (hX : ∀ S S_p : Nat → Int → Int, X S → bx_same rxL (bx_mdl rxCFOUR.2.2.1) S S_p → X S_p)
    (ih : ∀ (j2 : Nat) (ct2 : bx_Ct) (M2 : rx_Mt), ct2 ∈ rxCnE j2 → ct2.2.2.2.1 + 1 ≤ rxCFOUR.2.2.2.1 → rxT.2.2.2.2.2 j2 = some M2 → bx_Con rxG rxNW rxAO PX Dg rxL X vwCl A ad l M2 ct2) : bx_ConP rxG rxNW rxAO PX Dg rxL X vwCl A ad l rxM263 rxCFOUR rxPFOUR rxPSFOUR :=
  rxQof (xa := xa) (Cn := rxCnE) (f := 30000) (j := 263) (tab := rxYFOUR) (us := rxUFOUR) hPX hsl hX ih rfl rxYcFOUR rxIFOUR rxmFOUR
    (fun S0 ws r I0 I ht0 ht as he he1 hX0 hI0 hP hs ha => by
      have e := he.symm.trans (show bx_ent0 rxNP rxCFOUR.1 bx_I0 [] = some ([(0, 0), (0, 0), (0, 0), (0, 0), (0, 0), (0, 0), (0, 0), (0, 0), ((-2147483648), 2147483647)], [], [.inr (3, (0, 480)), .inr (0, (8, 0))]) from rfl)
      cases e
      subst ha
      have h0 : r 0 = 0 := hs.1
      show rxIFOUR_0 S0 _ S0 (r 8)
      refine ⟨rfl, ?_⟩
      simp only [List.map_cons, List.map_nil, bx_xv_ok h0]
      rfl)
    (fun S0 ws hP => rxuFOUR (xa := xa) hPX hX hP) (fun S0 ws hP => rxgCFOUR hP) (fun S0 ws hP => rxgEFOUR hP)
noncomputable def rxIFERB_0 (S0 : Nat → Int → Int) (ws : List Int) (S : Nat → Int → Int) (b1 b2 b3 b4 b5 : Int) : Prop := S = S0 ∧ ws = [480, b1, b2, b3, b4, b5]
noncomputable def rxmFERB_0 (S0 : Nat → Int → Int) (ws : List Int) (S : Nat → Int → Int) (b1 b2 b3 b4 b5 : Int) : Nat := 100
noncomputable def rxzFERB_0 : rx_Z := ([(0, 0), (0, 0), (0, 0), (0, 0), (0, 0), (0, 0), (0, 0), (0, 0), ((-2147483648), 2147483647), ((-2147483648), 2147483647), ((-2147483648), 2147483647), ((-2147483648), 2147483647), ((-2147483648), 2147483647)], [], [], 0, 0, 0, [(0, .inr (3, (0, 480))), (1, .inr (0, (8, 0))), (2, .inr (0, (9, 0))), (3, .inr (0, (10, 0))), (4, .inr (0, (11, 0))), (5, .inr (0, (12, 0)))], [])
noncomputable def rxIFERB_1 (S0 : Nat → Int → Int) (ws : List Int) (S : Nat → Int → Int) (b1 b2 b3 b4 b5 : Int) : Prop := S0 480 8 ≤ 380 ∧ ws = [480, b1, b2, b3, b4, b5] ∧ S 480 8 = S0 480 8 + 0 ∧ ∀ i : Int, 0 ≤ i → i < 400 → S 485 i = S0 485 i
noncomputable def rxmFERB_1 (S0 : Nat → Int → Int) (ws : List Int) (S : Nat → Int → Int) (b1 b2 b3 b4 b5 : Int) : Nat := 90
noncomputable def rxzFERB_1 : rx_Z := ([(0, 0), (0, 0), (0, 0), (0, 0), (0, 0), (0, 0), (0, 0), (0, 0), ((-2147483648), 2147483647), ((-2147483648), 2147483647), ((-2147483648), 2147483647), ((-2147483648), 2147483647), ((-2147483648), 2147483647)], [], [], 0, 0, 22, [(0, .inr (3, (0, 480))), (1, .inr (0, (8, 0))), (2, .inr (0, (9, 0))), (3, .inr (0, (10, 0))), (4, .inr (0, (11, 0))), (5, .inr (0, (12, 0)))], [.inr (0, (8, 0)), .inr (3, (0, 480))])
noncomputable def rxIFERB_2 (S0 : Nat → Int → Int) (ws : List Int) (S : Nat → Int → Int) (b1 b2 b3 b4 b5 : Int) : Prop := S0 480 8 ≤ 380 ∧ ws = [480, b1, b2, b3, b4, b5] ∧ S 480 8 = S0 480 8 + 4 ∧ ∀ i : Int, 0 ≤ i → i < 400 → S 485 i = rzQ 4 (S0 480 8 + 0) b1 (S0 485 i) i
noncomputable def rxmFERB_2 (S0 : Nat → Int → Int) (ws : List Int) (S : Nat → Int → Int) (b1 b2 b3 b4 b5 : Int) : Nat := 85
noncomputable def rxzFERB_2 : rx_Z := ([(0, 0), (0, 0), (0, 0), (0, 0), (0, 0), (0, 0), (0, 0), (0, 0), ((-2147483648), 2147483647), ((-2147483648), 2147483647), ((-2147483648), 2147483647), ((-2147483648), 2147483647), ((-2147483648), 2147483647)], [], [], 0, 0, 25, [(0, .inr (3, (0, 480))), (1, .inr (0, (8, 0))), (2, .inr (0, (9, 0))), (3, .inr (0, (10, 0))), (4, .inr (0, (11, 0))), (5, .inr (0, (12, 0)))], [])
noncomputable def rxIFERB_3 (S0 : Nat → Int → Int) (ws : List Int) (S : Nat → Int → Int) (b1 b2 b3 b4 b5 : Int) : Prop := S0 480 8 ≤ 380 ∧ ws = [480, b1, b2, b3, b4, b5] ∧ S 480 8 = S0 480 8 + 4 ∧ ∀ i : Int, 0 ≤ i → i < 400 → S 485 i = rzQ 4 (S0 480 8 + 0) b1 (S0 485 i) i
noncomputable def rxmFERB_3 (S0 : Nat → Int → Int) (ws : List Int) (S : Nat → Int → Int) (b1 b2 b3 b4 b5 : Int) : Nat := 80
noncomputable def rxzFERB_3 : rx_Z := ([(0, 0), (0, 0), (0, 0), (0, 0), (0, 0), (0, 0), (0, 0), (0, 0), ((-2147483648), 2147483647), ((-2147483648), 2147483647), ((-2147483648), 2147483647), ((-2147483648), 2147483647), ((-2147483648), 2147483647)], [], [], 0, 0, 27, [(0, .inr (3, (0, 480))), (1, .inr (0, (8, 0))), (2, .inr (0, (9, 0))), (3, .inr (0, (10, 0))), (4, .inr (0, (11, 0))), (5, .inr (0, (12, 0)))], [.inr (0, (9, 0)), .inr (3, (0, 480))])
noncomputable def rxIFERB_4 (S0 : Nat → Int → Int) (ws : List Int) (S : Nat → Int → Int) (b1 b2 b3 b4 b5 : Int) : Prop := S0 480 8 ≤ 380 ∧ ws = [480, b1, b2, b3, b4, b5] ∧ S 480 8 = S0 480 8 + 8 ∧ ∀ i : Int, 0 ≤ i → i < 400 → S 485 i = rzQ 4 (S0 480 8 + 4) b2 (rzQ 4 (S0 480 8 + 0) b1 (S0 485 i) i) i
noncomputable def rxmFERB_4 (S0 : Nat → Int → Int) (ws : List Int) (S : Nat → Int → Int) (b1 b2 b3 b4 b5 : Int) : Nat := 75
noncomputable def rxzFERB_4 : rx_Z := ([(0, 0), (0, 0), (0, 0), (0, 0), (0, 0), (0, 0), (0, 0), (0, 0), ((-2147483648), 2147483647), ((-2147483648), 2147483647), ((-2147483648), 2147483647), ((-2147483648), 2147483647), ((-2147483648), 2147483647)], [], [], 0, 0, 30, [(0, .inr (3, (0, 480))), (1, .inr (0, (8, 0))), (2, .inr (0, (9, 0))), (3, .inr (0, (10, 0))), (4, .inr (0, (11, 0))), (5, .inr (0, (12, 0)))], [])
noncomputable def rxIFERB_5 (S0 : Nat → Int → Int) (ws : List Int) (S : Nat → Int → Int) (b1 b2 b3 b4 b5 : Int) : Prop := S0 480 8 ≤ 380 ∧ ws = [480, b1, b2, b3, b4, b5] ∧ S 480 8 = S0 480 8 + 8 ∧ ∀ i : Int, 0 ≤ i → i < 400 → S 485 i = rzQ 4 (S0 480 8 + 4) b2 (rzQ 4 (S0 480 8 + 0) b1 (S0 485 i) i) i
noncomputable def rxmFERB_5 (S0 : Nat → Int → Int) (ws : List Int) (S : Nat → Int → Int) (b1 b2 b3 b4 b5 : Int) : Nat := 70
noncomputable def rxzFERB_5 : rx_Z := ([(0, 0), (0, 0), (0, 0), (0, 0), (0, 0), (0, 0), (0, 0), (0, 0), ((-2147483648), 2147483647), ((-2147483648), 2147483647), ((-2147483648), 2147483647), ((-2147483648), 2147483647), ((-2147483648), 2147483647)], [], [], 0, 0, 32, [(0, .inr (3, (0, 480))), (1, .inr (0, (8, 0))), (2, .inr (0, (9, 0))), (3, .inr (0, (10, 0))), (4, .inr (0, (11, 0))), (5, .inr (0, (12, 0)))], [.inr (0, (10, 0)), .inr (3, (0, 480))])
noncomputable def rxIFERB_6 (S0 : Nat → Int → Int) (ws : List Int) (S : Nat → Int → Int) (b1 b2 b3 b4 b5 : Int) : Prop := S0 480 8 ≤ 380 ∧ ws = [480, b1, b2, b3, b4, b5] ∧ S 480 8 = S0 480 8 + 12 ∧ ∀ i : Int, 0 ≤ i → i < 400 → S 485 i = rzQ 4 (S0 480 8 + 8) b3 (rzQ 4 (S0 480 8 + 4) b2 (rzQ 4 (S0 480 8 + 0) b1 (S0 485 i) i) i) i
noncomputable def rxmFERB_6 (S0 : Nat → Int → Int) (ws : List Int) (S : Nat → Int → Int) (b1 b2 b3 b4 b5 : Int) : Nat := 65
noncomputable def rxzFERB_6 : rx_Z := ([(0, 0), (0, 0), (0, 0), (0, 0), (0, 0), (0, 0), (0, 0), (0, 0), ((-2147483648), 2147483647), ((-2147483648), 2147483647), ((-2147483648), 2147483647), ((-2147483648), 2147483647), ((-2147483648), 2147483647)], [], [], 0, 0, 35, [(0, .inr (3, (0, 480))), (1, .inr (0, (8, 0))), (2, .inr (0, (9, 0))), (3, .inr (0, (10, 0))), (4, .inr (0, (11, 0))), (5, .inr (0, (12, 0)))], [])
noncomputable def rxIFERB_7 (S0 : Nat → Int → Int) (ws : List Int) (S : Nat → Int → Int) (b1 b2 b3 b4 b5 : Int) : Prop := S0 480 8 ≤ 380 ∧ ws = [480, b1, b2, b3, b4, b5] ∧ S 480 8 = S0 480 8 + 12 ∧ ∀ i : Int, 0 ≤ i → i < 400 → S 485 i = rzQ 4 (S0 480 8 + 8) b3 (rzQ 4 (S0 480 8 + 4) b2 (rzQ 4 (S0 480 8 + 0) b1 (S0 485 i) i) i) i
noncomputable def rxmFERB_7 (S0 : Nat → Int → Int) (ws : List Int) (S : Nat → Int → Int) (b1 b2 b3 b4 b5 : Int) : Nat := 60
noncomputable def rxzFERB_7 : rx_Z := ([(0, 0), (0, 0), (0, 0), (0, 0), (0, 0), (0, 0), (0, 0), (0, 0), ((-2147483648), 2147483647), ((-2147483648), 2147483647), ((-2147483648), 2147483647), ((-2147483648), 2147483647), ((-2147483648), 2147483647)], [], [], 0, 0, 38, [(0, .inr (3, (0, 480))), (1, .inr (0, (8, 0))), (2, .inr (0, (9, 0))), (3, .inr (0, (10, 0))), (4, .inr (0, (11, 0))), (5, .inr (0, (12, 0)))], [.inr (0, (11, 0)), .inr (3, (0, 480))])
noncomputable def rxIFERB_8 (S0 : Nat → Int → Int) (ws : List Int) (S : Nat → Int → Int) (b1 b2 b3 b4 b5 : Int) : Prop := S0 480 8 ≤ 380 ∧ ws = [480, b1, b2, b3, b4, b5] ∧ S 480 8 = S0 480 8 + 16 ∧ ∀ i : Int, 0 ≤ i → i < 400 → S 485 i = rzQ 4 (S0 480 8 + 12) b4 (rzQ 4 (S0 480 8 + 8) b3 (rzQ 4 (S0 480 8 + 4) b2 (rzQ 4 (S0 480 8 + 0) b1 (S0 485 i) i) i) i) i
noncomputable def rxmFERB_8 (S0 : Nat → Int → Int) (ws : List Int) (S : Nat → Int → Int) (b1 b2 b3 b4 b5 : Int) : Nat := 55
noncomputable def rxzFERB_8 : rx_Z := ([(0, 0), (0, 0), (0, 0), (0, 0), (0, 0), (0, 0), (0, 0), (0, 0), ((-2147483648), 2147483647), ((-2147483648), 2147483647), ((-2147483648), 2147483647), ((-2147483648), 2147483647), ((-2147483648), 2147483647)], [], [], 0, 0, 41, [(0, .inr (3, (0, 480))), (1, .inr (0, (8, 0))), (2, .inr (0, (9, 0))), (3, .inr (0, (10, 0))), (4, .inr (0, (11, 0))), (5, .inr (0, (12, 0)))], [])
noncomputable def rxIFERB_9 (S0 : Nat → Int → Int) (ws : List Int) (S : Nat → Int → Int) (b1 b2 b3 b4 b5 : Int) : Prop := S0 480 8 ≤ 380 ∧ ws = [480, b1, b2, b3, b4, b5] ∧ S 480 8 = S0 480 8 + 16 ∧ ∀ i : Int, 0 ≤ i → i < 400 → S 485 i = rzQ 4 (S0 480 8 + 12) b4 (rzQ 4 (S0 480 8 + 8) b3 (rzQ 4 (S0 480 8 + 4) b2 (rzQ 4 (S0 480 8 + 0) b1 (S0 485 i) i) i) i) i
noncomputable def rxmFERB_9 (S0 : Nat → Int → Int) (ws : List Int) (S : Nat → Int → Int) (b1 b2 b3 b4 b5 : Int) : Nat := 50
noncomputable def rxzFERB_9 : rx_Z := ([(0, 0), (0, 0), (0, 0), (0, 0), (0, 0), (0, 0), (0, 0), (0, 0), ((-2147483648), 2147483647), ((-2147483648), 2147483647), ((-2147483648), 2147483647), ((-2147483648), 2147483647), ((-2147483648), 2147483647)], [], [], 0, 0, 44, [(0, .inr (3, (0, 480))), (1, .inr (0, (8, 0))), (2, .inr (0, (9, 0))), (3, .inr (0, (10, 0))), (4, .inr (0, (11, 0))), (5, .inr (0, (12, 0)))], [.inr (0, (12, 0)), .inr (3, (0, 480))])
noncomputable def rxIFERB_10 (S0 : Nat → Int → Int) (ws : List Int) (S : Nat → Int → Int) (b1 b2 b3 b4 b5 : Int) : Prop := S0 480 8 ≤ 380 ∧ ws = [480, b1, b2, b3, b4, b5] ∧ S 480 8 = S0 480 8 + 20 ∧ ∀ i : Int, 0 ≤ i → i < 400 → S 485 i = rzQ 4 (S0 480 8 + 16) b5 (rzQ 4 (S0 480 8 + 12) b4 (rzQ 4 (S0 480 8 + 8) b3 (rzQ 4 (S0 480 8 + 4) b2 (rzQ 4 (S0 480 8 + 0) b1 (S0 485 i) i) i) i) i) i
noncomputable def rxmFERB_10 (S0 : Nat → Int → Int) (ws : List Int) (S : Nat → Int → Int) (b1 b2 b3 b4 b5 : Int) : Nat := 45
noncomputable def rxzFERB_10 : rx_Z := ([(0, 0), (0, 0), (0, 0), (0, 0), (0, 0), (0, 0), (0, 0), (0, 0), ((-2147483648), 2147483647), ((-2147483648), 2147483647), ((-2147483648), 2147483647), ((-2147483648), 2147483647), ((-2147483648), 2147483647)], [], [], 0, 0, 47, [(0, .inr (3, (0, 480))), (1, .inr (0, (8, 0))), (2, .inr (0, (9, 0))), (3, .inr (0, (10, 0))), (4, .inr (0, (11, 0))), (5, .inr (0, (12, 0)))], [])
noncomputable def rxoFERB_0_0 : bx_HO := (([(0, 0), (0, 0), (0, 0), (0, 0), (0, 0), (0, 0), (0, 0), (0, 0), ((-2147483648), 2147483647), ((-2147483648), 2147483647), ((-2147483648), 2147483647), ((-2147483648), 2147483647), ((-2147483648), 2147483647), (0, 380)], [], [(((0, 0), 1851192626986356799029993984671224184301589730656725206267068416000000), .inr (0, (13, 0))), (((0, 480), 8), .inr (0, (13, 0))), (((0, 0), 1851192626986356797424340330377019318111018015026043177836478467000000), .inr (0, (0, 0))), (((0, 480), 0), .inr (0, (0, 0)))], 0, 0, 22, [(0, .inr (3, (0, 480))), (1, .inr (0, (8, 0))), (2, .inr (0, (9, 0))), (3, .inr (0, (10, 0))), (4, .inr (0, (11, 0))), (5, .inr (0, (12, 0)))], [.inr (0, (8, 0)), .inr (3, (0, 480))]), [], [], [(0, 0), (0, 0), (0, 0), (0, 0), (0, 0), (0, 0), (0, 0), (0, 0), (8, 0), (9, 0), (10, 0), (11, 0), (12, 0)], 1)
noncomputable def rxeFERB_0_0 : rx_End × List (Nat × Int × Int) := (([(0, 0), (0, 0), (0, 0), (0, 0), (0, 0), (0, 0), (0, 0), (0, 0), ((-2147483648), 2147483647), ((-2147483648), 2147483647), ((-2147483648), 2147483647), ((-2147483648), 2147483647), ((-2147483648), 2147483647), (381, 400)], [], [(((0, 0), 1851192626986356799029993984671224184301589730656725206267068416000000), .inr (0, (13, 0))), (((0, 480), 8), .inr (0, (13, 0))), (((0, 0), 1851192626986356797424340330377019318111018015026043177836478467000000), .inr (0, (0, 0))), (((0, 480), 0), .inr (0, (0, 0)))], some (.inr (0, (0, (-1))))), [])
noncomputable def rxoFERB_2_0 : bx_HO := (([(0, 0), (0, 0), (0, 0), (0, 0), (0, 0), (0, 0), (0, 0), (0, 0), ((-2147483648), 2147483647), ((-2147483648), 2147483647), ((-2147483648), 2147483647), ((-2147483648), 2147483647), ((-2147483648), 2147483647)], [], [], 0, 0, 27, [(0, .inr (3, (0, 480))), (1, .inr (0, (8, 0))), (2, .inr (0, (9, 0))), (3, .inr (0, (10, 0))), (4, .inr (0, (11, 0))), (5, .inr (0, (12, 0)))], [.inr (0, (9, 0)), .inr (3, (0, 480))]), [], [], [(0, 0), (0, 0), (0, 0), (0, 0), (0, 0), (0, 0), (0, 0), (0, 0), (8, 0), (9, 0), (10, 0), (11, 0), (12, 0)], 3)
noncomputable def rxoFERB_4_0 : bx_HO := (([(0, 0), (0, 0), (0, 0), (0, 0), (0, 0), (0, 0), (0, 0), (0, 0), ((-2147483648), 2147483647), ((-2147483648), 2147483647), ((-2147483648), 2147483647), ((-2147483648), 2147483647), ((-2147483648), 2147483647)], [], [], 0, 0, 32, [(0, .inr (3, (0, 480))), (1, .inr (0, (8, 0))), (2, .inr (0, (9, 0))), (3, .inr (0, (10, 0))), (4, .inr (0, (11, 0))), (5, .inr (0, (12, 0)))], [.inr (0, (10, 0)), .inr (3, (0, 480))]), [], [], [(0, 0), (0, 0), (0, 0), (0, 0), (0, 0), (0, 0), (0, 0), (0, 0), (8, 0), (9, 0), (10, 0), (11, 0), (12, 0)], 5)
noncomputable def rxoFERB_6_0 : bx_HO := (([(0, 0), (0, 0), (0, 0), (0, 0), (0, 0), (0, 0), (0, 0), (0, 0), ((-2147483648), 2147483647), ((-2147483648), 2147483647), ((-2147483648), 2147483647), ((-2147483648), 2147483647), ((-2147483648), 2147483647)], [], [], 0, 0, 38, [(0, .inr (3, (0, 480))), (1, .inr (0, (8, 0))), (2, .inr (0, (9, 0))), (3, .inr (0, (10, 0))), (4, .inr (0, (11, 0))), (5, .inr (0, (12, 0)))], [.inr (0, (11, 0)), .inr (3, (0, 480))]), [], [], [(0, 0), (0, 0), (0, 0), (0, 0), (0, 0), (0, 0), (0, 0), (0, 0), (8, 0), (9, 0), (10, 0), (11, 0), (12, 0)], 7)
noncomputable def rxoFERB_8_0 : bx_HO := (([(0, 0), (0, 0), (0, 0), (0, 0), (0, 0), (0, 0), (0, 0), (0, 0), ((-2147483648), 2147483647), ((-2147483648), 2147483647), ((-2147483648), 2147483647), ((-2147483648), 2147483647), ((-2147483648), 2147483647)], [], [], 0, 0, 44, [(0, .inr (3, (0, 480))), (1, .inr (0, (8, 0))), (2, .inr (0, (9, 0))), (3, .inr (0, (10, 0))), (4, .inr (0, (11, 0))), (5, .inr (0, (12, 0)))], [.inr (0, (12, 0)), .inr (3, (0, 480))]), [], [], [(0, 0), (0, 0), (0, 0), (0, 0), (0, 0), (0, 0), (0, 0), (0, 0), (8, 0), (9, 0), (10, 0), (11, 0), (12, 0)], 9)
noncomputable def rxeFERB_10_0 : rx_End × List (Nat × Int × Int) := (([(0, 0), (0, 0), (0, 0), (0, 0), (0, 0), (0, 0), (0, 0), (0, 0), ((-2147483648), 2147483647), ((-2147483648), 2147483647), ((-2147483648), 2147483647), ((-2147483648), 2147483647), ((-2147483648), 2147483647), (0, 400)], [], [(((0, 0), 1851192626986356799029993984671224184301589730656725206267068416000000), .inr (0, (13, 0))), (((0, 480), 8), .inr (0, (13, 0)))], some (.inr (0, (13, 0)))), [])
noncomputable def rxYFERB : List bx_HE := [(rxzFERB_0, [rxoFERB_0_0], [rxeFERB_0_0]), (rxzFERB_1, [], []), (rxzFERB_2, [rxoFERB_2_0], []), (rxzFERB_3, [], []), (rxzFERB_4, [rxoFERB_4_0], []), (rxzFERB_5, [], []), (rxzFERB_6, [rxoFERB_6_0], []), (rxzFERB_7, [], []), (rxzFERB_8, [rxoFERB_8_0], []), (rxzFERB_9, [], []), (rxzFERB_10, [], [rxeFERB_10_0])]
noncomputable def rxUFERB (q : bx_HE) : Bool := Nat.beq (rx_zpc q.1) 22 || Nat.beq (rx_zpc q.1) 27 || Nat.beq (rx_zpc q.1) 32 || Nat.beq (rx_zpc q.1) 38 || Nat.beq (rx_zpc q.1) 44
noncomputable def rxYBFERB : bx_B := (rxV, rxNP, rxDmf, bx_mdH rxC232.2.2.1)
set_option maxRecDepth 100000 in
theorem rxYcFERB : bx_chkH rxYBFERB rxM232 rxC232 rxYFERB (rxUFERB, fun cut z => rx_ex2 (rxCT rxYBFERB rxCnE) cut 30000 rxC232.2.2.2.1 232 z) = true := by decide +kernel
noncomputable def rxIFERB (S0 : Nat → Int → Int) (ws : List Int) (i : Nat) : bx_SP := fun S r => match i with | 0 => rxIFERB_0 S0 ws S (r 8) (r 9) (r 10) (r 11) (r 12) | 1 => rxIFERB_1 S0 ws S (r 8) (r 9) (r 10) (r 11) (r 12) | 2 => rxIFERB_2 S0 ws S (r 8) (r 9) (r 10) (r 11) (r 12) | 3 => rxIFERB_3 S0 ws S (r 8) (r 9) (r 10) (r 11) (r 12) | 4 => rxIFERB_4 S0 ws S (r 8) (r 9) (r 10) (r 11) (r 12) | 5 => rxIFERB_5 S0 ws S (r 8) (r 9) (r 10) (r 11) (r 12) | 6 => rxIFERB_6 S0 ws S (r 8) (r 9) (r 10) (r 11) (r 12) | 7 => rxIFERB_7 S0 ws S (r 8) (r 9) (r 10) (r 11) (r 12) | 8 => rxIFERB_8 S0 ws S (r 8) (r 9) (r 10) (r 11) (r 12) | 9 => rxIFERB_9 S0 ws S (r 8) (r 9) (r 10) (r 11) (r 12) | 10 => rxIFERB_10 S0 ws S (r 8) (r 9) (r 10) (r 11) (r 12) | _ => False
noncomputable def rxmFERB (S0 : Nat → Int → Int) (ws : List Int) (i : Nat) (S : Nat → Int → Int) (r : Nat → Int) : Nat := match i with | 0 => rxmFERB_0 S0 ws S (r 8) (r 9) (r 10) (r 11) (r 12) | 1 => rxmFERB_1 S0 ws S (r 8) (r 9) (r 10) (r 11) (r 12) | 2 => rxmFERB_2 S0 ws S (r 8) (r 9) (r 10) (r 11) (r 12) | 3 => rxmFERB_3 S0 ws S (r 8) (r 9) (r 10) (r 11) (r 12) | 4 => rxmFERB_4 S0 ws S (r 8) (r 9) (r 10) (r 11) (r 12) | 5 => rxmFERB_5 S0 ws S (r 8) (r 9) (r 10) (r 11) (r 12) | 6 => rxmFERB_6 S0 ws S (r 8) (r 9) (r 10) (r 11) (r 12) | 7 => rxmFERB_7 S0 ws S (r 8) (r 9) (r 10) (r 11) (r 12) | 8 => rxmFERB_8 S0 ws S (r 8) (r 9) (r 10) (r 11) (r 12) | 9 => rxmFERB_9 S0 ws S (r 8) (r 9) (r 10) (r 11) (r 12) | 10 => rxmFERB_10 S0 ws S (r 8) (r 9) (r 10) (r 11) (r 12) | _ => 0
noncomputable def rxPFERB (S0 : Nat → Int → Int) (ws : List Int) : Prop := True
noncomputable def rxPSFERB (S0 : Nat → Int → Int) (ws : List Int) (S : Nat → Int → Int) (w : Option Int) : Prop := ∃ b1 b2 b3 b4 b5 : Int, ws = [480, b1, b2, b3, b4, b5] ∧ ((380 < S0 480 8 ∧ w = some (-1) ∧ (∀ j : Int, S 482 j = S0 482 j) ∧ S 480 8 = S0 480 8 ∧ ∀ i : Int, 0 ≤ i → i < 400 → S 485 i = S0 485 i) ∨ (S0 480 8 ≤ 380 ∧ w = some (S0 480 8 + 20) ∧ S 480 8 = S0 480 8 + 20 ∧ ∀ i : Int, 0 ≤ i → i < 400 → S 485 i = rzFd (S0 480 8) b1 b2 b3 b4 b5 (S0 485 i) i))
theorem rxkFERB_1 {S0 : Nat → Int → Int} {ws : List Int} {S : Nat → Int → Int} {b1 b2 b3 b4 b5 : Int} (hP : rxPFERB S0 ws) (hin : bx_same rxL (bx_mdl rxC232.2.2.1) S0 S) (I0 : bx_Inv rxL S) (hinv : rxIFERB_1 S0 ws S b1 b2 b3 b4 b5) (l8 : (-2147483648) ≤ b1) (u8 : b1 ≤ 2147483647) (l9 : (-2147483648) ≤ b2) (u9 : b2 ≤ 2147483647) (l10 : (-2147483648) ≤ b3) (u10 : b3 ≤ 2147483647) (l11 : (-2147483648) ≤ b4) (u11 : b4 ≤ 2147483647) (l12 : (-2147483648) ≤ b5) (u12 : b5 ≤ 2147483647) : rxPFOUR S [480, b1] ∧ ∀ (S_p : Nat → Int → Int), rxPSFOUR S [480, b1] S_p none → bx_Inv rxL S_p → bx_same rxL (bx_mdl rxCFOUR.2.2.1) S S_p → rxIFERB_2 S0 ws S_p b1 b2 b3 b4 b5 ∧ rxmFERB_2 S0 ws S_p b1 b2 b3 b4 b5 < rxmFERB_1 S0 ws S b1 b2 b3 b4 b5 := by
  obtain ⟨h1, hw, h3, h4⟩ := hinv
  exact ⟨(show S 480 8 ≤ 396 by omega), fun S_p hq _ hsm => by
    obtain ⟨-, x, hx, q1, q2⟩ := hq
    have hx : b1 = x := Option.some.inj (congrArg (fun l : List Int => l[1]?) hx)
    subst hx
    exact ⟨⟨h1, hw, by omega, fun i i0 i1 => (q2 i i0 i1).trans (by rw [h3, h4 i i0 i1])⟩, by unfold rxmFERB_1 rxmFERB_2; omega⟩⟩
theorem rxsFERB_1 {X : (Nat → Int → Int) → Prop} {S0 : Nat → Int → Int} {ws : List Int} (hP : rxPFERB S0 ws) : rx_obK X S0 rxC232.2.2.1 rxCFOUR.2.2.1 (rxIFERB S0 ws) (rxmFERB S0 ws) 1 2 rxzFERB_1 rxzFERB_2 [.inr (3, (0, 480)), .inr (0, (8, 0))] none rxPFOUR rxPSFOUR := by
  intro S r hinv hXS I0 hin hs_ hf_
  have b_ := bx_bds_sat hs_
  have f_ := bx_fcl_ok hs_.1 hf_
  obtain ⟨⟨l8, u8⟩, ⟨l9, u9⟩, ⟨l10, u10⟩, ⟨l11, u11⟩, ⟨l12, u12⟩, -⟩ := b_
  have g := rxkFERB_1 hP hin I0 hinv l8 u8 l9 u9 l10 u10 l11 u11 l12 u12
  have ea : List.map (bx_num r) [.inr (3, (0, 480)), .inr (0, (8, 0))] = [480, (r 8)] := by
    simp only [List.map_cons, List.map_nil, bx_xv_ok hs_.1]
    rfl
  rw [ea]
  refine ⟨g.1, fun S_p w r_p hPS hX_p I1 hsm hr hw hs_p => ?_⟩
  have hw : w = none := hPS.1
  subst hw
  have g2 := g.2 S_p hPS I1 hsm
  show rxIFERB_2 S0 ws S_p (r_p 8) (r_p 9) (r_p 10) (r_p 11) (r_p 12) ∧ rxmFERB_2 S0 ws S_p (r_p 8) (r_p 9) (r_p 10) (r_p 11) (r_p 12) < _
  rw [hr 8 (by decide), hr 9 (by decide), hr 10 (by decide), hr 11 (by decide), hr 12 (by decide)]
  exact g2
theorem rxkFERB_3 {S0 : Nat → Int → Int} {ws : List Int} {S : Nat → Int → Int} {b1 b2 b3 b4 b5 : Int} (hP : rxPFERB S0 ws) (hin : bx_same rxL (bx_mdl rxC232.2.2.1) S0 S) (I0 : bx_Inv rxL S) (hinv : rxIFERB_3 S0 ws S b1 b2 b3 b4 b5) (l8 : (-2147483648) ≤ b1) (u8 : b1 ≤ 2147483647) (l9 : (-2147483648) ≤ b2) (u9 : b2 ≤ 2147483647) (l10 : (-2147483648) ≤ b3) (u10 : b3 ≤ 2147483647) (l11 : (-2147483648) ≤ b4) (u11 : b4 ≤ 2147483647) (l12 : (-2147483648) ≤ b5) (u12 : b5 ≤ 2147483647) : rxPFOUR S [480, b2] ∧ ∀ (S_p : Nat → Int → Int), rxPSFOUR S [480, b2] S_p none → bx_Inv rxL S_p → bx_same rxL (bx_mdl rxCFOUR.2.2.1) S S_p → rxIFERB_4 S0 ws S_p b1 b2 b3 b4 b5 ∧ rxmFERB_4 S0 ws S_p b1 b2 b3 b4 b5 < rxmFERB_3 S0 ws S b1 b2 b3 b4 b5 := by
  obtain ⟨h1, hw, h3, h4⟩ := hinv
  exact ⟨(show S 480 8 ≤ 396 by omega), fun S_p hq _ hsm => by
    obtain ⟨-, x, hx, q1, q2⟩ := hq
    have hx : b2 = x := Option.some.inj (congrArg (fun l : List Int => l[1]?) hx)
    subst hx
    exact ⟨⟨h1, hw, by omega, fun i i0 i1 => (q2 i i0 i1).trans (by rw [h3, h4 i i0 i1])⟩, by unfold rxmFERB_3 rxmFERB_4; omega⟩⟩
theorem rxsFERB_3 {X : (Nat → Int → Int) → Prop} {S0 : Nat → Int → Int} {ws : List Int} (hP : rxPFERB S0 ws) : rx_obK X S0 rxC232.2.2.1 rxCFOUR.2.2.1 (rxIFERB S0 ws) (rxmFERB S0 ws) 3 4 rxzFERB_3 rxzFERB_4 [.inr (3, (0, 480)), .inr (0, (9, 0))] none rxPFOUR rxPSFOUR := by
  intro S r hinv hXS I0 hin hs_ hf_
  have b_ := bx_bds_sat hs_
  have f_ := bx_fcl_ok hs_.1 hf_
  obtain ⟨⟨l8, u8⟩, ⟨l9, u9⟩, ⟨l10, u10⟩, ⟨l11, u11⟩, ⟨l12, u12⟩, -⟩ := b_
  have g := rxkFERB_3 hP hin I0 hinv l8 u8 l9 u9 l10 u10 l11 u11 l12 u12
  have ea : List.map (bx_num r) [.inr (3, (0, 480)), .inr (0, (9, 0))] = [480, (r 9)] := by
    simp only [List.map_cons, List.map_nil, bx_xv_ok hs_.1]
    rfl
  rw [ea]
  refine ⟨g.1, fun S_p w r_p hPS hX_p I1 hsm hr hw hs_p => ?_⟩
  have hw : w = none := hPS.1
  subst hw
  have g2 := g.2 S_p hPS I1 hsm
  show rxIFERB_4 S0 ws S_p (r_p 8) (r_p 9) (r_p 10) (r_p 11) (r_p 12) ∧ rxmFERB_4 S0 ws S_p (r_p 8) (r_p 9) (r_p 10) (r_p 11) (r_p 12) < _
  rw [hr 8 (by decide), hr 9 (by decide), hr 10 (by decide), hr 11 (by decide), hr 12 (by decide)]
  exact g2
theorem rxkFERB_5 {S0 : Nat → Int → Int} {ws : List Int} {S : Nat → Int → Int} {b1 b2 b3 b4 b5 : Int} (hP : rxPFERB S0 ws) (hin : bx_same rxL (bx_mdl rxC232.2.2.1) S0 S) (I0 : bx_Inv rxL S) (hinv : rxIFERB_5 S0 ws S b1 b2 b3 b4 b5) (l8 : (-2147483648) ≤ b1) (u8 : b1 ≤ 2147483647) (l9 : (-2147483648) ≤ b2) (u9 : b2 ≤ 2147483647) (l10 : (-2147483648) ≤ b3) (u10 : b3 ≤ 2147483647) (l11 : (-2147483648) ≤ b4) (u11 : b4 ≤ 2147483647) (l12 : (-2147483648) ≤ b5) (u12 : b5 ≤ 2147483647) : rxPFOUR S [480, b3] ∧ ∀ (S_p : Nat → Int → Int), rxPSFOUR S [480, b3] S_p none → bx_Inv rxL S_p → bx_same rxL (bx_mdl rxCFOUR.2.2.1) S S_p → rxIFERB_6 S0 ws S_p b1 b2 b3 b4 b5 ∧ rxmFERB_6 S0 ws S_p b1 b2 b3 b4 b5 < rxmFERB_5 S0 ws S b1 b2 b3 b4 b5 := by
  obtain ⟨h1, hw, h3, h4⟩ := hinv
  exact ⟨(show S 480 8 ≤ 396 by omega), fun S_p hq _ hsm => by
    obtain ⟨-, x, hx, q1, q2⟩ := hq
    have hx : b3 = x := Option.some.inj (congrArg (fun l : List Int => l[1]?) hx)
    subst hx
    exact ⟨⟨h1, hw, by omega, fun i i0 i1 => (q2 i i0 i1).trans (by rw [h3, h4 i i0 i1])⟩, by unfold rxmFERB_5 rxmFERB_6; omega⟩⟩
theorem rxsFERB_5 {X : (Nat → Int → Int) → Prop} {S0 : Nat → Int → Int} {ws : List Int} (hP : rxPFERB S0 ws) : rx_obK X S0 rxC232.2.2.1 rxCFOUR.2.2.1 (rxIFERB S0 ws) (rxmFERB S0 ws) 5 6 rxzFERB_5 rxzFERB_6 [.inr (3, (0, 480)), .inr (0, (10, 0))] none rxPFOUR rxPSFOUR := by
  intro S r hinv hXS I0 hin hs_ hf_
  have b_ := bx_bds_sat hs_
  have f_ := bx_fcl_ok hs_.1 hf_
  obtain ⟨⟨l8, u8⟩, ⟨l9, u9⟩, ⟨l10, u10⟩, ⟨l11, u11⟩, ⟨l12, u12⟩, -⟩ := b_
  have g := rxkFERB_5 hP hin I0 hinv l8 u8 l9 u9 l10 u10 l11 u11 l12 u12
  have ea : List.map (bx_num r) [.inr (3, (0, 480)), .inr (0, (10, 0))] = [480, (r 10)] := by
    simp only [List.map_cons, List.map_nil, bx_xv_ok hs_.1]
    rfl
  rw [ea]
  refine ⟨g.1, fun S_p w r_p hPS hX_p I1 hsm hr hw hs_p => ?_⟩
  have hw : w = none := hPS.1
  subst hw
  have g2 := g.2 S_p hPS I1 hsm
  show rxIFERB_6 S0 ws S_p (r_p 8) (r_p 9) (r_p 10) (r_p 11) (r_p 12) ∧ rxmFERB_6 S0 ws S_p (r_p 8) (r_p 9) (r_p 10) (r_p 11) (r_p 12) < _
  rw [hr 8 (by decide), hr 9 (by decide), hr 10 (by decide), hr 11 (by decide), hr 12 (by decide)]
  exact g2
theorem rxkFERB_7 {S0 : Nat → Int → Int} {ws : List Int} {S : Nat → Int → Int} {b1 b2 b3 b4 b5 : Int} (hP : rxPFERB S0 ws) (hin : bx_same rxL (bx_mdl rxC232.2.2.1) S0 S) (I0 : bx_Inv rxL S) (hinv : rxIFERB_7 S0 ws S b1 b2 b3 b4 b5) (l8 : (-2147483648) ≤ b1) (u8 : b1 ≤ 2147483647) (l9 : (-2147483648) ≤ b2) (u9 : b2 ≤ 2147483647) (l10 : (-2147483648) ≤ b3) (u10 : b3 ≤ 2147483647) (l11 : (-2147483648) ≤ b4) (u11 : b4 ≤ 2147483647) (l12 : (-2147483648) ≤ b5) (u12 : b5 ≤ 2147483647) : rxPFOUR S [480, b4] ∧ ∀ (S_p : Nat → Int → Int), rxPSFOUR S [480, b4] S_p none → bx_Inv rxL S_p → bx_same rxL (bx_mdl rxCFOUR.2.2.1) S S_p → rxIFERB_8 S0 ws S_p b1 b2 b3 b4 b5 ∧ rxmFERB_8 S0 ws S_p b1 b2 b3 b4 b5 < rxmFERB_7 S0 ws S b1 b2 b3 b4 b5 := by
  obtain ⟨h1, hw, h3, h4⟩ := hinv
  exact ⟨(show S 480 8 ≤ 396 by omega), fun S_p hq _ hsm => by
    obtain ⟨-, x, hx, q1, q2⟩ := hq
    have hx : b4 = x := Option.some.inj (congrArg (fun l : List Int => l[1]?) hx)
    subst hx
    exact ⟨⟨h1, hw, by omega, fun i i0 i1 => (q2 i i0 i1).trans (by rw [h3, h4 i i0 i1])⟩, by unfold rxmFERB_7 rxmFERB_8; omega⟩⟩
theorem rxsFERB_7 {X : (Nat → Int → Int) → Prop} {S0 : Nat → Int → Int} {ws : List Int} (hP : rxPFERB S0 ws) : rx_obK X S0 rxC232.2.2.1 rxCFOUR.2.2.1 (rxIFERB S0 ws) (rxmFERB S0 ws) 7 8 rxzFERB_7 rxzFERB_8 [.inr (3, (0, 480)), .inr (0, (11, 0))] none rxPFOUR rxPSFOUR := by
  intro S r hinv hXS I0 hin hs_ hf_
  have b_ := bx_bds_sat hs_
  have f_ := bx_fcl_ok hs_.1 hf_
  obtain ⟨⟨l8, u8⟩, ⟨l9, u9⟩, ⟨l10, u10⟩, ⟨l11, u11⟩, ⟨l12, u12⟩, -⟩ := b_
  have g := rxkFERB_7 hP hin I0 hinv l8 u8 l9 u9 l10 u10 l11 u11 l12 u12
  have ea : List.map (bx_num r) [.inr (3, (0, 480)), .inr (0, (11, 0))] = [480, (r 11)] := by
    simp only [List.map_cons, List.map_nil, bx_xv_ok hs_.1]
    rfl
  rw [ea]
  refine ⟨g.1, fun S_p w r_p hPS hX_p I1 hsm hr hw hs_p => ?_⟩
  have hw : w = none := hPS.1
  subst hw
  have g2 := g.2 S_p hPS I1 hsm
  show rxIFERB_8 S0 ws S_p (r_p 8) (r_p 9) (r_p 10) (r_p 11) (r_p 12) ∧ rxmFERB_8 S0 ws S_p (r_p 8) (r_p 9) (r_p 10) (r_p 11) (r_p 12) < _
  rw [hr 8 (by decide), hr 9 (by decide), hr 10 (by decide), hr 11 (by decide), hr 12 (by decide)]
  exact g2
theorem rxkFERB_9 {S0 : Nat → Int → Int} {ws : List Int} {S : Nat → Int → Int} {b1 b2 b3 b4 b5 : Int} (hP : rxPFERB S0 ws) (hin : bx_same rxL (bx_mdl rxC232.2.2.1) S0 S) (I0 : bx_Inv rxL S) (hinv : rxIFERB_9 S0 ws S b1 b2 b3 b4 b5) (l8 : (-2147483648) ≤ b1) (u8 : b1 ≤ 2147483647) (l9 : (-2147483648) ≤ b2) (u9 : b2 ≤ 2147483647) (l10 : (-2147483648) ≤ b3) (u10 : b3 ≤ 2147483647) (l11 : (-2147483648) ≤ b4) (u11 : b4 ≤ 2147483647) (l12 : (-2147483648) ≤ b5) (u12 : b5 ≤ 2147483647) : rxPFOUR S [480, b5] ∧ ∀ (S_p : Nat → Int → Int), rxPSFOUR S [480, b5] S_p none → bx_Inv rxL S_p → bx_same rxL (bx_mdl rxCFOUR.2.2.1) S S_p → rxIFERB_10 S0 ws S_p b1 b2 b3 b4 b5 ∧ rxmFERB_10 S0 ws S_p b1 b2 b3 b4 b5 < rxmFERB_9 S0 ws S b1 b2 b3 b4 b5 := by
  obtain ⟨h1, hw, h3, h4⟩ := hinv
  exact ⟨(show S 480 8 ≤ 396 by omega), fun S_p hq _ hsm => by
    obtain ⟨-, x, hx, q1, q2⟩ := hq
    have hx : b5 = x := Option.some.inj (congrArg (fun l : List Int => l[1]?) hx)
    subst hx
    exact ⟨⟨h1, hw, by omega, fun i i0 i1 => (q2 i i0 i1).trans (by rw [h3, h4 i i0 i1])⟩, by unfold rxmFERB_9 rxmFERB_10; omega⟩⟩
theorem rxsFERB_9 {X : (Nat → Int → Int) → Prop} {S0 : Nat → Int → Int} {ws : List Int} (hP : rxPFERB S0 ws) : rx_obK X S0 rxC232.2.2.1 rxCFOUR.2.2.1 (rxIFERB S0 ws) (rxmFERB S0 ws) 9 10 rxzFERB_9 rxzFERB_10 [.inr (3, (0, 480)), .inr (0, (12, 0))] none rxPFOUR rxPSFOUR := by
  intro S r hinv hXS I0 hin hs_ hf_
  have b_ := bx_bds_sat hs_
  have f_ := bx_fcl_ok hs_.1 hf_
  obtain ⟨⟨l8, u8⟩, ⟨l9, u9⟩, ⟨l10, u10⟩, ⟨l11, u11⟩, ⟨l12, u12⟩, -⟩ := b_
  have g := rxkFERB_9 hP hin I0 hinv l8 u8 l9 u9 l10 u10 l11 u11 l12 u12
  have ea : List.map (bx_num r) [.inr (3, (0, 480)), .inr (0, (12, 0))] = [480, (r 12)] := by
    simp only [List.map_cons, List.map_nil, bx_xv_ok hs_.1]
    rfl
  rw [ea]
  refine ⟨g.1, fun S_p w r_p hPS hX_p I1 hsm hr hw hs_p => ?_⟩
  have hw : w = none := hPS.1
  subst hw
  have g2 := g.2 S_p hPS I1 hsm
  show rxIFERB_10 S0 ws S_p (r_p 8) (r_p 9) (r_p 10) (r_p 11) (r_p 12) ∧ rxmFERB_10 S0 ws S_p (r_p 8) (r_p 9) (r_p 10) (r_p 11) (r_p 12) < _
  rw [hr 8 (by decide), hr 9 (by decide), hr 10 (by decide), hr 11 (by decide), hr 12 (by decide)]
  exact g2
theorem rxcFERB_0_0 {S0 : Nat → Int → Int} {ws : List Int} {S : Nat → Int → Int} {b1 b2 b3 b4 b5 x13 : Int} (hP : rxPFERB S0 ws) (hin : bx_same rxL (bx_mdl rxC232.2.2.1) S0 S) (I0 : bx_Inv rxL S) (hinv : rxIFERB_0 S0 ws S b1 b2 b3 b4 b5) (l8 : (-2147483648) ≤ b1) (u8 : b1 ≤ 2147483647) (l9 : (-2147483648) ≤ b2) (u9 : b2 ≤ 2147483647) (l10 : (-2147483648) ≤ b3) (u10 : b3 ≤ 2147483647) (l11 : (-2147483648) ≤ b4) (u11 : b4 ≤ 2147483647) (l12 : (-2147483648) ≤ b5) (u12 : b5 ≤ 2147483647) (l13 : 0 ≤ x13) (u13 : x13 ≤ 380) (e0 : (bx_up S 480 0 0) 480 8 = x13) : (True) ∧ (True) ∧ rxIFERB_1 S0 ws (bx_up S 480 0 0) b1 b2 b3 b4 b5 ∧ rxmFERB_1 S0 ws (bx_up S 480 0 0) b1 b2 b3 b4 b5 < rxmFERB_0 S0 ws S b1 b2 b3 b4 b5 := by
  obtain ⟨rfl, hw⟩ := hinv
  have e := e0
  rw [bx_up_ne (by omega)] at e
  exact ⟨trivial, trivial, ⟨by omega, hw, (bx_up_ne (by omega)).trans (by omega), fun i i0 i1 => bx_up_ne (by omega)⟩, by unfold rxmFERB_0 rxmFERB_1; omega⟩
theorem rxgFERB_0_0 {X : (Nat → Int → Int) → Prop} {S0 : Nat → Int → Int} {ws : List Int} (hP : rxPFERB S0 ws) : bx_obC rxL X S0 rxC232.2.2.1 (rxIFERB S0 ws) (rxmFERB S0 ws) 0 rxzFERB_0 rxoFERB_0_0 := by
  intro S S_p r r_p hinv hX hin hsm_ hseg
  obtain ⟨I0, I1, h0_, hr_, b_, f_, d_⟩ := bx_cl (evs := [(0, (0, 480), (0, 8), .inr (0, (13, 0))), (1, (0, 480), (0, 0), .inr (0, (0, 0)))]) (fvs := []) hseg (by decide +kernel) (by decide +kernel)
  have hinv : rxIFERB_0 S0 ws S (r 8) (r 9) (r 10) (r 11) (r 12) := hinv
  rw [← hr_ 8 (by decide), ← hr_ 9 (by decide), ← hr_ 10 (by decide), ← hr_ 11 (by decide), ← hr_ 12 (by decide)] at hinv
  obtain ⟨⟨l8, u8⟩, ⟨l9, u9⟩, ⟨l10, u10⟩, ⟨l11, u11⟩, ⟨l12, u12⟩, ⟨l13, u13⟩, -⟩ := b_
  obtain ⟨e0, ⟨T1, w_, w1⟩⟩ := d_
  subst w1
  subst w_
  have g := rxcFERB_0_0 hP hin I0 hinv l8 u8 l9 u9 l10 u10 l11 u11 l12 u12 l13 u13 e0
  refine ⟨bx_narP_ok (l := []) g.1, bx_nfP_ok h0_ (fvs := []) (by decide +kernel) g.2.1, ?_, ?_⟩
  · show rxIFERB_1 S0 ws (bx_up T1 480 (0) (0)) (bx_val [(0, 0), (0, 0), (0, 0), (0, 0), (0, 0), (0, 0), (0, 0), (0, 0), (8, 0), (9, 0), (10, 0), (11, 0), (12, 0)] r_p 8) (bx_val [(0, 0), (0, 0), (0, 0), (0, 0), (0, 0), (0, 0), (0, 0), (0, 0), (8, 0), (9, 0), (10, 0), (11, 0), (12, 0)] r_p 9) (bx_val [(0, 0), (0, 0), (0, 0), (0, 0), (0, 0), (0, 0), (0, 0), (0, 0), (8, 0), (9, 0), (10, 0), (11, 0), (12, 0)] r_p 10) (bx_val [(0, 0), (0, 0), (0, 0), (0, 0), (0, 0), (0, 0), (0, 0), (0, 0), (8, 0), (9, 0), (10, 0), (11, 0), (12, 0)] r_p 11) (bx_val [(0, 0), (0, 0), (0, 0), (0, 0), (0, 0), (0, 0), (0, 0), (0, 0), (8, 0), (9, 0), (10, 0), (11, 0), (12, 0)] r_p 12)
    rw [bx_val_x (n := 8) (e := (8, 0)) h0_ rfl, bx_val_x (n := 9) (e := (9, 0)) h0_ rfl, bx_val_x (n := 10) (e := (10, 0)) h0_ rfl, bx_val_x (n := 11) (e := (11, 0)) h0_ rfl, bx_val_x (n := 12) (e := (12, 0)) h0_ rfl]
    exact g.2.2.1
  · show rxmFERB_1 S0 ws (bx_up T1 480 (0) (0)) (bx_val [(0, 0), (0, 0), (0, 0), (0, 0), (0, 0), (0, 0), (0, 0), (0, 0), (8, 0), (9, 0), (10, 0), (11, 0), (12, 0)] r_p 8) (bx_val [(0, 0), (0, 0), (0, 0), (0, 0), (0, 0), (0, 0), (0, 0), (0, 0), (8, 0), (9, 0), (10, 0), (11, 0), (12, 0)] r_p 9) (bx_val [(0, 0), (0, 0), (0, 0), (0, 0), (0, 0), (0, 0), (0, 0), (0, 0), (8, 0), (9, 0), (10, 0), (11, 0), (12, 0)] r_p 10) (bx_val [(0, 0), (0, 0), (0, 0), (0, 0), (0, 0), (0, 0), (0, 0), (0, 0), (8, 0), (9, 0), (10, 0), (11, 0), (12, 0)] r_p 11) (bx_val [(0, 0), (0, 0), (0, 0), (0, 0), (0, 0), (0, 0), (0, 0), (0, 0), (8, 0), (9, 0), (10, 0), (11, 0), (12, 0)] r_p 12) < rxmFERB_0 S0 ws T1 (r 8) (r 9) (r 10) (r 11) (r 12)
    rw [bx_val_x (n := 8) (e := (8, 0)) h0_ rfl, bx_val_x (n := 9) (e := (9, 0)) h0_ rfl, bx_val_x (n := 10) (e := (10, 0)) h0_ rfl, bx_val_x (n := 11) (e := (11, 0)) h0_ rfl, bx_val_x (n := 12) (e := (12, 0)) h0_ rfl, ← hr_ 8 (by decide), ← hr_ 9 (by decide), ← hr_ 10 (by decide), ← hr_ 11 (by decide), ← hr_ 12 (by decide)]
    exact g.2.2.2
theorem rxdFERB_0_0 {S0 : Nat → Int → Int} {ws : List Int} {S : Nat → Int → Int} {b1 b2 b3 b4 b5 x13 : Int} (hP : rxPFERB S0 ws) (hin : bx_same rxL (bx_mdl rxC232.2.2.1) S0 S) (hin2 : bx_same rxL (bx_mdl rxC232.2.2.1) S (bx_up S 480 0 0)) (I0 : bx_Inv rxL S) (I1 : bx_Inv rxL (bx_up S 480 0 0)) (hinv : rxIFERB_0 S0 ws S b1 b2 b3 b4 b5) (l8 : (-2147483648) ≤ b1) (u8 : b1 ≤ 2147483647) (l9 : (-2147483648) ≤ b2) (u9 : b2 ≤ 2147483647) (l10 : (-2147483648) ≤ b3) (u10 : b3 ≤ 2147483647) (l11 : (-2147483648) ≤ b4) (u11 : b4 ≤ 2147483647) (l12 : (-2147483648) ≤ b5) (u12 : b5 ≤ 2147483647) (l13 : 381 ≤ x13) (u13 : x13 ≤ 400) (e0 : (bx_up S 480 0 0) 480 8 = x13) : (True) ∧ rxPSFERB S0 ws (bx_up S 480 0 0) (some ((-1))) := by
  obtain ⟨rfl, hw⟩ := hinv
  have e := e0
  rw [bx_up_ne (by omega)] at e
  exact ⟨trivial, b1, b2, b3, b4, b5, hw, Or.inl ⟨by omega, rfl, fun j => bx_up_ne (by omega), bx_up_ne (by omega), fun i i0 i1 => bx_up_ne (by omega)⟩⟩
theorem rxfFERB_0_0 {X : (Nat → Int → Int) → Prop} {S0 : Nat → Int → Int} {ws : List Int} (hP : rxPFERB S0 ws) : bx_obE rxL X S0 rxC232.2.2.1 (rxIFERB S0 ws) (rxPSFERB S0 ws) 0 rxzFERB_0 rxeFERB_0_0 := by
  intro S S_p r r_p hinv hX hin hsm_ hseg
  obtain ⟨I0, I1, h0_, hr_, b_, f_, d_⟩ := bx_cl (evs := [(0, (0, 480), (0, 8), .inr (0, (13, 0))), (1, (0, 480), (0, 0), .inr (0, (0, 0)))]) (fvs := []) hseg (by decide +kernel) (by decide +kernel)
  have hinv : rxIFERB_0 S0 ws S (r 8) (r 9) (r 10) (r 11) (r 12) := hinv
  rw [← hr_ 8 (by decide), ← hr_ 9 (by decide), ← hr_ 10 (by decide), ← hr_ 11 (by decide), ← hr_ 12 (by decide)] at hinv
  obtain ⟨⟨l8, u8⟩, ⟨l9, u9⟩, ⟨l10, u10⟩, ⟨l11, u11⟩, ⟨l12, u12⟩, ⟨l13, u13⟩, -⟩ := b_
  obtain ⟨e0, ⟨T1, w_, w1⟩⟩ := d_
  subst w1
  subst w_
  have g := rxdFERB_0_0 hP hin hsm_ I0 I1 hinv l8 u8 l9 u9 l10 u10 l11 u11 l12 u12 l13 u13 e0
  refine ⟨bx_narP_ok (l := []) g.1, ?_⟩
  show rxPSFERB S0 ws (bx_up T1 480 (0) (0)) (some (bx_num r_p (.inr (0, (0, (-1))))))
  rw [bx_xv_ok h0_]
  exact g.2
theorem rxcFERB_2_0 {S0 : Nat → Int → Int} {ws : List Int} {S : Nat → Int → Int} {b1 b2 b3 b4 b5 : Int} (hP : rxPFERB S0 ws) (hin : bx_same rxL (bx_mdl rxC232.2.2.1) S0 S) (I0 : bx_Inv rxL S) (hinv : rxIFERB_2 S0 ws S b1 b2 b3 b4 b5) (l8 : (-2147483648) ≤ b1) (u8 : b1 ≤ 2147483647) (l9 : (-2147483648) ≤ b2) (u9 : b2 ≤ 2147483647) (l10 : (-2147483648) ≤ b3) (u10 : b3 ≤ 2147483647) (l11 : (-2147483648) ≤ b4) (u11 : b4 ≤ 2147483647) (l12 : (-2147483648) ≤ b5) (u12 : b5 ≤ 2147483647) : (True) ∧ (True) ∧ rxIFERB_3 S0 ws S b1 b2 b3 b4 b5 ∧ rxmFERB_3 S0 ws S b1 b2 b3 b4 b5 < rxmFERB_2 S0 ws S b1 b2 b3 b4 b5 := by
  exact ⟨trivial, trivial, hinv, by unfold rxmFERB_2 rxmFERB_3; omega⟩
theorem rxgFERB_2_0 {X : (Nat → Int → Int) → Prop} {S0 : Nat → Int → Int} {ws : List Int} (hP : rxPFERB S0 ws) : bx_obC rxL X S0 rxC232.2.2.1 (rxIFERB S0 ws) (rxmFERB S0 ws) 2 rxzFERB_2 rxoFERB_2_0 := by
  intro S S_p r r_p hinv hX hin hsm_ hseg
  obtain ⟨I0, I1, h0_, hr_, b_, f_, d_⟩ := bx_cl (evs := []) (fvs := []) hseg (by decide +kernel) (by decide +kernel)
  have hinv : rxIFERB_2 S0 ws S (r 8) (r 9) (r 10) (r 11) (r 12) := hinv
  rw [← hr_ 8 (by decide), ← hr_ 9 (by decide), ← hr_ 10 (by decide), ← hr_ 11 (by decide), ← hr_ 12 (by decide)] at hinv
  obtain ⟨⟨l8, u8⟩, ⟨l9, u9⟩, ⟨l10, u10⟩, ⟨l11, u11⟩, ⟨l12, u12⟩, -⟩ := b_
  have w_ := d_
  subst w_
  have g := rxcFERB_2_0 hP hin I0 hinv l8 u8 l9 u9 l10 u10 l11 u11 l12 u12
  refine ⟨bx_narP_ok (l := []) g.1, bx_nfP_ok h0_ (fvs := []) (by decide +kernel) g.2.1, ?_, ?_⟩
  · show rxIFERB_3 S0 ws S_p (bx_val [(0, 0), (0, 0), (0, 0), (0, 0), (0, 0), (0, 0), (0, 0), (0, 0), (8, 0), (9, 0), (10, 0), (11, 0), (12, 0)] r_p 8) (bx_val [(0, 0), (0, 0), (0, 0), (0, 0), (0, 0), (0, 0), (0, 0), (0, 0), (8, 0), (9, 0), (10, 0), (11, 0), (12, 0)] r_p 9) (bx_val [(0, 0), (0, 0), (0, 0), (0, 0), (0, 0), (0, 0), (0, 0), (0, 0), (8, 0), (9, 0), (10, 0), (11, 0), (12, 0)] r_p 10) (bx_val [(0, 0), (0, 0), (0, 0), (0, 0), (0, 0), (0, 0), (0, 0), (0, 0), (8, 0), (9, 0), (10, 0), (11, 0), (12, 0)] r_p 11) (bx_val [(0, 0), (0, 0), (0, 0), (0, 0), (0, 0), (0, 0), (0, 0), (0, 0), (8, 0), (9, 0), (10, 0), (11, 0), (12, 0)] r_p 12)
    rw [bx_val_x (n := 8) (e := (8, 0)) h0_ rfl, bx_val_x (n := 9) (e := (9, 0)) h0_ rfl, bx_val_x (n := 10) (e := (10, 0)) h0_ rfl, bx_val_x (n := 11) (e := (11, 0)) h0_ rfl, bx_val_x (n := 12) (e := (12, 0)) h0_ rfl]
    exact g.2.2.1
  · show rxmFERB_3 S0 ws S_p (bx_val [(0, 0), (0, 0), (0, 0), (0, 0), (0, 0), (0, 0), (0, 0), (0, 0), (8, 0), (9, 0), (10, 0), (11, 0), (12, 0)] r_p 8) (bx_val [(0, 0), (0, 0), (0, 0), (0, 0), (0, 0), (0, 0), (0, 0), (0, 0), (8, 0), (9, 0), (10, 0), (11, 0), (12, 0)] r_p 9) (bx_val [(0, 0), (0, 0), (0, 0), (0, 0), (0, 0), (0, 0), (0, 0), (0, 0), (8, 0), (9, 0), (10, 0), (11, 0), (12, 0)] r_p 10) (bx_val [(0, 0), (0, 0), (0, 0), (0, 0), (0, 0), (0, 0), (0, 0), (0, 0), (8, 0), (9, 0), (10, 0), (11, 0), (12, 0)] r_p 11) (bx_val [(0, 0), (0, 0), (0, 0), (0, 0), (0, 0), (0, 0), (0, 0), (0, 0), (8, 0), (9, 0), (10, 0), (11, 0), (12, 0)] r_p 12) < rxmFERB_2 S0 ws S_p (r 8) (r 9) (r 10) (r 11) (r 12)
    rw [bx_val_x (n := 8) (e := (8, 0)) h0_ rfl, bx_val_x (n := 9) (e := (9, 0)) h0_ rfl, bx_val_x (n := 10) (e := (10, 0)) h0_ rfl, bx_val_x (n := 11) (e := (11, 0)) h0_ rfl, bx_val_x (n := 12) (e := (12, 0)) h0_ rfl, ← hr_ 8 (by decide), ← hr_ 9 (by decide), ← hr_ 10 (by decide), ← hr_ 11 (by decide), ← hr_ 12 (by decide)]
    exact g.2.2.2
theorem rxcFERB_4_0 {S0 : Nat → Int → Int} {ws : List Int} {S : Nat → Int → Int} {b1 b2 b3 b4 b5 : Int} (hP : rxPFERB S0 ws) (hin : bx_same rxL (bx_mdl rxC232.2.2.1) S0 S) (I0 : bx_Inv rxL S) (hinv : rxIFERB_4 S0 ws S b1 b2 b3 b4 b5) (l8 : (-2147483648) ≤ b1) (u8 : b1 ≤ 2147483647) (l9 : (-2147483648) ≤ b2) (u9 : b2 ≤ 2147483647) (l10 : (-2147483648) ≤ b3) (u10 : b3 ≤ 2147483647) (l11 : (-2147483648) ≤ b4) (u11 : b4 ≤ 2147483647) (l12 : (-2147483648) ≤ b5) (u12 : b5 ≤ 2147483647) : (True) ∧ (True) ∧ rxIFERB_5 S0 ws S b1 b2 b3 b4 b5 ∧ rxmFERB_5 S0 ws S b1 b2 b3 b4 b5 < rxmFERB_4 S0 ws S b1 b2 b3 b4 b5 := by
  exact ⟨trivial, trivial, hinv, by unfold rxmFERB_4 rxmFERB_5; omega⟩
theorem rxgFERB_4_0 {X : (Nat → Int → Int) → Prop} {S0 : Nat → Int → Int} {ws : List Int} (hP : rxPFERB S0 ws) : bx_obC rxL X S0 rxC232.2.2.1 (rxIFERB S0 ws) (rxmFERB S0 ws) 4 rxzFERB_4 rxoFERB_4_0 := by
  intro S S_p r r_p hinv hX hin hsm_ hseg
  obtain ⟨I0, I1, h0_, hr_, b_, f_, d_⟩ := bx_cl (evs := []) (fvs := []) hseg (by decide +kernel) (by decide +kernel)
  have hinv : rxIFERB_4 S0 ws S (r 8) (r 9) (r 10) (r 11) (r 12) := hinv
  rw [← hr_ 8 (by decide), ← hr_ 9 (by decide), ← hr_ 10 (by decide), ← hr_ 11 (by decide), ← hr_ 12 (by decide)] at hinv
  obtain ⟨⟨l8, u8⟩, ⟨l9, u9⟩, ⟨l10, u10⟩, ⟨l11, u11⟩, ⟨l12, u12⟩, -⟩ := b_
  have w_ := d_
  subst w_
  have g := rxcFERB_4_0 hP hin I0 hinv l8 u8 l9 u9 l10 u10 l11 u11 l12 u12
  refine ⟨bx_narP_ok (l := []) g.1, bx_nfP_ok h0_ (fvs := []) (by decide +kernel) g.2.1, ?_, ?_⟩
  · show rxIFERB_5 S0 ws S_p (bx_val [(0, 0), (0, 0), (0, 0), (0, 0), (0, 0), (0, 0), (0, 0), (0, 0), (8, 0), (9, 0), (10, 0), (11, 0), (12, 0)] r_p 8) (bx_val [(0, 0), (0, 0), (0, 0), (0, 0), (0, 0), (0, 0), (0, 0), (0, 0), (8, 0), (9, 0), (10, 0), (11, 0), (12, 0)] r_p 9) (bx_val [(0, 0), (0, 0), (0, 0), (0, 0), (0, 0), (0, 0), (0, 0), (0, 0), (8, 0), (9, 0), (10, 0), (11, 0), (12, 0)] r_p 10) (bx_val [(0, 0), (0, 0), (0, 0), (0, 0), (0, 0), (0, 0), (0, 0), (0, 0), (8, 0), (9, 0), (10, 0), (11, 0), (12, 0)] r_p 11) (bx_val [(0, 0), (0, 0), (0, 0), (0, 0), (0, 0), (0, 0), (0, 0), (0, 0), (8, 0), (9, 0), (10, 0), (11, 0), (12, 0)] r_p 12)
    rw [bx_val_x (n := 8) (e := (8, 0)) h0_ rfl, bx_val_x (n := 9) (e := (9, 0)) h0_ rfl, bx_val_x (n := 10) (e := (10, 0)) h0_ rfl, bx_val_x (n := 11) (e := (11, 0)) h0_ rfl, bx_val_x (n := 12) (e := (12, 0)) h0_ rfl]
    exact g.2.2.1
  · show rxmFERB_5 S0 ws S_p (bx_val [(0, 0), (0, 0), (0, 0), (0, 0), (0, 0), (0, 0), (0, 0), (0, 0), (8, 0), (9, 0), (10, 0), (11, 0), (12, 0)] r_p 8) (bx_val [(0, 0), (0, 0), (0, 0), (0, 0), (0, 0), (0, 0), (0, 0), (0, 0), (8, 0), (9, 0), (10, 0), (11, 0), (12, 0)] r_p 9) (bx_val [(0, 0), (0, 0), (0, 0), (0, 0), (0, 0), (0, 0), (0, 0), (0, 0), (8, 0), (9, 0), (10, 0), (11, 0), (12, 0)] r_p 10) (bx_val [(0, 0), (0, 0), (0, 0), (0, 0), (0, 0), (0, 0), (0, 0), (0, 0), (8, 0), (9, 0), (10, 0), (11, 0), (12, 0)] r_p 11) (bx_val [(0, 0), (0, 0), (0, 0), (0, 0), (0, 0), (0, 0), (0, 0), (0, 0), (8, 0), (9, 0), (10, 0), (11, 0), (12, 0)] r_p 12) < rxmFERB_4 S0 ws S_p (r 8) (r 9) (r 10) (r 11) (r 12)
    rw [bx_val_x (n := 8) (e := (8, 0)) h0_ rfl, bx_val_x (n := 9) (e := (9, 0)) h0_ rfl, bx_val_x (n := 10) (e := (10, 0)) h0_ rfl, bx_val_x (n := 11) (e := (11, 0)) h0_ rfl, bx_val_x (n := 12) (e := (12, 0)) h0_ rfl, ← hr_ 8 (by decide), ← hr_ 9 (by decide), ← hr_ 10 (by decide), ← hr_ 11 (by decide), ← hr_ 12 (by decide)]
    exact g.2.2.2
theorem rxcFERB_6_0 {S0 : Nat → Int → Int} {ws : List Int} {S : Nat → Int → Int} {b1 b2 b3 b4 b5 : Int} (hP : rxPFERB S0 ws) (hin : bx_same rxL (bx_mdl rxC232.2.2.1) S0 S) (I0 : bx_Inv rxL S) (hinv : rxIFERB_6 S0 ws S b1 b2 b3 b4 b5) (l8 : (-2147483648) ≤ b1) (u8 : b1 ≤ 2147483647) (l9 : (-2147483648) ≤ b2) (u9 : b2 ≤ 2147483647) (l10 : (-2147483648) ≤ b3) (u10 : b3 ≤ 2147483647) (l11 : (-2147483648) ≤ b4) (u11 : b4 ≤ 2147483647) (l12 : (-2147483648) ≤ b5) (u12 : b5 ≤ 2147483647) : (True) ∧ (True) ∧ rxIFERB_7 S0 ws S b1 b2 b3 b4 b5 ∧ rxmFERB_7 S0 ws S b1 b2 b3 b4 b5 < rxmFERB_6 S0 ws S b1 b2 b3 b4 b5 := by
  exact ⟨trivial, trivial, hinv, by unfold rxmFERB_6 rxmFERB_7; omega⟩
theorem rxgFERB_6_0 {X : (Nat → Int → Int) → Prop} {S0 : Nat → Int → Int} {ws : List Int} (hP : rxPFERB S0 ws) : bx_obC rxL X S0 rxC232.2.2.1 (rxIFERB S0 ws) (rxmFERB S0 ws) 6 rxzFERB_6 rxoFERB_6_0 := by
  intro S S_p r r_p hinv hX hin hsm_ hseg
  obtain ⟨I0, I1, h0_, hr_, b_, f_, d_⟩ := bx_cl (evs := []) (fvs := []) hseg (by decide +kernel) (by decide +kernel)
  have hinv : rxIFERB_6 S0 ws S (r 8) (r 9) (r 10) (r 11) (r 12) := hinv
  rw [← hr_ 8 (by decide), ← hr_ 9 (by decide), ← hr_ 10 (by decide), ← hr_ 11 (by decide), ← hr_ 12 (by decide)] at hinv
  obtain ⟨⟨l8, u8⟩, ⟨l9, u9⟩, ⟨l10, u10⟩, ⟨l11, u11⟩, ⟨l12, u12⟩, -⟩ := b_
  have w_ := d_
  subst w_
  have g := rxcFERB_6_0 hP hin I0 hinv l8 u8 l9 u9 l10 u10 l11 u11 l12 u12
  refine ⟨bx_narP_ok (l := []) g.1, bx_nfP_ok h0_ (fvs := []) (by decide +kernel) g.2.1, ?_, ?_⟩
  · show rxIFERB_7 S0 ws S_p (bx_val [(0, 0), (0, 0), (0, 0), (0, 0), (0, 0), (0, 0), (0, 0), (0, 0), (8, 0), (9, 0), (10, 0), (11, 0), (12, 0)] r_p 8) (bx_val [(0, 0), (0, 0), (0, 0), (0, 0), (0, 0), (0, 0), (0, 0), (0, 0), (8, 0), (9, 0), (10, 0), (11, 0), (12, 0)] r_p 9) (bx_val [(0, 0), (0, 0), (0, 0), (0, 0), (0, 0), (0, 0), (0, 0), (0, 0), (8, 0), (9, 0), (10, 0), (11, 0), (12, 0)] r_p 10) (bx_val [(0, 0), (0, 0), (0, 0), (0, 0), (0, 0), (0, 0), (0, 0), (0, 0), (8, 0), (9, 0), (10, 0), (11, 0), (12, 0)] r_p 11) (bx_val [(0, 0), (0, 0), (0, 0), (0, 0), (0, 0), (0, 0), (0, 0), (0, 0), (8, 0), (9, 0), (10, 0), (11, 0), (12, 0)] r_p 12)
    rw [bx_val_x (n := 8) (e := (8, 0)) h0_ rfl, bx_val_x (n := 9) (e := (9, 0)) h0_ rfl, bx_val_x (n := 10) (e := (10, 0)) h0_ rfl, bx_val_x (n := 11) (e := (11, 0)) h0_ rfl, bx_val_x (n := 12) (e := (12, 0)) h0_ rfl]
    exact g.2.2.1
  · show rxmFERB_7 S0 ws S_p (bx_val [(0, 0), (0, 0), (0, 0), (0, 0), (0, 0), (0, 0), (0, 0), (0, 0), (8, 0), (9, 0), (10, 0), (11, 0), (12, 0)] r_p 8) (bx_val [(0, 0), (0, 0), (0, 0), (0, 0), (0, 0), (0, 0), (0, 0), (0, 0), (8, 0), (9, 0), (10, 0), (11, 0), (12, 0)] r_p 9) (bx_val [(0, 0), (0, 0), (0, 0), (0, 0), (0, 0), (0, 0), (0, 0), (0, 0), (8, 0), (9, 0), (10, 0), (11, 0), (12, 0)] r_p 10) (bx_val [(0, 0), (0, 0), (0, 0), (0, 0), (0, 0), (0, 0), (0, 0), (0, 0), (8, 0), (9, 0), (10, 0), (11, 0), (12, 0)] r_p 11) (bx_val [(0, 0), (0, 0), (0, 0), (0, 0), (0, 0), (0, 0), (0, 0), (0, 0), (8, 0), (9, 0), (10, 0), (11, 0), (12, 0)] r_p 12) < rxmFERB_6 S0 ws S_p (r 8) (r 9) (r 10) (r 11) (r 12)
    rw [bx_val_x (n := 8) (e := (8, 0)) h0_ rfl, bx_val_x (n := 9) (e := (9, 0)) h0_ rfl, bx_val_x (n := 10) (e := (10, 0)) h0_ rfl, bx_val_x (n := 11) (e := (11, 0)) h0_ rfl, bx_val_x (n := 12) (e := (12, 0)) h0_ rfl, ← hr_ 8 (by decide), ← hr_ 9 (by decide), ← hr_ 10 (by decide), ← hr_ 11 (by decide), ← hr_ 12 (by decide)]
    exact g.2.2.2
theorem rxcFERB_8_0 {S0 : Nat → Int → Int} {ws : List Int} {S : Nat → Int → Int} {b1 b2 b3 b4 b5 : Int} (hP : rxPFERB S0 ws) (hin : bx_same rxL (bx_mdl rxC232.2.2.1) S0 S) (I0 : bx_Inv rxL S) (hinv : rxIFERB_8 S0 ws S b1 b2 b3 b4 b5) (l8 : (-2147483648) ≤ b1) (u8 : b1 ≤ 2147483647) (l9 : (-2147483648) ≤ b2) (u9 : b2 ≤ 2147483647) (l10 : (-2147483648) ≤ b3) (u10 : b3 ≤ 2147483647) (l11 : (-2147483648) ≤ b4) (u11 : b4 ≤ 2147483647) (l12 : (-2147483648) ≤ b5) (u12 : b5 ≤ 2147483647) : (True) ∧ (True) ∧ rxIFERB_9 S0 ws S b1 b2 b3 b4 b5 ∧ rxmFERB_9 S0 ws S b1 b2 b3 b4 b5 < rxmFERB_8 S0 ws S b1 b2 b3 b4 b5 := by
  exact ⟨trivial, trivial, hinv, by unfold rxmFERB_8 rxmFERB_9; omega⟩
theorem rxgFERB_8_0 {X : (Nat → Int → Int) → Prop} {S0 : Nat → Int → Int} {ws : List Int} (hP : rxPFERB S0 ws) : bx_obC rxL X S0 rxC232.2.2.1 (rxIFERB S0 ws) (rxmFERB S0 ws) 8 rxzFERB_8 rxoFERB_8_0 := by
  intro S S_p r r_p hinv hX hin hsm_ hseg
  obtain ⟨I0, I1, h0_, hr_, b_, f_, d_⟩ := bx_cl (evs := []) (fvs := []) hseg (by decide +kernel) (by decide +kernel)
  have hinv : rxIFERB_8 S0 ws S (r 8) (r 9) (r 10) (r 11) (r 12) := hinv
  rw [← hr_ 8 (by decide), ← hr_ 9 (by decide), ← hr_ 10 (by decide), ← hr_ 11 (by decide), ← hr_ 12 (by decide)] at hinv
  obtain ⟨⟨l8, u8⟩, ⟨l9, u9⟩, ⟨l10, u10⟩, ⟨l11, u11⟩, ⟨l12, u12⟩, -⟩ := b_
  have w_ := d_
  subst w_
  have g := rxcFERB_8_0 hP hin I0 hinv l8 u8 l9 u9 l10 u10 l11 u11 l12 u12
  refine ⟨bx_narP_ok (l := []) g.1, bx_nfP_ok h0_ (fvs := []) (by decide +kernel) g.2.1, ?_, ?_⟩
  · show rxIFERB_9 S0 ws S_p (bx_val [(0, 0), (0, 0), (0, 0), (0, 0), (0, 0), (0, 0), (0, 0), (0, 0), (8, 0), (9, 0), (10, 0), (11, 0), (12, 0)] r_p 8) (bx_val [(0, 0), (0, 0), (0, 0), (0, 0), (0, 0), (0, 0), (0, 0), (0, 0), (8, 0), (9, 0), (10, 0), (11, 0), (12, 0)] r_p 9) (bx_val [(0, 0), (0, 0), (0, 0), (0, 0), (0, 0), (0, 0), (0, 0), (0, 0), (8, 0), (9, 0), (10, 0), (11, 0), (12, 0)] r_p 10) (bx_val [(0, 0), (0, 0), (0, 0), (0, 0), (0, 0), (0, 0), (0, 0), (0, 0), (8, 0), (9, 0), (10, 0), (11, 0), (12, 0)] r_p 11) (bx_val [(0, 0), (0, 0), (0, 0), (0, 0), (0, 0), (0, 0), (0, 0), (0, 0), (8, 0), (9, 0), (10, 0), (11, 0), (12, 0)] r_p 12)
    rw [bx_val_x (n := 8) (e := (8, 0)) h0_ rfl, bx_val_x (n := 9) (e := (9, 0)) h0_ rfl, bx_val_x (n := 10) (e := (10, 0)) h0_ rfl, bx_val_x (n := 11) (e := (11, 0)) h0_ rfl, bx_val_x (n := 12) (e := (12, 0)) h0_ rfl]
    exact g.2.2.1
  · show rxmFERB_9 S0 ws S_p (bx_val [(0, 0), (0, 0), (0, 0), (0, 0), (0, 0), (0, 0), (0, 0), (0, 0), (8, 0), (9, 0), (10, 0), (11, 0), (12, 0)] r_p 8) (bx_val [(0, 0), (0, 0), (0, 0), (0, 0), (0, 0), (0, 0), (0, 0), (0, 0), (8, 0), (9, 0), (10, 0), (11, 0), (12, 0)] r_p 9) (bx_val [(0, 0), (0, 0), (0, 0), (0, 0), (0, 0), (0, 0), (0, 0), (0, 0), (8, 0), (9, 0), (10, 0), (11, 0), (12, 0)] r_p 10) (bx_val [(0, 0), (0, 0), (0, 0), (0, 0), (0, 0), (0, 0), (0, 0), (0, 0), (8, 0), (9, 0), (10, 0), (11, 0), (12, 0)] r_p 11) (bx_val [(0, 0), (0, 0), (0, 0), (0, 0), (0, 0), (0, 0), (0, 0), (0, 0), (8, 0), (9, 0), (10, 0), (11, 0), (12, 0)] r_p 12) < rxmFERB_8 S0 ws S_p (r 8) (r 9) (r 10) (r 11) (r 12)
    rw [bx_val_x (n := 8) (e := (8, 0)) h0_ rfl, bx_val_x (n := 9) (e := (9, 0)) h0_ rfl, bx_val_x (n := 10) (e := (10, 0)) h0_ rfl, bx_val_x (n := 11) (e := (11, 0)) h0_ rfl, bx_val_x (n := 12) (e := (12, 0)) h0_ rfl, ← hr_ 8 (by decide), ← hr_ 9 (by decide), ← hr_ 10 (by decide), ← hr_ 11 (by decide), ← hr_ 12 (by decide)]
    exact g.2.2.2
theorem rxdFERB_10_0 {S0 : Nat → Int → Int} {ws : List Int} {S : Nat → Int → Int} {b1 b2 b3 b4 b5 x13 : Int} (hP : rxPFERB S0 ws) (hin : bx_same rxL (bx_mdl rxC232.2.2.1) S0 S) (hin2 : bx_same rxL (bx_mdl rxC232.2.2.1) S S) (I0 : bx_Inv rxL S) (I1 : bx_Inv rxL S) (hinv : rxIFERB_10 S0 ws S b1 b2 b3 b4 b5) (l8 : (-2147483648) ≤ b1) (u8 : b1 ≤ 2147483647) (l9 : (-2147483648) ≤ b2) (u9 : b2 ≤ 2147483647) (l10 : (-2147483648) ≤ b3) (u10 : b3 ≤ 2147483647) (l11 : (-2147483648) ≤ b4) (u11 : b4 ≤ 2147483647) (l12 : (-2147483648) ≤ b5) (u12 : b5 ≤ 2147483647) (l13 : 0 ≤ x13) (u13 : x13 ≤ 400) (e0 : S 480 8 = x13) : (True) ∧ rxPSFERB S0 ws S (some x13) := by
  obtain ⟨h1, hw, h3, h4⟩ := hinv
  exact ⟨trivial, b1, b2, b3, b4, b5, hw, Or.inr ⟨h1, congrArg some (by omega), by omega, h4⟩⟩
theorem rxfFERB_10_0 {X : (Nat → Int → Int) → Prop} {S0 : Nat → Int → Int} {ws : List Int} (hP : rxPFERB S0 ws) : bx_obE rxL X S0 rxC232.2.2.1 (rxIFERB S0 ws) (rxPSFERB S0 ws) 10 rxzFERB_10 rxeFERB_10_0 := by
  intro S S_p r r_p hinv hX hin hsm_ hseg
  obtain ⟨I0, I1, h0_, hr_, b_, f_, d_⟩ := bx_cl (evs := [(0, (0, 480), (0, 8), .inr (0, (13, 0)))]) (fvs := []) hseg (by decide +kernel) (by decide +kernel)
  have hinv : rxIFERB_10 S0 ws S (r 8) (r 9) (r 10) (r 11) (r 12) := hinv
  rw [← hr_ 8 (by decide), ← hr_ 9 (by decide), ← hr_ 10 (by decide), ← hr_ 11 (by decide), ← hr_ 12 (by decide)] at hinv
  obtain ⟨⟨l8, u8⟩, ⟨l9, u9⟩, ⟨l10, u10⟩, ⟨l11, u11⟩, ⟨l12, u12⟩, ⟨l13, u13⟩, -⟩ := b_
  obtain ⟨e0, w_⟩ := d_
  subst w_
  have g := rxdFERB_10_0 hP hin hsm_ I0 I1 hinv l8 u8 l9 u9 l10 u10 l11 u11 l12 u12 l13 u13 e0
  refine ⟨bx_narP_ok (l := []) g.1, ?_⟩
  show rxPSFERB S0 ws S_p (some (bx_num r_p (.inr (0, (13, 0)))))
  rw [bx_xv_ok h0_]
  exact g.2
theorem rxgCFERB {X : (Nat → Int → Int) → Prop} {S0 : Nat → Int → Int} {ws : List Int} (hP : rxPFERB S0 ws) : bx_allI (fun i q => rxUFERB q = true ∨ bx_allP (fun o => bx_obC rxL X S0 rxC232.2.2.1 (rxIFERB S0 ws) (rxmFERB S0 ws) i q.1 o) q.2.1) 0 rxYFERB := ⟨Or.inr ⟨rxgFERB_0_0 hP, trivial⟩, Or.inl rfl, Or.inr ⟨rxgFERB_2_0 hP, trivial⟩, Or.inl rfl, Or.inr ⟨rxgFERB_4_0 hP, trivial⟩, Or.inl rfl, Or.inr ⟨rxgFERB_6_0 hP, trivial⟩, Or.inl rfl, Or.inr ⟨rxgFERB_8_0 hP, trivial⟩, Or.inl rfl, Or.inr trivial, trivial⟩
theorem rxgEFERB {X : (Nat → Int → Int) → Prop} {S0 : Nat → Int → Int} {ws : List Int} (hP : rxPFERB S0 ws) : bx_allI (fun i q => rxUFERB q = true ∨ bx_allP (fun E => bx_obE rxL X S0 rxC232.2.2.1 (rxIFERB S0 ws) (rxPSFERB S0 ws) i q.1 E) q.2.2) 0 rxYFERB := ⟨Or.inr ⟨rxfFERB_0_0 hP, trivial⟩, Or.inl rfl, Or.inr trivial, Or.inl rfl, Or.inr trivial, Or.inl rfl, Or.inr trivial, Or.inl rfl, Or.inr trivial, Or.inl rfl, Or.inr ⟨rxfFERB_10_0 hP, trivial⟩, trivial⟩
theorem rxuFERB {PX : State → Prop} {Dg : va_G} {A : Nat → Prop} {ad xa : Nat → Nat} {l : Launch} {X : (Nat → Int → Int) → Prop} (hPX : rx_PXOK rxNW A PX) (hX : ∀ S S1 : Nat → Int → Int, X S → bx_same rxL (bx_mdl rxC232.2.2.1) S S1 → X S1) (hQFOUR : bx_ConP rxG rxNW rxAO PX Dg rxL X vwCl A ad l rxM263 rxCFOUR rxPFOUR rxPSFOUR) {S0 : Nat → Int → Int} {ws : List Int} (hP : rxPFERB S0 ws) : ∀ (i : Nat) (q : bx_HE), rxYFERB[i]? = some q → rxUFERB q = true → ∀ {p : Program} {e : Env} {R : Room} {s : State} {m : MethodId} {args : Array Value} {below : List Frame} {meth : Method} {c : Code} {Q : State → Prop} {H0 : Heap}, rx_Fr rxG rxNW rxAO PX p s m args meth c rxM232 → (∀ q, H0.size ≤ q → A q) → H0 = s.heap → rxM232.2.2.2.2.2.2.1 ≤ R.cells → rxM232.2.2.2.2.2.2.2 ≤ R.slots → rxC232.2.2.2.1 ≤ R.frames → rxC232.2.2.2.1 * 40 ≤ R.locals → bx_Step p l e R s m args below meth c Q Dg rxL X vwCl A xa H0 ad rxM232 rxYFERB (rxIFERB S0 ws) (rxmFERB S0 ws) S0 rxC232.2.2.1 i q := by
  intro i q hq hus p e R s m args below meth c Q H0 hF hA hH0 hmc hms hd hdl
  match i, hq with
  | 0, hq =>
    cases hq
    exact absurd (show false = true from hus) Bool.false_ne_true
  | 1, hq =>
    cases hq
    exact rx_stepC (ins := .invokevirtual 242) (len := 3) (i_p := 2) (M_p := rxM263) (d := rxC232.2.2.2.1) (as := [.inr (3, (0, 480)), .inr (0, (8, 0))]) (t := []) (ct := rxCFOUR) hPX hF rfl hA hH0 hmc hms hd hdl (by decide +kernel) rfl rfl (by decide +kernel) (by decide +kernel) hQFOUR (by decide +kernel) rfl (Or.inl ⟨rfl, rfl, rfl⟩) (rxsFERB_1 hP)
  | 2, hq =>
    cases hq
    exact absurd (show false = true from hus) Bool.false_ne_true
  | 3, hq =>
    cases hq
    exact rx_stepC (ins := .invokevirtual 242) (len := 3) (i_p := 4) (M_p := rxM263) (d := rxC232.2.2.2.1) (as := [.inr (3, (0, 480)), .inr (0, (9, 0))]) (t := []) (ct := rxCFOUR) hPX hF rfl hA hH0 hmc hms hd hdl (by decide +kernel) rfl rfl (by decide +kernel) (by decide +kernel) hQFOUR (by decide +kernel) rfl (Or.inl ⟨rfl, rfl, rfl⟩) (rxsFERB_3 hP)
  | 4, hq =>
    cases hq
    exact absurd (show false = true from hus) Bool.false_ne_true
  | 5, hq =>
    cases hq
    exact rx_stepC (ins := .invokevirtual 242) (len := 3) (i_p := 6) (M_p := rxM263) (d := rxC232.2.2.2.1) (as := [.inr (3, (0, 480)), .inr (0, (10, 0))]) (t := []) (ct := rxCFOUR) hPX hF rfl hA hH0 hmc hms hd hdl (by decide +kernel) rfl rfl (by decide +kernel) (by decide +kernel) hQFOUR (by decide +kernel) rfl (Or.inl ⟨rfl, rfl, rfl⟩) (rxsFERB_5 hP)
  | 6, hq =>
    cases hq
    exact absurd (show false = true from hus) Bool.false_ne_true
  | 7, hq =>
    cases hq
    exact rx_stepC (ins := .invokevirtual 242) (len := 3) (i_p := 8) (M_p := rxM263) (d := rxC232.2.2.2.1) (as := [.inr (3, (0, 480)), .inr (0, (11, 0))]) (t := []) (ct := rxCFOUR) hPX hF rfl hA hH0 hmc hms hd hdl (by decide +kernel) rfl rfl (by decide +kernel) (by decide +kernel) hQFOUR (by decide +kernel) rfl (Or.inl ⟨rfl, rfl, rfl⟩) (rxsFERB_7 hP)
  | 8, hq =>
    cases hq
    exact absurd (show false = true from hus) Bool.false_ne_true
  | 9, hq =>
    cases hq
    exact rx_stepC (ins := .invokevirtual 242) (len := 3) (i_p := 10) (M_p := rxM263) (d := rxC232.2.2.2.1) (as := [.inr (3, (0, 480)), .inr (0, (12, 0))]) (t := []) (ct := rxCFOUR) hPX hF rfl hA hH0 hmc hms hd hdl (by decide +kernel) rfl rfl (by decide +kernel) (by decide +kernel) hQFOUR (by decide +kernel) rfl (Or.inl ⟨rfl, rfl, rfl⟩) (rxsFERB_9 hP)
  | 10, hq =>
    cases hq
    exact absurd (show false = true from hus) Bool.false_ne_true
  | n + 11, hq => cases hq
theorem rxQFERB {PX : State → Prop} {Dg : va_G} {A : Nat → Prop} {ad xa : Nat → Nat} {l : Launch} {X : (Nat → Int → Int) → Prop} (hPX : rx_PXOK rxNW A PX) (hsl : ∀ s : State, PX s → ∀ o idx n : Nat, rxSl o idx = some n → ∃ tx : String, vk_R (rxNm o) idx tx (ad n) s)
    (hX : ∀ S S_p : Nat → Int → Int, X S → bx_same rxL (bx_mdl rxC232.2.2.1) S S_p → X S_p)
    (ih : ∀ (j2 : Nat) (ct2 : bx_Ct) (M2 : rx_Mt), ct2 ∈ rxCnE j2 → ct2.2.2.2.1 + 1 ≤ rxC232.2.2.2.1 → rxT.2.2.2.2.2 j2 = some M2 → bx_Con rxG rxNW rxAO PX Dg rxL X vwCl A ad l M2 ct2) (hQFOUR : bx_ConP rxG rxNW rxAO PX Dg rxL X vwCl A ad l rxM263 rxCFOUR rxPFOUR rxPSFOUR) : bx_ConP rxG rxNW rxAO PX Dg rxL X vwCl A ad l rxM232 rxC232 rxPFERB rxPSFERB :=
  rxQof (xa := xa) (Cn := rxCnE) (f := 30000) (j := 232) (tab := rxYFERB) (us := rxUFERB) hPX hsl hX ih rfl rxYcFERB rxIFERB rxmFERB
    (fun S0 ws r I0 I ht0 ht as he he1 hX0 hI0 hP hs ha => by
      have e := he.symm.trans (show bx_ent0 rxNP rxC232.1 bx_I0 [] = some ([(0, 0), (0, 0), (0, 0), (0, 0), (0, 0), (0, 0), (0, 0), (0, 0), ((-2147483648), 2147483647), ((-2147483648), 2147483647), ((-2147483648), 2147483647), ((-2147483648), 2147483647), ((-2147483648), 2147483647)], [], [.inr (3, (0, 480)), .inr (0, (8, 0)), .inr (0, (9, 0)), .inr (0, (10, 0)), .inr (0, (11, 0)), .inr (0, (12, 0))]) from rfl)
      cases e
      subst ha
      have h0 : r 0 = 0 := hs.1
      show rxIFERB_0 S0 _ S0 (r 8) (r 9) (r 10) (r 11) (r 12)
      refine ⟨rfl, ?_⟩
      simp only [List.map_cons, List.map_nil, bx_xv_ok h0]
      rfl)
    (fun S0 ws hP => rxuFERB (xa := xa) hPX hX hQFOUR hP) (fun S0 ws hP => rxgCFERB hP) (fun S0 ws hP => rxgEFERB hP)
set_option maxHeartbeats 1000000 in
theorem rzQ232 {PX : State → Prop} {Dg : va_G} {A : Nat → Prop} {ad : Nat → Nat} {l : Launch} (hPX : rx_PXOK rxNW A PX) (hsl : ∀ s : State, PX s → ∀ o idx n : Nat, rxSl o idx = some n → ∃ tx : String, vk_R (rxNm o) idx tx (ad n) s) : bx_ConP rxG rxNW rxAO PX Dg rxL rxX vwCl A ad l rxM232 rxC232 (fun _ _ => True) rxPSFERB := by
  have qFOUR := rxQFOUR (PX := PX) (Dg := Dg) (A := A) (ad := ad) (xa := fun n => n) (l := l) (X := rxX) hPX hsl (fun _ _ h hm => rxX_of (by decide +kernel) h hm) (fun _ _ _ h => absurd h List.not_mem_nil)
  have qFERB := rxQFERB (PX := PX) (Dg := Dg) (A := A) (ad := ad) (xa := fun n => n) (l := l) (X := rxX) hPX hsl (fun _ _ h hm => rxX_of (by decide +kernel) h hm) (fun _ _ _ h => absurd h List.not_mem_nil) qFOUR
  exact fun S0 ws h1 h2 h3 _ => qFERB S0 ws h1 h2 h3 trivial
noncomputable def rxIROWR_0 (S0 : Nat → Int → Int) (ws : List Int) (S : Nat → Int → Int) (pa : Int) : Prop := S = S0 ∧ ws = [480, pa]
noncomputable def rxmROWR_0 (S0 : Nat → Int → Int) (ws : List Int) (S : Nat → Int → Int) (pa : Int) : Nat := 100000
noncomputable def rxIROWR_1 (S0 : Nat → Int → Int) (ws : List Int) (S : Nat → Int → Int) (pa had came k : Int) : Prop := ws = [480, pa] ∧ 0 ≤ pa ∧ pa < S0 482 0 ∧ 0 < S0 480 8 ∧ S0 480 8 ≤ 400 ∧ had = S0 480 8 ∧ S 480 8 = 0 ∧ (∀ i : Int, 0 ≤ i → i < 400 → S 485 i = S0 485 i) ∧ ∃ m : Nat, k = 4 * (m : Int) ∧ k < had + 4 ∧ came = rzCnt (fun i => S0 485 i) (S0 480 8) m ∧ S 480 6 = (m : Int) - came
noncomputable def rxmROWR_1 (S0 : Nat → Int → Int) (ws : List Int) (S : Nat → Int → Int) (pa had came k : Int) : Nat := (500 - k).toNat * 10 + 9
noncomputable def rxIROWR_2 (S0 : Nat → Int → Int) (ws : List Int) (S : Nat → Int → Int) (pa had came k a v : Int) : Prop := ws = [480, pa] ∧ 0 ≤ pa ∧ pa < S0 482 0 ∧ 0 < S0 480 8 ∧ S0 480 8 ≤ 400 ∧ had = S0 480 8 ∧ S 480 8 = 0 ∧ (∀ i : Int, 0 ≤ i → i < 400 → S 485 i = S0 485 i) ∧ ∃ m : Nat, k = 4 * (m : Int) ∧ k < had + 4 ∧ came = rzCnt (fun i => S0 485 i) (S0 480 8) m ∧ S 480 6 = (m : Int) - came ∧ rzOk (fun i => S0 485 i) (S0 480 8) k = true
noncomputable def rxmROWR_2 (S0 : Nat → Int → Int) (ws : List Int) (S : Nat → Int → Int) (pa had came k a v : Int) : Nat := (500 - k).toNat * 10 + 8
noncomputable def rxIROWR_3 (S0 : Nat → Int → Int) (ws : List Int) (S : Nat → Int → Int) (pa had came k x : Int) : Prop := ws = [480, pa] ∧ 0 ≤ pa ∧ pa < S0 482 0 ∧ 0 < S0 480 8 ∧ S0 480 8 ≤ 400 ∧ had = S0 480 8 ∧ S 480 8 = 0 ∧ (∀ i : Int, 0 ≤ i → i < 400 → S 485 i = S0 485 i) ∧ ∃ m : Nat, k = 4 * (m : Int) ∧ k < had + 4 ∧ came = rzCnt (fun i => S0 485 i) (S0 480 8) m ∧ x = (m : Int) - came ∧ k < had ∧ rzOk (fun i => S0 485 i) (S0 480 8) k = false
noncomputable def rxmROWR_3 (S0 : Nat → Int → Int) (ws : List Int) (S : Nat → Int → Int) (pa had came k x : Int) : Nat := (500 - k).toNat * 10 + 8
noncomputable def rxIROWR_4 (S0 : Nat → Int → Int) (ws : List Int) (S : Nat → Int → Int) (pa had came k x y : Int) : Prop := ws = [480, pa] ∧ 0 ≤ pa ∧ pa < S0 482 0 ∧ 0 < S0 480 8 ∧ S0 480 8 ≤ 400 ∧ had = S0 480 8 ∧ S 480 8 = 0 ∧ (∀ i : Int, 0 ≤ i → i < 400 → S 485 i = S0 485 i) ∧ ∃ m : Nat, k = 4 * (m : Int) ∧ k < had + 4 ∧ came = rzCnt (fun i => S0 485 i) (S0 480 8) m ∧ y = (m : Int) + 1 - came ∧ k < had ∧ rzOk (fun i => S0 485 i) (S0 480 8) k = false
noncomputable def rxmROWR_4 (S0 : Nat → Int → Int) (ws : List Int) (S : Nat → Int → Int) (pa had came k x y : Int) : Nat := (500 - k).toNat * 10 + 7
noncomputable def rxPROWR (S0 : Nat → Int → Int) (ws : List Int) : Prop := True
noncomputable def rxPSROWR (S0 : Nat → Int → Int) (ws : List Int) (S : Nat → Int → Int) (w : Option Int) : Prop := ∃ pa : Int, ws = [480, pa] ∧ (((pa < 0 ∨ S0 482 0 ≤ pa) ∧ w = some (-2) ∧ (∀ j : Int, S 482 j = S0 482 j) ∧ S 480 8 = S0 480 8 ∧ S 480 6 = S0 480 6) ∨ (0 ≤ pa ∧ pa < S0 482 0 ∧ S0 480 8 = 0 ∧ w = some (-6) ∧ (∀ j : Int, S 482 j = S0 482 j) ∧ S 480 8 = S0 480 8 ∧ S 480 6 = S0 480 6) ∨ (0 ≤ pa ∧ pa < S0 482 0 ∧ 0 < S0 480 8 ∧ S0 480 8 ≤ 400 ∧ w = some (rzRC S0 480 8 485) ∧ S 480 8 = 0 ∧ S 480 6 = rzPR S0 480 8 485))
theorem rxbROWR_3 {S0 : Nat → Int → Int} {ws : List Int} {S : Nat → Int → Int} {pa had came k x : Int} (hP : rxPROWR S0 ws) (hin : bx_same rxL (bx_mdl rxC236.2.2.1) S0 S) (I0 : bx_Inv rxL S) (hinv : rxIROWR_3 S0 ws S pa had came k x) (l8 : 0 ≤ pa) (u8 : pa ≤ 5) (l9 : 1 ≤ had) (u9 : had ≤ 400) (l10 : 0 ≤ came) (u10 : came ≤ 100) (l11 : 0 ≤ k) (u11 : k ≤ 399) (l12 : (-2147483648) ≤ x) (u12 : x ≤ 2147483647) : bx_opcB 33 x 1 ∧ ∀ y : Int, y = bx_opvB 33 x 1 → ((-2147483648) ≤ y ∧ y ≤ 2147483647) ∧ rxIROWR_4 S0 ws S pa had came k x y ∧ rxmROWR_4 S0 ws S pa had came k x y < rxmROWR_3 S0 ws S pa had came k x := by
  obtain ⟨hw, g0, g1, g2, g3, hh, h8, ht, m, hm, hm2, hn, hx, h9, hk⟩ := hinv
  have b := rzCnt_b (T := fun i => S0 485 i) (n := S0 480 8) m
  refine ⟨⟨⟨by omega, by omega⟩, show (-2147483648 : Int) ≤ 1 ∧ (1 : Int) ≤ 2147483647 ∧ -2147483648 ≤ x + 1 ∧ x + 1 ≤ 2147483647 by omega⟩, fun y hv => ?_⟩
  have hv : y = x + 1 := hv
  exact ⟨by omega, ⟨hw, g0, g1, g2, g3, hh, h8, ht, m, hm, hm2, hn, by omega, h9, hk⟩, by unfold rxmROWR_3 rxmROWR_4; omega⟩
theorem rxcROWR_0_0 {S0 : Nat → Int → Int} {ws : List Int} {S : Nat → Int → Int} {pa x9 x10 : Int} (hP : rxPROWR S0 ws) (hin : bx_same rxL (bx_mdl rxC236.2.2.1) S0 S) (I0 : bx_Inv rxL S) (hinv : rxIROWR_0 S0 ws S pa) (l8 : 0 ≤ pa) (u8 : pa ≤ 5) (l9 : 1 ≤ x9) (u9 : x9 ≤ 6) (l10 : 1 ≤ x10) (u10 : x10 ≤ 400) (f0 : x10 ≠ 0) (f1 : pa ≤ x9 + (-1)) (e3 : (bx_up S 480 0 0) 482 0 = x9) (e2 : (bx_up S 480 0 0) 480 8 = x10) : (True) ∧ (True) ∧ rxIROWR_1 S0 ws (bx_up (bx_up (bx_up S 480 0 0) 480 8 0) 480 6 0) pa x10 0 0 ∧ rxmROWR_1 S0 ws (bx_up (bx_up (bx_up S 480 0 0) 480 8 0) 480 6 0) pa x10 0 0 < rxmROWR_0 S0 ws S pa := by
  obtain ⟨rfl, hw⟩ := hinv
  have q2 := e2
  have q3 := e3
  rw [bx_up_ne (by omega)] at q2 q3
  exact ⟨by first | exact trivial | exact ⟨⟨by omega, by omega⟩, trivial⟩ | exact ⟨⟨by omega, by omega⟩, ⟨by omega, by omega⟩, trivial⟩ | exact ⟨⟨by omega, by omega⟩, ⟨by omega, by omega⟩, ⟨by omega, by omega⟩, trivial⟩, trivial, ⟨hw, by omega, by omega, by omega, by omega, by omega, (bx_up_ne (by omega)).trans bx_up_at, fun i i0 i1 => (bx_up_ne (by omega)).trans ((bx_up_ne (by omega)).trans (bx_up_ne (by omega))), 0, by omega, by omega, rfl, bx_up_at.trans (by omega)⟩, by unfold rxmROWR_0 rxmROWR_1; omega⟩
theorem rxdROWR_0_0 {S0 : Nat → Int → Int} {ws : List Int} {S : Nat → Int → Int} {pa x9 x10 x11 x12 : Int} (hP : rxPROWR S0 ws) (hin : bx_same rxL (bx_mdl rxC236.2.2.1) S0 S) (hin2 : bx_same rxL (bx_mdl rxC236.2.2.1) S (bx_up (bx_up (bx_up (bx_up S 480 0 0) 480 8 0) 480 1 ((-6))) 481 6 x12)) (I0 : bx_Inv rxL S) (I1 : bx_Inv rxL (bx_up (bx_up (bx_up (bx_up S 480 0 0) 480 8 0) 480 1 ((-6))) 481 6 x12)) (hinv : rxIROWR_0 S0 ws S pa) (l8 : 0 ≤ pa) (u8 : pa ≤ 5) (l9 : 1 ≤ x9) (u9 : x9 ≤ 6) (l10 : 0 ≤ x10) (u10 : x10 ≤ 0) (l11 : (-2147483648) ≤ x11) (u11 : x11 ≤ 2147483647) (l12 : (-2147483648) ≤ x12) (u12 : x12 ≤ 2147483647) (f0 : pa ≤ x9 + (-1)) (e5 : (bx_up S 480 0 0) 482 0 = x9) (e4 : (bx_up S 480 0 0) 480 8 = x10) (e1 : (bx_up (bx_up (bx_up S 480 0 0) 480 8 0) 480 1 ((-6))) 481 6 = x11) : (True) ∧ rxPSROWR S0 ws (bx_up (bx_up (bx_up (bx_up S 480 0 0) 480 8 0) 480 1 ((-6))) 481 6 x12) (some ((-6))) := by
  obtain ⟨rfl, hw⟩ := hinv
  have q5 := e5
  repeat rw [bx_up_ne (by omega)] at q5
  have q4 := e4
  repeat rw [bx_up_ne (by omega)] at q4
  have q1 := e1
  repeat rw [bx_up_ne (by omega)] at q1
  exact ⟨trivial, pa, hw, Or.inr (Or.inl ⟨by omega, by omega, by omega, rfl, fun j => (bx_up_ne (by omega)).trans ((bx_up_ne (by omega)).trans ((bx_up_ne (by omega)).trans ((bx_up_ne (by omega))))), ((bx_up_ne (by omega)).trans ((bx_up_ne (by omega)).trans (bx_up_at))).trans (by omega), (bx_up_ne (by omega)).trans ((bx_up_ne (by omega)).trans ((bx_up_ne (by omega)).trans ((bx_up_ne (by omega)))))⟩)⟩
theorem rxdROWR_0_1 {S0 : Nat → Int → Int} {ws : List Int} {S : Nat → Int → Int} {pa x9 x10 x11 : Int} (hP : rxPROWR S0 ws) (hin : bx_same rxL (bx_mdl rxC236.2.2.1) S0 S) (hin2 : bx_same rxL (bx_mdl rxC236.2.2.1) S (bx_up (bx_up (bx_up S 480 0 0) 480 1 ((-2))) 481 2 x11)) (I0 : bx_Inv rxL S) (I1 : bx_Inv rxL (bx_up (bx_up (bx_up S 480 0 0) 480 1 ((-2))) 481 2 x11)) (hinv : rxIROWR_0 S0 ws S pa) (l8 : 0 ≤ pa) (u8 : pa ≤ 2147483647) (l9 : 0 ≤ x9) (u9 : x9 ≤ 6) (l10 : (-2147483648) ≤ x10) (u10 : x10 ≤ 2147483647) (l11 : (-2147483648) ≤ x11) (u11 : x11 ≤ 2147483647) (f0 : x9 + (-1) < pa) (e3 : (bx_up S 480 0 0) 482 0 = x9) (e1 : (bx_up (bx_up S 480 0 0) 480 1 ((-2))) 481 2 = x10) : (True) ∧ rxPSROWR S0 ws (bx_up (bx_up (bx_up S 480 0 0) 480 1 ((-2))) 481 2 x11) (some ((-2))) := by
  obtain ⟨rfl, hw⟩ := hinv
  have q3 := e3
  repeat rw [bx_up_ne (by omega)] at q3
  have q1 := e1
  repeat rw [bx_up_ne (by omega)] at q1
  exact ⟨trivial, pa, hw, Or.inl ⟨by omega, rfl, fun j => (bx_up_ne (by omega)).trans ((bx_up_ne (by omega)).trans ((bx_up_ne (by omega)))), (bx_up_ne (by omega)).trans ((bx_up_ne (by omega)).trans ((bx_up_ne (by omega)))), (bx_up_ne (by omega)).trans ((bx_up_ne (by omega)).trans ((bx_up_ne (by omega))))⟩⟩
theorem rxdROWR_0_2 {S0 : Nat → Int → Int} {ws : List Int} {S : Nat → Int → Int} {pa x9 x10 x11 : Int} (hP : rxPROWR S0 ws) (hin : bx_same rxL (bx_mdl rxC236.2.2.1) S0 S) (hin2 : bx_same rxL (bx_mdl rxC236.2.2.1) S (bx_up (bx_up (bx_up S 480 0 0) 480 1 ((-2))) 481 2 x11)) (I0 : bx_Inv rxL S) (I1 : bx_Inv rxL (bx_up (bx_up (bx_up S 480 0 0) 480 1 ((-2))) 481 2 x11)) (hinv : rxIROWR_0 S0 ws S pa) (l8 : (-2147483648) ≤ pa) (u8 : pa ≤ (-1)) (l9 : 0 ≤ x9) (u9 : x9 ≤ 6) (l10 : (-2147483648) ≤ x10) (u10 : x10 ≤ 2147483647) (l11 : (-2147483648) ≤ x11) (u11 : x11 ≤ 2147483647) (e3 : (bx_up S 480 0 0) 482 0 = x9) (e1 : (bx_up (bx_up S 480 0 0) 480 1 ((-2))) 481 2 = x10) : (True) ∧ rxPSROWR S0 ws (bx_up (bx_up (bx_up S 480 0 0) 480 1 ((-2))) 481 2 x11) (some ((-2))) := by
  obtain ⟨rfl, hw⟩ := hinv
  have q3 := e3
  repeat rw [bx_up_ne (by omega)] at q3
  have q1 := e1
  repeat rw [bx_up_ne (by omega)] at q1
  exact ⟨trivial, pa, hw, Or.inl ⟨by omega, rfl, fun j => (bx_up_ne (by omega)).trans ((bx_up_ne (by omega)).trans ((bx_up_ne (by omega)))), (bx_up_ne (by omega)).trans ((bx_up_ne (by omega)).trans ((bx_up_ne (by omega)))), (bx_up_ne (by omega)).trans ((bx_up_ne (by omega)).trans ((bx_up_ne (by omega))))⟩⟩
theorem rxcROWR_1_0 {S0 : Nat → Int → Int} {ws : List Int} {S : Nat → Int → Int} {pa had came k x12 x13 x14 x15 x16 x17 x18 x19 x20 x21 x22 x23 x24 x25 : Int} (hP : rxPROWR S0 ws) (hin : bx_same rxL (bx_mdl rxC236.2.2.1) S0 S) (I0 : bx_Inv rxL S) (hinv : rxIROWR_1 S0 ws S pa had came k) (l8 : 0 ≤ pa) (u8 : pa ≤ 5) (l9 : 4 ≤ had) (u9 : had ≤ 400) (l10 : 0 ≤ came) (u10 : came ≤ 100) (l11 : 0 ≤ k) (u11 : k ≤ 396) (l12 : 0 ≤ x12) (u12 : x12 ≤ 5) (l13 : 0 ≤ x13) (u13 : x13 ≤ 5) (l14 : 0 ≤ x14) (u14 : x14 ≤ 9) (l15 : 0 ≤ x15) (u15 : x15 ≤ 5) (l16 : 0 ≤ x16) (u16 : x16 ≤ 180) (l17 : 0 ≤ x17) (u17 : x17 ≤ 255) (l18 : 0 ≤ x18) (u18 : x18 ≤ 1530) (l19 : 22 ≤ x19) (u19 : x19 ≤ 1732) (l20 : 0 ≤ x20) (u20 : x20 ≤ 255) (l21 : 22 ≤ x21) (u21 : x21 ≤ 1987) (l22 : 0 ≤ x22) (u22 : x22 ≤ 255) (l23 : 0 ≤ x23) (u23 : x23 ≤ 1530) (l24 : 0 ≤ x24) (u24 : x24 ≤ 255) (l25 : 0 ≤ x25) (u25 : x25 ≤ 1785) (f0 : x25 = x23 + x24) (f1 : x23 = 6 * (x22)) (f2 : x21 = x19 + x20) (f3 : x19 = x16 + 22 + x18) (f4 : x18 = 6 * (x17)) (f5 : x16 = 36 * (pa)) (f6 : k + 3 < had) (f7 : k < had) (e7 : S 485 k = x12) (e6 : S 485 (k + 1) = x13) (e5 : S 485 (k + 2) = x14) (e4 : S 485 (k + 3) = x15) (e3 : S 485 k = x17) (e2 : S 485 (k + 1) = x20) (e1 : S 485 (k + 2) = x22) (e0 : S 485 (k + 3) = x24) : ((0 ≤ came ∧ came ≤ 99) ∧ (22 ≤ x21 ∧ x21 ≤ 237) ∧ (0 ≤ x25 ∧ x25 ≤ 59) ∧ True) ∧ (True) ∧ rxIROWR_2 S0 ws S pa had came k x21 x25 ∧ rxmROWR_2 S0 ws S pa had came k x21 x25 < rxmROWR_1 S0 ws S pa had came k := by
  obtain ⟨hw, g0, g1, g2, g3, hh, h8, ht, m, hm, hm2, hn, h7⟩ := hinv
  have b := rzCnt_b (T := fun i => S0 485 i) (n := S0 480 8) m
  have q7 : S0 485 (k) = x12 := (ht (k) (by omega) (by omega)).symm.trans e7
  have q6 : S0 485 (k + 1) = x13 := (ht (k + 1) (by omega) (by omega)).symm.trans e6
  have q5 : S0 485 (k + 2) = x14 := (ht (k + 2) (by omega) (by omega)).symm.trans e5
  have q4 : S0 485 (k + 3) = x15 := (ht (k + 3) (by omega) (by omega)).symm.trans e4
  have q3 : S0 485 (k) = x17 := (ht (k) (by omega) (by omega)).symm.trans e3
  have q2 : S0 485 (k + 1) = x20 := (ht (k + 1) (by omega) (by omega)).symm.trans e2
  have q1 : S0 485 (k + 2) = x22 := (ht (k + 2) (by omega) (by omega)).symm.trans e1
  have q0 : S0 485 (k + 3) = x24 := (ht (k + 3) (by omega) (by omega)).symm.trans e0
  have hk : k + 3 < S0 480 8 ∧ S0 485 k ≤ 5 ∧ S0 485 (k + 1) ≤ 5 ∧ S0 485 (k + 2) ≤ 9 ∧ S0 485 (k + 3) ≤ 5 := by omega
  exact ⟨by first | exact trivial | exact ⟨⟨by omega, by omega⟩, trivial⟩ | exact ⟨⟨by omega, by omega⟩, ⟨by omega, by omega⟩, trivial⟩ | exact ⟨⟨by omega, by omega⟩, ⟨by omega, by omega⟩, ⟨by omega, by omega⟩, trivial⟩, trivial, ⟨hw, g0, g1, g2, g3, hh, h8, ht, m, hm, hm2, hn, h7, rzOk_t (T := fun i => S0 485 i) hk⟩, by unfold rxmROWR_1 rxmROWR_2; omega⟩
theorem rxcROWR_1_1 {S0 : Nat → Int → Int} {ws : List Int} {S : Nat → Int → Int} {pa had came k x12 x13 x14 x15 x16 : Int} (hP : rxPROWR S0 ws) (hin : bx_same rxL (bx_mdl rxC236.2.2.1) S0 S) (I0 : bx_Inv rxL S) (hinv : rxIROWR_1 S0 ws S pa had came k) (l8 : 0 ≤ pa) (u8 : pa ≤ 5) (l9 : 4 ≤ had) (u9 : had ≤ 400) (l10 : 0 ≤ came) (u10 : came ≤ 100) (l11 : 0 ≤ k) (u11 : k ≤ 396) (l12 : 0 ≤ x12) (u12 : x12 ≤ 5) (l13 : 0 ≤ x13) (u13 : x13 ≤ 5) (l14 : 0 ≤ x14) (u14 : x14 ≤ 9) (l15 : 6 ≤ x15) (u15 : x15 ≤ 255) (l16 : (-2147483648) ≤ x16) (u16 : x16 ≤ 2147483647) (f0 : k + 3 < had) (f1 : k < had) (e4 : S 485 k = x12) (e3 : S 485 (k + 1) = x13) (e2 : S 485 (k + 2) = x14) (e1 : S 485 (k + 3) = x15) (e0 : S 480 6 = x16) : (True) ∧ (True) ∧ rxIROWR_3 S0 ws S pa had came k x16 ∧ rxmROWR_3 S0 ws S pa had came k x16 < rxmROWR_1 S0 ws S pa had came k := by
  obtain ⟨hw, g0, g1, g2, g3, hh, h8, ht, m, hm, hm2, hn, h7⟩ := hinv
  have q4 : S0 485 (k) = x12 := (ht (k) (by omega) (by omega)).symm.trans e4
  have q3 : S0 485 (k + 1) = x13 := (ht (k + 1) (by omega) (by omega)).symm.trans e3
  have q2 : S0 485 (k + 2) = x14 := (ht (k + 2) (by omega) (by omega)).symm.trans e2
  have q1 : S0 485 (k + 3) = x15 := (ht (k + 3) (by omega) (by omega)).symm.trans e1
  have hk : ¬ (k + 3 < S0 480 8 ∧ S0 485 k ≤ 5 ∧ S0 485 (k + 1) ≤ 5 ∧ S0 485 (k + 2) ≤ 9 ∧ S0 485 (k + 3) ≤ 5) := by omega
  exact ⟨by first | exact trivial | exact ⟨⟨by omega, by omega⟩, trivial⟩ | exact ⟨⟨by omega, by omega⟩, ⟨by omega, by omega⟩, trivial⟩ | exact ⟨⟨by omega, by omega⟩, ⟨by omega, by omega⟩, ⟨by omega, by omega⟩, trivial⟩, trivial, ⟨hw, g0, g1, g2, g3, hh, h8, ht, m, hm, hm2, hn, by omega, by omega, rzOk_f (T := fun i => S0 485 i) hk⟩, by unfold rxmROWR_1 rxmROWR_3; omega⟩
theorem rxcROWR_1_2 {S0 : Nat → Int → Int} {ws : List Int} {S : Nat → Int → Int} {pa had came k x12 x13 x14 x15 : Int} (hP : rxPROWR S0 ws) (hin : bx_same rxL (bx_mdl rxC236.2.2.1) S0 S) (I0 : bx_Inv rxL S) (hinv : rxIROWR_1 S0 ws S pa had came k) (l8 : 0 ≤ pa) (u8 : pa ≤ 5) (l9 : 4 ≤ had) (u9 : had ≤ 400) (l10 : 0 ≤ came) (u10 : came ≤ 100) (l11 : 0 ≤ k) (u11 : k ≤ 396) (l12 : 0 ≤ x12) (u12 : x12 ≤ 5) (l13 : 0 ≤ x13) (u13 : x13 ≤ 5) (l14 : 10 ≤ x14) (u14 : x14 ≤ 255) (l15 : (-2147483648) ≤ x15) (u15 : x15 ≤ 2147483647) (f0 : k + 3 < had) (f1 : k < had) (e3 : S 485 k = x12) (e2 : S 485 (k + 1) = x13) (e1 : S 485 (k + 2) = x14) (e0 : S 480 6 = x15) : (True) ∧ (True) ∧ rxIROWR_3 S0 ws S pa had came k x15 ∧ rxmROWR_3 S0 ws S pa had came k x15 < rxmROWR_1 S0 ws S pa had came k := by
  obtain ⟨hw, g0, g1, g2, g3, hh, h8, ht, m, hm, hm2, hn, h7⟩ := hinv
  have q3 : S0 485 (k) = x12 := (ht (k) (by omega) (by omega)).symm.trans e3
  have q2 : S0 485 (k + 1) = x13 := (ht (k + 1) (by omega) (by omega)).symm.trans e2
  have q1 : S0 485 (k + 2) = x14 := (ht (k + 2) (by omega) (by omega)).symm.trans e1
  have hk : ¬ (k + 3 < S0 480 8 ∧ S0 485 k ≤ 5 ∧ S0 485 (k + 1) ≤ 5 ∧ S0 485 (k + 2) ≤ 9 ∧ S0 485 (k + 3) ≤ 5) := by omega
  exact ⟨by first | exact trivial | exact ⟨⟨by omega, by omega⟩, trivial⟩ | exact ⟨⟨by omega, by omega⟩, ⟨by omega, by omega⟩, trivial⟩ | exact ⟨⟨by omega, by omega⟩, ⟨by omega, by omega⟩, ⟨by omega, by omega⟩, trivial⟩, trivial, ⟨hw, g0, g1, g2, g3, hh, h8, ht, m, hm, hm2, hn, by omega, by omega, rzOk_f (T := fun i => S0 485 i) hk⟩, by unfold rxmROWR_1 rxmROWR_3; omega⟩
theorem rxcROWR_1_3 {S0 : Nat → Int → Int} {ws : List Int} {S : Nat → Int → Int} {pa had came k x12 x13 x14 : Int} (hP : rxPROWR S0 ws) (hin : bx_same rxL (bx_mdl rxC236.2.2.1) S0 S) (I0 : bx_Inv rxL S) (hinv : rxIROWR_1 S0 ws S pa had came k) (l8 : 0 ≤ pa) (u8 : pa ≤ 5) (l9 : 4 ≤ had) (u9 : had ≤ 400) (l10 : 0 ≤ came) (u10 : came ≤ 100) (l11 : 0 ≤ k) (u11 : k ≤ 396) (l12 : 0 ≤ x12) (u12 : x12 ≤ 5) (l13 : 6 ≤ x13) (u13 : x13 ≤ 255) (l14 : (-2147483648) ≤ x14) (u14 : x14 ≤ 2147483647) (f0 : k + 3 < had) (f1 : k < had) (e2 : S 485 k = x12) (e1 : S 485 (k + 1) = x13) (e0 : S 480 6 = x14) : (True) ∧ (True) ∧ rxIROWR_3 S0 ws S pa had came k x14 ∧ rxmROWR_3 S0 ws S pa had came k x14 < rxmROWR_1 S0 ws S pa had came k := by
  obtain ⟨hw, g0, g1, g2, g3, hh, h8, ht, m, hm, hm2, hn, h7⟩ := hinv
  have q2 : S0 485 (k) = x12 := (ht (k) (by omega) (by omega)).symm.trans e2
  have q1 : S0 485 (k + 1) = x13 := (ht (k + 1) (by omega) (by omega)).symm.trans e1
  have hk : ¬ (k + 3 < S0 480 8 ∧ S0 485 k ≤ 5 ∧ S0 485 (k + 1) ≤ 5 ∧ S0 485 (k + 2) ≤ 9 ∧ S0 485 (k + 3) ≤ 5) := by omega
  exact ⟨by first | exact trivial | exact ⟨⟨by omega, by omega⟩, trivial⟩ | exact ⟨⟨by omega, by omega⟩, ⟨by omega, by omega⟩, trivial⟩ | exact ⟨⟨by omega, by omega⟩, ⟨by omega, by omega⟩, ⟨by omega, by omega⟩, trivial⟩, trivial, ⟨hw, g0, g1, g2, g3, hh, h8, ht, m, hm, hm2, hn, by omega, by omega, rzOk_f (T := fun i => S0 485 i) hk⟩, by unfold rxmROWR_1 rxmROWR_3; omega⟩
theorem rxcROWR_1_4 {S0 : Nat → Int → Int} {ws : List Int} {S : Nat → Int → Int} {pa had came k x12 x13 x14 : Int} (hP : rxPROWR S0 ws) (hin : bx_same rxL (bx_mdl rxC236.2.2.1) S0 S) (I0 : bx_Inv rxL S) (hinv : rxIROWR_1 S0 ws S pa had came k) (l8 : 0 ≤ pa) (u8 : pa ≤ 5) (l9 : 4 ≤ had) (u9 : had ≤ 400) (l10 : 0 ≤ came) (u10 : came ≤ 100) (l11 : 0 ≤ k) (u11 : k ≤ 396) (l12 : 6 ≤ x12) (u12 : x12 ≤ 255) (l13 : 0 ≤ x13) (u13 : x13 ≤ 255) (l14 : (-2147483648) ≤ x14) (u14 : x14 ≤ 2147483647) (f0 : k + 3 < had) (f1 : k < had) (e2 : S 485 k = x12) (e1 : S 485 (k + 1) = x13) (e0 : S 480 6 = x14) : (True) ∧ (True) ∧ rxIROWR_3 S0 ws S pa had came k x14 ∧ rxmROWR_3 S0 ws S pa had came k x14 < rxmROWR_1 S0 ws S pa had came k := by
  obtain ⟨hw, g0, g1, g2, g3, hh, h8, ht, m, hm, hm2, hn, h7⟩ := hinv
  have q2 : S0 485 (k) = x12 := (ht (k) (by omega) (by omega)).symm.trans e2
  have q1 : S0 485 (k + 1) = x13 := (ht (k + 1) (by omega) (by omega)).symm.trans e1
  have hk : ¬ (k + 3 < S0 480 8 ∧ S0 485 k ≤ 5 ∧ S0 485 (k + 1) ≤ 5 ∧ S0 485 (k + 2) ≤ 9 ∧ S0 485 (k + 3) ≤ 5) := by omega
  exact ⟨by first | exact trivial | exact ⟨⟨by omega, by omega⟩, trivial⟩ | exact ⟨⟨by omega, by omega⟩, ⟨by omega, by omega⟩, trivial⟩ | exact ⟨⟨by omega, by omega⟩, ⟨by omega, by omega⟩, ⟨by omega, by omega⟩, trivial⟩, trivial, ⟨hw, g0, g1, g2, g3, hh, h8, ht, m, hm, hm2, hn, by omega, by omega, rzOk_f (T := fun i => S0 485 i) hk⟩, by unfold rxmROWR_1 rxmROWR_3; omega⟩
theorem rxcROWR_1_5 {S0 : Nat → Int → Int} {ws : List Int} {S : Nat → Int → Int} {pa had came k x12 : Int} (hP : rxPROWR S0 ws) (hin : bx_same rxL (bx_mdl rxC236.2.2.1) S0 S) (I0 : bx_Inv rxL S) (hinv : rxIROWR_1 S0 ws S pa had came k) (l8 : 0 ≤ pa) (u8 : pa ≤ 5) (l9 : 1 ≤ had) (u9 : had ≤ 400) (l10 : 0 ≤ came) (u10 : came ≤ 100) (l11 : 0 ≤ k) (u11 : k ≤ 399) (l12 : (-2147483648) ≤ x12) (u12 : x12 ≤ 2147483647) (f0 : had ≤ k + 3) (f1 : k < had) (e0 : S 480 6 = x12) : (True) ∧ (True) ∧ rxIROWR_3 S0 ws S pa had came k x12 ∧ rxmROWR_3 S0 ws S pa had came k x12 < rxmROWR_1 S0 ws S pa had came k := by
  obtain ⟨hw, g0, g1, g2, g3, hh, h8, ht, m, hm, hm2, hn, h7⟩ := hinv
  have hk : ¬ (k + 3 < S0 480 8 ∧ S0 485 k ≤ 5 ∧ S0 485 (k + 1) ≤ 5 ∧ S0 485 (k + 2) ≤ 9 ∧ S0 485 (k + 3) ≤ 5) := by omega
  exact ⟨by first | exact trivial | exact ⟨⟨by omega, by omega⟩, trivial⟩ | exact ⟨⟨by omega, by omega⟩, ⟨by omega, by omega⟩, trivial⟩ | exact ⟨⟨by omega, by omega⟩, ⟨by omega, by omega⟩, ⟨by omega, by omega⟩, trivial⟩, trivial, ⟨hw, g0, g1, g2, g3, hh, h8, ht, m, hm, hm2, hn, by omega, by omega, rzOk_f (T := fun i => S0 485 i) hk⟩, by unfold rxmROWR_1 rxmROWR_3; omega⟩
theorem rxdROWR_1_0 {S0 : Nat → Int → Int} {ws : List Int} {S : Nat → Int → Int} {pa had came k : Int} (hP : rxPROWR S0 ws) (hin : bx_same rxL (bx_mdl rxC236.2.2.1) S0 S) (hin2 : bx_same rxL (bx_mdl rxC236.2.2.1) S (bx_up S 480 1 0)) (I0 : bx_Inv rxL S) (I1 : bx_Inv rxL (bx_up S 480 1 0)) (hinv : rxIROWR_1 S0 ws S pa had came k) (l8 : 0 ≤ pa) (u8 : pa ≤ 5) (l9 : 1 ≤ had) (u9 : had ≤ 400) (l10 : 0 ≤ came) (u10 : came ≤ 100) (l11 : 1 ≤ k) (u11 : k ≤ 403) (f0 : had ≤ k) : (True) ∧ rxPSROWR S0 ws (bx_up S 480 1 0) (some came) := by
  obtain ⟨hw, g0, g1, g2, g3, hh, h8, ht, m, hm, hm2, hn, h7⟩ := hinv
  have em : ((S0 480 8 + 3) / 4).toNat = m := by omega
  have e1 : came = rzRC S0 480 8 485 := by
    unfold rzRC
    rw [em]
    exact hn
  have e2 : S 480 6 = rzPR S0 480 8 485 := by
    unfold rzPR
    rw [← e1]
    omega
  exact ⟨trivial, pa, hw, Or.inr (Or.inr ⟨g0, g1, g2, g3, congrArg some e1, (bx_up_ne (by omega)).trans h8, (bx_up_ne (by omega)).trans e2⟩)⟩
theorem rxcROWR_2_0 {S0 : Nat → Int → Int} {ws : List Int} {S : Nat → Int → Int} {pa had came k a v : Int} (hP : rxPROWR S0 ws) (hin : bx_same rxL (bx_mdl rxC236.2.2.1) S0 S) (I0 : bx_Inv rxL S) (hinv : rxIROWR_2 S0 ws S pa had came k a v) (l8 : 0 ≤ pa) (u8 : pa ≤ 5) (l9 : 1 ≤ had) (u9 : had ≤ 400) (l10 : 0 ≤ came) (u10 : came ≤ 99) (l11 : 0 ≤ k) (u11 : k ≤ 399) (l12 : 22 ≤ a) (u12 : a ≤ 237) (l13 : 0 ≤ v) (u13 : v ≤ 59) : (True) ∧ (True) ∧ rxIROWR_1 S0 ws (bx_up S 482 a v) pa had (came + 1) (k + 4) ∧ rxmROWR_1 S0 ws (bx_up S 482 a v) pa had (came + 1) (k + 4) < rxmROWR_2 S0 ws S pa had came k a v := by
  obtain ⟨hw, g0, g1, g2, g3, hh, h8, ht, m, hm, hm2, hn, h7, hk⟩ := hinv
  have hk3 : k + 3 < S0 480 8 := (of_decide_eq_true hk).1
  exact ⟨by first | exact trivial | exact ⟨⟨by omega, by omega⟩, trivial⟩ | exact ⟨⟨by omega, by omega⟩, ⟨by omega, by omega⟩, trivial⟩ | exact ⟨⟨by omega, by omega⟩, ⟨by omega, by omega⟩, ⟨by omega, by omega⟩, trivial⟩, trivial, ⟨hw, g0, g1, g2, g3, hh, (bx_up_ne (by omega)).trans h8, fun i i0 i1 => (bx_up_ne (by omega)).trans (ht i i0 i1), m + 1, by omega, by omega, rzCnt_t hm hk hn rfl, (bx_up_ne (by omega)).trans (by omega)⟩, by unfold rxmROWR_2 rxmROWR_1; omega⟩
theorem rxcROWR_4_0 {S0 : Nat → Int → Int} {ws : List Int} {S : Nat → Int → Int} {pa had came k x y : Int} (hP : rxPROWR S0 ws) (hin : bx_same rxL (bx_mdl rxC236.2.2.1) S0 S) (I0 : bx_Inv rxL S) (hinv : rxIROWR_4 S0 ws S pa had came k x y) (l8 : 0 ≤ pa) (u8 : pa ≤ 5) (l9 : 1 ≤ had) (u9 : had ≤ 400) (l10 : 0 ≤ came) (u10 : came ≤ 100) (l11 : 0 ≤ k) (u11 : k ≤ 399) (l12 : (-2147483648) ≤ x) (u12 : x ≤ 2147483647) (l13 : (-2147483648) ≤ y) (u13 : y ≤ 2147483647) : (True) ∧ (True) ∧ rxIROWR_1 S0 ws (bx_up S 480 6 y) pa had came (k + 4) ∧ rxmROWR_1 S0 ws (bx_up S 480 6 y) pa had came (k + 4) < rxmROWR_4 S0 ws S pa had came k x y := by
  obtain ⟨hw, g0, g1, g2, g3, hh, h8, ht, m, hm, hm2, hn, hy, h9, hk⟩ := hinv
  exact ⟨by first | exact trivial | exact ⟨⟨by omega, by omega⟩, trivial⟩ | exact ⟨⟨by omega, by omega⟩, ⟨by omega, by omega⟩, trivial⟩ | exact ⟨⟨by omega, by omega⟩, ⟨by omega, by omega⟩, ⟨by omega, by omega⟩, trivial⟩, trivial, ⟨hw, g0, g1, g2, g3, hh, (bx_up_ne (by omega)).trans h8, fun i i0 i1 => (bx_up_ne (by omega)).trans (ht i i0 i1), m + 1, by omega, by omega, rzCnt_f hm hk hn, bx_up_at.trans (by omega)⟩, by unfold rxmROWR_4 rxmROWR_1; omega⟩