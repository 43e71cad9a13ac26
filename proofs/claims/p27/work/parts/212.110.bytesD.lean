noncomputable def rxIPUTB_0 (S0 : Nat → Int → Int) (ws : List Int) (S : Nat → Int → Int) (b : Int) : Prop := S = S0 ∧ ws = [0, b]
noncomputable def rxmPUTB_0 (S0 : Nat → Int → Int) (ws : List Int) (S : Nat → Int → Int) (b : Int) : Nat := 1000
noncomputable def rxzPUTB_0 : rx_Z := ([(0, 0), (0, 0), (0, 0), (0, 0), (0, 0), (0, 0), (0, 0), (0, 0), ((-2147483648), 2147483647)], [], [], 0, 0, 0, [(0, .inr (3, (0, 0))), (1, .inr (0, (8, 0)))], [])
noncomputable def rxIPUTB_1 (S0 : Nat → Int → Int) (ws : List Int) (S : Nat → Int → Int) (b sh nn : Int) : Prop := ws = [0, b] ∧ ∃ k : Int, 0 ≤ k ∧ k ≤ 3 ∧ sh = 24 - 8 * k ∧ S 0 4 = S0 0 4 + k ∧ nn = S0 0 4 + k ∧ (∀ i : Int, 0 ≤ i → i < 400 → S 411 i = rzQ k (S0 0 4) b (S0 411 i) i)
noncomputable def rxmPUTB_1 (S0 : Nat → Int → Int) (ws : List Int) (S : Nat → Int → Int) (b sh nn : Int) : Nat := sh.toNat * 10 + 9
noncomputable def rxzPUTB_1 : rx_Z := ([(0, 0), (0, 0), (0, 0), (0, 0), (0, 0), (0, 0), (0, 0), (0, 0), ((-2147483648), 2147483647), (0, 24), (0, 399)], [], [], 0, 0, 27, [(0, .inr (3, (0, 0))), (1, .inr (0, (8, 0))), (2, .inr (0, (9, 0)))], [.inr (0, (9, 0)), .inr (0, (8, 0)), .inr (0, (10, 0)), .inr (3, (0, 411))])
noncomputable def rxIPUTB_2 (S0 : Nat → Int → Int) (ws : List Int) (S : Nat → Int → Int) (b sh nn y : Int) : Prop := ws = [0, b] ∧ ∃ k : Int, 0 ≤ k ∧ k ≤ 3 ∧ sh = 24 - 8 * k ∧ S 0 4 = S0 0 4 + k ∧ nn = S0 0 4 + k ∧ (∀ i : Int, 0 ≤ i → i < 400 → S 411 i = rzQ k (S0 0 4) b (S0 411 i) i) ∧ y = bx_opvB 31 b sh
noncomputable def rxmPUTB_2 (S0 : Nat → Int → Int) (ws : List Int) (S : Nat → Int → Int) (b sh nn y : Int) : Nat := sh.toNat * 10 + 8
noncomputable def rxzPUTB_2 : rx_Z := ([(0, 0), (0, 0), (0, 0), (0, 0), (0, 0), (0, 0), (0, 0), (0, 0), ((-2147483648), 2147483647), (0, 24), (0, 399), ((-2147483648), 2147483647)], [], [], 0, 0, 28, [(0, .inr (3, (0, 0))), (1, .inr (0, (8, 0))), (2, .inr (0, (9, 0)))], [.inr (0, (11, 0)), .inr (0, (10, 0)), .inr (3, (0, 411))])
noncomputable def rxIPUTB_3 (S0 : Nat → Int → Int) (ws : List Int) (S : Nat → Int → Int) (b sh nn y : Int) : Prop := ws = [0, b] ∧ ∃ k : Int, 0 ≤ k ∧ k ≤ 3 ∧ sh = 24 - 8 * k ∧ S 0 4 = S0 0 4 + k ∧ nn = S0 0 4 + k ∧ (∀ i : Int, 0 ≤ i → i < 400 → S 411 i = rzQ k (S0 0 4) b (S0 411 i) i) ∧ y = bx_opvB 31 b sh
noncomputable def rxmPUTB_3 (S0 : Nat → Int → Int) (ws : List Int) (S : Nat → Int → Int) (b sh nn y : Int) : Nat := sh.toNat * 10 + 7
noncomputable def rxzPUTB_3 : rx_Z := ([(0, 0), (0, 0), (0, 0), (0, 0), (0, 0), (0, 0), (0, 0), (0, 0), ((-2147483648), 2147483647), (0, 24), (0, 399), ((-2147483648), 2147483647)], [], [], 0, 0, 31, [(0, .inr (3, (0, 0))), (1, .inr (0, (8, 0))), (2, .inr (0, (9, 0)))], [.inr (0, (0, 255)), .inr (0, (11, 0)), .inr (0, (10, 0)), .inr (3, (0, 411))])
noncomputable def rxIPUTB_4 (S0 : Nat → Int → Int) (ws : List Int) (S : Nat → Int → Int) (b sh nn y v : Int) : Prop := ws = [0, b] ∧ ∃ k : Int, 0 ≤ k ∧ k ≤ 3 ∧ sh = 24 - 8 * k ∧ S 0 4 = S0 0 4 + k ∧ nn = S0 0 4 + k ∧ (∀ i : Int, 0 ≤ i → i < 400 → S 411 i = rzQ k (S0 0 4) b (S0 411 i) i) ∧ v = rzBy b k
noncomputable def rxmPUTB_4 (S0 : Nat → Int → Int) (ws : List Int) (S : Nat → Int → Int) (b sh nn y v : Int) : Nat := sh.toNat * 10 + 6
noncomputable def rxzPUTB_4 : rx_Z := ([(0, 0), (0, 0), (0, 0), (0, 0), (0, 0), (0, 0), (0, 0), (0, 0), ((-2147483648), 2147483647), (0, 24), (0, 399), ((-2147483648), 2147483647), (0, 255)], [], [], 0, 0, 32, [(0, .inr (3, (0, 0))), (1, .inr (0, (8, 0))), (2, .inr (0, (9, 0)))], [.inr (0, (12, 0)), .inr (0, (10, 0)), .inr (3, (0, 411))])
noncomputable def rxIPUTB_5 (S0 : Nat → Int → Int) (ws : List Int) (S : Nat → Int → Int) (b sh x : Int) : Prop := ws = [0, b] ∧ ∃ k : Int, 0 ≤ k ∧ k ≤ 3 ∧ sh = 24 - 8 * k ∧ S 0 4 = S0 0 4 + k ∧ x = S0 0 4 + k ∧ (∀ i : Int, 0 ≤ i → i < 400 → S 411 i = rzQ (k + 1) (S0 0 4) b (S0 411 i) i)
noncomputable def rxmPUTB_5 (S0 : Nat → Int → Int) (ws : List Int) (S : Nat → Int → Int) (b sh x : Int) : Nat := sh.toNat * 10 + 5
noncomputable def rxzPUTB_5 : rx_Z := ([(0, 0), (0, 0), (0, 0), (0, 0), (0, 0), (0, 0), (0, 0), (0, 0), ((-2147483648), 2147483647), (0, 24), (0, 400)], [], [], 0, 0, 39, [(0, .inr (3, (0, 0))), (1, .inr (0, (8, 0))), (2, .inr (0, (9, 0)))], [.inr (0, (0, 1)), .inr (0, (10, 0)), .inr (3, (0, 0))])
noncomputable def rxIPUTB_6 (S0 : Nat → Int → Int) (ws : List Int) (S : Nat → Int → Int) (b sh x n2 : Int) : Prop := ws = [0, b] ∧ ∃ k : Int, 0 ≤ k ∧ k ≤ 3 ∧ sh = 24 - 8 * k ∧ S 0 4 = S0 0 4 + k ∧ n2 = S0 0 4 + k + 1 ∧ (∀ i : Int, 0 ≤ i → i < 400 → S 411 i = rzQ (k + 1) (S0 0 4) b (S0 411 i) i)
noncomputable def rxmPUTB_6 (S0 : Nat → Int → Int) (ws : List Int) (S : Nat → Int → Int) (b sh x n2 : Int) : Nat := sh.toNat * 10 + 4
noncomputable def rxzPUTB_6 : rx_Z := ([(0, 0), (0, 0), (0, 0), (0, 0), (0, 0), (0, 0), (0, 0), (0, 0), ((-2147483648), 2147483647), (0, 24), (0, 400), (0, 400)], [], [], 0, 0, 40, [(0, .inr (3, (0, 0))), (1, .inr (0, (8, 0))), (2, .inr (0, (9, 0)))], [.inr (0, (11, 0)), .inr (3, (0, 0))])
noncomputable def rxoPUTB_0_0 : bx_HO := (([(0, 0), (0, 0), (0, 0), (0, 0), (0, 0), (0, 0), (0, 0), (0, 0), ((-2147483648), 2147483647), (0, 399)], [], [(((0, 0), 3), .inr (3, (0, 411))), (((0, 0), 1851192626986356798227167157524121751206303872841384191768657920000000), .inr (0, (9, 0))), (((0, 0), 4), .inr (0, (9, 0)))], 0, 0, 27, [(2, .inr (0, (0, 24))), (0, .inr (3, (0, 0))), (1, .inr (0, (8, 0)))], [.inr (0, (0, 24)), .inr (0, (8, 0)), .inr (0, (9, 0)), .inr (3, (0, 411))]), [], [], [(0, 0), (0, 0), (0, 0), (0, 0), (0, 0), (0, 0), (0, 0), (0, 0), (8, 0), (0, 24), (9, 0)], 1)
noncomputable def rxePUTB_0_0 : rx_End × List (Nat × Int × Int) := (([(0, 0), (0, 0), (0, 0), (0, 0), (0, 0), (0, 0), (0, 0), (0, 0), ((-2147483648), 2147483647), (400, 400)], [], [(((0, 0), 1851192626986356798227167157524121751206303872841384191768657920000000), .inr (0, (9, 0))), (((0, 0), 4), .inr (0, (9, 0)))], none), [])
noncomputable def rxoPUTB_2_0 : bx_HO := (([(0, 0), (0, 0), (0, 0), (0, 0), (0, 0), (0, 0), (0, 0), (0, 0), ((-2147483648), 2147483647), (0, 24), (0, 399), ((-2147483648), 2147483647)], [], [], 0, 0, 31, [(0, .inr (3, (0, 0))), (1, .inr (0, (8, 0))), (2, .inr (0, (9, 0)))], [.inr (0, (0, 255)), .inr (0, (11, 0)), .inr (0, (10, 0)), .inr (3, (0, 411))]), [], [], [(0, 0), (0, 0), (0, 0), (0, 0), (0, 0), (0, 0), (0, 0), (0, 0), (8, 0), (9, 0), (10, 0), (11, 0)], 3)
noncomputable def rxoPUTB_4_0 : bx_HO := (([(0, 0), (0, 0), (0, 0), (0, 0), (0, 0), (0, 0), (0, 0), (0, 0), ((-2147483648), 2147483647), (0, 24), (0, 399), ((-2147483648), 2147483647), (0, 255), (0, 400)], [], [(((0, 0), 1851192626986356798227167157524121751206303872841384191768657920000000), .inr (0, (13, 0))), (((0, 0), 4), .inr (0, (13, 0))), (((0, 0), 1851192626986356797424370955790042202572729718740712036934811651000000), .inr (0, (12, 0)))], 0, 0, 39, [(0, .inr (3, (0, 0))), (1, .inr (0, (8, 0))), (2, .inr (0, (9, 0)))], [.inr (0, (0, 1)), .inr (0, (13, 0)), .inr (3, (0, 0))]), [], [], [(0, 0), (0, 0), (0, 0), (0, 0), (0, 0), (0, 0), (0, 0), (0, 0), (8, 0), (9, 0), (13, 0)], 5)
noncomputable def rxoPUTB_6_0 : bx_HO := (([(0, 0), (0, 0), (0, 0), (0, 0), (0, 0), (0, 0), (0, 0), (0, 0), ((-2147483648), 2147483647), (8, 24), (0, 400), (0, 399)], [], [(((0, 0), 3), .inr (3, (0, 411))), (((0, 0), 1851192626986356798227167157524121751206303872841384191768657923000000), .inr (0, (11, 0))), (((0, 0), 4), .inr (0, (11, 0)))], 0, 0, 27, [(2, .inr (0, (9, (-8)))), (0, .inr (3, (0, 0))), (1, .inr (0, (8, 0)))], [.inr (0, (9, (-8))), .inr (0, (8, 0)), .inr (0, (11, 0)), .inr (3, (0, 411))]), [], [], [(0, 0), (0, 0), (0, 0), (0, 0), (0, 0), (0, 0), (0, 0), (0, 0), (8, 0), (9, (-8)), (11, 0)], 1)
noncomputable def rxePUTB_6_0 : rx_End × List (Nat × Int × Int) := (([(0, 0), (0, 0), (0, 0), (0, 0), (0, 0), (0, 0), (0, 0), (0, 0), ((-2147483648), 2147483647), (8, 24), (0, 400), (400, 400)], [], [(((0, 0), 1851192626986356798227167157524121751206303872841384191768657923000000), .inr (0, (11, 0))), (((0, 0), 4), .inr (0, (11, 0)))], none), [])
noncomputable def rxePUTB_6_1 : rx_End × List (Nat × Int × Int) := (([(0, 0), (0, 0), (0, 0), (0, 0), (0, 0), (0, 0), (0, 0), (0, 0), ((-2147483648), 2147483647), (0, 7), (0, 400), (0, 400)], [], [(((0, 0), 1851192626986356798227167157524121751206303872841384191768657923000000), .inr (0, (11, 0))), (((0, 0), 4), .inr (0, (11, 0)))], none), [])
noncomputable def rxYPUTB : List bx_HE := [(rxzPUTB_0, [rxoPUTB_0_0], [rxePUTB_0_0]), (rxzPUTB_1, [], []), (rxzPUTB_2, [rxoPUTB_2_0], []), (rxzPUTB_3, [], []), (rxzPUTB_4, [rxoPUTB_4_0], []), (rxzPUTB_5, [], []), (rxzPUTB_6, [rxoPUTB_6_0], [rxePUTB_6_0, rxePUTB_6_1])]
noncomputable def rxUPUTB (q : bx_HE) : Bool := Nat.beq (rx_zpc q.1) 27 || Nat.beq (rx_zpc q.1) 31 || Nat.beq (rx_zpc q.1) 39
noncomputable def rxYBPUTB : bx_B := (rxV, rxNP, rxDmf, bx_mdH rxC117.2.2.1)
set_option maxRecDepth 100000 in
theorem rxYcPUTB : bx_chkH rxYBPUTB rxM117 rxC117 rxYPUTB (rxUPUTB, fun cut z => rx_ex2 (rxCT rxYBPUTB rxCnE) cut 30000 rxC117.2.2.2.1 117 z) = true := by decide +kernel
noncomputable def rxIPUTB (S0 : Nat → Int → Int) (ws : List Int) (i : Nat) : bx_SP := fun S r => match i with | 0 => rxIPUTB_0 S0 ws S (r 8) | 1 => rxIPUTB_1 S0 ws S (r 8) (r 9) (r 10) | 2 => rxIPUTB_2 S0 ws S (r 8) (r 9) (r 10) (r 11) | 3 => rxIPUTB_3 S0 ws S (r 8) (r 9) (r 10) (r 11) | 4 => rxIPUTB_4 S0 ws S (r 8) (r 9) (r 10) (r 11) (r 12) | 5 => rxIPUTB_5 S0 ws S (r 8) (r 9) (r 10) | 6 => rxIPUTB_6 S0 ws S (r 8) (r 9) (r 10) (r 11) | _ => False
noncomputable def rxmPUTB (S0 : Nat → Int → Int) (ws : List Int) (i : Nat) (S : Nat → Int → Int) (r : Nat → Int) : Nat := match i with | 0 => rxmPUTB_0 S0 ws S (r 8) | 1 => rxmPUTB_1 S0 ws S (r 8) (r 9) (r 10) | 2 => rxmPUTB_2 S0 ws S (r 8) (r 9) (r 10) (r 11) | 3 => rxmPUTB_3 S0 ws S (r 8) (r 9) (r 10) (r 11) | 4 => rxmPUTB_4 S0 ws S (r 8) (r 9) (r 10) (r 11) (r 12) | 5 => rxmPUTB_5 S0 ws S (r 8) (r 9) (r 10) | 6 => rxmPUTB_6 S0 ws S (r 8) (r 9) (r 10) (r 11) | _ => 0
noncomputable def rxPPUTB (S0 : Nat → Int → Int) (ws : List Int) : Prop := S0 0 4 ≤ 396
noncomputable def rxPSPUTB (S0 : Nat → Int → Int) (ws : List Int) (S : Nat → Int → Int) (w : Option Int) : Prop := w = none ∧ ∃ b : Int, ws = [0, b] ∧ S 0 4 = S0 0 4 + 4 ∧ ∀ i : Int, 0 ≤ i → i < 400 → S 411 i = rzQ 4 (S0 0 4) b (S0 411 i) i
theorem rxbPUTB_1 {S0 : Nat → Int → Int} {ws : List Int} {S : Nat → Int → Int} {b sh nn : Int} (hP : rxPPUTB S0 ws) (hin : bx_same rxL (bx_mdl rxC117.2.2.1) S0 S) (I0 : bx_Inv rxL S) (hinv : rxIPUTB_1 S0 ws S b sh nn) (l8 : (-2147483648) ≤ b) (u8 : b ≤ 2147483647) (l9 : 0 ≤ sh) (u9 : sh ≤ 24) (l10 : 0 ≤ nn) (u10 : nn ≤ 399) : bx_opcB 31 b sh ∧ ∀ y : Int, y = bx_opvB 31 b sh → ((-2147483648) ≤ y ∧ y ≤ 2147483647) ∧ rxIPUTB_2 S0 ws S b sh nn y ∧ rxmPUTB_2 S0 ws S b sh nn y < rxmPUTB_1 S0 ws S b sh nn := by
  obtain ⟨hw, k, k0, k1, hs, h4, hn, ht⟩ := hinv
  refine ⟨⟨⟨by omega, by omega⟩, show sh = 24 ∨ sh = 16 ∨ sh = 8 ∨ sh = 0 by omega⟩, fun y hy => ⟨?_, ⟨hw, k, k0, k1, hs, h4, hn, ht, hy⟩, by unfold rxmPUTB_1 rxmPUTB_2; omega⟩⟩
  have q := rzSh_b (a := b) k0 k1 hs l8 u8 (o := 31) (by decide)
  omega
theorem rxsPUTB_1 {X : (Nat → Int → Int) → Prop} {S0 : Nat → Int → Int} {ws : List Int} (hP : rxPPUTB S0 ws) : rx_obBB X S0 rxC117.2.2.1 (rxIPUTB S0 ws) (rxmPUTB S0 ws) 1 2 rxzPUTB_1 31 (8, 0) (9, 0) (-2147483648) 2147483647 := by
  intro S r hinv hXS I0 hin hs_ hf_
  have b_ := bx_bds_sat hs_
  have f_ := bx_fcl_ok hs_.1 hf_
  obtain ⟨⟨l8, u8⟩, ⟨l9, u9⟩, ⟨l10, u10⟩, -⟩ := b_
  have g := rxbPUTB_1 hP hin I0 hinv l8 u8 l9 u9 l10 u10
  rw [bx_x_ok hs_.1, bx_x_ok hs_.1]
  refine ⟨g.1, fun r_p hr h0_ hv => ?_⟩
  have g2 := g.2 (r_p 11) hv
  show _ ∧ rxIPUTB_2 S0 ws S (r_p 8) (r_p 9) (r_p 10) (r_p 11) ∧ rxmPUTB_2 S0 ws S (r_p 8) (r_p 9) (r_p 10) (r_p 11) < _
  rw [hr 8 (by decide), hr 9 (by decide), hr 10 (by decide)]
  exact g2
theorem rxbPUTB_3 {S0 : Nat → Int → Int} {ws : List Int} {S : Nat → Int → Int} {b sh nn y : Int} (hP : rxPPUTB S0 ws) (hin : bx_same rxL (bx_mdl rxC117.2.2.1) S0 S) (I0 : bx_Inv rxL S) (hinv : rxIPUTB_3 S0 ws S b sh nn y) (l8 : (-2147483648) ≤ b) (u8 : b ≤ 2147483647) (l9 : 0 ≤ sh) (u9 : sh ≤ 24) (l10 : 0 ≤ nn) (u10 : nn ≤ 399) (l11 : (-2147483648) ≤ y) (u11 : y ≤ 2147483647) : bx_opcB 32 y 255 ∧ ∀ v : Int, v = bx_opvB 32 y 255 → (0 ≤ v ∧ v ≤ 255) ∧ rxIPUTB_4 S0 ws S b sh nn y v ∧ rxmPUTB_4 S0 ws S b sh nn y v < rxmPUTB_3 S0 ws S b sh nn y := by
  obtain ⟨hw, k, k0, k1, hs, h4, hn, ht, hy⟩ := hinv
  refine ⟨⟨⟨by omega, by omega⟩, rfl⟩, fun v hv => ⟨?_, ⟨hw, k, k0, k1, hs, h4, hn, ht, ?_⟩, by unfold rxmPUTB_3 rxmPUTB_4; omega⟩⟩
  · have q : v = y % 256 := hv
    omega
  · rw [hv, hy]
    exact rzBy_sh k0 k1 hs (by decide)
theorem rxsPUTB_3 {X : (Nat → Int → Int) → Prop} {S0 : Nat → Int → Int} {ws : List Int} (hP : rxPPUTB S0 ws) : rx_obBB X S0 rxC117.2.2.1 (rxIPUTB S0 ws) (rxmPUTB S0 ws) 3 4 rxzPUTB_3 32 (11, 0) (0, 255) 0 255 := by
  intro S r hinv hXS I0 hin hs_ hf_
  have b_ := bx_bds_sat hs_
  have f_ := bx_fcl_ok hs_.1 hf_
  obtain ⟨⟨l8, u8⟩, ⟨l9, u9⟩, ⟨l10, u10⟩, ⟨l11, u11⟩, -⟩ := b_
  have g := rxbPUTB_3 hP hin I0 hinv l8 u8 l9 u9 l10 u10 l11 u11
  rw [bx_x_ok hs_.1, bx_x_ok hs_.1]
  refine ⟨g.1, fun r_p hr h0_ hv => ?_⟩
  have g2 := g.2 (r_p 12) hv
  show _ ∧ rxIPUTB_4 S0 ws S (r_p 8) (r_p 9) (r_p 10) (r_p 11) (r_p 12) ∧ rxmPUTB_4 S0 ws S (r_p 8) (r_p 9) (r_p 10) (r_p 11) (r_p 12) < _
  rw [hr 8 (by decide), hr 9 (by decide), hr 10 (by decide), hr 11 (by decide)]
  exact g2
theorem rxbPUTB_5 {S0 : Nat → Int → Int} {ws : List Int} {S : Nat → Int → Int} {b sh x : Int} (hP : rxPPUTB S0 ws) (hin : bx_same rxL (bx_mdl rxC117.2.2.1) S0 S) (I0 : bx_Inv rxL S) (hinv : rxIPUTB_5 S0 ws S b sh x) (l8 : (-2147483648) ≤ b) (u8 : b ≤ 2147483647) (l9 : 0 ≤ sh) (u9 : sh ≤ 24) (l10 : 0 ≤ x) (u10 : x ≤ 400) : bx_opcB 33 x 1 ∧ ∀ n2 : Int, n2 = bx_opvB 33 x 1 → (0 ≤ n2 ∧ n2 ≤ 400) ∧ rxIPUTB_6 S0 ws S b sh x n2 ∧ rxmPUTB_6 S0 ws S b sh x n2 < rxmPUTB_5 S0 ws S b sh x := by
  obtain ⟨hw, k, k0, k1, hs, h4, hn, ht⟩ := hinv
  have hP : S0 0 4 ≤ 396 := hP
  refine ⟨⟨⟨by omega, by omega⟩, show (-2147483648 : Int) ≤ 1 ∧ (1 : Int) ≤ 2147483647 ∧ -2147483648 ≤ x + 1 ∧ x + 1 ≤ 2147483647 by omega⟩, fun n2 hv => ?_⟩
  have hv : n2 = x + 1 := hv
  exact ⟨by omega, ⟨hw, k, k0, k1, hs, h4, by omega, ht⟩, by unfold rxmPUTB_5 rxmPUTB_6; omega⟩
theorem rxsPUTB_5 {X : (Nat → Int → Int) → Prop} {S0 : Nat → Int → Int} {ws : List Int} (hP : rxPPUTB S0 ws) : rx_obBB X S0 rxC117.2.2.1 (rxIPUTB S0 ws) (rxmPUTB S0 ws) 5 6 rxzPUTB_5 33 (10, 0) (0, 1) 0 400 := by
  intro S r hinv hXS I0 hin hs_ hf_
  have b_ := bx_bds_sat hs_
  have f_ := bx_fcl_ok hs_.1 hf_
  obtain ⟨⟨l8, u8⟩, ⟨l9, u9⟩, ⟨l10, u10⟩, -⟩ := b_
  have g := rxbPUTB_5 hP hin I0 hinv l8 u8 l9 u9 l10 u10
  rw [bx_x_ok hs_.1, bx_x_ok hs_.1]
  refine ⟨g.1, fun r_p hr h0_ hv => ?_⟩
  have g2 := g.2 (r_p 11) hv
  show _ ∧ rxIPUTB_6 S0 ws S (r_p 8) (r_p 9) (r_p 10) (r_p 11) ∧ rxmPUTB_6 S0 ws S (r_p 8) (r_p 9) (r_p 10) (r_p 11) < _
  rw [hr 8 (by decide), hr 9 (by decide), hr 10 (by decide)]
  exact g2
theorem rxcPUTB_0_0 {S0 : Nat → Int → Int} {ws : List Int} {S : Nat → Int → Int} {b x9 : Int} (hP : rxPPUTB S0 ws) (hin : bx_same rxL (bx_mdl rxC117.2.2.1) S0 S) (I0 : bx_Inv rxL S) (hinv : rxIPUTB_0 S0 ws S b) (l8 : (-2147483648) ≤ b) (u8 : b ≤ 2147483647) (l9 : 0 ≤ x9) (u9 : x9 ≤ 399) (e0 : S 0 4 = x9) : (True) ∧ (True) ∧ rxIPUTB_1 S0 ws S b 24 x9 ∧ rxmPUTB_1 S0 ws S b 24 x9 < rxmPUTB_0 S0 ws S b := by
  obtain ⟨rfl, hw⟩ := hinv
  have hP : S 0 4 ≤ 396 := hP
  exact ⟨by first | exact trivial | exact ⟨⟨by omega, by omega⟩, trivial⟩ | exact ⟨⟨by omega, by omega⟩, ⟨by omega, by omega⟩, trivial⟩ | exact ⟨⟨by omega, by omega⟩, ⟨by omega, by omega⟩, ⟨by omega, by omega⟩, trivial⟩, trivial, ⟨hw, 0, by omega, by omega, by omega, by omega, by omega, fun i i0 i1 => rzQ_0.symm⟩, by unfold rxmPUTB_0 rxmPUTB_1; omega⟩
theorem rxgPUTB_0_0 {X : (Nat → Int → Int) → Prop} {S0 : Nat → Int → Int} {ws : List Int} (hP : rxPPUTB S0 ws) : bx_obC rxL X S0 rxC117.2.2.1 (rxIPUTB S0 ws) (rxmPUTB S0 ws) 0 rxzPUTB_0 rxoPUTB_0_0 := by
  intro S S_p r r_p hinv hX hin hsm_ hseg
  obtain ⟨I0, I1, h0_, hr_, b_, f_, d_⟩ := bx_cl (evs := [(0, (0, 0), (0, 4), .inr (0, (9, 0)))]) (fvs := []) hseg (by decide +kernel) (by decide +kernel)
  have hinv : rxIPUTB_0 S0 ws S (r 8) := hinv
  rw [← hr_ 8 (by decide)] at hinv
  obtain ⟨⟨l8, u8⟩, ⟨l9, u9⟩, -⟩ := b_
  obtain ⟨e0, w_⟩ := d_
  subst w_
  have g := rxcPUTB_0_0 hP hin I0 hinv l8 u8 l9 u9 e0
  refine ⟨bx_narP_ok (l := []) g.1, bx_nfP_ok h0_ (fvs := []) (by decide +kernel) g.2.1, ?_, ?_⟩
  · show rxIPUTB_1 S0 ws S_p (bx_val [(0, 0), (0, 0), (0, 0), (0, 0), (0, 0), (0, 0), (0, 0), (0, 0), (8, 0), (0, 24), (9, 0)] r_p 8) (bx_val [(0, 0), (0, 0), (0, 0), (0, 0), (0, 0), (0, 0), (0, 0), (0, 0), (8, 0), (0, 24), (9, 0)] r_p 9) (bx_val [(0, 0), (0, 0), (0, 0), (0, 0), (0, 0), (0, 0), (0, 0), (0, 0), (8, 0), (0, 24), (9, 0)] r_p 10)
    rw [bx_val_x (n := 8) (e := (8, 0)) h0_ rfl, bx_val_x (n := 9) (e := (0, 24)) h0_ rfl, bx_val_x (n := 10) (e := (9, 0)) h0_ rfl]
    exact g.2.2.1
  · show rxmPUTB_1 S0 ws S_p (bx_val [(0, 0), (0, 0), (0, 0), (0, 0), (0, 0), (0, 0), (0, 0), (0, 0), (8, 0), (0, 24), (9, 0)] r_p 8) (bx_val [(0, 0), (0, 0), (0, 0), (0, 0), (0, 0), (0, 0), (0, 0), (0, 0), (8, 0), (0, 24), (9, 0)] r_p 9) (bx_val [(0, 0), (0, 0), (0, 0), (0, 0), (0, 0), (0, 0), (0, 0), (0, 0), (8, 0), (0, 24), (9, 0)] r_p 10) < rxmPUTB_0 S0 ws S_p (r 8)
    rw [bx_val_x (n := 8) (e := (8, 0)) h0_ rfl, bx_val_x (n := 9) (e := (0, 24)) h0_ rfl, bx_val_x (n := 10) (e := (9, 0)) h0_ rfl, ← hr_ 8 (by decide)]
    exact g.2.2.2
theorem rxdPUTB_0_0 {S0 : Nat → Int → Int} {ws : List Int} {S : Nat → Int → Int} {b x9 : Int} (hP : rxPPUTB S0 ws) (hin : bx_same rxL (bx_mdl rxC117.2.2.1) S0 S) (hin2 : bx_same rxL (bx_mdl rxC117.2.2.1) S S) (I0 : bx_Inv rxL S) (I1 : bx_Inv rxL S) (hinv : rxIPUTB_0 S0 ws S b) (l8 : (-2147483648) ≤ b) (u8 : b ≤ 2147483647) (l9 : 400 ≤ x9) (u9 : x9 ≤ 400) (e0 : S 0 4 = x9) : (True) ∧ rxPSPUTB S0 ws S none := by
  obtain ⟨rfl, hw⟩ := hinv
  have hP : S 0 4 ≤ 396 := hP
  exfalso
  omega
theorem rxfPUTB_0_0 {X : (Nat → Int → Int) → Prop} {S0 : Nat → Int → Int} {ws : List Int} (hP : rxPPUTB S0 ws) : bx_obE rxL X S0 rxC117.2.2.1 (rxIPUTB S0 ws) (rxPSPUTB S0 ws) 0 rxzPUTB_0 rxePUTB_0_0 := by
  intro S S_p r r_p hinv hX hin hsm_ hseg
  obtain ⟨I0, I1, h0_, hr_, b_, f_, d_⟩ := bx_cl (evs := [(0, (0, 0), (0, 4), .inr (0, (9, 0)))]) (fvs := []) hseg (by decide +kernel) (by decide +kernel)
  have hinv : rxIPUTB_0 S0 ws S (r 8) := hinv
  rw [← hr_ 8 (by decide)] at hinv
  obtain ⟨⟨l8, u8⟩, ⟨l9, u9⟩, -⟩ := b_
  obtain ⟨e0, w_⟩ := d_
  subst w_
  have g := rxdPUTB_0_0 hP hin hsm_ I0 I1 hinv l8 u8 l9 u9 e0
  refine ⟨bx_narP_ok (l := []) g.1, ?_⟩
  exact g.2
theorem rxcPUTB_2_0 {S0 : Nat → Int → Int} {ws : List Int} {S : Nat → Int → Int} {b sh nn y : Int} (hP : rxPPUTB S0 ws) (hin : bx_same rxL (bx_mdl rxC117.2.2.1) S0 S) (I0 : bx_Inv rxL S) (hinv : rxIPUTB_2 S0 ws S b sh nn y) (l8 : (-2147483648) ≤ b) (u8 : b ≤ 2147483647) (l9 : 0 ≤ sh) (u9 : sh ≤ 24) (l10 : 0 ≤ nn) (u10 : nn ≤ 399) (l11 : (-2147483648) ≤ y) (u11 : y ≤ 2147483647) : (True) ∧ (True) ∧ rxIPUTB_3 S0 ws S b sh nn y ∧ rxmPUTB_3 S0 ws S b sh nn y < rxmPUTB_2 S0 ws S b sh nn y := by
  exact ⟨by first | exact trivial | exact ⟨⟨by omega, by omega⟩, trivial⟩ | exact ⟨⟨by omega, by omega⟩, ⟨by omega, by omega⟩, trivial⟩ | exact ⟨⟨by omega, by omega⟩, ⟨by omega, by omega⟩, ⟨by omega, by omega⟩, trivial⟩, trivial, hinv, by unfold rxmPUTB_2 rxmPUTB_3; omega⟩
theorem rxgPUTB_2_0 {X : (Nat → Int → Int) → Prop} {S0 : Nat → Int → Int} {ws : List Int} (hP : rxPPUTB S0 ws) : bx_obC rxL X S0 rxC117.2.2.1 (rxIPUTB S0 ws) (rxmPUTB S0 ws) 2 rxzPUTB_2 rxoPUTB_2_0 := by
  intro S S_p r r_p hinv hX hin hsm_ hseg
  obtain ⟨I0, I1, h0_, hr_, b_, f_, d_⟩ := bx_cl (evs := []) (fvs := []) hseg (by decide +kernel) (by decide +kernel)
  have hinv : rxIPUTB_2 S0 ws S (r 8) (r 9) (r 10) (r 11) := hinv
  rw [← hr_ 8 (by decide), ← hr_ 9 (by decide), ← hr_ 10 (by decide), ← hr_ 11 (by decide)] at hinv
  obtain ⟨⟨l8, u8⟩, ⟨l9, u9⟩, ⟨l10, u10⟩, ⟨l11, u11⟩, -⟩ := b_
  have w_ := d_
  subst w_
  have g := rxcPUTB_2_0 hP hin I0 hinv l8 u8 l9 u9 l10 u10 l11 u11
  refine ⟨bx_narP_ok (l := []) g.1, bx_nfP_ok h0_ (fvs := []) (by decide +kernel) g.2.1, ?_, ?_⟩
  · show rxIPUTB_3 S0 ws S_p (bx_val [(0, 0), (0, 0), (0, 0), (0, 0), (0, 0), (0, 0), (0, 0), (0, 0), (8, 0), (9, 0), (10, 0), (11, 0)] r_p 8) (bx_val [(0, 0), (0, 0), (0, 0), (0, 0), (0, 0), (0, 0), (0, 0), (0, 0), (8, 0), (9, 0), (10, 0), (11, 0)] r_p 9) (bx_val [(0, 0), (0, 0), (0, 0), (0, 0), (0, 0), (0, 0), (0, 0), (0, 0), (8, 0), (9, 0), (10, 0), (11, 0)] r_p 10) (bx_val [(0, 0), (0, 0), (0, 0), (0, 0), (0, 0), (0, 0), (0, 0), (0, 0), (8, 0), (9, 0), (10, 0), (11, 0)] r_p 11)
    rw [bx_val_x (n := 8) (e := (8, 0)) h0_ rfl, bx_val_x (n := 9) (e := (9, 0)) h0_ rfl, bx_val_x (n := 10) (e := (10, 0)) h0_ rfl, bx_val_x (n := 11) (e := (11, 0)) h0_ rfl]
    exact g.2.2.1
  · show rxmPUTB_3 S0 ws S_p (bx_val [(0, 0), (0, 0), (0, 0), (0, 0), (0, 0), (0, 0), (0, 0), (0, 0), (8, 0), (9, 0), (10, 0), (11, 0)] r_p 8) (bx_val [(0, 0), (0, 0), (0, 0), (0, 0), (0, 0), (0, 0), (0, 0), (0, 0), (8, 0), (9, 0), (10, 0), (11, 0)] r_p 9) (bx_val [(0, 0), (0, 0), (0, 0), (0, 0), (0, 0), (0, 0), (0, 0), (0, 0), (8, 0), (9, 0), (10, 0), (11, 0)] r_p 10) (bx_val [(0, 0), (0, 0), (0, 0), (0, 0), (0, 0), (0, 0), (0, 0), (0, 0), (8, 0), (9, 0), (10, 0), (11, 0)] r_p 11) < rxmPUTB_2 S0 ws S_p (r 8) (r 9) (r 10) (r 11)
    rw [bx_val_x (n := 8) (e := (8, 0)) h0_ rfl, bx_val_x (n := 9) (e := (9, 0)) h0_ rfl, bx_val_x (n := 10) (e := (10, 0)) h0_ rfl, bx_val_x (n := 11) (e := (11, 0)) h0_ rfl, ← hr_ 8 (by decide), ← hr_ 9 (by decide), ← hr_ 10 (by decide), ← hr_ 11 (by decide)]
    exact g.2.2.2
theorem rxcPUTB_4_0 {S0 : Nat → Int → Int} {ws : List Int} {S : Nat → Int → Int} {b sh nn y v x13 : Int} (hP : rxPPUTB S0 ws) (hin : bx_same rxL (bx_mdl rxC117.2.2.1) S0 S) (I0 : bx_Inv rxL S) (hinv : rxIPUTB_4 S0 ws S b sh nn y v) (l8 : (-2147483648) ≤ b) (u8 : b ≤ 2147483647) (l9 : 0 ≤ sh) (u9 : sh ≤ 24) (l10 : 0 ≤ nn) (u10 : nn ≤ 399) (l11 : (-2147483648) ≤ y) (u11 : y ≤ 2147483647) (l12 : 0 ≤ v) (u12 : v ≤ 255) (l13 : 0 ≤ x13) (u13 : x13 ≤ 400) (e0 : (bx_up S 411 nn v) 0 4 = x13) : (True) ∧ (True) ∧ rxIPUTB_5 S0 ws (bx_up S 411 nn v) b sh x13 ∧ rxmPUTB_5 S0 ws (bx_up S 411 nn v) b sh x13 < rxmPUTB_4 S0 ws S b sh nn y v := by
  obtain ⟨hw, k, k0, k1, hs, h4, hn, ht, hv⟩ := hinv
  refine ⟨by first | exact trivial | exact ⟨⟨by omega, by omega⟩, trivial⟩ | exact ⟨⟨by omega, by omega⟩, ⟨by omega, by omega⟩, trivial⟩ | exact ⟨⟨by omega, by omega⟩, ⟨by omega, by omega⟩, ⟨by omega, by omega⟩, trivial⟩, trivial, ⟨hw, k, k0, k1, hs, (bx_up_ne (by omega)).trans h4, ?_, fun i i0 i1 => ?_⟩, by unfold rxmPUTB_4 rxmPUTB_5; omega⟩
  · have e := e0
    rw [bx_up_ne (by omega)] at e
    omega
  · by_cases hi : i = nn
    · subst hi
      exact bx_up_at.trans (hv.trans (rzQ_n rfl (by omega) k0).symm)
    · exact (bx_up_ne (by omega)).trans ((ht i i0 i1).trans (rzQ_s rfl (by omega)).symm)
theorem rxgPUTB_4_0 {X : (Nat → Int → Int) → Prop} {S0 : Nat → Int → Int} {ws : List Int} (hP : rxPPUTB S0 ws) : bx_obC rxL X S0 rxC117.2.2.1 (rxIPUTB S0 ws) (rxmPUTB S0 ws) 4 rxzPUTB_4 rxoPUTB_4_0 := by
  intro S S_p r r_p hinv hX hin hsm_ hseg
  obtain ⟨I0, I1, h0_, hr_, b_, f_, d_⟩ := bx_cl (evs := [(0, (0, 0), (0, 4), .inr (0, (13, 0))), (1, (0, 411), (10, 0), .inr (0, (12, 0)))]) (fvs := []) hseg (by decide +kernel) (by decide +kernel)
  have hinv : rxIPUTB_4 S0 ws S (r 8) (r 9) (r 10) (r 11) (r 12) := hinv
  rw [← hr_ 8 (by decide), ← hr_ 9 (by decide), ← hr_ 10 (by decide), ← hr_ 11 (by decide), ← hr_ 12 (by decide)] at hinv
  obtain ⟨⟨l8, u8⟩, ⟨l9, u9⟩, ⟨l10, u10⟩, ⟨l11, u11⟩, ⟨l12, u12⟩, ⟨l13, u13⟩, -⟩ := b_
  obtain ⟨e0, ⟨T1, w_, w1⟩⟩ := d_
  subst w1
  subst w_
  have g := rxcPUTB_4_0 hP hin I0 hinv l8 u8 l9 u9 l10 u10 l11 u11 l12 u12 l13 u13 e0
  refine ⟨bx_narP_ok (l := []) g.1, bx_nfP_ok h0_ (fvs := []) (by decide +kernel) g.2.1, ?_, ?_⟩
  · show rxIPUTB_5 S0 ws (bx_up T1 411 (r_p 10) (r_p 12)) (bx_val [(0, 0), (0, 0), (0, 0), (0, 0), (0, 0), (0, 0), (0, 0), (0, 0), (8, 0), (9, 0), (13, 0)] r_p 8) (bx_val [(0, 0), (0, 0), (0, 0), (0, 0), (0, 0), (0, 0), (0, 0), (0, 0), (8, 0), (9, 0), (13, 0)] r_p 9) (bx_val [(0, 0), (0, 0), (0, 0), (0, 0), (0, 0), (0, 0), (0, 0), (0, 0), (8, 0), (9, 0), (13, 0)] r_p 10)
    rw [bx_val_x (n := 8) (e := (8, 0)) h0_ rfl, bx_val_x (n := 9) (e := (9, 0)) h0_ rfl, bx_val_x (n := 10) (e := (13, 0)) h0_ rfl]
    exact g.2.2.1
  · show rxmPUTB_5 S0 ws (bx_up T1 411 (r_p 10) (r_p 12)) (bx_val [(0, 0), (0, 0), (0, 0), (0, 0), (0, 0), (0, 0), (0, 0), (0, 0), (8, 0), (9, 0), (13, 0)] r_p 8) (bx_val [(0, 0), (0, 0), (0, 0), (0, 0), (0, 0), (0, 0), (0, 0), (0, 0), (8, 0), (9, 0), (13, 0)] r_p 9) (bx_val [(0, 0), (0, 0), (0, 0), (0, 0), (0, 0), (0, 0), (0, 0), (0, 0), (8, 0), (9, 0), (13, 0)] r_p 10) < rxmPUTB_4 S0 ws T1 (r 8) (r 9) (r 10) (r 11) (r 12)
    rw [bx_val_x (n := 8) (e := (8, 0)) h0_ rfl, bx_val_x (n := 9) (e := (9, 0)) h0_ rfl, bx_val_x (n := 10) (e := (13, 0)) h0_ rfl, ← hr_ 8 (by decide), ← hr_ 9 (by decide), ← hr_ 10 (by decide), ← hr_ 11 (by decide), ← hr_ 12 (by decide)]
    exact g.2.2.2
theorem rxcPUTB_6_0 {S0 : Nat → Int → Int} {ws : List Int} {S : Nat → Int → Int} {b sh x n2 : Int} (hP : rxPPUTB S0 ws) (hin : bx_same rxL (bx_mdl rxC117.2.2.1) S0 S) (I0 : bx_Inv rxL S) (hinv : rxIPUTB_6 S0 ws S b sh x n2) (l8 : (-2147483648) ≤ b) (u8 : b ≤ 2147483647) (l9 : 8 ≤ sh) (u9 : sh ≤ 24) (l10 : 0 ≤ x) (u10 : x ≤ 400) (l11 : 0 ≤ n2) (u11 : n2 ≤ 399) : (True) ∧ (True) ∧ rxIPUTB_1 S0 ws (bx_up S 0 4 n2) b (sh + (-8)) n2 ∧ rxmPUTB_1 S0 ws (bx_up S 0 4 n2) b (sh + (-8)) n2 < rxmPUTB_6 S0 ws S b sh x n2 := by
  obtain ⟨hw, k, k0, k1, hs, h4, hn, ht⟩ := hinv
  have hP : S0 0 4 ≤ 396 := hP
  exact ⟨by first | exact trivial | exact ⟨⟨by omega, by omega⟩, trivial⟩ | exact ⟨⟨by omega, by omega⟩, ⟨by omega, by omega⟩, trivial⟩ | exact ⟨⟨by omega, by omega⟩, ⟨by omega, by omega⟩, ⟨by omega, by omega⟩, trivial⟩, trivial, ⟨hw, k + 1, by omega, by omega, by omega, bx_up_at.trans (by omega), by omega, fun i i0 i1 => (bx_up_ne (by omega)).trans (ht i i0 i1)⟩, by unfold rxmPUTB_6 rxmPUTB_1; omega⟩
theorem rxgPUTB_6_0 {X : (Nat → Int → Int) → Prop} {S0 : Nat → Int → Int} {ws : List Int} (hP : rxPPUTB S0 ws) : bx_obC rxL X S0 rxC117.2.2.1 (rxIPUTB S0 ws) (rxmPUTB S0 ws) 6 rxzPUTB_6 rxoPUTB_6_0 := by
  intro S S_p r r_p hinv hX hin hsm_ hseg
  obtain ⟨I0, I1, h0_, hr_, b_, f_, d_⟩ := bx_cl (evs := [(1, (0, 0), (0, 4), .inr (0, (11, 0)))]) (fvs := []) hseg (by decide +kernel) (by decide +kernel)
  have hinv : rxIPUTB_6 S0 ws S (r 8) (r 9) (r 10) (r 11) := hinv
  rw [← hr_ 8 (by decide), ← hr_ 9 (by decide), ← hr_ 10 (by decide), ← hr_ 11 (by decide)] at hinv
  obtain ⟨⟨l8, u8⟩, ⟨l9, u9⟩, ⟨l10, u10⟩, ⟨l11, u11⟩, -⟩ := b_
  obtain ⟨T0, w_, w0⟩ := d_
  subst w0
  subst w_
  have g := rxcPUTB_6_0 hP hin I0 hinv l8 u8 l9 u9 l10 u10 l11 u11
  refine ⟨bx_narP_ok (l := []) g.1, bx_nfP_ok h0_ (fvs := []) (by decide +kernel) g.2.1, ?_, ?_⟩
  · show rxIPUTB_1 S0 ws (bx_up T0 0 (4) (r_p 11)) (bx_val [(0, 0), (0, 0), (0, 0), (0, 0), (0, 0), (0, 0), (0, 0), (0, 0), (8, 0), (9, (-8)), (11, 0)] r_p 8) (bx_val [(0, 0), (0, 0), (0, 0), (0, 0), (0, 0), (0, 0), (0, 0), (0, 0), (8, 0), (9, (-8)), (11, 0)] r_p 9) (bx_val [(0, 0), (0, 0), (0, 0), (0, 0), (0, 0), (0, 0), (0, 0), (0, 0), (8, 0), (9, (-8)), (11, 0)] r_p 10)
    rw [bx_val_x (n := 8) (e := (8, 0)) h0_ rfl, bx_val_x (n := 9) (e := (9, (-8))) h0_ rfl, bx_val_x (n := 10) (e := (11, 0)) h0_ rfl]
    exact g.2.2.1
  · show rxmPUTB_1 S0 ws (bx_up T0 0 (4) (r_p 11)) (bx_val [(0, 0), (0, 0), (0, 0), (0, 0), (0, 0), (0, 0), (0, 0), (0, 0), (8, 0), (9, (-8)), (11, 0)] r_p 8) (bx_val [(0, 0), (0, 0), (0, 0), (0, 0), (0, 0), (0, 0), (0, 0), (0, 0), (8, 0), (9, (-8)), (11, 0)] r_p 9) (bx_val [(0, 0), (0, 0), (0, 0), (0, 0), (0, 0), (0, 0), (0, 0), (0, 0), (8, 0), (9, (-8)), (11, 0)] r_p 10) < rxmPUTB_6 S0 ws T0 (r 8) (r 9) (r 10) (r 11)
    rw [bx_val_x (n := 8) (e := (8, 0)) h0_ rfl, bx_val_x (n := 9) (e := (9, (-8))) h0_ rfl, bx_val_x (n := 10) (e := (11, 0)) h0_ rfl, ← hr_ 8 (by decide), ← hr_ 9 (by decide), ← hr_ 10 (by decide), ← hr_ 11 (by decide)]
    exact g.2.2.2
theorem rxdPUTB_6_0 {S0 : Nat → Int → Int} {ws : List Int} {S : Nat → Int → Int} {b sh x n2 : Int} (hP : rxPPUTB S0 ws) (hin : bx_same rxL (bx_mdl rxC117.2.2.1) S0 S) (hin2 : bx_same rxL (bx_mdl rxC117.2.2.1) S (bx_up S 0 4 n2)) (I0 : bx_Inv rxL S) (I1 : bx_Inv rxL (bx_up S 0 4 n2)) (hinv : rxIPUTB_6 S0 ws S b sh x n2) (l8 : (-2147483648) ≤ b) (u8 : b ≤ 2147483647) (l9 : 8 ≤ sh) (u9 : sh ≤ 24) (l10 : 0 ≤ x) (u10 : x ≤ 400) (l11 : 400 ≤ n2) (u11 : n2 ≤ 400) : (True) ∧ rxPSPUTB S0 ws (bx_up S 0 4 n2) none := by
  obtain ⟨hw, k, k0, k1, hs, h4, hn, ht⟩ := hinv
  have hP : S0 0 4 ≤ 396 := hP
  obtain rfl : k = 3 := by omega
  exact ⟨trivial, rfl, b, hw, bx_up_at.trans (by omega), fun i i0 i1 => (bx_up_ne (by omega)).trans (ht i i0 i1)⟩
theorem rxfPUTB_6_0 {X : (Nat → Int → Int) → Prop} {S0 : Nat → Int → Int} {ws : List Int} (hP : rxPPUTB S0 ws) : bx_obE rxL X S0 rxC117.2.2.1 (rxIPUTB S0 ws) (rxPSPUTB S0 ws) 6 rxzPUTB_6 rxePUTB_6_0 := by
  intro S S_p r r_p hinv hX hin hsm_ hseg
  obtain ⟨I0, I1, h0_, hr_, b_, f_, d_⟩ := bx_cl (evs := [(1, (0, 0), (0, 4), .inr (0, (11, 0)))]) (fvs := []) hseg (by decide +kernel) (by decide +kernel)
  have hinv : rxIPUTB_6 S0 ws S (r 8) (r 9) (r 10) (r 11) := hinv
  rw [← hr_ 8 (by decide), ← hr_ 9 (by decide), ← hr_ 10 (by decide), ← hr_ 11 (by decide)] at hinv
  obtain ⟨⟨l8, u8⟩, ⟨l9, u9⟩, ⟨l10, u10⟩, ⟨l11, u11⟩, -⟩ := b_
  obtain ⟨T0, w_, w0⟩ := d_
  subst w0
  subst w_
  have g := rxdPUTB_6_0 hP hin hsm_ I0 I1 hinv l8 u8 l9 u9 l10 u10 l11 u11
  refine ⟨bx_narP_ok (l := []) g.1, ?_⟩
  exact g.2
theorem rxdPUTB_6_1 {S0 : Nat → Int → Int} {ws : List Int} {S : Nat → Int → Int} {b sh x n2 : Int} (hP : rxPPUTB S0 ws) (hin : bx_same rxL (bx_mdl rxC117.2.2.1) S0 S) (hin2 : bx_same rxL (bx_mdl rxC117.2.2.1) S (bx_up S 0 4 n2)) (I0 : bx_Inv rxL S) (I1 : bx_Inv rxL (bx_up S 0 4 n2)) (hinv : rxIPUTB_6 S0 ws S b sh x n2) (l8 : (-2147483648) ≤ b) (u8 : b ≤ 2147483647) (l9 : 0 ≤ sh) (u9 : sh ≤ 7) (l10 : 0 ≤ x) (u10 : x ≤ 400) (l11 : 0 ≤ n2) (u11 : n2 ≤ 400) : (True) ∧ rxPSPUTB S0 ws (bx_up S 0 4 n2) none := by
  obtain ⟨hw, k, k0, k1, hs, h4, hn, ht⟩ := hinv
  have hP : S0 0 4 ≤ 396 := hP
  obtain rfl : k = 3 := by omega
  exact ⟨trivial, rfl, b, hw, bx_up_at.trans (by omega), fun i i0 i1 => (bx_up_ne (by omega)).trans (ht i i0 i1)⟩
theorem rxfPUTB_6_1 {X : (Nat → Int → Int) → Prop} {S0 : Nat → Int → Int} {ws : List Int} (hP : rxPPUTB S0 ws) : bx_obE rxL X S0 rxC117.2.2.1 (rxIPUTB S0 ws) (rxPSPUTB S0 ws) 6 rxzPUTB_6 rxePUTB_6_1 := by
  intro S S_p r r_p hinv hX hin hsm_ hseg
  obtain ⟨I0, I1, h0_, hr_, b_, f_, d_⟩ := bx_cl (evs := [(1, (0, 0), (0, 4), .inr (0, (11, 0)))]) (fvs := []) hseg (by decide +kernel) (by decide +kernel)
  have hinv : rxIPUTB_6 S0 ws S (r 8) (r 9) (r 10) (r 11) := hinv
  rw [← hr_ 8 (by decide), ← hr_ 9 (by decide), ← hr_ 10 (by decide), ← hr_ 11 (by decide)] at hinv
  obtain ⟨⟨l8, u8⟩, ⟨l9, u9⟩, ⟨l10, u10⟩, ⟨l11, u11⟩, -⟩ := b_
  obtain ⟨T0, w_, w0⟩ := d_
  subst w0
  subst w_
  have g := rxdPUTB_6_1 hP hin hsm_ I0 I1 hinv l8 u8 l9 u9 l10 u10 l11 u11
  refine ⟨bx_narP_ok (l := []) g.1, ?_⟩
  exact g.2
theorem rxgCPUTB {X : (Nat → Int → Int) → Prop} {S0 : Nat → Int → Int} {ws : List Int} (hP : rxPPUTB S0 ws) : bx_allI (fun i q => rxUPUTB q = true ∨ bx_allP (fun o => bx_obC rxL X S0 rxC117.2.2.1 (rxIPUTB S0 ws) (rxmPUTB S0 ws) i q.1 o) q.2.1) 0 rxYPUTB := ⟨Or.inr ⟨rxgPUTB_0_0 hP, trivial⟩, Or.inl rfl, Or.inr ⟨rxgPUTB_2_0 hP, trivial⟩, Or.inl rfl, Or.inr ⟨rxgPUTB_4_0 hP, trivial⟩, Or.inl rfl, Or.inr ⟨rxgPUTB_6_0 hP, trivial⟩, trivial⟩
theorem rxgEPUTB {X : (Nat → Int → Int) → Prop} {S0 : Nat → Int → Int} {ws : List Int} (hP : rxPPUTB S0 ws) : bx_allI (fun i q => rxUPUTB q = true ∨ bx_allP (fun E => bx_obE rxL X S0 rxC117.2.2.1 (rxIPUTB S0 ws) (rxPSPUTB S0 ws) i q.1 E) q.2.2) 0 rxYPUTB := ⟨Or.inr ⟨rxfPUTB_0_0 hP, trivial⟩, Or.inl rfl, Or.inr trivial, Or.inl rfl, Or.inr trivial, Or.inl rfl, Or.inr ⟨rxfPUTB_6_0 hP, rxfPUTB_6_1 hP, trivial⟩, trivial⟩
theorem rxuPUTB {PX : State → Prop} {Dg : va_G} {A : Nat → Prop} {ad xa : Nat → Nat} {l : Launch} {X : (Nat → Int → Int) → Prop} (hPX : rx_PXOK rxNW A PX) (hX : ∀ S S1 : Nat → Int → Int, X S → bx_same rxL (bx_mdl rxC117.2.2.1) S S1 → X S1) {S0 : Nat → Int → Int} {ws : List Int} (hP : rxPPUTB S0 ws) : ∀ (i : Nat) (q : bx_HE), rxYPUTB[i]? = some q → rxUPUTB q = true → ∀ {p : Program} {e : Env} {R : Room} {s : State} {m : MethodId} {args : Array Value} {below : List Frame} {meth : Method} {c : Code} {Q : State → Prop} {H0 : Heap}, rx_Fr rxG rxNW rxAO PX p s m args meth c rxM117 → (∀ q, H0.size ≤ q → A q) → H0 = s.heap → rxM117.2.2.2.2.2.2.1 ≤ R.cells → rxM117.2.2.2.2.2.2.2 ≤ R.slots → rxC117.2.2.2.1 ≤ R.frames → rxC117.2.2.2.1 * 40 ≤ R.locals → bx_Step p l e R s m args below meth c Q Dg rxL X vwCl A xa H0 ad rxM117 rxYPUTB (rxIPUTB S0 ws) (rxmPUTB S0 ws) S0 rxC117.2.2.1 i q := by
  intro i q hq hus p e R s m args below meth c Q H0 hF hA hH0 hmc hms hd hdl
  match i, hq with
  | 0, hq =>
    cases hq
    exact absurd (show false = true from hus) Bool.false_ne_true
  | 1, hq =>
    cases hq
    exact rx_stepBB (i_p := 2) (o := 31) (a := (8, 0)) (b := (9, 0)) (lo := (-2147483648)) (hi := 2147483647) (t := [.inr (0, (10, 0)), .inr (3, (0, 411))]) hF (Or.inr (Or.inl ⟨rfl, rfl⟩)) (by decide +kernel) rfl rfl rfl rfl (rxsPUTB_1 hP)
  | 2, hq =>
    cases hq
    exact absurd (show false = true from hus) Bool.false_ne_true
  | 3, hq =>
    cases hq
    exact rx_stepBB (i_p := 4) (o := 32) (a := (11, 0)) (b := (0, 255)) (lo := 0) (hi := 255) (t := [.inr (0, (10, 0)), .inr (3, (0, 411))]) hF (Or.inr (Or.inr (Or.inl ⟨rfl, rfl⟩))) (by decide +kernel) rfl rfl rfl rfl (rxsPUTB_3 hP)
  | 4, hq =>
    cases hq
    exact absurd (show false = true from hus) Bool.false_ne_true
  | 5, hq =>
    cases hq
    exact rx_stepBB (i_p := 6) (o := 33) (a := (10, 0)) (b := (0, 1)) (lo := 0) (hi := 400) (t := [.inr (3, (0, 0))]) hF (Or.inr (Or.inr (Or.inr (Or.inl ⟨rfl, rfl⟩)))) (by decide +kernel) rfl rfl rfl rfl (rxsPUTB_5 hP)
  | 6, hq =>
    cases hq
    exact absurd (show false = true from hus) Bool.false_ne_true
  | n + 7, hq => cases hq
theorem rxQPUTB {PX : State → Prop} {Dg : va_G} {A : Nat → Prop} {ad xa : Nat → Nat} {l : Launch} {X : (Nat → Int → Int) → Prop} (hPX : rx_PXOK rxNW A PX) (hsl : ∀ s : State, PX s → ∀ o idx n : Nat, rxSl o idx = some n → ∃ tx : String, vk_R (rxNm o) idx tx (ad n) s)
    (hX : ∀ S S_p : Nat → Int → Int, X S → bx_same rxL (bx_mdl rxC117.2.2.1) S S_p → X S_p)
    (ih : ∀ (j2 : Nat) (ct2 : bx_Ct) (M2 : rx_Mt), ct2 ∈ rxCnE j2 → ct2.2.2.2.1 + 1 ≤ rxC117.2.2.2.1 → rxT.2.2.2.2.2 j2 = some M2 → bx_Con rxG rxNW rxAO PX Dg rxL X vwCl A ad l M2 ct2) : bx_ConP rxG rxNW rxAO PX Dg rxL X vwCl A ad l rxM117 rxC117 rxPPUTB rxPSPUTB :=
  rxQof (xa := xa) (Cn := rxCnE) (f := 30000) (j := 117) (tab := rxYPUTB) (us := rxUPUTB) hPX hsl hX ih rfl rxYcPUTB rxIPUTB rxmPUTB
    (fun S0 ws r I0 I ht0 ht as he he1 hX0 hI0 hP hs ha => by
      have e := he.symm.trans (show bx_ent0 rxNP rxC117.1 bx_I0 [] = some ([(0, 0), (0, 0), (0, 0), (0, 0), (0, 0), (0, 0), (0, 0), (0, 0), ((-2147483648), 2147483647)], [], [.inr (3, (0, 0)), .inr (0, (8, 0))]) from rfl)
      cases e
      subst ha
      have h0 : r 0 = 0 := hs.1
      show rxIPUTB_0 S0 _ S0 (r 8)
      refine ⟨rfl, ?_⟩
      simp only [List.map_cons, List.map_nil, bx_xv_ok h0]
      rfl)
    (fun S0 ws hP => rxuPUTB (xa := xa) hPX hX hP) (fun S0 ws hP => rxgCPUTB hP) (fun S0 ws hP => rxgEPUTB hP)
noncomputable def rxIFEDB_0 (S0 : Nat → Int → Int) (ws : List Int) (S : Nat → Int → Int) (b1 b2 b3 b4 b5 : Int) : Prop := S = S0 ∧ ws = [0, b1, b2, b3, b4, b5]
noncomputable def rxmFEDB_0 (S0 : Nat → Int → Int) (ws : List Int) (S : Nat → Int → Int) (b1 b2 b3 b4 b5 : Int) : Nat := 100
noncomputable def rxzFEDB_0 : rx_Z := ([(0, 0), (0, 0), (0, 0), (0, 0), (0, 0), (0, 0), (0, 0), (0, 0), ((-2147483648), 2147483647), ((-2147483648), 2147483647), ((-2147483648), 2147483647), ((-2147483648), 2147483647), ((-2147483648), 2147483647)], [], [], 0, 0, 0, [(0, .inr (3, (0, 0))), (1, .inr (0, (8, 0))), (2, .inr (0, (9, 0))), (3, .inr (0, (10, 0))), (4, .inr (0, (11, 0))), (5, .inr (0, (12, 0)))], [])
noncomputable def rxIFEDB_1 (S0 : Nat → Int → Int) (ws : List Int) (S : Nat → Int → Int) (b1 b2 b3 b4 b5 : Int) : Prop := S0 0 4 ≤ 380 ∧ ws = [0, b1, b2, b3, b4, b5] ∧ S 0 4 = S0 0 4 + 0 ∧ ∀ i : Int, 0 ≤ i → i < 400 → S 411 i = S0 411 i
noncomputable def rxmFEDB_1 (S0 : Nat → Int → Int) (ws : List Int) (S : Nat → Int → Int) (b1 b2 b3 b4 b5 : Int) : Nat := 90
noncomputable def rxzFEDB_1 : rx_Z := ([(0, 0), (0, 0), (0, 0), (0, 0), (0, 0), (0, 0), (0, 0), (0, 0), ((-2147483648), 2147483647), ((-2147483648), 2147483647), ((-2147483648), 2147483647), ((-2147483648), 2147483647), ((-2147483648), 2147483647)], [], [], 0, 0, 14, [(0, .inr (3, (0, 0))), (1, .inr (0, (8, 0))), (2, .inr (0, (9, 0))), (3, .inr (0, (10, 0))), (4, .inr (0, (11, 0))), (5, .inr (0, (12, 0)))], [.inr (0, (8, 0)), .inr (3, (0, 0))])
noncomputable def rxIFEDB_2 (S0 : Nat → Int → Int) (ws : List Int) (S : Nat → Int → Int) (b1 b2 b3 b4 b5 : Int) : Prop := S0 0 4 ≤ 380 ∧ ws = [0, b1, b2, b3, b4, b5] ∧ S 0 4 = S0 0 4 + 4 ∧ ∀ i : Int, 0 ≤ i → i < 400 → S 411 i = rzQ 4 (S0 0 4 + 0) b1 (S0 411 i) i
noncomputable def rxmFEDB_2 (S0 : Nat → Int → Int) (ws : List Int) (S : Nat → Int → Int) (b1 b2 b3 b4 b5 : Int) : Nat := 85
noncomputable def rxzFEDB_2 : rx_Z := ([(0, 0), (0, 0), (0, 0), (0, 0), (0, 0), (0, 0), (0, 0), (0, 0), ((-2147483648), 2147483647), ((-2147483648), 2147483647), ((-2147483648), 2147483647), ((-2147483648), 2147483647), ((-2147483648), 2147483647)], [], [], 0, 0, 17, [(0, .inr (3, (0, 0))), (1, .inr (0, (8, 0))), (2, .inr (0, (9, 0))), (3, .inr (0, (10, 0))), (4, .inr (0, (11, 0))), (5, .inr (0, (12, 0)))], [])
noncomputable def rxIFEDB_3 (S0 : Nat → Int → Int) (ws : List Int) (S : Nat → Int → Int) (b1 b2 b3 b4 b5 : Int) : Prop := S0 0 4 ≤ 380 ∧ ws = [0, b1, b2, b3, b4, b5] ∧ S 0 4 = S0 0 4 + 4 ∧ ∀ i : Int, 0 ≤ i → i < 400 → S 411 i = rzQ 4 (S0 0 4 + 0) b1 (S0 411 i) i
noncomputable def rxmFEDB_3 (S0 : Nat → Int → Int) (ws : List Int) (S : Nat → Int → Int) (b1 b2 b3 b4 b5 : Int) : Nat := 80
noncomputable def rxzFEDB_3 : rx_Z := ([(0, 0), (0, 0), (0, 0), (0, 0), (0, 0), (0, 0), (0, 0), (0, 0), ((-2147483648), 2147483647), ((-2147483648), 2147483647), ((-2147483648), 2147483647), ((-2147483648), 2147483647), ((-2147483648), 2147483647)], [], [], 0, 0, 19, [(0, .inr (3, (0, 0))), (1, .inr (0, (8, 0))), (2, .inr (0, (9, 0))), (3, .inr (0, (10, 0))), (4, .inr (0, (11, 0))), (5, .inr (0, (12, 0)))], [.inr (0, (9, 0)), .inr (3, (0, 0))])
noncomputable def rxIFEDB_4 (S0 : Nat → Int → Int) (ws : List Int) (S : Nat → Int → Int) (b1 b2 b3 b4 b5 : Int) : Prop := S0 0 4 ≤ 380 ∧ ws = [0, b1, b2, b3, b4, b5] ∧ S 0 4 = S0 0 4 + 8 ∧ ∀ i : Int, 0 ≤ i → i < 400 → S 411 i = rzQ 4 (S0 0 4 + 4) b2 (rzQ 4 (S0 0 4 + 0) b1 (S0 411 i) i) i
noncomputable def rxmFEDB_4 (S0 : Nat → Int → Int) (ws : List Int) (S : Nat → Int → Int) (b1 b2 b3 b4 b5 : Int) : Nat := 75
noncomputable def rxzFEDB_4 : rx_Z := ([(0, 0), (0, 0), (0, 0), (0, 0), (0, 0), (0, 0), (0, 0), (0, 0), ((-2147483648), 2147483647), ((-2147483648), 2147483647), ((-2147483648), 2147483647), ((-2147483648), 2147483647), ((-2147483648), 2147483647)], [], [], 0, 0, 22, [(0, .inr (3, (0, 0))), (1, .inr (0, (8, 0))), (2, .inr (0, (9, 0))), (3, .inr (0, (10, 0))), (4, .inr (0, (11, 0))), (5, .inr (0, (12, 0)))], [])
noncomputable def rxIFEDB_5 (S0 : Nat → Int → Int) (ws : List Int) (S : Nat → Int → Int) (b1 b2 b3 b4 b5 : Int) : Prop := S0 0 4 ≤ 380 ∧ ws = [0, b1, b2, b3, b4, b5] ∧ S 0 4 = S0 0 4 + 8 ∧ ∀ i : Int, 0 ≤ i → i < 400 → S 411 i = rzQ 4 (S0 0 4 + 4) b2 (rzQ 4 (S0 0 4 + 0) b1 (S0 411 i) i) i
noncomputable def rxmFEDB_5 (S0 : Nat → Int → Int) (ws : List Int) (S : Nat → Int → Int) (b1 b2 b3 b4 b5 : Int) : Nat := 70
noncomputable def rxzFEDB_5 : rx_Z := ([(0, 0), (0, 0), (0, 0), (0, 0), (0, 0), (0, 0), (0, 0), (0, 0), ((-2147483648), 2147483647), ((-2147483648), 2147483647), ((-2147483648), 2147483647), ((-2147483648), 2147483647), ((-2147483648), 2147483647)], [], [], 0, 0, 24, [(0, .inr (3, (0, 0))), (1, .inr (0, (8, 0))), (2, .inr (0, (9, 0))), (3, .inr (0, (10, 0))), (4, .inr (0, (11, 0))), (5, .inr (0, (12, 0)))], [.inr (0, (10, 0)), .inr (3, (0, 0))])
noncomputable def rxIFEDB_6 (S0 : Nat → Int → Int) (ws : List Int) (S : Nat → Int → Int) (b1 b2 b3 b4 b5 : Int) : Prop := S0 0 4 ≤ 380 ∧ ws = [0, b1, b2, b3, b4, b5] ∧ S 0 4 = S0 0 4 + 12 ∧ ∀ i : Int, 0 ≤ i → i < 400 → S 411 i = rzQ 4 (S0 0 4 + 8) b3 (rzQ 4 (S0 0 4 + 4) b2 (rzQ 4 (S0 0 4 + 0) b1 (S0 411 i) i) i) i
noncomputable def rxmFEDB_6 (S0 : Nat → Int → Int) (ws : List Int) (S : Nat → Int → Int) (b1 b2 b3 b4 b5 : Int) : Nat := 65
noncomputable def rxzFEDB_6 : rx_Z := ([(0, 0), (0, 0), (0, 0), (0, 0), (0, 0), (0, 0), (0, 0), (0, 0), ((-2147483648), 2147483647), ((-2147483648), 2147483647), ((-2147483648), 2147483647), ((-2147483648), 2147483647), ((-2147483648), 2147483647)], [], [], 0, 0, 27, [(0, .inr (3, (0, 0))), (1, .inr (0, (8, 0))), (2, .inr (0, (9, 0))), (3, .inr (0, (10, 0))), (4, .inr (0, (11, 0))), (5, .inr (0, (12, 0)))], [])
noncomputable def rxIFEDB_7 (S0 : Nat → Int → Int) (ws : List Int) (S : Nat → Int → Int) (b1 b2 b3 b4 b5 : Int) : Prop := S0 0 4 ≤ 380 ∧ ws = [0, b1, b2, b3, b4, b5] ∧ S 0 4 = S0 0 4 + 12 ∧ ∀ i : Int, 0 ≤ i → i < 400 → S 411 i = rzQ 4 (S0 0 4 + 8) b3 (rzQ 4 (S0 0 4 + 4) b2 (rzQ 4 (S0 0 4 + 0) b1 (S0 411 i) i) i) i
noncomputable def rxmFEDB_7 (S0 : Nat → Int → Int) (ws : List Int) (S : Nat → Int → Int) (b1 b2 b3 b4 b5 : Int) : Nat := 60
noncomputable def rxzFEDB_7 : rx_Z := ([(0, 0), (0, 0), (0, 0), (0, 0), (0, 0), (0, 0), (0, 0), (0, 0), ((-2147483648), 2147483647), ((-2147483648), 2147483647), ((-2147483648), 2147483647), ((-2147483648), 2147483647), ((-2147483648), 2147483647)], [], [], 0, 0, 30, [(0, .inr (3, (0, 0))), (1, .inr (0, (8, 0))), (2, .inr (0, (9, 0))), (3, .inr (0, (10, 0))), (4, .inr (0, (11, 0))), (5, .inr (0, (12, 0)))], [.inr (0, (11, 0)), .inr (3, (0, 0))])
noncomputable def rxIFEDB_8 (S0 : Nat → Int → Int) (ws : List Int) (S : Nat → Int → Int) (b1 b2 b3 b4 b5 : Int) : Prop := S0 0 4 ≤ 380 ∧ ws = [0, b1, b2, b3, b4, b5] ∧ S 0 4 = S0 0 4 + 16 ∧ ∀ i : Int, 0 ≤ i → i < 400 → S 411 i = rzQ 4 (S0 0 4 + 12) b4 (rzQ 4 (S0 0 4 + 8) b3 (rzQ 4 (S0 0 4 + 4) b2 (rzQ 4 (S0 0 4 + 0) b1 (S0 411 i) i) i) i) i
noncomputable def rxmFEDB_8 (S0 : Nat → Int → Int) (ws : List Int) (S : Nat → Int → Int) (b1 b2 b3 b4 b5 : Int) : Nat := 55
noncomputable def rxzFEDB_8 : rx_Z := ([(0, 0), (0, 0), (0, 0), (0, 0), (0, 0), (0, 0), (0, 0), (0, 0), ((-2147483648), 2147483647), ((-2147483648), 2147483647), ((-2147483648), 2147483647), ((-2147483648), 2147483647), ((-2147483648), 2147483647)], [], [], 0, 0, 33, [(0, .inr (3, (0, 0))), (1, .inr (0, (8, 0))), (2, .inr (0, (9, 0))), (3, .inr (0, (10, 0))), (4, .inr (0, (11, 0))), (5, .inr (0, (12, 0)))], [])
noncomputable def rxIFEDB_9 (S0 : Nat → Int → Int) (ws : List Int) (S : Nat → Int → Int) (b1 b2 b3 b4 b5 : Int) : Prop := S0 0 4 ≤ 380 ∧ ws = [0, b1, b2, b3, b4, b5] ∧ S 0 4 = S0 0 4 + 16 ∧ ∀ i : Int, 0 ≤ i → i < 400 → S 411 i = rzQ 4 (S0 0 4 + 12) b4 (rzQ 4 (S0 0 4 + 8) b3 (rzQ 4 (S0 0 4 + 4) b2 (rzQ 4 (S0 0 4 + 0) b1 (S0 411 i) i) i) i) i
noncomputable def rxmFEDB_9 (S0 : Nat → Int → Int) (ws : List Int) (S : Nat → Int → Int) (b1 b2 b3 b4 b5 : Int) : Nat := 50
noncomputable def rxzFEDB_9 : rx_Z := ([(0, 0), (0, 0), (0, 0), (0, 0), (0, 0), (0, 0), (0, 0), (0, 0), ((-2147483648), 2147483647), ((-2147483648), 2147483647), ((-2147483648), 2147483647), ((-2147483648), 2147483647), ((-2147483648), 2147483647)], [], [], 0, 0, 36, [(0, .inr (3, (0, 0))), (1, .inr (0, (8, 0))), (2, .inr (0, (9, 0))), (3, .inr (0, (10, 0))), (4, .inr (0, (11, 0))), (5, .inr (0, (12, 0)))], [.inr (0, (12, 0)), .inr (3, (0, 0))])
noncomputable def rxIFEDB_10 (S0 : Nat → Int → Int) (ws : List Int) (S : Nat → Int → Int) (b1 b2 b3 b4 b5 : Int) : Prop := S0 0 4 ≤ 380 ∧ ws = [0, b1, b2, b3, b4, b5] ∧ S 0 4 = S0 0 4 + 20 ∧ ∀ i : Int, 0 ≤ i → i < 400 → S 411 i = rzQ 4 (S0 0 4 + 16) b5 (rzQ 4 (S0 0 4 + 12) b4 (rzQ 4 (S0 0 4 + 8) b3 (rzQ 4 (S0 0 4 + 4) b2 (rzQ 4 (S0 0 4 + 0) b1 (S0 411 i) i) i) i) i) i
noncomputable def rxmFEDB_10 (S0 : Nat → Int → Int) (ws : List Int) (S : Nat → Int → Int) (b1 b2 b3 b4 b5 : Int) : Nat := 45
noncomputable def rxzFEDB_10 : rx_Z := ([(0, 0), (0, 0), (0, 0), (0, 0), (0, 0), (0, 0), (0, 0), (0, 0), ((-2147483648), 2147483647), ((-2147483648), 2147483647), ((-2147483648), 2147483647), ((-2147483648), 2147483647), ((-2147483648), 2147483647)], [], [], 0, 0, 39, [(0, .inr (3, (0, 0))), (1, .inr (0, (8, 0))), (2, .inr (0, (9, 0))), (3, .inr (0, (10, 0))), (4, .inr (0, (11, 0))), (5, .inr (0, (12, 0)))], [])
noncomputable def rxoFEDB_0_0 : bx_HO := (([(0, 0), (0, 0), (0, 0), (0, 0), (0, 0), (0, 0), (0, 0), (0, 0), ((-2147483648), 2147483647), ((-2147483648), 2147483647), ((-2147483648), 2147483647), ((-2147483648), 2147483647), ((-2147483648), 2147483647), (0, 380)], [], [(((0, 0), 1851192626986356798227167157524121751206303872841384191768657920000000), .inr (0, (13, 0))), (((0, 0), 4), .inr (0, (13, 0)))], 0, 0, 14, [(0, .inr (3, (0, 0))), (1, .inr (0, (8, 0))), (2, .inr (0, (9, 0))), (3, .inr (0, (10, 0))), (4, .inr (0, (11, 0))), (5, .inr (0, (12, 0)))], [.inr (0, (8, 0)), .inr (3, (0, 0))]), [], [], [(0, 0), (0, 0), (0, 0), (0, 0), (0, 0), (0, 0), (0, 0), (0, 0), (8, 0), (9, 0), (10, 0), (11, 0), (12, 0)], 1)
noncomputable def rxeFEDB_0_0 : rx_End × List (Nat × Int × Int) := (([(0, 0), (0, 0), (0, 0), (0, 0), (0, 0), (0, 0), (0, 0), (0, 0), ((-2147483648), 2147483647), ((-2147483648), 2147483647), ((-2147483648), 2147483647), ((-2147483648), 2147483647), ((-2147483648), 2147483647), (381, 400)], [], [(((0, 0), 1851192626986356798227167157524121751206303872841384191768657920000000), .inr (0, (13, 0))), (((0, 0), 4), .inr (0, (13, 0)))], some (.inr (0, (0, (-1))))), [])
noncomputable def rxoFEDB_2_0 : bx_HO := (([(0, 0), (0, 0), (0, 0), (0, 0), (0, 0), (0, 0), (0, 0), (0, 0), ((-2147483648), 2147483647), ((-2147483648), 2147483647), ((-2147483648), 2147483647), ((-2147483648), 2147483647), ((-2147483648), 2147483647)], [], [], 0, 0, 19, [(0, .inr (3, (0, 0))), (1, .inr (0, (8, 0))), (2, .inr (0, (9, 0))), (3, .inr (0, (10, 0))), (4, .inr (0, (11, 0))), (5, .inr (0, (12, 0)))], [.inr (0, (9, 0)), .inr (3, (0, 0))]), [], [], [(0, 0), (0, 0), (0, 0), (0, 0), (0, 0), (0, 0), (0, 0), (0, 0), (8, 0), (9, 0), (10, 0), (11, 0), (12, 0)], 3)
noncomputable def rxoFEDB_4_0 : bx_HO := (([(0, 0), (0, 0), (0, 0), (0, 0), (0, 0), (0, 0), (0, 0), (0, 0), ((-2147483648), 2147483647), ((-2147483648), 2147483647), ((-2147483648), 2147483647), ((-2147483648), 2147483647), ((-2147483648), 2147483647)], [], [], 0, 0, 24, [(0, .inr (3, (0, 0))), (1, .inr (0, (8, 0))), (2, .inr (0, (9, 0))), (3, .inr (0, (10, 0))), (4, .inr (0, (11, 0))), (5, .inr (0, (12, 0)))], [.inr (0, (10, 0)), .inr (3, (0, 0))]), [], [], [(0, 0), (0, 0), (0, 0), (0, 0), (0, 0), (0, 0), (0, 0), (0, 0), (8, 0), (9, 0), (10, 0), (11, 0), (12, 0)], 5)
noncomputable def rxoFEDB_6_0 : bx_HO := (([(0, 0), (0, 0), (0, 0), (0, 0), (0, 0), (0, 0), (0, 0), (0, 0), ((-2147483648), 2147483647), ((-2147483648), 2147483647), ((-2147483648), 2147483647), ((-2147483648), 2147483647), ((-2147483648), 2147483647)], [], [], 0, 0, 30, [(0, .inr (3, (0, 0))), (1, .inr (0, (8, 0))), (2, .inr (0, (9, 0))), (3, .inr (0, (10, 0))), (4, .inr (0, (11, 0))), (5, .inr (0, (12, 0)))], [.inr (0, (11, 0)), .inr (3, (0, 0))]), [], [], [(0, 0), (0, 0), (0, 0), (0, 0), (0, 0), (0, 0), (0, 0), (0, 0), (8, 0), (9, 0), (10, 0), (11, 0), (12, 0)], 7)
noncomputable def rxoFEDB_8_0 : bx_HO := (([(0, 0), (0, 0), (0, 0), (0, 0), (0, 0), (0, 0), (0, 0), (0, 0), ((-2147483648), 2147483647), ((-2147483648), 2147483647), ((-2147483648), 2147483647), ((-2147483648), 2147483647), ((-2147483648), 2147483647)], [], [], 0, 0, 36, [(0, .inr (3, (0, 0))), (1, .inr (0, (8, 0))), (2, .inr (0, (9, 0))), (3, .inr (0, (10, 0))), (4, .inr (0, (11, 0))), (5, .inr (0, (12, 0)))], [.inr (0, (12, 0)), .inr (3, (0, 0))]), [], [], [(0, 0), (0, 0), (0, 0), (0, 0), (0, 0), (0, 0), (0, 0), (0, 0), (8, 0), (9, 0), (10, 0), (11, 0), (12, 0)], 9)
noncomputable def rxeFEDB_10_0 : rx_End × List (Nat × Int × Int) := (([(0, 0), (0, 0), (0, 0), (0, 0), (0, 0), (0, 0), (0, 0), (0, 0), ((-2147483648), 2147483647), ((-2147483648), 2147483647), ((-2147483648), 2147483647), ((-2147483648), 2147483647), ((-2147483648), 2147483647), (0, 400)], [], [(((0, 0), 1851192626986356798227167157524121751206303872841384191768657920000000), .inr (0, (13, 0))), (((0, 0), 4), .inr (0, (13, 0)))], some (.inr (0, (13, 0)))), [])
noncomputable def rxYFEDB : List bx_HE := [(rxzFEDB_0, [rxoFEDB_0_0], [rxeFEDB_0_0]), (rxzFEDB_1, [], []), (rxzFEDB_2, [rxoFEDB_2_0], []), (rxzFEDB_3, [], []), (rxzFEDB_4, [rxoFEDB_4_0], []), (rxzFEDB_5, [], []), (rxzFEDB_6, [rxoFEDB_6_0], []), (rxzFEDB_7, [], []), (rxzFEDB_8, [rxoFEDB_8_0], []), (rxzFEDB_9, [], []), (rxzFEDB_10, [], [rxeFEDB_10_0])]
noncomputable def rxUFEDB (q : bx_HE) : Bool := Nat.beq (rx_zpc q.1) 14 || Nat.beq (rx_zpc q.1) 19 || Nat.beq (rx_zpc q.1) 24 || Nat.beq (rx_zpc q.1) 30 || Nat.beq (rx_zpc q.1) 36
noncomputable def rxYBFEDB : bx_B := (rxV, rxNP, rxDmf, bx_mdH rxC231.2.2.1)
set_option maxRecDepth 100000 in
theorem rxYcFEDB : bx_chkH rxYBFEDB rxM231 rxC231 rxYFEDB (rxUFEDB, fun cut z => rx_ex2 (rxCT rxYBFEDB rxCnE) cut 30000 rxC231.2.2.2.1 231 z) = true := by decide +kernel
noncomputable def rxIFEDB (S0 : Nat → Int → Int) (ws : List Int) (i : Nat) : bx_SP := fun S r => match i with | 0 => rxIFEDB_0 S0 ws S (r 8) (r 9) (r 10) (r 11) (r 12) | 1 => rxIFEDB_1 S0 ws S (r 8) (r 9) (r 10) (r 11) (r 12) | 2 => rxIFEDB_2 S0 ws S (r 8) (r 9) (r 10) (r 11) (r 12) | 3 => rxIFEDB_3 S0 ws S (r 8) (r 9) (r 10) (r 11) (r 12) | 4 => rxIFEDB_4 S0 ws S (r 8) (r 9) (r 10) (r 11) (r 12) | 5 => rxIFEDB_5 S0 ws S (r 8) (r 9) (r 10) (r 11) (r 12) | 6 => rxIFEDB_6 S0 ws S (r 8) (r 9) (r 10) (r 11) (r 12) | 7 => rxIFEDB_7 S0 ws S (r 8) (r 9) (r 10) (r 11) (r 12) | 8 => rxIFEDB_8 S0 ws S (r 8) (r 9) (r 10) (r 11) (r 12) | 9 => rxIFEDB_9 S0 ws S (r 8) (r 9) (r 10) (r 11) (r 12) | 10 => rxIFEDB_10 S0 ws S (r 8) (r 9) (r 10) (r 11) (r 12) | _ => False
noncomputable def rxmFEDB (S0 : Nat → Int → Int) (ws : List Int) (i : Nat) (S : Nat → Int → Int) (r : Nat → Int) : Nat := match i with | 0 => rxmFEDB_0 S0 ws S (r 8) (r 9) (r 10) (r 11) (r 12) | 1 => rxmFEDB_1 S0 ws S (r 8) (r 9) (r 10) (r 11) (r 12) | 2 => rxmFEDB_2 S0 ws S (r 8) (r 9) (r 10) (r 11) (r 12) | 3 => rxmFEDB_3 S0 ws S (r 8) (r 9) (r 10) (r 11) (r 12) | 4 => rxmFEDB_4 S0 ws S (r 8) (r 9) (r 10) (r 11) (r 12) | 5 => rxmFEDB_5 S0 ws S (r 8) (r 9) (r 10) (r 11) (r 12) | 6 => rxmFEDB_6 S0 ws S (r 8) (r 9) (r 10) (r 11) (r 12) | 7 => rxmFEDB_7 S0 ws S (r 8) (r 9) (r 10) (r 11) (r 12) | 8 => rxmFEDB_8 S0 ws S (r 8) (r 9) (r 10) (r 11) (r 12) | 9 => rxmFEDB_9 S0 ws S (r 8) (r 9) (r 10) (r 11) (r 12) | 10 => rxmFEDB_10 S0 ws S (r 8) (r 9) (r 10) (r 11) (r 12) | _ => 0
noncomputable def rxPFEDB (S0 : Nat → Int → Int) (ws : List Int) : Prop := True
noncomputable def rxPSFEDB (S0 : Nat → Int → Int) (ws : List Int) (S : Nat → Int → Int) (w : Option Int) : Prop := ∃ b1 b2 b3 b4 b5 : Int, ws = [0, b1, b2, b3, b4, b5] ∧ ((380 < S0 0 4 ∧ w = some (-1) ∧ S = S0) ∨ (S0 0 4 ≤ 380 ∧ w = some (S0 0 4 + 20) ∧ S 0 4 = S0 0 4 + 20 ∧ ∀ i : Int, 0 ≤ i → i < 400 → S 411 i = rzFd (S0 0 4) b1 b2 b3 b4 b5 (S0 411 i) i))
theorem rxkFEDB_1 {S0 : Nat → Int → Int} {ws : List Int} {S : Nat → Int → Int} {b1 b2 b3 b4 b5 : Int} (hP : rxPFEDB S0 ws) (hin : bx_same rxL (bx_mdl rxC231.2.2.1) S0 S) (I0 : bx_Inv rxL S) (hinv : rxIFEDB_1 S0 ws S b1 b2 b3 b4 b5) (l8 : (-2147483648) ≤ b1) (u8 : b1 ≤ 2147483647) (l9 : (-2147483648) ≤ b2) (u9 : b2 ≤ 2147483647) (l10 : (-2147483648) ≤ b3) (u10 : b3 ≤ 2147483647) (l11 : (-2147483648) ≤ b4) (u11 : b4 ≤ 2147483647) (l12 : (-2147483648) ≤ b5) (u12 : b5 ≤ 2147483647) : rxPPUTB S [0, b1] ∧ ∀ (S_p : Nat → Int → Int), rxPSPUTB S [0, b1] S_p none → bx_Inv rxL S_p → bx_same rxL (bx_mdl rxC117.2.2.1) S S_p → rxIFEDB_2 S0 ws S_p b1 b2 b3 b4 b5 ∧ rxmFEDB_2 S0 ws S_p b1 b2 b3 b4 b5 < rxmFEDB_1 S0 ws S b1 b2 b3 b4 b5 := by
  obtain ⟨h1, hw, h3, h4⟩ := hinv
  exact ⟨(show S 0 4 ≤ 396 by omega), fun S_p hq _ hsm => by
    obtain ⟨-, x, hx, q1, q2⟩ := hq
    have hx : b1 = x := Option.some.inj (congrArg (fun l : List Int => l[1]?) hx)
    subst hx
    exact ⟨⟨h1, hw, by omega, fun i i0 i1 => (q2 i i0 i1).trans (by rw [h3, h4 i i0 i1])⟩, by unfold rxmFEDB_1 rxmFEDB_2; omega⟩⟩
theorem rxsFEDB_1 {X : (Nat → Int → Int) → Prop} {S0 : Nat → Int → Int} {ws : List Int} (hP : rxPFEDB S0 ws) : rx_obK X S0 rxC231.2.2.1 rxC117.2.2.1 (rxIFEDB S0 ws) (rxmFEDB S0 ws) 1 2 rxzFEDB_1 rxzFEDB_2 [.inr (3, (0, 0)), .inr (0, (8, 0))] none rxPPUTB rxPSPUTB := by
  intro S r hinv hXS I0 hin hs_ hf_
  have b_ := bx_bds_sat hs_
  have f_ := bx_fcl_ok hs_.1 hf_
  obtain ⟨⟨l8, u8⟩, ⟨l9, u9⟩, ⟨l10, u10⟩, ⟨l11, u11⟩, ⟨l12, u12⟩, -⟩ := b_
  have g := rxkFEDB_1 hP hin I0 hinv l8 u8 l9 u9 l10 u10 l11 u11 l12 u12
  have ea : List.map (bx_num r) [.inr (3, (0, 0)), .inr (0, (8, 0))] = [0, (r 8)] := by
    simp only [List.map_cons, List.map_nil, bx_xv_ok hs_.1]
    rfl
  rw [ea]
  refine ⟨g.1, fun S_p w r_p hPS hX_p I1 hsm hr hw hs_p => ?_⟩
  have hw : w = none := hPS.1
  subst hw
  have g2 := g.2 S_p hPS I1 hsm
  show rxIFEDB_2 S0 ws S_p (r_p 8) (r_p 9) (r_p 10) (r_p 11) (r_p 12) ∧ rxmFEDB_2 S0 ws S_p (r_p 8) (r_p 9) (r_p 10) (r_p 11) (r_p 12) < _
  rw [hr 8 (by decide), hr 9 (by decide), hr 10 (by decide), hr 11 (by decide), hr 12 (by decide)]
  exact g2
theorem rxkFEDB_3 {S0 : Nat → Int → Int} {ws : List Int} {S : Nat → Int → Int} {b1 b2 b3 b4 b5 : Int} (hP : rxPFEDB S0 ws) (hin : bx_same rxL (bx_mdl rxC231.2.2.1) S0 S) (I0 : bx_Inv rxL S) (hinv : rxIFEDB_3 S0 ws S b1 b2 b3 b4 b5) (l8 : (-2147483648) ≤ b1) (u8 : b1 ≤ 2147483647) (l9 : (-2147483648) ≤ b2) (u9 : b2 ≤ 2147483647) (l10 : (-2147483648) ≤ b3) (u10 : b3 ≤ 2147483647) (l11 : (-2147483648) ≤ b4) (u11 : b4 ≤ 2147483647) (l12 : (-2147483648) ≤ b5) (u12 : b5 ≤ 2147483647) : rxPPUTB S [0, b2] ∧ ∀ (S_p : Nat → Int → Int), rxPSPUTB S [0, b2] S_p none → bx_Inv rxL S_p → bx_same rxL (bx_mdl rxC117.2.2.1) S S_p → rxIFEDB_4 S0 ws S_p b1 b2 b3 b4 b5 ∧ rxmFEDB_4 S0 ws S_p b1 b2 b3 b4 b5 < rxmFEDB_3 S0 ws S b1 b2 b3 b4 b5 := by
  obtain ⟨h1, hw, h3, h4⟩ := hinv
  exact ⟨(show S 0 4 ≤ 396 by omega), fun S_p hq _ hsm => by
    obtain ⟨-, x, hx, q1, q2⟩ := hq
    have hx : b2 = x := Option.some.inj (congrArg (fun l : List Int => l[1]?) hx)
    subst hx
    exact ⟨⟨h1, hw, by omega, fun i i0 i1 => (q2 i i0 i1).trans (by rw [h3, h4 i i0 i1])⟩, by unfold rxmFEDB_3 rxmFEDB_4; omega⟩⟩
theorem rxsFEDB_3 {X : (Nat → Int → Int) → Prop} {S0 : Nat → Int → Int} {ws : List Int} (hP : rxPFEDB S0 ws) : rx_obK X S0 rxC231.2.2.1 rxC117.2.2.1 (rxIFEDB S0 ws) (rxmFEDB S0 ws) 3 4 rxzFEDB_3 rxzFEDB_4 [.inr (3, (0, 0)), .inr (0, (9, 0))] none rxPPUTB rxPSPUTB := by
  intro S r hinv hXS I0 hin hs_ hf_
  have b_ := bx_bds_sat hs_
  have f_ := bx_fcl_ok hs_.1 hf_
  obtain ⟨⟨l8, u8⟩, ⟨l9, u9⟩, ⟨l10, u10⟩, ⟨l11, u11⟩, ⟨l12, u12⟩, -⟩ := b_
  have g := rxkFEDB_3 hP hin I0 hinv l8 u8 l9 u9 l10 u10 l11 u11 l12 u12
  have ea : List.map (bx_num r) [.inr (3, (0, 0)), .inr (0, (9, 0))] = [0, (r 9)] := by
    simp only [List.map_cons, List.map_nil, bx_xv_ok hs_.1]
    rfl
  rw [ea]
  refine ⟨g.1, fun S_p w r_p hPS hX_p I1 hsm hr hw hs_p => ?_⟩
  have hw : w = none := hPS.1
  subst hw
  have g2 := g.2 S_p hPS I1 hsm
  show rxIFEDB_4 S0 ws S_p (r_p 8) (r_p 9) (r_p 10) (r_p 11) (r_p 12) ∧ rxmFEDB_4 S0 ws S_p (r_p 8) (r_p 9) (r_p 10) (r_p 11) (r_p 12) < _
  rw [hr 8 (by decide), hr 9 (by decide), hr 10 (by decide), hr 11 (by decide), hr 12 (by decide)]
  exact g2
theorem rxkFEDB_5 {S0 : Nat → Int → Int} {ws : List Int} {S : Nat → Int → Int} {b1 b2 b3 b4 b5 : Int} (hP : rxPFEDB S0 ws) (hin : bx_same rxL (bx_mdl rxC231.2.2.1) S0 S) (I0 : bx_Inv rxL S) (hinv : rxIFEDB_5 S0 ws S b1 b2 b3 b4 b5) (l8 : (-2147483648) ≤ b1) (u8 : b1 ≤ 2147483647) (l9 : (-2147483648) ≤ b2) (u9 : b2 ≤ 2147483647) (l10 : (-2147483648) ≤ b3) (u10 : b3 ≤ 2147483647) (l11 : (-2147483648) ≤ b4) (u11 : b4 ≤ 2147483647) (l12 : (-2147483648) ≤ b5) (u12 : b5 ≤ 2147483647) : rxPPUTB S [0, b3] ∧ ∀ (S_p : Nat → Int → Int), rxPSPUTB S [0, b3] S_p none → bx_Inv rxL S_p → bx_same rxL (bx_mdl rxC117.2.2.1) S S_p → rxIFEDB_6 S0 ws S_p b1 b2 b3 b4 b5 ∧ rxmFEDB_6 S0 ws S_p b1 b2 b3 b4 b5 < rxmFEDB_5 S0 ws S b1 b2 b3 b4 b5 := by
  obtain ⟨h1, hw, h3, h4⟩ := hinv
  exact ⟨(show S 0 4 ≤ 396 by omega), fun S_p hq _ hsm => by
    obtain ⟨-, x, hx, q1, q2⟩ := hq
    have hx : b3 = x := Option.some.inj (congrArg (fun l : List Int => l[1]?) hx)
    subst hx
    exact ⟨⟨h1, hw, by omega, fun i i0 i1 => (q2 i i0 i1).trans (by rw [h3, h4 i i0 i1])⟩, by unfold rxmFEDB_5 rxmFEDB_6; omega⟩⟩
theorem rxsFEDB_5 {X : (Nat → Int → Int) → Prop} {S0 : Nat → Int → Int} {ws : List Int} (hP : rxPFEDB S0 ws) : rx_obK X S0 rxC231.2.2.1 rxC117.2.2.1 (rxIFEDB S0 ws) (rxmFEDB S0 ws) 5 6 rxzFEDB_5 rxzFEDB_6 [.inr (3, (0, 0)), .inr (0, (10, 0))] none rxPPUTB rxPSPUTB := by
  intro S r hinv hXS I0 hin hs_ hf_
  have b_ := bx_bds_sat hs_
  have f_ := bx_fcl_ok hs_.1 hf_
  obtain ⟨⟨l8, u8⟩, ⟨l9, u9⟩, ⟨l10, u10⟩, ⟨l11, u11⟩, ⟨l12, u12⟩, -⟩ := b_
  have g := rxkFEDB_5 hP hin I0 hinv l8 u8 l9 u9 l10 u10 l11 u11 l12 u12
  have ea : List.map (bx_num r) [.inr (3, (0, 0)), .inr (0, (10, 0))] = [0, (r 10)] := by
    simp only [List.map_cons, List.map_nil, bx_xv_ok hs_.1]
    rfl
  rw [ea]
  refine ⟨g.1, fun S_p w r_p hPS hX_p I1 hsm hr hw hs_p => ?_⟩
  have hw : w = none := hPS.1
  subst hw
  have g2 := g.2 S_p hPS I1 hsm
  show rxIFEDB_6 S0 ws S_p (r_p 8) (r_p 9) (r_p 10) (r_p 11) (r_p 12) ∧ rxmFEDB_6 S0 ws S_p (r_p 8) (r_p 9) (r_p 10) (r_p 11) (r_p 12) < _
  rw [hr 8 (by decide), hr 9 (by decide), hr 10 (by decide), hr 11 (by decide), hr 12 (by decide)]
  exact g2
theorem rxkFEDB_7 {S0 : Nat → Int → Int} {ws : List Int} {S : Nat → Int → Int} {b1 b2 b3 b4 b5 : Int} (hP : rxPFEDB S0 ws) (hin : bx_same rxL (bx_mdl rxC231.2.2.1) S0 S) (I0 : bx_Inv rxL S) (hinv : rxIFEDB_7 S0 ws S b1 b2 b3 b4 b5) (l8 : (-2147483648) ≤ b1) (u8 : b1 ≤ 2147483647) (l9 : (-2147483648) ≤ b2) (u9 : b2 ≤ 2147483647) (l10 : (-2147483648) ≤ b3) (u10 : b3 ≤ 2147483647) (l11 : (-2147483648) ≤ b4) (u11 : b4 ≤ 2147483647) (l12 : (-2147483648) ≤ b5) (u12 : b5 ≤ 2147483647) : rxPPUTB S [0, b4] ∧ ∀ (S_p : Nat → Int → Int), rxPSPUTB S [0, b4] S_p none → bx_Inv rxL S_p → bx_same rxL (bx_mdl rxC117.2.2.1) S S_p → rxIFEDB_8 S0 ws S_p b1 b2 b3 b4 b5 ∧ rxmFEDB_8 S0 ws S_p b1 b2 b3 b4 b5 < rxmFEDB_7 S0 ws S b1 b2 b3 b4 b5 := by
  obtain ⟨h1, hw, h3, h4⟩ := hinv
  exact ⟨(show S 0 4 ≤ 396 by omega), fun S_p hq _ hsm => by
    obtain ⟨-, x, hx, q1, q2⟩ := hq
    have hx : b4 = x := Option.some.inj (congrArg (fun l : List Int => l[1]?) hx)
    subst hx
    exact ⟨⟨h1, hw, by omega, fun i i0 i1 => (q2 i i0 i1).trans (by rw [h3, h4 i i0 i1])⟩, by unfold rxmFEDB_7 rxmFEDB_8; omega⟩⟩
theorem rxsFEDB_7 {X : (Nat → Int → Int) → Prop} {S0 : Nat → Int → Int} {ws : List Int} (hP : rxPFEDB S0 ws) : rx_obK X S0 rxC231.2.2.1 rxC117.2.2.1 (rxIFEDB S0 ws) (rxmFEDB S0 ws) 7 8 rxzFEDB_7 rxzFEDB_8 [.inr (3, (0, 0)), .inr (0, (11, 0))] none rxPPUTB rxPSPUTB := by
  intro S r hinv hXS I0 hin hs_ hf_
  have b_ := bx_bds_sat hs_
  have f_ := bx_fcl_ok hs_.1 hf_
  obtain ⟨⟨l8, u8⟩, ⟨l9, u9⟩, ⟨l10, u10⟩, ⟨l11, u11⟩, ⟨l12, u12⟩, -⟩ := b_
  have g := rxkFEDB_7 hP hin I0 hinv l8 u8 l9 u9 l10 u10 l11 u11 l12 u12
  have ea : List.map (bx_num r) [.inr (3, (0, 0)), .inr (0, (11, 0))] = [0, (r 11)] := by
    simp only [List.map_cons, List.map_nil, bx_xv_ok hs_.1]
    rfl
  rw [ea]
  refine ⟨g.1, fun S_p w r_p hPS hX_p I1 hsm hr hw hs_p => ?_⟩
  have hw : w = none := hPS.1
  subst hw
  have g2 := g.2 S_p hPS I1 hsm
  show rxIFEDB_8 S0 ws S_p (r_p 8) (r_p 9) (r_p 10) (r_p 11) (r_p 12) ∧ rxmFEDB_8 S0 ws S_p (r_p 8) (r_p 9) (r_p 10) (r_p 11) (r_p 12) < _
  rw [hr 8 (by decide), hr 9 (by decide), hr 10 (by decide), hr 11 (by decide), hr 12 (by decide)]
  exact g2
theorem rxkFEDB_9 {S0 : Nat → Int → Int} {ws : List Int} {S : Nat → Int → Int} {b1 b2 b3 b4 b5 : Int} (hP : rxPFEDB S0 ws) (hin : bx_same rxL (bx_mdl rxC231.2.2.1) S0 S) (I0 : bx_Inv rxL S) (hinv : rxIFEDB_9 S0 ws S b1 b2 b3 b4 b5) (l8 : (-2147483648) ≤ b1) (u8 : b1 ≤ 2147483647) (l9 : (-2147483648) ≤ b2) (u9 : b2 ≤ 2147483647) (l10 : (-2147483648) ≤ b3) (u10 : b3 ≤ 2147483647) (l11 : (-2147483648) ≤ b4) (u11 : b4 ≤ 2147483647) (l12 : (-2147483648) ≤ b5) (u12 : b5 ≤ 2147483647) : rxPPUTB S [0, b5] ∧ ∀ (S_p : Nat → Int → Int), rxPSPUTB S [0, b5] S_p none → bx_Inv rxL S_p → bx_same rxL (bx_mdl rxC117.2.2.1) S S_p → rxIFEDB_10 S0 ws S_p b1 b2 b3 b4 b5 ∧ rxmFEDB_10 S0 ws S_p b1 b2 b3 b4 b5 < rxmFEDB_9 S0 ws S b1 b2 b3 b4 b5 := by
  obtain ⟨h1, hw, h3, h4⟩ := hinv
  exact ⟨(show S 0 4 ≤ 396 by omega), fun S_p hq _ hsm => by
    obtain ⟨-, x, hx, q1, q2⟩ := hq
    have hx : b5 = x := Option.some.inj (congrArg (fun l : List Int => l[1]?) hx)
    subst hx
    exact ⟨⟨h1, hw, by omega, fun i i0 i1 => (q2 i i0 i1).trans (by rw [h3, h4 i i0 i1])⟩, by unfold rxmFEDB_9 rxmFEDB_10; omega⟩⟩
theorem rxsFEDB_9 {X : (Nat → Int → Int) → Prop} {S0 : Nat → Int → Int} {ws : List Int} (hP : rxPFEDB S0 ws) : rx_obK X S0 rxC231.2.2.1 rxC117.2.2.1 (rxIFEDB S0 ws) (rxmFEDB S0 ws) 9 10 rxzFEDB_9 rxzFEDB_10 [.inr (3, (0, 0)), .inr (0, (12, 0))] none rxPPUTB rxPSPUTB := by
  intro S r hinv hXS I0 hin hs_ hf_
  have b_ := bx_bds_sat hs_
  have f_ := bx_fcl_ok hs_.1 hf_
  obtain ⟨⟨l8, u8⟩, ⟨l9, u9⟩, ⟨l10, u10⟩, ⟨l11, u11⟩, ⟨l12, u12⟩, -⟩ := b_
  have g := rxkFEDB_9 hP hin I0 hinv l8 u8 l9 u9 l10 u10 l11 u11 l12 u12
  have ea : List.map (bx_num r) [.inr (3, (0, 0)), .inr (0, (12, 0))] = [0, (r 12)] := by
    simp only [List.map_cons, List.map_nil, bx_xv_ok hs_.1]
    rfl
  rw [ea]
  refine ⟨g.1, fun S_p w r_p hPS hX_p I1 hsm hr hw hs_p => ?_⟩
  have hw : w = none := hPS.1
  subst hw
  have g2 := g.2 S_p hPS I1 hsm
  show rxIFEDB_10 S0 ws S_p (r_p 8) (r_p 9) (r_p 10) (r_p 11) (r_p 12) ∧ rxmFEDB_10 S0 ws S_p (r_p 8) (r_p 9) (r_p 10) (r_p 11) (r_p 12) < _
  rw [hr 8 (by decide), hr 9 (by decide), hr 10 (by decide), hr 11 (by decide), hr 12 (by decide)]
  exact g2
theorem rxcFEDB_0_0 {S0 : Nat → Int → Int} {ws : List Int} {S : Nat → Int → Int} {b1 b2 b3 b4 b5 x13 : Int} (hP : rxPFEDB S0 ws) (hin : bx_same rxL (bx_mdl rxC231.2.2.1) S0 S) (I0 : bx_Inv rxL S) (hinv : rxIFEDB_0 S0 ws S b1 b2 b3 b4 b5) (l8 : (-2147483648) ≤ b1) (u8 : b1 ≤ 2147483647) (l9 : (-2147483648) ≤ b2) (u9 : b2 ≤ 2147483647) (l10 : (-2147483648) ≤ b3) (u10 : b3 ≤ 2147483647) (l11 : (-2147483648) ≤ b4) (u11 : b4 ≤ 2147483647) (l12 : (-2147483648) ≤ b5) (u12 : b5 ≤ 2147483647) (l13 : 0 ≤ x13) (u13 : x13 ≤ 380) (e0 : S 0 4 = x13) : (True) ∧ (True) ∧ rxIFEDB_1 S0 ws S b1 b2 b3 b4 b5 ∧ rxmFEDB_1 S0 ws S b1 b2 b3 b4 b5 < rxmFEDB_0 S0 ws S b1 b2 b3 b4 b5 := by
  obtain ⟨rfl, hw⟩ := hinv
  exact ⟨trivial, trivial, ⟨by omega, hw, by omega, fun i i0 i1 => rfl⟩, by unfold rxmFEDB_0 rxmFEDB_1; omega⟩
theorem rxgFEDB_0_0 {X : (Nat → Int → Int) → Prop} {S0 : Nat → Int → Int} {ws : List Int} (hP : rxPFEDB S0 ws) : bx_obC rxL X S0 rxC231.2.2.1 (rxIFEDB S0 ws) (rxmFEDB S0 ws) 0 rxzFEDB_0 rxoFEDB_0_0 := by
  intro S S_p r r_p hinv hX hin hsm_ hseg
  obtain ⟨I0, I1, h0_, hr_, b_, f_, d_⟩ := bx_cl (evs := [(0, (0, 0), (0, 4), .inr (0, (13, 0)))]) (fvs := []) hseg (by decide +kernel) (by decide +kernel)
  have hinv : rxIFEDB_0 S0 ws S (r 8) (r 9) (r 10) (r 11) (r 12) := hinv
  rw [← hr_ 8 (by decide), ← hr_ 9 (by decide), ← hr_ 10 (by decide), ← hr_ 11 (by decide), ← hr_ 12 (by decide)] at hinv
  obtain ⟨⟨l8, u8⟩, ⟨l9, u9⟩, ⟨l10, u10⟩, ⟨l11, u11⟩, ⟨l12, u12⟩, ⟨l13, u13⟩, -⟩ := b_
  obtain ⟨e0, w_⟩ := d_
  subst w_
  have g := rxcFEDB_0_0 hP hin I0 hinv l8 u8 l9 u9 l10 u10 l11 u11 l12 u12 l13 u13 e0
  refine ⟨bx_narP_ok (l := []) g.1, bx_nfP_ok h0_ (fvs := []) (by decide +kernel) g.2.1, ?_, ?_⟩
  · show rxIFEDB_1 S0 ws S_p (bx_val [(0, 0), (0, 0), (0, 0), (0, 0), (0, 0), (0, 0), (0, 0), (0, 0), (8, 0), (9, 0), (10, 0), (11, 0), (12, 0)] r_p 8) (bx_val [(0, 0), (0, 0), (0, 0), (0, 0), (0, 0), (0, 0), (0, 0), (0, 0), (8, 0), (9, 0), (10, 0), (11, 0), (12, 0)] r_p 9) (bx_val [(0, 0), (0, 0), (0, 0), (0, 0), (0, 0), (0, 0), (0, 0), (0, 0), (8, 0), (9, 0), (10, 0), (11, 0), (12, 0)] r_p 10) (bx_val [(0, 0), (0, 0), (0, 0), (0, 0), (0, 0), (0, 0), (0, 0), (0, 0), (8, 0), (9, 0), (10, 0), (11, 0), (12, 0)] r_p 11) (bx_val [(0, 0), (0, 0), (0, 0), (0, 0), (0, 0), (0, 0), (0, 0), (0, 0), (8, 0), (9, 0), (10, 0), (11, 0), (12, 0)] r_p 12)
    rw [bx_val_x (n := 8) (e := (8, 0)) h0_ rfl, bx_val_x (n := 9) (e := (9, 0)) h0_ rfl, bx_val_x (n := 10) (e := (10, 0)) h0_ rfl, bx_val_x (n := 11) (e := (11, 0)) h0_ rfl, bx_val_x (n := 12) (e := (12, 0)) h0_ rfl]
    exact g.2.2.1
  · show rxmFEDB_1 S0 ws S_p (bx_val [(0, 0), (0, 0), (0, 0), (0, 0), (0, 0), (0, 0), (0, 0), (0, 0), (8, 0), (9, 0), (10, 0), (11, 0), (12, 0)] r_p 8) (bx_val [(0, 0), (0, 0), (0, 0), (0, 0), (0, 0), (0, 0), (0, 0), (0, 0), (8, 0), (9, 0), (10, 0), (11, 0), (12, 0)] r_p 9) (bx_val [(0, 0), (0, 0), (0, 0), (0, 0), (0, 0), (0, 0), (0, 0), (0, 0), (8, 0), (9, 0), (10, 0), (11, 0), (12, 0)] r_p 10) (bx_val [(0, 0), (0, 0), (0, 0), (0, 0), (0, 0), (0, 0), (0, 0), (0, 0), (8, 0), (9, 0), (10, 0), (11, 0), (12, 0)] r_p 11) (bx_val [(0, 0), (0, 0), (0, 0), (0, 0), (0, 0), (0, 0), (0, 0), (0, 0), (8, 0), (9, 0), (10, 0), (11, 0), (12, 0)] r_p 12) < rxmFEDB_0 S0 ws S_p (r 8) (r 9) (r 10) (r 11) (r 12)
    rw [bx_val_x (n := 8) (e := (8, 0)) h0_ rfl, bx_val_x (n := 9) (e := (9, 0)) h0_ rfl, bx_val_x (n := 10) (e := (10, 0)) h0_ rfl, bx_val_x (n := 11) (e := (11, 0)) h0_ rfl, bx_val_x (n := 12) (e := (12, 0)) h0_ rfl, ← hr_ 8 (by decide), ← hr_ 9 (by decide), ← hr_ 10 (by decide), ← hr_ 11 (by decide), ← hr_ 12 (by decide)]
    exact g.2.2.2
theorem rxdFEDB_0_0 {S0 : Nat → Int → Int} {ws : List Int} {S : Nat → Int → Int} {b1 b2 b3 b4 b5 x13 : Int} (hP : rxPFEDB S0 ws) (hin : bx_same rxL (bx_mdl rxC231.2.2.1) S0 S) (hin2 : bx_same rxL (bx_mdl rxC231.2.2.1) S S) (I0 : bx_Inv rxL S) (I1 : bx_Inv rxL S) (hinv : rxIFEDB_0 S0 ws S b1 b2 b3 b4 b5) (l8 : (-2147483648) ≤ b1) (u8 : b1 ≤ 2147483647) (l9 : (-2147483648) ≤ b2) (u9 : b2 ≤ 2147483647) (l10 : (-2147483648) ≤ b3) (u10 : b3 ≤ 2147483647) (l11 : (-2147483648) ≤ b4) (u11 : b4 ≤ 2147483647) (l12 : (-2147483648) ≤ b5) (u12 : b5 ≤ 2147483647) (l13 : 381 ≤ x13) (u13 : x13 ≤ 400) (e0 : S 0 4 = x13) : (True) ∧ rxPSFEDB S0 ws S (some ((-1))) := by
  obtain ⟨rfl, hw⟩ := hinv
  exact ⟨trivial, b1, b2, b3, b4, b5, hw, Or.inl ⟨by omega, rfl, rfl⟩⟩
theorem rxfFEDB_0_0 {X : (Nat → Int → Int) → Prop} {S0 : Nat → Int → Int} {ws : List Int} (hP : rxPFEDB S0 ws) : bx_obE rxL X S0 rxC231.2.2.1 (rxIFEDB S0 ws) (rxPSFEDB S0 ws) 0 rxzFEDB_0 rxeFEDB_0_0 := by
  intro S S_p r r_p hinv hX hin hsm_ hseg
  obtain ⟨I0, I1, h0_, hr_, b_, f_, d_⟩ := bx_cl (evs := [(0, (0, 0), (0, 4), .inr (0, (13, 0)))]) (fvs := []) hseg (by decide +kernel) (by decide +kernel)
  have hinv : rxIFEDB_0 S0 ws S (r 8) (r 9) (r 10) (r 11) (r 12) := hinv
  rw [← hr_ 8 (by decide), ← hr_ 9 (by decide), ← hr_ 10 (by decide), ← hr_ 11 (by decide), ← hr_ 12 (by decide)] at hinv
  obtain ⟨⟨l8, u8⟩, ⟨l9, u9⟩, ⟨l10, u10⟩, ⟨l11, u11⟩, ⟨l12, u12⟩, ⟨l13, u13⟩, -⟩ := b_
  obtain ⟨e0, w_⟩ := d_
  subst w_
  have g := rxdFEDB_0_0 hP hin hsm_ I0 I1 hinv l8 u8 l9 u9 l10 u10 l11 u11 l12 u12 l13 u13 e0
  refine ⟨bx_narP_ok (l := []) g.1, ?_⟩
  show rxPSFEDB S0 ws S_p (some (bx_num r_p (.inr (0, (0, (-1))))))
  rw [bx_xv_ok h0_]
  exact g.2
theorem rxcFEDB_2_0 {S0 : Nat → Int → Int} {ws : List Int} {S : Nat → Int → Int} {b1 b2 b3 b4 b5 : Int} (hP : rxPFEDB S0 ws) (hin : bx_same rxL (bx_mdl rxC231.2.2.1) S0 S) (I0 : bx_Inv rxL S) (hinv : rxIFEDB_2 S0 ws S b1 b2 b3 b4 b5) (l8 : (-2147483648) ≤ b1) (u8 : b1 ≤ 2147483647) (l9 : (-2147483648) ≤ b2) (u9 : b2 ≤ 2147483647) (l10 : (-2147483648) ≤ b3) (u10 : b3 ≤ 2147483647) (l11 : (-2147483648) ≤ b4) (u11 : b4 ≤ 2147483647) (l12 : (-2147483648) ≤ b5) (u12 : b5 ≤ 2147483647) : (True) ∧ (True) ∧ rxIFEDB_3 S0 ws S b1 b2 b3 b4 b5 ∧ rxmFEDB_3 S0 ws S b1 b2 b3 b4 b5 < rxmFEDB_2 S0 ws S b1 b2 b3 b4 b5 := by
  exact ⟨trivial, trivial, hinv, by unfold rxmFEDB_2 rxmFEDB_3; omega⟩
theorem rxgFEDB_2_0 {X : (Nat → Int → Int) → Prop} {S0 : Nat → Int → Int} {ws : List Int} (hP : rxPFEDB S0 ws) : bx_obC rxL X S0 rxC231.2.2.1 (rxIFEDB S0 ws) (rxmFEDB S0 ws) 2 rxzFEDB_2 rxoFEDB_2_0 := by
  intro S S_p r r_p hinv hX hin hsm_ hseg
  obtain ⟨I0, I1, h0_, hr_, b_, f_, d_⟩ := bx_cl (evs := []) (fvs := []) hseg (by decide +kernel) (by decide +kernel)
  have hinv : rxIFEDB_2 S0 ws S (r 8) (r 9) (r 10) (r 11) (r 12) := hinv
  rw [← hr_ 8 (by decide), ← hr_ 9 (by decide), ← hr_ 10 (by decide), ← hr_ 11 (by decide), ← hr_ 12 (by decide)] at hinv
  obtain ⟨⟨l8, u8⟩, ⟨l9, u9⟩, ⟨l10, u10⟩, ⟨l11, u11⟩, ⟨l12, u12⟩, -⟩ := b_
  have w_ := d_
  subst w_
  have g := rxcFEDB_2_0 hP hin I0 hinv l8 u8 l9 u9 l10 u10 l11 u11 l12 u12
  refine ⟨bx_narP_ok (l := []) g.1, bx_nfP_ok h0_ (fvs := []) (by decide +kernel) g.2.1, ?_, ?_⟩
  · show rxIFEDB_3 S0 ws S_p (bx_val [(0, 0), (0, 0), (0, 0), (0, 0), (0, 0), (0, 0), (0, 0), (0, 0), (8, 0), (9, 0), (10, 0), (11, 0), (12, 0)] r_p 8) (bx_val [(0, 0), (0, 0), (0, 0), (0, 0), (0, 0), (0, 0), (0, 0), (0, 0), (8, 0), (9, 0), (10, 0), (11, 0), (12, 0)] r_p 9) (bx_val [(0, 0), (0, 0), (0, 0), (0, 0), (0, 0), (0, 0), (0, 0), (0, 0), (8, 0), (9, 0), (10, 0), (11, 0), (12, 0)] r_p 10) (bx_val [(0, 0), (0, 0), (0, 0), (0, 0), (0, 0), (0, 0), (0, 0), (0, 0), (8, 0), (9, 0), (10, 0), (11, 0), (12, 0)] r_p 11) (bx_val [(0, 0), (0, 0), (0, 0), (0, 0), (0, 0), (0, 0), (0, 0), (0, 0), (8, 0), (9, 0), (10, 0), (11, 0), (12, 0)] r_p 12)
    rw [bx_val_x (n := 8) (e := (8, 0)) h0_ rfl, bx_val_x (n := 9) (e := (9, 0)) h0_ rfl, bx_val_x (n := 10) (e := (10, 0)) h0_ rfl, bx_val_x (n := 11) (e := (11, 0)) h0_ rfl, bx_val_x (n := 12) (e := (12, 0)) h0_ rfl]
    exact g.2.2.1
  · show rxmFEDB_3 S0 ws S_p (bx_val [(0, 0), (0, 0), (0, 0), (0, 0), (0, 0), (0, 0), (0, 0), (0, 0), (8, 0), (9, 0), (10, 0), (11, 0), (12, 0)] r_p 8) (bx_val [(0, 0), (0, 0), (0, 0), (0, 0), (0, 0), (0, 0), (0, 0), (0, 0), (8, 0), (9, 0), (10, 0), (11, 0), (12, 0)] r_p 9) (bx_val [(0, 0), (0, 0), (0, 0), (0, 0), (0, 0), (0, 0), (0, 0), (0, 0), (8, 0), (9, 0), (10, 0), (11, 0), (12, 0)] r_p 10) (bx_val [(0, 0), (0, 0), (0, 0), (0, 0), (0, 0), (0, 0), (0, 0), (0, 0), (8, 0), (9, 0), (10, 0), (11, 0), (12, 0)] r_p 11) (bx_val [(0, 0), (0, 0), (0, 0), (0, 0), (0, 0), (0, 0), (0, 0), (0, 0), (8, 0), (9, 0), (10, 0), (11, 0), (12, 0)] r_p 12) < rxmFEDB_2 S0 ws S_p (r 8) (r 9) (r 10) (r 11) (r 12)
    rw [bx_val_x (n := 8) (e := (8, 0)) h0_ rfl, bx_val_x (n := 9) (e := (9, 0)) h0_ rfl, bx_val_x (n := 10) (e := (10, 0)) h0_ rfl, bx_val_x (n := 11) (e := (11, 0)) h0_ rfl, bx_val_x (n := 12) (e := (12, 0)) h0_ rfl, ← hr_ 8 (by decide), ← hr_ 9 (by decide), ← hr_ 10 (by decide), ← hr_ 11 (by decide), ← hr_ 12 (by decide)]
    exact g.2.2.2
theorem rxcFEDB_4_0 {S0 : Nat → Int → Int} {ws : List Int} {S : Nat → Int → Int} {b1 b2 b3 b4 b5 : Int} (hP : rxPFEDB S0 ws) (hin : bx_same rxL (bx_mdl rxC231.2.2.1) S0 S) (I0 : bx_Inv rxL S) (hinv : rxIFEDB_4 S0 ws S b1 b2 b3 b4 b5) (l8 : (-2147483648) ≤ b1) (u8 : b1 ≤ 2147483647) (l9 : (-2147483648) ≤ b2) (u9 : b2 ≤ 2147483647) (l10 : (-2147483648) ≤ b3) (u10 : b3 ≤ 2147483647) (l11 : (-2147483648) ≤ b4) (u11 : b4 ≤ 2147483647) (l12 : (-2147483648) ≤ b5) (u12 : b5 ≤ 2147483647) : (True) ∧ (True) ∧ rxIFEDB_5 S0 ws S b1 b2 b3 b4 b5 ∧ rxmFEDB_5 S0 ws S b1 b2 b3 b4 b5 < rxmFEDB_4 S0 ws S b1 b2 b3 b4 b5 := by
  exact ⟨trivial, trivial, hinv, by unfold rxmFEDB_4 rxmFEDB_5; omega⟩
theorem rxgFEDB_4_0 {X : (Nat → Int → Int) → Prop} {S0 : Nat → Int → Int} {ws : List Int} (hP : rxPFEDB S0 ws) : bx_obC rxL X S0 rxC231.2.2.1 (rxIFEDB S0 ws) (rxmFEDB S0 ws) 4 rxzFEDB_4 rxoFEDB_4_0 := by
  intro S S_p r r_p hinv hX hin hsm_ hseg
  obtain ⟨I0, I1, h0_, hr_, b_, f_, d_⟩ := bx_cl (evs := []) (fvs := []) hseg (by decide +kernel) (by decide +kernel)
  have hinv : rxIFEDB_4 S0 ws S (r 8) (r 9) (r 10) (r 11) (r 12) := hinv
  rw [← hr_ 8 (by decide), ← hr_ 9 (by decide), ← hr_ 10 (by decide), ← hr_ 11 (by decide), ← hr_ 12 (by decide)] at hinv
  obtain ⟨⟨l8, u8⟩, ⟨l9, u9⟩, ⟨l10, u10⟩, ⟨l11, u11⟩, ⟨l12, u12⟩, -⟩ := b_
  have w_ := d_
  subst w_
  have g := rxcFEDB_4_0 hP hin I0 hinv l8 u8 l9 u9 l10 u10 l11 u11 l12 u12
  refine ⟨bx_narP_ok (l := []) g.1, bx_nfP_ok h0_ (fvs := []) (by decide +kernel) g.2.1, ?_, ?_⟩
  · show rxIFEDB_5 S0 ws S_p (bx_val [(0, 0), (0, 0), (0, 0), (0, 0), (0, 0), (0, 0), (0, 0), (0, 0), (8, 0), (9, 0), (10, 0), (11, 0), (12, 0)] r_p 8) (bx_val [(0, 0), (0, 0), (0, 0), (0, 0), (0, 0), (0, 0), (0, 0), (0, 0), (8, 0), (9, 0), (10, 0), (11, 0), (12, 0)] r_p 9) (bx_val [(0, 0), (0, 0), (0, 0), (0, 0), (0, 0), (0, 0), (0, 0), (0, 0), (8, 0), (9, 0), (10, 0), (11, 0), (12, 0)] r_p 10) (bx_val [(0, 0), (0, 0), (0, 0), (0, 0), (0, 0), (0, 0), (0, 0), (0, 0), (8, 0), (9, 0), (10, 0), (11, 0), (12, 0)] r_p 11) (bx_val [(0, 0), (0, 0), (0, 0), (0, 0), (0, 0), (0, 0), (0, 0), (0, 0), (8, 0), (9, 0), (10, 0), (11, 0), (12, 0)] r_p 12)
    rw [bx_val_x (n := 8) (e := (8, 0)) h0_ rfl, bx_val_x (n := 9) (e := (9, 0)) h0_ rfl, bx_val_x (n := 10) (e := (10, 0)) h0_ rfl, bx_val_x (n := 11) (e := (11, 0)) h0_ rfl, bx_val_x (n := 12) (e := (12, 0)) h0_ rfl]
    exact g.2.2.1
  · show rxmFEDB_5 S0 ws S_p (bx_val [(0, 0), (0, 0), (0, 0), (0, 0), (0, 0), (0, 0), (0, 0), (0, 0), (8, 0), (9, 0), (10, 0), (11, 0), (12, 0)] r_p 8) (bx_val [(0, 0), (0, 0), (0, 0), (0, 0), (0, 0), (0, 0), (0, 0), (0, 0), (8, 0), (9, 0), (10, 0), (11, 0), (12, 0)] r_p 9) (bx_val [(0, 0), (0, 0), (0, 0), (0, 0), (0, 0), (0, 0), (0, 0), (0, 0), (8, 0), (9, 0), (10, 0), (11, 0), (12, 0)] r_p 10) (bx_val [(0, 0), (0, 0), (0, 0), (0, 0), (0, 0), (0, 0), (0, 0), (0, 0), (8, 0), (9, 0), (10, 0), (11, 0), (12, 0)] r_p 11) (bx_val [(0, 0), (0, 0), (0, 0), (0, 0), (0, 0), (0, 0), (0, 0), (0, 0), (8, 0), (9, 0), (10, 0), (11, 0), (12, 0)] r_p 12) < rxmFEDB_4 S0 ws S_p (r 8) (r 9) (r 10) (r 11) (r 12)
    rw [bx_val_x (n := 8) (e := (8, 0)) h0_ rfl, bx_val_x (n := 9) (e := (9, 0)) h0_ rfl, bx_val_x (n := 10) (e := (10, 0)) h0_ rfl, bx_val_x (n := 11) (e := (11, 0)) h0_ rfl, bx_val_x (n := 12) (e := (12, 0)) h0_ rfl, ← hr_ 8 (by decide), ← hr_ 9 (by decide), ← hr_ 10 (by decide), ← hr_ 11 (by decide), ← hr_ 12 (by decide)]
    exact g.2.2.2
theorem rxcFEDB_6_0 {S0 : Nat → Int → Int} {ws : List Int} {S : Nat → Int → Int} {b1 b2 b3 b4 b5 : Int} (hP : rxPFEDB S0 ws) (hin : bx_same rxL (bx_mdl rxC231.2.2.1) S0 S) (I0 : bx_Inv rxL S) (hinv : rxIFEDB_6 S0 ws S b1 b2 b3 b4 b5) (l8 : (-2147483648) ≤ b1) (u8 : b1 ≤ 2147483647) (l9 : (-2147483648) ≤ b2) (u9 : b2 ≤ 2147483647) (l10 : (-2147483648) ≤ b3) (u10 : b3 ≤ 2147483647) (l11 : (-2147483648) ≤ b4) (u11 : b4 ≤ 2147483647) (l12 : (-2147483648) ≤ b5) (u12 : b5 ≤ 2147483647) : (True) ∧ (True) ∧ rxIFEDB_7 S0 ws S b1 b2 b3 b4 b5 ∧ rxmFEDB_7 S0 ws S b1 b2 b3 b4 b5 < rxmFEDB_6 S0 ws S b1 b2 b3 b4 b5 := by
  exact ⟨trivial, trivial, hinv, by unfold rxmFEDB_6 rxmFEDB_7; omega⟩
theorem rxgFEDB_6_0 {X : (Nat → Int → Int) → Prop} {S0 : Nat → Int → Int} {ws : List Int} (hP : rxPFEDB S0 ws) : bx_obC rxL X S0 rxC231.2.2.1 (rxIFEDB S0 ws) (rxmFEDB S0 ws) 6 rxzFEDB_6 rxoFEDB_6_0 := by
  intro S S_p r r_p hinv hX hin hsm_ hseg
  obtain ⟨I0, I1, h0_, hr_, b_, f_, d_⟩ := bx_cl (evs := []) (fvs := []) hseg (by decide +kernel) (by decide +kernel)
  have hinv : rxIFEDB_6 S0 ws S (r 8) (r 9) (r 10) (r 11) (r 12) := hinv
  rw [← hr_ 8 (by decide), ← hr_ 9 (by decide), ← hr_ 10 (by decide), ← hr_ 11 (by decide), ← hr_ 12 (by decide)] at hinv
  obtain ⟨⟨l8, u8⟩, ⟨l9, u9⟩, ⟨l10, u10⟩, ⟨l11, u11⟩, ⟨l12, u12⟩, -⟩ := b_
  have w_ := d_
  subst w_
  have g := rxcFEDB_6_0 hP hin I0 hinv l8 u8 l9 u9 l10 u10 l11 u11 l12 u12
  refine ⟨bx_narP_ok (l := []) g.1, bx_nfP_ok h0_ (fvs := []) (by decide +kernel) g.2.1, ?_, ?_⟩
  · show rxIFEDB_7 S0 ws S_p (bx_val [(0, 0), (0, 0), (0, 0), (0, 0), (0, 0), (0, 0), (0, 0), (0, 0), (8, 0), (9, 0), (10, 0), (11, 0), (12, 0)] r_p 8) (bx_val [(0, 0), (0, 0), (0, 0), (0, 0), (0, 0), (0, 0), (0, 0), (0, 0), (8, 0), (9, 0), (10, 0), (11, 0), (12, 0)] r_p 9) (bx_val [(0, 0), (0, 0), (0, 0), (0, 0), (0, 0), (0, 0), (0, 0), (0, 0), (8, 0), (9, 0), (10, 0), (11, 0), (12, 0)] r_p 10) (bx_val [(0, 0), (0, 0), (0, 0), (0, 0), (0, 0), (0, 0), (0, 0), (0, 0), (8, 0), (9, 0), (10, 0), (11, 0), (12, 0)] r_p 11) (bx_val [(0, 0), (0, 0), (0, 0), (0, 0), (0, 0), (0, 0), (0, 0), (0, 0), (8, 0), (9, 0), (10, 0), (11, 0), (12, 0)] r_p 12)
    rw [bx_val_x (n := 8) (e := (8, 0)) h0_ rfl, bx_val_x (n := 9) (e := (9, 0)) h0_ rfl, bx_val_x (n := 10) (e := (10, 0)) h0_ rfl, bx_val_x (n := 11) (e := (11, 0)) h0_ rfl, bx_val_x (n := 12) (e := (12, 0)) h0_ rfl]
    exact g.2.2.1
  · show rxmFEDB_7 S0 ws S_p (bx_val [(0, 0), (0, 0), (0, 0), (0, 0), (0, 0), (0, 0), (0, 0), (0, 0), (8, 0), (9, 0), (10, 0), (11, 0), (12, 0)] r_p 8) (bx_val [(0, 0), (0, 0), (0, 0), (0, 0), (0, 0), (0, 0), (0, 0), (0, 0), (8, 0), (9, 0), (10, 0), (11, 0), (12, 0)] r_p 9) (bx_val [(0, 0), (0, 0), (0, 0), (0, 0), (0, 0), (0, 0), (0, 0), (0, 0), (8, 0), (9, 0), (10, 0), (11, 0), (12, 0)] r_p 10) (bx_val [(0, 0), (0, 0), (0, 0), (0, 0), (0, 0), (0, 0), (0, 0), (0, 0), (8, 0), (9, 0), (10, 0), (11, 0), (12, 0)] r_p 11) (bx_val [(0, 0), (0, 0), (0, 0), (0, 0), (0, 0), (0, 0), (0, 0), (0, 0), (8, 0), (9, 0), (10, 0), (11, 0), (12, 0)] r_p 12) < rxmFEDB_6 S0 ws S_p (r 8) (r 9) (r 10) (r 11) (r 12)
    rw [bx_val_x (n := 8) (e := (8, 0)) h0_ rfl, bx_val_x (n := 9) (e := (9, 0)) h0_ rfl, bx_val_x (n := 10) (e := (10, 0)) h0_ rfl, bx_val_x (n := 11) (e := (11, 0)) h0_ rfl, bx_val_x (n := 12) (e := (12, 0)) h0_ rfl, ← hr_ 8 (by decide), ← hr_ 9 (by decide), ← hr_ 10 (by decide), ← hr_ 11 (by decide), ← hr_ 12 (by decide)]
    exact g.2.2.2
theorem rxcFEDB_8_0 {S0 : Nat → Int → Int} {ws : List Int} {S : Nat → Int → Int} {b1 b2 b3 b4 b5 : Int} (hP : rxPFEDB S0 ws) (hin : bx_same rxL (bx_mdl rxC231.2.2.1) S0 S) (I0 : bx_Inv rxL S) (hinv : rxIFEDB_8 S0 ws S b1 b2 b3 b4 b5) (l8 : (-2147483648) ≤ b1) (u8 : b1 ≤ 2147483647) (l9 : (-2147483648) ≤ b2) (u9 : b2 ≤ 2147483647) (l10 : (-2147483648) ≤ b3) (u10 : b3 ≤ 2147483647) (l11 : (-2147483648) ≤ b4) (u11 : b4 ≤ 2147483647) (l12 : (-2147483648) ≤ b5) (u12 : b5 ≤ 2147483647) : (True) ∧ (True) ∧ rxIFEDB_9 S0 ws S b1 b2 b3 b4 b5 ∧ rxmFEDB_9 S0 ws S b1 b2 b3 b4 b5 < rxmFEDB_8 S0 ws S b1 b2 b3 b4 b5 := by
  exact ⟨trivial, trivial, hinv, by unfold rxmFEDB_8 rxmFEDB_9; omega⟩
theorem rxgFEDB_8_0 {X : (Nat → Int → Int) → Prop} {S0 : Nat → Int → Int} {ws : List Int} (hP : rxPFEDB S0 ws) : bx_obC rxL X S0 rxC231.2.2.1 (rxIFEDB S0 ws) (rxmFEDB S0 ws) 8 rxzFEDB_8 rxoFEDB_8_0 := by
  intro S S_p r r_p hinv hX hin hsm_ hseg
  obtain ⟨I0, I1, h0_, hr_, b_, f_, d_⟩ := bx_cl (evs := []) (fvs := []) hseg (by decide +kernel) (by decide +kernel)
  have hinv : rxIFEDB_8 S0 ws S (r 8) (r 9) (r 10) (r 11) (r 12) := hinv
  rw [← hr_ 8 (by decide), ← hr_ 9 (by decide), ← hr_ 10 (by decide), ← hr_ 11 (by decide), ← hr_ 12 (by decide)] at hinv
  obtain ⟨⟨l8, u8⟩, ⟨l9, u9⟩, ⟨l10, u10⟩, ⟨l11, u11⟩, ⟨l12, u12⟩, -⟩ := b_
  have w_ := d_
  subst w_
  have g := rxcFEDB_8_0 hP hin I0 hinv l8 u8 l9 u9 l10 u10 l11 u11 l12 u12
  refine ⟨bx_narP_ok (l := []) g.1, bx_nfP_ok h0_ (fvs := []) (by decide +kernel) g.2.1, ?_, ?_⟩
  · show rxIFEDB_9 S0 ws S_p (bx_val [(0, 0), (0, 0), (0, 0), (0, 0), (0, 0), (0, 0), (0, 0), (0, 0), (8, 0), (9, 0), (10, 0), (11, 0), (12, 0)] r_p 8) (bx_val [(0, 0), (0, 0), (0, 0), (0, 0), (0, 0), (0, 0), (0, 0), (0, 0), (8, 0), (9, 0), (10, 0), (11, 0), (12, 0)] r_p 9) (bx_val [(0, 0), (0, 0), (0, 0), (0, 0), (0, 0), (0, 0), (0, 0), (0, 0), (8, 0), (9, 0), (10, 0), (11, 0), (12, 0)] r_p 10) (bx_val [(0, 0), (0, 0), (0, 0), (0, 0), (0, 0), (0, 0), (0, 0), (0, 0), (8, 0), (9, 0), (10, 0), (11, 0), (12, 0)] r_p 11) (bx_val [(0, 0), (0, 0), (0, 0), (0, 0), (0, 0), (0, 0), (0, 0), (0, 0), (8, 0), (9, 0), (10, 0), (11, 0), (12, 0)] r_p 12)
    rw [bx_val_x (n := 8) (e := (8, 0)) h0_ rfl, bx_val_x (n := 9) (e := (9, 0)) h0_ rfl, bx_val_x (n := 10) (e := (10, 0)) h0_ rfl, bx_val_x (n := 11) (e := (11, 0)) h0_ rfl, bx_val_x (n := 12) (e := (12, 0)) h0_ rfl]
    exact g.2.2.1
  · show rxmFEDB_9 S0 ws S_p (bx_val [(0, 0), (0, 0), (0, 0), (0, 0), (0, 0), (0, 0), (0, 0), (0, 0), (8, 0), (9, 0), (10, 0), (11, 0), (12, 0)] r_p 8) (bx_val [(0, 0), (0, 0), (0, 0), (0, 0), (0, 0), (0, 0), (0, 0), (0, 0), (8, 0), (9, 0), (10, 0), (11, 0), (12, 0)] r_p 9) (bx_val [(0, 0), (0, 0), (0, 0), (0, 0), (0, 0), (0, 0), (0, 0), (0, 0), (8, 0), (9, 0), (10, 0), (11, 0), (12, 0)] r_p 10) (bx_val [(0, 0), (0, 0), (0, 0), (0, 0), (0, 0), (0, 0), (0, 0), (0, 0), (8, 0), (9, 0), (10, 0), (11, 0), (12, 0)] r_p 11) (bx_val [(0, 0), (0, 0), (0, 0), (0, 0), (0, 0), (0, 0), (0, 0), (0, 0), (8, 0), (9, 0), (10, 0), (11, 0), (12, 0)] r_p 12) < rxmFEDB_8 S0 ws S_p (r 8) (r 9) (r 10) (r 11) (r 12)
    rw [bx_val_x (n := 8) (e := (8, 0)) h0_ rfl, bx_val_x (n := 9) (e := (9, 0)) h0_ rfl, bx_val_x (n := 10) (e := (10, 0)) h0_ rfl, bx_val_x (n := 11) (e := (11, 0)) h0_ rfl, bx_val_x (n := 12) (e := (12, 0)) h0_ rfl, ← hr_ 8 (by decide), ← hr_ 9 (by decide), ← hr_ 10 (by decide), ← hr_ 11 (by decide), ← hr_ 12 (by decide)]
    exact g.2.2.2
theorem rxdFEDB_10_0 {S0 : Nat → Int → Int} {ws : List Int} {S : Nat → Int → Int} {b1 b2 b3 b4 b5 x13 : Int} (hP : rxPFEDB S0 ws) (hin : bx_same rxL (bx_mdl rxC231.2.2.1) S0 S) (hin2 : bx_same rxL (bx_mdl rxC231.2.2.1) S S) (I0 : bx_Inv rxL S) (I1 : bx_Inv rxL S) (hinv : rxIFEDB_10 S0 ws S b1 b2 b3 b4 b5) (l8 : (-2147483648) ≤ b1) (u8 : b1 ≤ 2147483647) (l9 : (-2147483648) ≤ b2) (u9 : b2 ≤ 2147483647) (l10 : (-2147483648) ≤ b3) (u10 : b3 ≤ 2147483647) (l11 : (-2147483648) ≤ b4) (u11 : b4 ≤ 2147483647) (l12 : (-2147483648) ≤ b5) (u12 : b5 ≤ 2147483647) (l13 : 0 ≤ x13) (u13 : x13 ≤ 400) (e0 : S 0 4 = x13) : (True) ∧ rxPSFEDB S0 ws S (some x13) := by
  obtain ⟨h1, hw, h3, h4⟩ := hinv
  exact ⟨trivial, b1, b2, b3, b4, b5, hw, Or.inr ⟨h1, congrArg some (by omega), by omega, h4⟩⟩
theorem rxfFEDB_10_0 {X : (Nat → Int → Int) → Prop} {S0 : Nat → Int → Int} {ws : List Int} (hP : rxPFEDB S0 ws) : bx_obE rxL X S0 rxC231.2.2.1 (rxIFEDB S0 ws) (rxPSFEDB S0 ws) 10 rxzFEDB_10 rxeFEDB_10_0 := by
  intro S S_p r r_p hinv hX hin hsm_ hseg
  obtain ⟨I0, I1, h0_, hr_, b_, f_, d_⟩ := bx_cl (evs := [(0, (0, 0), (0, 4), .inr (0, (13, 0)))]) (fvs := []) hseg (by decide +kernel) (by decide +kernel)
  have hinv : rxIFEDB_10 S0 ws S (r 8) (r 9) (r 10) (r 11) (r 12) := hinv
  rw [← hr_ 8 (by decide), ← hr_ 9 (by decide), ← hr_ 10 (by decide), ← hr_ 11 (by decide), ← hr_ 12 (by decide)] at hinv
  obtain ⟨⟨l8, u8⟩, ⟨l9, u9⟩, ⟨l10, u10⟩, ⟨l11, u11⟩, ⟨l12, u12⟩, ⟨l13, u13⟩, -⟩ := b_
  obtain ⟨e0, w_⟩ := d_
  subst w_
  have g := rxdFEDB_10_0 hP hin hsm_ I0 I1 hinv l8 u8 l9 u9 l10 u10 l11 u11 l12 u12 l13 u13 e0
  refine ⟨bx_narP_ok (l := []) g.1, ?_⟩
  show rxPSFEDB S0 ws S_p (some (bx_num r_p (.inr (0, (13, 0)))))
  rw [bx_xv_ok h0_]
  exact g.2
theorem rxgCFEDB {X : (Nat → Int → Int) → Prop} {S0 : Nat → Int → Int} {ws : List Int} (hP : rxPFEDB S0 ws) : bx_allI (fun i q => rxUFEDB q = true ∨ bx_allP (fun o => bx_obC rxL X S0 rxC231.2.2.1 (rxIFEDB S0 ws) (rxmFEDB S0 ws) i q.1 o) q.2.1) 0 rxYFEDB := ⟨Or.inr ⟨rxgFEDB_0_0 hP, trivial⟩, Or.inl rfl, Or.inr ⟨rxgFEDB_2_0 hP, trivial⟩, Or.inl rfl, Or.inr ⟨rxgFEDB_4_0 hP, trivial⟩, Or.inl rfl, Or.inr ⟨rxgFEDB_6_0 hP, trivial⟩, Or.inl rfl, Or.inr ⟨rxgFEDB_8_0 hP, trivial⟩, Or.inl rfl, Or.inr trivial, trivial⟩
theorem rxgEFEDB {X : (Nat → Int → Int) → Prop} {S0 : Nat → Int → Int} {ws : List Int} (hP : rxPFEDB S0 ws) : bx_allI (fun i q => rxUFEDB q = true ∨ bx_allP (fun E => bx_obE rxL X S0 rxC231.2.2.1 (rxIFEDB S0 ws) (rxPSFEDB S0 ws) i q.1 E) q.2.2) 0 rxYFEDB := ⟨Or.inr ⟨rxfFEDB_0_0 hP, trivial⟩, Or.inl rfl, Or.inr trivial, Or.inl rfl, Or.inr trivial, Or.inl rfl, Or.inr trivial, Or.inl rfl, Or.inr trivial, Or.inl rfl, Or.inr ⟨rxfFEDB_10_0 hP, trivial⟩, trivial⟩
theorem rxuFEDB {PX : State → Prop} {Dg : va_G} {A : Nat → Prop} {ad xa : Nat → Nat} {l : Launch} {X : (Nat → Int → Int) → Prop} (hPX : rx_PXOK rxNW A PX) (hX : ∀ S S1 : Nat → Int → Int, X S → bx_same rxL (bx_mdl rxC231.2.2.1) S S1 → X S1) (hQPUTB : bx_ConP rxG rxNW rxAO PX Dg rxL X vwCl A ad l rxM117 rxC117 rxPPUTB rxPSPUTB) {S0 : Nat → Int → Int} {ws : List Int} (hP : rxPFEDB S0 ws) : ∀ (i : Nat) (q : bx_HE), rxYFEDB[i]? = some q → rxUFEDB q = true → ∀ {p : Program} {e : Env} {R : Room} {s : State} {m : MethodId} {args : Array Value} {below : List Frame} {meth : Method} {c : Code} {Q : State → Prop} {H0 : Heap}, rx_Fr rxG rxNW rxAO PX p s m args meth c rxM231 → (∀ q, H0.size ≤ q → A q) → H0 = s.heap → rxM231.2.2.2.2.2.2.1 ≤ R.cells → rxM231.2.2.2.2.2.2.2 ≤ R.slots → rxC231.2.2.2.1 ≤ R.frames → rxC231.2.2.2.1 * 40 ≤ R.locals → bx_Step p l e R s m args below meth c Q Dg rxL X vwCl A xa H0 ad rxM231 rxYFEDB (rxIFEDB S0 ws) (rxmFEDB S0 ws) S0 rxC231.2.2.1 i q := by
  intro i q hq hus p e R s m args below meth c Q H0 hF hA hH0 hmc hms hd hdl
  match i, hq with
  | 0, hq =>
    cases hq
    exact absurd (show false = true from hus) Bool.false_ne_true
  | 1, hq =>
    cases hq
    exact rx_stepC (ins := .invokevirtual 204) (len := 3) (i_p := 2) (M_p := rxM117) (d := rxC231.2.2.2.1) (as := [.inr (3, (0, 0)), .inr (0, (8, 0))]) (t := []) (ct := rxC117) hPX hF rfl hA hH0 hmc hms hd hdl (by decide +kernel) rfl rfl (by decide +kernel) (by decide +kernel) hQPUTB (by decide +kernel) rfl (Or.inl ⟨rfl, rfl, rfl⟩) (rxsFEDB_1 hP)
  | 2, hq =>
    cases hq
    exact absurd (show false = true from hus) Bool.false_ne_true
  | 3, hq =>
    cases hq
    exact rx_stepC (ins := .invokevirtual 204) (len := 3) (i_p := 4) (M_p := rxM117) (d := rxC231.2.2.2.1) (as := [.inr (3, (0, 0)), .inr (0, (9, 0))]) (t := []) (ct := rxC117) hPX hF rfl hA hH0 hmc hms hd hdl (by decide +kernel) rfl rfl (by decide +kernel) (by decide +kernel) hQPUTB (by decide +kernel) rfl (Or.inl ⟨rfl, rfl, rfl⟩) (rxsFEDB_3 hP)
  | 4, hq =>
    cases hq
    exact absurd (show false = true from hus) Bool.false_ne_true
  | 5, hq =>
    cases hq
    exact rx_stepC (ins := .invokevirtual 204) (len := 3) (i_p := 6) (M_p := rxM117) (d := rxC231.2.2.2.1) (as := [.inr (3, (0, 0)), .inr (0, (10, 0))]) (t := []) (ct := rxC117) hPX hF rfl hA hH0 hmc hms hd hdl (by decide +kernel) rfl rfl (by decide +kernel) (by decide +kernel) hQPUTB (by decide +kernel) rfl (Or.inl ⟨rfl, rfl, rfl⟩) (rxsFEDB_5 hP)
  | 6, hq =>
    cases hq
    exact absurd (show false = true from hus) Bool.false_ne_true
  | 7, hq =>
    cases hq
    exact rx_stepC (ins := .invokevirtual 204) (len := 3) (i_p := 8) (M_p := rxM117) (d := rxC231.2.2.2.1) (as := [.inr (3, (0, 0)), .inr (0, (11, 0))]) (t := []) (ct := rxC117) hPX hF rfl hA hH0 hmc hms hd hdl (by decide +kernel) rfl rfl (by decide +kernel) (by decide +kernel) hQPUTB (by decide +kernel) rfl (Or.inl ⟨rfl, rfl, rfl⟩) (rxsFEDB_7 hP)
  | 8, hq =>
    cases hq
    exact absurd (show false = true from hus) Bool.false_ne_true
  | 9, hq =>
    cases hq
    exact rx_stepC (ins := .invokevirtual 204) (len := 3) (i_p := 10) (M_p := rxM117) (d := rxC231.2.2.2.1) (as := [.inr (3, (0, 0)), .inr (0, (12, 0))]) (t := []) (ct := rxC117) hPX hF rfl hA hH0 hmc hms hd hdl (by decide +kernel) rfl rfl (by decide +kernel) (by decide +kernel) hQPUTB (by decide +kernel) rfl (Or.inl ⟨rfl, rfl, rfl⟩) (rxsFEDB_9 hP)
  | 10, hq =>
    cases hq
    exact absurd (show false = true from hus) Bool.false_ne_true
  | n + 11, hq => cases hq
theorem rxQFEDB {PX : State → Prop} {Dg : va_G} {A : Nat → Prop} {ad xa : Nat → Nat} {l : Launch} {X : (Nat → Int → Int) → Prop} (hPX : rx_PXOK rxNW A PX) (hsl : ∀ s : State, PX s → ∀ o idx n : Nat, rxSl o idx = some n → ∃ tx : String, vk_R (rxNm o) idx tx (ad n) s)
    (hX : ∀ S S_p : Nat → Int → Int, X S → bx_same rxL (bx_mdl rxC231.2.2.1) S S_p → X S_p)
    (ih : ∀ (j2 : Nat) (ct2 : bx_Ct) (M2 : rx_Mt), ct2 ∈ rxCnE j2 → ct2.2.2.2.1 + 1 ≤ rxC231.2.2.2.1 → rxT.2.2.2.2.2 j2 = some M2 → bx_Con rxG rxNW rxAO PX Dg rxL X vwCl A ad l M2 ct2) (hQPUTB : bx_ConP rxG rxNW rxAO PX Dg rxL X vwCl A ad l rxM117 rxC117 rxPPUTB rxPSPUTB) : bx_ConP rxG rxNW rxAO PX Dg rxL X vwCl A ad l rxM231 rxC231 rxPFEDB rxPSFEDB :=
  rxQof (xa := xa) (Cn := rxCnE) (f := 30000) (j := 231) (tab := rxYFEDB) (us := rxUFEDB) hPX hsl hX ih rfl rxYcFEDB rxIFEDB rxmFEDB
    (fun S0 ws r I0 I ht0 ht as he he1 hX0 hI0 hP hs ha => by
      have e := he.symm.trans (show bx_ent0 rxNP rxC231.1 bx_I0 [] = some ([(0, 0), (0, 0), (0, 0), (0, 0), (0, 0), (0, 0), (0, 0), (0, 0), ((-2147483648), 2147483647), ((-2147483648), 2147483647), ((-2147483648), 2147483647), ((-2147483648), 2147483647), ((-2147483648), 2147483647)], [], [.inr (3, (0, 0)), .inr (0, (8, 0)), .inr (0, (9, 0)), .inr (0, (10, 0)), .inr (0, (11, 0)), .inr (0, (12, 0))]) from rfl)
      cases e
      subst ha
      have h0 : r 0 = 0 := hs.1
      show rxIFEDB_0 S0 _ S0 (r 8) (r 9) (r 10) (r 11) (r 12)
      refine ⟨rfl, ?_⟩
      simp only [List.map_cons, List.map_nil, bx_xv_ok h0]
      rfl)
    (fun S0 ws hP => rxuFEDB (xa := xa) hPX hX hQPUTB hP) (fun S0 ws hP => rxgCFEDB hP) (fun S0 ws hP => rxgEFEDB hP)
set_option maxHeartbeats 1000000 in
theorem rzQ231 {PX : State → Prop} {Dg : va_G} {A : Nat → Prop} {ad : Nat → Nat} {l : Launch} (hPX : rx_PXOK rxNW A PX) (hsl : ∀ s : State, PX s → ∀ o idx n : Nat, rxSl o idx = some n → ∃ tx : String, vk_R (rxNm o) idx tx (ad n) s) (ih : ∀ (j : Nat) (ct : bx_Ct) (M : rx_Mt), ct ∈ rxCn j → rxT.2.2.2.2.2 j = some M → bx_Con rxG rxNW rxAO PX Dg rxL rxX vwCl A ad l M ct) : bx_ConP rxG rxNW rxAO PX Dg rxL rxX vwCl A ad l rxM231 rxC231 (fun _ _ => True) rxPSFEDB := by
  have qPUTB := rxQPUTB (PX := PX) (Dg := Dg) (A := A) (ad := ad) (xa := fun n => n) (l := l) (X := rxX) hPX hsl (fun _ _ h hm => rxX_of (by decide +kernel) h hm) (fun _ _ _ h => absurd h List.not_mem_nil)
  have qFEDB := rxQFEDB (PX := PX) (Dg := Dg) (A := A) (ad := ad) (xa := fun n => n) (l := l) (X := rxX) hPX hsl (fun _ _ h hm => rxX_of (by decide +kernel) h hm) (fun _ _ _ h => absurd h List.not_mem_nil) qPUTB
  exact fun S0 ws h1 h2 h3 _ => qFEDB S0 ws h1 h2 h3 trivial
noncomputable def rxITRA_0 (S0 : Nat → Int → Int) (ws : List Int) (S : Nat → Int → Int) (at_ sc : Int) : Prop := S = S0 ∧ ws = [0, at_, sc]
noncomputable def rxmTRA_0 (S0 : Nat → Int → Int) (ws : List Int) (S : Nat → Int → Int) (at_ sc : Int) : Nat := 100
noncomputable def rxPTRA (S0 : Nat → Int → Int) (ws : List Int) : Prop := True
noncomputable def rxPSTRA (S0 : Nat → Int → Int) (ws : List Int) (S : Nat → Int → Int) (w : Option Int) : Prop := ∃ at_ sc : Int, ws = [0, at_, sc] ∧ w = some (if rzOk (fun i => S0 411 i) (S0 0 4) at_ then 1 else 0)
theorem rxdTRA_0_0 {S0 : Nat → Int → Int} {ws : List Int} {S : Nat → Int → Int} {at_ sc x10 : Int} (hP : rxPTRA S0 ws) (hin : bx_same rxL (bx_mdl rxC118.2.2.1) S0 S) (hin2 : bx_same rxL (bx_mdl rxC118.2.2.1) S S) (I0 : bx_Inv rxL S) (I1 : bx_Inv rxL S) (hinv : rxITRA_0 S0 ws S at_ sc) (l8 : 0 ≤ at_) (u8 : at_ ≤ 399) (l9 : 0 ≤ sc) (u9 : sc ≤ 1522) (l10 : 0 ≤ x10) (u10 : x10 ≤ 400) (f0 : x10 ≤ at_ + 3) (e0 : S 0 4 = x10) : (True) ∧ rxPSTRA S0 ws S (some 0) := by
  obtain ⟨rfl, hw⟩ := hinv
  have hk : ¬ (at_ + 3 < S 0 4 ∧ S 411 at_ ≤ 5 ∧ S 411 (at_ + 1) ≤ 5 ∧ S 411 (at_ + 2) ≤ 9 ∧ S 411 (at_ + 3) ≤ 5) := by
    omega
  exact ⟨trivial, at_, sc, hw, congrArg some (by rw [rzOk_f (T := fun i => S 411 i) hk]; rfl)⟩
theorem rxdTRA_0_1 {S0 : Nat → Int → Int} {ws : List Int} {S : Nat → Int → Int} {at_ sc x10 x11 x12 x13 x14 : Int} (hP : rxPTRA S0 ws) (hin : bx_same rxL (bx_mdl rxC118.2.2.1) S0 S) (hin2 : bx_same rxL (bx_mdl rxC118.2.2.1) S S) (I0 : bx_Inv rxL S) (I1 : bx_Inv rxL S) (hinv : rxITRA_0 S0 ws S at_ sc) (l8 : 0 ≤ at_) (u8 : at_ ≤ 396) (l9 : 0 ≤ sc) (u9 : sc ≤ 1522) (l10 : 4 ≤ x10) (u10 : x10 ≤ 400) (l11 : 6 ≤ x11) (u11 : x11 ≤ 255) (l12 : 0 ≤ x12) (u12 : x12 ≤ 255) (l13 : 0 ≤ x13) (u13 : x13 ≤ 255) (l14 : 0 ≤ x14) (u14 : x14 ≤ 255) (f0 : at_ + 3 < x10) (e4 : S 0 4 = x10) (e3 : S 411 at_ = x11) (e2 : S 411 (at_ + 1) = x12) (e1 : S 411 (at_ + 2) = x13) (e0 : S 411 (at_ + 3) = x14) : (True) ∧ rxPSTRA S0 ws S (some 0) := by
  obtain ⟨rfl, hw⟩ := hinv
  have hk : ¬ (at_ + 3 < S 0 4 ∧ S 411 at_ ≤ 5 ∧ S 411 (at_ + 1) ≤ 5 ∧ S 411 (at_ + 2) ≤ 9 ∧ S 411 (at_ + 3) ≤ 5) := by
    omega
  exact ⟨trivial, at_, sc, hw, congrArg some (by rw [rzOk_f (T := fun i => S 411 i) hk]; rfl)⟩
theorem rxdTRA_0_2 {S0 : Nat → Int → Int} {ws : List Int} {S : Nat → Int → Int} {at_ sc x10 x11 x12 x13 x14 : Int} (hP : rxPTRA S0 ws) (hin : bx_same rxL (bx_mdl rxC118.2.2.1) S0 S) (hin2 : bx_same rxL (bx_mdl rxC118.2.2.1) S S) (I0 : bx_Inv rxL S) (I1 : bx_Inv rxL S) (hinv : rxITRA_0 S0 ws S at_ sc) (l8 : 0 ≤ at_) (u8 : at_ ≤ 396) (l9 : 0 ≤ sc) (u9 : sc ≤ 1522) (l10 : 4 ≤ x10) (u10 : x10 ≤ 400) (l11 : 0 ≤ x11) (u11 : x11 ≤ 5) (l12 : 6 ≤ x12) (u12 : x12 ≤ 255) (l13 : 0 ≤ x13) (u13 : x13 ≤ 255) (l14 : 0 ≤ x14) (u14 : x14 ≤ 255) (f0 : at_ + 3 < x10) (e4 : S 0 4 = x10) (e3 : S 411 at_ = x11) (e2 : S 411 (at_ + 1) = x12) (e1 : S 411 (at_ + 2) = x13) (e0 : S 411 (at_ + 3) = x14) : (True) ∧ rxPSTRA S0 ws S (some 0) := by
  obtain ⟨rfl, hw⟩ := hinv
  have hk : ¬ (at_ + 3 < S 0 4 ∧ S 411 at_ ≤ 5 ∧ S 411 (at_ + 1) ≤ 5 ∧ S 411 (at_ + 2) ≤ 9 ∧ S 411 (at_ + 3) ≤ 5) := by
    omega
  exact ⟨trivial, at_, sc, hw, congrArg some (by rw [rzOk_f (T := fun i => S 411 i) hk]; rfl)⟩
theorem rxdTRA_0_3 {S0 : Nat → Int → Int} {ws : List Int} {S : Nat → Int → Int} {at_ sc x10 x11 x12 x13 x14 : Int} (hP : rxPTRA S0 ws) (hin : bx_same rxL (bx_mdl rxC118.2.2.1) S0 S) (hin2 : bx_same rxL (bx_mdl rxC118.2.2.1) S S) (I0 : bx_Inv rxL S) (I1 : bx_Inv rxL S) (hinv : rxITRA_0 S0 ws S at_ sc) (l8 : 0 ≤ at_) (u8 : at_ ≤ 396) (l9 : 0 ≤ sc) (u9 : sc ≤ 1522) (l10 : 4 ≤ x10) (u10 : x10 ≤ 400) (l11 : 0 ≤ x11) (u11 : x11 ≤ 5) (l12 : 0 ≤ x12) (u12 : x12 ≤ 5) (l13 : 0 ≤ x13) (u13 : x13 ≤ 9) (l14 : 6 ≤ x14) (u14 : x14 ≤ 255) (f0 : at_ + 3 < x10) (e4 : S 0 4 = x10) (e3 : S 411 at_ = x11) (e2 : S 411 (at_ + 1) = x12) (e1 : S 411 (at_ + 2) = x13) (e0 : S 411 (at_ + 3) = x14) : (True) ∧ rxPSTRA S0 ws S (some 0) := by
  obtain ⟨rfl, hw⟩ := hinv
  have hk : ¬ (at_ + 3 < S 0 4 ∧ S 411 at_ ≤ 5 ∧ S 411 (at_ + 1) ≤ 5 ∧ S 411 (at_ + 2) ≤ 9 ∧ S 411 (at_ + 3) ≤ 5) := by
    omega
  exact ⟨trivial, at_, sc, hw, congrArg some (by rw [rzOk_f (T := fun i => S 411 i) hk]; rfl)⟩
theorem rxdTRA_0_4 {S0 : Nat → Int → Int} {ws : List Int} {S : Nat → Int → Int} {at_ sc x10 x11 x12 x13 x14 x15 x16 x17 x18 x19 x20 : Int} (hP : rxPTRA S0 ws) (hin : bx_same rxL (bx_mdl rxC118.2.2.1) S0 S) (hin2 : bx_same rxL (bx_mdl rxC118.2.2.1) S (bx_up (bx_up S (x15).toNat x17 x13) (x18).toNat x20 x14)) (I0 : bx_Inv rxL S) (I1 : bx_Inv rxL (bx_up (bx_up S (x15).toNat x17 x13) (x18).toNat x20 x14)) (hinv : rxITRA_0 S0 ws S at_ sc) (l8 : 0 ≤ at_) (u8 : at_ ≤ 396) (l9 : 0 ≤ sc) (u9 : sc ≤ 1522) (l10 : 4 ≤ x10) (u10 : x10 ≤ 400) (l11 : 0 ≤ x11) (u11 : x11 ≤ 5) (l12 : 0 ≤ x12) (u12 : x12 ≤ 5) (l13 : 0 ≤ x13) (u13 : x13 ≤ 9) (l14 : 0 ≤ x14) (u14 : x14 ≤ 5) (l15 : 0 ≤ x15) (u15 : x15 ≤ 1522) (l16 : 0 ≤ x16) (u16 : x16 ≤ 30) (l17 : 0 ≤ x17) (u17 : x17 ≤ 35) (l18 : 0 ≤ x18) (u18 : x18 ≤ 1522) (l19 : 0 ≤ x19) (u19 : x19 ≤ 30) (l20 : 0 ≤ x20) (u20 : x20 ≤ 35) (f0 : x20 = x19 + x12) (f1 : x19 = 6 * (x11)) (f2 : x17 = x16 + x12) (f3 : x16 = 6 * (x11)) (f4 : at_ + 3 < x10) (e8 : S 0 4 = x10) (e7 : S 411 at_ = x11) (e6 : S 411 (at_ + 1) = x12) (e5 : S 411 (at_ + 2) = x13) (e4 : S 411 (at_ + 3) = x14) (e3 : S (sc).toNat 0 = x15) (e1 : (bx_up S (x15).toNat x17 x13) (sc).toNat 1 = x18) : (True) ∧ rxPSTRA S0 ws (bx_up (bx_up S (x15).toNat x17 x13) (x18).toNat x20 x14) (some 1) := by
  obtain ⟨rfl, hw⟩ := hinv
  have hk : at_ + 3 < S 0 4 ∧ S 411 at_ ≤ 5 ∧ S 411 (at_ + 1) ≤ 5 ∧ S 411 (at_ + 2) ≤ 9 ∧ S 411 (at_ + 3) ≤ 5 := by
    omega
  exact ⟨trivial, at_, sc, hw, congrArg some (by rw [rzOk_t (T := fun i => S 411 i) hk]; rfl)⟩
theorem rxdTRA_0_5 {S0 : Nat → Int → Int} {ws : List Int} {S : Nat → Int → Int} {at_ sc x10 x11 x12 x13 x14 : Int} (hP : rxPTRA S0 ws) (hin : bx_same rxL (bx_mdl rxC118.2.2.1) S0 S) (hin2 : bx_same rxL (bx_mdl rxC118.2.2.1) S S) (I0 : bx_Inv rxL S) (I1 : bx_Inv rxL S) (hinv : rxITRA_0 S0 ws S at_ sc) (l8 : 0 ≤ at_) (u8 : at_ ≤ 396) (l9 : 0 ≤ sc) (u9 : sc ≤ 1522) (l10 : 4 ≤ x10) (u10 : x10 ≤ 400) (l11 : 0 ≤ x11) (u11 : x11 ≤ 5) (l12 : 0 ≤ x12) (u12 : x12 ≤ 5) (l13 : 10 ≤ x13) (u13 : x13 ≤ 255) (l14 : 0 ≤ x14) (u14 : x14 ≤ 255) (f0 : at_ + 3 < x10) (e4 : S 0 4 = x10) (e3 : S 411 at_ = x11) (e2 : S 411 (at_ + 1) = x12) (e1 : S 411 (at_ + 2) = x13) (e0 : S 411 (at_ + 3) = x14) : (True) ∧ rxPSTRA S0 ws S (some 0) := by
  obtain ⟨rfl, hw⟩ := hinv
  have hk : ¬ (at_ + 3 < S 0 4 ∧ S 411 at_ ≤ 5 ∧ S 411 (at_ + 1) ≤ 5 ∧ S 411 (at_ + 2) ≤ 9 ∧ S 411 (at_ + 3) ≤ 5) := by
    omega
  exact ⟨trivial, at_, sc, hw, congrArg some (by rw [rzOk_f (T := fun i => S 411 i) hk]; rfl)⟩
noncomputable def rxIROWB_0 (S0 : Nat → Int → Int) (ws : List Int) (S : Nat → Int → Int) (pa : Int) : Prop := S = S0 ∧ ws = [0, pa]
noncomputable def rxmROWB_0 (S0 : Nat → Int → Int) (ws : List Int) (S : Nat → Int → Int) (pa : Int) : Nat := 100000
noncomputable def rxIROWB_1 (S0 : Nat → Int → Int) (ws : List Int) (S : Nat → Int → Int) (pa : Int) : Prop := S = S0 ∧ ((pa < 0 ∨ S 1 0 ≤ pa)) ∧ ws = [0, pa]
noncomputable def rxmROWB_1 (S0 : Nat → Int → Int) (ws : List Int) (S : Nat → Int → Int) (pa : Int) : Nat := 50
noncomputable def rxIROWB_2 (S0 : Nat → Int → Int) (ws : List Int) (S : Nat → Int → Int) (pa res : Int) : Prop := res = (-2) ∧ ((pa < 0 ∨ S0 1 0 ≤ pa)) ∧ ws = [0, pa] ∧ bx_same rxL (bx_mdl rxC110.2.2.1) S0 S
noncomputable def rxmROWB_2 (S0 : Nat → Int → Int) (ws : List Int) (S : Nat → Int → Int) (pa res : Int) : Nat := 20
noncomputable def rxIROWB_3 (S0 : Nat → Int → Int) (ws : List Int) (S : Nat → Int → Int) (pa : Int) : Prop := S = S0 ∧ (0 ≤ pa ∧ pa < S 1 0 ∧ S 0 4 = 0) ∧ ws = [0, pa]
noncomputable def rxmROWB_3 (S0 : Nat → Int → Int) (ws : List Int) (S : Nat → Int → Int) (pa : Int) : Nat := 50
noncomputable def rxIROWB_4 (S0 : Nat → Int → Int) (ws : List Int) (S : Nat → Int → Int) (pa res : Int) : Prop := res = (-6) ∧ (0 ≤ pa ∧ pa < S0 1 0 ∧ S0 0 4 = 0) ∧ ws = [0, pa] ∧ bx_same rxL (bx_mdl rxC110.2.2.1) S0 S
noncomputable def rxmROWB_4 (S0 : Nat → Int → Int) (ws : List Int) (S : Nat → Int → Int) (pa res : Int) : Nat := 20
noncomputable def rxIROWB_5 (S0 : Nat → Int → Int) (ws : List Int) (S : Nat → Int → Int) (pa sc n at_ : Int) : Prop := ws = [0, pa] ∧ 0 ≤ pa ∧ pa < S0 1 0 ∧ 0 < S0 0 4 ∧ S0 0 4 ≤ 400 ∧ S 0 4 = S0 0 4 ∧ (∀ i : Int, 0 ≤ i → i < 400 → S 411 i = S0 411 i) ∧ ∃ m : Nat, at_ = 4 * (m : Int) ∧ at_ < S0 0 4 + 4 ∧ n = rzCnt (fun i => S0 411 i) (S0 0 4) m ∧ S 0 7 = (m : Int) - n
noncomputable def rxmROWB_5 (S0 : Nat → Int → Int) (ws : List Int) (S : Nat → Int → Int) (pa sc n at_ : Int) : Nat := (500 - at_).toNat * 10 + 9
noncomputable def rxIROWB_6 (S0 : Nat → Int → Int) (ws : List Int) (S : Nat → Int → Int) (pa sc n at_ : Int) : Prop := ws = [0, pa] ∧ 0 ≤ pa ∧ pa < S0 1 0 ∧ 0 < S0 0 4 ∧ S0 0 4 ≤ 400 ∧ S 0 4 = S0 0 4 ∧ (∀ i : Int, 0 ≤ i → i < 400 → S 411 i = S0 411 i) ∧ ∃ m : Nat, at_ = 4 * (m : Int) ∧ at_ < S0 0 4 + 4 ∧ n = rzCnt (fun i => S0 411 i) (S0 0 4) m ∧ S 0 7 = (m : Int) - n ∧ at_ < S0 0 4
noncomputable def rxmROWB_6 (S0 : Nat → Int → Int) (ws : List Int) (S : Nat → Int → Int) (pa sc n at_ : Int) : Nat := (500 - at_).toNat * 10 + 8
noncomputable def rxIROWB_7 (S0 : Nat → Int → Int) (ws : List Int) (S : Nat → Int → Int) (pa sc n at_ ok : Int) : Prop := ws = [0, pa] ∧ 0 ≤ pa ∧ pa < S0 1 0 ∧ 0 < S0 0 4 ∧ S0 0 4 ≤ 400 ∧ S 0 4 = S0 0 4 ∧ (∀ i : Int, 0 ≤ i → i < 400 → S 411 i = S0 411 i) ∧ ∃ m : Nat, at_ = 4 * (m : Int) ∧ at_ < S0 0 4 + 4 ∧ n = rzCnt (fun i => S0 411 i) (S0 0 4) m ∧ S 0 7 = (m : Int) - n ∧ at_ < S0 0 4 ∧ ok = (if rzOk (fun i => S0 411 i) (S0 0 4) at_ then 1 else 0)
noncomputable def rxmROWB_7 (S0 : Nat → Int → Int) (ws : List Int) (S : Nat → Int → Int) (pa sc n at_ ok : Int) : Nat := (500 - at_).toNat * 10 + 7
noncomputable def rxIROWB_8 (S0 : Nat → Int → Int) (ws : List Int) (S : Nat → Int → Int) (pa sc n at_ x : Int) : Prop := ws = [0, pa] ∧ 0 ≤ pa ∧ pa < S0 1 0 ∧ 0 < S0 0 4 ∧ S0 0 4 ≤ 400 ∧ S 0 4 = S0 0 4 ∧ (∀ i : Int, 0 ≤ i → i < 400 → S 411 i = S0 411 i) ∧ ∃ m : Nat, at_ = 4 * (m : Int) ∧ at_ < S0 0 4 + 4 ∧ n = rzCnt (fun i => S0 411 i) (S0 0 4) m ∧ x = (m : Int) - n ∧ at_ < S0 0 4 ∧ rzOk (fun i => S0 411 i) (S0 0 4) at_ = false
noncomputable def rxmROWB_8 (S0 : Nat → Int → Int) (ws : List Int) (S : Nat → Int → Int) (pa sc n at_ x : Int) : Nat := (500 - at_).toNat * 10 + 6
noncomputable def rxIROWB_9 (S0 : Nat → Int → Int) (ws : List Int) (S : Nat → Int → Int) (pa sc n at_ x y : Int) : Prop := ws = [0, pa] ∧ 0 ≤ pa ∧ pa < S0 1 0 ∧ 0 < S0 0 4 ∧ S0 0 4 ≤ 400 ∧ S 0 4 = S0 0 4 ∧ (∀ i : Int, 0 ≤ i → i < 400 → S 411 i = S0 411 i) ∧ ∃ m : Nat, at_ = 4 * (m : Int) ∧ at_ < S0 0 4 + 4 ∧ n = rzCnt (fun i => S0 411 i) (S0 0 4) m ∧ y = (m : Int) + 1 - n ∧ at_ < S0 0 4 ∧ rzOk (fun i => S0 411 i) (S0 0 4) at_ = false
noncomputable def rxmROWB_9 (S0 : Nat → Int → Int) (ws : List Int) (S : Nat → Int → Int) (pa sc n at_ x y : Int) : Nat := (500 - at_).toNat * 10 + 5
noncomputable def rxPROWB (S0 : Nat → Int → Int) (ws : List Int) : Prop := True
noncomputable def rxPSROWB (S0 : Nat → Int → Int) (ws : List Int) (S : Nat → Int → Int) (w : Option Int) : Prop := ∃ pa : Int, ws = [0, pa] ∧ (((pa < 0 ∨ S0 1 0 ≤ pa) ∧ w = some (-2) ∧ bx_same rxL (bx_mdl rxC110.2.2.1) S0 S) ∨ (0 ≤ pa ∧ pa < S0 1 0 ∧ S0 0 4 = 0 ∧ w = some (-6) ∧ bx_same rxL (bx_mdl rxC110.2.2.1) S0 S) ∨ (0 ≤ pa ∧ pa < S0 1 0 ∧ 0 < S0 0 4 ∧ S0 0 4 ≤ 400 ∧ w = some (rzRC S0 0 4 411) ∧ S 0 4 = 0 ∧ S 0 7 = rzPR S0 0 4 411))
theorem rxkROWB_1 {S0 : Nat → Int → Int} {ws : List Int} {S : Nat → Int → Int} {pa : Int} (hP : rxPROWB S0 ws) (hin : bx_same rxL (bx_mdl rxC235.2.2.1) S0 S) (I0 : bx_Inv rxL S) (hinv : rxIROWB_1 S0 ws S pa) (l8 : (-2147483648) ≤ pa) (u8 : pa ≤ 2147483647) : rxP110 S [0, (-2)] ∧ ∀ (S_p : Nat → Int → Int) (res : Int), (-6) ≤ res → res ≤ (-1) → rxPS110 S [0, (-2)] S_p (some res) → bx_Inv rxL S_p → bx_same rxL (bx_mdl rxC110.2.2.1) S S_p → rxIROWB_2 S0 ws S_p pa res ∧ rxmROWB_2 S0 ws S_p pa res < rxmROWB_1 S0 ws S pa := by
  obtain ⟨rfl, h1, hw⟩ := hinv
  refine ⟨trivial, fun S_p res _ _ hq _ hsm => ⟨⟨?_, h1, hw, hsm⟩, by unfold rxmROWB_1 rxmROWB_2; omega⟩⟩
  obtain ⟨c, hc, hr⟩ := hq
  simp only [List.cons.injEq, and_true, true_and] at hc
  simp only [Option.some.injEq] at hr
  omega
theorem rxkROWB_3 {S0 : Nat → Int → Int} {ws : List Int} {S : Nat → Int → Int} {pa : Int} (hP : rxPROWB S0 ws) (hin : bx_same rxL (bx_mdl rxC235.2.2.1) S0 S) (I0 : bx_Inv rxL S) (hinv : rxIROWB_3 S0 ws S pa) (l8 : 0 ≤ pa) (u8 : pa ≤ 5) : rxP110 S [0, (-6)] ∧ ∀ (S_p : Nat → Int → Int) (res : Int), (-6) ≤ res → res ≤ (-1) → rxPS110 S [0, (-6)] S_p (some res) → bx_Inv rxL S_p → bx_same rxL (bx_mdl rxC110.2.2.1) S S_p → rxIROWB_4 S0 ws S_p pa res ∧ rxmROWB_4 S0 ws S_p pa res < rxmROWB_3 S0 ws S pa := by
  obtain ⟨rfl, h1, hw⟩ := hinv
  refine ⟨trivial, fun S_p res _ _ hq _ hsm => ⟨⟨?_, h1, hw, hsm⟩, by unfold rxmROWB_3 rxmROWB_4; omega⟩⟩
  obtain ⟨c, hc, hr⟩ := hq
  simp only [List.cons.injEq, and_true, true_and] at hc
  simp only [Option.some.injEq] at hr
  omega
theorem rxkROWB_6 {S0 : Nat → Int → Int} {ws : List Int} {S : Nat → Int → Int} {pa sc n at_ : Int} (hP : rxPROWB S0 ws) (hin : bx_same rxL (bx_mdl rxC235.2.2.1) S0 S) (I0 : bx_Inv rxL S) (hinv : rxIROWB_6 S0 ws S pa sc n at_) (l8 : 0 ≤ pa) (u8 : pa ≤ 5) (l9 : 0 ≤ sc) (u9 : sc ≤ 1522) (l10 : 0 ≤ n) (u10 : n ≤ 100) (l11 : 0 ≤ at_) (u11 : at_ ≤ 399) : rxPTRA S [0, at_, sc] ∧ ∀ (S_p : Nat → Int → Int) (ok : Int), 0 ≤ ok → ok ≤ 1 → rxPSTRA S [0, at_, sc] S_p (some ok) → bx_Inv rxL S_p → bx_same rxL (bx_mdl rxC118.2.2.1) S S_p → rxIROWB_7 S0 ws S_p pa sc n at_ ok ∧ rxmROWB_7 S0 ws S_p pa sc n at_ ok < rxmROWB_6 S0 ws S pa sc n at_ := by
  obtain ⟨hw, g0, g1, g2, g3, h4, ht, m, hm, hm2, hn, h7, h8⟩ := hinv
  refine ⟨trivial, fun S_p ok _ _ hq _ hsm => ?_⟩
  obtain ⟨a2, s2, q1, q2⟩ := hq
  have q1 : at_ = a2 := Option.some.inj (congrArg (fun l : List Int => l[1]?) q1)
  subst q1
  have f4 : S_p 0 4 = S 0 4 := hsm 0 4 (by decide) (by decide) (by decide +kernel)
  have f7 : S_p 0 7 = S 0 7 := hsm 0 7 (by decide) (by decide) (by decide +kernel)
  have ft := rz_fd hsm (p := 411) (n := 400) (c := 1032) (k := 0) (by decide +kernel) (by decide) (by decide +kernel)
  refine ⟨⟨hw, g0, g1, g2, g3, f4.trans h4, fun i i0 i1 => (ft i i0 i1).trans (ht i i0 i1), m, hm, hm2, hn, f7.trans h7, h8, ?_⟩, by unfold rxmROWB_6 rxmROWB_7; omega⟩
  have q2 := Option.some.inj q2
  rw [q2, h4, rzOk_cg (T := fun i => S 411 i) (U := fun i => S0 411 i) (n := S0 0 4) (k := at_) ht g3 (by omega)]
theorem rxbROWB_8 {S0 : Nat → Int → Int} {ws : List Int} {S : Nat → Int → Int} {pa sc n at_ x : Int} (hP : rxPROWB S0 ws) (hin : bx_same rxL (bx_mdl rxC235.2.2.1) S0 S) (I0 : bx_Inv rxL S) (hinv : rxIROWB_8 S0 ws S pa sc n at_ x) (l8 : 0 ≤ pa) (u8 : pa ≤ 5) (l9 : 0 ≤ sc) (u9 : sc ≤ 1522) (l10 : 0 ≤ n) (u10 : n ≤ 100) (l11 : 0 ≤ at_) (u11 : at_ ≤ 399) (l12 : (-2147483648) ≤ x) (u12 : x ≤ 2147483647) : bx_opcB 33 x 1 ∧ ∀ y : Int, y = bx_opvB 33 x 1 → ((-2147483648) ≤ y ∧ y ≤ 2147483647) ∧ rxIROWB_9 S0 ws S pa sc n at_ x y ∧ rxmROWB_9 S0 ws S pa sc n at_ x y < rxmROWB_8 S0 ws S pa sc n at_ x := by
  obtain ⟨hw, g0, g1, g2, g3, h4, ht, m, hm, hm2, hn, hx, h8, hk⟩ := hinv
  have b := rzCnt_b (T := fun i => S0 411 i) (n := S0 0 4) m
  refine ⟨⟨⟨by omega, by omega⟩, show (-2147483648 : Int) ≤ 1 ∧ (1 : Int) ≤ 2147483647 ∧ -2147483648 ≤ x + 1 ∧ x + 1 ≤ 2147483647 by omega⟩, fun y hv => ?_⟩
  have hv : y = x + 1 := hv
  exact ⟨by omega, ⟨hw, g0, g1, g2, g3, h4, ht, m, hm, hm2, hn, by omega, h8, hk⟩, by unfold rxmROWB_8 rxmROWB_9; omega⟩
theorem rxcROWB_0_0 {S0 : Nat → Int → Int} {ws : List Int} {S : Nat → Int → Int} {pa : Int} (hP : rxPROWB S0 ws) (hin : bx_same rxL (bx_mdl rxC235.2.2.1) S0 S) (I0 : bx_Inv rxL S) (hinv : rxIROWB_0 S0 ws S pa) (l8 : (-2147483648) ≤ pa) (u8 : pa ≤ (-1)) : (True) ∧ (True) ∧ rxIROWB_1 S0 ws S pa ∧ rxmROWB_1 S0 ws S pa < rxmROWB_0 S0 ws S pa := by
  obtain ⟨rfl, hw⟩ := hinv
  exact ⟨trivial, trivial, ⟨rfl, by omega, hw⟩, by unfold rxmROWB_0 rxmROWB_1; omega⟩
theorem rxcROWB_0_1 {S0 : Nat → Int → Int} {ws : List Int} {S : Nat → Int → Int} {pa x9 : Int} (hP : rxPROWB S0 ws) (hin : bx_same rxL (bx_mdl rxC235.2.2.1) S0 S) (I0 : bx_Inv rxL S) (hinv : rxIROWB_0 S0 ws S pa) (l8 : 0 ≤ pa) (u8 : pa ≤ 2147483647) (l9 : 0 ≤ x9) (u9 : x9 ≤ 6) (f0 : x9 ≤ pa) (e0 : S 1 0 = x9) : (True) ∧ (True) ∧ rxIROWB_1 S0 ws S pa ∧ rxmROWB_1 S0 ws S pa < rxmROWB_0 S0 ws S pa := by
  obtain ⟨rfl, hw⟩ := hinv
  exact ⟨trivial, trivial, ⟨rfl, by omega, hw⟩, by unfold rxmROWB_0 rxmROWB_1; omega⟩
theorem rxcROWB_0_2 {S0 : Nat → Int → Int} {ws : List Int} {S : Nat → Int → Int} {pa x9 x10 : Int} (hP : rxPROWB S0 ws) (hin : bx_same rxL (bx_mdl rxC235.2.2.1) S0 S) (I0 : bx_Inv rxL S) (hinv : rxIROWB_0 S0 ws S pa) (l8 : 0 ≤ pa) (u8 : pa ≤ 5) (l9 : 1 ≤ x9) (u9 : x9 ≤ 6) (l10 : 0 ≤ x10) (u10 : x10 ≤ 0) (f0 : pa < x9) (e1 : S 1 0 = x9) (e0 : S 0 4 = x10) : (True) ∧ (True) ∧ rxIROWB_3 S0 ws S pa ∧ rxmROWB_3 S0 ws S pa < rxmROWB_0 S0 ws S pa := by
  obtain ⟨rfl, hw⟩ := hinv
  exact ⟨trivial, trivial, ⟨rfl, ⟨by omega, by omega, by omega⟩, hw⟩, by unfold rxmROWB_0 rxmROWB_3; omega⟩
theorem rxcROWB_0_3 {S0 : Nat → Int → Int} {ws : List Int} {S : Nat → Int → Int} {pa x9 x10 x11 : Int} (hP : rxPROWB S0 ws) (hin : bx_same rxL (bx_mdl rxC235.2.2.1) S0 S) (I0 : bx_Inv rxL S) (hinv : rxIROWB_0 S0 ws S pa) (l8 : 0 ≤ pa) (u8 : pa ≤ 5) (l9 : 1 ≤ x9) (u9 : x9 ≤ 6) (l10 : 1 ≤ x10) (u10 : x10 ≤ 400) (l11 : 0 ≤ x11) (u11 : x11 ≤ 1522) (f0 : x10 ≠ 0) (f1 : pa < x9) (e3 : S 1 0 = x9) (e2 : S 0 4 = x10) (e1 : S 4 pa = x11) : (True) ∧ (True) ∧ rxIROWB_5 S0 ws (bx_up S 0 7 0) pa x11 0 0 ∧ rxmROWB_5 S0 ws (bx_up S 0 7 0) pa x11 0 0 < rxmROWB_0 S0 ws S pa := by
  obtain ⟨rfl, hw⟩ := hinv
  exact ⟨by first | exact trivial | exact ⟨⟨by omega, by omega⟩, trivial⟩ | exact ⟨⟨by omega, by omega⟩, ⟨by omega, by omega⟩, trivial⟩ | exact ⟨⟨by omega, by omega⟩, ⟨by omega, by omega⟩, ⟨by omega, by omega⟩, trivial⟩, trivial, ⟨hw, by omega, by omega, by omega, by omega, bx_up_ne (by omega), fun i i0 i1 => bx_up_ne (by omega), 0, by omega, by omega, rfl, bx_up_at.trans (by omega)⟩, by unfold rxmROWB_0 rxmROWB_5; omega⟩
theorem rxdROWB_2_0 {S0 : Nat → Int → Int} {ws : List Int} {S : Nat → Int → Int} {pa res : Int} (hP : rxPROWB S0 ws) (hin : bx_same rxL (bx_mdl rxC235.2.2.1) S0 S) (hin2 : bx_same rxL (bx_mdl rxC235.2.2.1) S S) (I0 : bx_Inv rxL S) (I1 : bx_Inv rxL S) (hinv : rxIROWB_2 S0 ws S pa res) (l8 : (-2147483648) ≤ pa) (u8 : pa ≤ 2147483647) (l9 : (-6) ≤ res) (u9 : res ≤ (-1)) : (True) ∧ rxPSROWB S0 ws S (some res) := by
  obtain ⟨h1, h2, hw, hs⟩ := hinv
  exact ⟨trivial, pa, hw, Or.inl ⟨h2, congrArg some h1, hs⟩⟩
theorem rxdROWB_4_0 {S0 : Nat → Int → Int} {ws : List Int} {S : Nat → Int → Int} {pa res : Int} (hP : rxPROWB S0 ws) (hin : bx_same rxL (bx_mdl rxC235.2.2.1) S0 S) (hin2 : bx_same rxL (bx_mdl rxC235.2.2.1) S S) (I0 : bx_Inv rxL S) (I1 : bx_Inv rxL S) (hinv : rxIROWB_4 S0 ws S pa res) (l8 : 0 ≤ pa) (u8 : pa ≤ 5) (l9 : (-6) ≤ res) (u9 : res ≤ (-1)) : (True) ∧ rxPSROWB S0 ws S (some res) := by
  obtain ⟨h1, h2, hw, hs⟩ := hinv
  exact ⟨trivial, pa, hw, Or.inr (Or.inl ⟨h2.1, h2.2.1, h2.2.2, congrArg some h1, hs⟩)⟩
theorem rxcROWB_5_0 {S0 : Nat → Int → Int} {ws : List Int} {S : Nat → Int → Int} {pa sc n at_ x12 : Int} (hP : rxPROWB S0 ws) (hin : bx_same rxL (bx_mdl rxC235.2.2.1) S0 S) (I0 : bx_Inv rxL S) (hinv : rxIROWB_5 S0 ws S pa sc n at_) (l8 : 0 ≤ pa) (u8 : pa ≤ 5) (l9 : 0 ≤ sc) (u9 : sc ≤ 1522) (l10 : 0 ≤ n) (u10 : n ≤ 101) (l11 : 0 ≤ at_) (u11 : at_ ≤ 399) (l12 : 1 ≤ x12) (u12 : x12 ≤ 400) (f0 : at_ < x12) (e0 : S 0 4 = x12) : ((0 ≤ n ∧ n ≤ 100) ∧ True) ∧ (True) ∧ rxIROWB_6 S0 ws S pa sc n at_ ∧ rxmROWB_6 S0 ws S pa sc n at_ < rxmROWB_5 S0 ws S pa sc n at_ := by
  obtain ⟨hw, g0, g1, g2, g3, h4, ht, m, hm, hm2, hn, h7⟩ := hinv
  have b := rzCnt_b (T := fun i => S0 411 i) (n := S0 0 4) m
  exact ⟨by first | exact trivial | exact ⟨⟨by omega, by omega⟩, trivial⟩ | exact ⟨⟨by omega, by omega⟩, ⟨by omega, by omega⟩, trivial⟩ | exact ⟨⟨by omega, by omega⟩, ⟨by omega, by omega⟩, ⟨by omega, by omega⟩, trivial⟩, trivial, ⟨hw, g0, g1, g2, g3, h4, ht, m, hm, hm2, hn, h7, by omega⟩, by unfold rxmROWB_5 rxmROWB_6; omega⟩
theorem rxdROWB_5_0 {S0 : Nat → Int → Int} {ws : List Int} {S : Nat → Int → Int} {pa sc n at_ x12 : Int} (hP : rxPROWB S0 ws) (hin : bx_same rxL (bx_mdl rxC235.2.2.1) S0 S) (hin2 : bx_same rxL (bx_mdl rxC235.2.2.1) S (bx_up (bx_up S 0 4 0) 0 8 0)) (I0 : bx_Inv rxL S) (I1 : bx_Inv rxL (bx_up (bx_up S 0 4 0) 0 8 0)) (hinv : rxIROWB_5 S0 ws S pa sc n at_) (l8 : 0 ≤ pa) (u8 : pa ≤ 5) (l9 : 0 ≤ sc) (u9 : sc ≤ 1522) (l10 : 0 ≤ n) (u10 : n ≤ 101) (l11 : 0 ≤ at_) (u11 : at_ ≤ 403) (l12 : 0 ≤ x12) (u12 : x12 ≤ 400) (f0 : x12 ≤ at_) (e2 : S 0 4 = x12) : (True) ∧ rxPSROWB S0 ws (bx_up (bx_up S 0 4 0) 0 8 0) (some n) := by
  obtain ⟨hw, g0, g1, g2, g3, h4, ht, m, hm, hm2, hn, h7⟩ := hinv
  have em : ((S0 0 4 + 3) / 4).toNat = m := by omega
  have e1 : n = rzRC S0 0 4 411 := by
    unfold rzRC
    rw [em]
    exact hn
  have e2 : S 0 7 = rzPR S0 0 4 411 := by
    unfold rzPR
    rw [← e1]
    omega
  exact ⟨trivial, pa, hw, Or.inr (Or.inr ⟨g0, g1, g2, g3, congrArg some e1, (bx_up_ne (by omega)).trans bx_up_at, (bx_up_ne (by omega)).trans ((bx_up_ne (by omega)).trans e2)⟩)⟩
theorem rxcROWB_7_0 {S0 : Nat → Int → Int} {ws : List Int} {S : Nat → Int → Int} {pa sc n at_ ok : Int} (hP : rxPROWB S0 ws) (hin : bx_same rxL (bx_mdl rxC235.2.2.1) S0 S) (I0 : bx_Inv rxL S) (hinv : rxIROWB_7 S0 ws S pa sc n at_ ok) (l8 : 0 ≤ pa) (u8 : pa ≤ 5) (l9 : 0 ≤ sc) (u9 : sc ≤ 1522) (l10 : 0 ≤ n) (u10 : n ≤ 100) (l11 : 0 ≤ at_) (u11 : at_ ≤ 399) (l12 : 1 ≤ ok) (u12 : ok ≤ 1) (f0 : ok ≠ 0) : (True) ∧ (True) ∧ rxIROWB_5 S0 ws S pa sc (n + 1) (at_ + 4) ∧ rxmROWB_5 S0 ws S pa sc (n + 1) (at_ + 4) < rxmROWB_7 S0 ws S pa sc n at_ ok := by
  obtain ⟨hw, g0, g1, g2, g3, h4, ht, m, hm, hm2, hn, h7, h8, ho⟩ := hinv
  have hk : rzOk (fun i => S0 411 i) (S0 0 4) at_ = true := by
    cases hq : rzOk (fun i => S0 411 i) (S0 0 4) at_
    · rw [hq, if_neg (by decide)] at ho
      omega
    · rfl
  exact ⟨by first | exact trivial | exact ⟨⟨by omega, by omega⟩, trivial⟩ | exact ⟨⟨by omega, by omega⟩, ⟨by omega, by omega⟩, trivial⟩ | exact ⟨⟨by omega, by omega⟩, ⟨by omega, by omega⟩, ⟨by omega, by omega⟩, trivial⟩, trivial, ⟨hw, g0, g1, g2, g3, h4, ht, m + 1, by omega, by omega, rzCnt_t hm hk hn rfl, by omega⟩, by unfold rxmROWB_7 rxmROWB_5; omega⟩
theorem rxcROWB_7_1 {S0 : Nat → Int → Int} {ws : List Int} {S : Nat → Int → Int} {pa sc n at_ ok x13 : Int} (hP : rxPROWB S0 ws) (hin : bx_same rxL (bx_mdl rxC235.2.2.1) S0 S) (I0 : bx_Inv rxL S) (hinv : rxIROWB_7 S0 ws S pa sc n at_ ok) (l8 : 0 ≤ pa) (u8 : pa ≤ 5) (l9 : 0 ≤ sc) (u9 : sc ≤ 1522) (l10 : 0 ≤ n) (u10 : n ≤ 100) (l11 : 0 ≤ at_) (u11 : at_ ≤ 399) (l12 : 0 ≤ ok) (u12 : ok ≤ 0) (l13 : (-2147483648) ≤ x13) (u13 : x13 ≤ 2147483647) (e0 : S 0 7 = x13) : (True) ∧ (True) ∧ rxIROWB_8 S0 ws S pa sc n at_ x13 ∧ rxmROWB_8 S0 ws S pa sc n at_ x13 < rxmROWB_7 S0 ws S pa sc n at_ ok := by
  obtain ⟨hw, g0, g1, g2, g3, h4, ht, m, hm, hm2, hn, h7, h8, ho⟩ := hinv
  have hk : rzOk (fun i => S0 411 i) (S0 0 4) at_ = false := by
    cases hq : rzOk (fun i => S0 411 i) (S0 0 4) at_
    · rfl
    · rw [hq, if_pos rfl] at ho
      omega
  exact ⟨by first | exact trivial | exact ⟨⟨by omega, by omega⟩, trivial⟩ | exact ⟨⟨by omega, by omega⟩, ⟨by omega, by omega⟩, trivial⟩ | exact ⟨⟨by omega, by omega⟩, ⟨by omega, by omega⟩, ⟨by omega, by omega⟩, trivial⟩, trivial, ⟨hw, g0, g1, g2, g3, h4, ht, m, hm, hm2, hn, by omega, h8, hk⟩, by unfold rxmROWB_7 rxmROWB_8; omega⟩
theorem rxcROWB_9_0 {S0 : Nat → Int → Int} {ws : List Int} {S : Nat → Int → Int} {pa sc n at_ x y : Int} (hP : rxPROWB S0 ws) (hin : bx_same rxL (bx_mdl rxC235.2.2.1) S0 S) (I0 : bx_Inv rxL S) (hinv : rxIROWB_9 S0 ws S pa sc n at_ x y) (l8 : 0 ≤ pa) (u8 : pa ≤ 5) (l9 : 0 ≤ sc) (u9 : sc ≤ 1522) (l10 : 0 ≤ n) (u10 : n ≤ 100) (l11 : 0 ≤ at_) (u11 : at_ ≤ 399) (l12 : (-2147483648) ≤ x) (u12 : x ≤ 2147483647) (l13 : (-2147483648) ≤ y) (u13 : y ≤ 2147483647) : (True) ∧ (True) ∧ rxIROWB_5 S0 ws (bx_up S 0 7 y) pa sc n (at_ + 4) ∧ rxmROWB_5 S0 ws (bx_up S 0 7 y) pa sc n (at_ + 4) < rxmROWB_9 S0 ws S pa sc n at_ x y := by
  obtain ⟨hw, g0, g1, g2, g3, h4, ht, m, hm, hm2, hn, hy, h8, hk⟩ := hinv
  exact ⟨by first | exact trivial | exact ⟨⟨by omega, by omega⟩, trivial⟩ | exact ⟨⟨by omega, by omega⟩, ⟨by omega, by omega⟩, trivial⟩ | exact ⟨⟨by omega, by omega⟩, ⟨by omega, by omega⟩, ⟨by omega, by omega⟩, trivial⟩, trivial, ⟨hw, g0, g1, g2, g3, (bx_up_ne (by omega)).trans h4, fun i i0 i1 => (bx_up_ne (by omega)).trans (ht i i0 i1), m + 1, by omega, by omega, rzCnt_f hm hk hn, bx_up_at.trans (by omega)⟩, by unfold rxmROWB_9 rxmROWB_5; omega⟩