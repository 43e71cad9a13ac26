/-! CONTRACT BY HAND, by program (wip/sim/genhand.py): DeadUnderstudies.stage -/
def rxISGD_0 (S0 : Nat → Int → Int) (ws : List Int) (S : Nat → Int → Int) (pa wh : Int) : Prop := S = S0 ∧ ws = [0, pa, wh]
def rxmSGD_0 (S0 : Nat → Int → Int) (ws : List Int) (S : Nat → Int → Int) (pa wh : Int) : Nat := 100
def rxzSGD_0 : rx_Z := ([(0, 0), (0, 0), (0, 0), (0, 0), (0, 0), (0, 0), (0, 0), (0, 0), ((-2147483648), 2147483647), ((-2147483648), 2147483647)], [], [], 0, 0, 0, [(0, .inr (3, (0, 0))), (1, .inr (0, (8, 0))), (2, .inr (0, (9, 0)))], [])
def rxISGD_1 (S0 : Nat → Int → Int) (ws : List Int) (S : Nat → Int → Int) (pa wh : Int) : Prop := S = S0 ∧ ws = [0, pa, wh] ∧ pa < S0 1 0
def rxmSGD_1 (S0 : Nat → Int → Int) (ws : List Int) (S : Nat → Int → Int) (pa wh : Int) : Nat := 90
def rxzSGD_1 : rx_Z := ([(0, 0), (0, 0), (0, 0), (0, 0), (0, 0), (0, 0), (0, 0), (0, 0), (0, 5), (2, 2)], [], [], 0, 0, 69, [(0, .inr (3, (0, 0))), (1, .inr (0, (8, 0))), (2, .inr (0, (9, 0)))], [.inr (0, (8, 0)), .inr (3, (0, 1))])
def rxISGD_2 (S0 : Nat → Int → Int) (ws : List Int) (S : Nat → Int → Int) (pa wh sp : Int) : Prop := S = S0 ∧ ws = [0, pa, wh] ∧ pa < S0 1 0 ∧ sp = 23 + 3 * pa
def rxmSGD_2 (S0 : Nat → Int → Int) (ws : List Int) (S : Nat → Int → Int) (pa wh sp : Int) : Nat := 80
def rxzSGD_2 : rx_Z := ([(0, 0), (0, 0), (0, 0), (0, 0), (0, 0), (0, 0), (0, 0), (0, 0), (0, 5), (2, 2), (0, 1522)], [], [(((10, 0), 1000010), .inl none)], 0, 0, 72, [(0, .inr (3, (0, 0))), (1, .inr (0, (8, 0))), (2, .inr (0, (9, 0)))], [.inr (3, (10, 0))])
def rxISGD_3 (S0 : Nat → Int → Int) (ws : List Int) (S : Nat → Int → Int) (pa wh sp n : Int) : Prop := ws = [0, pa, wh] ∧ pa < S0 1 0 ∧ n = rjCn (fun t => decide (0 ≤ S0 (24 + 3 * pa).toNat t)) 36
def rxmSGD_3 (S0 : Nat → Int → Int) (ws : List Int) (S : Nat → Int → Int) (pa wh sp n : Int) : Nat := 70
def rxzSGD_3 : rx_Z := ([(0, 0), (0, 0), (0, 0), (0, 0), (0, 0), (0, 0), (0, 0), (0, 0), (0, 5), (2, 2), (0, 1522), ((-2147483648), 2147483647)], [], [(((10, 0), 1000010), .inl none)], 0, 0, 75, [(0, .inr (3, (0, 0))), (1, .inr (0, (8, 0))), (2, .inr (0, (9, 0)))], [.inr (0, (11, 0))])
def rxISGD_4 (S0 : Nat → Int → Int) (ws : List Int) (S : Nat → Int → Int) (pa wh : Int) : Prop := S = S0 ∧ ws = [0, pa, wh] ∧ pa < S0 1 0
def rxmSGD_4 (S0 : Nat → Int → Int) (ws : List Int) (S : Nat → Int → Int) (pa wh : Int) : Nat := 90
def rxzSGD_4 : rx_Z := ([(0, 0), (0, 0), (0, 0), (0, 0), (0, 0), (0, 0), (0, 0), (0, 0), (0, 5), (3, 3)], [], [], 0, 0, 81, [(0, .inr (3, (0, 0))), (1, .inr (0, (8, 0))), (2, .inr (0, (9, 0)))], [.inr (0, (8, 0)), .inr (3, (0, 1))])
def rxISGD_5 (S0 : Nat → Int → Int) (ws : List Int) (S : Nat → Int → Int) (pa wh n : Int) : Prop := ws = [0, pa, wh] ∧ pa < S0 1 0 ∧ n = rjCn (fun t => decide (S0 9 t = pa)) (S0 1 5).toNat
def rxmSGD_5 (S0 : Nat → Int → Int) (ws : List Int) (S : Nat → Int → Int) (pa wh n : Int) : Nat := 80
def rxzSGD_5 : rx_Z := ([(0, 0), (0, 0), (0, 0), (0, 0), (0, 0), (0, 0), (0, 0), (0, 0), (0, 5), (3, 3), ((-2147483648), 2147483647)], [], [], 0, 0, 84, [(0, .inr (3, (0, 0))), (1, .inr (0, (8, 0))), (2, .inr (0, (9, 0)))], [.inr (0, (10, 0))])
def rxoSGD_0_0 : bx_HO := (([(0, 0), (0, 0), (0, 0), (0, 0), (0, 0), (0, 0), (0, 0), (0, 0), (0, 5), (3, 3), (1, 6)], [(0, (8, 0), (10, 0))], [(((0, 0), 1851192626986356797424340330377019318111018015026043177553952768000000), .inr (0, (10, 0))), (((0, 1), 0), .inr (0, (10, 0))), (((0, 0), 0), .inr (3, (0, 1)))], 0, 0, 81, [(0, .inr (3, (0, 0))), (1, .inr (0, (8, 0))), (2, .inr (0, (9, 0)))], [.inr (0, (8, 0)), .inr (3, (0, 1))]), [], [], [(0, 0), (0, 0), (0, 0), (0, 0), (0, 0), (0, 0), (0, 0), (0, 0), (8, 0), (9, 0)], 4)
def rxoSGD_0_1 : bx_HO := (([(0, 0), (0, 0), (0, 0), (0, 0), (0, 0), (0, 0), (0, 0), (0, 0), (0, 5), (2, 2), (1, 6)], [(0, (8, 0), (10, 0))], [(((0, 0), 1851192626986356797424340330377019318111018015026043177553952768000000), .inr (0, (10, 0))), (((0, 1), 0), .inr (0, (10, 0))), (((0, 0), 0), .inr (3, (0, 1)))], 0, 0, 69, [(0, .inr (3, (0, 0))), (1, .inr (0, (8, 0))), (2, .inr (0, (9, 0)))], [.inr (0, (8, 0)), .inr (3, (0, 1))]), [], [], [(0, 0), (0, 0), (0, 0), (0, 0), (0, 0), (0, 0), (0, 0), (0, 0), (8, 0), (9, 0)], 1)
def rxeSGD_0_0 : rx_End × List (Nat × Int × Int) := (([(0, 0), (0, 0), (0, 0), (0, 0), (0, 0), (0, 0), (0, 0), (0, 0), ((-2147483648), (-1)), ((-2147483648), 2147483647)], [], [(((0, 0), 0), .inr (3, (0, 1)))], some (.inr (0, (0, (-1))))), [])
def rxeSGD_0_1 : rx_End × List (Nat × Int × Int) := (([(0, 0), (0, 0), (0, 0), (0, 0), (0, 0), (0, 0), (0, 0), (0, 0), (0, 2147483647), ((-2147483648), 2147483647), (0, 6)], [(1, (10, 0), (8, 0))], [(((0, 0), 1851192626986356797424340330377019318111018015026043177553952768000000), .inr (0, (10, 0))), (((0, 1), 0), .inr (0, (10, 0))), (((0, 0), 0), .inr (3, (0, 1)))], some (.inr (0, (0, (-1))))), [])
def rxeSGD_0_2 : rx_End × List (Nat × Int × Int) := (([(0, 0), (0, 0), (0, 0), (0, 0), (0, 0), (0, 0), (0, 0), (0, 0), (0, 5), (4, 2147483647), (1, 6)], [(0, (8, 0), (10, 0))], [(((0, 0), 1851192626986356797424340330377019318111018015026043177553952768000000), .inr (0, (10, 0))), (((0, 1), 0), .inr (0, (10, 0))), (((0, 0), 0), .inr (3, (0, 1)))], some (.inr (0, (0, (-1))))), [])
def rxeSGD_0_3 : rx_End × List (Nat × Int × Int) := (([(0, 0), (0, 0), (0, 0), (0, 0), (0, 0), (0, 0), (0, 0), (0, 0), (0, 5), ((-2147483648), (-1)), (1, 6)], [(0, (8, 0), (10, 0))], [(((0, 0), 1851192626986356797424340330377019318111018015026043177553952768000000), .inr (0, (10, 0))), (((0, 1), 0), .inr (0, (10, 0))), (((0, 0), 0), .inr (3, (0, 1)))], some (.inr (0, (0, (-1))))), [])
def rxeSGD_0_4 : rx_End × List (Nat × Int × Int) := (([(0, 0), (0, 0), (0, 0), (0, 0), (0, 0), (0, 0), (0, 0), (0, 0), (0, 5), (1, 1), (1, 6), (0, 24)], [(0, (8, 0), (10, 0))], [(((0, 0), 1851192626986356797424364830707437625680387377997778264866357248000000), .inr (0, (11, 0))), (((0, 1), 2), .inr (3, (0, 3))), (((0, 0), 1851192626986356797424340330377019318111018015026043177553952768000000), .inr (0, (10, 0))), (((0, 1), 0), .inr (0, (10, 0))), (((0, 0), 0), .inr (3, (0, 1)))], some (.inr (0, (11, 0)))), [])
def rxeSGD_0_5 : rx_End × List (Nat × Int × Int) := (([(0, 0), (0, 0), (0, 0), (0, 0), (0, 0), (0, 0), (0, 0), (0, 0), (0, 5), (0, 0), (1, 6), (0, 23)], [(0, (8, 0), (10, 0))], [(((0, 0), 1851192626986356797424364830707437625680387377997778264865767424000000), .inr (0, (11, 0))), (((0, 1), 1), .inr (3, (0, 2))), (((0, 0), 1851192626986356797424340330377019318111018015026043177553952768000000), .inr (0, (10, 0))), (((0, 1), 0), .inr (0, (10, 0))), (((0, 0), 0), .inr (3, (0, 1)))], some (.inr (0, (11, 0)))), [])
def rxeSGD_3_0 : rx_End × List (Nat × Int × Int) := (([(0, 0), (0, 0), (0, 0), (0, 0), (0, 0), (0, 0), (0, 0), (0, 0), (0, 5), (2, 2), (0, 1522), ((-2147483648), 2147483647)], [], [(((10, 0), 1000010), .inl none)], some (.inr (0, (11, 0)))), [])
def rxeSGD_5_0 : rx_End × List (Nat × Int × Int) := (([(0, 0), (0, 0), (0, 0), (0, 0), (0, 0), (0, 0), (0, 0), (0, 0), (0, 5), (3, 3), ((-2147483648), 2147483647)], [], [], some (.inr (0, (10, 0)))), [])
def rxYSGD : List bx_HE := [(rxzSGD_0, [rxoSGD_0_0, rxoSGD_0_1], [rxeSGD_0_0, rxeSGD_0_1, rxeSGD_0_2, rxeSGD_0_3, rxeSGD_0_4, rxeSGD_0_5]), (rxzSGD_1, [], []), (rxzSGD_2, [], []), (rxzSGD_3, [], [rxeSGD_3_0]), (rxzSGD_4, [], []), (rxzSGD_5, [], [rxeSGD_5_0])]
def rxUSGD (q : bx_HE) : Bool := Nat.beq (rx_zpc q.1) 69 || Nat.beq (rx_zpc q.1) 72 || Nat.beq (rx_zpc q.1) 81
def rxYBSGD : bx_B := (rxV, rxNP, rxDmf, bx_mdH rxC221.2.2.1)
set_option maxRecDepth 100000 in
theorem rxYcSGD : bx_chkH rxYBSGD rxM221 rxC221 rxYSGD (rxUSGD, fun cut z => rx_ex2 (rxCT rxYBSGD rxCnE) cut 30000 rxC221.2.2.2.1 221 z) = true := by decide +kernel
def rxISGD (S0 : Nat → Int → Int) (ws : List Int) (i : Nat) : bx_SP := fun S r => match i with | 0 => rxISGD_0 S0 ws S (r 8) (r 9) | 1 => rxISGD_1 S0 ws S (r 8) (r 9) | 2 => rxISGD_2 S0 ws S (r 8) (r 9) (r 10) | 3 => rxISGD_3 S0 ws S (r 8) (r 9) (r 10) (r 11) | 4 => rxISGD_4 S0 ws S (r 8) (r 9) | 5 => rxISGD_5 S0 ws S (r 8) (r 9) (r 10) | _ => False
def rxmSGD (S0 : Nat → Int → Int) (ws : List Int) (i : Nat) (S : Nat → Int → Int) (r : Nat → Int) : Nat := match i with | 0 => rxmSGD_0 S0 ws S (r 8) (r 9) | 1 => rxmSGD_1 S0 ws S (r 8) (r 9) | 2 => rxmSGD_2 S0 ws S (r 8) (r 9) (r 10) | 3 => rxmSGD_3 S0 ws S (r 8) (r 9) (r 10) (r 11) | 4 => rxmSGD_4 S0 ws S (r 8) (r 9) | 5 => rxmSGD_5 S0 ws S (r 8) (r 9) (r 10) | _ => 0
def rxPSGD (S0 : Nat → Int → Int) (ws : List Int) : Prop := rkPl S0
def rxPSSGD (S0 : Nat → Int → Int) (ws : List Int) (S : Nat → Int → Int) (w : Option Int) : Prop := ∃ pa wh : Int, ws = [0, pa, wh] ∧ (((pa < 0 ∨ S0 1 0 ≤ pa ∨ wh < 0 ∨ 3 < wh) ∧ w = some (-1)) ∨ ((0 ≤ pa ∧ pa < S0 1 0) ∧ wh = 0 ∧ w = some (S0 2 pa)) ∨ ((0 ≤ pa ∧ pa < S0 1 0) ∧ wh = 1 ∧ w = some (S0 3 pa)) ∨ ((0 ≤ pa ∧ pa < S0 1 0) ∧ wh = 2 ∧ w = some (rjCn (fun t => decide (0 ≤ S0 (24 + 3 * pa).toNat t)) 36)) ∨ ((0 ≤ pa ∧ pa < S0 1 0) ∧ wh = 3 ∧ w = some (rjCn (fun t => decide (S0 9 t = pa)) (S0 1 5).toNat)))
theorem rxkSGD_1 {S0 : Nat → Int → Int} {ws : List Int} {S : Nat → Int → Int} {pa wh : Int} (hP : rxPSGD S0 ws) (hin : bx_same rxL (bx_mdl rxC221.2.2.1) S0 S) (I0 : bx_Inv rxL S) (hinv : rxISGD_1 S0 ws S pa wh) (l8 : 0 ≤ pa) (u8 : pa ≤ 5) (l9 : 2 ≤ wh) (u9 : wh ≤ 2) : rxPSOP S [1, pa] ∧ ∀ (S_p : Nat → Int → Int) (sp : Int), 0 ≤ sp → sp ≤ 1522 → rxPSSOP S [1, pa] S_p (some sp) → bx_Inv rxL S_p → bx_same rxL (bx_mdl rxCSOP.2.2.1) S S_p → rxISGD_2 S0 ws S_p pa wh sp ∧ rxmSGD_2 S0 ws S_p pa wh sp < rxmSGD_1 S0 ws S pa wh := by
  obtain ⟨rfl, hw, hp⟩ := hinv
  have hpl : rkPl S := hP
  refine ⟨trivial, fun S_p sp _ _ hq _ hsm => ⟨?_, by unfold rxmSGD_1 rxmSGD_2; omega⟩⟩
  obtain ⟨hS, k2, hw3, hv2⟩ := hq
  subst hS
  have k1 : pa = k2 := Option.some.inj (congrArg (fun l : List Int => l[1]?) hw3)
  subst k1
  obtain ⟨z4, -⟩ := hpl.2.1.1 pa.toNat (by omega)
  rw [Int.toNat_of_nonneg (show 0 ≤ pa by omega)] at z4
  exact ⟨rfl, hw, hp, (Option.some.inj hv2).trans (z4.trans (by omega))⟩
theorem rxsSGD_1 {X : (Nat → Int → Int) → Prop} {S0 : Nat → Int → Int} {ws : List Int} (hP : rxPSGD S0 ws) : rx_obK X S0 rxC221.2.2.1 rxCSOP.2.2.1 (rxISGD S0 ws) (rxmSGD S0 ws) 1 2 rxzSGD_1 rxzSGD_2 [.inr (3, (0, 1)), .inr (0, (8, 0))] (some 10) rxPSOP rxPSSOP := by
  intro S r hinv hXS I0 hin hs_ hf_
  have b_ := bx_bds_sat hs_
  have f_ := bx_fcl_ok hs_.1 hf_
  obtain ⟨⟨l8, u8⟩, ⟨l9, u9⟩, -⟩ := b_
  have g := rxkSGD_1 hP hin I0 hinv l8 u8 l9 u9
  have ea : List.map (bx_num r) [.inr (3, (0, 1)), .inr (0, (8, 0))] = [1, (r 8)] := by
    simp only [List.map_cons, List.map_nil, bx_xv_ok hs_.1]
    rfl
  rw [ea]
  refine ⟨g.1, fun S_p w r_p hPS hX_p I1 hsm hr hw hs_p => ?_⟩
  have hw := hw _ rfl
  subst hw
  have b_p := hs_p.2.2 10 _ _ rfl
  have g2 := g.2 S_p (r_p 10) b_p.1 b_p.2 hPS I1 hsm
  show rxISGD_2 S0 ws S_p (r_p 8) (r_p 9) (r_p 10) ∧ rxmSGD_2 S0 ws S_p (r_p 8) (r_p 9) (r_p 10) < _
  rw [hr 8 (by decide), hr 9 (by decide)]
  exact g2
theorem rxkSGD_2 {S0 : Nat → Int → Int} {ws : List Int} {S : Nat → Int → Int} {pa wh sp : Int} (hP : rxPSGD S0 ws) (hin : bx_same rxL (bx_mdl rxC221.2.2.1) S0 S) (I0 : bx_Inv rxL S) (hinv : rxISGD_2 S0 ws S pa wh sp) (l8 : 0 ≤ pa) (u8 : pa ≤ 5) (l9 : 2 ≤ wh) (u9 : wh ≤ 2) (l10 : 0 ≤ sp) (u10 : sp ≤ 1522) : rxPFIL S [sp] ∧ ∀ (S_p : Nat → Int → Int) (n : Int), (-2147483648) ≤ n → n ≤ 2147483647 → rxPSFIL S [sp] S_p (some n) → bx_Inv rxL S_p → bx_same rxL (bx_mdl rxCFIL.2.2.1) S S_p → rxISGD_3 S0 ws S_p pa wh sp n ∧ rxmSGD_3 S0 ws S_p pa wh sp n < rxmSGD_2 S0 ws S pa wh sp := by
  obtain ⟨rfl, hw, hp, hsp⟩ := hinv
  have hpl : rkPl S := hP
  obtain ⟨-, z0, -⟩ := rjd_pl hpl (pa := pa) (by omega) (by omega)
  subst hsp
  refine ⟨⟨_, rfl, z0.trans (by omega)⟩, fun S_p n _ _ hq _ hsm => ⟨⟨hw, hp, ?_⟩, by unfold rxmSGD_2 rxmSGD_3; omega⟩⟩
  obtain ⟨hS, sc2, hw3, hv⟩ := hq
  have k1 : 23 + 3 * pa = sc2 := Option.some.inj (congrArg (fun l : List Int => l[0]?) hw3)
  subst k1
  rw [show 23 + 3 * pa + 1 = 24 + 3 * pa by omega] at hv
  exact Option.some.inj hv
theorem rxsSGD_2 {X : (Nat → Int → Int) → Prop} {S0 : Nat → Int → Int} {ws : List Int} (hP : rxPSGD S0 ws) : rx_obK X S0 rxC221.2.2.1 rxCFIL.2.2.1 (rxISGD S0 ws) (rxmSGD S0 ws) 2 3 rxzSGD_2 rxzSGD_3 [.inr (3, (10, 0))] (some 11) rxPFIL rxPSFIL := by
  intro S r hinv hXS I0 hin hs_ hf_
  have b_ := bx_bds_sat hs_
  have f_ := bx_fcl_ok hs_.1 hf_
  obtain ⟨⟨l8, u8⟩, ⟨l9, u9⟩, ⟨l10, u10⟩, -⟩ := b_
  have g := rxkSGD_2 hP hin I0 hinv l8 u8 l9 u9 l10 u10
  have ea : List.map (bx_num r) [.inr (3, (10, 0))] = [(r 10)] := by
    simp only [List.map_cons, List.map_nil, bx_xv_ok hs_.1]
    rfl
  rw [ea]
  refine ⟨g.1, fun S_p w r_p hPS hX_p I1 hsm hr hw hs_p => ?_⟩
  have hw := hw _ rfl
  subst hw
  have b_p := hs_p.2.2 11 _ _ rfl
  have g2 := g.2 S_p (r_p 11) b_p.1 b_p.2 hPS I1 hsm
  show rxISGD_3 S0 ws S_p (r_p 8) (r_p 9) (r_p 10) (r_p 11) ∧ rxmSGD_3 S0 ws S_p (r_p 8) (r_p 9) (r_p 10) (r_p 11) < _
  rw [hr 8 (by decide), hr 9 (by decide), hr 10 (by decide)]
  exact g2
theorem rxkSGD_4 {S0 : Nat → Int → Int} {ws : List Int} {S : Nat → Int → Int} {pa wh : Int} (hP : rxPSGD S0 ws) (hin : bx_same rxL (bx_mdl rxC221.2.2.1) S0 S) (I0 : bx_Inv rxL S) (hinv : rxISGD_4 S0 ws S pa wh) (l8 : 0 ≤ pa) (u8 : pa ≤ 5) (l9 : 3 ≤ wh) (u9 : wh ≤ 3) : rxPVOF S [1, pa] ∧ ∀ (S_p : Nat → Int → Int) (n : Int), (-2147483648) ≤ n → n ≤ 2147483647 → rxPSVOF S [1, pa] S_p (some n) → bx_Inv rxL S_p → bx_same rxL (bx_mdl rxCVOF.2.2.1) S S_p → rxISGD_5 S0 ws S_p pa wh n ∧ rxmSGD_5 S0 ws S_p pa wh n < rxmSGD_4 S0 ws S pa wh := by
  obtain ⟨rfl, hw, hp⟩ := hinv
  refine ⟨trivial, fun S_p n _ _ hq _ hsm => ⟨⟨hw, hp, ?_⟩, by unfold rxmSGD_4 rxmSGD_5; omega⟩⟩
  obtain ⟨hS, p2, hw3, hv⟩ := hq
  have k1 : pa = p2 := Option.some.inj (congrArg (fun l : List Int => l[1]?) hw3)
  subst k1
  exact Option.some.inj hv
theorem rxsSGD_4 {X : (Nat → Int → Int) → Prop} {S0 : Nat → Int → Int} {ws : List Int} (hP : rxPSGD S0 ws) : rx_obK X S0 rxC221.2.2.1 rxCVOF.2.2.1 (rxISGD S0 ws) (rxmSGD S0 ws) 4 5 rxzSGD_4 rxzSGD_5 [.inr (3, (0, 1)), .inr (0, (8, 0))] (some 10) rxPVOF rxPSVOF := by
  intro S r hinv hXS I0 hin hs_ hf_
  have b_ := bx_bds_sat hs_
  have f_ := bx_fcl_ok hs_.1 hf_
  obtain ⟨⟨l8, u8⟩, ⟨l9, u9⟩, -⟩ := b_
  have g := rxkSGD_4 hP hin I0 hinv l8 u8 l9 u9
  have ea : List.map (bx_num r) [.inr (3, (0, 1)), .inr (0, (8, 0))] = [1, (r 8)] := by
    simp only [List.map_cons, List.map_nil, bx_xv_ok hs_.1]
    rfl
  rw [ea]
  refine ⟨g.1, fun S_p w r_p hPS hX_p I1 hsm hr hw hs_p => ?_⟩
  have hw := hw _ rfl
  subst hw
  have b_p := hs_p.2.2 10 _ _ rfl
  have g2 := g.2 S_p (r_p 10) b_p.1 b_p.2 hPS I1 hsm
  show rxISGD_5 S0 ws S_p (r_p 8) (r_p 9) (r_p 10) ∧ rxmSGD_5 S0 ws S_p (r_p 8) (r_p 9) (r_p 10) < _
  rw [hr 8 (by decide), hr 9 (by decide)]
  exact g2
theorem rxcSGD_0_0 {S0 : Nat → Int → Int} {ws : List Int} {S : Nat → Int → Int} {pa wh x10 : Int} (hP : rxPSGD S0 ws) (hin : bx_same rxL (bx_mdl rxC221.2.2.1) S0 S) (I0 : bx_Inv rxL S) (hinv : rxISGD_0 S0 ws S pa wh) (l8 : 0 ≤ pa) (u8 : pa ≤ 5) (l9 : 3 ≤ wh) (u9 : wh ≤ 3) (l10 : 1 ≤ x10) (u10 : x10 ≤ 6) (f0 : pa < x10) (e0 : S 1 0 = x10) : (True) ∧ (True) ∧ rxISGD_4 S0 ws S pa wh ∧ rxmSGD_4 S0 ws S pa wh < rxmSGD_0 S0 ws S pa wh := by
  obtain ⟨rfl, hw⟩ := hinv
  exact ⟨trivial, trivial, ⟨rfl, hw, by omega⟩, by unfold rxmSGD_0 rxmSGD_4; omega⟩
theorem rxgSGD_0_0 {X : (Nat → Int → Int) → Prop} {S0 : Nat → Int → Int} {ws : List Int} (hP : rxPSGD S0 ws) : bx_obC rxL X S0 rxC221.2.2.1 (rxISGD S0 ws) (rxmSGD S0 ws) 0 rxzSGD_0 rxoSGD_0_0 := by
  intro S S_p r r_p hinv hX hin hsm_ hseg
  obtain ⟨I0, I1, h0_, hr_, b_, f_, d_⟩ := bx_cl (evs := [(0, (0, 1), (0, 0), .inr (0, (10, 0)))]) (fvs := [(0, (8, 0), (10, 0), (0, 0))]) hseg (by decide +kernel) (by decide +kernel)
  have hinv : rxISGD_0 S0 ws S (r 8) (r 9) := hinv
  rw [← hr_ 8 (by decide), ← hr_ 9 (by decide)] at hinv
  obtain ⟨⟨l8, u8⟩, ⟨l9, u9⟩, ⟨l10, u10⟩, -⟩ := b_
  obtain ⟨f0, -⟩ := f_
  obtain ⟨e0, w_⟩ := d_
  subst w_
  have g := rxcSGD_0_0 hP hin I0 hinv l8 u8 l9 u9 l10 u10 f0 e0
  refine ⟨bx_narP_ok (l := []) g.1, bx_nfP_ok h0_ (fvs := []) (by decide +kernel) g.2.1, ?_, ?_⟩
  · show rxISGD_4 S0 ws S_p (bx_val [(0, 0), (0, 0), (0, 0), (0, 0), (0, 0), (0, 0), (0, 0), (0, 0), (8, 0), (9, 0)] r_p 8) (bx_val [(0, 0), (0, 0), (0, 0), (0, 0), (0, 0), (0, 0), (0, 0), (0, 0), (8, 0), (9, 0)] r_p 9)
    rw [bx_val_x (n := 8) (e := (8, 0)) h0_ rfl, bx_val_x (n := 9) (e := (9, 0)) h0_ rfl]
    exact g.2.2.1
  · show rxmSGD_4 S0 ws S_p (bx_val [(0, 0), (0, 0), (0, 0), (0, 0), (0, 0), (0, 0), (0, 0), (0, 0), (8, 0), (9, 0)] r_p 8) (bx_val [(0, 0), (0, 0), (0, 0), (0, 0), (0, 0), (0, 0), (0, 0), (0, 0), (8, 0), (9, 0)] r_p 9) < rxmSGD_0 S0 ws S_p (r 8) (r 9)
    rw [bx_val_x (n := 8) (e := (8, 0)) h0_ rfl, bx_val_x (n := 9) (e := (9, 0)) h0_ rfl, ← hr_ 8 (by decide), ← hr_ 9 (by decide)]
    exact g.2.2.2
theorem rxcSGD_0_1 {S0 : Nat → Int → Int} {ws : List Int} {S : Nat → Int → Int} {pa wh x10 : Int} (hP : rxPSGD S0 ws) (hin : bx_same rxL (bx_mdl rxC221.2.2.1) S0 S) (I0 : bx_Inv rxL S) (hinv : rxISGD_0 S0 ws S pa wh) (l8 : 0 ≤ pa) (u8 : pa ≤ 5) (l9 : 2 ≤ wh) (u9 : wh ≤ 2) (l10 : 1 ≤ x10) (u10 : x10 ≤ 6) (f0 : pa < x10) (e0 : S 1 0 = x10) : (True) ∧ (True) ∧ rxISGD_1 S0 ws S pa wh ∧ rxmSGD_1 S0 ws S pa wh < rxmSGD_0 S0 ws S pa wh := by
  obtain ⟨rfl, hw⟩ := hinv
  exact ⟨trivial, trivial, ⟨rfl, hw, by omega⟩, by unfold rxmSGD_0 rxmSGD_1; omega⟩
theorem rxgSGD_0_1 {X : (Nat → Int → Int) → Prop} {S0 : Nat → Int → Int} {ws : List Int} (hP : rxPSGD S0 ws) : bx_obC rxL X S0 rxC221.2.2.1 (rxISGD S0 ws) (rxmSGD S0 ws) 0 rxzSGD_0 rxoSGD_0_1 := by
  intro S S_p r r_p hinv hX hin hsm_ hseg
  obtain ⟨I0, I1, h0_, hr_, b_, f_, d_⟩ := bx_cl (evs := [(0, (0, 1), (0, 0), .inr (0, (10, 0)))]) (fvs := [(0, (8, 0), (10, 0), (0, 0))]) hseg (by decide +kernel) (by decide +kernel)
  have hinv : rxISGD_0 S0 ws S (r 8) (r 9) := hinv
  rw [← hr_ 8 (by decide), ← hr_ 9 (by decide)] at hinv
  obtain ⟨⟨l8, u8⟩, ⟨l9, u9⟩, ⟨l10, u10⟩, -⟩ := b_
  obtain ⟨f0, -⟩ := f_
  obtain ⟨e0, w_⟩ := d_
  subst w_
  have g := rxcSGD_0_1 hP hin I0 hinv l8 u8 l9 u9 l10 u10 f0 e0
  refine ⟨bx_narP_ok (l := []) g.1, bx_nfP_ok h0_ (fvs := []) (by decide +kernel) g.2.1, ?_, ?_⟩
  · show rxISGD_1 S0 ws S_p (bx_val [(0, 0), (0, 0), (0, 0), (0, 0), (0, 0), (0, 0), (0, 0), (0, 0), (8, 0), (9, 0)] r_p 8) (bx_val [(0, 0), (0, 0), (0, 0), (0, 0), (0, 0), (0, 0), (0, 0), (0, 0), (8, 0), (9, 0)] r_p 9)
    rw [bx_val_x (n := 8) (e := (8, 0)) h0_ rfl, bx_val_x (n := 9) (e := (9, 0)) h0_ rfl]
    exact g.2.2.1
  · show rxmSGD_1 S0 ws S_p (bx_val [(0, 0), (0, 0), (0, 0), (0, 0), (0, 0), (0, 0), (0, 0), (0, 0), (8, 0), (9, 0)] r_p 8) (bx_val [(0, 0), (0, 0), (0, 0), (0, 0), (0, 0), (0, 0), (0, 0), (0, 0), (8, 0), (9, 0)] r_p 9) < rxmSGD_0 S0 ws S_p (r 8) (r 9)
    rw [bx_val_x (n := 8) (e := (8, 0)) h0_ rfl, bx_val_x (n := 9) (e := (9, 0)) h0_ rfl, ← hr_ 8 (by decide), ← hr_ 9 (by decide)]
    exact g.2.2.2
theorem rxdSGD_0_0 {S0 : Nat → Int → Int} {ws : List Int} {S : Nat → Int → Int} {pa wh : Int} (hP : rxPSGD S0 ws) (hin : bx_same rxL (bx_mdl rxC221.2.2.1) S0 S) (hin2 : bx_same rxL (bx_mdl rxC221.2.2.1) S S) (I0 : bx_Inv rxL S) (I1 : bx_Inv rxL S) (hinv : rxISGD_0 S0 ws S pa wh) (l8 : (-2147483648) ≤ pa) (u8 : pa ≤ (-1)) (l9 : (-2147483648) ≤ wh) (u9 : wh ≤ 2147483647) : (True) ∧ rxPSSGD S0 ws S (some ((-1))) := by
  obtain ⟨rfl, hw⟩ := hinv
  exact ⟨trivial, pa, wh, hw, Or.inl ⟨by omega, rfl⟩⟩
theorem rxfSGD_0_0 {X : (Nat → Int → Int) → Prop} {S0 : Nat → Int → Int} {ws : List Int} (hP : rxPSGD S0 ws) : bx_obE rxL X S0 rxC221.2.2.1 (rxISGD S0 ws) (rxPSSGD S0 ws) 0 rxzSGD_0 rxeSGD_0_0 := by
  intro S S_p r r_p hinv hX hin hsm_ hseg
  obtain ⟨I0, I1, h0_, hr_, b_, f_, d_⟩ := bx_cl (evs := []) (fvs := []) hseg (by decide +kernel) (by decide +kernel)
  have hinv : rxISGD_0 S0 ws S (r 8) (r 9) := hinv
  rw [← hr_ 8 (by decide), ← hr_ 9 (by decide)] at hinv
  obtain ⟨⟨l8, u8⟩, ⟨l9, u9⟩, -⟩ := b_
  have w_ := d_
  subst w_
  have g := rxdSGD_0_0 hP hin hsm_ I0 I1 hinv l8 u8 l9 u9
  refine ⟨bx_narP_ok (l := []) g.1, ?_⟩
  show rxPSSGD S0 ws S_p (some (bx_num r_p (.inr (0, (0, (-1))))))
  rw [bx_xv_ok h0_]
  exact g.2
theorem rxdSGD_0_1 {S0 : Nat → Int → Int} {ws : List Int} {S : Nat → Int → Int} {pa wh x10 : Int} (hP : rxPSGD S0 ws) (hin : bx_same rxL (bx_mdl rxC221.2.2.1) S0 S) (hin2 : bx_same rxL (bx_mdl rxC221.2.2.1) S S) (I0 : bx_Inv rxL S) (I1 : bx_Inv rxL S) (hinv : rxISGD_0 S0 ws S pa wh) (l8 : 0 ≤ pa) (u8 : pa ≤ 2147483647) (l9 : (-2147483648) ≤ wh) (u9 : wh ≤ 2147483647) (l10 : 0 ≤ x10) (u10 : x10 ≤ 6) (f0 : x10 ≤ pa) (e0 : S 1 0 = x10) : (True) ∧ rxPSSGD S0 ws S (some ((-1))) := by
  obtain ⟨rfl, hw⟩ := hinv
  exact ⟨trivial, pa, wh, hw, Or.inl ⟨by omega, rfl⟩⟩
theorem rxfSGD_0_1 {X : (Nat → Int → Int) → Prop} {S0 : Nat → Int → Int} {ws : List Int} (hP : rxPSGD S0 ws) : bx_obE rxL X S0 rxC221.2.2.1 (rxISGD S0 ws) (rxPSSGD S0 ws) 0 rxzSGD_0 rxeSGD_0_1 := by
  intro S S_p r r_p hinv hX hin hsm_ hseg
  obtain ⟨I0, I1, h0_, hr_, b_, f_, d_⟩ := bx_cl (evs := [(0, (0, 1), (0, 0), .inr (0, (10, 0)))]) (fvs := [(1, (10, 0), (8, 0), (0, 0))]) hseg (by decide +kernel) (by decide +kernel)
  have hinv : rxISGD_0 S0 ws S (r 8) (r 9) := hinv
  rw [← hr_ 8 (by decide), ← hr_ 9 (by decide)] at hinv
  obtain ⟨⟨l8, u8⟩, ⟨l9, u9⟩, ⟨l10, u10⟩, -⟩ := b_
  obtain ⟨f0, -⟩ := f_
  obtain ⟨e0, w_⟩ := d_
  subst w_
  have g := rxdSGD_0_1 hP hin hsm_ I0 I1 hinv l8 u8 l9 u9 l10 u10 f0 e0
  refine ⟨bx_narP_ok (l := []) g.1, ?_⟩
  show rxPSSGD S0 ws S_p (some (bx_num r_p (.inr (0, (0, (-1))))))
  rw [bx_xv_ok h0_]
  exact g.2
theorem rxdSGD_0_2 {S0 : Nat → Int → Int} {ws : List Int} {S : Nat → Int → Int} {pa wh x10 : Int} (hP : rxPSGD S0 ws) (hin : bx_same rxL (bx_mdl rxC221.2.2.1) S0 S) (hin2 : bx_same rxL (bx_mdl rxC221.2.2.1) S S) (I0 : bx_Inv rxL S) (I1 : bx_Inv rxL S) (hinv : rxISGD_0 S0 ws S pa wh) (l8 : 0 ≤ pa) (u8 : pa ≤ 5) (l9 : 4 ≤ wh) (u9 : wh ≤ 2147483647) (l10 : 1 ≤ x10) (u10 : x10 ≤ 6) (f0 : pa < x10) (e0 : S 1 0 = x10) : (True) ∧ rxPSSGD S0 ws S (some ((-1))) := by
  obtain ⟨rfl, hw⟩ := hinv
  exact ⟨trivial, pa, wh, hw, Or.inl ⟨by omega, rfl⟩⟩
theorem rxfSGD_0_2 {X : (Nat → Int → Int) → Prop} {S0 : Nat → Int → Int} {ws : List Int} (hP : rxPSGD S0 ws) : bx_obE rxL X S0 rxC221.2.2.1 (rxISGD S0 ws) (rxPSSGD S0 ws) 0 rxzSGD_0 rxeSGD_0_2 := by
  intro S S_p r r_p hinv hX hin hsm_ hseg
  obtain ⟨I0, I1, h0_, hr_, b_, f_, d_⟩ := bx_cl (evs := [(0, (0, 1), (0, 0), .inr (0, (10, 0)))]) (fvs := [(0, (8, 0), (10, 0), (0, 0))]) hseg (by decide +kernel) (by decide +kernel)
  have hinv : rxISGD_0 S0 ws S (r 8) (r 9) := hinv
  rw [← hr_ 8 (by decide), ← hr_ 9 (by decide)] at hinv
  obtain ⟨⟨l8, u8⟩, ⟨l9, u9⟩, ⟨l10, u10⟩, -⟩ := b_
  obtain ⟨f0, -⟩ := f_
  obtain ⟨e0, w_⟩ := d_
  subst w_
  have g := rxdSGD_0_2 hP hin hsm_ I0 I1 hinv l8 u8 l9 u9 l10 u10 f0 e0
  refine ⟨bx_narP_ok (l := []) g.1, ?_⟩
  show rxPSSGD S0 ws S_p (some (bx_num r_p (.inr (0, (0, (-1))))))
  rw [bx_xv_ok h0_]
  exact g.2
theorem rxdSGD_0_3 {S0 : Nat → Int → Int} {ws : List Int} {S : Nat → Int → Int} {pa wh x10 : Int} (hP : rxPSGD S0 ws) (hin : bx_same rxL (bx_mdl rxC221.2.2.1) S0 S) (hin2 : bx_same rxL (bx_mdl rxC221.2.2.1) S S) (I0 : bx_Inv rxL S) (I1 : bx_Inv rxL S) (hinv : rxISGD_0 S0 ws S pa wh) (l8 : 0 ≤ pa) (u8 : pa ≤ 5) (l9 : (-2147483648) ≤ wh) (u9 : wh ≤ (-1)) (l10 : 1 ≤ x10) (u10 : x10 ≤ 6) (f0 : pa < x10) (e0 : S 1 0 = x10) : (True) ∧ rxPSSGD S0 ws S (some ((-1))) := by
  obtain ⟨rfl, hw⟩ := hinv
  exact ⟨trivial, pa, wh, hw, Or.inl ⟨by omega, rfl⟩⟩
theorem rxfSGD_0_3 {X : (Nat → Int → Int) → Prop} {S0 : Nat → Int → Int} {ws : List Int} (hP : rxPSGD S0 ws) : bx_obE rxL X S0 rxC221.2.2.1 (rxISGD S0 ws) (rxPSSGD S0 ws) 0 rxzSGD_0 rxeSGD_0_3 := by
  intro S S_p r r_p hinv hX hin hsm_ hseg
  obtain ⟨I0, I1, h0_, hr_, b_, f_, d_⟩ := bx_cl (evs := [(0, (0, 1), (0, 0), .inr (0, (10, 0)))]) (fvs := [(0, (8, 0), (10, 0), (0, 0))]) hseg (by decide +kernel) (by decide +kernel)
  have hinv : rxISGD_0 S0 ws S (r 8) (r 9) := hinv
  rw [← hr_ 8 (by decide), ← hr_ 9 (by decide)] at hinv
  obtain ⟨⟨l8, u8⟩, ⟨l9, u9⟩, ⟨l10, u10⟩, -⟩ := b_
  obtain ⟨f0, -⟩ := f_
  obtain ⟨e0, w_⟩ := d_
  subst w_
  have g := rxdSGD_0_3 hP hin hsm_ I0 I1 hinv l8 u8 l9 u9 l10 u10 f0 e0
  refine ⟨bx_narP_ok (l := []) g.1, ?_⟩
  show rxPSSGD S0 ws S_p (some (bx_num r_p (.inr (0, (0, (-1))))))
  rw [bx_xv_ok h0_]
  exact g.2
theorem rxdSGD_0_4 {S0 : Nat → Int → Int} {ws : List Int} {S : Nat → Int → Int} {pa wh x10 x11 : Int} (hP : rxPSGD S0 ws) (hin : bx_same rxL (bx_mdl rxC221.2.2.1) S0 S) (hin2 : bx_same rxL (bx_mdl rxC221.2.2.1) S S) (I0 : bx_Inv rxL S) (I1 : bx_Inv rxL S) (hinv : rxISGD_0 S0 ws S pa wh) (l8 : 0 ≤ pa) (u8 : pa ≤ 5) (l9 : 1 ≤ wh) (u9 : wh ≤ 1) (l10 : 1 ≤ x10) (u10 : x10 ≤ 6) (l11 : 0 ≤ x11) (u11 : x11 ≤ 24) (f0 : pa < x10) (e1 : S 1 0 = x10) (e0 : S 3 pa = x11) : (True) ∧ rxPSSGD S0 ws S (some x11) := by
  obtain ⟨rfl, hw⟩ := hinv
  exact ⟨trivial, pa, wh, hw, Or.inr (Or.inr (Or.inl (⟨⟨by omega, by omega⟩, by omega, congrArg some e0.symm⟩)))⟩
theorem rxfSGD_0_4 {X : (Nat → Int → Int) → Prop} {S0 : Nat → Int → Int} {ws : List Int} (hP : rxPSGD S0 ws) : bx_obE rxL X S0 rxC221.2.2.1 (rxISGD S0 ws) (rxPSSGD S0 ws) 0 rxzSGD_0 rxeSGD_0_4 := by
  intro S S_p r r_p hinv hX hin hsm_ hseg
  obtain ⟨I0, I1, h0_, hr_, b_, f_, d_⟩ := bx_cl (evs := [(0, (0, 3), (8, 0), .inr (0, (11, 0))), (0, (0, 1), (0, 0), .inr (0, (10, 0)))]) (fvs := [(0, (8, 0), (10, 0), (0, 0))]) hseg (by decide +kernel) (by decide +kernel)
  have hinv : rxISGD_0 S0 ws S (r 8) (r 9) := hinv
  rw [← hr_ 8 (by decide), ← hr_ 9 (by decide)] at hinv
  obtain ⟨⟨l8, u8⟩, ⟨l9, u9⟩, ⟨l10, u10⟩, ⟨l11, u11⟩, -⟩ := b_
  obtain ⟨f0, -⟩ := f_
  obtain ⟨e0, ⟨e1, w_⟩⟩ := d_
  subst w_
  have g := rxdSGD_0_4 hP hin hsm_ I0 I1 hinv l8 u8 l9 u9 l10 u10 l11 u11 f0 e1 e0
  refine ⟨bx_narP_ok (l := []) g.1, ?_⟩
  show rxPSSGD S0 ws S_p (some (bx_num r_p (.inr (0, (11, 0)))))
  rw [bx_xv_ok h0_]
  exact g.2
theorem rxdSGD_0_5 {S0 : Nat → Int → Int} {ws : List Int} {S : Nat → Int → Int} {pa wh x10 x11 : Int} (hP : rxPSGD S0 ws) (hin : bx_same rxL (bx_mdl rxC221.2.2.1) S0 S) (hin2 : bx_same rxL (bx_mdl rxC221.2.2.1) S S) (I0 : bx_Inv rxL S) (I1 : bx_Inv rxL S) (hinv : rxISGD_0 S0 ws S pa wh) (l8 : 0 ≤ pa) (u8 : pa ≤ 5) (l9 : 0 ≤ wh) (u9 : wh ≤ 0) (l10 : 1 ≤ x10) (u10 : x10 ≤ 6) (l11 : 0 ≤ x11) (u11 : x11 ≤ 23) (f0 : pa < x10) (e1 : S 1 0 = x10) (e0 : S 2 pa = x11) : (True) ∧ rxPSSGD S0 ws S (some x11) := by
  obtain ⟨rfl, hw⟩ := hinv
  exact ⟨trivial, pa, wh, hw, Or.inr (Or.inl (⟨⟨by omega, by omega⟩, by omega, congrArg some e0.symm⟩))⟩
theorem rxfSGD_0_5 {X : (Nat → Int → Int) → Prop} {S0 : Nat → Int → Int} {ws : List Int} (hP : rxPSGD S0 ws) : bx_obE rxL X S0 rxC221.2.2.1 (rxISGD S0 ws) (rxPSSGD S0 ws) 0 rxzSGD_0 rxeSGD_0_5 := by
  intro S S_p r r_p hinv hX hin hsm_ hseg
  obtain ⟨I0, I1, h0_, hr_, b_, f_, d_⟩ := bx_cl (evs := [(0, (0, 2), (8, 0), .inr (0, (11, 0))), (0, (0, 1), (0, 0), .inr (0, (10, 0)))]) (fvs := [(0, (8, 0), (10, 0), (0, 0))]) hseg (by decide +kernel) (by decide +kernel)
  have hinv : rxISGD_0 S0 ws S (r 8) (r 9) := hinv
  rw [← hr_ 8 (by decide), ← hr_ 9 (by decide)] at hinv
  obtain ⟨⟨l8, u8⟩, ⟨l9, u9⟩, ⟨l10, u10⟩, ⟨l11, u11⟩, -⟩ := b_
  obtain ⟨f0, -⟩ := f_
  obtain ⟨e0, ⟨e1, w_⟩⟩ := d_
  subst w_
  have g := rxdSGD_0_5 hP hin hsm_ I0 I1 hinv l8 u8 l9 u9 l10 u10 l11 u11 f0 e1 e0
  refine ⟨bx_narP_ok (l := []) g.1, ?_⟩
  show rxPSSGD S0 ws S_p (some (bx_num r_p (.inr (0, (11, 0)))))
  rw [bx_xv_ok h0_]
  exact g.2
theorem rxdSGD_3_0 {S0 : Nat → Int → Int} {ws : List Int} {S : Nat → Int → Int} {pa wh sp n : Int} (hP : rxPSGD S0 ws) (hin : bx_same rxL (bx_mdl rxC221.2.2.1) S0 S) (hin2 : bx_same rxL (bx_mdl rxC221.2.2.1) S S) (I0 : bx_Inv rxL S) (I1 : bx_Inv rxL S) (hinv : rxISGD_3 S0 ws S pa wh sp n) (l8 : 0 ≤ pa) (u8 : pa ≤ 5) (l9 : 2 ≤ wh) (u9 : wh ≤ 2) (l10 : 0 ≤ sp) (u10 : sp ≤ 1522) (l11 : (-2147483648) ≤ n) (u11 : n ≤ 2147483647) : (True) ∧ rxPSSGD S0 ws S (some n) := by
  obtain ⟨hw, hp, hn⟩ := hinv
  exact ⟨trivial, pa, wh, hw, Or.inr (Or.inr (Or.inr (Or.inl (⟨⟨by omega, hp⟩, by omega, congrArg some hn⟩))))⟩
theorem rxfSGD_3_0 {X : (Nat → Int → Int) → Prop} {S0 : Nat → Int → Int} {ws : List Int} (hP : rxPSGD S0 ws) : bx_obE rxL X S0 rxC221.2.2.1 (rxISGD S0 ws) (rxPSSGD S0 ws) 3 rxzSGD_3 rxeSGD_3_0 := by
  intro S S_p r r_p hinv hX hin hsm_ hseg
  obtain ⟨I0, I1, h0_, hr_, b_, f_, d_⟩ := bx_cl (evs := []) (fvs := []) hseg (by decide +kernel) (by decide +kernel)
  have hinv : rxISGD_3 S0 ws S (r 8) (r 9) (r 10) (r 11) := hinv
  rw [← hr_ 8 (by decide), ← hr_ 9 (by decide), ← hr_ 10 (by decide), ← hr_ 11 (by decide)] at hinv
  obtain ⟨⟨l8, u8⟩, ⟨l9, u9⟩, ⟨l10, u10⟩, ⟨l11, u11⟩, -⟩ := b_
  have w_ := d_
  subst w_
  have g := rxdSGD_3_0 hP hin hsm_ I0 I1 hinv l8 u8 l9 u9 l10 u10 l11 u11
  refine ⟨bx_narP_ok (l := []) g.1, ?_⟩
  show rxPSSGD S0 ws S_p (some (bx_num r_p (.inr (0, (11, 0)))))
  rw [bx_xv_ok h0_]
  exact g.2
theorem rxdSGD_5_0 {S0 : Nat → Int → Int} {ws : List Int} {S : Nat → Int → Int} {pa wh n : Int} (hP : rxPSGD S0 ws) (hin : bx_same rxL (bx_mdl rxC221.2.2.1) S0 S) (hin2 : bx_same rxL (bx_mdl rxC221.2.2.1) S S) (I0 : bx_Inv rxL S) (I1 : bx_Inv rxL S) (hinv : rxISGD_5 S0 ws S pa wh n) (l8 : 0 ≤ pa) (u8 : pa ≤ 5) (l9 : 3 ≤ wh) (u9 : wh ≤ 3) (l10 : (-2147483648) ≤ n) (u10 : n ≤ 2147483647) : (True) ∧ rxPSSGD S0 ws S (some n) := by
  obtain ⟨hw, hp, hn⟩ := hinv
  exact ⟨trivial, pa, wh, hw, Or.inr (Or.inr (Or.inr (Or.inr (⟨⟨by omega, hp⟩, by omega, congrArg some hn⟩))))⟩
theorem rxfSGD_5_0 {X : (Nat → Int → Int) → Prop} {S0 : Nat → Int → Int} {ws : List Int} (hP : rxPSGD S0 ws) : bx_obE rxL X S0 rxC221.2.2.1 (rxISGD S0 ws) (rxPSSGD S0 ws) 5 rxzSGD_5 rxeSGD_5_0 := by
  intro S S_p r r_p hinv hX hin hsm_ hseg
  obtain ⟨I0, I1, h0_, hr_, b_, f_, d_⟩ := bx_cl (evs := []) (fvs := []) hseg (by decide +kernel) (by decide +kernel)
  have hinv : rxISGD_5 S0 ws S (r 8) (r 9) (r 10) := hinv
  rw [← hr_ 8 (by decide), ← hr_ 9 (by decide), ← hr_ 10 (by decide)] at hinv
  obtain ⟨⟨l8, u8⟩, ⟨l9, u9⟩, ⟨l10, u10⟩, -⟩ := b_
  have w_ := d_
  subst w_
  have g := rxdSGD_5_0 hP hin hsm_ I0 I1 hinv l8 u8 l9 u9 l10 u10
  refine ⟨bx_narP_ok (l := []) g.1, ?_⟩
  show rxPSSGD S0 ws S_p (some (bx_num r_p (.inr (0, (10, 0)))))
  rw [bx_xv_ok h0_]
  exact g.2
theorem rxgCSGD {X : (Nat → Int → Int) → Prop} {S0 : Nat → Int → Int} {ws : List Int} (hP : rxPSGD S0 ws) : bx_allI (fun i q => rxUSGD q = true ∨ bx_allP (fun o => bx_obC rxL X S0 rxC221.2.2.1 (rxISGD S0 ws) (rxmSGD S0 ws) i q.1 o) q.2.1) 0 rxYSGD := ⟨Or.inr ⟨rxgSGD_0_0 hP, rxgSGD_0_1 hP, trivial⟩, Or.inl rfl, Or.inl rfl, Or.inr trivial, Or.inl rfl, Or.inr trivial, trivial⟩
theorem rxgESGD {X : (Nat → Int → Int) → Prop} {S0 : Nat → Int → Int} {ws : List Int} (hP : rxPSGD S0 ws) : bx_allI (fun i q => rxUSGD q = true ∨ bx_allP (fun E => bx_obE rxL X S0 rxC221.2.2.1 (rxISGD S0 ws) (rxPSSGD S0 ws) i q.1 E) q.2.2) 0 rxYSGD := ⟨Or.inr ⟨rxfSGD_0_0 hP, rxfSGD_0_1 hP, rxfSGD_0_2 hP, rxfSGD_0_3 hP, rxfSGD_0_4 hP, rxfSGD_0_5 hP, trivial⟩, Or.inl rfl, Or.inl rfl, Or.inr ⟨rxfSGD_3_0 hP, trivial⟩, Or.inl rfl, Or.inr ⟨rxfSGD_5_0 hP, trivial⟩, trivial⟩
theorem rxuSGD {PX : State → Prop} {Dg : va_G} {A : Nat → Prop} {ad xa : Nat → Nat} {l : Launch} {X : (Nat → Int → Int) → Prop} (hPX : rx_PXOK rxNW A PX) (hX : ∀ S S1 : Nat → Int → Int, X S → bx_same rxL (bx_mdl rxC221.2.2.1) S S1 → X S1) (hQSOP : bx_ConP rxG rxNW rxAO PX Dg rxL X vwCl A ad l rxM105 rxCSOP rxPSOP rxPSSOP) (hQFIL : bx_ConP rxG rxNW rxAO PX Dg rxL X vwCl A ad l rxM114 rxCFIL rxPFIL rxPSFIL) (hQVOF : bx_ConP rxG rxNW rxAO PX Dg rxL X vwCl A ad l rxM115 rxCVOF rxPVOF rxPSVOF) {S0 : Nat → Int → Int} {ws : List Int} (hP : rxPSGD S0 ws) : ∀ (i : Nat) (q : bx_HE), rxYSGD[i]? = some q → rxUSGD q = true → ∀ {p : Program} {e : Env} {R : Room} {s : State} {m : MethodId} {args : Array Value} {below : List Frame} {meth : Method} {c : Code} {Q : State → Prop} {H0 : Heap}, rx_Fr rxG rxNW rxAO PX p s m args meth c rxM221 → (∀ q, H0.size ≤ q → A q) → H0 = s.heap → rxM221.2.2.2.2.2.2.1 ≤ R.cells → rxM221.2.2.2.2.2.2.2 ≤ R.slots → rxC221.2.2.2.1 ≤ R.frames → rxC221.2.2.2.1 * 40 ≤ R.locals → bx_Step p l e R s m args below meth c Q Dg rxL X vwCl A xa H0 ad rxM221 rxYSGD (rxISGD S0 ws) (rxmSGD S0 ws) S0 rxC221.2.2.1 i q := by
  intro i q hq hus p e R s m args below meth c Q H0 hF hA hH0 hmc hms hd hdl
  match i, hq with
  | 0, hq =>
    cases hq
    exact absurd (show false = true from hus) Bool.false_ne_true
  | 1, hq =>
    cases hq
    exact rx_stepC (ins := .invokevirtual 132) (len := 3) (i_p := 2) (M_p := rxM105) (d := rxC221.2.2.2.1) (as := [.inr (3, (0, 1)), .inr (0, (8, 0))]) (t := []) (ct := rxCSOP) hPX hF rfl hA hH0 hmc hms hd hdl (by decide +kernel) rfl rfl (by decide +kernel) (by decide +kernel) hQSOP (by decide +kernel) rfl (Or.inr ⟨_, _, _, 4, rfl, rfl, by omega, rfl, rfl, rfl⟩) (rxsSGD_1 hP)
  | 2, hq =>
    cases hq
    exact rx_stepC (ins := .invokevirtual 157) (len := 3) (i_p := 3) (M_p := rxM114) (d := rxC221.2.2.2.1) (as := [.inr (3, (10, 0))]) (t := []) (ct := rxCFIL) hPX hF rfl hA hH0 hmc hms hd hdl (by decide +kernel) rfl rfl (by decide +kernel) (by decide +kernel) hQFIL (by decide +kernel) rfl (Or.inr ⟨_, _, _, 1, rfl, rfl, by omega, rfl, rfl, rfl⟩) (rxsSGD_2 hP)
  | 3, hq =>
    cases hq
    exact absurd (show false = true from hus) Bool.false_ne_true
  | 4, hq =>
    cases hq
    exact rx_stepC (ins := .invokevirtual 161) (len := 3) (i_p := 5) (M_p := rxM115) (d := rxC221.2.2.2.1) (as := [.inr (3, (0, 1)), .inr (0, (8, 0))]) (t := []) (ct := rxCVOF) hPX hF rfl hA hH0 hmc hms hd hdl (by decide +kernel) rfl rfl (by decide +kernel) (by decide +kernel) hQVOF (by decide +kernel) rfl (Or.inr ⟨_, _, _, 1, rfl, rfl, by omega, rfl, rfl, rfl⟩) (rxsSGD_4 hP)
  | 5, hq =>
    cases hq
    exact absurd (show false = true from hus) Bool.false_ne_true
  | n + 6, hq => cases hq
theorem rxQSGD {PX : State → Prop} {Dg : va_G} {A : Nat → Prop} {ad xa : Nat → Nat} {l : Launch} {X : (Nat → Int → Int) → Prop} (hPX : rx_PXOK rxNW A PX) (hsl : ∀ s : State, PX s → ∀ o idx n : Nat, rxSl o idx = some n → ∃ tx : String, vk_R (rxNm o) idx tx (ad n) s)
    (hX : ∀ S S_p : Nat → Int → Int, X S → bx_same rxL (bx_mdl rxC221.2.2.1) S S_p → X S_p)
    (ih : ∀ (j2 : Nat) (ct2 : bx_Ct) (M2 : rx_Mt), ct2 ∈ rxCnE j2 → ct2.2.2.2.1 + 1 ≤ rxC221.2.2.2.1 → rxT.2.2.2.2.2 j2 = some M2 → bx_Con rxG rxNW rxAO PX Dg rxL X vwCl A ad l M2 ct2) (hQSOP : bx_ConP rxG rxNW rxAO PX Dg rxL X vwCl A ad l rxM105 rxCSOP rxPSOP rxPSSOP) (hQFIL : bx_ConP rxG rxNW rxAO PX Dg rxL X vwCl A ad l rxM114 rxCFIL rxPFIL rxPSFIL) (hQVOF : bx_ConP rxG rxNW rxAO PX Dg rxL X vwCl A ad l rxM115 rxCVOF rxPVOF rxPSVOF) : bx_ConP rxG rxNW rxAO PX Dg rxL X vwCl A ad l rxM221 rxC221 rxPSGD rxPSSGD :=
  rxQof (xa := xa) (Cn := rxCnE) (f := 30000) (j := 221) (tab := rxYSGD) (us := rxUSGD) hPX hsl hX ih rfl rxYcSGD rxISGD rxmSGD
    (fun S0 ws r I0 I ht0 ht as he he1 hX0 hI0 hP hs ha => by
      have e := he.symm.trans (show bx_ent0 rxNP rxC221.1 bx_I0 [] = some ([(0, 0), (0, 0), (0, 0), (0, 0), (0, 0), (0, 0), (0, 0), (0, 0), ((-2147483648), 2147483647), ((-2147483648), 2147483647)], [], [.inr (3, (0, 0)), .inr (0, (8, 0)), .inr (0, (9, 0))]) from rfl)
      cases e
      subst ha
      have h0 : r 0 = 0 := hs.1
      show rxISGD_0 S0 _ S0 (r 8) (r 9)
      refine ⟨rfl, ?_⟩
      simp only [List.map_cons, List.map_nil, bx_xv_ok h0]
      rfl)
    (fun S0 ws hP => rxuSGD (xa := xa) hPX hX hQSOP hQFIL hQVOF hP) (fun S0 ws hP => rxgCSGD hP) (fun S0 ws hP => rxgESGD hP)
/-! CONTRACT BY HAND, by program (wip/sim/genhand.py): DeadUnderstudiesModel.stage -/
def rxISTR_0 (S0 : Nat → Int → Int) (ws : List Int) (S : Nat → Int → Int) (pa wh : Int) : Prop := S = S0 ∧ ws = [480, pa, wh]
def rxmSTR_0 (S0 : Nat → Int → Int) (ws : List Int) (S : Nat → Int → Int) (pa wh : Int) : Nat := 1000
def rxzSTR_0 : rx_Z := ([(0, 0), (0, 0), (0, 0), (0, 0), (0, 0), (0, 0), (0, 0), (0, 0), ((-2147483648), 2147483647), ((-2147483648), 2147483647)], [], [], 0, 0, 0, [(0, .inr (3, (0, 480))), (1, .inr (0, (8, 0))), (2, .inr (0, (9, 0)))], [])
def rxISTR_1 (S0 : Nat → Int → Int) (ws : List Int) (S : Nat → Int → Int) (pa wh n i : Int) : Prop := ws = [480, pa, wh] ∧ pa < S0 482 0 ∧ n = rjCn (fun t => decide (S0 482 (262 + 3 * t) = pa)) i.toNat ∧ n ≤ i ∧ i ≤ S0 482 2 ∧ (∀ j : Int, S 482 j = S0 482 j)
def rxmSTR_1 (S0 : Nat → Int → Int) (ws : List Int) (S : Nat → Int → Int) (pa wh n i : Int) : Nat := (100 - i).toNat
def rxzSTR_1 : rx_Z := ([(0, 0), (0, 0), (0, 0), (0, 0), (0, 0), (0, 0), (0, 0), (0, 0), (0, 5), (2, 3), (0, 12), (0, 12)], [], [], 0, 0, 51, [(0, .inr (3, (0, 480))), (1, .inr (0, (8, 0))), (2, .inr (0, (9, 0))), (3, .inr (0, (10, 0))), (4, .inr (0, (11, 0)))], [])
def rxISTR_2 (S0 : Nat → Int → Int) (ws : List Int) (S : Nat → Int → Int) (pa wh n at_ : Int) : Prop := ws = [480, pa, wh] ∧ pa < S0 482 0 ∧ at_ = 22 + 36 * pa ∧ (∀ j : Int, S 482 j = S0 482 j)
def rxmSTR_2 (S0 : Nat → Int → Int) (ws : List Int) (S : Nat → Int → Int) (pa wh n at_ : Int) : Nat := 50
def rxzSTR_2 : rx_Z := ([(0, 0), (0, 0), (0, 0), (0, 0), (0, 0), (0, 0), (0, 0), (0, 0), (0, 5), (2, 2), (0, 12), (22, 202)], [], [], 0, 0, 106, [(0, .inr (3, (0, 480))), (1, .inr (0, (8, 0))), (2, .inr (0, (9, 0))), (3, .inr (0, (10, 0)))], [.inr (0, (11, 0)), .inr (3, (0, 480))])
def rxISTR_3 (S0 : Nat → Int → Int) (ws : List Int) (S : Nat → Int → Int) (pa wh n at_ m : Int) : Prop := ws = [480, pa, wh] ∧ pa < S0 482 0 ∧ m = rjCn (fun t => decide (S0 482 (22 + 36 * pa + t) ≠ -1)) 36
def rxmSTR_3 (S0 : Nat → Int → Int) (ws : List Int) (S : Nat → Int → Int) (pa wh n at_ m : Int) : Nat := 40
def rxzSTR_3 : rx_Z := ([(0, 0), (0, 0), (0, 0), (0, 0), (0, 0), (0, 0), (0, 0), (0, 0), (0, 5), (2, 2), (0, 12), (22, 202), ((-2147483648), 2147483647)], [], [], 0, 0, 109, [(0, .inr (3, (0, 480))), (1, .inr (0, (8, 0))), (2, .inr (0, (9, 0))), (3, .inr (0, (10, 0)))], [.inr (0, (12, 0))])
def rxoSTR_0_0 : bx_HO := (([(0, 0), (0, 0), (0, 0), (0, 0), (0, 0), (0, 0), (0, 0), (0, 0), (0, 5), (2, 3), (1, 6)], [(1, (8, 0), (10, (-1)))], [(((0, 0), 1851192626986356797424340330377019318111018015026043177837658112000000), .inr (0, (10, 0))), (((0, 482), 0), .inr (0, (10, 0))), (((0, 480), 3), .inr (3, (0, 482))), (((0, 0), 1851192626986356797424340330377019318111018015026043177836478467000000), .inr (0, (0, 0))), (((0, 480), 0), .inr (0, (0, 0)))], 0, 0, 51, [(4, .inr (0, (0, 0))), (3, .inr (0, (0, 0))), (0, .inr (3, (0, 480))), (1, .inr (0, (8, 0))), (2, .inr (0, (9, 0)))], []), [], [], [(0, 0), (0, 0), (0, 0), (0, 0), (0, 0), (0, 0), (0, 0), (0, 0), (8, 0), (9, 0), (0, 0), (0, 0)], 1)
def rxeSTR_0_0 : rx_End × List (Nat × Int × Int) := (([(0, 0), (0, 0), (0, 0), (0, 0), (0, 0), (0, 0), (0, 0), (0, 0), (0, 5), ((-2147483648), (-1)), (1, 6)], [(1, (8, 0), (10, (-1)))], [(((0, 0), 1851192626986356797424340330377019318111018015026043177837658112000000), .inr (0, (10, 0))), (((0, 482), 0), .inr (0, (10, 0))), (((0, 480), 3), .inr (3, (0, 482))), (((0, 0), 1851192626986356797424340330377019318111018015026043177836478467000000), .inr (0, (0, 0))), (((0, 480), 0), .inr (0, (0, 0)))], some (.inr (0, (0, (-1))))), [])
def rxeSTR_0_1 : rx_End × List (Nat × Int × Int) := (([(0, 0), (0, 0), (0, 0), (0, 0), (0, 0), (0, 0), (0, 0), (0, 0), (0, 5), (4, 2147483647), (1, 6)], [(1, (8, 0), (10, (-1)))], [(((0, 0), 1851192626986356797424340330377019318111018015026043177837658112000000), .inr (0, (10, 0))), (((0, 482), 0), .inr (0, (10, 0))), (((0, 480), 3), .inr (3, (0, 482))), (((0, 0), 1851192626986356797424340330377019318111018015026043177836478467000000), .inr (0, (0, 0))), (((0, 480), 0), .inr (0, (0, 0)))], some (.inr (0, (0, (-1))))), [])
def rxeSTR_0_2 : rx_End × List (Nat × Int × Int) := (([(0, 0), (0, 0), (0, 0), (0, 0), (0, 0), (0, 0), (0, 0), (0, 0), (0, 5), (0, 1), (1, 6), (0, 10), (10, 21), (0, 24)], [(604462909807314587353097000000, (12, 0), (11, 10)), (6, (11, 0), (8, 0)), (1, (8, 0), (10, (-1)))], [(((0, 0), 1851192626986356797424377080872646779465072059483645808804495360000000), .inr (0, (13, 0))), (((0, 0), 1851192626986356797424340330377019318111018015026043177837658112000000), .inr (0, (10, 0))), (((0, 482), 0), .inr (0, (10, 0))), (((0, 480), 3), .inr (3, (0, 482))), (((0, 0), 1851192626986356797424340330377019318111018015026043177836478467000000), .inr (0, (0, 0))), (((0, 480), 0), .inr (0, (0, 0)))], some (.inr (0, (13, 0)))), [])
def rxeSTR_0_3 : rx_End × List (Nat × Int × Int) := (([(0, 0), (0, 0), (0, 0), (0, 0), (0, 0), (0, 0), (0, 0), (0, 0), (0, 2147483647), ((-2147483648), 2147483647), (0, 6)], [(0, (10, (-1)), (8, 0))], [(((0, 0), 1851192626986356797424340330377019318111018015026043177837658112000000), .inr (0, (10, 0))), (((0, 482), 0), .inr (0, (10, 0))), (((0, 480), 3), .inr (3, (0, 482))), (((0, 0), 1851192626986356797424340330377019318111018015026043177836478467000000), .inr (0, (0, 0))), (((0, 480), 0), .inr (0, (0, 0)))], some (.inr (0, (0, (-1))))), [])
def rxeSTR_0_4 : rx_End × List (Nat × Int × Int) := (([(0, 0), (0, 0), (0, 0), (0, 0), (0, 0), (0, 0), (0, 0), (0, 0), ((-2147483648), (-1)), ((-2147483648), 2147483647), (0, 6)], [], [(((0, 0), 1851192626986356797424340330377019318111018015026043177837658112000000), .inr (0, (10, 0))), (((0, 482), 0), .inr (0, (10, 0))), (((0, 480), 3), .inr (3, (0, 482))), (((0, 0), 1851192626986356797424340330377019318111018015026043177836478467000000), .inr (0, (0, 0))), (((0, 480), 0), .inr (0, (0, 0)))], some (.inr (0, (0, (-1))))), [])
def rxoSTR_1_0 : bx_HO := (([(0, 0), (0, 0), (0, 0), (0, 0), (0, 0), (0, 0), (0, 0), (0, 0), (0, 5), (2, 3), (0, 12), (0, 11), (1, 12), (0, 33), (0, 5)], [(2, (14, 0), (8, 0)), (7, (13, 0), (11, 0)), (0, (11, 0), (12, 0))], [(((0, 0), 1851192626986356850009537321549158435652466916759949125820219392000000), .inr (0, (14, 0))), (((0, 0), 1851192626986356797825753743950570534658660943933713684945305600000000), .inr (0, (12, 0))), (((0, 482), 2), .inr (0, (12, 0))), (((0, 480), 3), .inr (3, (0, 482)))], 0, 0, 51, [(4, .inr (0, (11, 1))), (3, .inr (0, (10, 1))), (0, .inr (3, (0, 480))), (1, .inr (0, (8, 0))), (2, .inr (0, (9, 0)))], []), [(10, (-1), 11)], [], [(0, 0), (0, 0), (0, 0), (0, 0), (0, 0), (0, 0), (0, 0), (0, 0), (8, 0), (9, 0), (10, 1), (11, 1)], 1)
def rxoSTR_1_1 : bx_HO := (([(0, 0), (0, 0), (0, 0), (0, 0), (0, 0), (0, 0), (0, 0), (0, 0), (0, 5), (2, 3), (0, 12), (0, 11), (1, 12), (0, 33), (0, 5)], [(3, (14, 0), (8, 0)), (7, (13, 0), (11, 0)), (0, (11, 0), (12, 0))], [(((0, 0), 1851192626986356850009537321549158435652466916759949125820219392000000), .inr (0, (14, 0))), (((0, 0), 1851192626986356797825753743950570534658660943933713684945305600000000), .inr (0, (12, 0))), (((0, 482), 2), .inr (0, (12, 0))), (((0, 480), 3), .inr (3, (0, 482)))], 0, 0, 51, [(4, .inr (0, (11, 1))), (3, .inr (0, (10, 0))), (0, .inr (3, (0, 480))), (1, .inr (0, (8, 0))), (2, .inr (0, (9, 0)))], []), [], [], [(0, 0), (0, 0), (0, 0), (0, 0), (0, 0), (0, 0), (0, 0), (0, 0), (8, 0), (9, 0), (10, 0), (11, 1)], 1)
def rxoSTR_1_2 : bx_HO := (([(0, 0), (0, 0), (0, 0), (0, 0), (0, 0), (0, 0), (0, 0), (0, 0), (0, 5), (2, 2), (0, 12), (0, 12), (0, 12), (0, 180)], [(40, (13, 0), (8, 0)), (1, (12, 0), (11, 0))], [(((0, 0), 1851192626986356797825753743950570534658660943933713684945305600000000), .inr (0, (12, 0))), (((0, 482), 2), .inr (0, (12, 0))), (((0, 480), 3), .inr (3, (0, 482)))], 0, 0, 106, [(0, .inr (3, (0, 480))), (1, .inr (0, (8, 0))), (2, .inr (0, (9, 0))), (3, .inr (0, (10, 0))), (4, .inr (0, (11, 0)))], [.inr (0, (13, 22)), .inr (3, (0, 480))]), [], [], [(0, 0), (0, 0), (0, 0), (0, 0), (0, 0), (0, 0), (0, 0), (0, 0), (8, 0), (9, 0), (10, 0), (13, 22)], 2)
def rxeSTR_1_0 : rx_End × List (Nat × Int × Int) := (([(0, 0), (0, 0), (0, 0), (0, 0), (0, 0), (0, 0), (0, 0), (0, 0), (0, 5), (3, 3), (0, 12), (0, 12), (0, 12)], [(3, (9, 0), (0, 2)), (1, (12, 0), (11, 0))], [(((0, 0), 1851192626986356797825753743950570534658660943933713684945305600000000), .inr (0, (12, 0))), (((0, 482), 2), .inr (0, (12, 0))), (((0, 480), 3), .inr (3, (0, 482)))], some (.inr (0, (10, 0)))), [])
def rxeSTR_3_0 : rx_End × List (Nat × Int × Int) := (([(0, 0), (0, 0), (0, 0), (0, 0), (0, 0), (0, 0), (0, 0), (0, 0), (0, 5), (2, 2), (0, 12), (22, 202), ((-2147483648), 2147483647)], [], [], some (.inr (0, (12, 0)))), [])
def rxYSTR : List bx_HE := [(rxzSTR_0, [rxoSTR_0_0], [rxeSTR_0_0, rxeSTR_0_1, rxeSTR_0_2, rxeSTR_0_3, rxeSTR_0_4]), (rxzSTR_1, [rxoSTR_1_0, rxoSTR_1_1, rxoSTR_1_2], [rxeSTR_1_0]), (rxzSTR_2, [], []), (rxzSTR_3, [], [rxeSTR_3_0])]
def rxUSTR (q : bx_HE) : Bool := Nat.beq (rx_zpc q.1) 106
def rxYBSTR : bx_B := (rxV, rxNP, rxDmf, bx_mdH rxC222.2.2.1)
set_option maxRecDepth 100000 in
theorem rxYcSTR : bx_chkH rxYBSTR rxM222 rxC222 rxYSTR (rxUSTR, fun cut z => rx_ex2 (rxCT rxYBSTR rxCnE) cut 30000 rxC222.2.2.2.1 222 z) = true := by decide +kernel
def rxISTR (S0 : Nat → Int → Int) (ws : List Int) (i : Nat) : bx_SP := fun S r => match i with | 0 => rxISTR_0 S0 ws S (r 8) (r 9) | 1 => rxISTR_1 S0 ws S (r 8) (r 9) (r 10) (r 11) | 2 => rxISTR_2 S0 ws S (r 8) (r 9) (r 10) (r 11) | 3 => rxISTR_3 S0 ws S (r 8) (r 9) (r 10) (r 11) (r 12) | _ => False
def rxmSTR (S0 : Nat → Int → Int) (ws : List Int) (i : Nat) (S : Nat → Int → Int) (r : Nat → Int) : Nat := match i with | 0 => rxmSTR_0 S0 ws S (r 8) (r 9) | 1 => rxmSTR_1 S0 ws S (r 8) (r 9) (r 10) (r 11) | 2 => rxmSTR_2 S0 ws S (r 8) (r 9) (r 10) (r 11) | 3 => rxmSTR_3 S0 ws S (r 8) (r 9) (r 10) (r 11) (r 12) | _ => 0
def rxPSTR (S0 : Nat → Int → Int) (ws : List Int) : Prop := True
def rxPSSTR (S0 : Nat → Int → Int) (ws : List Int) (S : Nat → Int → Int) (w : Option Int) : Prop := ∃ pa wh : Int, ws = [480, pa, wh] ∧ (((pa < 0 ∨ S0 482 0 ≤ pa ∨ wh < 0 ∨ 3 < wh) ∧ w = some (-1)) ∨ ((0 ≤ pa ∧ pa < S0 482 0) ∧ wh = 0 ∧ w = some (S0 482 (10 + 2 * pa))) ∨ ((0 ≤ pa ∧ pa < S0 482 0) ∧ wh = 1 ∧ w = some (S0 482 (11 + 2 * pa))) ∨ ((0 ≤ pa ∧ pa < S0 482 0) ∧ wh = 2 ∧ w = some (rjCn (fun t => decide (S0 482 (22 + 36 * pa + t) ≠ -1)) 36)) ∨ ((0 ≤ pa ∧ pa < S0 482 0) ∧ wh = 3 ∧ w = some (rjCn (fun t => decide (S0 482 (262 + 3 * t) = pa)) (S0 482 2).toNat)))
theorem rxkSTR_2 {S0 : Nat → Int → Int} {ws : List Int} {S : Nat → Int → Int} {pa wh n at_ : Int} (hP : rxPSTR S0 ws) (hin : bx_same rxL (bx_mdl rxC222.2.2.1) S0 S) (I0 : bx_Inv rxL S) (hinv : rxISTR_2 S0 ws S pa wh n at_) (l8 : 0 ≤ pa) (u8 : pa ≤ 5) (l9 : 2 ≤ wh) (u9 : wh ≤ 2) (l10 : 0 ≤ n) (u10 : n ≤ 12) (l11 : 22 ≤ at_) (u11 : at_ ≤ 202) : rxPTLD S [480, at_] ∧ ∀ (S_p : Nat → Int → Int) (m : Int), (-2147483648) ≤ m → m ≤ 2147483647 → rxPSTLD S [480, at_] S_p (some m) → bx_Inv rxL S_p → bx_same rxL (bx_mdl rxCTLD.2.2.1) S S_p → rxISTR_3 S0 ws S_p pa wh n at_ m ∧ rxmSTR_3 S0 ws S_p pa wh n at_ m < rxmSTR_2 S0 ws S pa wh n at_ := by
  obtain ⟨hw, hp, ha, hf⟩ := hinv
  refine ⟨trivial, fun S_p m _ _ hq _ hsm => ⟨⟨hw, hp, ?_⟩, by unfold rxmSTR_2 rxmSTR_3; omega⟩⟩
  obtain ⟨hS, a2, hw3, hv⟩ := hq
  have k1 : at_ = a2 := Option.some.inj (congrArg (fun l : List Int => l[1]?) hw3)
  subst k1
  subst ha
  exact (Option.some.inj hv).trans (rjCn_cg fun t _ _ => by rw [hf])
theorem rxsSTR_2 {X : (Nat → Int → Int) → Prop} {S0 : Nat → Int → Int} {ws : List Int} (hP : rxPSTR S0 ws) : rx_obK X S0 rxC222.2.2.1 rxCTLD.2.2.1 (rxISTR S0 ws) (rxmSTR S0 ws) 2 3 rxzSTR_2 rxzSTR_3 [.inr (3, (0, 480)), .inr (0, (11, 0))] (some 12) rxPTLD rxPSTLD := by
  intro S r hinv hXS I0 hin hs_ hf_
  have b_ := bx_bds_sat hs_
  have f_ := bx_fcl_ok hs_.1 hf_
  obtain ⟨⟨l8, u8⟩, ⟨l9, u9⟩, ⟨l10, u10⟩, ⟨l11, u11⟩, -⟩ := b_
  have g := rxkSTR_2 hP hin I0 hinv l8 u8 l9 u9 l10 u10 l11 u11
  have ea : List.map (bx_num r) [.inr (3, (0, 480)), .inr (0, (11, 0))] = [480, (r 11)] := by
    simp only [List.map_cons, List.map_nil, bx_xv_ok hs_.1]
    rfl
  rw [ea]
  refine ⟨g.1, fun S_p w r_p hPS hX_p I1 hsm hr hw hs_p => ?_⟩
  have hw := hw _ rfl
  subst hw
  have b_p := hs_p.2.2 12 _ _ rfl
  have g2 := g.2 S_p (r_p 12) b_p.1 b_p.2 hPS I1 hsm
  show rxISTR_3 S0 ws S_p (r_p 8) (r_p 9) (r_p 10) (r_p 11) (r_p 12) ∧ rxmSTR_3 S0 ws S_p (r_p 8) (r_p 9) (r_p 10) (r_p 11) (r_p 12) < _
  rw [hr 8 (by decide), hr 9 (by decide), hr 10 (by decide), hr 11 (by decide)]
  exact g2
theorem rxcSTR_0_0 {S0 : Nat → Int → Int} {ws : List Int} {S : Nat → Int → Int} {pa wh x10 : Int} (hP : rxPSTR S0 ws) (hin : bx_same rxL (bx_mdl rxC222.2.2.1) S0 S) (I0 : bx_Inv rxL S) (hinv : rxISTR_0 S0 ws S pa wh) (l8 : 0 ≤ pa) (u8 : pa ≤ 5) (l9 : 2 ≤ wh) (u9 : wh ≤ 3) (l10 : 1 ≤ x10) (u10 : x10 ≤ 6) (f0 : pa ≤ x10 + (-1)) (e0 : (bx_up S 480 0 0) 482 0 = x10) : (True) ∧ (True) ∧ rxISTR_1 S0 ws (bx_up S 480 0 0) pa wh 0 0 ∧ rxmSTR_1 S0 ws (bx_up S 480 0 0) pa wh 0 0 < rxmSTR_0 S0 ws S pa wh := by
  obtain ⟨rfl, hw⟩ := hinv
  have qe0 := e0
  rw [bx_up_ne (by omega)] at qe0
  have b2 : 0 ≤ S 482 2 ∧ S 482 2 ≤ 12 := I0 482 2 (by decide) (by decide)
  exact ⟨trivial, trivial, ⟨hw, by omega, rfl, by omega, b2.1, fun j => bx_up_ne (by omega)⟩, by unfold rxmSTR_0 rxmSTR_1; omega⟩
theorem rxgSTR_0_0 {X : (Nat → Int → Int) → Prop} {S0 : Nat → Int → Int} {ws : List Int} (hP : rxPSTR S0 ws) : bx_obC rxL X S0 rxC222.2.2.1 (rxISTR S0 ws) (rxmSTR S0 ws) 0 rxzSTR_0 rxoSTR_0_0 := by
  intro S S_p r r_p hinv hX hin hsm_ hseg
  obtain ⟨I0, I1, h0_, hr_, b_, f_, d_⟩ := bx_cl (evs := [(0, (0, 482), (0, 0), .inr (0, (10, 0))), (1, (0, 480), (0, 0), .inr (0, (0, 0)))]) (fvs := [(1, (8, 0), (10, (-1)), (0, 0))]) hseg (by decide +kernel) (by decide +kernel)
  have hinv : rxISTR_0 S0 ws S (r 8) (r 9) := hinv
  rw [← hr_ 8 (by decide), ← hr_ 9 (by decide)] at hinv
  obtain ⟨⟨l8, u8⟩, ⟨l9, u9⟩, ⟨l10, u10⟩, -⟩ := b_
  obtain ⟨f0, -⟩ := f_
  obtain ⟨e0, ⟨T1, w_, w1⟩⟩ := d_
  subst w1
  subst w_
  have g := rxcSTR_0_0 hP hin I0 hinv l8 u8 l9 u9 l10 u10 f0 e0
  refine ⟨bx_narP_ok (l := []) g.1, bx_nfP_ok h0_ (fvs := []) (by decide +kernel) g.2.1, ?_, ?_⟩
  · show rxISTR_1 S0 ws (bx_up T1 480 (0) (0)) (bx_val [(0, 0), (0, 0), (0, 0), (0, 0), (0, 0), (0, 0), (0, 0), (0, 0), (8, 0), (9, 0), (0, 0), (0, 0)] r_p 8) (bx_val [(0, 0), (0, 0), (0, 0), (0, 0), (0, 0), (0, 0), (0, 0), (0, 0), (8, 0), (9, 0), (0, 0), (0, 0)] r_p 9) (bx_val [(0, 0), (0, 0), (0, 0), (0, 0), (0, 0), (0, 0), (0, 0), (0, 0), (8, 0), (9, 0), (0, 0), (0, 0)] r_p 10) (bx_val [(0, 0), (0, 0), (0, 0), (0, 0), (0, 0), (0, 0), (0, 0), (0, 0), (8, 0), (9, 0), (0, 0), (0, 0)] r_p 11)
    rw [bx_val_x (n := 8) (e := (8, 0)) h0_ rfl, bx_val_x (n := 9) (e := (9, 0)) h0_ rfl, bx_val_x (n := 10) (e := (0, 0)) h0_ rfl, bx_val_x (n := 11) (e := (0, 0)) h0_ rfl]
    exact g.2.2.1
  · show rxmSTR_1 S0 ws (bx_up T1 480 (0) (0)) (bx_val [(0, 0), (0, 0), (0, 0), (0, 0), (0, 0), (0, 0), (0, 0), (0, 0), (8, 0), (9, 0), (0, 0), (0, 0)] r_p 8) (bx_val [(0, 0), (0, 0), (0, 0), (0, 0), (0, 0), (0, 0), (0, 0), (0, 0), (8, 0), (9, 0), (0, 0), (0, 0)] r_p 9) (bx_val [(0, 0), (0, 0), (0, 0), (0, 0), (0, 0), (0, 0), (0, 0), (0, 0), (8, 0), (9, 0), (0, 0), (0, 0)] r_p 10) (bx_val [(0, 0), (0, 0), (0, 0), (0, 0), (0, 0), (0, 0), (0, 0), (0, 0), (8, 0), (9, 0), (0, 0), (0, 0)] r_p 11) < rxmSTR_0 S0 ws T1 (r 8) (r 9)
    rw [bx_val_x (n := 8) (e := (8, 0)) h0_ rfl, bx_val_x (n := 9) (e := (9, 0)) h0_ rfl, bx_val_x (n := 10) (e := (0, 0)) h0_ rfl, bx_val_x (n := 11) (e := (0, 0)) h0_ rfl, ← hr_ 8 (by decide), ← hr_ 9 (by decide)]
    exact g.2.2.2
theorem rxdSTR_0_0 {S0 : Nat → Int → Int} {ws : List Int} {S : Nat → Int → Int} {pa wh x10 : Int} (hP : rxPSTR S0 ws) (hin : bx_same rxL (bx_mdl rxC222.2.2.1) S0 S) (hin2 : bx_same rxL (bx_mdl rxC222.2.2.1) S (bx_up S 480 0 0)) (I0 : bx_Inv rxL S) (I1 : bx_Inv rxL (bx_up S 480 0 0)) (hinv : rxISTR_0 S0 ws S pa wh) (l8 : 0 ≤ pa) (u8 : pa ≤ 5) (l9 : (-2147483648) ≤ wh) (u9 : wh ≤ (-1)) (l10 : 1 ≤ x10) (u10 : x10 ≤ 6) (f0 : pa ≤ x10 + (-1)) (e0 : (bx_up S 480 0 0) 482 0 = x10) : (True) ∧ rxPSSTR S0 ws (bx_up S 480 0 0) (some ((-1))) := by
  obtain ⟨rfl, hw⟩ := hinv
  have qe0 := e0
  rw [bx_up_ne (by omega)] at qe0
  exact ⟨trivial, pa, wh, hw, Or.inl ⟨by omega, rfl⟩⟩
theorem rxfSTR_0_0 {X : (Nat → Int → Int) → Prop} {S0 : Nat → Int → Int} {ws : List Int} (hP : rxPSTR S0 ws) : bx_obE rxL X S0 rxC222.2.2.1 (rxISTR S0 ws) (rxPSSTR S0 ws) 0 rxzSTR_0 rxeSTR_0_0 := by
  intro S S_p r r_p hinv hX hin hsm_ hseg
  obtain ⟨I0, I1, h0_, hr_, b_, f_, d_⟩ := bx_cl (evs := [(0, (0, 482), (0, 0), .inr (0, (10, 0))), (1, (0, 480), (0, 0), .inr (0, (0, 0)))]) (fvs := [(1, (8, 0), (10, (-1)), (0, 0))]) hseg (by decide +kernel) (by decide +kernel)
  have hinv : rxISTR_0 S0 ws S (r 8) (r 9) := hinv
  rw [← hr_ 8 (by decide), ← hr_ 9 (by decide)] at hinv
  obtain ⟨⟨l8, u8⟩, ⟨l9, u9⟩, ⟨l10, u10⟩, -⟩ := b_
  obtain ⟨f0, -⟩ := f_
  obtain ⟨e0, ⟨T1, w_, w1⟩⟩ := d_
  subst w1
  subst w_
  have g := rxdSTR_0_0 hP hin hsm_ I0 I1 hinv l8 u8 l9 u9 l10 u10 f0 e0
  refine ⟨bx_narP_ok (l := []) g.1, ?_⟩
  show rxPSSTR S0 ws (bx_up T1 480 (0) (0)) (some (bx_num r_p (.inr (0, (0, (-1))))))
  rw [bx_xv_ok h0_]
  exact g.2
theorem rxdSTR_0_1 {S0 : Nat → Int → Int} {ws : List Int} {S : Nat → Int → Int} {pa wh x10 : Int} (hP : rxPSTR S0 ws) (hin : bx_same rxL (bx_mdl rxC222.2.2.1) S0 S) (hin2 : bx_same rxL (bx_mdl rxC222.2.2.1) S (bx_up S 480 0 0)) (I0 : bx_Inv rxL S) (I1 : bx_Inv rxL (bx_up S 480 0 0)) (hinv : rxISTR_0 S0 ws S pa wh) (l8 : 0 ≤ pa) (u8 : pa ≤ 5) (l9 : 4 ≤ wh) (u9 : wh ≤ 2147483647) (l10 : 1 ≤ x10) (u10 : x10 ≤ 6) (f0 : pa ≤ x10 + (-1)) (e0 : (bx_up S 480 0 0) 482 0 = x10) : (True) ∧ rxPSSTR S0 ws (bx_up S 480 0 0) (some ((-1))) := by
  obtain ⟨rfl, hw⟩ := hinv
  have qe0 := e0
  rw [bx_up_ne (by omega)] at qe0
  exact ⟨trivial, pa, wh, hw, Or.inl ⟨by omega, rfl⟩⟩
theorem rxfSTR_0_1 {X : (Nat → Int → Int) → Prop} {S0 : Nat → Int → Int} {ws : List Int} (hP : rxPSTR S0 ws) : bx_obE rxL X S0 rxC222.2.2.1 (rxISTR S0 ws) (rxPSSTR S0 ws) 0 rxzSTR_0 rxeSTR_0_1 := by
  intro S S_p r r_p hinv hX hin hsm_ hseg
  obtain ⟨I0, I1, h0_, hr_, b_, f_, d_⟩ := bx_cl (evs := [(0, (0, 482), (0, 0), .inr (0, (10, 0))), (1, (0, 480), (0, 0), .inr (0, (0, 0)))]) (fvs := [(1, (8, 0), (10, (-1)), (0, 0))]) hseg (by decide +kernel) (by decide +kernel)
  have hinv : rxISTR_0 S0 ws S (r 8) (r 9) := hinv
  rw [← hr_ 8 (by decide), ← hr_ 9 (by decide)] at hinv
  obtain ⟨⟨l8, u8⟩, ⟨l9, u9⟩, ⟨l10, u10⟩, -⟩ := b_
  obtain ⟨f0, -⟩ := f_
  obtain ⟨e0, ⟨T1, w_, w1⟩⟩ := d_
  subst w1
  subst w_
  have g := rxdSTR_0_1 hP hin hsm_ I0 I1 hinv l8 u8 l9 u9 l10 u10 f0 e0
  refine ⟨bx_narP_ok (l := []) g.1, ?_⟩
  show rxPSSTR S0 ws (bx_up T1 480 (0) (0)) (some (bx_num r_p (.inr (0, (0, (-1))))))
  rw [bx_xv_ok h0_]
  exact g.2
theorem rxdSTR_0_2 {S0 : Nat → Int → Int} {ws : List Int} {S : Nat → Int → Int} {pa wh x10 x11 x12 x13 : Int} (hP : rxPSTR S0 ws) (hin : bx_same rxL (bx_mdl rxC222.2.2.1) S0 S) (hin2 : bx_same rxL (bx_mdl rxC222.2.2.1) S (bx_up S 480 0 0)) (I0 : bx_Inv rxL S) (I1 : bx_Inv rxL (bx_up S 480 0 0)) (hinv : rxISTR_0 S0 ws S pa wh) (l8 : 0 ≤ pa) (u8 : pa ≤ 5) (l9 : 0 ≤ wh) (u9 : wh ≤ 1) (l10 : 1 ≤ x10) (u10 : x10 ≤ 6) (l11 : 0 ≤ x11) (u11 : x11 ≤ 10) (l12 : 10 ≤ x12) (u12 : x12 ≤ 21) (l13 : 0 ≤ x13) (u13 : x13 ≤ 24) (f0 : x12 = x11 + 10 + wh) (f1 : x11 = 2 * (pa)) (f2 : pa ≤ x10 + (-1)) (e1 : (bx_up S 480 0 0) 482 0 = x10) (e0 : (bx_up S 480 0 0) 482 x12 = x13) : (True) ∧ rxPSSTR S0 ws (bx_up S 480 0 0) (some x13) := by
  obtain ⟨rfl, hw⟩ := hinv
  have qe1 := e1
  rw [bx_up_ne (by omega)] at qe1
  have qe0 := e0
  rw [bx_up_ne (by omega)] at qe0
  by_cases c : wh = 0
  · have ix : x12 = 10 + 2 * pa := by omega
    rw [ix] at qe0
    exact ⟨trivial, pa, wh, hw, Or.inr (Or.inl (⟨⟨by omega, by omega⟩, c, congrArg some qe0.symm⟩))⟩
  · have ix : x12 = 11 + 2 * pa := by omega
    rw [ix] at qe0
    exact ⟨trivial, pa, wh, hw, Or.inr (Or.inr (Or.inl (⟨⟨by omega, by omega⟩, by omega, congrArg some qe0.symm⟩)))⟩
theorem rxfSTR_0_2 {X : (Nat → Int → Int) → Prop} {S0 : Nat → Int → Int} {ws : List Int} (hP : rxPSTR S0 ws) : bx_obE rxL X S0 rxC222.2.2.1 (rxISTR S0 ws) (rxPSSTR S0 ws) 0 rxzSTR_0 rxeSTR_0_2 := by
  intro S S_p r r_p hinv hX hin hsm_ hseg
  obtain ⟨I0, I1, h0_, hr_, b_, f_, d_⟩ := bx_cl (evs := [(0, (0, 482), (12, 0), .inr (0, (13, 0))), (0, (0, 482), (0, 0), .inr (0, (10, 0))), (1, (0, 480), (0, 0), .inr (0, (0, 0)))]) (fvs := [(5, (12, 0), (11, 10), (9, 0)), (4, (11, 0), (8, 0), (0, 2)), (1, (8, 0), (10, (-1)), (0, 0))]) hseg (by decide +kernel) (by decide +kernel)
  have hinv : rxISTR_0 S0 ws S (r 8) (r 9) := hinv
  rw [← hr_ 8 (by decide), ← hr_ 9 (by decide)] at hinv
  obtain ⟨⟨l8, u8⟩, ⟨l9, u9⟩, ⟨l10, u10⟩, ⟨l11, u11⟩, ⟨l12, u12⟩, ⟨l13, u13⟩, -⟩ := b_
  obtain ⟨f0, f1, f2, -⟩ := f_
  obtain ⟨e0, ⟨e1, ⟨T2, w_, w2⟩⟩⟩ := d_
  subst w2
  subst w_
  have g := rxdSTR_0_2 hP hin hsm_ I0 I1 hinv l8 u8 l9 u9 l10 u10 l11 u11 l12 u12 l13 u13 f0 f1 f2 e1 e0
  refine ⟨bx_narP_ok (l := []) g.1, ?_⟩
  show rxPSSTR S0 ws (bx_up T2 480 (0) (0)) (some (bx_num r_p (.inr (0, (13, 0)))))
  rw [bx_xv_ok h0_]
  exact g.2
theorem rxdSTR_0_3 {S0 : Nat → Int → Int} {ws : List Int} {S : Nat → Int → Int} {pa wh x10 : Int} (hP : rxPSTR S0 ws) (hin : bx_same rxL (bx_mdl rxC222.2.2.1) S0 S) (hin2 : bx_same rxL (bx_mdl rxC222.2.2.1) S (bx_up S 480 0 0)) (I0 : bx_Inv rxL S) (I1 : bx_Inv rxL (bx_up S 480 0 0)) (hinv : rxISTR_0 S0 ws S pa wh) (l8 : 0 ≤ pa) (u8 : pa ≤ 2147483647) (l9 : (-2147483648) ≤ wh) (u9 : wh ≤ 2147483647) (l10 : 0 ≤ x10) (u10 : x10 ≤ 6) (f0 : x10 + (-1) < pa) (e0 : (bx_up S 480 0 0) 482 0 = x10) : (True) ∧ rxPSSTR S0 ws (bx_up S 480 0 0) (some ((-1))) := by
  obtain ⟨rfl, hw⟩ := hinv
  have qe0 := e0
  rw [bx_up_ne (by omega)] at qe0
  exact ⟨trivial, pa, wh, hw, Or.inl ⟨by omega, rfl⟩⟩
theorem rxfSTR_0_3 {X : (Nat → Int → Int) → Prop} {S0 : Nat → Int → Int} {ws : List Int} (hP : rxPSTR S0 ws) : bx_obE rxL X S0 rxC222.2.2.1 (rxISTR S0 ws) (rxPSSTR S0 ws) 0 rxzSTR_0 rxeSTR_0_3 := by
  intro S S_p r r_p hinv hX hin hsm_ hseg
  obtain ⟨I0, I1, h0_, hr_, b_, f_, d_⟩ := bx_cl (evs := [(0, (0, 482), (0, 0), .inr (0, (10, 0))), (1, (0, 480), (0, 0), .inr (0, (0, 0)))]) (fvs := [(0, (10, (-1)), (8, 0), (0, 0))]) hseg (by decide +kernel) (by decide +kernel)
  have hinv : rxISTR_0 S0 ws S (r 8) (r 9) := hinv
  rw [← hr_ 8 (by decide), ← hr_ 9 (by decide)] at hinv
  obtain ⟨⟨l8, u8⟩, ⟨l9, u9⟩, ⟨l10, u10⟩, -⟩ := b_
  obtain ⟨f0, -⟩ := f_
  obtain ⟨e0, ⟨T1, w_, w1⟩⟩ := d_
  subst w1
  subst w_
  have g := rxdSTR_0_3 hP hin hsm_ I0 I1 hinv l8 u8 l9 u9 l10 u10 f0 e0
  refine ⟨bx_narP_ok (l := []) g.1, ?_⟩
  show rxPSSTR S0 ws (bx_up T1 480 (0) (0)) (some (bx_num r_p (.inr (0, (0, (-1))))))
  rw [bx_xv_ok h0_]
  exact g.2
theorem rxdSTR_0_4 {S0 : Nat → Int → Int} {ws : List Int} {S : Nat → Int → Int} {pa wh x10 : Int} (hP : rxPSTR S0 ws) (hin : bx_same rxL (bx_mdl rxC222.2.2.1) S0 S) (hin2 : bx_same rxL (bx_mdl rxC222.2.2.1) S (bx_up S 480 0 0)) (I0 : bx_Inv rxL S) (I1 : bx_Inv rxL (bx_up S 480 0 0)) (hinv : rxISTR_0 S0 ws S pa wh) (l8 : (-2147483648) ≤ pa) (u8 : pa ≤ (-1)) (l9 : (-2147483648) ≤ wh) (u9 : wh ≤ 2147483647) (l10 : 0 ≤ x10) (u10 : x10 ≤ 6) (e0 : (bx_up S 480 0 0) 482 0 = x10) : (True) ∧ rxPSSTR S0 ws (bx_up S 480 0 0) (some ((-1))) := by
  obtain ⟨rfl, hw⟩ := hinv
  have qe0 := e0
  rw [bx_up_ne (by omega)] at qe0
  exact ⟨trivial, pa, wh, hw, Or.inl ⟨by omega, rfl⟩⟩
theorem rxfSTR_0_4 {X : (Nat → Int → Int) → Prop} {S0 : Nat → Int → Int} {ws : List Int} (hP : rxPSTR S0 ws) : bx_obE rxL X S0 rxC222.2.2.1 (rxISTR S0 ws) (rxPSSTR S0 ws) 0 rxzSTR_0 rxeSTR_0_4 := by
  intro S S_p r r_p hinv hX hin hsm_ hseg
  obtain ⟨I0, I1, h0_, hr_, b_, f_, d_⟩ := bx_cl (evs := [(0, (0, 482), (0, 0), .inr (0, (10, 0))), (1, (0, 480), (0, 0), .inr (0, (0, 0)))]) (fvs := []) hseg (by decide +kernel) (by decide +kernel)
  have hinv : rxISTR_0 S0 ws S (r 8) (r 9) := hinv
  rw [← hr_ 8 (by decide), ← hr_ 9 (by decide)] at hinv
  obtain ⟨⟨l8, u8⟩, ⟨l9, u9⟩, ⟨l10, u10⟩, -⟩ := b_
  obtain ⟨e0, ⟨T1, w_, w1⟩⟩ := d_
  subst w1
  subst w_
  have g := rxdSTR_0_4 hP hin hsm_ I0 I1 hinv l8 u8 l9 u9 l10 u10 e0
  refine ⟨bx_narP_ok (l := []) g.1, ?_⟩
  show rxPSSTR S0 ws (bx_up T1 480 (0) (0)) (some (bx_num r_p (.inr (0, (0, (-1))))))
  rw [bx_xv_ok h0_]
  exact g.2
theorem rxcSTR_1_0 {S0 : Nat → Int → Int} {ws : List Int} {S : Nat → Int → Int} {pa wh n i x12 x13 x14 : Int} (hP : rxPSTR S0 ws) (hin : bx_same rxL (bx_mdl rxC222.2.2.1) S0 S) (I0 : bx_Inv rxL S) (hinv : rxISTR_1 S0 ws S pa wh n i) (l8 : 0 ≤ pa) (u8 : pa ≤ 5) (l9 : 2 ≤ wh) (u9 : wh ≤ 3) (l10 : 0 ≤ n) (u10 : n ≤ 12) (l11 : 0 ≤ i) (u11 : i ≤ 11) (l12 : 1 ≤ x12) (u12 : x12 ≤ 12) (l13 : 0 ≤ x13) (u13 : x13 ≤ 33) (l14 : 0 ≤ x14) (u14 : x14 ≤ 5) (f0 : x14 = pa) (f1 : x13 = 3 * (i)) (f2 : i < x12) (e1 : S 482 2 = x12) (e0 : S 482 (x13 + 262) = x14) : (((-1) ≤ n ∧ n ≤ 11) ∧ True) ∧ (True) ∧ rxISTR_1 S0 ws S pa wh (n + 1) (i + 1) ∧ rxmSTR_1 S0 ws S pa wh (n + 1) (i + 1) < rxmSTR_1 S0 ws S pa wh n i := by
  obtain ⟨hw, hp, hn, hle, hi, hf⟩ := hinv
  have hk : ((i.toNat : Nat) : Int) = i := Int.toNat_of_nonneg (by omega)
  have ek : (i + 1).toNat = i.toNat + 1 := by omega
  have qe1 := e1
  have qe0 := e0
  have e2 : S0 482 2 = S 482 2 := (hf 2).symm
  have ix : (x13 + 262) = 262 + 3 * i := by omega
  rw [ix, hf] at qe0
  have hb : (fun t => decide (S0 482 (262 + 3 * t) = pa)) i = true := decide_eq_true (by rw [qe0]; omega)
  exact ⟨⟨⟨by omega, by omega⟩, trivial⟩, trivial, ⟨hw, hp, by rw [ek, rjCn_t hk.symm hb]; omega, by omega, by omega, hf⟩, by unfold rxmSTR_1; omega⟩
theorem rxgSTR_1_0 {X : (Nat → Int → Int) → Prop} {S0 : Nat → Int → Int} {ws : List Int} (hP : rxPSTR S0 ws) : bx_obC rxL X S0 rxC222.2.2.1 (rxISTR S0 ws) (rxmSTR S0 ws) 1 rxzSTR_1 rxoSTR_1_0 := by
  intro S S_p r r_p hinv hX hin hsm_ hseg
  obtain ⟨I0, I1, h0_, hr_, b_, f_, d_⟩ := bx_cl (evs := [(0, (0, 482), (13, 262), .inr (0, (14, 0))), (0, (0, 482), (0, 2), .inr (0, (12, 0)))]) (fvs := [(2, (14, 0), (8, 0), (0, 0)), (4, (13, 0), (11, 0), (0, 3)), (0, (11, 0), (12, 0), (0, 0))]) hseg (by decide +kernel) (by decide +kernel)
  have hinv : rxISTR_1 S0 ws S (r 8) (r 9) (r 10) (r 11) := hinv
  rw [← hr_ 8 (by decide), ← hr_ 9 (by decide), ← hr_ 10 (by decide), ← hr_ 11 (by decide)] at hinv
  obtain ⟨⟨l8, u8⟩, ⟨l9, u9⟩, ⟨l10, u10⟩, ⟨l11, u11⟩, ⟨l12, u12⟩, ⟨l13, u13⟩, ⟨l14, u14⟩, -⟩ := b_
  obtain ⟨f0, f1, f2, -⟩ := f_
  obtain ⟨e0, ⟨e1, w_⟩⟩ := d_
  subst w_
  have g := rxcSTR_1_0 hP hin I0 hinv l8 u8 l9 u9 l10 u10 l11 u11 l12 u12 l13 u13 l14 u14 f0 f1 f2 e1 e0
  refine ⟨bx_narP_ok (l := [(10, (-1), 11)]) g.1, bx_nfP_ok h0_ (fvs := []) (by decide +kernel) g.2.1, ?_, ?_⟩
  · show rxISTR_1 S0 ws S_p (bx_val [(0, 0), (0, 0), (0, 0), (0, 0), (0, 0), (0, 0), (0, 0), (0, 0), (8, 0), (9, 0), (10, 1), (11, 1)] r_p 8) (bx_val [(0, 0), (0, 0), (0, 0), (0, 0), (0, 0), (0, 0), (0, 0), (0, 0), (8, 0), (9, 0), (10, 1), (11, 1)] r_p 9) (bx_val [(0, 0), (0, 0), (0, 0), (0, 0), (0, 0), (0, 0), (0, 0), (0, 0), (8, 0), (9, 0), (10, 1), (11, 1)] r_p 10) (bx_val [(0, 0), (0, 0), (0, 0), (0, 0), (0, 0), (0, 0), (0, 0), (0, 0), (8, 0), (9, 0), (10, 1), (11, 1)] r_p 11)
    rw [bx_val_x (n := 8) (e := (8, 0)) h0_ rfl, bx_val_x (n := 9) (e := (9, 0)) h0_ rfl, bx_val_x (n := 10) (e := (10, 1)) h0_ rfl, bx_val_x (n := 11) (e := (11, 1)) h0_ rfl]
    exact g.2.2.1
  · show rxmSTR_1 S0 ws S_p (bx_val [(0, 0), (0, 0), (0, 0), (0, 0), (0, 0), (0, 0), (0, 0), (0, 0), (8, 0), (9, 0), (10, 1), (11, 1)] r_p 8) (bx_val [(0, 0), (0, 0), (0, 0), (0, 0), (0, 0), (0, 0), (0, 0), (0, 0), (8, 0), (9, 0), (10, 1), (11, 1)] r_p 9) (bx_val [(0, 0), (0, 0), (0, 0), (0, 0), (0, 0), (0, 0), (0, 0), (0, 0), (8, 0), (9, 0), (10, 1), (11, 1)] r_p 10) (bx_val [(0, 0), (0, 0), (0, 0), (0, 0), (0, 0), (0, 0), (0, 0), (0, 0), (8, 0), (9, 0), (10, 1), (11, 1)] r_p 11) < rxmSTR_1 S0 ws S_p (r 8) (r 9) (r 10) (r 11)
    rw [bx_val_x (n := 8) (e := (8, 0)) h0_ rfl, bx_val_x (n := 9) (e := (9, 0)) h0_ rfl, bx_val_x (n := 10) (e := (10, 1)) h0_ rfl, bx_val_x (n := 11) (e := (11, 1)) h0_ rfl, ← hr_ 8 (by decide), ← hr_ 9 (by decide), ← hr_ 10 (by decide), ← hr_ 11 (by decide)]
    exact g.2.2.2
theorem rxcSTR_1_1 {S0 : Nat → Int → Int} {ws : List Int} {S : Nat → Int → Int} {pa wh n i x12 x13 x14 : Int} (hP : rxPSTR S0 ws) (hin : bx_same rxL (bx_mdl rxC222.2.2.1) S0 S) (I0 : bx_Inv rxL S) (hinv : rxISTR_1 S0 ws S pa wh n i) (l8 : 0 ≤ pa) (u8 : pa ≤ 5) (l9 : 2 ≤ wh) (u9 : wh ≤ 3) (l10 : 0 ≤ n) (u10 : n ≤ 12) (l11 : 0 ≤ i) (u11 : i ≤ 11) (l12 : 1 ≤ x12) (u12 : x12 ≤ 12) (l13 : 0 ≤ x13) (u13 : x13 ≤ 33) (l14 : 0 ≤ x14) (u14 : x14 ≤ 5) (f0 : x14 ≠ pa) (f1 : x13 = 3 * (i)) (f2 : i < x12) (e1 : S 482 2 = x12) (e0 : S 482 (x13 + 262) = x14) : (True) ∧ (True) ∧ rxISTR_1 S0 ws S pa wh n (i + 1) ∧ rxmSTR_1 S0 ws S pa wh n (i + 1) < rxmSTR_1 S0 ws S pa wh n i := by
  obtain ⟨hw, hp, hn, hle, hi, hf⟩ := hinv
  have hk : ((i.toNat : Nat) : Int) = i := Int.toNat_of_nonneg (by omega)
  have ek : (i + 1).toNat = i.toNat + 1 := by omega
  have qe1 := e1
  have qe0 := e0
  have e2 : S0 482 2 = S 482 2 := (hf 2).symm
  have ix : (x13 + 262) = 262 + 3 * i := by omega
  rw [ix, hf] at qe0
  have hb : (fun t => decide (S0 482 (262 + 3 * t) = pa)) i = false := decide_eq_false (by rw [qe0]; omega)
  exact ⟨trivial, trivial, ⟨hw, hp, by rw [ek, rjCn_f hk.symm hb]; exact hn, by omega, by omega, hf⟩, by unfold rxmSTR_1; omega⟩
theorem rxgSTR_1_1 {X : (Nat → Int → Int) → Prop} {S0 : Nat → Int → Int} {ws : List Int} (hP : rxPSTR S0 ws) : bx_obC rxL X S0 rxC222.2.2.1 (rxISTR S0 ws) (rxmSTR S0 ws) 1 rxzSTR_1 rxoSTR_1_1 := by
  intro S S_p r r_p hinv hX hin hsm_ hseg
  obtain ⟨I0, I1, h0_, hr_, b_, f_, d_⟩ := bx_cl (evs := [(0, (0, 482), (13, 262), .inr (0, (14, 0))), (0, (0, 482), (0, 2), .inr (0, (12, 0)))]) (fvs := [(3, (14, 0), (8, 0), (0, 0)), (4, (13, 0), (11, 0), (0, 3)), (0, (11, 0), (12, 0), (0, 0))]) hseg (by decide +kernel) (by decide +kernel)
  have hinv : rxISTR_1 S0 ws S (r 8) (r 9) (r 10) (r 11) := hinv
  rw [← hr_ 8 (by decide), ← hr_ 9 (by decide), ← hr_ 10 (by decide), ← hr_ 11 (by decide)] at hinv
  obtain ⟨⟨l8, u8⟩, ⟨l9, u9⟩, ⟨l10, u10⟩, ⟨l11, u11⟩, ⟨l12, u12⟩, ⟨l13, u13⟩, ⟨l14, u14⟩, -⟩ := b_
  obtain ⟨f0, f1, f2, -⟩ := f_
  obtain ⟨e0, ⟨e1, w_⟩⟩ := d_
  subst w_
  have g := rxcSTR_1_1 hP hin I0 hinv l8 u8 l9 u9 l10 u10 l11 u11 l12 u12 l13 u13 l14 u14 f0 f1 f2 e1 e0
  refine ⟨bx_narP_ok (l := []) g.1, bx_nfP_ok h0_ (fvs := []) (by decide +kernel) g.2.1, ?_, ?_⟩
  · show rxISTR_1 S0 ws S_p (bx_val [(0, 0), (0, 0), (0, 0), (0, 0), (0, 0), (0, 0), (0, 0), (0, 0), (8, 0), (9, 0), (10, 0), (11, 1)] r_p 8) (bx_val [(0, 0), (0, 0), (0, 0), (0, 0), (0, 0), (0, 0), (0, 0), (0, 0), (8, 0), (9, 0), (10, 0), (11, 1)] r_p 9) (bx_val [(0, 0), (0, 0), (0, 0), (0, 0), (0, 0), (0, 0), (0, 0), (0, 0), (8, 0), (9, 0), (10, 0), (11, 1)] r_p 10) (bx_val [(0, 0), (0, 0), (0, 0), (0, 0), (0, 0), (0, 0), (0, 0), (0, 0), (8, 0), (9, 0), (10, 0), (11, 1)] r_p 11)
    rw [bx_val_x (n := 8) (e := (8, 0)) h0_ rfl, bx_val_x (n := 9) (e := (9, 0)) h0_ rfl, bx_val_x (n := 10) (e := (10, 0)) h0_ rfl, bx_val_x (n := 11) (e := (11, 1)) h0_ rfl]
    exact g.2.2.1
  · show rxmSTR_1 S0 ws S_p (bx_val [(0, 0), (0, 0), (0, 0), (0, 0), (0, 0), (0, 0), (0, 0), (0, 0), (8, 0), (9, 0), (10, 0), (11, 1)] r_p 8) (bx_val [(0, 0), (0, 0), (0, 0), (0, 0), (0, 0), (0, 0), (0, 0), (0, 0), (8, 0), (9, 0), (10, 0), (11, 1)] r_p 9) (bx_val [(0, 0), (0, 0), (0, 0), (0, 0), (0, 0), (0, 0), (0, 0), (0, 0), (8, 0), (9, 0), (10, 0), (11, 1)] r_p 10) (bx_val [(0, 0), (0, 0), (0, 0), (0, 0), (0, 0), (0, 0), (0, 0), (0, 0), (8, 0), (9, 0), (10, 0), (11, 1)] r_p 11) < rxmSTR_1 S0 ws S_p (r 8) (r 9) (r 10) (r 11)
    rw [bx_val_x (n := 8) (e := (8, 0)) h0_ rfl, bx_val_x (n := 9) (e := (9, 0)) h0_ rfl, bx_val_x (n := 10) (e := (10, 0)) h0_ rfl, bx_val_x (n := 11) (e := (11, 1)) h0_ rfl, ← hr_ 8 (by decide), ← hr_ 9 (by decide), ← hr_ 10 (by decide), ← hr_ 11 (by decide)]
    exact g.2.2.2
theorem rxcSTR_1_2 {S0 : Nat → Int → Int} {ws : List Int} {S : Nat → Int → Int} {pa wh n i x12 x13 : Int} (hP : rxPSTR S0 ws) (hin : bx_same rxL (bx_mdl rxC222.2.2.1) S0 S) (I0 : bx_Inv rxL S) (hinv : rxISTR_1 S0 ws S pa wh n i) (l8 : 0 ≤ pa) (u8 : pa ≤ 5) (l9 : 2 ≤ wh) (u9 : wh ≤ 2) (l10 : 0 ≤ n) (u10 : n ≤ 12) (l11 : 0 ≤ i) (u11 : i ≤ 12) (l12 : 0 ≤ x12) (u12 : x12 ≤ 12) (l13 : 0 ≤ x13) (u13 : x13 ≤ 180) (f0 : x13 = 36 * (pa)) (f1 : x12 ≤ i) (e0 : S 482 2 = x12) : (True) ∧ (True) ∧ rxISTR_2 S0 ws S pa wh n (x13 + 22) ∧ rxmSTR_2 S0 ws S pa wh n (x13 + 22) < rxmSTR_1 S0 ws S pa wh n i := by
  obtain ⟨hw, hp, hn, hle, hi, hf⟩ := hinv
  have hk : ((i.toNat : Nat) : Int) = i := Int.toNat_of_nonneg (by omega)
  have ek : (i + 1).toNat = i.toNat + 1 := by omega
  have qe0 := e0
  exact ⟨trivial, trivial, ⟨hw, hp, by omega, hf⟩, by unfold rxmSTR_1 rxmSTR_2; omega⟩
theorem rxgSTR_1_2 {X : (Nat → Int → Int) → Prop} {S0 : Nat → Int → Int} {ws : List Int} (hP : rxPSTR S0 ws) : bx_obC rxL X S0 rxC222.2.2.1 (rxISTR S0 ws) (rxmSTR S0 ws) 1 rxzSTR_1 rxoSTR_1_2 := by
  intro S S_p r r_p hinv hX hin hsm_ hseg
  obtain ⟨I0, I1, h0_, hr_, b_, f_, d_⟩ := bx_cl (evs := [(0, (0, 482), (0, 2), .inr (0, (12, 0)))]) (fvs := [(4, (13, 0), (8, 0), (0, 36)), (1, (12, 0), (11, 0), (0, 0))]) hseg (by decide +kernel) (by decide +kernel)
  have hinv : rxISTR_1 S0 ws S (r 8) (r 9) (r 10) (r 11) := hinv
  rw [← hr_ 8 (by decide), ← hr_ 9 (by decide), ← hr_ 10 (by decide), ← hr_ 11 (by decide)] at hinv
  obtain ⟨⟨l8, u8⟩, ⟨l9, u9⟩, ⟨l10, u10⟩, ⟨l11, u11⟩, ⟨l12, u12⟩, ⟨l13, u13⟩, -⟩ := b_
  obtain ⟨f0, f1, -⟩ := f_
  obtain ⟨e0, w_⟩ := d_
  subst w_
  have g := rxcSTR_1_2 hP hin I0 hinv l8 u8 l9 u9 l10 u10 l11 u11 l12 u12 l13 u13 f0 f1 e0
  refine ⟨bx_narP_ok (l := []) g.1, bx_nfP_ok h0_ (fvs := []) (by decide +kernel) g.2.1, ?_, ?_⟩
  · show rxISTR_2 S0 ws S_p (bx_val [(0, 0), (0, 0), (0, 0), (0, 0), (0, 0), (0, 0), (0, 0), (0, 0), (8, 0), (9, 0), (10, 0), (13, 22)] r_p 8) (bx_val [(0, 0), (0, 0), (0, 0), (0, 0), (0, 0), (0, 0), (0, 0), (0, 0), (8, 0), (9, 0), (10, 0), (13, 22)] r_p 9) (bx_val [(0, 0), (0, 0), (0, 0), (0, 0), (0, 0), (0, 0), (0, 0), (0, 0), (8, 0), (9, 0), (10, 0), (13, 22)] r_p 10) (bx_val [(0, 0), (0, 0), (0, 0), (0, 0), (0, 0), (0, 0), (0, 0), (0, 0), (8, 0), (9, 0), (10, 0), (13, 22)] r_p 11)
    rw [bx_val_x (n := 8) (e := (8, 0)) h0_ rfl, bx_val_x (n := 9) (e := (9, 0)) h0_ rfl, bx_val_x (n := 10) (e := (10, 0)) h0_ rfl, bx_val_x (n := 11) (e := (13, 22)) h0_ rfl]
    exact g.2.2.1
  · show rxmSTR_2 S0 ws S_p (bx_val [(0, 0), (0, 0), (0, 0), (0, 0), (0, 0), (0, 0), (0, 0), (0, 0), (8, 0), (9, 0), (10, 0), (13, 22)] r_p 8) (bx_val [(0, 0), (0, 0), (0, 0), (0, 0), (0, 0), (0, 0), (0, 0), (0, 0), (8, 0), (9, 0), (10, 0), (13, 22)] r_p 9) (bx_val [(0, 0), (0, 0), (0, 0), (0, 0), (0, 0), (0, 0), (0, 0), (0, 0), (8, 0), (9, 0), (10, 0), (13, 22)] r_p 10) (bx_val [(0, 0), (0, 0), (0, 0), (0, 0), (0, 0), (0, 0), (0, 0), (0, 0), (8, 0), (9, 0), (10, 0), (13, 22)] r_p 11) < rxmSTR_1 S0 ws S_p (r 8) (r 9) (r 10) (r 11)
    rw [bx_val_x (n := 8) (e := (8, 0)) h0_ rfl, bx_val_x (n := 9) (e := (9, 0)) h0_ rfl, bx_val_x (n := 10) (e := (10, 0)) h0_ rfl, bx_val_x (n := 11) (e := (13, 22)) h0_ rfl, ← hr_ 8 (by decide), ← hr_ 9 (by decide), ← hr_ 10 (by decide), ← hr_ 11 (by decide)]
    exact g.2.2.2
theorem rxdSTR_1_0 {S0 : Nat → Int → Int} {ws : List Int} {S : Nat → Int → Int} {pa wh n i x12 : Int} (hP : rxPSTR S0 ws) (hin : bx_same rxL (bx_mdl rxC222.2.2.1) S0 S) (hin2 : bx_same rxL (bx_mdl rxC222.2.2.1) S S) (I0 : bx_Inv rxL S) (I1 : bx_Inv rxL S) (hinv : rxISTR_1 S0 ws S pa wh n i) (l8 : 0 ≤ pa) (u8 : pa ≤ 5) (l9 : 3 ≤ wh) (u9 : wh ≤ 3) (l10 : 0 ≤ n) (u10 : n ≤ 12) (l11 : 0 ≤ i) (u11 : i ≤ 12) (l12 : 0 ≤ x12) (u12 : x12 ≤ 12) (f0 : wh ≠ 2) (f1 : x12 ≤ i) (e0 : S 482 2 = x12) : (True) ∧ rxPSSTR S0 ws S (some n) := by
  obtain ⟨hw, hp, hn, hle, hi, hf⟩ := hinv
  have hk : ((i.toNat : Nat) : Int) = i := Int.toNat_of_nonneg (by omega)
  have ek : (i + 1).toNat = i.toNat + 1 := by omega
  have qe0 := e0
  have e2 : S0 482 2 = S 482 2 := (hf 2).symm
  exact ⟨trivial, pa, wh, hw, Or.inr (Or.inr (Or.inr (Or.inr (⟨⟨by omega, hp⟩, by omega, congrArg some (hn.trans (by rw [show i.toNat = (S0 482 2).toNat by omega]))⟩))))⟩
theorem rxfSTR_1_0 {X : (Nat → Int → Int) → Prop} {S0 : Nat → Int → Int} {ws : List Int} (hP : rxPSTR S0 ws) : bx_obE rxL X S0 rxC222.2.2.1 (rxISTR S0 ws) (rxPSSTR S0 ws) 1 rxzSTR_1 rxeSTR_1_0 := by
  intro S S_p r r_p hinv hX hin hsm_ hseg
  obtain ⟨I0, I1, h0_, hr_, b_, f_, d_⟩ := bx_cl (evs := [(0, (0, 482), (0, 2), .inr (0, (12, 0)))]) (fvs := [(3, (9, 0), (0, 2), (0, 0)), (1, (12, 0), (11, 0), (0, 0))]) hseg (by decide +kernel) (by decide +kernel)
  have hinv : rxISTR_1 S0 ws S (r 8) (r 9) (r 10) (r 11) := hinv
  rw [← hr_ 8 (by decide), ← hr_ 9 (by decide), ← hr_ 10 (by decide), ← hr_ 11 (by decide)] at hinv
  obtain ⟨⟨l8, u8⟩, ⟨l9, u9⟩, ⟨l10, u10⟩, ⟨l11, u11⟩, ⟨l12, u12⟩, -⟩ := b_
  obtain ⟨f0, f1, -⟩ := f_
  obtain ⟨e0, w_⟩ := d_
  subst w_
  have g := rxdSTR_1_0 hP hin hsm_ I0 I1 hinv l8 u8 l9 u9 l10 u10 l11 u11 l12 u12 f0 f1 e0
  refine ⟨bx_narP_ok (l := []) g.1, ?_⟩
  show rxPSSTR S0 ws S_p (some (bx_num r_p (.inr (0, (10, 0)))))
  rw [bx_xv_ok h0_]
  exact g.2
theorem rxdSTR_3_0 {S0 : Nat → Int → Int} {ws : List Int} {S : Nat → Int → Int} {pa wh n at_ m : Int} (hP : rxPSTR S0 ws) (hin : bx_same rxL (bx_mdl rxC222.2.2.1) S0 S) (hin2 : bx_same rxL (bx_mdl rxC222.2.2.1) S S) (I0 : bx_Inv rxL S) (I1 : bx_Inv rxL S) (hinv : rxISTR_3 S0 ws S pa wh n at_ m) (l8 : 0 ≤ pa) (u8 : pa ≤ 5) (l9 : 2 ≤ wh) (u9 : wh ≤ 2) (l10 : 0 ≤ n) (u10 : n ≤ 12) (l11 : 22 ≤ at_) (u11 : at_ ≤ 202) (l12 : (-2147483648) ≤ m) (u12 : m ≤ 2147483647) : (True) ∧ rxPSSTR S0 ws S (some m) := by
  obtain ⟨hw, hp, hm⟩ := hinv
  exact ⟨trivial, pa, wh, hw, Or.inr (Or.inr (Or.inr (Or.inl (⟨⟨by omega, hp⟩, by omega, congrArg some hm⟩))))⟩
theorem rxfSTR_3_0 {X : (Nat → Int → Int) → Prop} {S0 : Nat → Int → Int} {ws : List Int} (hP : rxPSTR S0 ws) : bx_obE rxL X S0 rxC222.2.2.1 (rxISTR S0 ws) (rxPSSTR S0 ws) 3 rxzSTR_3 rxeSTR_3_0 := by
  intro S S_p r r_p hinv hX hin hsm_ hseg
  obtain ⟨I0, I1, h0_, hr_, b_, f_, d_⟩ := bx_cl (evs := []) (fvs := []) hseg (by decide +kernel) (by decide +kernel)
  have hinv : rxISTR_3 S0 ws S (r 8) (r 9) (r 10) (r 11) (r 12) := hinv
  rw [← hr_ 8 (by decide), ← hr_ 9 (by decide), ← hr_ 10 (by decide), ← hr_ 11 (by decide), ← hr_ 12 (by decide)] at hinv
  obtain ⟨⟨l8, u8⟩, ⟨l9, u9⟩, ⟨l10, u10⟩, ⟨l11, u11⟩, ⟨l12, u12⟩, -⟩ := b_
  have w_ := d_
  subst w_
  have g := rxdSTR_3_0 hP hin hsm_ I0 I1 hinv l8 u8 l9 u9 l10 u10 l11 u11 l12 u12
  refine ⟨bx_narP_ok (l := []) g.1, ?_⟩
  show rxPSSTR S0 ws S_p (some (bx_num r_p (.inr (0, (12, 0)))))
  rw [bx_xv_ok h0_]
  exact g.2
theorem rxgCSTR {X : (Nat → Int → Int) → Prop} {S0 : Nat → Int → Int} {ws : List Int} (hP : rxPSTR S0 ws) : bx_allI (fun i q => rxUSTR q = true ∨ bx_allP (fun o => bx_obC rxL X S0 rxC222.2.2.1 (rxISTR S0 ws) (rxmSTR S0 ws) i q.1 o) q.2.1) 0 rxYSTR := ⟨Or.inr ⟨rxgSTR_0_0 hP, trivial⟩, Or.inr ⟨rxgSTR_1_0 hP, rxgSTR_1_1 hP, rxgSTR_1_2 hP, trivial⟩, Or.inl rfl, Or.inr trivial, trivial⟩
theorem rxgESTR {X : (Nat → Int → Int) → Prop} {S0 : Nat → Int → Int} {ws : List Int} (hP : rxPSTR S0 ws) : bx_allI (fun i q => rxUSTR q = true ∨ bx_allP (fun E => bx_obE rxL X S0 rxC222.2.2.1 (rxISTR S0 ws) (rxPSSTR S0 ws) i q.1 E) q.2.2) 0 rxYSTR := ⟨Or.inr ⟨rxfSTR_0_0 hP, rxfSTR_0_1 hP, rxfSTR_0_2 hP, rxfSTR_0_3 hP, rxfSTR_0_4 hP, trivial⟩, Or.inr ⟨rxfSTR_1_0 hP, trivial⟩, Or.inl rfl, Or.inr ⟨rxfSTR_3_0 hP, trivial⟩, trivial⟩
theorem rxuSTR {PX : State → Prop} {Dg : va_G} {A : Nat → Prop} {ad xa : Nat → Nat} {l : Launch} {X : (Nat → Int → Int) → Prop} (hPX : rx_PXOK rxNW A PX) (hX : ∀ S S1 : Nat → Int → Int, X S → bx_same rxL (bx_mdl rxC222.2.2.1) S S1 → X S1) (hQTLD : bx_ConP rxG rxNW rxAO PX Dg rxL X vwCl A ad l rxM260 rxCTLD rxPTLD rxPSTLD) {S0 : Nat → Int → Int} {ws : List Int} (hP : rxPSTR S0 ws) : ∀ (i : Nat) (q : bx_HE), rxYSTR[i]? = some q → rxUSTR q = true → ∀ {p : Program} {e : Env} {R : Room} {s : State} {m : MethodId} {args : Array Value} {below : List Frame} {meth : Method} {c : Code} {Q : State → Prop} {H0 : Heap}, rx_Fr rxG rxNW rxAO PX p s m args meth c rxM222 → (∀ q, H0.size ≤ q → A q) → H0 = s.heap → rxM222.2.2.2.2.2.2.1 ≤ R.cells → rxM222.2.2.2.2.2.2.2 ≤ R.slots → rxC222.2.2.2.1 ≤ R.frames → rxC222.2.2.2.1 * 40 ≤ R.locals → bx_Step p l e R s m args below meth c Q Dg rxL X vwCl A xa H0 ad rxM222 rxYSTR (rxISTR S0 ws) (rxmSTR S0 ws) S0 rxC222.2.2.1 i q := by
  intro i q hq hus p e R s m args below meth c Q H0 hF hA hH0 hmc hms hd hdl
  match i, hq with
  | 0, hq =>
    cases hq
    exact absurd (show false = true from hus) Bool.false_ne_true
  | 1, hq =>
    cases hq
    exact absurd (show false = true from hus) Bool.false_ne_true
  | 2, hq =>
    cases hq
    exact rx_stepC (ins := .invokevirtual 221) (len := 3) (i_p := 3) (M_p := rxM260) (d := rxC222.2.2.2.1) (as := [.inr (3, (0, 480)), .inr (0, (11, 0))]) (t := []) (ct := rxCTLD) hPX hF rfl hA hH0 hmc hms hd hdl (by decide +kernel) rfl rfl (by decide +kernel) (by decide +kernel) hQTLD (by decide +kernel) rfl (Or.inr ⟨_, _, _, 1, rfl, rfl, by omega, rfl, rfl, rfl⟩) (rxsSTR_2 hP)
  | 3, hq =>
    cases hq
    exact absurd (show false = true from hus) Bool.false_ne_true
  | n + 4, hq => cases hq
theorem rxQSTR {PX : State → Prop} {Dg : va_G} {A : Nat → Prop} {ad xa : Nat → Nat} {l : Launch} {X : (Nat → Int → Int) → Prop} (hPX : rx_PXOK rxNW A PX) (hsl : ∀ s : State, PX s → ∀ o idx n : Nat, rxSl o idx = some n → ∃ tx : String, vk_R (rxNm o) idx tx (ad n) s)
    (hX : ∀ S S_p : Nat → Int → Int, X S → bx_same rxL (bx_mdl rxC222.2.2.1) S S_p → X S_p)
    (ih : ∀ (j2 : Nat) (ct2 : bx_Ct) (M2 : rx_Mt), ct2 ∈ rxCnE j2 → ct2.2.2.2.1 + 1 ≤ rxC222.2.2.2.1 → rxT.2.2.2.2.2 j2 = some M2 → bx_Con rxG rxNW rxAO PX Dg rxL X vwCl A ad l M2 ct2) (hQTLD : bx_ConP rxG rxNW rxAO PX Dg rxL X vwCl A ad l rxM260 rxCTLD rxPTLD rxPSTLD) : bx_ConP rxG rxNW rxAO PX Dg rxL X vwCl A ad l rxM222 rxC222 rxPSTR rxPSSTR :=
  rxQof (xa := xa) (Cn := rxCnE) (f := 30000) (j := 222) (tab := rxYSTR) (us := rxUSTR) hPX hsl hX ih rfl rxYcSTR rxISTR rxmSTR
    (fun S0 ws r I0 I ht0 ht as he he1 hX0 hI0 hP hs ha => by
      have e := he.symm.trans (show bx_ent0 rxNP rxC222.1 bx_I0 [] = some ([(0, 0), (0, 0), (0, 0), (0, 0), (0, 0), (0, 0), (0, 0), (0, 0), ((-2147483648), 2147483647), ((-2147483648), 2147483647)], [], [.inr (3, (0, 480)), .inr (0, (8, 0)), .inr (0, (9, 0))]) from rfl)
      cases e
      subst ha
      have h0 : r 0 = 0 := hs.1
      show rxISTR_0 S0 _ S0 (r 8) (r 9)
      refine ⟨rfl, ?_⟩
      simp only [List.map_cons, List.map_nil, bx_xv_ok h0]
      rfl)
    (fun S0 ws hP => rxuSTR (xa := xa) hPX hX hQTLD hP) (fun S0 ws hP => rxgCSTR hP) (fun S0 ws hP => rxgESTR hP)
