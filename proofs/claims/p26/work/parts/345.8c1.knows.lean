/-! CONTRACT BY HAND, by program (wip/sim/genhand.py): DeadUnderstudies.knows -/
def rxIKND_0 (S0 : Nat → Int → Int) (ws : List Int) (S : Nat → Int → Int) (pa st cu wh : Int) : Prop := S = S0 ∧ ws = [0, pa, st, cu, wh]
def rxmKND_0 (S0 : Nat → Int → Int) (ws : List Int) (S : Nat → Int → Int) (pa st cu wh : Int) : Nat := 100
def rxzKND_0 : rx_Z := ([(0, 0), (0, 0), (0, 0), (0, 0), (0, 0), (0, 0), (0, 0), (0, 0), ((-2147483648), 2147483647), ((-2147483648), 2147483647), ((-2147483648), 2147483647), ((-2147483648), 2147483647)], [], [], 0, 0, 0, [(0, .inr (3, (0, 0))), (1, .inr (0, (8, 0))), (2, .inr (0, (9, 0))), (3, .inr (0, (10, 0))), (4, .inr (0, (11, 0)))], [])
def rxeKND_0_0 : rx_End × List (Nat × Int × Int) := (([(0, 0), (0, 0), (0, 0), (0, 0), (0, 0), (0, 0), (0, 0), (0, 0), ((-2147483648), (-1)), ((-2147483648), 2147483647), ((-2147483648), 2147483647), ((-2147483648), 2147483647)], [], [(((0, 0), 0), .inr (3, (0, 1)))], some (.inr (0, (0, (-1))))), [])
def rxeKND_0_1 : rx_End × List (Nat × Int × Int) := (([(0, 0), (0, 0), (0, 0), (0, 0), (0, 0), (0, 0), (0, 0), (0, 0), (0, 2147483647), ((-2147483648), 2147483647), ((-2147483648), 2147483647), ((-2147483648), 2147483647), (0, 12)], [(1, (12, 0), (8, 0))], [(((0, 0), 1851192626986356798427873864310897359480125337295219445323071488000000), .inr (0, (12, 0))), (((0, 1), 5), .inr (0, (12, 0))), (((0, 0), 0), .inr (3, (0, 1)))], some (.inr (0, (0, (-1))))), [])
def rxeKND_0_2 : rx_End × List (Nat × Int × Int) := (([(0, 0), (0, 0), (0, 0), (0, 0), (0, 0), (0, 0), (0, 0), (0, 0), (0, 11), ((-2147483648), 2147483647), ((-2147483648), 2147483647), ((-2147483648), 2147483647), (1, 12), (0, 1522)], [(3, (11, 0), (0, 1)), (3, (11, 0), (0, 0)), (0, (8, 0), (12, 0))], [(((0, 0), 1851192626986356797424364830707437625680387377997778264871665664000000), .inr (3, (13, 0))), (((13, 0), 1000010), .inl none), (((0, 1), 9), .inr (3, (0, 12))), (((0, 0), 1851192626986356798427873864310897359480125337295219445323071488000000), .inr (0, (12, 0))), (((0, 1), 5), .inr (0, (12, 0))), (((0, 0), 0), .inr (3, (0, 1)))], some (.inr (0, (0, (-1))))), [])
def rxeKND_0_3 : rx_End × List (Nat × Int × Int) := (([(0, 0), (0, 0), (0, 0), (0, 0), (0, 0), (0, 0), (0, 0), (0, 0), (0, 11), ((-2147483648), (-1)), ((-2147483648), 2147483647), (1, 1), (1, 12), (0, 1522)], [(3, (11, 0), (0, 0)), (0, (8, 0), (12, 0))], [(((0, 0), 1851192626986356797424364830707437625680387377997778264871665664000000), .inr (3, (13, 0))), (((13, 0), 1000010), .inl none), (((0, 1), 9), .inr (3, (0, 12))), (((0, 0), 1851192626986356798427873864310897359480125337295219445323071488000000), .inr (0, (12, 0))), (((0, 1), 5), .inr (0, (12, 0))), (((0, 0), 0), .inr (3, (0, 1)))], some (.inr (0, (0, (-1))))), [])
def rxeKND_0_4 : rx_End × List (Nat × Int × Int) := (([(0, 0), (0, 0), (0, 0), (0, 0), (0, 0), (0, 0), (0, 0), (0, 0), (0, 11), (6, 2147483647), ((-2147483648), 2147483647), (1, 1), (1, 12), (0, 1522)], [(3, (11, 0), (0, 0)), (0, (8, 0), (12, 0))], [(((0, 0), 1851192626986356797424364830707437625680387377997778264871665664000000), .inr (3, (13, 0))), (((13, 0), 1000010), .inl none), (((0, 1), 9), .inr (3, (0, 12))), (((0, 0), 1851192626986356798427873864310897359480125337295219445323071488000000), .inr (0, (12, 0))), (((0, 1), 5), .inr (0, (12, 0))), (((0, 0), 0), .inr (3, (0, 1)))], some (.inr (0, (0, (-1))))), [])
def rxeKND_0_5 : rx_End × List (Nat × Int × Int) := (([(0, 0), (0, 0), (0, 0), (0, 0), (0, 0), (0, 0), (0, 0), (0, 0), (0, 11), (0, 5), ((-2147483648), (-1)), (1, 1), (1, 12), (0, 1522)], [(3, (11, 0), (0, 0)), (0, (8, 0), (12, 0))], [(((0, 0), 1851192626986356797424364830707437625680387377997778264871665664000000), .inr (3, (13, 0))), (((13, 0), 1000010), .inl none), (((0, 1), 9), .inr (3, (0, 12))), (((0, 0), 1851192626986356798427873864310897359480125337295219445323071488000000), .inr (0, (12, 0))), (((0, 1), 5), .inr (0, (12, 0))), (((0, 0), 0), .inr (3, (0, 1)))], some (.inr (0, (0, (-1))))), [])
def rxeKND_0_6 : rx_End × List (Nat × Int × Int) := (([(0, 0), (0, 0), (0, 0), (0, 0), (0, 0), (0, 0), (0, 0), (0, 0), (0, 11), (0, 5), (6, 2147483647), (1, 1), (1, 12), (0, 1522)], [(3, (11, 0), (0, 0)), (0, (8, 0), (12, 0))], [(((0, 0), 1851192626986356797424364830707437625680387377997778264871665664000000), .inr (3, (13, 0))), (((13, 0), 1000010), .inl none), (((0, 1), 9), .inr (3, (0, 12))), (((0, 0), 1851192626986356798427873864310897359480125337295219445323071488000000), .inr (0, (12, 0))), (((0, 1), 5), .inr (0, (12, 0))), (((0, 0), 0), .inr (3, (0, 1)))], some (.inr (0, (0, (-1))))), [])
def rxeKND_0_7 : rx_End × List (Nat × Int × Int) := (([(0, 0), (0, 0), (0, 0), (0, 0), (0, 0), (0, 0), (0, 0), (0, 0), (0, 11), (0, 5), (0, 5), (1, 1), (1, 12), (0, 1522), (0, 1522), (0, 30), (0, 35), ((-1), 5)], [(604462909807314587353098000000, (16, 0), (15, 0)), (10, (15, 0), (9, 0)), (3, (11, 0), (0, 0)), (0, (8, 0), (12, 0))], [(((0, 0), 1851192626986356797424389331037855933249756740969513352175812734000000), .inr (0, (17, 0))), (((0, 0), 1851192626986356797625047037163794926384839479479878431107186805000000), .inr (3, (14, 0))), (((13, 0), 1), .inr (3, (14, 0))), (((14, 0), 1000018), .inl none), (((0, 0), 1851192626986356797424364830707437625680387377997778264871665664000000), .inr (3, (13, 0))), (((13, 0), 1000010), .inl none), (((0, 1), 9), .inr (3, (0, 12))), (((0, 0), 1851192626986356798427873864310897359480125337295219445323071488000000), .inr (0, (12, 0))), (((0, 1), 5), .inr (0, (12, 0))), (((0, 0), 0), .inr (3, (0, 1)))], some (.inr (0, (17, 0)))), [])
def rxeKND_0_8 : rx_End × List (Nat × Int × Int) := (([(0, 0), (0, 0), (0, 0), (0, 0), (0, 0), (0, 0), (0, 0), (0, 0), (0, 11), ((-2147483648), (-1)), ((-2147483648), 2147483647), (0, 0), (1, 12), (0, 1522)], [(0, (8, 0), (12, 0))], [(((0, 0), 1851192626986356797424364830707437625680387377997778264871665664000000), .inr (3, (13, 0))), (((13, 0), 1000010), .inl none), (((0, 1), 9), .inr (3, (0, 12))), (((0, 0), 1851192626986356798427873864310897359480125337295219445323071488000000), .inr (0, (12, 0))), (((0, 1), 5), .inr (0, (12, 0))), (((0, 0), 0), .inr (3, (0, 1)))], some (.inr (0, (0, (-1))))), [])
def rxeKND_0_9 : rx_End × List (Nat × Int × Int) := (([(0, 0), (0, 0), (0, 0), (0, 0), (0, 0), (0, 0), (0, 0), (0, 0), (0, 11), (6, 2147483647), ((-2147483648), 2147483647), (0, 0), (1, 12), (0, 1522)], [(0, (8, 0), (12, 0))], [(((0, 0), 1851192626986356797424364830707437625680387377997778264871665664000000), .inr (3, (13, 0))), (((13, 0), 1000010), .inl none), (((0, 1), 9), .inr (3, (0, 12))), (((0, 0), 1851192626986356798427873864310897359480125337295219445323071488000000), .inr (0, (12, 0))), (((0, 1), 5), .inr (0, (12, 0))), (((0, 0), 0), .inr (3, (0, 1)))], some (.inr (0, (0, (-1))))), [])
def rxeKND_0_10 : rx_End × List (Nat × Int × Int) := (([(0, 0), (0, 0), (0, 0), (0, 0), (0, 0), (0, 0), (0, 0), (0, 0), (0, 11), (0, 5), ((-2147483648), (-1)), (0, 0), (1, 12), (0, 1522)], [(0, (8, 0), (12, 0))], [(((0, 0), 1851192626986356797424364830707437625680387377997778264871665664000000), .inr (3, (13, 0))), (((13, 0), 1000010), .inl none), (((0, 1), 9), .inr (3, (0, 12))), (((0, 0), 1851192626986356798427873864310897359480125337295219445323071488000000), .inr (0, (12, 0))), (((0, 1), 5), .inr (0, (12, 0))), (((0, 0), 0), .inr (3, (0, 1)))], some (.inr (0, (0, (-1))))), [])
def rxeKND_0_11 : rx_End × List (Nat × Int × Int) := (([(0, 0), (0, 0), (0, 0), (0, 0), (0, 0), (0, 0), (0, 0), (0, 0), (0, 11), (0, 5), (6, 2147483647), (0, 0), (1, 12), (0, 1522)], [(0, (8, 0), (12, 0))], [(((0, 0), 1851192626986356797424364830707437625680387377997778264871665664000000), .inr (3, (13, 0))), (((13, 0), 1000010), .inl none), (((0, 1), 9), .inr (3, (0, 12))), (((0, 0), 1851192626986356798427873864310897359480125337295219445323071488000000), .inr (0, (12, 0))), (((0, 1), 5), .inr (0, (12, 0))), (((0, 0), 0), .inr (3, (0, 1)))], some (.inr (0, (0, (-1))))), [])
def rxeKND_0_12 : rx_End × List (Nat × Int × Int) := (([(0, 0), (0, 0), (0, 0), (0, 0), (0, 0), (0, 0), (0, 0), (0, 0), (0, 11), (0, 5), (0, 5), (0, 0), (1, 12), (0, 1522), (0, 1522), (0, 30), (0, 35), ((-1), 9)], [(604462909807314587353098000000, (16, 0), (15, 0)), (10, (15, 0), (9, 0)), (0, (8, 0), (12, 0))], [(((0, 0), 1851192626986356797424389331037855933249756740969513352175812734000000), .inr (0, (17, 0))), (((0, 0), 1851192626986356797424340330377019318111018015026043177553363061000000), .inr (3, (14, 0))), (((13, 0), 0), .inr (3, (14, 0))), (((14, 0), 1000019), .inl none), (((0, 0), 1851192626986356797424364830707437625680387377997778264871665664000000), .inr (3, (13, 0))), (((13, 0), 1000010), .inl none), (((0, 1), 9), .inr (3, (0, 12))), (((0, 0), 1851192626986356798427873864310897359480125337295219445323071488000000), .inr (0, (12, 0))), (((0, 1), 5), .inr (0, (12, 0))), (((0, 0), 0), .inr (3, (0, 1)))], some (.inr (0, (17, 0)))), [])
def rxYKND : List bx_HE := [(rxzKND_0, [], [rxeKND_0_0, rxeKND_0_1, rxeKND_0_2, rxeKND_0_3, rxeKND_0_4, rxeKND_0_5, rxeKND_0_6, rxeKND_0_7, rxeKND_0_8, rxeKND_0_9, rxeKND_0_10, rxeKND_0_11, rxeKND_0_12])]
def rxUKND (q : bx_HE) : Bool := false
def rxYBKND : bx_B := (rxV, rxNP, rxDmf, bx_mdH rxC165.2.2.1)
set_option maxRecDepth 100000 in
theorem rxYcKND : bx_chkH rxYBKND rxM165 rxC165 rxYKND (rxUKND, fun cut z => rx_ex2 (rxCT rxYBKND rxCnE) cut 30000 rxC165.2.2.2.1 165 z) = true := by decide +kernel
def rxIKND (S0 : Nat → Int → Int) (ws : List Int) (i : Nat) : bx_SP := fun S r => match i with | 0 => rxIKND_0 S0 ws S (r 8) (r 9) (r 10) (r 11) | _ => False
def rxmKND (S0 : Nat → Int → Int) (ws : List Int) (i : Nat) (S : Nat → Int → Int) (r : Nat → Int) : Nat := match i with | 0 => rxmKND_0 S0 ws S (r 8) (r 9) (r 10) (r 11) | _ => 0
def rxPKND (S0 : Nat → Int → Int) (ws : List Int) : Prop := rkPl S0
def rxPSKND (S0 : Nat → Int → Int) (ws : List Int) (S : Nat → Int → Int) (w : Option Int) : Prop := ∃ pa st cu wh : Int, ws = [0, pa, st, cu, wh] ∧ (((pa < 0 ∨ S0 1 5 ≤ pa ∨ st < 0 ∨ 5 < st ∨ cu < 0 ∨ 5 < cu ∨ wh < 0 ∨ 1 < wh) ∧ w = some (-1)) ∨ ((0 ≤ pa ∧ pa < S0 1 5 ∧ 0 ≤ st ∧ st ≤ 5 ∧ 0 ≤ cu ∧ cu ≤ 5) ∧ wh = 0 ∧ w = some (S0 (42 + 3 * pa).toNat (6 * st + cu))) ∨ ((0 ≤ pa ∧ pa < S0 1 5 ∧ 0 ≤ st ∧ st ≤ 5 ∧ 0 ≤ cu ∧ cu ≤ 5) ∧ wh = 1 ∧ w = some (S0 (43 + 3 * pa).toNat (6 * st + cu))))
theorem rxdKND_0_0 {S0 : Nat → Int → Int} {ws : List Int} {S : Nat → Int → Int} {pa st cu wh : Int} (hP : rxPKND S0 ws) (hin : bx_same rxL (bx_mdl rxC165.2.2.1) S0 S) (hin2 : bx_same rxL (bx_mdl rxC165.2.2.1) S S) (I0 : bx_Inv rxL S) (I1 : bx_Inv rxL S) (hinv : rxIKND_0 S0 ws S pa st cu wh) (l8 : (-2147483648) ≤ pa) (u8 : pa ≤ (-1)) (l9 : (-2147483648) ≤ st) (u9 : st ≤ 2147483647) (l10 : (-2147483648) ≤ cu) (u10 : cu ≤ 2147483647) (l11 : (-2147483648) ≤ wh) (u11 : wh ≤ 2147483647) : (True) ∧ rxPSKND S0 ws S (some ((-1))) := by
  obtain ⟨rfl, hw⟩ := hinv
  exact ⟨trivial, pa, st, cu, wh, hw, Or.inl ⟨by omega, rfl⟩⟩
theorem rxfKND_0_0 {X : (Nat → Int → Int) → Prop} {S0 : Nat → Int → Int} {ws : List Int} (hP : rxPKND S0 ws) : bx_obE rxL X S0 rxC165.2.2.1 (rxIKND S0 ws) (rxPSKND S0 ws) 0 rxzKND_0 rxeKND_0_0 := by
  intro S S_p r r_p hinv hX hin hsm_ hseg
  obtain ⟨I0, I1, h0_, hr_, b_, f_, d_⟩ := bx_cl (evs := []) (fvs := []) hseg (by decide +kernel) (by decide +kernel)
  have hinv : rxIKND_0 S0 ws S (r 8) (r 9) (r 10) (r 11) := hinv
  rw [← hr_ 8 (by decide), ← hr_ 9 (by decide), ← hr_ 10 (by decide), ← hr_ 11 (by decide)] at hinv
  obtain ⟨⟨l8, u8⟩, ⟨l9, u9⟩, ⟨l10, u10⟩, ⟨l11, u11⟩, -⟩ := b_
  have w_ := d_
  subst w_
  have g := rxdKND_0_0 hP hin hsm_ I0 I1 hinv l8 u8 l9 u9 l10 u10 l11 u11
  refine ⟨bx_narP_ok (l := []) g.1, ?_⟩
  show rxPSKND S0 ws S_p (some (bx_num r_p (.inr (0, (0, (-1))))))
  rw [bx_xv_ok h0_]
  exact g.2
theorem rxdKND_0_1 {S0 : Nat → Int → Int} {ws : List Int} {S : Nat → Int → Int} {pa st cu wh x12 : Int} (hP : rxPKND S0 ws) (hin : bx_same rxL (bx_mdl rxC165.2.2.1) S0 S) (hin2 : bx_same rxL (bx_mdl rxC165.2.2.1) S S) (I0 : bx_Inv rxL S) (I1 : bx_Inv rxL S) (hinv : rxIKND_0 S0 ws S pa st cu wh) (l8 : 0 ≤ pa) (u8 : pa ≤ 2147483647) (l9 : (-2147483648) ≤ st) (u9 : st ≤ 2147483647) (l10 : (-2147483648) ≤ cu) (u10 : cu ≤ 2147483647) (l11 : (-2147483648) ≤ wh) (u11 : wh ≤ 2147483647) (l12 : 0 ≤ x12) (u12 : x12 ≤ 12) (f0 : x12 ≤ pa) (e0 : S 1 5 = x12) : (True) ∧ rxPSKND S0 ws S (some ((-1))) := by
  obtain ⟨rfl, hw⟩ := hinv
  exact ⟨trivial, pa, st, cu, wh, hw, Or.inl ⟨by omega, rfl⟩⟩
theorem rxfKND_0_1 {X : (Nat → Int → Int) → Prop} {S0 : Nat → Int → Int} {ws : List Int} (hP : rxPKND S0 ws) : bx_obE rxL X S0 rxC165.2.2.1 (rxIKND S0 ws) (rxPSKND S0 ws) 0 rxzKND_0 rxeKND_0_1 := by
  intro S S_p r r_p hinv hX hin hsm_ hseg
  obtain ⟨I0, I1, h0_, hr_, b_, f_, d_⟩ := bx_cl (evs := [(0, (0, 1), (0, 5), .inr (0, (12, 0)))]) (fvs := [(1, (12, 0), (8, 0), (0, 0))]) hseg (by decide +kernel) (by decide +kernel)
  have hinv : rxIKND_0 S0 ws S (r 8) (r 9) (r 10) (r 11) := hinv
  rw [← hr_ 8 (by decide), ← hr_ 9 (by decide), ← hr_ 10 (by decide), ← hr_ 11 (by decide)] at hinv
  obtain ⟨⟨l8, u8⟩, ⟨l9, u9⟩, ⟨l10, u10⟩, ⟨l11, u11⟩, ⟨l12, u12⟩, -⟩ := b_
  obtain ⟨f0, -⟩ := f_
  obtain ⟨e0, w_⟩ := d_
  subst w_
  have g := rxdKND_0_1 hP hin hsm_ I0 I1 hinv l8 u8 l9 u9 l10 u10 l11 u11 l12 u12 f0 e0
  refine ⟨bx_narP_ok (l := []) g.1, ?_⟩
  show rxPSKND S0 ws S_p (some (bx_num r_p (.inr (0, (0, (-1))))))
  rw [bx_xv_ok h0_]
  exact g.2
theorem rxdKND_0_2 {S0 : Nat → Int → Int} {ws : List Int} {S : Nat → Int → Int} {pa st cu wh x12 x13 : Int} (hP : rxPKND S0 ws) (hin : bx_same rxL (bx_mdl rxC165.2.2.1) S0 S) (hin2 : bx_same rxL (bx_mdl rxC165.2.2.1) S S) (I0 : bx_Inv rxL S) (I1 : bx_Inv rxL S) (hinv : rxIKND_0 S0 ws S pa st cu wh) (l8 : 0 ≤ pa) (u8 : pa ≤ 11) (l9 : (-2147483648) ≤ st) (u9 : st ≤ 2147483647) (l10 : (-2147483648) ≤ cu) (u10 : cu ≤ 2147483647) (l11 : (-2147483648) ≤ wh) (u11 : wh ≤ 2147483647) (l12 : 1 ≤ x12) (u12 : x12 ≤ 12) (l13 : 0 ≤ x13) (u13 : x13 ≤ 1522) (f0 : wh ≠ 1) (f1 : wh ≠ 0) (f2 : pa < x12) (e1 : S 1 5 = x12) (e0 : S 12 pa = x13) : (True) ∧ rxPSKND S0 ws S (some ((-1))) := by
  obtain ⟨rfl, hw⟩ := hinv
  exact ⟨trivial, pa, st, cu, wh, hw, Or.inl ⟨by omega, rfl⟩⟩
theorem rxfKND_0_2 {X : (Nat → Int → Int) → Prop} {S0 : Nat → Int → Int} {ws : List Int} (hP : rxPKND S0 ws) : bx_obE rxL X S0 rxC165.2.2.1 (rxIKND S0 ws) (rxPSKND S0 ws) 0 rxzKND_0 rxeKND_0_2 := by
  intro S S_p r r_p hinv hX hin hsm_ hseg
  obtain ⟨I0, I1, h0_, hr_, b_, f_, d_⟩ := bx_cl (evs := [(0, (0, 12), (8, 0), .inr (3, (13, 0))), (0, (0, 1), (0, 5), .inr (0, (12, 0)))]) (fvs := [(3, (11, 0), (0, 1), (0, 0)), (3, (11, 0), (0, 0), (0, 0)), (0, (8, 0), (12, 0), (0, 0))]) hseg (by decide +kernel) (by decide +kernel)
  have hinv : rxIKND_0 S0 ws S (r 8) (r 9) (r 10) (r 11) := hinv
  rw [← hr_ 8 (by decide), ← hr_ 9 (by decide), ← hr_ 10 (by decide), ← hr_ 11 (by decide)] at hinv
  obtain ⟨⟨l8, u8⟩, ⟨l9, u9⟩, ⟨l10, u10⟩, ⟨l11, u11⟩, ⟨l12, u12⟩, ⟨l13, u13⟩, -⟩ := b_
  obtain ⟨f0, f1, f2, -⟩ := f_
  obtain ⟨e0, ⟨e1, w_⟩⟩ := d_
  subst w_
  have g := rxdKND_0_2 hP hin hsm_ I0 I1 hinv l8 u8 l9 u9 l10 u10 l11 u11 l12 u12 l13 u13 f0 f1 f2 e1 e0
  refine ⟨bx_narP_ok (l := []) g.1, ?_⟩
  show rxPSKND S0 ws S_p (some (bx_num r_p (.inr (0, (0, (-1))))))
  rw [bx_xv_ok h0_]
  exact g.2
theorem rxdKND_0_3 {S0 : Nat → Int → Int} {ws : List Int} {S : Nat → Int → Int} {pa st cu wh x12 x13 : Int} (hP : rxPKND S0 ws) (hin : bx_same rxL (bx_mdl rxC165.2.2.1) S0 S) (hin2 : bx_same rxL (bx_mdl rxC165.2.2.1) S S) (I0 : bx_Inv rxL S) (I1 : bx_Inv rxL S) (hinv : rxIKND_0 S0 ws S pa st cu wh) (l8 : 0 ≤ pa) (u8 : pa ≤ 11) (l9 : (-2147483648) ≤ st) (u9 : st ≤ (-1)) (l10 : (-2147483648) ≤ cu) (u10 : cu ≤ 2147483647) (l11 : 1 ≤ wh) (u11 : wh ≤ 1) (l12 : 1 ≤ x12) (u12 : x12 ≤ 12) (l13 : 0 ≤ x13) (u13 : x13 ≤ 1522) (f0 : wh ≠ 0) (f1 : pa < x12) (e1 : S 1 5 = x12) (e0 : S 12 pa = x13) : (True) ∧ rxPSKND S0 ws S (some ((-1))) := by
  obtain ⟨rfl, hw⟩ := hinv
  exact ⟨trivial, pa, st, cu, wh, hw, Or.inl ⟨by omega, rfl⟩⟩
theorem rxfKND_0_3 {X : (Nat → Int → Int) → Prop} {S0 : Nat → Int → Int} {ws : List Int} (hP : rxPKND S0 ws) : bx_obE rxL X S0 rxC165.2.2.1 (rxIKND S0 ws) (rxPSKND S0 ws) 0 rxzKND_0 rxeKND_0_3 := by
  intro S S_p r r_p hinv hX hin hsm_ hseg
  obtain ⟨I0, I1, h0_, hr_, b_, f_, d_⟩ := bx_cl (evs := [(0, (0, 12), (8, 0), .inr (3, (13, 0))), (0, (0, 1), (0, 5), .inr (0, (12, 0)))]) (fvs := [(3, (11, 0), (0, 0), (0, 0)), (0, (8, 0), (12, 0), (0, 0))]) hseg (by decide +kernel) (by decide +kernel)
  have hinv : rxIKND_0 S0 ws S (r 8) (r 9) (r 10) (r 11) := hinv
  rw [← hr_ 8 (by decide), ← hr_ 9 (by decide), ← hr_ 10 (by decide), ← hr_ 11 (by decide)] at hinv
  obtain ⟨⟨l8, u8⟩, ⟨l9, u9⟩, ⟨l10, u10⟩, ⟨l11, u11⟩, ⟨l12, u12⟩, ⟨l13, u13⟩, -⟩ := b_
  obtain ⟨f0, f1, -⟩ := f_
  obtain ⟨e0, ⟨e1, w_⟩⟩ := d_
  subst w_
  have g := rxdKND_0_3 hP hin hsm_ I0 I1 hinv l8 u8 l9 u9 l10 u10 l11 u11 l12 u12 l13 u13 f0 f1 e1 e0
  refine ⟨bx_narP_ok (l := []) g.1, ?_⟩
  show rxPSKND S0 ws S_p (some (bx_num r_p (.inr (0, (0, (-1))))))
  rw [bx_xv_ok h0_]
  exact g.2
theorem rxdKND_0_4 {S0 : Nat → Int → Int} {ws : List Int} {S : Nat → Int → Int} {pa st cu wh x12 x13 : Int} (hP : rxPKND S0 ws) (hin : bx_same rxL (bx_mdl rxC165.2.2.1) S0 S) (hin2 : bx_same rxL (bx_mdl rxC165.2.2.1) S S) (I0 : bx_Inv rxL S) (I1 : bx_Inv rxL S) (hinv : rxIKND_0 S0 ws S pa st cu wh) (l8 : 0 ≤ pa) (u8 : pa ≤ 11) (l9 : 6 ≤ st) (u9 : st ≤ 2147483647) (l10 : (-2147483648) ≤ cu) (u10 : cu ≤ 2147483647) (l11 : 1 ≤ wh) (u11 : wh ≤ 1) (l12 : 1 ≤ x12) (u12 : x12 ≤ 12) (l13 : 0 ≤ x13) (u13 : x13 ≤ 1522) (f0 : wh ≠ 0) (f1 : pa < x12) (e1 : S 1 5 = x12) (e0 : S 12 pa = x13) : (True) ∧ rxPSKND S0 ws S (some ((-1))) := by
  obtain ⟨rfl, hw⟩ := hinv
  exact ⟨trivial, pa, st, cu, wh, hw, Or.inl ⟨by omega, rfl⟩⟩
theorem rxfKND_0_4 {X : (Nat → Int → Int) → Prop} {S0 : Nat → Int → Int} {ws : List Int} (hP : rxPKND S0 ws) : bx_obE rxL X S0 rxC165.2.2.1 (rxIKND S0 ws) (rxPSKND S0 ws) 0 rxzKND_0 rxeKND_0_4 := by
  intro S S_p r r_p hinv hX hin hsm_ hseg
  obtain ⟨I0, I1, h0_, hr_, b_, f_, d_⟩ := bx_cl (evs := [(0, (0, 12), (8, 0), .inr (3, (13, 0))), (0, (0, 1), (0, 5), .inr (0, (12, 0)))]) (fvs := [(3, (11, 0), (0, 0), (0, 0)), (0, (8, 0), (12, 0), (0, 0))]) hseg (by decide +kernel) (by decide +kernel)
  have hinv : rxIKND_0 S0 ws S (r 8) (r 9) (r 10) (r 11) := hinv
  rw [← hr_ 8 (by decide), ← hr_ 9 (by decide), ← hr_ 10 (by decide), ← hr_ 11 (by decide)] at hinv
  obtain ⟨⟨l8, u8⟩, ⟨l9, u9⟩, ⟨l10, u10⟩, ⟨l11, u11⟩, ⟨l12, u12⟩, ⟨l13, u13⟩, -⟩ := b_
  obtain ⟨f0, f1, -⟩ := f_
  obtain ⟨e0, ⟨e1, w_⟩⟩ := d_
  subst w_
  have g := rxdKND_0_4 hP hin hsm_ I0 I1 hinv l8 u8 l9 u9 l10 u10 l11 u11 l12 u12 l13 u13 f0 f1 e1 e0
  refine ⟨bx_narP_ok (l := []) g.1, ?_⟩
  show rxPSKND S0 ws S_p (some (bx_num r_p (.inr (0, (0, (-1))))))
  rw [bx_xv_ok h0_]
  exact g.2
theorem rxdKND_0_5 {S0 : Nat → Int → Int} {ws : List Int} {S : Nat → Int → Int} {pa st cu wh x12 x13 : Int} (hP : rxPKND S0 ws) (hin : bx_same rxL (bx_mdl rxC165.2.2.1) S0 S) (hin2 : bx_same rxL (bx_mdl rxC165.2.2.1) S S) (I0 : bx_Inv rxL S) (I1 : bx_Inv rxL S) (hinv : rxIKND_0 S0 ws S pa st cu wh) (l8 : 0 ≤ pa) (u8 : pa ≤ 11) (l9 : 0 ≤ st) (u9 : st ≤ 5) (l10 : (-2147483648) ≤ cu) (u10 : cu ≤ (-1)) (l11 : 1 ≤ wh) (u11 : wh ≤ 1) (l12 : 1 ≤ x12) (u12 : x12 ≤ 12) (l13 : 0 ≤ x13) (u13 : x13 ≤ 1522) (f0 : wh ≠ 0) (f1 : pa < x12) (e1 : S 1 5 = x12) (e0 : S 12 pa = x13) : (True) ∧ rxPSKND S0 ws S (some ((-1))) := by
  obtain ⟨rfl, hw⟩ := hinv
  exact ⟨trivial, pa, st, cu, wh, hw, Or.inl ⟨by omega, rfl⟩⟩
theorem rxfKND_0_5 {X : (Nat → Int → Int) → Prop} {S0 : Nat → Int → Int} {ws : List Int} (hP : rxPKND S0 ws) : bx_obE rxL X S0 rxC165.2.2.1 (rxIKND S0 ws) (rxPSKND S0 ws) 0 rxzKND_0 rxeKND_0_5 := by
  intro S S_p r r_p hinv hX hin hsm_ hseg
  obtain ⟨I0, I1, h0_, hr_, b_, f_, d_⟩ := bx_cl (evs := [(0, (0, 12), (8, 0), .inr (3, (13, 0))), (0, (0, 1), (0, 5), .inr (0, (12, 0)))]) (fvs := [(3, (11, 0), (0, 0), (0, 0)), (0, (8, 0), (12, 0), (0, 0))]) hseg (by decide +kernel) (by decide +kernel)
  have hinv : rxIKND_0 S0 ws S (r 8) (r 9) (r 10) (r 11) := hinv
  rw [← hr_ 8 (by decide), ← hr_ 9 (by decide), ← hr_ 10 (by decide), ← hr_ 11 (by decide)] at hinv
  obtain ⟨⟨l8, u8⟩, ⟨l9, u9⟩, ⟨l10, u10⟩, ⟨l11, u11⟩, ⟨l12, u12⟩, ⟨l13, u13⟩, -⟩ := b_
  obtain ⟨f0, f1, -⟩ := f_
  obtain ⟨e0, ⟨e1, w_⟩⟩ := d_
  subst w_
  have g := rxdKND_0_5 hP hin hsm_ I0 I1 hinv l8 u8 l9 u9 l10 u10 l11 u11 l12 u12 l13 u13 f0 f1 e1 e0
  refine ⟨bx_narP_ok (l := []) g.1, ?_⟩
  show rxPSKND S0 ws S_p (some (bx_num r_p (.inr (0, (0, (-1))))))
  rw [bx_xv_ok h0_]
  exact g.2
theorem rxdKND_0_6 {S0 : Nat → Int → Int} {ws : List Int} {S : Nat → Int → Int} {pa st cu wh x12 x13 : Int} (hP : rxPKND S0 ws) (hin : bx_same rxL (bx_mdl rxC165.2.2.1) S0 S) (hin2 : bx_same rxL (bx_mdl rxC165.2.2.1) S S) (I0 : bx_Inv rxL S) (I1 : bx_Inv rxL S) (hinv : rxIKND_0 S0 ws S pa st cu wh) (l8 : 0 ≤ pa) (u8 : pa ≤ 11) (l9 : 0 ≤ st) (u9 : st ≤ 5) (l10 : 6 ≤ cu) (u10 : cu ≤ 2147483647) (l11 : 1 ≤ wh) (u11 : wh ≤ 1) (l12 : 1 ≤ x12) (u12 : x12 ≤ 12) (l13 : 0 ≤ x13) (u13 : x13 ≤ 1522) (f0 : wh ≠ 0) (f1 : pa < x12) (e1 : S 1 5 = x12) (e0 : S 12 pa = x13) : (True) ∧ rxPSKND S0 ws S (some ((-1))) := by
  obtain ⟨rfl, hw⟩ := hinv
  exact ⟨trivial, pa, st, cu, wh, hw, Or.inl ⟨by omega, rfl⟩⟩
theorem rxfKND_0_6 {X : (Nat → Int → Int) → Prop} {S0 : Nat → Int → Int} {ws : List Int} (hP : rxPKND S0 ws) : bx_obE rxL X S0 rxC165.2.2.1 (rxIKND S0 ws) (rxPSKND S0 ws) 0 rxzKND_0 rxeKND_0_6 := by
  intro S S_p r r_p hinv hX hin hsm_ hseg
  obtain ⟨I0, I1, h0_, hr_, b_, f_, d_⟩ := bx_cl (evs := [(0, (0, 12), (8, 0), .inr (3, (13, 0))), (0, (0, 1), (0, 5), .inr (0, (12, 0)))]) (fvs := [(3, (11, 0), (0, 0), (0, 0)), (0, (8, 0), (12, 0), (0, 0))]) hseg (by decide +kernel) (by decide +kernel)
  have hinv : rxIKND_0 S0 ws S (r 8) (r 9) (r 10) (r 11) := hinv
  rw [← hr_ 8 (by decide), ← hr_ 9 (by decide), ← hr_ 10 (by decide), ← hr_ 11 (by decide)] at hinv
  obtain ⟨⟨l8, u8⟩, ⟨l9, u9⟩, ⟨l10, u10⟩, ⟨l11, u11⟩, ⟨l12, u12⟩, ⟨l13, u13⟩, -⟩ := b_
  obtain ⟨f0, f1, -⟩ := f_
  obtain ⟨e0, ⟨e1, w_⟩⟩ := d_
  subst w_
  have g := rxdKND_0_6 hP hin hsm_ I0 I1 hinv l8 u8 l9 u9 l10 u10 l11 u11 l12 u12 l13 u13 f0 f1 e1 e0
  refine ⟨bx_narP_ok (l := []) g.1, ?_⟩
  show rxPSKND S0 ws S_p (some (bx_num r_p (.inr (0, (0, (-1))))))
  rw [bx_xv_ok h0_]
  exact g.2
theorem rxdKND_0_7 {S0 : Nat → Int → Int} {ws : List Int} {S : Nat → Int → Int} {pa st cu wh x12 x13 x14 x15 x16 x17 : Int} (hP : rxPKND S0 ws) (hin : bx_same rxL (bx_mdl rxC165.2.2.1) S0 S) (hin2 : bx_same rxL (bx_mdl rxC165.2.2.1) S S) (I0 : bx_Inv rxL S) (I1 : bx_Inv rxL S) (hinv : rxIKND_0 S0 ws S pa st cu wh) (l8 : 0 ≤ pa) (u8 : pa ≤ 11) (l9 : 0 ≤ st) (u9 : st ≤ 5) (l10 : 0 ≤ cu) (u10 : cu ≤ 5) (l11 : 1 ≤ wh) (u11 : wh ≤ 1) (l12 : 1 ≤ x12) (u12 : x12 ≤ 12) (l13 : 0 ≤ x13) (u13 : x13 ≤ 1522) (l14 : 0 ≤ x14) (u14 : x14 ≤ 1522) (l15 : 0 ≤ x15) (u15 : x15 ≤ 30) (l16 : 0 ≤ x16) (u16 : x16 ≤ 35) (l17 : (-1) ≤ x17) (u17 : x17 ≤ 5) (f0 : x16 = x15 + cu) (f1 : x15 = 6 * (st)) (f2 : wh ≠ 0) (f3 : pa < x12) (e3 : S 1 5 = x12) (e2 : S 12 pa = x13) (e1 : S (x13).toNat 1 = x14) (e0 : S (x14).toNat x16 = x17) : (True) ∧ rxPSKND S0 ws S (some x17) := by
  obtain ⟨rfl, hw⟩ := hinv
  have hpl : rkPl S := hP
  obtain ⟨z4, -⟩ := hpl.2.1.2 pa.toNat (by omega)
  rw [Int.toNat_of_nonneg (show 0 ≤ pa by omega)] at z4
  obtain ⟨z0, z1⟩ := rjd_px hpl (a := 6 + pa) (by omega) (by omega)
  rw [show 23 + 3 * (6 + pa) = 41 + 3 * pa by omega] at z0 z1
  have a0 : x13 = 41 + 3 * pa := e2.symm.trans (z4.trans (by omega))
  subst a0
  have a1 : x14 = 43 + 3 * pa := e1.symm.trans (z1.trans (by omega))
  subst a1
  have a2 : x16 = 6 * st + cu := by omega
  subst a2
  exact ⟨trivial, pa, st, cu, wh, hw, Or.inr (Or.inr ⟨⟨by omega, by omega, by omega, by omega, by omega, by omega⟩, by omega, congrArg some e0.symm⟩)⟩
theorem rxfKND_0_7 {X : (Nat → Int → Int) → Prop} {S0 : Nat → Int → Int} {ws : List Int} (hP : rxPKND S0 ws) : bx_obE rxL X S0 rxC165.2.2.1 (rxIKND S0 ws) (rxPSKND S0 ws) 0 rxzKND_0 rxeKND_0_7 := by
  intro S S_p r r_p hinv hX hin hsm_ hseg
  obtain ⟨I0, I1, h0_, hr_, b_, f_, d_⟩ := bx_cl (evs := [(0, (14, 0), (16, 0), .inr (0, (17, 0))), (0, (13, 0), (0, 1), .inr (3, (14, 0))), (0, (0, 12), (8, 0), .inr (3, (13, 0))), (0, (0, 1), (0, 5), .inr (0, (12, 0)))]) (fvs := [(5, (16, 0), (15, 0), (10, 0)), (4, (15, 0), (9, 0), (0, 6)), (3, (11, 0), (0, 0), (0, 0)), (0, (8, 0), (12, 0), (0, 0))]) hseg (by decide +kernel) (by decide +kernel)
  have hinv : rxIKND_0 S0 ws S (r 8) (r 9) (r 10) (r 11) := hinv
  rw [← hr_ 8 (by decide), ← hr_ 9 (by decide), ← hr_ 10 (by decide), ← hr_ 11 (by decide)] at hinv
  obtain ⟨⟨l8, u8⟩, ⟨l9, u9⟩, ⟨l10, u10⟩, ⟨l11, u11⟩, ⟨l12, u12⟩, ⟨l13, u13⟩, ⟨l14, u14⟩, ⟨l15, u15⟩, ⟨l16, u16⟩, ⟨l17, u17⟩, -⟩ := b_
  obtain ⟨f0, f1, f2, f3, -⟩ := f_
  obtain ⟨e0, ⟨e1, ⟨e2, ⟨e3, w_⟩⟩⟩⟩ := d_
  subst w_
  have g := rxdKND_0_7 hP hin hsm_ I0 I1 hinv l8 u8 l9 u9 l10 u10 l11 u11 l12 u12 l13 u13 l14 u14 l15 u15 l16 u16 l17 u17 f0 f1 f2 f3 e3 e2 e1 e0
  refine ⟨bx_narP_ok (l := []) g.1, ?_⟩
  show rxPSKND S0 ws S_p (some (bx_num r_p (.inr (0, (17, 0)))))
  rw [bx_xv_ok h0_]
  exact g.2
theorem rxdKND_0_8 {S0 : Nat → Int → Int} {ws : List Int} {S : Nat → Int → Int} {pa st cu wh x12 x13 : Int} (hP : rxPKND S0 ws) (hin : bx_same rxL (bx_mdl rxC165.2.2.1) S0 S) (hin2 : bx_same rxL (bx_mdl rxC165.2.2.1) S S) (I0 : bx_Inv rxL S) (I1 : bx_Inv rxL S) (hinv : rxIKND_0 S0 ws S pa st cu wh) (l8 : 0 ≤ pa) (u8 : pa ≤ 11) (l9 : (-2147483648) ≤ st) (u9 : st ≤ (-1)) (l10 : (-2147483648) ≤ cu) (u10 : cu ≤ 2147483647) (l11 : 0 ≤ wh) (u11 : wh ≤ 0) (l12 : 1 ≤ x12) (u12 : x12 ≤ 12) (l13 : 0 ≤ x13) (u13 : x13 ≤ 1522) (f0 : pa < x12) (e1 : S 1 5 = x12) (e0 : S 12 pa = x13) : (True) ∧ rxPSKND S0 ws S (some ((-1))) := by
  obtain ⟨rfl, hw⟩ := hinv
  exact ⟨trivial, pa, st, cu, wh, hw, Or.inl ⟨by omega, rfl⟩⟩
theorem rxfKND_0_8 {X : (Nat → Int → Int) → Prop} {S0 : Nat → Int → Int} {ws : List Int} (hP : rxPKND S0 ws) : bx_obE rxL X S0 rxC165.2.2.1 (rxIKND S0 ws) (rxPSKND S0 ws) 0 rxzKND_0 rxeKND_0_8 := by
  intro S S_p r r_p hinv hX hin hsm_ hseg
  obtain ⟨I0, I1, h0_, hr_, b_, f_, d_⟩ := bx_cl (evs := [(0, (0, 12), (8, 0), .inr (3, (13, 0))), (0, (0, 1), (0, 5), .inr (0, (12, 0)))]) (fvs := [(0, (8, 0), (12, 0), (0, 0))]) hseg (by decide +kernel) (by decide +kernel)
  have hinv : rxIKND_0 S0 ws S (r 8) (r 9) (r 10) (r 11) := hinv
  rw [← hr_ 8 (by decide), ← hr_ 9 (by decide), ← hr_ 10 (by decide), ← hr_ 11 (by decide)] at hinv
  obtain ⟨⟨l8, u8⟩, ⟨l9, u9⟩, ⟨l10, u10⟩, ⟨l11, u11⟩, ⟨l12, u12⟩, ⟨l13, u13⟩, -⟩ := b_
  obtain ⟨f0, -⟩ := f_
  obtain ⟨e0, ⟨e1, w_⟩⟩ := d_
  subst w_
  have g := rxdKND_0_8 hP hin hsm_ I0 I1 hinv l8 u8 l9 u9 l10 u10 l11 u11 l12 u12 l13 u13 f0 e1 e0
  refine ⟨bx_narP_ok (l := []) g.1, ?_⟩
  show rxPSKND S0 ws S_p (some (bx_num r_p (.inr (0, (0, (-1))))))
  rw [bx_xv_ok h0_]
  exact g.2
theorem rxdKND_0_9 {S0 : Nat → Int → Int} {ws : List Int} {S : Nat → Int → Int} {pa st cu wh x12 x13 : Int} (hP : rxPKND S0 ws) (hin : bx_same rxL (bx_mdl rxC165.2.2.1) S0 S) (hin2 : bx_same rxL (bx_mdl rxC165.2.2.1) S S) (I0 : bx_Inv rxL S) (I1 : bx_Inv rxL S) (hinv : rxIKND_0 S0 ws S pa st cu wh) (l8 : 0 ≤ pa) (u8 : pa ≤ 11) (l9 : 6 ≤ st) (u9 : st ≤ 2147483647) (l10 : (-2147483648) ≤ cu) (u10 : cu ≤ 2147483647) (l11 : 0 ≤ wh) (u11 : wh ≤ 0) (l12 : 1 ≤ x12) (u12 : x12 ≤ 12) (l13 : 0 ≤ x13) (u13 : x13 ≤ 1522) (f0 : pa < x12) (e1 : S 1 5 = x12) (e0 : S 12 pa = x13) : (True) ∧ rxPSKND S0 ws S (some ((-1))) := by
  obtain ⟨rfl, hw⟩ := hinv
  exact ⟨trivial, pa, st, cu, wh, hw, Or.inl ⟨by omega, rfl⟩⟩
theorem rxfKND_0_9 {X : (Nat → Int → Int) → Prop} {S0 : Nat → Int → Int} {ws : List Int} (hP : rxPKND S0 ws) : bx_obE rxL X S0 rxC165.2.2.1 (rxIKND S0 ws) (rxPSKND S0 ws) 0 rxzKND_0 rxeKND_0_9 := by
  intro S S_p r r_p hinv hX hin hsm_ hseg
  obtain ⟨I0, I1, h0_, hr_, b_, f_, d_⟩ := bx_cl (evs := [(0, (0, 12), (8, 0), .inr (3, (13, 0))), (0, (0, 1), (0, 5), .inr (0, (12, 0)))]) (fvs := [(0, (8, 0), (12, 0), (0, 0))]) hseg (by decide +kernel) (by decide +kernel)
  have hinv : rxIKND_0 S0 ws S (r 8) (r 9) (r 10) (r 11) := hinv
  rw [← hr_ 8 (by decide), ← hr_ 9 (by decide), ← hr_ 10 (by decide), ← hr_ 11 (by decide)] at hinv
  obtain ⟨⟨l8, u8⟩, ⟨l9, u9⟩, ⟨l10, u10⟩, ⟨l11, u11⟩, ⟨l12, u12⟩, ⟨l13, u13⟩, -⟩ := b_
  obtain ⟨f0, -⟩ := f_
  obtain ⟨e0, ⟨e1, w_⟩⟩ := d_
  subst w_
  have g := rxdKND_0_9 hP hin hsm_ I0 I1 hinv l8 u8 l9 u9 l10 u10 l11 u11 l12 u12 l13 u13 f0 e1 e0
  refine ⟨bx_narP_ok (l := []) g.1, ?_⟩
  show rxPSKND S0 ws S_p (some (bx_num r_p (.inr (0, (0, (-1))))))
  rw [bx_xv_ok h0_]
  exact g.2
theorem rxdKND_0_10 {S0 : Nat → Int → Int} {ws : List Int} {S : Nat → Int → Int} {pa st cu wh x12 x13 : Int} (hP : rxPKND S0 ws) (hin : bx_same rxL (bx_mdl rxC165.2.2.1) S0 S) (hin2 : bx_same rxL (bx_mdl rxC165.2.2.1) S S) (I0 : bx_Inv rxL S) (I1 : bx_Inv rxL S) (hinv : rxIKND_0 S0 ws S pa st cu wh) (l8 : 0 ≤ pa) (u8 : pa ≤ 11) (l9 : 0 ≤ st) (u9 : st ≤ 5) (l10 : (-2147483648) ≤ cu) (u10 : cu ≤ (-1)) (l11 : 0 ≤ wh) (u11 : wh ≤ 0) (l12 : 1 ≤ x12) (u12 : x12 ≤ 12) (l13 : 0 ≤ x13) (u13 : x13 ≤ 1522) (f0 : pa < x12) (e1 : S 1 5 = x12) (e0 : S 12 pa = x13) : (True) ∧ rxPSKND S0 ws S (some ((-1))) := by
  obtain ⟨rfl, hw⟩ := hinv
  exact ⟨trivial, pa, st, cu, wh, hw, Or.inl ⟨by omega, rfl⟩⟩
theorem rxfKND_0_10 {X : (Nat → Int → Int) → Prop} {S0 : Nat → Int → Int} {ws : List Int} (hP : rxPKND S0 ws) : bx_obE rxL X S0 rxC165.2.2.1 (rxIKND S0 ws) (rxPSKND S0 ws) 0 rxzKND_0 rxeKND_0_10 := by
  intro S S_p r r_p hinv hX hin hsm_ hseg
  obtain ⟨I0, I1, h0_, hr_, b_, f_, d_⟩ := bx_cl (evs := [(0, (0, 12), (8, 0), .inr (3, (13, 0))), (0, (0, 1), (0, 5), .inr (0, (12, 0)))]) (fvs := [(0, (8, 0), (12, 0), (0, 0))]) hseg (by decide +kernel) (by decide +kernel)
  have hinv : rxIKND_0 S0 ws S (r 8) (r 9) (r 10) (r 11) := hinv
  rw [← hr_ 8 (by decide), ← hr_ 9 (by decide), ← hr_ 10 (by decide), ← hr_ 11 (by decide)] at hinv
  obtain ⟨⟨l8, u8⟩, ⟨l9, u9⟩, ⟨l10, u10⟩, ⟨l11, u11⟩, ⟨l12, u12⟩, ⟨l13, u13⟩, -⟩ := b_
  obtain ⟨f0, -⟩ := f_
  obtain ⟨e0, ⟨e1, w_⟩⟩ := d_
  subst w_
  have g := rxdKND_0_10 hP hin hsm_ I0 I1 hinv l8 u8 l9 u9 l10 u10 l11 u11 l12 u12 l13 u13 f0 e1 e0
  refine ⟨bx_narP_ok (l := []) g.1, ?_⟩
  show rxPSKND S0 ws S_p (some (bx_num r_p (.inr (0, (0, (-1))))))
  rw [bx_xv_ok h0_]
  exact g.2
theorem rxdKND_0_11 {S0 : Nat → Int → Int} {ws : List Int} {S : Nat → Int → Int} {pa st cu wh x12 x13 : Int} (hP : rxPKND S0 ws) (hin : bx_same rxL (bx_mdl rxC165.2.2.1) S0 S) (hin2 : bx_same rxL (bx_mdl rxC165.2.2.1) S S) (I0 : bx_Inv rxL S) (I1 : bx_Inv rxL S) (hinv : rxIKND_0 S0 ws S pa st cu wh) (l8 : 0 ≤ pa) (u8 : pa ≤ 11) (l9 : 0 ≤ st) (u9 : st ≤ 5) (l10 : 6 ≤ cu) (u10 : cu ≤ 2147483647) (l11 : 0 ≤ wh) (u11 : wh ≤ 0) (l12 : 1 ≤ x12) (u12 : x12 ≤ 12) (l13 : 0 ≤ x13) (u13 : x13 ≤ 1522) (f0 : pa < x12) (e1 : S 1 5 = x12) (e0 : S 12 pa = x13) : (True) ∧ rxPSKND S0 ws S (some ((-1))) := by
  obtain ⟨rfl, hw⟩ := hinv
  exact ⟨trivial, pa, st, cu, wh, hw, Or.inl ⟨by omega, rfl⟩⟩
theorem rxfKND_0_11 {X : (Nat → Int → Int) → Prop} {S0 : Nat → Int → Int} {ws : List Int} (hP : rxPKND S0 ws) : bx_obE rxL X S0 rxC165.2.2.1 (rxIKND S0 ws) (rxPSKND S0 ws) 0 rxzKND_0 rxeKND_0_11 := by
  intro S S_p r r_p hinv hX hin hsm_ hseg
  obtain ⟨I0, I1, h0_, hr_, b_, f_, d_⟩ := bx_cl (evs := [(0, (0, 12), (8, 0), .inr (3, (13, 0))), (0, (0, 1), (0, 5), .inr (0, (12, 0)))]) (fvs := [(0, (8, 0), (12, 0), (0, 0))]) hseg (by decide +kernel) (by decide +kernel)
  have hinv : rxIKND_0 S0 ws S (r 8) (r 9) (r 10) (r 11) := hinv
  rw [← hr_ 8 (by decide), ← hr_ 9 (by decide), ← hr_ 10 (by decide), ← hr_ 11 (by decide)] at hinv
  obtain ⟨⟨l8, u8⟩, ⟨l9, u9⟩, ⟨l10, u10⟩, ⟨l11, u11⟩, ⟨l12, u12⟩, ⟨l13, u13⟩, -⟩ := b_
  obtain ⟨f0, -⟩ := f_
  obtain ⟨e0, ⟨e1, w_⟩⟩ := d_
  subst w_
  have g := rxdKND_0_11 hP hin hsm_ I0 I1 hinv l8 u8 l9 u9 l10 u10 l11 u11 l12 u12 l13 u13 f0 e1 e0
  refine ⟨bx_narP_ok (l := []) g.1, ?_⟩
  show rxPSKND S0 ws S_p (some (bx_num r_p (.inr (0, (0, (-1))))))
  rw [bx_xv_ok h0_]
  exact g.2
theorem rxdKND_0_12 {S0 : Nat → Int → Int} {ws : List Int} {S : Nat → Int → Int} {pa st cu wh x12 x13 x14 x15 x16 x17 : Int} (hP : rxPKND S0 ws) (hin : bx_same rxL (bx_mdl rxC165.2.2.1) S0 S) (hin2 : bx_same rxL (bx_mdl rxC165.2.2.1) S S) (I0 : bx_Inv rxL S) (I1 : bx_Inv rxL S) (hinv : rxIKND_0 S0 ws S pa st cu wh) (l8 : 0 ≤ pa) (u8 : pa ≤ 11) (l9 : 0 ≤ st) (u9 : st ≤ 5) (l10 : 0 ≤ cu) (u10 : cu ≤ 5) (l11 : 0 ≤ wh) (u11 : wh ≤ 0) (l12 : 1 ≤ x12) (u12 : x12 ≤ 12) (l13 : 0 ≤ x13) (u13 : x13 ≤ 1522) (l14 : 0 ≤ x14) (u14 : x14 ≤ 1522) (l15 : 0 ≤ x15) (u15 : x15 ≤ 30) (l16 : 0 ≤ x16) (u16 : x16 ≤ 35) (l17 : (-1) ≤ x17) (u17 : x17 ≤ 9) (f0 : x16 = x15 + cu) (f1 : x15 = 6 * (st)) (f2 : pa < x12) (e3 : S 1 5 = x12) (e2 : S 12 pa = x13) (e1 : S (x13).toNat 0 = x14) (e0 : S (x14).toNat x16 = x17) : (True) ∧ rxPSKND S0 ws S (some x17) := by
  obtain ⟨rfl, hw⟩ := hinv
  have hpl : rkPl S := hP
  obtain ⟨z4, -⟩ := hpl.2.1.2 pa.toNat (by omega)
  rw [Int.toNat_of_nonneg (show 0 ≤ pa by omega)] at z4
  obtain ⟨z0, z1⟩ := rjd_px hpl (a := 6 + pa) (by omega) (by omega)
  rw [show 23 + 3 * (6 + pa) = 41 + 3 * pa by omega] at z0 z1
  have a0 : x13 = 41 + 3 * pa := e2.symm.trans (z4.trans (by omega))
  subst a0
  have a1 : x14 = 42 + 3 * pa := e1.symm.trans (z0.trans (by omega))
  subst a1
  have a2 : x16 = 6 * st + cu := by omega
  subst a2
  exact ⟨trivial, pa, st, cu, wh, hw, Or.inr (Or.inl ⟨⟨by omega, by omega, by omega, by omega, by omega, by omega⟩, by omega, congrArg some e0.symm⟩)⟩
theorem rxfKND_0_12 {X : (Nat → Int → Int) → Prop} {S0 : Nat → Int → Int} {ws : List Int} (hP : rxPKND S0 ws) : bx_obE rxL X S0 rxC165.2.2.1 (rxIKND S0 ws) (rxPSKND S0 ws) 0 rxzKND_0 rxeKND_0_12 := by
  intro S S_p r r_p hinv hX hin hsm_ hseg
  obtain ⟨I0, I1, h0_, hr_, b_, f_, d_⟩ := bx_cl (evs := [(0, (14, 0), (16, 0), .inr (0, (17, 0))), (0, (13, 0), (0, 0), .inr (3, (14, 0))), (0, (0, 12), (8, 0), .inr (3, (13, 0))), (0, (0, 1), (0, 5), .inr (0, (12, 0)))]) (fvs := [(5, (16, 0), (15, 0), (10, 0)), (4, (15, 0), (9, 0), (0, 6)), (0, (8, 0), (12, 0), (0, 0))]) hseg (by decide +kernel) (by decide +kernel)
  have hinv : rxIKND_0 S0 ws S (r 8) (r 9) (r 10) (r 11) := hinv
  rw [← hr_ 8 (by decide), ← hr_ 9 (by decide), ← hr_ 10 (by decide), ← hr_ 11 (by decide)] at hinv
  obtain ⟨⟨l8, u8⟩, ⟨l9, u9⟩, ⟨l10, u10⟩, ⟨l11, u11⟩, ⟨l12, u12⟩, ⟨l13, u13⟩, ⟨l14, u14⟩, ⟨l15, u15⟩, ⟨l16, u16⟩, ⟨l17, u17⟩, -⟩ := b_
  obtain ⟨f0, f1, f2, -⟩ := f_
  obtain ⟨e0, ⟨e1, ⟨e2, ⟨e3, w_⟩⟩⟩⟩ := d_
  subst w_
  have g := rxdKND_0_12 hP hin hsm_ I0 I1 hinv l8 u8 l9 u9 l10 u10 l11 u11 l12 u12 l13 u13 l14 u14 l15 u15 l16 u16 l17 u17 f0 f1 f2 e3 e2 e1 e0
  refine ⟨bx_narP_ok (l := []) g.1, ?_⟩
  show rxPSKND S0 ws S_p (some (bx_num r_p (.inr (0, (17, 0)))))
  rw [bx_xv_ok h0_]
  exact g.2
theorem rxgCKND {X : (Nat → Int → Int) → Prop} {S0 : Nat → Int → Int} {ws : List Int} (hP : rxPKND S0 ws) : bx_allI (fun i q => rxUKND q = true ∨ bx_allP (fun o => bx_obC rxL X S0 rxC165.2.2.1 (rxIKND S0 ws) (rxmKND S0 ws) i q.1 o) q.2.1) 0 rxYKND := ⟨Or.inr trivial, trivial⟩
theorem rxgEKND {X : (Nat → Int → Int) → Prop} {S0 : Nat → Int → Int} {ws : List Int} (hP : rxPKND S0 ws) : bx_allI (fun i q => rxUKND q = true ∨ bx_allP (fun E => bx_obE rxL X S0 rxC165.2.2.1 (rxIKND S0 ws) (rxPSKND S0 ws) i q.1 E) q.2.2) 0 rxYKND := ⟨Or.inr ⟨rxfKND_0_0 hP, rxfKND_0_1 hP, rxfKND_0_2 hP, rxfKND_0_3 hP, rxfKND_0_4 hP, rxfKND_0_5 hP, rxfKND_0_6 hP, rxfKND_0_7 hP, rxfKND_0_8 hP, rxfKND_0_9 hP, rxfKND_0_10 hP, rxfKND_0_11 hP, rxfKND_0_12 hP, trivial⟩, trivial⟩
theorem rxQKND {PX : State → Prop} {Dg : va_G} {A : Nat → Prop} {ad xa : Nat → Nat} {l : Launch} {X : (Nat → Int → Int) → Prop} (hPX : rx_PXOK rxNW A PX) (hsl : ∀ s : State, PX s → ∀ o idx n : Nat, rxSl o idx = some n → ∃ tx : String, vk_R (rxNm o) idx tx (ad n) s)
    (hX : ∀ S S_p : Nat → Int → Int, X S → bx_same rxL (bx_mdl rxC165.2.2.1) S S_p → X S_p)
    (ih : ∀ (j2 : Nat) (ct2 : bx_Ct) (M2 : rx_Mt), ct2 ∈ rxCnE j2 → ct2.2.2.2.1 + 1 ≤ rxC165.2.2.2.1 → rxT.2.2.2.2.2 j2 = some M2 → bx_Con rxG rxNW rxAO PX Dg rxL X vwCl A ad l M2 ct2) : bx_ConP rxG rxNW rxAO PX Dg rxL X vwCl A ad l rxM165 rxC165 rxPKND rxPSKND :=
  rxQof (xa := xa) (Cn := rxCnE) (f := 30000) (j := 165) (tab := rxYKND) (us := rxUKND) hPX hsl hX ih rfl rxYcKND rxIKND rxmKND
    (fun S0 ws r I0 I ht0 ht as he he1 hX0 hI0 hP hs ha => by
      have e := he.symm.trans (show bx_ent0 rxNP rxC165.1 bx_I0 [] = some ([(0, 0), (0, 0), (0, 0), (0, 0), (0, 0), (0, 0), (0, 0), (0, 0), ((-2147483648), 2147483647), ((-2147483648), 2147483647), ((-2147483648), 2147483647), ((-2147483648), 2147483647)], [], [.inr (3, (0, 0)), .inr (0, (8, 0)), .inr (0, (9, 0)), .inr (0, (10, 0)), .inr (0, (11, 0))]) from rfl)
      cases e
      subst ha
      have h0 : r 0 = 0 := hs.1
      show rxIKND_0 S0 _ S0 (r 8) (r 9) (r 10) (r 11)
      refine ⟨rfl, ?_⟩
      simp only [List.map_cons, List.map_nil, bx_xv_ok h0]
      rfl)
    (fun S0 ws hP => fun i q hq hus => absurd (show false = true from hus) Bool.false_ne_true) (fun S0 ws hP => rxgCKND hP) (fun S0 ws hP => rxgEKND hP)
/-! CONTRACT BY HAND, by program (wip/sim/genhand.py): DeadUnderstudiesModel.knows -/
def rxIKNR_0 (S0 : Nat → Int → Int) (ws : List Int) (S : Nat → Int → Int) (pa st cu wh : Int) : Prop := S = S0 ∧ ws = [480, pa, st, cu, wh]
def rxmKNR_0 (S0 : Nat → Int → Int) (ws : List Int) (S : Nat → Int → Int) (pa st cu wh : Int) : Nat := 100
def rxzKNR_0 : rx_Z := ([(0, 0), (0, 0), (0, 0), (0, 0), (0, 0), (0, 0), (0, 0), (0, 0), ((-2147483648), 2147483647), ((-2147483648), 2147483647), ((-2147483648), 2147483647), ((-2147483648), 2147483647)], [], [], 0, 0, 0, [(0, .inr (3, (0, 480))), (1, .inr (0, (8, 0))), (2, .inr (0, (9, 0))), (3, .inr (0, (10, 0))), (4, .inr (0, (11, 0)))], [])
def rxIKNR_1 (S0 : Nat → Int → Int) (ws : List Int) (S : Nat → Int → Int) (pa st cu wh r : Int) : Prop := ws = [480, pa, st, cu, wh] ∧ pa < S0 482 2 ∧ r = S0 482 (298 + 36 * pa + (6 * st + cu))
def rxmKNR_1 (S0 : Nat → Int → Int) (ws : List Int) (S : Nat → Int → Int) (pa st cu wh r : Int) : Nat := 90
def rxzKNR_1 : rx_Z := ([(0, 0), (0, 0), (0, 0), (0, 0), (0, 0), (0, 0), (0, 0), (0, 0), (0, 11), (0, 5), (0, 5), (0, 1), ((-1), 59)], [], [], 0, 0, 45, [(0, .inr (3, (0, 480))), (1, .inr (0, (8, 0))), (2, .inr (0, (9, 0))), (3, .inr (0, (10, 0))), (4, .inr (0, (11, 0)))], [.inr (0, (11, 0)), .inr (0, (12, 0))])
def rxIKNR_2 (S0 : Nat → Int → Int) (ws : List Int) (S : Nat → Int → Int) (pa st cu wh r an : Int) : Prop := ws = [480, pa, st, cu, wh] ∧ pa < S0 482 2 ∧ r = S0 482 (298 + 36 * pa + (6 * st + cu)) ∧ an = (if wh = 0 then rjWo r else rjNx r)
def rxmKNR_2 (S0 : Nat → Int → Int) (ws : List Int) (S : Nat → Int → Int) (pa st cu wh r an : Int) : Nat := 80
def rxzKNR_2 : rx_Z := ([(0, 0), (0, 0), (0, 0), (0, 0), (0, 0), (0, 0), (0, 0), (0, 0), (0, 11), (0, 5), (0, 5), (0, 1), ((-1), 59), ((-1), 9)], [], [], 0, 0, 48, [(0, .inr (3, (0, 480))), (1, .inr (0, (8, 0))), (2, .inr (0, (9, 0))), (3, .inr (0, (10, 0))), (4, .inr (0, (11, 0)))], [.inr (0, (13, 0))])
def rxoKNR_0_0 : bx_HO := (([(0, 0), (0, 0), (0, 0), (0, 0), (0, 0), (0, 0), (0, 0), (0, 0), (0, 11), (0, 5), (0, 5), (0, 1), (1, 12), (0, 30), (0, 35), (0, 396), (298, 729), ((-1), 59)], [(604462909807314587353102000000, (16, 0), (15, 298)), (40, (15, 0), (8, 0)), (604462909807314587353098000000, (14, 0), (13, 0)), (10, (13, 0), (9, 0)), (1, (8, 0), (12, (-1)))], [(((0, 0), 1851192626986356797424389331037855933249756740969513352460107776000000), .inr (0, (17, 0))), (((0, 0), 1851192626986356797825753743950570534658660943933713684945305600000000), .inr (0, (12, 0))), (((0, 482), 2), .inr (0, (12, 0))), (((0, 480), 3), .inr (3, (0, 482))), (((0, 0), 1851192626986356797424340330377019318111018015026043177836478467000000), .inr (0, (0, 0))), (((0, 480), 0), .inr (0, (0, 0)))], 0, 0, 45, [(0, .inr (3, (0, 480))), (1, .inr (0, (8, 0))), (2, .inr (0, (9, 0))), (3, .inr (0, (10, 0))), (4, .inr (0, (11, 0)))], [.inr (0, (11, 0)), .inr (0, (17, 0))]), [], [], [(0, 0), (0, 0), (0, 0), (0, 0), (0, 0), (0, 0), (0, 0), (0, 0), (8, 0), (9, 0), (10, 0), (11, 0), (17, 0)], 1)
def rxeKNR_0_0 : rx_End × List (Nat × Int × Int) := (([(0, 0), (0, 0), (0, 0), (0, 0), (0, 0), (0, 0), (0, 0), (0, 0), (0, 11), (0, 5), (0, 5), ((-2147483648), (-1)), (1, 12)], [(1, (8, 0), (12, (-1)))], [(((0, 0), 1851192626986356797825753743950570534658660943933713684945305600000000), .inr (0, (12, 0))), (((0, 482), 2), .inr (0, (12, 0))), (((0, 480), 3), .inr (3, (0, 482))), (((0, 0), 1851192626986356797424340330377019318111018015026043177836478467000000), .inr (0, (0, 0))), (((0, 480), 0), .inr (0, (0, 0)))], some (.inr (0, (0, (-1))))), [])
def rxeKNR_0_1 : rx_End × List (Nat × Int × Int) := (([(0, 0), (0, 0), (0, 0), (0, 0), (0, 0), (0, 0), (0, 0), (0, 0), (0, 11), (0, 5), (0, 5), (2, 2147483647), (1, 12)], [(1, (8, 0), (12, (-1)))], [(((0, 0), 1851192626986356797825753743950570534658660943933713684945305600000000), .inr (0, (12, 0))), (((0, 482), 2), .inr (0, (12, 0))), (((0, 480), 3), .inr (3, (0, 482))), (((0, 0), 1851192626986356797424340330377019318111018015026043177836478467000000), .inr (0, (0, 0))), (((0, 480), 0), .inr (0, (0, 0)))], some (.inr (0, (0, (-1))))), [])
def rxeKNR_0_2 : rx_End × List (Nat × Int × Int) := (([(0, 0), (0, 0), (0, 0), (0, 0), (0, 0), (0, 0), (0, 0), (0, 0), (0, 11), (0, 5), (6, 2147483647), ((-2147483648), 2147483647), (1, 12)], [(1, (8, 0), (12, (-1)))], [(((0, 0), 1851192626986356797825753743950570534658660943933713684945305600000000), .inr (0, (12, 0))), (((0, 482), 2), .inr (0, (12, 0))), (((0, 480), 3), .inr (3, (0, 482))), (((0, 0), 1851192626986356797424340330377019318111018015026043177836478467000000), .inr (0, (0, 0))), (((0, 480), 0), .inr (0, (0, 0)))], some (.inr (0, (0, (-1))))), [])
def rxeKNR_0_3 : rx_End × List (Nat × Int × Int) := (([(0, 0), (0, 0), (0, 0), (0, 0), (0, 0), (0, 0), (0, 0), (0, 0), (0, 11), (0, 5), ((-2147483648), (-1)), ((-2147483648), 2147483647), (1, 12)], [(1, (8, 0), (12, (-1)))], [(((0, 0), 1851192626986356797825753743950570534658660943933713684945305600000000), .inr (0, (12, 0))), (((0, 482), 2), .inr (0, (12, 0))), (((0, 480), 3), .inr (3, (0, 482))), (((0, 0), 1851192626986356797424340330377019318111018015026043177836478467000000), .inr (0, (0, 0))), (((0, 480), 0), .inr (0, (0, 0)))], some (.inr (0, (0, (-1))))), [])
def rxeKNR_0_4 : rx_End × List (Nat × Int × Int) := (([(0, 0), (0, 0), (0, 0), (0, 0), (0, 0), (0, 0), (0, 0), (0, 0), (0, 11), (6, 2147483647), ((-2147483648), 2147483647), ((-2147483648), 2147483647), (1, 12)], [(1, (8, 0), (12, (-1)))], [(((0, 0), 1851192626986356797825753743950570534658660943933713684945305600000000), .inr (0, (12, 0))), (((0, 482), 2), .inr (0, (12, 0))), (((0, 480), 3), .inr (3, (0, 482))), (((0, 0), 1851192626986356797424340330377019318111018015026043177836478467000000), .inr (0, (0, 0))), (((0, 480), 0), .inr (0, (0, 0)))], some (.inr (0, (0, (-1))))), [])
def rxeKNR_0_5 : rx_End × List (Nat × Int × Int) := (([(0, 0), (0, 0), (0, 0), (0, 0), (0, 0), (0, 0), (0, 0), (0, 0), (0, 11), ((-2147483648), (-1)), ((-2147483648), 2147483647), ((-2147483648), 2147483647), (1, 12)], [(1, (8, 0), (12, (-1)))], [(((0, 0), 1851192626986356797825753743950570534658660943933713684945305600000000), .inr (0, (12, 0))), (((0, 482), 2), .inr (0, (12, 0))), (((0, 480), 3), .inr (3, (0, 482))), (((0, 0), 1851192626986356797424340330377019318111018015026043177836478467000000), .inr (0, (0, 0))), (((0, 480), 0), .inr (0, (0, 0)))], some (.inr (0, (0, (-1))))), [])
def rxeKNR_0_6 : rx_End × List (Nat × Int × Int) := (([(0, 0), (0, 0), (0, 0), (0, 0), (0, 0), (0, 0), (0, 0), (0, 0), (0, 2147483647), ((-2147483648), 2147483647), ((-2147483648), 2147483647), ((-2147483648), 2147483647), (0, 12)], [(0, (12, (-1)), (8, 0))], [(((0, 0), 1851192626986356797825753743950570534658660943933713684945305600000000), .inr (0, (12, 0))), (((0, 482), 2), .inr (0, (12, 0))), (((0, 480), 3), .inr (3, (0, 482))), (((0, 0), 1851192626986356797424340330377019318111018015026043177836478467000000), .inr (0, (0, 0))), (((0, 480), 0), .inr (0, (0, 0)))], some (.inr (0, (0, (-1))))), [])
def rxeKNR_0_7 : rx_End × List (Nat × Int × Int) := (([(0, 0), (0, 0), (0, 0), (0, 0), (0, 0), (0, 0), (0, 0), (0, 0), ((-2147483648), (-1)), ((-2147483648), 2147483647), ((-2147483648), 2147483647), ((-2147483648), 2147483647), (0, 12)], [], [(((0, 0), 1851192626986356797825753743950570534658660943933713684945305600000000), .inr (0, (12, 0))), (((0, 482), 2), .inr (0, (12, 0))), (((0, 480), 3), .inr (3, (0, 482))), (((0, 0), 1851192626986356797424340330377019318111018015026043177836478467000000), .inr (0, (0, 0))), (((0, 480), 0), .inr (0, (0, 0)))], some (.inr (0, (0, (-1))))), [])
def rxeKNR_2_0 : rx_End × List (Nat × Int × Int) := (([(0, 0), (0, 0), (0, 0), (0, 0), (0, 0), (0, 0), (0, 0), (0, 0), (0, 11), (0, 5), (0, 5), (0, 1), ((-1), 59), ((-1), 9)], [], [], some (.inr (0, (13, 0)))), [])
def rxYKNR : List bx_HE := [(rxzKNR_0, [rxoKNR_0_0], [rxeKNR_0_0, rxeKNR_0_1, rxeKNR_0_2, rxeKNR_0_3, rxeKNR_0_4, rxeKNR_0_5, rxeKNR_0_6, rxeKNR_0_7]), (rxzKNR_1, [], []), (rxzKNR_2, [], [rxeKNR_2_0])]
def rxUKNR (q : bx_HE) : Bool := Nat.beq (rx_zpc q.1) 45
def rxYBKNR : bx_B := (rxV, rxNP, rxDmf, bx_mdH rxC166.2.2.1)
set_option maxRecDepth 100000 in
theorem rxYcKNR : bx_chkH rxYBKNR rxM166 rxC166 rxYKNR (rxUKNR, fun cut z => rx_ex2 (rxCT rxYBKNR rxCnE) cut 30000 rxC166.2.2.2.1 166 z) = true := by decide +kernel
def rxIKNR (S0 : Nat → Int → Int) (ws : List Int) (i : Nat) : bx_SP := fun S r => match i with | 0 => rxIKNR_0 S0 ws S (r 8) (r 9) (r 10) (r 11) | 1 => rxIKNR_1 S0 ws S (r 8) (r 9) (r 10) (r 11) (r 12) | 2 => rxIKNR_2 S0 ws S (r 8) (r 9) (r 10) (r 11) (r 12) (r 13) | _ => False
def rxmKNR (S0 : Nat → Int → Int) (ws : List Int) (i : Nat) (S : Nat → Int → Int) (r : Nat → Int) : Nat := match i with | 0 => rxmKNR_0 S0 ws S (r 8) (r 9) (r 10) (r 11) | 1 => rxmKNR_1 S0 ws S (r 8) (r 9) (r 10) (r 11) (r 12) | 2 => rxmKNR_2 S0 ws S (r 8) (r 9) (r 10) (r 11) (r 12) (r 13) | _ => 0
def rxPKNR (S0 : Nat → Int → Int) (ws : List Int) : Prop := True
def rxPSKNR (S0 : Nat → Int → Int) (ws : List Int) (S : Nat → Int → Int) (w : Option Int) : Prop := ∃ pa st cu wh : Int, ws = [480, pa, st, cu, wh] ∧ (((pa < 0 ∨ S0 482 2 ≤ pa ∨ st < 0 ∨ 5 < st ∨ cu < 0 ∨ 5 < cu ∨ wh < 0 ∨ 1 < wh) ∧ w = some (-1)) ∨ ((0 ≤ pa ∧ pa < S0 482 2 ∧ 0 ≤ st ∧ st ≤ 5 ∧ 0 ≤ cu ∧ cu ≤ 5) ∧ wh = 0 ∧ w = some (rjWo (S0 482 (298 + 36 * pa + (6 * st + cu))))) ∨ ((0 ≤ pa ∧ pa < S0 482 2 ∧ 0 ≤ st ∧ st ≤ 5 ∧ 0 ≤ cu ∧ cu ≤ 5) ∧ wh = 1 ∧ w = some (rjNx (S0 482 (298 + 36 * pa + (6 * st + cu))))))
theorem rxkKNR_1 {S0 : Nat → Int → Int} {ws : List Int} {S : Nat → Int → Int} {pa st cu wh r : Int} (hP : rxPKNR S0 ws) (hin : bx_same rxL (bx_mdl rxC166.2.2.1) S0 S) (I0 : bx_Inv rxL S) (hinv : rxIKNR_1 S0 ws S pa st cu wh r) (l8 : 0 ≤ pa) (u8 : pa ≤ 11) (l9 : 0 ≤ st) (u9 : st ≤ 5) (l10 : 0 ≤ cu) (u10 : cu ≤ 5) (l11 : 0 ≤ wh) (u11 : wh ≤ 1) (l12 : (-1) ≤ r) (u12 : r ≤ 59) : rxPOFL S [r, wh] ∧ ∀ (S_p : Nat → Int → Int) (an : Int), (-1) ≤ an → an ≤ 9 → rxPSOFL S [r, wh] S_p (some an) → bx_Inv rxL S_p → bx_same rxL (bx_mdl rxCOFL.2.2.1) S S_p → rxIKNR_2 S0 ws S_p pa st cu wh r an ∧ rxmKNR_2 S0 ws S_p pa st cu wh r an < rxmKNR_1 S0 ws S pa st cu wh r := by
  obtain ⟨hw, hp, hr⟩ := hinv
  refine ⟨trivial, fun S_p an _ _ hq _ hsm => ⟨⟨hw, hp, hr, ?_⟩, by unfold rxmKNR_1 rxmKNR_2; omega⟩⟩
  obtain ⟨hS, r2, q2, hw3, ha⟩ := hq
  have k1 : r = r2 := Option.some.inj (congrArg (fun l : List Int => l[0]?) hw3)
  have k2 : wh = q2 := Option.some.inj (congrArg (fun l : List Int => l[1]?) hw3)
  subst k1
  subst k2
  exact Option.some.inj ha
theorem rxsKNR_1 {X : (Nat → Int → Int) → Prop} {S0 : Nat → Int → Int} {ws : List Int} (hP : rxPKNR S0 ws) : rx_obK X S0 rxC166.2.2.1 rxCOFL.2.2.1 (rxIKNR S0 ws) (rxmKNR S0 ws) 1 2 rxzKNR_1 rxzKNR_2 [.inr (0, (12, 0)), .inr (0, (11, 0))] (some 13) rxPOFL rxPSOFL := by
  intro S r hinv hXS I0 hin hs_ hf_
  have b_ := bx_bds_sat hs_
  have f_ := bx_fcl_ok hs_.1 hf_
  obtain ⟨⟨l8, u8⟩, ⟨l9, u9⟩, ⟨l10, u10⟩, ⟨l11, u11⟩, ⟨l12, u12⟩, -⟩ := b_
  have g := rxkKNR_1 hP hin I0 hinv l8 u8 l9 u9 l10 u10 l11 u11 l12 u12
  have ea : List.map (bx_num r) [.inr (0, (12, 0)), .inr (0, (11, 0))] = [(r 12), (r 11)] := by
    simp only [List.map_cons, List.map_nil, bx_xv_ok hs_.1]
    rfl
  rw [ea]
  refine ⟨g.1, fun S_p w r_p hPS hX_p I1 hsm hr hw hs_p => ?_⟩
  have hw := hw _ rfl
  subst hw
  have b_p := hs_p.2.2 13 _ _ rfl
  have g2 := g.2 S_p (r_p 13) b_p.1 b_p.2 hPS I1 hsm
  show rxIKNR_2 S0 ws S_p (r_p 8) (r_p 9) (r_p 10) (r_p 11) (r_p 12) (r_p 13) ∧ rxmKNR_2 S0 ws S_p (r_p 8) (r_p 9) (r_p 10) (r_p 11) (r_p 12) (r_p 13) < _
  rw [hr 8 (by decide), hr 9 (by decide), hr 10 (by decide), hr 11 (by decide), hr 12 (by decide)]
  exact g2
theorem rxcKNR_0_0 {S0 : Nat → Int → Int} {ws : List Int} {S : Nat → Int → Int} {pa st cu wh x12 x13 x14 x15 x16 x17 : Int} (hP : rxPKNR S0 ws) (hin : bx_same rxL (bx_mdl rxC166.2.2.1) S0 S) (I0 : bx_Inv rxL S) (hinv : rxIKNR_0 S0 ws S pa st cu wh) (l8 : 0 ≤ pa) (u8 : pa ≤ 11) (l9 : 0 ≤ st) (u9 : st ≤ 5) (l10 : 0 ≤ cu) (u10 : cu ≤ 5) (l11 : 0 ≤ wh) (u11 : wh ≤ 1) (l12 : 1 ≤ x12) (u12 : x12 ≤ 12) (l13 : 0 ≤ x13) (u13 : x13 ≤ 30) (l14 : 0 ≤ x14) (u14 : x14 ≤ 35) (l15 : 0 ≤ x15) (u15 : x15 ≤ 396) (l16 : 298 ≤ x16) (u16 : x16 ≤ 729) (l17 : (-1) ≤ x17) (u17 : x17 ≤ 59) (f0 : x16 = x15 + 298 + x14) (f1 : x15 = 36 * (pa)) (f2 : x14 = x13 + cu) (f3 : x13 = 6 * (st)) (f4 : pa ≤ x12 + (-1)) (e1 : (bx_up S 480 0 0) 482 2 = x12) (e0 : (bx_up S 480 0 0) 482 x16 = x17) : (True) ∧ (True) ∧ rxIKNR_1 S0 ws (bx_up S 480 0 0) pa st cu wh x17 ∧ rxmKNR_1 S0 ws (bx_up S 480 0 0) pa st cu wh x17 < rxmKNR_0 S0 ws S pa st cu wh := by
  obtain ⟨rfl, hw⟩ := hinv
  have qe1 := e1
  rw [bx_up_ne (by omega)] at qe1
  have qe0 := e0
  rw [bx_up_ne (by omega)] at qe0
  have ix : x16 = 298 + 36 * pa + (6 * st + cu) := by omega
  rw [ix] at qe0
  exact ⟨trivial, trivial, ⟨hw, by omega, qe0.symm⟩, by unfold rxmKNR_0 rxmKNR_1; omega⟩
theorem rxgKNR_0_0 {X : (Nat → Int → Int) → Prop} {S0 : Nat → Int → Int} {ws : List Int} (hP : rxPKNR S0 ws) : bx_obC rxL X S0 rxC166.2.2.1 (rxIKNR S0 ws) (rxmKNR S0 ws) 0 rxzKNR_0 rxoKNR_0_0 := by
  intro S S_p r r_p hinv hX hin hsm_ hseg
  obtain ⟨I0, I1, h0_, hr_, b_, f_, d_⟩ := bx_cl (evs := [(0, (0, 482), (16, 0), .inr (0, (17, 0))), (0, (0, 482), (0, 2), .inr (0, (12, 0))), (1, (0, 480), (0, 0), .inr (0, (0, 0)))]) (fvs := [(5, (16, 0), (15, 298), (14, 0)), (4, (15, 0), (8, 0), (0, 36)), (5, (14, 0), (13, 0), (10, 0)), (4, (13, 0), (9, 0), (0, 6)), (1, (8, 0), (12, (-1)), (0, 0))]) hseg (by decide +kernel) (by decide +kernel)
  have hinv : rxIKNR_0 S0 ws S (r 8) (r 9) (r 10) (r 11) := hinv
  rw [← hr_ 8 (by decide), ← hr_ 9 (by decide), ← hr_ 10 (by decide), ← hr_ 11 (by decide)] at hinv
  obtain ⟨⟨l8, u8⟩, ⟨l9, u9⟩, ⟨l10, u10⟩, ⟨l11, u11⟩, ⟨l12, u12⟩, ⟨l13, u13⟩, ⟨l14, u14⟩, ⟨l15, u15⟩, ⟨l16, u16⟩, ⟨l17, u17⟩, -⟩ := b_
  obtain ⟨f0, f1, f2, f3, f4, -⟩ := f_
  obtain ⟨e0, ⟨e1, ⟨T2, w_, w2⟩⟩⟩ := d_
  subst w2
  subst w_
  have g := rxcKNR_0_0 hP hin I0 hinv l8 u8 l9 u9 l10 u10 l11 u11 l12 u12 l13 u13 l14 u14 l15 u15 l16 u16 l17 u17 f0 f1 f2 f3 f4 e1 e0
  refine ⟨bx_narP_ok (l := []) g.1, bx_nfP_ok h0_ (fvs := []) (by decide +kernel) g.2.1, ?_, ?_⟩
  · show rxIKNR_1 S0 ws (bx_up T2 480 (0) (0)) (bx_val [(0, 0), (0, 0), (0, 0), (0, 0), (0, 0), (0, 0), (0, 0), (0, 0), (8, 0), (9, 0), (10, 0), (11, 0), (17, 0)] r_p 8) (bx_val [(0, 0), (0, 0), (0, 0), (0, 0), (0, 0), (0, 0), (0, 0), (0, 0), (8, 0), (9, 0), (10, 0), (11, 0), (17, 0)] r_p 9) (bx_val [(0, 0), (0, 0), (0, 0), (0, 0), (0, 0), (0, 0), (0, 0), (0, 0), (8, 0), (9, 0), (10, 0), (11, 0), (17, 0)] r_p 10) (bx_val [(0, 0), (0, 0), (0, 0), (0, 0), (0, 0), (0, 0), (0, 0), (0, 0), (8, 0), (9, 0), (10, 0), (11, 0), (17, 0)] r_p 11) (bx_val [(0, 0), (0, 0), (0, 0), (0, 0), (0, 0), (0, 0), (0, 0), (0, 0), (8, 0), (9, 0), (10, 0), (11, 0), (17, 0)] r_p 12)
    rw [bx_val_x (n := 8) (e := (8, 0)) h0_ rfl, bx_val_x (n := 9) (e := (9, 0)) h0_ rfl, bx_val_x (n := 10) (e := (10, 0)) h0_ rfl, bx_val_x (n := 11) (e := (11, 0)) h0_ rfl, bx_val_x (n := 12) (e := (17, 0)) h0_ rfl]
    exact g.2.2.1
  · show rxmKNR_1 S0 ws (bx_up T2 480 (0) (0)) (bx_val [(0, 0), (0, 0), (0, 0), (0, 0), (0, 0), (0, 0), (0, 0), (0, 0), (8, 0), (9, 0), (10, 0), (11, 0), (17, 0)] r_p 8) (bx_val [(0, 0), (0, 0), (0, 0), (0, 0), (0, 0), (0, 0), (0, 0), (0, 0), (8, 0), (9, 0), (10, 0), (11, 0), (17, 0)] r_p 9) (bx_val [(0, 0), (0, 0), (0, 0), (0, 0), (0, 0), (0, 0), (0, 0), (0, 0), (8, 0), (9, 0), (10, 0), (11, 0), (17, 0)] r_p 10) (bx_val [(0, 0), (0, 0), (0, 0), (0, 0), (0, 0), (0, 0), (0, 0), (0, 0), (8, 0), (9, 0), (10, 0), (11, 0), (17, 0)] r_p 11) (bx_val [(0, 0), (0, 0), (0, 0), (0, 0), (0, 0), (0, 0), (0, 0), (0, 0), (8, 0), (9, 0), (10, 0), (11, 0), (17, 0)] r_p 12) < rxmKNR_0 S0 ws T2 (r 8) (r 9) (r 10) (r 11)
    rw [bx_val_x (n := 8) (e := (8, 0)) h0_ rfl, bx_val_x (n := 9) (e := (9, 0)) h0_ rfl, bx_val_x (n := 10) (e := (10, 0)) h0_ rfl, bx_val_x (n := 11) (e := (11, 0)) h0_ rfl, bx_val_x (n := 12) (e := (17, 0)) h0_ rfl, ← hr_ 8 (by decide), ← hr_ 9 (by decide), ← hr_ 10 (by decide), ← hr_ 11 (by decide)]
    exact g.2.2.2
theorem rxdKNR_0_0 {S0 : Nat → Int → Int} {ws : List Int} {S : Nat → Int → Int} {pa st cu wh x12 : Int} (hP : rxPKNR S0 ws) (hin : bx_same rxL (bx_mdl rxC166.2.2.1) S0 S) (hin2 : bx_same rxL (bx_mdl rxC166.2.2.1) S (bx_up S 480 0 0)) (I0 : bx_Inv rxL S) (I1 : bx_Inv rxL (bx_up S 480 0 0)) (hinv : rxIKNR_0 S0 ws S pa st cu wh) (l8 : 0 ≤ pa) (u8 : pa ≤ 11) (l9 : 0 ≤ st) (u9 : st ≤ 5) (l10 : 0 ≤ cu) (u10 : cu ≤ 5) (l11 : (-2147483648) ≤ wh) (u11 : wh ≤ (-1)) (l12 : 1 ≤ x12) (u12 : x12 ≤ 12) (f0 : pa ≤ x12 + (-1)) (e0 : (bx_up S 480 0 0) 482 2 = x12) : (True) ∧ rxPSKNR S0 ws (bx_up S 480 0 0) (some ((-1))) := by
  obtain ⟨rfl, hw⟩ := hinv
  have qe0 := e0
  rw [bx_up_ne (by omega)] at qe0
  exact ⟨trivial, pa, st, cu, wh, hw, Or.inl ⟨by omega, rfl⟩⟩
theorem rxfKNR_0_0 {X : (Nat → Int → Int) → Prop} {S0 : Nat → Int → Int} {ws : List Int} (hP : rxPKNR S0 ws) : bx_obE rxL X S0 rxC166.2.2.1 (rxIKNR S0 ws) (rxPSKNR S0 ws) 0 rxzKNR_0 rxeKNR_0_0 := by
  intro S S_p r r_p hinv hX hin hsm_ hseg
  obtain ⟨I0, I1, h0_, hr_, b_, f_, d_⟩ := bx_cl (evs := [(0, (0, 482), (0, 2), .inr (0, (12, 0))), (1, (0, 480), (0, 0), .inr (0, (0, 0)))]) (fvs := [(1, (8, 0), (12, (-1)), (0, 0))]) hseg (by decide +kernel) (by decide +kernel)
  have hinv : rxIKNR_0 S0 ws S (r 8) (r 9) (r 10) (r 11) := hinv
  rw [← hr_ 8 (by decide), ← hr_ 9 (by decide), ← hr_ 10 (by decide), ← hr_ 11 (by decide)] at hinv
  obtain ⟨⟨l8, u8⟩, ⟨l9, u9⟩, ⟨l10, u10⟩, ⟨l11, u11⟩, ⟨l12, u12⟩, -⟩ := b_
  obtain ⟨f0, -⟩ := f_
  obtain ⟨e0, ⟨T1, w_, w1⟩⟩ := d_
  subst w1
  subst w_
  have g := rxdKNR_0_0 hP hin hsm_ I0 I1 hinv l8 u8 l9 u9 l10 u10 l11 u11 l12 u12 f0 e0
  refine ⟨bx_narP_ok (l := []) g.1, ?_⟩
  show rxPSKNR S0 ws (bx_up T1 480 (0) (0)) (some (bx_num r_p (.inr (0, (0, (-1))))))
  rw [bx_xv_ok h0_]
  exact g.2
theorem rxdKNR_0_1 {S0 : Nat → Int → Int} {ws : List Int} {S : Nat → Int → Int} {pa st cu wh x12 : Int} (hP : rxPKNR S0 ws) (hin : bx_same rxL (bx_mdl rxC166.2.2.1) S0 S) (hin2 : bx_same rxL (bx_mdl rxC166.2.2.1) S (bx_up S 480 0 0)) (I0 : bx_Inv rxL S) (I1 : bx_Inv rxL (bx_up S 480 0 0)) (hinv : rxIKNR_0 S0 ws S pa st cu wh) (l8 : 0 ≤ pa) (u8 : pa ≤ 11) (l9 : 0 ≤ st) (u9 : st ≤ 5) (l10 : 0 ≤ cu) (u10 : cu ≤ 5) (l11 : 2 ≤ wh) (u11 : wh ≤ 2147483647) (l12 : 1 ≤ x12) (u12 : x12 ≤ 12) (f0 : pa ≤ x12 + (-1)) (e0 : (bx_up S 480 0 0) 482 2 = x12) : (True) ∧ rxPSKNR S0 ws (bx_up S 480 0 0) (some ((-1))) := by
  obtain ⟨rfl, hw⟩ := hinv
  have qe0 := e0
  rw [bx_up_ne (by omega)] at qe0
  exact ⟨trivial, pa, st, cu, wh, hw, Or.inl ⟨by omega, rfl⟩⟩
theorem rxfKNR_0_1 {X : (Nat → Int → Int) → Prop} {S0 : Nat → Int → Int} {ws : List Int} (hP : rxPKNR S0 ws) : bx_obE rxL X S0 rxC166.2.2.1 (rxIKNR S0 ws) (rxPSKNR S0 ws) 0 rxzKNR_0 rxeKNR_0_1 := by
  intro S S_p r r_p hinv hX hin hsm_ hseg
  obtain ⟨I0, I1, h0_, hr_, b_, f_, d_⟩ := bx_cl (evs := [(0, (0, 482), (0, 2), .inr (0, (12, 0))), (1, (0, 480), (0, 0), .inr (0, (0, 0)))]) (fvs := [(1, (8, 0), (12, (-1)), (0, 0))]) hseg (by decide +kernel) (by decide +kernel)
  have hinv : rxIKNR_0 S0 ws S (r 8) (r 9) (r 10) (r 11) := hinv
  rw [← hr_ 8 (by decide), ← hr_ 9 (by decide), ← hr_ 10 (by decide), ← hr_ 11 (by decide)] at hinv
  obtain ⟨⟨l8, u8⟩, ⟨l9, u9⟩, ⟨l10, u10⟩, ⟨l11, u11⟩, ⟨l12, u12⟩, -⟩ := b_
  obtain ⟨f0, -⟩ := f_
  obtain ⟨e0, ⟨T1, w_, w1⟩⟩ := d_
  subst w1
  subst w_
  have g := rxdKNR_0_1 hP hin hsm_ I0 I1 hinv l8 u8 l9 u9 l10 u10 l11 u11 l12 u12 f0 e0
  refine ⟨bx_narP_ok (l := []) g.1, ?_⟩
  show rxPSKNR S0 ws (bx_up T1 480 (0) (0)) (some (bx_num r_p (.inr (0, (0, (-1))))))
  rw [bx_xv_ok h0_]
  exact g.2
theorem rxdKNR_0_2 {S0 : Nat → Int → Int} {ws : List Int} {S : Nat → Int → Int} {pa st cu wh x12 : Int} (hP : rxPKNR S0 ws) (hin : bx_same rxL (bx_mdl rxC166.2.2.1) S0 S) (hin2 : bx_same rxL (bx_mdl rxC166.2.2.1) S (bx_up S 480 0 0)) (I0 : bx_Inv rxL S) (I1 : bx_Inv rxL (bx_up S 480 0 0)) (hinv : rxIKNR_0 S0 ws S pa st cu wh) (l8 : 0 ≤ pa) (u8 : pa ≤ 11) (l9 : 0 ≤ st) (u9 : st ≤ 5) (l10 : 6 ≤ cu) (u10 : cu ≤ 2147483647) (l11 : (-2147483648) ≤ wh) (u11 : wh ≤ 2147483647) (l12 : 1 ≤ x12) (u12 : x12 ≤ 12) (f0 : pa ≤ x12 + (-1)) (e0 : (bx_up S 480 0 0) 482 2 = x12) : (True) ∧ rxPSKNR S0 ws (bx_up S 480 0 0) (some ((-1))) := by
  obtain ⟨rfl, hw⟩ := hinv
  have qe0 := e0
  rw [bx_up_ne (by omega)] at qe0
  exact ⟨trivial, pa, st, cu, wh, hw, Or.inl ⟨by omega, rfl⟩⟩
theorem rxfKNR_0_2 {X : (Nat → Int → Int) → Prop} {S0 : Nat → Int → Int} {ws : List Int} (hP : rxPKNR S0 ws) : bx_obE rxL X S0 rxC166.2.2.1 (rxIKNR S0 ws) (rxPSKNR S0 ws) 0 rxzKNR_0 rxeKNR_0_2 := by
  intro S S_p r r_p hinv hX hin hsm_ hseg
  obtain ⟨I0, I1, h0_, hr_, b_, f_, d_⟩ := bx_cl (evs := [(0, (0, 482), (0, 2), .inr (0, (12, 0))), (1, (0, 480), (0, 0), .inr (0, (0, 0)))]) (fvs := [(1, (8, 0), (12, (-1)), (0, 0))]) hseg (by decide +kernel) (by decide +kernel)
  have hinv : rxIKNR_0 S0 ws S (r 8) (r 9) (r 10) (r 11) := hinv
  rw [← hr_ 8 (by decide), ← hr_ 9 (by decide), ← hr_ 10 (by decide), ← hr_ 11 (by decide)] at hinv
  obtain ⟨⟨l8, u8⟩, ⟨l9, u9⟩, ⟨l10, u10⟩, ⟨l11, u11⟩, ⟨l12, u12⟩, -⟩ := b_
  obtain ⟨f0, -⟩ := f_
  obtain ⟨e0, ⟨T1, w_, w1⟩⟩ := d_
  subst w1
  subst w_
  have g := rxdKNR_0_2 hP hin hsm_ I0 I1 hinv l8 u8 l9 u9 l10 u10 l11 u11 l12 u12 f0 e0
  refine ⟨bx_narP_ok (l := []) g.1, ?_⟩
  show rxPSKNR S0 ws (bx_up T1 480 (0) (0)) (some (bx_num r_p (.inr (0, (0, (-1))))))
  rw [bx_xv_ok h0_]
  exact g.2
theorem rxdKNR_0_3 {S0 : Nat → Int → Int} {ws : List Int} {S : Nat → Int → Int} {pa st cu wh x12 : Int} (hP : rxPKNR S0 ws) (hin : bx_same rxL (bx_mdl rxC166.2.2.1) S0 S) (hin2 : bx_same rxL (bx_mdl rxC166.2.2.1) S (bx_up S 480 0 0)) (I0 : bx_Inv rxL S) (I1 : bx_Inv rxL (bx_up S 480 0 0)) (hinv : rxIKNR_0 S0 ws S pa st cu wh) (l8 : 0 ≤ pa) (u8 : pa ≤ 11) (l9 : 0 ≤ st) (u9 : st ≤ 5) (l10 : (-2147483648) ≤ cu) (u10 : cu ≤ (-1)) (l11 : (-2147483648) ≤ wh) (u11 : wh ≤ 2147483647) (l12 : 1 ≤ x12) (u12 : x12 ≤ 12) (f0 : pa ≤ x12 + (-1)) (e0 : (bx_up S 480 0 0) 482 2 = x12) : (True) ∧ rxPSKNR S0 ws (bx_up S 480 0 0) (some ((-1))) := by
  obtain ⟨rfl, hw⟩ := hinv
  have qe0 := e0
  rw [bx_up_ne (by omega)] at qe0
  exact ⟨trivial, pa, st, cu, wh, hw, Or.inl ⟨by omega, rfl⟩⟩
theorem rxfKNR_0_3 {X : (Nat → Int → Int) → Prop} {S0 : Nat → Int → Int} {ws : List Int} (hP : rxPKNR S0 ws) : bx_obE rxL X S0 rxC166.2.2.1 (rxIKNR S0 ws) (rxPSKNR S0 ws) 0 rxzKNR_0 rxeKNR_0_3 := by
  intro S S_p r r_p hinv hX hin hsm_ hseg
  obtain ⟨I0, I1, h0_, hr_, b_, f_, d_⟩ := bx_cl (evs := [(0, (0, 482), (0, 2), .inr (0, (12, 0))), (1, (0, 480), (0, 0), .inr (0, (0, 0)))]) (fvs := [(1, (8, 0), (12, (-1)), (0, 0))]) hseg (by decide +kernel) (by decide +kernel)
  have hinv : rxIKNR_0 S0 ws S (r 8) (r 9) (r 10) (r 11) := hinv
  rw [← hr_ 8 (by decide), ← hr_ 9 (by decide), ← hr_ 10 (by decide), ← hr_ 11 (by decide)] at hinv
  obtain ⟨⟨l8, u8⟩, ⟨l9, u9⟩, ⟨l10, u10⟩, ⟨l11, u11⟩, ⟨l12, u12⟩, -⟩ := b_
  obtain ⟨f0, -⟩ := f_
  obtain ⟨e0, ⟨T1, w_, w1⟩⟩ := d_
  subst w1
  subst w_
  have g := rxdKNR_0_3 hP hin hsm_ I0 I1 hinv l8 u8 l9 u9 l10 u10 l11 u11 l12 u12 f0 e0
  refine ⟨bx_narP_ok (l := []) g.1, ?_⟩
  show rxPSKNR S0 ws (bx_up T1 480 (0) (0)) (some (bx_num r_p (.inr (0, (0, (-1))))))
  rw [bx_xv_ok h0_]
  exact g.2
theorem rxdKNR_0_4 {S0 : Nat → Int → Int} {ws : List Int} {S : Nat → Int → Int} {pa st cu wh x12 : Int} (hP : rxPKNR S0 ws) (hin : bx_same rxL (bx_mdl rxC166.2.2.1) S0 S) (hin2 : bx_same rxL (bx_mdl rxC166.2.2.1) S (bx_up S 480 0 0)) (I0 : bx_Inv rxL S) (I1 : bx_Inv rxL (bx_up S 480 0 0)) (hinv : rxIKNR_0 S0 ws S pa st cu wh) (l8 : 0 ≤ pa) (u8 : pa ≤ 11) (l9 : 6 ≤ st) (u9 : st ≤ 2147483647) (l10 : (-2147483648) ≤ cu) (u10 : cu ≤ 2147483647) (l11 : (-2147483648) ≤ wh) (u11 : wh ≤ 2147483647) (l12 : 1 ≤ x12) (u12 : x12 ≤ 12) (f0 : pa ≤ x12 + (-1)) (e0 : (bx_up S 480 0 0) 482 2 = x12) : (True) ∧ rxPSKNR S0 ws (bx_up S 480 0 0) (some ((-1))) := by
  obtain ⟨rfl, hw⟩ := hinv
  have qe0 := e0
  rw [bx_up_ne (by omega)] at qe0
  exact ⟨trivial, pa, st, cu, wh, hw, Or.inl ⟨by omega, rfl⟩⟩
theorem rxfKNR_0_4 {X : (Nat → Int → Int) → Prop} {S0 : Nat → Int → Int} {ws : List Int} (hP : rxPKNR S0 ws) : bx_obE rxL X S0 rxC166.2.2.1 (rxIKNR S0 ws) (rxPSKNR S0 ws) 0 rxzKNR_0 rxeKNR_0_4 := by
  intro S S_p r r_p hinv hX hin hsm_ hseg
  obtain ⟨I0, I1, h0_, hr_, b_, f_, d_⟩ := bx_cl (evs := [(0, (0, 482), (0, 2), .inr (0, (12, 0))), (1, (0, 480), (0, 0), .inr (0, (0, 0)))]) (fvs := [(1, (8, 0), (12, (-1)), (0, 0))]) hseg (by decide +kernel) (by decide +kernel)
  have hinv : rxIKNR_0 S0 ws S (r 8) (r 9) (r 10) (r 11) := hinv
  rw [← hr_ 8 (by decide), ← hr_ 9 (by decide), ← hr_ 10 (by decide), ← hr_ 11 (by decide)] at hinv
  obtain ⟨⟨l8, u8⟩, ⟨l9, u9⟩, ⟨l10, u10⟩, ⟨l11, u11⟩, ⟨l12, u12⟩, -⟩ := b_
  obtain ⟨f0, -⟩ := f_
  obtain ⟨e0, ⟨T1, w_, w1⟩⟩ := d_
  subst w1
  subst w_
  have g := rxdKNR_0_4 hP hin hsm_ I0 I1 hinv l8 u8 l9 u9 l10 u10 l11 u11 l12 u12 f0 e0
  refine ⟨bx_narP_ok (l := []) g.1, ?_⟩
  show rxPSKNR S0 ws (bx_up T1 480 (0) (0)) (some (bx_num r_p (.inr (0, (0, (-1))))))
  rw [bx_xv_ok h0_]
  exact g.2
theorem rxdKNR_0_5 {S0 : Nat → Int → Int} {ws : List Int} {S : Nat → Int → Int} {pa st cu wh x12 : Int} (hP : rxPKNR S0 ws) (hin : bx_same rxL (bx_mdl rxC166.2.2.1) S0 S) (hin2 : bx_same rxL (bx_mdl rxC166.2.2.1) S (bx_up S 480 0 0)) (I0 : bx_Inv rxL S) (I1 : bx_Inv rxL (bx_up S 480 0 0)) (hinv : rxIKNR_0 S0 ws S pa st cu wh) (l8 : 0 ≤ pa) (u8 : pa ≤ 11) (l9 : (-2147483648) ≤ st) (u9 : st ≤ (-1)) (l10 : (-2147483648) ≤ cu) (u10 : cu ≤ 2147483647) (l11 : (-2147483648) ≤ wh) (u11 : wh ≤ 2147483647) (l12 : 1 ≤ x12) (u12 : x12 ≤ 12) (f0 : pa ≤ x12 + (-1)) (e0 : (bx_up S 480 0 0) 482 2 = x12) : (True) ∧ rxPSKNR S0 ws (bx_up S 480 0 0) (some ((-1))) := by
  obtain ⟨rfl, hw⟩ := hinv
  have qe0 := e0
  rw [bx_up_ne (by omega)] at qe0
  exact ⟨trivial, pa, st, cu, wh, hw, Or.inl ⟨by omega, rfl⟩⟩
theorem rxfKNR_0_5 {X : (Nat → Int → Int) → Prop} {S0 : Nat → Int → Int} {ws : List Int} (hP : rxPKNR S0 ws) : bx_obE rxL X S0 rxC166.2.2.1 (rxIKNR S0 ws) (rxPSKNR S0 ws) 0 rxzKNR_0 rxeKNR_0_5 := by
  intro S S_p r r_p hinv hX hin hsm_ hseg
  obtain ⟨I0, I1, h0_, hr_, b_, f_, d_⟩ := bx_cl (evs := [(0, (0, 482), (0, 2), .inr (0, (12, 0))), (1, (0, 480), (0, 0), .inr (0, (0, 0)))]) (fvs := [(1, (8, 0), (12, (-1)), (0, 0))]) hseg (by decide +kernel) (by decide +kernel)
  have hinv : rxIKNR_0 S0 ws S (r 8) (r 9) (r 10) (r 11) := hinv
  rw [← hr_ 8 (by decide), ← hr_ 9 (by decide), ← hr_ 10 (by decide), ← hr_ 11 (by decide)] at hinv
  obtain ⟨⟨l8, u8⟩, ⟨l9, u9⟩, ⟨l10, u10⟩, ⟨l11, u11⟩, ⟨l12, u12⟩, -⟩ := b_
  obtain ⟨f0, -⟩ := f_
  obtain ⟨e0, ⟨T1, w_, w1⟩⟩ := d_
  subst w1
  subst w_
  have g := rxdKNR_0_5 hP hin hsm_ I0 I1 hinv l8 u8 l9 u9 l10 u10 l11 u11 l12 u12 f0 e0
  refine ⟨bx_narP_ok (l := []) g.1, ?_⟩
  show rxPSKNR S0 ws (bx_up T1 480 (0) (0)) (some (bx_num r_p (.inr (0, (0, (-1))))))
  rw [bx_xv_ok h0_]
  exact g.2
theorem rxdKNR_0_6 {S0 : Nat → Int → Int} {ws : List Int} {S : Nat → Int → Int} {pa st cu wh x12 : Int} (hP : rxPKNR S0 ws) (hin : bx_same rxL (bx_mdl rxC166.2.2.1) S0 S) (hin2 : bx_same rxL (bx_mdl rxC166.2.2.1) S (bx_up S 480 0 0)) (I0 : bx_Inv rxL S) (I1 : bx_Inv rxL (bx_up S 480 0 0)) (hinv : rxIKNR_0 S0 ws S pa st cu wh) (l8 : 0 ≤ pa) (u8 : pa ≤ 2147483647) (l9 : (-2147483648) ≤ st) (u9 : st ≤ 2147483647) (l10 : (-2147483648) ≤ cu) (u10 : cu ≤ 2147483647) (l11 : (-2147483648) ≤ wh) (u11 : wh ≤ 2147483647) (l12 : 0 ≤ x12) (u12 : x12 ≤ 12) (f0 : x12 + (-1) < pa) (e0 : (bx_up S 480 0 0) 482 2 = x12) : (True) ∧ rxPSKNR S0 ws (bx_up S 480 0 0) (some ((-1))) := by
  obtain ⟨rfl, hw⟩ := hinv
  have qe0 := e0
  rw [bx_up_ne (by omega)] at qe0
  exact ⟨trivial, pa, st, cu, wh, hw, Or.inl ⟨by omega, rfl⟩⟩
theorem rxfKNR_0_6 {X : (Nat → Int → Int) → Prop} {S0 : Nat → Int → Int} {ws : List Int} (hP : rxPKNR S0 ws) : bx_obE rxL X S0 rxC166.2.2.1 (rxIKNR S0 ws) (rxPSKNR S0 ws) 0 rxzKNR_0 rxeKNR_0_6 := by
  intro S S_p r r_p hinv hX hin hsm_ hseg
  obtain ⟨I0, I1, h0_, hr_, b_, f_, d_⟩ := bx_cl (evs := [(0, (0, 482), (0, 2), .inr (0, (12, 0))), (1, (0, 480), (0, 0), .inr (0, (0, 0)))]) (fvs := [(0, (12, (-1)), (8, 0), (0, 0))]) hseg (by decide +kernel) (by decide +kernel)
  have hinv : rxIKNR_0 S0 ws S (r 8) (r 9) (r 10) (r 11) := hinv
  rw [← hr_ 8 (by decide), ← hr_ 9 (by decide), ← hr_ 10 (by decide), ← hr_ 11 (by decide)] at hinv
  obtain ⟨⟨l8, u8⟩, ⟨l9, u9⟩, ⟨l10, u10⟩, ⟨l11, u11⟩, ⟨l12, u12⟩, -⟩ := b_
  obtain ⟨f0, -⟩ := f_
  obtain ⟨e0, ⟨T1, w_, w1⟩⟩ := d_
  subst w1
  subst w_
  have g := rxdKNR_0_6 hP hin hsm_ I0 I1 hinv l8 u8 l9 u9 l10 u10 l11 u11 l12 u12 f0 e0
  refine ⟨bx_narP_ok (l := []) g.1, ?_⟩
  show rxPSKNR S0 ws (bx_up T1 480 (0) (0)) (some (bx_num r_p (.inr (0, (0, (-1))))))
  rw [bx_xv_ok h0_]
  exact g.2
theorem rxdKNR_0_7 {S0 : Nat → Int → Int} {ws : List Int} {S : Nat → Int → Int} {pa st cu wh x12 : Int} (hP : rxPKNR S0 ws) (hin : bx_same rxL (bx_mdl rxC166.2.2.1) S0 S) (hin2 : bx_same rxL (bx_mdl rxC166.2.2.1) S (bx_up S 480 0 0)) (I0 : bx_Inv rxL S) (I1 : bx_Inv rxL (bx_up S 480 0 0)) (hinv : rxIKNR_0 S0 ws S pa st cu wh) (l8 : (-2147483648) ≤ pa) (u8 : pa ≤ (-1)) (l9 : (-2147483648) ≤ st) (u9 : st ≤ 2147483647) (l10 : (-2147483648) ≤ cu) (u10 : cu ≤ 2147483647) (l11 : (-2147483648) ≤ wh) (u11 : wh ≤ 2147483647) (l12 : 0 ≤ x12) (u12 : x12 ≤ 12) (e0 : (bx_up S 480 0 0) 482 2 = x12) : (True) ∧ rxPSKNR S0 ws (bx_up S 480 0 0) (some ((-1))) := by
  obtain ⟨rfl, hw⟩ := hinv
  have qe0 := e0
  rw [bx_up_ne (by omega)] at qe0
  exact ⟨trivial, pa, st, cu, wh, hw, Or.inl ⟨by omega, rfl⟩⟩
theorem rxfKNR_0_7 {X : (Nat → Int → Int) → Prop} {S0 : Nat → Int → Int} {ws : List Int} (hP : rxPKNR S0 ws) : bx_obE rxL X S0 rxC166.2.2.1 (rxIKNR S0 ws) (rxPSKNR S0 ws) 0 rxzKNR_0 rxeKNR_0_7 := by
  intro S S_p r r_p hinv hX hin hsm_ hseg
  obtain ⟨I0, I1, h0_, hr_, b_, f_, d_⟩ := bx_cl (evs := [(0, (0, 482), (0, 2), .inr (0, (12, 0))), (1, (0, 480), (0, 0), .inr (0, (0, 0)))]) (fvs := []) hseg (by decide +kernel) (by decide +kernel)
  have hinv : rxIKNR_0 S0 ws S (r 8) (r 9) (r 10) (r 11) := hinv
  rw [← hr_ 8 (by decide), ← hr_ 9 (by decide), ← hr_ 10 (by decide), ← hr_ 11 (by decide)] at hinv
  obtain ⟨⟨l8, u8⟩, ⟨l9, u9⟩, ⟨l10, u10⟩, ⟨l11, u11⟩, ⟨l12, u12⟩, -⟩ := b_
  obtain ⟨e0, ⟨T1, w_, w1⟩⟩ := d_
  subst w1
  subst w_
  have g := rxdKNR_0_7 hP hin hsm_ I0 I1 hinv l8 u8 l9 u9 l10 u10 l11 u11 l12 u12 e0
  refine ⟨bx_narP_ok (l := []) g.1, ?_⟩
  show rxPSKNR S0 ws (bx_up T1 480 (0) (0)) (some (bx_num r_p (.inr (0, (0, (-1))))))
  rw [bx_xv_ok h0_]
  exact g.2
theorem rxdKNR_2_0 {S0 : Nat → Int → Int} {ws : List Int} {S : Nat → Int → Int} {pa st cu wh r an : Int} (hP : rxPKNR S0 ws) (hin : bx_same rxL (bx_mdl rxC166.2.2.1) S0 S) (hin2 : bx_same rxL (bx_mdl rxC166.2.2.1) S S) (I0 : bx_Inv rxL S) (I1 : bx_Inv rxL S) (hinv : rxIKNR_2 S0 ws S pa st cu wh r an) (l8 : 0 ≤ pa) (u8 : pa ≤ 11) (l9 : 0 ≤ st) (u9 : st ≤ 5) (l10 : 0 ≤ cu) (u10 : cu ≤ 5) (l11 : 0 ≤ wh) (u11 : wh ≤ 1) (l12 : (-1) ≤ r) (u12 : r ≤ 59) (l13 : (-1) ≤ an) (u13 : an ≤ 9) : (True) ∧ rxPSKNR S0 ws S (some an) := by
  obtain ⟨hw, hp, hr, ha⟩ := hinv
  subst hr
  by_cases c : wh = 0
  · rw [if_pos c] at ha
    exact ⟨trivial, pa, st, cu, wh, hw, Or.inr (Or.inl ⟨⟨by omega, hp, by omega, by omega, by omega, by omega⟩, c, congrArg some ha⟩)⟩
  · rw [if_neg c] at ha
    exact ⟨trivial, pa, st, cu, wh, hw, Or.inr (Or.inr ⟨⟨by omega, hp, by omega, by omega, by omega, by omega⟩, by omega, congrArg some ha⟩)⟩
theorem rxfKNR_2_0 {X : (Nat → Int → Int) → Prop} {S0 : Nat → Int → Int} {ws : List Int} (hP : rxPKNR S0 ws) : bx_obE rxL X S0 rxC166.2.2.1 (rxIKNR S0 ws) (rxPSKNR S0 ws) 2 rxzKNR_2 rxeKNR_2_0 := by
  intro S S_p r r_p hinv hX hin hsm_ hseg
  obtain ⟨I0, I1, h0_, hr_, b_, f_, d_⟩ := bx_cl (evs := []) (fvs := []) hseg (by decide +kernel) (by decide +kernel)
  have hinv : rxIKNR_2 S0 ws S (r 8) (r 9) (r 10) (r 11) (r 12) (r 13) := hinv
  rw [← hr_ 8 (by decide), ← hr_ 9 (by decide), ← hr_ 10 (by decide), ← hr_ 11 (by decide), ← hr_ 12 (by decide), ← hr_ 13 (by decide)] at hinv
  obtain ⟨⟨l8, u8⟩, ⟨l9, u9⟩, ⟨l10, u10⟩, ⟨l11, u11⟩, ⟨l12, u12⟩, ⟨l13, u13⟩, -⟩ := b_
  have w_ := d_
  subst w_
  have g := rxdKNR_2_0 hP hin hsm_ I0 I1 hinv l8 u8 l9 u9 l10 u10 l11 u11 l12 u12 l13 u13
  refine ⟨bx_narP_ok (l := []) g.1, ?_⟩
  show rxPSKNR S0 ws S_p (some (bx_num r_p (.inr (0, (13, 0)))))
  rw [bx_xv_ok h0_]
  exact g.2
theorem rxgCKNR {X : (Nat → Int → Int) → Prop} {S0 : Nat → Int → Int} {ws : List Int} (hP : rxPKNR S0 ws) : bx_allI (fun i q => rxUKNR q = true ∨ bx_allP (fun o => bx_obC rxL X S0 rxC166.2.2.1 (rxIKNR S0 ws) (rxmKNR S0 ws) i q.1 o) q.2.1) 0 rxYKNR := ⟨Or.inr ⟨rxgKNR_0_0 hP, trivial⟩, Or.inl rfl, Or.inr trivial, trivial⟩
theorem rxgEKNR {X : (Nat → Int → Int) → Prop} {S0 : Nat → Int → Int} {ws : List Int} (hP : rxPKNR S0 ws) : bx_allI (fun i q => rxUKNR q = true ∨ bx_allP (fun E => bx_obE rxL X S0 rxC166.2.2.1 (rxIKNR S0 ws) (rxPSKNR S0 ws) i q.1 E) q.2.2) 0 rxYKNR := ⟨Or.inr ⟨rxfKNR_0_0 hP, rxfKNR_0_1 hP, rxfKNR_0_2 hP, rxfKNR_0_3 hP, rxfKNR_0_4 hP, rxfKNR_0_5 hP, rxfKNR_0_6 hP, rxfKNR_0_7 hP, trivial⟩, Or.inl rfl, Or.inr ⟨rxfKNR_2_0 hP, trivial⟩, trivial⟩
theorem rxuKNR {PX : State → Prop} {Dg : va_G} {A : Nat → Prop} {ad xa : Nat → Nat} {l : Launch} {X : (Nat → Int → Int) → Prop} (hPX : rx_PXOK rxNW A PX) (hX : ∀ S S1 : Nat → Int → Int, X S → bx_same rxL (bx_mdl rxC166.2.2.1) S S1 → X S1) (hQOFL : bx_ConP rxG rxNW rxAO PX Dg rxL X vwCl A ad l rxM21 rxCOFL rxPOFL rxPSOFL) {S0 : Nat → Int → Int} {ws : List Int} (hP : rxPKNR S0 ws) : ∀ (i : Nat) (q : bx_HE), rxYKNR[i]? = some q → rxUKNR q = true → ∀ {p : Program} {e : Env} {R : Room} {s : State} {m : MethodId} {args : Array Value} {below : List Frame} {meth : Method} {c : Code} {Q : State → Prop} {H0 : Heap}, rx_Fr rxG rxNW rxAO PX p s m args meth c rxM166 → (∀ q, H0.size ≤ q → A q) → H0 = s.heap → rxM166.2.2.2.2.2.2.1 ≤ R.cells → rxM166.2.2.2.2.2.2.2 ≤ R.slots → rxC166.2.2.2.1 ≤ R.frames → rxC166.2.2.2.1 * 40 ≤ R.locals → bx_Step p l e R s m args below meth c Q Dg rxL X vwCl A xa H0 ad rxM166 rxYKNR (rxIKNR S0 ws) (rxmKNR S0 ws) S0 rxC166.2.2.1 i q := by
  intro i q hq hus p e R s m args below meth c Q H0 hF hA hH0 hmc hms hd hdl
  match i, hq with
  | 0, hq =>
    cases hq
    exact absurd (show false = true from hus) Bool.false_ne_true
  | 1, hq =>
    cases hq
    exact rx_stepC (ins := .invokestatic 215) (len := 3) (i_p := 2) (M_p := rxM21) (d := rxC166.2.2.2.1) (as := [.inr (0, (12, 0)), .inr (0, (11, 0))]) (t := []) (ct := rxCOFL) hPX hF rfl hA hH0 hmc hms hd hdl (by decide +kernel) rfl rfl (by decide +kernel) (by decide +kernel) hQOFL (by decide +kernel) rfl (Or.inr ⟨_, _, _, 1, rfl, rfl, by omega, rfl, rfl, rfl⟩) (rxsKNR_1 hP)
  | 2, hq =>
    cases hq
    exact absurd (show false = true from hus) Bool.false_ne_true
  | n + 3, hq => cases hq
theorem rxQKNR {PX : State → Prop} {Dg : va_G} {A : Nat → Prop} {ad xa : Nat → Nat} {l : Launch} {X : (Nat → Int → Int) → Prop} (hPX : rx_PXOK rxNW A PX) (hsl : ∀ s : State, PX s → ∀ o idx n : Nat, rxSl o idx = some n → ∃ tx : String, vk_R (rxNm o) idx tx (ad n) s)
    (hX : ∀ S S_p : Nat → Int → Int, X S → bx_same rxL (bx_mdl rxC166.2.2.1) S S_p → X S_p)
    (ih : ∀ (j2 : Nat) (ct2 : bx_Ct) (M2 : rx_Mt), ct2 ∈ rxCnE j2 → ct2.2.2.2.1 + 1 ≤ rxC166.2.2.2.1 → rxT.2.2.2.2.2 j2 = some M2 → bx_Con rxG rxNW rxAO PX Dg rxL X vwCl A ad l M2 ct2) (hQOFL : bx_ConP rxG rxNW rxAO PX Dg rxL X vwCl A ad l rxM21 rxCOFL rxPOFL rxPSOFL) : bx_ConP rxG rxNW rxAO PX Dg rxL X vwCl A ad l rxM166 rxC166 rxPKNR rxPSKNR :=
  rxQof (xa := xa) (Cn := rxCnE) (f := 30000) (j := 166) (tab := rxYKNR) (us := rxUKNR) hPX hsl hX ih rfl rxYcKNR rxIKNR rxmKNR
    (fun S0 ws r I0 I ht0 ht as he he1 hX0 hI0 hP hs ha => by
      have e := he.symm.trans (show bx_ent0 rxNP rxC166.1 bx_I0 [] = some ([(0, 0), (0, 0), (0, 0), (0, 0), (0, 0), (0, 0), (0, 0), (0, 0), ((-2147483648), 2147483647), ((-2147483648), 2147483647), ((-2147483648), 2147483647), ((-2147483648), 2147483647)], [], [.inr (3, (0, 480)), .inr (0, (8, 0)), .inr (0, (9, 0)), .inr (0, (10, 0)), .inr (0, (11, 0))]) from rfl)
      cases e
      subst ha
      have h0 : r 0 = 0 := hs.1
      show rxIKNR_0 S0 _ S0 (r 8) (r 9) (r 10) (r 11)
      refine ⟨rfl, ?_⟩
      simp only [List.map_cons, List.map_nil, bx_xv_ok h0]
      rfl)
    (fun S0 ws hP => rxuKNR (xa := xa) hPX hX hQOFL hP) (fun S0 ws hP => rxgCKNR hP) (fun S0 ws hP => rxgEKNR hP)
