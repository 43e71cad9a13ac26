noncomputable def rxI229_0 (S0 : Nat → Int → Int) (ws : List Int) (S : Nat → Int → Int) (wh va : Int) : Prop := S = S0 ∧ ws = [0, wh, va]
noncomputable def rxm229_0 (S0 : Nat → Int → Int) (ws : List Int) (S : Nat → Int → Int) (wh va : Int) : Nat := 100
noncomputable def rxz229_0 : rx_Z := ([(0, 0), (0, 0), (0, 0), (0, 0), (0, 0), (0, 0), (0, 0), (0, 0), ((-2147483648), 2147483647), ((-2147483648), 2147483647)], [], [], 0, 0, 0, [(0, .inr (3, (0, 0))), (1, .inr (0, (8, 0))), (2, .inr (0, (9, 0)))], [])
noncomputable def rxI229_1 (S0 : Nat → Int → Int) (ws : List Int) (S : Nat → Int → Int) (wh va : Int) : Prop := S = S0 ∧ ((wh < 0 ∨ 2 < wh ∨ va < 0 ∨ (wh = 0 ∧ 300 < va) ∨ (wh = 1 ∧ 9 < va) ∨ (wh = 2 ∧ 100 < va))) ∧ ws = [0, wh, va]
noncomputable def rxm229_1 (S0 : Nat → Int → Int) (ws : List Int) (S : Nat → Int → Int) (wh va : Int) : Nat := 50
noncomputable def rxz229_1 : rx_Z := ([(0, 0), (0, 0), (0, 0), (0, 0), (0, 0), (0, 0), (0, 0), (0, 0), ((-2147483648), 2147483647), ((-2147483648), 2147483647)], [], [], 0, 0, 23, [(0, .inr (3, (0, 0))), (1, .inr (0, (8, 0))), (2, .inr (0, (9, 0)))], [.inr (0, (0, (-1))), .inr (3, (0, 0))])
noncomputable def rxI229_2 (S0 : Nat → Int → Int) (ws : List Int) (S : Nat → Int → Int) (wh va res : Int) : Prop := res = (-1) ∧ ((wh < 0 ∨ 2 < wh ∨ va < 0 ∨ (wh = 0 ∧ 300 < va) ∨ (wh = 1 ∧ 9 < va) ∨ (wh = 2 ∧ 100 < va))) ∧ ws = [0, wh, va] ∧ bx_same rxL (bx_mdl rxC110.2.2.1) S0 S
noncomputable def rxm229_2 (S0 : Nat → Int → Int) (ws : List Int) (S : Nat → Int → Int) (wh va res : Int) : Nat := 20
noncomputable def rxz229_2 : rx_Z := ([(0, 0), (0, 0), (0, 0), (0, 0), (0, 0), (0, 0), (0, 0), (0, 0), ((-2147483648), 2147483647), ((-2147483648), 2147483647), ((-6), (-1))], [], [], 0, 0, 26, [(0, .inr (3, (0, 0))), (1, .inr (0, (8, 0))), (2, .inr (0, (9, 0)))], [.inr (0, (10, 0))])
noncomputable def rxo229_0_0 : bx_HO := (([(0, 0), (0, 0), (0, 0), (0, 0), (0, 0), (0, 0), (0, 0), (0, 0), (2, 2), (101, 2147483647)], [(3, (8, 0), (0, 1)), (3, (8, 0), (0, 0))], [], 0, 0, 23, [(0, .inr (3, (0, 0))), (1, .inr (0, (8, 0))), (2, .inr (0, (9, 0)))], [.inr (0, (0, (-1))), .inr (3, (0, 0))]), [], [], [(0, 0), (0, 0), (0, 0), (0, 0), (0, 0), (0, 0), (0, 0), (0, 0), (8, 0), (9, 0)], 1)
noncomputable def rxo229_0_1 : bx_HO := (([(0, 0), (0, 0), (0, 0), (0, 0), (0, 0), (0, 0), (0, 0), (0, 0), (1, 1), (10, 2147483647)], [(3, (8, 0), (0, 0))], [], 0, 0, 23, [(0, .inr (3, (0, 0))), (1, .inr (0, (8, 0))), (2, .inr (0, (9, 0)))], [.inr (0, (0, (-1))), .inr (3, (0, 0))]), [], [], [(0, 0), (0, 0), (0, 0), (0, 0), (0, 0), (0, 0), (0, 0), (0, 0), (8, 0), (9, 0)], 1)
noncomputable def rxo229_0_2 : bx_HO := (([(0, 0), (0, 0), (0, 0), (0, 0), (0, 0), (0, 0), (0, 0), (0, 0), (0, 0), (301, 2147483647)], [], [], 0, 0, 23, [(0, .inr (3, (0, 0))), (1, .inr (0, (8, 0))), (2, .inr (0, (9, 0)))], [.inr (0, (0, (-1))), .inr (3, (0, 0))]), [], [], [(0, 0), (0, 0), (0, 0), (0, 0), (0, 0), (0, 0), (0, 0), (0, 0), (8, 0), (9, 0)], 1)
noncomputable def rxo229_0_3 : bx_HO := (([(0, 0), (0, 0), (0, 0), (0, 0), (0, 0), (0, 0), (0, 0), (0, 0), (0, 2), ((-2147483648), (-1))], [], [], 0, 0, 23, [(0, .inr (3, (0, 0))), (1, .inr (0, (8, 0))), (2, .inr (0, (9, 0)))], [.inr (0, (0, (-1))), .inr (3, (0, 0))]), [], [], [(0, 0), (0, 0), (0, 0), (0, 0), (0, 0), (0, 0), (0, 0), (0, 0), (8, 0), (9, 0)], 1)
noncomputable def rxo229_0_4 : bx_HO := (([(0, 0), (0, 0), (0, 0), (0, 0), (0, 0), (0, 0), (0, 0), (0, 0), (3, 2147483647), ((-2147483648), 2147483647)], [], [], 0, 0, 23, [(0, .inr (3, (0, 0))), (1, .inr (0, (8, 0))), (2, .inr (0, (9, 0)))], [.inr (0, (0, (-1))), .inr (3, (0, 0))]), [], [], [(0, 0), (0, 0), (0, 0), (0, 0), (0, 0), (0, 0), (0, 0), (0, 0), (8, 0), (9, 0)], 1)
noncomputable def rxo229_0_5 : bx_HO := (([(0, 0), (0, 0), (0, 0), (0, 0), (0, 0), (0, 0), (0, 0), (0, 0), ((-2147483648), (-1)), ((-2147483648), 2147483647)], [], [], 0, 0, 23, [(0, .inr (3, (0, 0))), (1, .inr (0, (8, 0))), (2, .inr (0, (9, 0)))], [.inr (0, (0, (-1))), .inr (3, (0, 0))]), [], [], [(0, 0), (0, 0), (0, 0), (0, 0), (0, 0), (0, 0), (0, 0), (0, 0), (8, 0), (9, 0)], 1)
noncomputable def rxe229_0_0 : rx_End × List (Nat × Int × Int) := (([(0, 0), (0, 0), (0, 0), (0, 0), (0, 0), (0, 0), (0, 0), (0, 0), (2, 2), (0, 100), (0, 300)], [(3, (8, 0), (0, 1)), (3, (8, 0), (0, 0))], [(((0, 0), 1851192626986356799029993984671224184301589730656725205983952899000000), .inr (0, (0, 0))), (((0, 0), 8), .inr (0, (0, 0))), (((0, 0), 1851192626986356797424364830707437625680387377997778264875794435000000), .inr (0, (9, 0))), (((0, 19), 2), .inr (0, (9, 0))), (((0, 0), 1851192626986356797424364830707437625680387377997778264875794432000000), .inr (0, (10, 0))), (((0, 1), 13), .inr (3, (0, 19))), (((0, 0), 0), .inr (3, (0, 1)))], some (.inr (0, (10, 0)))), [])
noncomputable def rxe229_0_1 : rx_End × List (Nat × Int × Int) := (([(0, 0), (0, 0), (0, 0), (0, 0), (0, 0), (0, 0), (0, 0), (0, 0), (1, 1), (0, 9), (0, 300)], [(3, (8, 0), (0, 0))], [(((0, 0), 1851192626986356799029993984671224184301589730656725205983952899000000), .inr (0, (0, 0))), (((0, 0), 8), .inr (0, (0, 0))), (((0, 0), 1851192626986356797424364830707437625680387377997778264875794435000000), .inr (0, (9, 0))), (((0, 19), 1), .inr (0, (9, 0))), (((0, 0), 1851192626986356797424364830707437625680387377997778264875794432000000), .inr (0, (10, 0))), (((0, 1), 13), .inr (3, (0, 19))), (((0, 0), 0), .inr (3, (0, 1)))], some (.inr (0, (10, 0)))), [])
noncomputable def rxe229_0_2 : rx_End × List (Nat × Int × Int) := (([(0, 0), (0, 0), (0, 0), (0, 0), (0, 0), (0, 0), (0, 0), (0, 0), (0, 0), (0, 300), (0, 300)], [], [(((0, 0), 1851192626986356799029993984671224184301589730656725205983952899000000), .inr (0, (0, 0))), (((0, 0), 8), .inr (0, (0, 0))), (((0, 0), 1851192626986356797424364830707437625680387377997778264875794435000000), .inr (0, (9, 0))), (((0, 19), 0), .inr (0, (9, 0))), (((0, 0), 1851192626986356797424364830707437625680387377997778264875794432000000), .inr (0, (10, 0))), (((0, 1), 13), .inr (3, (0, 19))), (((0, 0), 0), .inr (3, (0, 1)))], some (.inr (0, (10, 0)))), [])
noncomputable def rxe229_2_0 : rx_End × List (Nat × Int × Int) := (([(0, 0), (0, 0), (0, 0), (0, 0), (0, 0), (0, 0), (0, 0), (0, 0), ((-2147483648), 2147483647), ((-2147483648), 2147483647), ((-6), (-1))], [], [], some (.inr (0, (10, 0)))), [])
noncomputable def rxY229 : List bx_HE := [(rxz229_0, [rxo229_0_0, rxo229_0_1, rxo229_0_2, rxo229_0_3, rxo229_0_4, rxo229_0_5], [rxe229_0_0, rxe229_0_1, rxe229_0_2]), (rxz229_1, [], []), (rxz229_2, [], [rxe229_2_0])]
noncomputable def rxU229 (q : bx_HE) : Bool := Nat.beq (rx_zpc q.1) 23
noncomputable def rxYB229 : bx_B := (rxV, rxNP, rxDmf, bx_mdH rxC229.2.2.1)
set_option maxRecDepth 100000 in
theorem rxYc229 : bx_chkH rxYB229 rxM229 rxC229 rxY229 (rxU229, fun cut z => rx_ex2 (rxCT rxYB229 rxCnE) cut 30000 rxC229.2.2.2.1 229 z) = true := by decide +kernel
noncomputable def rxI229 (S0 : Nat → Int → Int) (ws : List Int) (i : Nat) : bx_SP := fun S r => match i with | 0 => rxI229_0 S0 ws S (r 8) (r 9) | 1 => rxI229_1 S0 ws S (r 8) (r 9) | 2 => rxI229_2 S0 ws S (r 8) (r 9) (r 10) | _ => False
noncomputable def rxm229 (S0 : Nat → Int → Int) (ws : List Int) (i : Nat) (S : Nat → Int → Int) (r : Nat → Int) : Nat := match i with | 0 => rxm229_0 S0 ws S (r 8) (r 9) | 1 => rxm229_1 S0 ws S (r 8) (r 9) | 2 => rxm229_2 S0 ws S (r 8) (r 9) (r 10) | _ => 0
noncomputable def rxP229 (S0 : Nat → Int → Int) (ws : List Int) : Prop := True
noncomputable def rxPS229 (S0 : Nat → Int → Int) (ws : List Int) (S : Nat → Int → Int) (w : Option Int) : Prop := ∃ wh va : Int, ws = [0, wh, va] ∧ (((wh < 0 ∨ 2 < wh ∨ va < 0 ∨ (wh = 0 ∧ 300 < va) ∨ (wh = 1 ∧ 9 < va) ∨ (wh = 2 ∧ 100 < va)) ∧ w = some (-1) ∧ bx_same rxL (bx_mdl rxC110.2.2.1) S0 S) ∨ (wh = 0 ∧ 0 ≤ va ∧ va ≤ 300 ∧ w = some (S0 19 0) ∧ S 19 0 = va ∧ S 19 1 = S0 19 1 ∧ S 19 2 = S0 19 2 ∧ S 156 0 = S0 156 0 ∧ S 292 0 = S0 292 0 ∧ S 156 1 = S0 156 1 ∧ S 292 1 = S0 292 1 ∧ S 156 2 = S0 156 2 ∧ S 292 2 = S0 292 2) ∨ (wh = 1 ∧ 0 ≤ va ∧ va ≤ 9 ∧ w = some (S0 19 1) ∧ S 19 0 = S0 19 0 ∧ S 19 1 = va ∧ S 19 2 = S0 19 2 ∧ S 156 0 = S0 156 0 ∧ S 292 0 = S0 292 0 ∧ S 156 1 = S0 156 1 ∧ S 292 1 = S0 292 1 ∧ S 156 2 = S0 156 2 ∧ S 292 2 = S0 292 2) ∨ (wh = 2 ∧ 0 ≤ va ∧ va ≤ 100 ∧ w = some (S0 19 2) ∧ S 19 0 = S0 19 0 ∧ S 19 1 = S0 19 1 ∧ S 19 2 = va ∧ S 156 0 = S0 156 0 ∧ S 292 0 = S0 292 0 ∧ S 156 1 = S0 156 1 ∧ S 292 1 = S0 292 1 ∧ S 156 2 = S0 156 2 ∧ S 292 2 = S0 292 2))
theorem rxk229_1 {S0 : Nat → Int → Int} {ws : List Int} {S : Nat → Int → Int} {wh va : Int} (hP : rxP229 S0 ws) (hin : bx_same rxL (bx_mdl rxC229.2.2.1) S0 S) (I0 : bx_Inv rxL S) (hinv : rxI229_1 S0 ws S wh va) (l8 : (-2147483648) ≤ wh) (u8 : wh ≤ 2147483647) (l9 : (-2147483648) ≤ va) (u9 : va ≤ 2147483647) : rxP110 S [0, (-1)] ∧ ∀ (S_p : Nat → Int → Int) (res : Int), (-6) ≤ res → res ≤ (-1) → rxPS110 S [0, (-1)] S_p (some res) → bx_Inv rxL S_p → bx_same rxL (bx_mdl rxC110.2.2.1) S S_p → rxI229_2 S0 ws S_p wh va res ∧ rxm229_2 S0 ws S_p wh va res < rxm229_1 S0 ws S wh va := by
  obtain ⟨rfl, h1, hw⟩ := hinv
  refine ⟨trivial, fun S_p res _ _ hq _ hsm => ⟨⟨?_, h1, hw, hsm⟩, by unfold rxm229_1 rxm229_2; omega⟩⟩
  obtain ⟨c, hc, hr⟩ := hq
  simp only [List.cons.injEq, and_true, true_and] at hc
  simp only [Option.some.injEq] at hr
  omega
theorem rxs229_1 {X : (Nat → Int → Int) → Prop} {S0 : Nat → Int → Int} {ws : List Int} (hP : rxP229 S0 ws) : rx_obK X S0 rxC229.2.2.1 rxC110.2.2.1 (rxI229 S0 ws) (rxm229 S0 ws) 1 2 rxz229_1 rxz229_2 [.inr (3, (0, 0)), .inr (0, (0, (-1)))] (some 10) rxP110 rxPS110 := by
  intro S r hinv hXS I0 hin hs_ hf_
  have b_ := bx_bds_sat hs_
  have f_ := bx_fcl_ok hs_.1 hf_
  obtain ⟨⟨l8, u8⟩, ⟨l9, u9⟩, -⟩ := b_
  have g := rxk229_1 hP hin I0 hinv l8 u8 l9 u9
  have ea : List.map (bx_num r) [.inr (3, (0, 0)), .inr (0, (0, (-1)))] = [0, -1] := by
    simp only [List.map_cons, List.map_nil, bx_xv_ok hs_.1]
    rfl
  rw [ea]
  refine ⟨g.1, fun S_p w r_p hPS hX_p I1 hsm hr hw hs_p => ?_⟩
  have hw := hw _ rfl
  subst hw
  have b_p := hs_p.2.2 10 _ _ rfl
  have g2 := g.2 S_p (r_p 10) b_p.1 b_p.2 hPS I1 hsm
  show rxI229_2 S0 ws S_p (r_p 8) (r_p 9) (r_p 10) ∧ rxm229_2 S0 ws S_p (r_p 8) (r_p 9) (r_p 10) < _
  rw [hr 8 (by decide), hr 9 (by decide)]
  exact g2
theorem rxc229_0_0 {S0 : Nat → Int → Int} {ws : List Int} {S : Nat → Int → Int} {wh va : Int} (hP : rxP229 S0 ws) (hin : bx_same rxL (bx_mdl rxC229.2.2.1) S0 S) (I0 : bx_Inv rxL S) (hinv : rxI229_0 S0 ws S wh va) (l8 : 2 ≤ wh) (u8 : wh ≤ 2) (l9 : 101 ≤ va) (u9 : va ≤ 2147483647) (f0 : wh ≠ 1) (f1 : wh ≠ 0) : (True) ∧ (True) ∧ rxI229_1 S0 ws S wh va ∧ rxm229_1 S0 ws S wh va < rxm229_0 S0 ws S wh va := by
  obtain ⟨rfl, hw⟩ := hinv
  exact ⟨trivial, trivial, ⟨rfl, by omega, hw⟩, by unfold rxm229_0 rxm229_1; omega⟩
theorem rxg229_0_0 {X : (Nat → Int → Int) → Prop} {S0 : Nat → Int → Int} {ws : List Int} (hP : rxP229 S0 ws) : bx_obC rxL X S0 rxC229.2.2.1 (rxI229 S0 ws) (rxm229 S0 ws) 0 rxz229_0 rxo229_0_0 := by
  intro S S_p r r_p hinv hX hin hsm_ hseg
  obtain ⟨I0, I1, h0_, hr_, b_, f_, d_⟩ := bx_cl (evs := []) (fvs := [(3, (8, 0), (0, 1), (0, 0)), (3, (8, 0), (0, 0), (0, 0))]) hseg (by decide +kernel) (by decide +kernel)
  have hinv : rxI229_0 S0 ws S (r 8) (r 9) := hinv
  rw [← hr_ 8 (by decide), ← hr_ 9 (by decide)] at hinv
  obtain ⟨⟨l8, u8⟩, ⟨l9, u9⟩, -⟩ := b_
  obtain ⟨f0, f1, -⟩ := f_
  have w_ := d_
  subst w_
  have g := rxc229_0_0 hP hin I0 hinv l8 u8 l9 u9 f0 f1
  refine ⟨bx_narP_ok (l := []) g.1, bx_nfP_ok h0_ (fvs := []) (by decide +kernel) g.2.1, ?_, ?_⟩
  · show rxI229_1 S0 ws S_p (bx_val [(0, 0), (0, 0), (0, 0), (0, 0), (0, 0), (0, 0), (0, 0), (0, 0), (8, 0), (9, 0)] r_p 8) (bx_val [(0, 0), (0, 0), (0, 0), (0, 0), (0, 0), (0, 0), (0, 0), (0, 0), (8, 0), (9, 0)] r_p 9)
    rw [bx_val_x (n := 8) (e := (8, 0)) h0_ rfl, bx_val_x (n := 9) (e := (9, 0)) h0_ rfl]
    exact g.2.2.1
  · show rxm229_1 S0 ws S_p (bx_val [(0, 0), (0, 0), (0, 0), (0, 0), (0, 0), (0, 0), (0, 0), (0, 0), (8, 0), (9, 0)] r_p 8) (bx_val [(0, 0), (0, 0), (0, 0), (0, 0), (0, 0), (0, 0), (0, 0), (0, 0), (8, 0), (9, 0)] r_p 9) < rxm229_0 S0 ws S_p (r 8) (r 9)
    rw [bx_val_x (n := 8) (e := (8, 0)) h0_ rfl, bx_val_x (n := 9) (e := (9, 0)) h0_ rfl, ← hr_ 8 (by decide), ← hr_ 9 (by decide)]
    exact g.2.2.2
theorem rxc229_0_1 {S0 : Nat → Int → Int} {ws : List Int} {S : Nat → Int → Int} {wh va : Int} (hP : rxP229 S0 ws) (hin : bx_same rxL (bx_mdl rxC229.2.2.1) S0 S) (I0 : bx_Inv rxL S) (hinv : rxI229_0 S0 ws S wh va) (l8 : 1 ≤ wh) (u8 : wh ≤ 1) (l9 : 10 ≤ va) (u9 : va ≤ 2147483647) (f0 : wh ≠ 0) : (True) ∧ (True) ∧ rxI229_1 S0 ws S wh va ∧ rxm229_1 S0 ws S wh va < rxm229_0 S0 ws S wh va := by
  obtain ⟨rfl, hw⟩ := hinv
  exact ⟨trivial, trivial, ⟨rfl, by omega, hw⟩, by unfold rxm229_0 rxm229_1; omega⟩
theorem rxg229_0_1 {X : (Nat → Int → Int) → Prop} {S0 : Nat → Int → Int} {ws : List Int} (hP : rxP229 S0 ws) : bx_obC rxL X S0 rxC229.2.2.1 (rxI229 S0 ws) (rxm229 S0 ws) 0 rxz229_0 rxo229_0_1 := by
  intro S S_p r r_p hinv hX hin hsm_ hseg
  obtain ⟨I0, I1, h0_, hr_, b_, f_, d_⟩ := bx_cl (evs := []) (fvs := [(3, (8, 0), (0, 0), (0, 0))]) hseg (by decide +kernel) (by decide +kernel)
  have hinv : rxI229_0 S0 ws S (r 8) (r 9) := hinv
  rw [← hr_ 8 (by decide), ← hr_ 9 (by decide)] at hinv
  obtain ⟨⟨l8, u8⟩, ⟨l9, u9⟩, -⟩ := b_
  obtain ⟨f0, -⟩ := f_
  have w_ := d_
  subst w_
  have g := rxc229_0_1 hP hin I0 hinv l8 u8 l9 u9 f0
  refine ⟨bx_narP_ok (l := []) g.1, bx_nfP_ok h0_ (fvs := []) (by decide +kernel) g.2.1, ?_, ?_⟩
  · show rxI229_1 S0 ws S_p (bx_val [(0, 0), (0, 0), (0, 0), (0, 0), (0, 0), (0, 0), (0, 0), (0, 0), (8, 0), (9, 0)] r_p 8) (bx_val [(0, 0), (0, 0), (0, 0), (0, 0), (0, 0), (0, 0), (0, 0), (0, 0), (8, 0), (9, 0)] r_p 9)
    rw [bx_val_x (n := 8) (e := (8, 0)) h0_ rfl, bx_val_x (n := 9) (e := (9, 0)) h0_ rfl]
    exact g.2.2.1
  · show rxm229_1 S0 ws S_p (bx_val [(0, 0), (0, 0), (0, 0), (0, 0), (0, 0), (0, 0), (0, 0), (0, 0), (8, 0), (9, 0)] r_p 8) (bx_val [(0, 0), (0, 0), (0, 0), (0, 0), (0, 0), (0, 0), (0, 0), (0, 0), (8, 0), (9, 0)] r_p 9) < rxm229_0 S0 ws S_p (r 8) (r 9)
    rw [bx_val_x (n := 8) (e := (8, 0)) h0_ rfl, bx_val_x (n := 9) (e := (9, 0)) h0_ rfl, ← hr_ 8 (by decide), ← hr_ 9 (by decide)]
    exact g.2.2.2
theorem rxc229_0_2 {S0 : Nat → Int → Int} {ws : List Int} {S : Nat → Int → Int} {wh va : Int} (hP : rxP229 S0 ws) (hin : bx_same rxL (bx_mdl rxC229.2.2.1) S0 S) (I0 : bx_Inv rxL S) (hinv : rxI229_0 S0 ws S wh va) (l8 : 0 ≤ wh) (u8 : wh ≤ 0) (l9 : 301 ≤ va) (u9 : va ≤ 2147483647) : (True) ∧ (True) ∧ rxI229_1 S0 ws S wh va ∧ rxm229_1 S0 ws S wh va < rxm229_0 S0 ws S wh va := by
  obtain ⟨rfl, hw⟩ := hinv
  exact ⟨trivial, trivial, ⟨rfl, by omega, hw⟩, by unfold rxm229_0 rxm229_1; omega⟩
theorem rxg229_0_2 {X : (Nat → Int → Int) → Prop} {S0 : Nat → Int → Int} {ws : List Int} (hP : rxP229 S0 ws) : bx_obC rxL X S0 rxC229.2.2.1 (rxI229 S0 ws) (rxm229 S0 ws) 0 rxz229_0 rxo229_0_2 := by
  intro S S_p r r_p hinv hX hin hsm_ hseg
  obtain ⟨I0, I1, h0_, hr_, b_, f_, d_⟩ := bx_cl (evs := []) (fvs := []) hseg (by decide +kernel) (by decide +kernel)
  have hinv : rxI229_0 S0 ws S (r 8) (r 9) := hinv
  rw [← hr_ 8 (by decide), ← hr_ 9 (by decide)] at hinv
  obtain ⟨⟨l8, u8⟩, ⟨l9, u9⟩, -⟩ := b_
  have w_ := d_
  subst w_
  have g := rxc229_0_2 hP hin I0 hinv l8 u8 l9 u9
  refine ⟨bx_narP_ok (l := []) g.1, bx_nfP_ok h0_ (fvs := []) (by decide +kernel) g.2.1, ?_, ?_⟩
  · show rxI229_1 S0 ws S_p (bx_val [(0, 0), (0, 0), (0, 0), (0, 0), (0, 0), (0, 0), (0, 0), (0, 0), (8, 0), (9, 0)] r_p 8) (bx_val [(0, 0), (0, 0), (0, 0), (0, 0), (0, 0), (0, 0), (0, 0), (0, 0), (8, 0), (9, 0)] r_p 9)
    rw [bx_val_x (n := 8) (e := (8, 0)) h0_ rfl, bx_val_x (n := 9) (e := (9, 0)) h0_ rfl]
    exact g.2.2.1
  · show rxm229_1 S0 ws S_p (bx_val [(0, 0), (0, 0), (0, 0), (0, 0), (0, 0), (0, 0), (0, 0), (0, 0), (8, 0), (9, 0)] r_p 8) (bx_val [(0, 0), (0, 0), (0, 0), (0, 0), (0, 0), (0, 0), (0, 0), (0, 0), (8, 0), (9, 0)] r_p 9) < rxm229_0 S0 ws S_p (r 8) (r 9)
    rw [bx_val_x (n := 8) (e := (8, 0)) h0_ rfl, bx_val_x (n := 9) (e := (9, 0)) h0_ rfl, ← hr_ 8 (by decide), ← hr_ 9 (by decide)]
    exact g.2.2.2
theorem rxc229_0_3 {S0 : Nat → Int → Int} {ws : List Int} {S : Nat → Int → Int} {wh va : Int} (hP : rxP229 S0 ws) (hin : bx_same rxL (bx_mdl rxC229.2.2.1) S0 S) (I0 : bx_Inv rxL S) (hinv : rxI229_0 S0 ws S wh va) (l8 : 0 ≤ wh) (u8 : wh ≤ 2) (l9 : (-2147483648) ≤ va) (u9 : va ≤ (-1)) : (True) ∧ (True) ∧ rxI229_1 S0 ws S wh va ∧ rxm229_1 S0 ws S wh va < rxm229_0 S0 ws S wh va := by
  obtain ⟨rfl, hw⟩ := hinv
  exact ⟨trivial, trivial, ⟨rfl, by omega, hw⟩, by unfold rxm229_0 rxm229_1; omega⟩
theorem rxg229_0_3 {X : (Nat → Int → Int) → Prop} {S0 : Nat → Int → Int} {ws : List Int} (hP : rxP229 S0 ws) : bx_obC rxL X S0 rxC229.2.2.1 (rxI229 S0 ws) (rxm229 S0 ws) 0 rxz229_0 rxo229_0_3 := by
  intro S S_p r r_p hinv hX hin hsm_ hseg
  obtain ⟨I0, I1, h0_, hr_, b_, f_, d_⟩ := bx_cl (evs := []) (fvs := []) hseg (by decide +kernel) (by decide +kernel)
  have hinv : rxI229_0 S0 ws S (r 8) (r 9) := hinv
  rw [← hr_ 8 (by decide), ← hr_ 9 (by decide)] at hinv
  obtain ⟨⟨l8, u8⟩, ⟨l9, u9⟩, -⟩ := b_
  have w_ := d_
  subst w_
  have g := rxc229_0_3 hP hin I0 hinv l8 u8 l9 u9
  refine ⟨bx_narP_ok (l := []) g.1, bx_nfP_ok h0_ (fvs := []) (by decide +kernel) g.2.1, ?_, ?_⟩
  · show rxI229_1 S0 ws S_p (bx_val [(0, 0), (0, 0), (0, 0), (0, 0), (0, 0), (0, 0), (0, 0), (0, 0), (8, 0), (9, 0)] r_p 8) (bx_val [(0, 0), (0, 0), (0, 0), (0, 0), (0, 0), (0, 0), (0, 0), (0, 0), (8, 0), (9, 0)] r_p 9)
    rw [bx_val_x (n := 8) (e := (8, 0)) h0_ rfl, bx_val_x (n := 9) (e := (9, 0)) h0_ rfl]
    exact g.2.2.1
  · show rxm229_1 S0 ws S_p (bx_val [(0, 0), (0, 0), (0, 0), (0, 0), (0, 0), (0, 0), (0, 0), (0, 0), (8, 0), (9, 0)] r_p 8) (bx_val [(0, 0), (0, 0), (0, 0), (0, 0), (0, 0), (0, 0), (0, 0), (0, 0), (8, 0), (9, 0)] r_p 9) < rxm229_0 S0 ws S_p (r 8) (r 9)
    rw [bx_val_x (n := 8) (e := (8, 0)) h0_ rfl, bx_val_x (n := 9) (e := (9, 0)) h0_ rfl, ← hr_ 8 (by decide), ← hr_ 9 (by decide)]
    exact g.2.2.2
theorem rxc229_0_4 {S0 : Nat → Int → Int} {ws : List Int} {S : Nat → Int → Int} {wh va : Int} (hP : rxP229 S0 ws) (hin : bx_same rxL (bx_mdl rxC229.2.2.1) S0 S) (I0 : bx_Inv rxL S) (hinv : rxI229_0 S0 ws S wh va) (l8 : 3 ≤ wh) (u8 : wh ≤ 2147483647) (l9 : (-2147483648) ≤ va) (u9 : va ≤ 2147483647) : (True) ∧ (True) ∧ rxI229_1 S0 ws S wh va ∧ rxm229_1 S0 ws S wh va < rxm229_0 S0 ws S wh va := by
  obtain ⟨rfl, hw⟩ := hinv
  exact ⟨trivial, trivial, ⟨rfl, by omega, hw⟩, by unfold rxm229_0 rxm229_1; omega⟩
theorem rxg229_0_4 {X : (Nat → Int → Int) → Prop} {S0 : Nat → Int → Int} {ws : List Int} (hP : rxP229 S0 ws) : bx_obC rxL X S0 rxC229.2.2.1 (rxI229 S0 ws) (rxm229 S0 ws) 0 rxz229_0 rxo229_0_4 := by
  intro S S_p r r_p hinv hX hin hsm_ hseg
  obtain ⟨I0, I1, h0_, hr_, b_, f_, d_⟩ := bx_cl (evs := []) (fvs := []) hseg (by decide +kernel) (by decide +kernel)
  have hinv : rxI229_0 S0 ws S (r 8) (r 9) := hinv
  rw [← hr_ 8 (by decide), ← hr_ 9 (by decide)] at hinv
  obtain ⟨⟨l8, u8⟩, ⟨l9, u9⟩, -⟩ := b_
  have w_ := d_
  subst w_
  have g := rxc229_0_4 hP hin I0 hinv l8 u8 l9 u9
  refine ⟨bx_narP_ok (l := []) g.1, bx_nfP_ok h0_ (fvs := []) (by decide +kernel) g.2.1, ?_, ?_⟩
  · show rxI229_1 S0 ws S_p (bx_val [(0, 0), (0, 0), (0, 0), (0, 0), (0, 0), (0, 0), (0, 0), (0, 0), (8, 0), (9, 0)] r_p 8) (bx_val [(0, 0), (0, 0), (0, 0), (0, 0), (0, 0), (0, 0), (0, 0), (0, 0), (8, 0), (9, 0)] r_p 9)
    rw [bx_val_x (n := 8) (e := (8, 0)) h0_ rfl, bx_val_x (n := 9) (e := (9, 0)) h0_ rfl]
    exact g.2.2.1
  · show rxm229_1 S0 ws S_p (bx_val [(0, 0), (0, 0), (0, 0), (0, 0), (0, 0), (0, 0), (0, 0), (0, 0), (8, 0), (9, 0)] r_p 8) (bx_val [(0, 0), (0, 0), (0, 0), (0, 0), (0, 0), (0, 0), (0, 0), (0, 0), (8, 0), (9, 0)] r_p 9) < rxm229_0 S0 ws S_p (r 8) (r 9)
    rw [bx_val_x (n := 8) (e := (8, 0)) h0_ rfl, bx_val_x (n := 9) (e := (9, 0)) h0_ rfl, ← hr_ 8 (by decide), ← hr_ 9 (by decide)]
    exact g.2.2.2
theorem rxc229_0_5 {S0 : Nat → Int → Int} {ws : List Int} {S : Nat → Int → Int} {wh va : Int} (hP : rxP229 S0 ws) (hin : bx_same rxL (bx_mdl rxC229.2.2.1) S0 S) (I0 : bx_Inv rxL S) (hinv : rxI229_0 S0 ws S wh va) (l8 : (-2147483648) ≤ wh) (u8 : wh ≤ (-1)) (l9 : (-2147483648) ≤ va) (u9 : va ≤ 2147483647) : (True) ∧ (True) ∧ rxI229_1 S0 ws S wh va ∧ rxm229_1 S0 ws S wh va < rxm229_0 S0 ws S wh va := by
  obtain ⟨rfl, hw⟩ := hinv
  exact ⟨trivial, trivial, ⟨rfl, by omega, hw⟩, by unfold rxm229_0 rxm229_1; omega⟩
theorem rxg229_0_5 {X : (Nat → Int → Int) → Prop} {S0 : Nat → Int → Int} {ws : List Int} (hP : rxP229 S0 ws) : bx_obC rxL X S0 rxC229.2.2.1 (rxI229 S0 ws) (rxm229 S0 ws) 0 rxz229_0 rxo229_0_5 := by
  intro S S_p r r_p hinv hX hin hsm_ hseg
  obtain ⟨I0, I1, h0_, hr_, b_, f_, d_⟩ := bx_cl (evs := []) (fvs := []) hseg (by decide +kernel) (by decide +kernel)
  have hinv : rxI229_0 S0 ws S (r 8) (r 9) := hinv
  rw [← hr_ 8 (by decide), ← hr_ 9 (by decide)] at hinv
  obtain ⟨⟨l8, u8⟩, ⟨l9, u9⟩, -⟩ := b_
  have w_ := d_
  subst w_
  have g := rxc229_0_5 hP hin I0 hinv l8 u8 l9 u9
  refine ⟨bx_narP_ok (l := []) g.1, bx_nfP_ok h0_ (fvs := []) (by decide +kernel) g.2.1, ?_, ?_⟩
  · show rxI229_1 S0 ws S_p (bx_val [(0, 0), (0, 0), (0, 0), (0, 0), (0, 0), (0, 0), (0, 0), (0, 0), (8, 0), (9, 0)] r_p 8) (bx_val [(0, 0), (0, 0), (0, 0), (0, 0), (0, 0), (0, 0), (0, 0), (0, 0), (8, 0), (9, 0)] r_p 9)
    rw [bx_val_x (n := 8) (e := (8, 0)) h0_ rfl, bx_val_x (n := 9) (e := (9, 0)) h0_ rfl]
    exact g.2.2.1
  · show rxm229_1 S0 ws S_p (bx_val [(0, 0), (0, 0), (0, 0), (0, 0), (0, 0), (0, 0), (0, 0), (0, 0), (8, 0), (9, 0)] r_p 8) (bx_val [(0, 0), (0, 0), (0, 0), (0, 0), (0, 0), (0, 0), (0, 0), (0, 0), (8, 0), (9, 0)] r_p 9) < rxm229_0 S0 ws S_p (r 8) (r 9)
    rw [bx_val_x (n := 8) (e := (8, 0)) h0_ rfl, bx_val_x (n := 9) (e := (9, 0)) h0_ rfl, ← hr_ 8 (by decide), ← hr_ 9 (by decide)]
    exact g.2.2.2
theorem rxd229_0_0 {S0 : Nat → Int → Int} {ws : List Int} {S : Nat → Int → Int} {wh va x10 : Int} (hP : rxP229 S0 ws) (hin : bx_same rxL (bx_mdl rxC229.2.2.1) S0 S) (hin2 : bx_same rxL (bx_mdl rxC229.2.2.1) S (bx_up (bx_up S 19 wh va) 0 8 0)) (I0 : bx_Inv rxL S) (I1 : bx_Inv rxL (bx_up (bx_up S 19 wh va) 0 8 0)) (hinv : rxI229_0 S0 ws S wh va) (l8 : 2 ≤ wh) (u8 : wh ≤ 2) (l9 : 0 ≤ va) (u9 : va ≤ 100) (l10 : 0 ≤ x10) (u10 : x10 ≤ 300) (f0 : wh ≠ 1) (f1 : wh ≠ 0) (e2 : S 19 wh = x10) : (True) ∧ rxPS229 S0 ws (bx_up (bx_up S 19 wh va) 0 8 0) (some x10) := by
  obtain ⟨rfl, hw⟩ := hinv
  obtain rfl : wh = 2 := by omega
  refine ⟨trivial, 2, va, hw, Or.inr (Or.inr (Or.inr (⟨?_, ?_, ?_, ?_, (bx_up_ne (by omega)).trans ((bx_up_ne (by omega))), (bx_up_ne (by omega)).trans ((bx_up_ne (by omega))), ((bx_up_ne (by omega)).trans (bx_up_at)).trans (by omega), (bx_up_ne (by omega)).trans ((bx_up_ne (by omega))), (bx_up_ne (by omega)).trans ((bx_up_ne (by omega))), (bx_up_ne (by omega)).trans ((bx_up_ne (by omega))), (bx_up_ne (by omega)).trans ((bx_up_ne (by omega))), (bx_up_ne (by omega)).trans ((bx_up_ne (by omega))), (bx_up_ne (by omega)).trans ((bx_up_ne (by omega)))⟩)))⟩ <;> first | omega | exact hin2 | exact congrArg some (by omega) | (intro i i0 i1; simp only [bx_up]; (repeat' split) <;> first | rfl | omega | (simp_all; done) | (simp_all; omega)) | ((repeat (first | rw [bx_up_at] | rw [bx_up_ne (by omega)])); omega) | exact True.intro
theorem rxf229_0_0 {X : (Nat → Int → Int) → Prop} {S0 : Nat → Int → Int} {ws : List Int} (hP : rxP229 S0 ws) : bx_obE rxL X S0 rxC229.2.2.1 (rxI229 S0 ws) (rxPS229 S0 ws) 0 rxz229_0 rxe229_0_0 := by
  intro S S_p r r_p hinv hX hin hsm_ hseg
  obtain ⟨I0, I1, h0_, hr_, b_, f_, d_⟩ := bx_cl (evs := [(1, (0, 0), (0, 8), .inr (0, (0, 0))), (1, (0, 19), (8, 0), .inr (0, (9, 0))), (0, (0, 19), (8, 0), .inr (0, (10, 0)))]) (fvs := [(3, (8, 0), (0, 1), (0, 0)), (3, (8, 0), (0, 0), (0, 0))]) hseg (by decide +kernel) (by decide +kernel)
  have hinv : rxI229_0 S0 ws S (r 8) (r 9) := hinv
  rw [← hr_ 8 (by decide), ← hr_ 9 (by decide)] at hinv
  obtain ⟨⟨l8, u8⟩, ⟨l9, u9⟩, ⟨l10, u10⟩, -⟩ := b_
  obtain ⟨f0, f1, -⟩ := f_
  obtain ⟨T0, ⟨T1, ⟨e2, w_⟩, w1⟩, w0⟩ := d_
  subst w0
  subst w1
  subst w_
  have g := rxd229_0_0 hP hin hsm_ I0 I1 hinv l8 u8 l9 u9 l10 u10 f0 f1 e2
  refine ⟨bx_narP_ok (l := []) g.1, ?_⟩
  show rxPS229 S0 ws (bx_up (bx_up T1 19 (r_p 8) (r_p 9)) 0 (8) (0)) (some (bx_num r_p (.inr (0, (10, 0)))))
  rw [bx_xv_ok h0_]
  exact g.2
theorem rxd229_0_1 {S0 : Nat → Int → Int} {ws : List Int} {S : Nat → Int → Int} {wh va x10 : Int} (hP : rxP229 S0 ws) (hin : bx_same rxL (bx_mdl rxC229.2.2.1) S0 S) (hin2 : bx_same rxL (bx_mdl rxC229.2.2.1) S (bx_up (bx_up S 19 wh va) 0 8 0)) (I0 : bx_Inv rxL S) (I1 : bx_Inv rxL (bx_up (bx_up S 19 wh va) 0 8 0)) (hinv : rxI229_0 S0 ws S wh va) (l8 : 1 ≤ wh) (u8 : wh ≤ 1) (l9 : 0 ≤ va) (u9 : va ≤ 9) (l10 : 0 ≤ x10) (u10 : x10 ≤ 300) (f0 : wh ≠ 0) (e2 : S 19 wh = x10) : (True) ∧ rxPS229 S0 ws (bx_up (bx_up S 19 wh va) 0 8 0) (some x10) := by
  obtain ⟨rfl, hw⟩ := hinv
  obtain rfl : wh = 1 := by omega
  refine ⟨trivial, 1, va, hw, Or.inr (Or.inr (Or.inl (⟨?_, ?_, ?_, ?_, (bx_up_ne (by omega)).trans ((bx_up_ne (by omega))), ((bx_up_ne (by omega)).trans (bx_up_at)).trans (by omega), (bx_up_ne (by omega)).trans ((bx_up_ne (by omega))), (bx_up_ne (by omega)).trans ((bx_up_ne (by omega))), (bx_up_ne (by omega)).trans ((bx_up_ne (by omega))), (bx_up_ne (by omega)).trans ((bx_up_ne (by omega))), (bx_up_ne (by omega)).trans ((bx_up_ne (by omega))), (bx_up_ne (by omega)).trans ((bx_up_ne (by omega))), (bx_up_ne (by omega)).trans ((bx_up_ne (by omega)))⟩)))⟩ <;> first | omega | exact hin2 | exact congrArg some (by omega) | (intro i i0 i1; simp only [bx_up]; (repeat' split) <;> first | rfl | omega | (simp_all; done) | (simp_all; omega)) | ((repeat (first | rw [bx_up_at] | rw [bx_up_ne (by omega)])); omega) | exact True.intro
theorem rxf229_0_1 {X : (Nat → Int → Int) → Prop} {S0 : Nat → Int → Int} {ws : List Int} (hP : rxP229 S0 ws) : bx_obE rxL X S0 rxC229.2.2.1 (rxI229 S0 ws) (rxPS229 S0 ws) 0 rxz229_0 rxe229_0_1 := by
  intro S S_p r r_p hinv hX hin hsm_ hseg
  obtain ⟨I0, I1, h0_, hr_, b_, f_, d_⟩ := bx_cl (evs := [(1, (0, 0), (0, 8), .inr (0, (0, 0))), (1, (0, 19), (8, 0), .inr (0, (9, 0))), (0, (0, 19), (8, 0), .inr (0, (10, 0)))]) (fvs := [(3, (8, 0), (0, 0), (0, 0))]) hseg (by decide +kernel) (by decide +kernel)
  have hinv : rxI229_0 S0 ws S (r 8) (r 9) := hinv
  rw [← hr_ 8 (by decide), ← hr_ 9 (by decide)] at hinv
  obtain ⟨⟨l8, u8⟩, ⟨l9, u9⟩, ⟨l10, u10⟩, -⟩ := b_
  obtain ⟨f0, -⟩ := f_
  obtain ⟨T0, ⟨T1, ⟨e2, w_⟩, w1⟩, w0⟩ := d_
  subst w0
  subst w1
  subst w_
  have g := rxd229_0_1 hP hin hsm_ I0 I1 hinv l8 u8 l9 u9 l10 u10 f0 e2
  refine ⟨bx_narP_ok (l := []) g.1, ?_⟩
  show rxPS229 S0 ws (bx_up (bx_up T1 19 (r_p 8) (r_p 9)) 0 (8) (0)) (some (bx_num r_p (.inr (0, (10, 0)))))
  rw [bx_xv_ok h0_]
  exact g.2
theorem rxd229_0_2 {S0 : Nat → Int → Int} {ws : List Int} {S : Nat → Int → Int} {wh va x10 : Int} (hP : rxP229 S0 ws) (hin : bx_same rxL (bx_mdl rxC229.2.2.1) S0 S) (hin2 : bx_same rxL (bx_mdl rxC229.2.2.1) S (bx_up (bx_up S 19 wh va) 0 8 0)) (I0 : bx_Inv rxL S) (I1 : bx_Inv rxL (bx_up (bx_up S 19 wh va) 0 8 0)) (hinv : rxI229_0 S0 ws S wh va) (l8 : 0 ≤ wh) (u8 : wh ≤ 0) (l9 : 0 ≤ va) (u9 : va ≤ 300) (l10 : 0 ≤ x10) (u10 : x10 ≤ 300) (e2 : S 19 wh = x10) : (True) ∧ rxPS229 S0 ws (bx_up (bx_up S 19 wh va) 0 8 0) (some x10) := by
  obtain ⟨rfl, hw⟩ := hinv
  obtain rfl : wh = 0 := by omega
  refine ⟨trivial, 0, va, hw, Or.inr (Or.inl (⟨?_, ?_, ?_, ?_, ((bx_up_ne (by omega)).trans (bx_up_at)).trans (by omega), (bx_up_ne (by omega)).trans ((bx_up_ne (by omega))), (bx_up_ne (by omega)).trans ((bx_up_ne (by omega))), (bx_up_ne (by omega)).trans ((bx_up_ne (by omega))), (bx_up_ne (by omega)).trans ((bx_up_ne (by omega))), (bx_up_ne (by omega)).trans ((bx_up_ne (by omega))), (bx_up_ne (by omega)).trans ((bx_up_ne (by omega))), (bx_up_ne (by omega)).trans ((bx_up_ne (by omega))), (bx_up_ne (by omega)).trans ((bx_up_ne (by omega)))⟩))⟩ <;> first | omega | exact hin2 | exact congrArg some (by omega) | (intro i i0 i1; simp only [bx_up]; (repeat' split) <;> first | rfl | omega | (simp_all; done) | (simp_all; omega)) | ((repeat (first | rw [bx_up_at] | rw [bx_up_ne (by omega)])); omega) | exact True.intro
theorem rxf229_0_2 {X : (Nat → Int → Int) → Prop} {S0 : Nat → Int → Int} {ws : List Int} (hP : rxP229 S0 ws) : bx_obE rxL X S0 rxC229.2.2.1 (rxI229 S0 ws) (rxPS229 S0 ws) 0 rxz229_0 rxe229_0_2 := by
  intro S S_p r r_p hinv hX hin hsm_ hseg
  obtain ⟨I0, I1, h0_, hr_, b_, f_, d_⟩ := bx_cl (evs := [(1, (0, 0), (0, 8), .inr (0, (0, 0))), (1, (0, 19), (8, 0), .inr (0, (9, 0))), (0, (0, 19), (8, 0), .inr (0, (10, 0)))]) (fvs := []) hseg (by decide +kernel) (by decide +kernel)
  have hinv : rxI229_0 S0 ws S (r 8) (r 9) := hinv
  rw [← hr_ 8 (by decide), ← hr_ 9 (by decide)] at hinv
  obtain ⟨⟨l8, u8⟩, ⟨l9, u9⟩, ⟨l10, u10⟩, -⟩ := b_
  obtain ⟨T0, ⟨T1, ⟨e2, w_⟩, w1⟩, w0⟩ := d_
  subst w0
  subst w1
  subst w_
  have g := rxd229_0_2 hP hin hsm_ I0 I1 hinv l8 u8 l9 u9 l10 u10 e2
  refine ⟨bx_narP_ok (l := []) g.1, ?_⟩
  show rxPS229 S0 ws (bx_up (bx_up T1 19 (r_p 8) (r_p 9)) 0 (8) (0)) (some (bx_num r_p (.inr (0, (10, 0)))))
  rw [bx_xv_ok h0_]
  exact g.2
theorem rxd229_2_0 {S0 : Nat → Int → Int} {ws : List Int} {S : Nat → Int → Int} {wh va res : Int} (hP : rxP229 S0 ws) (hin : bx_same rxL (bx_mdl rxC229.2.2.1) S0 S) (hin2 : bx_same rxL (bx_mdl rxC229.2.2.1) S S) (I0 : bx_Inv rxL S) (I1 : bx_Inv rxL S) (hinv : rxI229_2 S0 ws S wh va res) (l8 : (-2147483648) ≤ wh) (u8 : wh ≤ 2147483647) (l9 : (-2147483648) ≤ va) (u9 : va ≤ 2147483647) (l10 : (-6) ≤ res) (u10 : res ≤ (-1)) : (True) ∧ rxPS229 S0 ws S (some res) := by
  obtain ⟨h1, h2, hw, hs⟩ := hinv
  refine ⟨trivial, wh, va, hw, Or.inl (⟨by omega, ?_, ?_⟩)⟩
  · exact congrArg some h1
  · exact hs
theorem rxf229_2_0 {X : (Nat → Int → Int) → Prop} {S0 : Nat → Int → Int} {ws : List Int} (hP : rxP229 S0 ws) : bx_obE rxL X S0 rxC229.2.2.1 (rxI229 S0 ws) (rxPS229 S0 ws) 2 rxz229_2 rxe229_2_0 := by
  intro S S_p r r_p hinv hX hin hsm_ hseg
  obtain ⟨I0, I1, h0_, hr_, b_, f_, d_⟩ := bx_cl (evs := []) (fvs := []) hseg (by decide +kernel) (by decide +kernel)
  have hinv : rxI229_2 S0 ws S (r 8) (r 9) (r 10) := hinv
  rw [← hr_ 8 (by decide), ← hr_ 9 (by decide), ← hr_ 10 (by decide)] at hinv
  obtain ⟨⟨l8, u8⟩, ⟨l9, u9⟩, ⟨l10, u10⟩, -⟩ := b_
  have w_ := d_
  subst w_
  have g := rxd229_2_0 hP hin hsm_ I0 I1 hinv l8 u8 l9 u9 l10 u10
  refine ⟨bx_narP_ok (l := []) g.1, ?_⟩
  show rxPS229 S0 ws S_p (some (bx_num r_p (.inr (0, (10, 0)))))
  rw [bx_xv_ok h0_]
  exact g.2
theorem rxgC229 {X : (Nat → Int → Int) → Prop} {S0 : Nat → Int → Int} {ws : List Int} (hP : rxP229 S0 ws) : bx_allI (fun i q => rxU229 q = true ∨ bx_allP (fun o => bx_obC rxL X S0 rxC229.2.2.1 (rxI229 S0 ws) (rxm229 S0 ws) i q.1 o) q.2.1) 0 rxY229 := ⟨Or.inr ⟨rxg229_0_0 hP, rxg229_0_1 hP, rxg229_0_2 hP, rxg229_0_3 hP, rxg229_0_4 hP, rxg229_0_5 hP, trivial⟩, Or.inl rfl, Or.inr trivial, trivial⟩
theorem rxgE229 {X : (Nat → Int → Int) → Prop} {S0 : Nat → Int → Int} {ws : List Int} (hP : rxP229 S0 ws) : bx_allI (fun i q => rxU229 q = true ∨ bx_allP (fun E => bx_obE rxL X S0 rxC229.2.2.1 (rxI229 S0 ws) (rxPS229 S0 ws) i q.1 E) q.2.2) 0 rxY229 := ⟨Or.inr ⟨rxf229_0_0 hP, rxf229_0_1 hP, rxf229_0_2 hP, trivial⟩, Or.inl rfl, Or.inr ⟨rxf229_2_0 hP, trivial⟩, trivial⟩
theorem rxu229 {PX : State → Prop} {Dg : va_G} {A : Nat → Prop} {ad xa : Nat → Nat} {l : Launch} {X : (Nat → Int → Int) → Prop} (hPX : rx_PXOK rxNW A PX) (hX : ∀ S S1 : Nat → Int → Int, X S → bx_same rxL (bx_mdl rxC229.2.2.1) S S1 → X S1) (hQ110 : bx_ConP rxG rxNW rxAO PX Dg rxL X vwCl A ad l rxM110 rxC110 rxP110 rxPS110) {S0 : Nat → Int → Int} {ws : List Int} (hP : rxP229 S0 ws) : ∀ (i : Nat) (q : bx_HE), rxY229[i]? = some q → rxU229 q = true → ∀ {p : Program} {e : Env} {R : Room} {s : State} {m : MethodId} {args : Array Value} {below : List Frame} {meth : Method} {c : Code} {Q : State → Prop} {H0 : Heap}, rx_Fr rxG rxNW rxAO PX p s m args meth c rxM229 → (∀ q, H0.size ≤ q → A q) → H0 = s.heap → rxM229.2.2.2.2.2.2.1 ≤ R.cells → rxM229.2.2.2.2.2.2.2 ≤ R.slots → rxC229.2.2.2.1 ≤ R.frames → rxC229.2.2.2.1 * 40 ≤ R.locals → bx_Step p l e R s m args below meth c Q Dg rxL X vwCl A xa H0 ad rxM229 rxY229 (rxI229 S0 ws) (rxm229 S0 ws) S0 rxC229.2.2.1 i q := by
  intro i q hq hus p e R s m args below meth c Q H0 hF hA hH0 hmc hms hd hdl
  match i, hq with
  | 0, hq =>
    cases hq
    exact absurd (show false = true from hus) Bool.false_ne_true
  | 1, hq =>
    cases hq
    exact rx_stepC (ins := .invokevirtual 110) (len := 3) (i_p := 2) (M_p := rxM110) (d := rxC229.2.2.2.1) (as := [.inr (3, (0, 0)), .inr (0, (0, (-1)))]) (t := []) (ct := rxC110) hPX hF rfl hA hH0 hmc hms hd hdl (by decide +kernel) rfl rfl (by decide +kernel) (by decide +kernel) hQ110 (by decide +kernel) rfl (Or.inr ⟨_, _, _, 1, rfl, rfl, by omega, rfl, rfl, rfl⟩) (rxs229_1 hP)
  | 2, hq =>
    cases hq
    exact absurd (show false = true from hus) Bool.false_ne_true
  | n + 3, hq => cases hq
theorem rxQ229 {PX : State → Prop} {Dg : va_G} {A : Nat → Prop} {ad xa : Nat → Nat} {l : Launch} {X : (Nat → Int → Int) → Prop} (hPX : rx_PXOK rxNW A PX) (hsl : ∀ s : State, PX s → ∀ o idx n : Nat, rxSl o idx = some n → ∃ tx : String, vk_R (rxNm o) idx tx (ad n) s)
    (hX : ∀ S S_p : Nat → Int → Int, X S → bx_same rxL (bx_mdl rxC229.2.2.1) S S_p → X S_p)
    (ih : ∀ (j2 : Nat) (ct2 : bx_Ct) (M2 : rx_Mt), ct2 ∈ rxCnE j2 → ct2.2.2.2.1 + 1 ≤ rxC229.2.2.2.1 → rxT.2.2.2.2.2 j2 = some M2 → bx_Con rxG rxNW rxAO PX Dg rxL X vwCl A ad l M2 ct2) (hQ110 : bx_ConP rxG rxNW rxAO PX Dg rxL X vwCl A ad l rxM110 rxC110 rxP110 rxPS110) : bx_ConP rxG rxNW rxAO PX Dg rxL X vwCl A ad l rxM229 rxC229 rxP229 rxPS229 :=
  rxQof (xa := xa) (Cn := rxCnE) (f := 30000) (j := 229) (tab := rxY229) (us := rxU229) hPX hsl hX ih rfl rxYc229 rxI229 rxm229
    (fun S0 ws r I0 I ht0 ht as he he1 hX0 hI0 hP hs ha => by
      have e := he.symm.trans (show bx_ent0 rxNP rxC229.1 bx_I0 [] = some ([(0, 0), (0, 0), (0, 0), (0, 0), (0, 0), (0, 0), (0, 0), (0, 0), ((-2147483648), 2147483647), ((-2147483648), 2147483647)], [], [.inr (3, (0, 0)), .inr (0, (8, 0)), .inr (0, (9, 0))]) from rfl)
      cases e
      subst ha
      have h0 : r 0 = 0 := hs.1
      show rxI229_0 S0 _ S0 (r 8) (r 9)
      refine ⟨rfl, ?_⟩
      simp only [List.map_cons, List.map_nil, bx_xv_ok h0]
      rfl)
    (fun S0 ws hP => rxu229 (xa := xa) hPX hX hQ110 hP) (fun S0 ws hP => rxgC229 hP) (fun S0 ws hP => rxgE229 hP)
set_option maxHeartbeats 1000000 in
theorem rzQ229 {PX : State → Prop} {Dg : va_G} {A : Nat → Prop} {ad : Nat → Nat} {l : Launch} (hPX : rx_PXOK rxNW A PX) (hsl : ∀ s : State, PX s → ∀ o idx n : Nat, rxSl o idx = some n → ∃ tx : String, vk_R (rxNm o) idx tx (ad n) s) (ih : ∀ (j : Nat) (ct : bx_Ct) (M : rx_Mt), ct ∈ rxCn j → rxT.2.2.2.2.2 j = some M → bx_Con rxG rxNW rxAO PX Dg rxL rxX vwCl A ad l M ct) : bx_ConP rxG rxNW rxAO PX Dg rxL rxX vwCl A ad l rxM229 rxC229 (fun _ _ => True) rxPS229 := by
  have q110 := rxQ110 (PX := PX) (Dg := Dg) (A := A) (ad := ad) (xa := fun n => n) (l := l) (X := rxX) hPX hsl (fun _ _ h hm => rxX_of (by decide +kernel) h hm) (fun _ _ _ h => absurd h List.not_mem_nil)
  have q229 := rxQ229 (PX := PX) (Dg := Dg) (A := A) (ad := ad) (xa := fun n => n) (l := l) (X := rxX) hPX hsl (fun _ _ h hm => rxX_of (by decide +kernel) h hm) (fun _ _ _ h => absurd h List.not_mem_nil) q110
  exact fun S0 ws h1 h2 h3 _ => q229 S0 ws h1 h2 h3 trivial
noncomputable def rxI230_0 (S0 : Nat → Int → Int) (ws : List Int) (S : Nat → Int → Int) (wh va : Int) : Prop := S = S0 ∧ ws = [480, wh, va]
noncomputable def rxm230_0 (S0 : Nat → Int → Int) (ws : List Int) (S : Nat → Int → Int) (wh va : Int) : Nat := 100
noncomputable def rxz230_0 : rx_Z := ([(0, 0), (0, 0), (0, 0), (0, 0), (0, 0), (0, 0), (0, 0), (0, 0), ((-2147483648), 2147483647), ((-2147483648), 2147483647)], [], [], 0, 0, 0, [(0, .inr (3, (0, 480))), (1, .inr (0, (8, 0))), (2, .inr (0, (9, 0)))], [])
noncomputable def rxe230_0_0 : rx_End × List (Nat × Int × Int) := (([(0, 0), (0, 0), (0, 0), (0, 0), (0, 0), (0, 0), (0, 0), (0, 0), (0, 0), ((-2147483648), (-1)), ((-2147483648), 2147483647), ((-2147483648), 2147483647)], [], [(((0, 0), 1851192626986356797625047037163794926384839479479878431390892035000000), .inr (0, (11, 0))), (((0, 481), 1), .inr (0, (11, 0))), (((0, 0), 1851192626986356797625047037163794926384839479479878431390892032000000), .inr (0, (10, 0))), (((0, 480), 2), .inr (3, (0, 481))), (((0, 0), 1851192626986356797625047037163794926384839479479878431390302211000000), .inr (0, (0, (-1)))), (((0, 480), 1), .inr (0, (0, (-1)))), (((0, 0), 1851192626986356797424340330377019318111018015026043177836478467000000), .inr (0, (0, 0))), (((0, 480), 0), .inr (0, (0, 0)))], some (.inr (0, (0, (-1))))), [])
noncomputable def rxe230_0_1 : rx_End × List (Nat × Int × Int) := (([(0, 0), (0, 0), (0, 0), (0, 0), (0, 0), (0, 0), (0, 0), (0, 0), (0, 0), (301, 2147483647), ((-2147483648), 2147483647), ((-2147483648), 2147483647)], [], [(((0, 0), 1851192626986356797625047037163794926384839479479878431390892035000000), .inr (0, (11, 0))), (((0, 481), 1), .inr (0, (11, 0))), (((0, 0), 1851192626986356797625047037163794926384839479479878431390892032000000), .inr (0, (10, 0))), (((0, 480), 2), .inr (3, (0, 481))), (((0, 0), 1851192626986356797625047037163794926384839479479878431390302211000000), .inr (0, (0, (-1)))), (((0, 480), 1), .inr (0, (0, (-1)))), (((0, 0), 1851192626986356797424340330377019318111018015026043177836478467000000), .inr (0, (0, 0))), (((0, 480), 0), .inr (0, (0, 0)))], some (.inr (0, (0, (-1))))), [])
noncomputable def rxe230_0_2 : rx_End × List (Nat × Int × Int) := (([(0, 0), (0, 0), (0, 0), (0, 0), (0, 0), (0, 0), (0, 0), (0, 0), (0, 0), (0, 300), (0, 300)], [], [(((0, 0), 1851192626986356797625047037163794926384839479479878431390302211000000), .inr (0, (0, 0))), (((0, 480), 1), .inr (0, (0, 0))), (((0, 0), 1851192626986356798829287277884448576027768266202889952714424323000000), .inr (0, (9, 0))), (((0, 482), 7), .inr (0, (9, 0))), (((0, 0), 1851192626986356798829287277884448576027768266202889952714424320000000), .inr (0, (10, 0))), (((0, 480), 3), .inr (3, (0, 482))), (((0, 0), 1851192626986356797424340330377019318111018015026043177836478467000000), .inr (0, (0, 0))), (((0, 480), 0), .inr (0, (0, 0)))], some (.inr (0, (10, 0)))), [])
noncomputable def rxe230_0_3 : rx_End × List (Nat × Int × Int) := (([(0, 0), (0, 0), (0, 0), (0, 0), (0, 0), (0, 0), (0, 0), (0, 0), (1, 1), ((-2147483648), (-1)), ((-2147483648), 2147483647), ((-2147483648), 2147483647)], [(3, (8, 0), (0, 0))], [(((0, 0), 1851192626986356797625047037163794926384839479479878431390892035000000), .inr (0, (11, 0))), (((0, 481), 1), .inr (0, (11, 0))), (((0, 0), 1851192626986356797625047037163794926384839479479878431390892032000000), .inr (0, (10, 0))), (((0, 480), 2), .inr (3, (0, 481))), (((0, 0), 1851192626986356797625047037163794926384839479479878431390302211000000), .inr (0, (0, (-1)))), (((0, 480), 1), .inr (0, (0, (-1)))), (((0, 0), 1851192626986356797424340330377019318111018015026043177836478467000000), .inr (0, (0, 0))), (((0, 480), 0), .inr (0, (0, 0)))], some (.inr (0, (0, (-1))))), [])
noncomputable def rxe230_0_4 : rx_End × List (Nat × Int × Int) := (([(0, 0), (0, 0), (0, 0), (0, 0), (0, 0), (0, 0), (0, 0), (0, 0), (1, 1), (10, 2147483647), ((-2147483648), 2147483647), ((-2147483648), 2147483647)], [(3, (8, 0), (0, 0))], [(((0, 0), 1851192626986356797625047037163794926384839479479878431390892035000000), .inr (0, (11, 0))), (((0, 481), 1), .inr (0, (11, 0))), (((0, 0), 1851192626986356797625047037163794926384839479479878431390892032000000), .inr (0, (10, 0))), (((0, 480), 2), .inr (3, (0, 481))), (((0, 0), 1851192626986356797625047037163794926384839479479878431390302211000000), .inr (0, (0, (-1)))), (((0, 480), 1), .inr (0, (0, (-1)))), (((0, 0), 1851192626986356797424340330377019318111018015026043177836478467000000), .inr (0, (0, 0))), (((0, 480), 0), .inr (0, (0, 0)))], some (.inr (0, (0, (-1))))), [])
noncomputable def rxe230_0_5 : rx_End × List (Nat × Int × Int) := (([(0, 0), (0, 0), (0, 0), (0, 0), (0, 0), (0, 0), (0, 0), (0, 0), (1, 1), (0, 9), (0, 9)], [(3, (8, 0), (0, 0))], [(((0, 0), 1851192626986356797625047037163794926384839479479878431390302211000000), .inr (0, (0, 0))), (((0, 480), 1), .inr (0, (0, 0))), (((0, 0), 1851192626986356799029993984671224184301589730656725206268248067000000), .inr (0, (9, 0))), (((0, 482), 8), .inr (0, (9, 0))), (((0, 0), 1851192626986356799029993984671224184301589730656725206268248064000000), .inr (0, (10, 0))), (((0, 480), 3), .inr (3, (0, 482))), (((0, 0), 1851192626986356797424340330377019318111018015026043177836478467000000), .inr (0, (0, 0))), (((0, 480), 0), .inr (0, (0, 0)))], some (.inr (0, (10, 0)))), [])
noncomputable def rxe230_0_6 : rx_End × List (Nat × Int × Int) := (([(0, 0), (0, 0), (0, 0), (0, 0), (0, 0), (0, 0), (0, 0), (0, 0), (2, 2), ((-2147483648), (-1)), ((-2147483648), 2147483647), ((-2147483648), 2147483647)], [(3, (8, 0), (0, 1)), (3, (8, 0), (0, 0))], [(((0, 0), 1851192626986356797625047037163794926384839479479878431390892035000000), .inr (0, (11, 0))), (((0, 481), 1), .inr (0, (11, 0))), (((0, 0), 1851192626986356797625047037163794926384839479479878431390892032000000), .inr (0, (10, 0))), (((0, 480), 2), .inr (3, (0, 481))), (((0, 0), 1851192626986356797625047037163794926384839479479878431390302211000000), .inr (0, (0, (-1)))), (((0, 480), 1), .inr (0, (0, (-1)))), (((0, 0), 1851192626986356797424340330377019318111018015026043177836478467000000), .inr (0, (0, 0))), (((0, 480), 0), .inr (0, (0, 0)))], some (.inr (0, (0, (-1))))), [])
noncomputable def rxe230_0_7 : rx_End × List (Nat × Int × Int) := (([(0, 0), (0, 0), (0, 0), (0, 0), (0, 0), (0, 0), (0, 0), (0, 0), (2, 2), (101, 2147483647), ((-2147483648), 2147483647), ((-2147483648), 2147483647)], [(3, (8, 0), (0, 1)), (3, (8, 0), (0, 0))], [(((0, 0), 1851192626986356797625047037163794926384839479479878431390892035000000), .inr (0, (11, 0))), (((0, 481), 1), .inr (0, (11, 0))), (((0, 0), 1851192626986356797625047037163794926384839479479878431390892032000000), .inr (0, (10, 0))), (((0, 480), 2), .inr (3, (0, 481))), (((0, 0), 1851192626986356797625047037163794926384839479479878431390302211000000), .inr (0, (0, (-1)))), (((0, 480), 1), .inr (0, (0, (-1)))), (((0, 0), 1851192626986356797424340330377019318111018015026043177836478467000000), .inr (0, (0, 0))), (((0, 480), 0), .inr (0, (0, 0)))], some (.inr (0, (0, (-1))))), [])
noncomputable def rxe230_0_8 : rx_End × List (Nat × Int × Int) := (([(0, 0), (0, 0), (0, 0), (0, 0), (0, 0), (0, 0), (0, 0), (0, 0), (2, 2), (0, 100), (0, 100)], [(3, (8, 0), (0, 1)), (3, (8, 0), (0, 0))], [(((0, 0), 1851192626986356797625047037163794926384839479479878431390302211000000), .inr (0, (0, 0))), (((0, 480), 1), .inr (0, (0, 0))), (((0, 0), 1851192626986356799230700691457999792575411195110560459822071811000000), .inr (0, (9, 0))), (((0, 482), 9), .inr (0, (9, 0))), (((0, 0), 1851192626986356799230700691457999792575411195110560459822071808000000), .inr (0, (10, 0))), (((0, 480), 3), .inr (3, (0, 482))), (((0, 0), 1851192626986356797424340330377019318111018015026043177836478467000000), .inr (0, (0, 0))), (((0, 480), 0), .inr (0, (0, 0)))], some (.inr (0, (10, 0)))), [])
noncomputable def rxe230_0_9 : rx_End × List (Nat × Int × Int) := (([(0, 0), (0, 0), (0, 0), (0, 0), (0, 0), (0, 0), (0, 0), (0, 0), ((-2147483648), 2147483647), ((-2147483648), 2147483647), ((-2147483648), 2147483647), ((-2147483648), 2147483647)], [(3, (8, 0), (0, 2)), (3, (8, 0), (0, 1)), (3, (8, 0), (0, 0))], [(((0, 0), 1851192626986356797625047037163794926384839479479878431390892035000000), .inr (0, (11, 0))), (((0, 481), 1), .inr (0, (11, 0))), (((0, 0), 1851192626986356797625047037163794926384839479479878431390892032000000), .inr (0, (10, 0))), (((0, 480), 2), .inr (3, (0, 481))), (((0, 0), 1851192626986356797625047037163794926384839479479878431390302211000000), .inr (0, (0, (-1)))), (((0, 480), 1), .inr (0, (0, (-1)))), (((0, 0), 1851192626986356797424340330377019318111018015026043177836478467000000), .inr (0, (0, 0))), (((0, 480), 0), .inr (0, (0, 0)))], some (.inr (0, (0, (-1))))), [])
noncomputable def rxY230 : List bx_HE := [(rxz230_0, [], [rxe230_0_0, rxe230_0_1, rxe230_0_2, rxe230_0_3, rxe230_0_4, rxe230_0_5, rxe230_0_6, rxe230_0_7, rxe230_0_8, rxe230_0_9])]
noncomputable def rxU230 (q : bx_HE) : Bool := false
noncomputable def rxYB230 : bx_B := (rxV, rxNP, rxDmf, bx_mdH rxC230.2.2.1)
set_option maxRecDepth 100000 in
theorem rxYc230 : bx_chkH rxYB230 rxM230 rxC230 rxY230 (rxU230, fun cut z => rx_ex2 (rxCT rxYB230 rxCnE) cut 30000 rxC230.2.2.2.1 230 z) = true := by decide +kernel
noncomputable def rxI230 (S0 : Nat → Int → Int) (ws : List Int) (i : Nat) : bx_SP := fun S r => match i with | 0 => rxI230_0 S0 ws S (r 8) (r 9) | _ => False
noncomputable def rxm230 (S0 : Nat → Int → Int) (ws : List Int) (i : Nat) (S : Nat → Int → Int) (r : Nat → Int) : Nat := match i with | 0 => rxm230_0 S0 ws S (r 8) (r 9) | _ => 0
noncomputable def rxP230 (S0 : Nat → Int → Int) (ws : List Int) : Prop := True
noncomputable def rxPS230 (S0 : Nat → Int → Int) (ws : List Int) (S : Nat → Int → Int) (w : Option Int) : Prop := ∃ wh va : Int, ws = [480, wh, va] ∧ (((wh < 0 ∨ 2 < wh ∨ va < 0 ∨ (wh = 0 ∧ 300 < va) ∨ (wh = 1 ∧ 9 < va) ∨ (wh = 2 ∧ 100 < va)) ∧ w = some (-1) ∧ (∀ j : Int, S 482 j = S0 482 j)) ∨ (wh = 0 ∧ 0 ≤ va ∧ va ≤ 300 ∧ w = some (S0 482 7) ∧ S 482 7 = va ∧ S 482 8 = S0 482 8 ∧ S 482 9 = S0 482 9) ∨ (wh = 1 ∧ 0 ≤ va ∧ va ≤ 9 ∧ w = some (S0 482 8) ∧ S 482 7 = S0 482 7 ∧ S 482 8 = va ∧ S 482 9 = S0 482 9) ∨ (wh = 2 ∧ 0 ≤ va ∧ va ≤ 100 ∧ w = some (S0 482 9) ∧ S 482 7 = S0 482 7 ∧ S 482 8 = S0 482 8 ∧ S 482 9 = va))
theorem rxd230_0_0 {S0 : Nat → Int → Int} {ws : List Int} {S : Nat → Int → Int} {wh va x10 x11 : Int} (hP : rxP230 S0 ws) (hin : bx_same rxL (bx_mdl rxC230.2.2.1) S0 S) (hin2 : bx_same rxL (bx_mdl rxC230.2.2.1) S (bx_up (bx_up (bx_up S 480 0 0) 480 1 ((-1))) 481 1 x11)) (I0 : bx_Inv rxL S) (I1 : bx_Inv rxL (bx_up (bx_up (bx_up S 480 0 0) 480 1 ((-1))) 481 1 x11)) (hinv : rxI230_0 S0 ws S wh va) (l8 : 0 ≤ wh) (u8 : wh ≤ 0) (l9 : (-2147483648) ≤ va) (u9 : va ≤ (-1)) (l10 : (-2147483648) ≤ x10) (u10 : x10 ≤ 2147483647) (l11 : (-2147483648) ≤ x11) (u11 : x11 ≤ 2147483647) (e1 : (bx_up (bx_up S 480 0 0) 480 1 ((-1))) 481 1 = x10) : (True) ∧ rxPS230 S0 ws (bx_up (bx_up (bx_up S 480 0 0) 480 1 ((-1))) 481 1 x11) (some ((-1))) := by
  obtain ⟨rfl, hw⟩ := hinv
  have e1 := (show _ = S 481 1 from (bx_up_ne (by omega)).trans ((bx_up_ne (by omega)))).symm.trans e1
  refine ⟨trivial, wh, va, hw, Or.inl (⟨?_, ?_, fun j => (bx_up_ne (by omega)).trans ((bx_up_ne (by omega)).trans ((bx_up_ne (by omega))))⟩)⟩ <;> first | omega | exact hin2 | exact congrArg some (by omega) | (intro i i0 i1; simp only [bx_up]; (repeat' split) <;> first | rfl | omega | (simp_all; done) | (simp_all; omega)) | ((repeat (first | rw [bx_up_at] | rw [bx_up_ne (by omega)])); omega) | exact True.intro
theorem rxf230_0_0 {X : (Nat → Int → Int) → Prop} {S0 : Nat → Int → Int} {ws : List Int} (hP : rxP230 S0 ws) : bx_obE rxL X S0 rxC230.2.2.1 (rxI230 S0 ws) (rxPS230 S0 ws) 0 rxz230_0 rxe230_0_0 := by
  intro S S_p r r_p hinv hX hin hsm_ hseg
  obtain ⟨I0, I1, h0_, hr_, b_, f_, d_⟩ := bx_cl (evs := [(1, (0, 481), (0, 1), .inr (0, (11, 0))), (0, (0, 481), (0, 1), .inr (0, (10, 0))), (1, (0, 480), (0, 1), .inr (0, (0, (-1)))), (1, (0, 480), (0, 0), .inr (0, (0, 0)))]) (fvs := []) hseg (by decide +kernel) (by decide +kernel)
  have hinv : rxI230_0 S0 ws S (r 8) (r 9) := hinv
  rw [← hr_ 8 (by decide), ← hr_ 9 (by decide)] at hinv
  obtain ⟨⟨l8, u8⟩, ⟨l9, u9⟩, ⟨l10, u10⟩, ⟨l11, u11⟩, -⟩ := b_
  obtain ⟨T0, ⟨e1, ⟨T2, ⟨T3, w_, w3⟩, w2⟩⟩, w0⟩ := d_
  subst w0
  subst w2
  subst w3
  subst w_
  have g := rxd230_0_0 hP hin hsm_ I0 I1 hinv l8 u8 l9 u9 l10 u10 l11 u11 e1
  refine ⟨bx_narP_ok (l := []) g.1, ?_⟩
  show rxPS230 S0 ws (bx_up (bx_up (bx_up T3 480 (0) (0)) 480 (1) ((-1))) 481 (1) (r_p 11)) (some (bx_num r_p (.inr (0, (0, (-1))))))
  rw [bx_xv_ok h0_]
  exact g.2
theorem rxd230_0_1 {S0 : Nat → Int → Int} {ws : List Int} {S : Nat → Int → Int} {wh va x10 x11 : Int} (hP : rxP230 S0 ws) (hin : bx_same rxL (bx_mdl rxC230.2.2.1) S0 S) (hin2 : bx_same rxL (bx_mdl rxC230.2.2.1) S (bx_up (bx_up (bx_up S 480 0 0) 480 1 ((-1))) 481 1 x11)) (I0 : bx_Inv rxL S) (I1 : bx_Inv rxL (bx_up (bx_up (bx_up S 480 0 0) 480 1 ((-1))) 481 1 x11)) (hinv : rxI230_0 S0 ws S wh va) (l8 : 0 ≤ wh) (u8 : wh ≤ 0) (l9 : 301 ≤ va) (u9 : va ≤ 2147483647) (l10 : (-2147483648) ≤ x10) (u10 : x10 ≤ 2147483647) (l11 : (-2147483648) ≤ x11) (u11 : x11 ≤ 2147483647) (e1 : (bx_up (bx_up S 480 0 0) 480 1 ((-1))) 481 1 = x10) : (True) ∧ rxPS230 S0 ws (bx_up (bx_up (bx_up S 480 0 0) 480 1 ((-1))) 481 1 x11) (some ((-1))) := by
  obtain ⟨rfl, hw⟩ := hinv
  have e1 := (show _ = S 481 1 from (bx_up_ne (by omega)).trans ((bx_up_ne (by omega)))).symm.trans e1
  refine ⟨trivial, wh, va, hw, Or.inl (⟨?_, ?_, fun j => (bx_up_ne (by omega)).trans ((bx_up_ne (by omega)).trans ((bx_up_ne (by omega))))⟩)⟩ <;> first | omega | exact hin2 | exact congrArg some (by omega) | (intro i i0 i1; simp only [bx_up]; (repeat' split) <;> first | rfl | omega | (simp_all; done) | (simp_all; omega)) | ((repeat (first | rw [bx_up_at] | rw [bx_up_ne (by omega)])); omega) | exact True.intro
theorem rxf230_0_1 {X : (Nat → Int → Int) → Prop} {S0 : Nat → Int → Int} {ws : List Int} (hP : rxP230 S0 ws) : bx_obE rxL X S0 rxC230.2.2.1 (rxI230 S0 ws) (rxPS230 S0 ws) 0 rxz230_0 rxe230_0_1 := by
  intro S S_p r r_p hinv hX hin hsm_ hseg
  obtain ⟨I0, I1, h0_, hr_, b_, f_, d_⟩ := bx_cl (evs := [(1, (0, 481), (0, 1), .inr (0, (11, 0))), (0, (0, 481), (0, 1), .inr (0, (10, 0))), (1, (0, 480), (0, 1), .inr (0, (0, (-1)))), (1, (0, 480), (0, 0), .inr (0, (0, 0)))]) (fvs := []) hseg (by decide +kernel) (by decide +kernel)
  have hinv : rxI230_0 S0 ws S (r 8) (r 9) := hinv
  rw [← hr_ 8 (by decide), ← hr_ 9 (by decide)] at hinv
  obtain ⟨⟨l8, u8⟩, ⟨l9, u9⟩, ⟨l10, u10⟩, ⟨l11, u11⟩, -⟩ := b_
  obtain ⟨T0, ⟨e1, ⟨T2, ⟨T3, w_, w3⟩, w2⟩⟩, w0⟩ := d_
  subst w0
  subst w2
  subst w3
  subst w_
  have g := rxd230_0_1 hP hin hsm_ I0 I1 hinv l8 u8 l9 u9 l10 u10 l11 u11 e1
  refine ⟨bx_narP_ok (l := []) g.1, ?_⟩
  show rxPS230 S0 ws (bx_up (bx_up (bx_up T3 480 (0) (0)) 480 (1) ((-1))) 481 (1) (r_p 11)) (some (bx_num r_p (.inr (0, (0, (-1))))))
  rw [bx_xv_ok h0_]
  exact g.2
theorem rxd230_0_2 {S0 : Nat → Int → Int} {ws : List Int} {S : Nat → Int → Int} {wh va x10 : Int} (hP : rxP230 S0 ws) (hin : bx_same rxL (bx_mdl rxC230.2.2.1) S0 S) (hin2 : bx_same rxL (bx_mdl rxC230.2.2.1) S (bx_up (bx_up (bx_up S 480 0 0) 482 7 va) 480 1 0)) (I0 : bx_Inv rxL S) (I1 : bx_Inv rxL (bx_up (bx_up (bx_up S 480 0 0) 482 7 va) 480 1 0)) (hinv : rxI230_0 S0 ws S wh va) (l8 : 0 ≤ wh) (u8 : wh ≤ 0) (l9 : 0 ≤ va) (u9 : va ≤ 300) (l10 : 0 ≤ x10) (u10 : x10 ≤ 300) (e2 : (bx_up S 480 0 0) 482 7 = x10) : (True) ∧ rxPS230 S0 ws (bx_up (bx_up (bx_up S 480 0 0) 482 7 va) 480 1 0) (some x10) := by
  obtain ⟨rfl, hw⟩ := hinv
  obtain rfl : wh = 0 := by omega
  have e2 := (show _ = S 482 7 from (bx_up_ne (by omega))).symm.trans e2
  refine ⟨trivial, 0, va, hw, Or.inr (Or.inl (⟨?_, ?_, ?_, ?_, ((bx_up_ne (by omega)).trans (bx_up_at)).trans (by omega), (bx_up_ne (by omega)).trans ((bx_up_ne (by omega)).trans ((bx_up_ne (by omega)))), (bx_up_ne (by omega)).trans ((bx_up_ne (by omega)).trans ((bx_up_ne (by omega))))⟩))⟩ <;> first | omega | exact hin2 | exact congrArg some (by omega) | (intro i i0 i1; simp only [bx_up]; (repeat' split) <;> first | rfl | omega | (simp_all; done) | (simp_all; omega)) | ((repeat (first | rw [bx_up_at] | rw [bx_up_ne (by omega)])); omega) | exact True.intro
theorem rxf230_0_2 {X : (Nat → Int → Int) → Prop} {S0 : Nat → Int → Int} {ws : List Int} (hP : rxP230 S0 ws) : bx_obE rxL X S0 rxC230.2.2.1 (rxI230 S0 ws) (rxPS230 S0 ws) 0 rxz230_0 rxe230_0_2 := by
  intro S S_p r r_p hinv hX hin hsm_ hseg
  obtain ⟨I0, I1, h0_, hr_, b_, f_, d_⟩ := bx_cl (evs := [(1, (0, 480), (0, 1), .inr (0, (0, 0))), (1, (0, 482), (0, 7), .inr (0, (9, 0))), (0, (0, 482), (0, 7), .inr (0, (10, 0))), (1, (0, 480), (0, 0), .inr (0, (0, 0)))]) (fvs := []) hseg (by decide +kernel) (by decide +kernel)
  have hinv : rxI230_0 S0 ws S (r 8) (r 9) := hinv
  rw [← hr_ 8 (by decide), ← hr_ 9 (by decide)] at hinv
  obtain ⟨⟨l8, u8⟩, ⟨l9, u9⟩, ⟨l10, u10⟩, -⟩ := b_
  obtain ⟨T0, ⟨T1, ⟨e2, ⟨T3, w_, w3⟩⟩, w1⟩, w0⟩ := d_
  subst w0
  subst w1
  subst w3
  subst w_
  have g := rxd230_0_2 hP hin hsm_ I0 I1 hinv l8 u8 l9 u9 l10 u10 e2
  refine ⟨bx_narP_ok (l := []) g.1, ?_⟩
  show rxPS230 S0 ws (bx_up (bx_up (bx_up T3 480 (0) (0)) 482 (7) (r_p 9)) 480 (1) (0)) (some (bx_num r_p (.inr (0, (10, 0)))))
  rw [bx_xv_ok h0_]
  exact g.2
theorem rxd230_0_3 {S0 : Nat → Int → Int} {ws : List Int} {S : Nat → Int → Int} {wh va x10 x11 : Int} (hP : rxP230 S0 ws) (hin : bx_same rxL (bx_mdl rxC230.2.2.1) S0 S) (hin2 : bx_same rxL (bx_mdl rxC230.2.2.1) S (bx_up (bx_up (bx_up S 480 0 0) 480 1 ((-1))) 481 1 x11)) (I0 : bx_Inv rxL S) (I1 : bx_Inv rxL (bx_up (bx_up (bx_up S 480 0 0) 480 1 ((-1))) 481 1 x11)) (hinv : rxI230_0 S0 ws S wh va) (l8 : 1 ≤ wh) (u8 : wh ≤ 1) (l9 : (-2147483648) ≤ va) (u9 : va ≤ (-1)) (l10 : (-2147483648) ≤ x10) (u10 : x10 ≤ 2147483647) (l11 : (-2147483648) ≤ x11) (u11 : x11 ≤ 2147483647) (f0 : wh ≠ 0) (e1 : (bx_up (bx_up S 480 0 0) 480 1 ((-1))) 481 1 = x10) : (True) ∧ rxPS230 S0 ws (bx_up (bx_up (bx_up S 480 0 0) 480 1 ((-1))) 481 1 x11) (some ((-1))) := by
  obtain ⟨rfl, hw⟩ := hinv
  have e1 := (show _ = S 481 1 from (bx_up_ne (by omega)).trans ((bx_up_ne (by omega)))).symm.trans e1
  refine ⟨trivial, wh, va, hw, Or.inl (⟨?_, ?_, fun j => (bx_up_ne (by omega)).trans ((bx_up_ne (by omega)).trans ((bx_up_ne (by omega))))⟩)⟩ <;> first | omega | exact hin2 | exact congrArg some (by omega) | (intro i i0 i1; simp only [bx_up]; (repeat' split) <;> first | rfl | omega | (simp_all; done) | (simp_all; omega)) | ((repeat (first | rw [bx_up_at] | rw [bx_up_ne (by omega)])); omega) | exact True.intro
theorem rxf230_0_3 {X : (Nat → Int → Int) → Prop} {S0 : Nat → Int → Int} {ws : List Int} (hP : rxP230 S0 ws) : bx_obE rxL X S0 rxC230.2.2.1 (rxI230 S0 ws) (rxPS230 S0 ws) 0 rxz230_0 rxe230_0_3 := by
  intro S S_p r r_p hinv hX hin hsm_ hseg
  obtain ⟨I0, I1, h0_, hr_, b_, f_, d_⟩ := bx_cl (evs := [(1, (0, 481), (0, 1), .inr (0, (11, 0))), (0, (0, 481), (0, 1), .inr (0, (10, 0))), (1, (0, 480), (0, 1), .inr (0, (0, (-1)))), (1, (0, 480), (0, 0), .inr (0, (0, 0)))]) (fvs := [(3, (8, 0), (0, 0), (0, 0))]) hseg (by decide +kernel) (by decide +kernel)
  have hinv : rxI230_0 S0 ws S (r 8) (r 9) := hinv
  rw [← hr_ 8 (by decide), ← hr_ 9 (by decide)] at hinv
  obtain ⟨⟨l8, u8⟩, ⟨l9, u9⟩, ⟨l10, u10⟩, ⟨l11, u11⟩, -⟩ := b_
  obtain ⟨f0, -⟩ := f_
  obtain ⟨T0, ⟨e1, ⟨T2, ⟨T3, w_, w3⟩, w2⟩⟩, w0⟩ := d_
  subst w0
  subst w2
  subst w3
  subst w_
  have g := rxd230_0_3 hP hin hsm_ I0 I1 hinv l8 u8 l9 u9 l10 u10 l11 u11 f0 e1
  refine ⟨bx_narP_ok (l := []) g.1, ?_⟩
  show rxPS230 S0 ws (bx_up (bx_up (bx_up T3 480 (0) (0)) 480 (1) ((-1))) 481 (1) (r_p 11)) (some (bx_num r_p (.inr (0, (0, (-1))))))
  rw [bx_xv_ok h0_]
  exact g.2
theorem rxd230_0_4 {S0 : Nat → Int → Int} {ws : List Int} {S : Nat → Int → Int} {wh va x10 x11 : Int} (hP : rxP230 S0 ws) (hin : bx_same rxL (bx_mdl rxC230.2.2.1) S0 S) (hin2 : bx_same rxL (bx_mdl rxC230.2.2.1) S (bx_up (bx_up (bx_up S 480 0 0) 480 1 ((-1))) 481 1 x11)) (I0 : bx_Inv rxL S) (I1 : bx_Inv rxL (bx_up (bx_up (bx_up S 480 0 0) 480 1 ((-1))) 481 1 x11)) (hinv : rxI230_0 S0 ws S wh va) (l8 : 1 ≤ wh) (u8 : wh ≤ 1) (l9 : 10 ≤ va) (u9 : va ≤ 2147483647) (l10 : (-2147483648) ≤ x10) (u10 : x10 ≤ 2147483647) (l11 : (-2147483648) ≤ x11) (u11 : x11 ≤ 2147483647) (f0 : wh ≠ 0) (e1 : (bx_up (bx_up S 480 0 0) 480 1 ((-1))) 481 1 = x10) : (True) ∧ rxPS230 S0 ws (bx_up (bx_up (bx_up S 480 0 0) 480 1 ((-1))) 481 1 x11) (some ((-1))) := by
  obtain ⟨rfl, hw⟩ := hinv
  have e1 := (show _ = S 481 1 from (bx_up_ne (by omega)).trans ((bx_up_ne (by omega)))).symm.trans e1
  refine ⟨trivial, wh, va, hw, Or.inl (⟨?_, ?_, fun j => (bx_up_ne (by omega)).trans ((bx_up_ne (by omega)).trans ((bx_up_ne (by omega))))⟩)⟩ <;> first | omega | exact hin2 | exact congrArg some (by omega) | (intro i i0 i1; simp only [bx_up]; (repeat' split) <;> first | rfl | omega | (simp_all; done) | (simp_all; omega)) | ((repeat (first | rw [bx_up_at] | rw [bx_up_ne (by omega)])); omega) | exact True.intro
theorem rxf230_0_4 {X : (Nat → Int → Int) → Prop} {S0 : Nat → Int → Int} {ws : List Int} (hP : rxP230 S0 ws) : bx_obE rxL X S0 rxC230.2.2.1 (rxI230 S0 ws) (rxPS230 S0 ws) 0 rxz230_0 rxe230_0_4 := by
  intro S S_p r r_p hinv hX hin hsm_ hseg
  obtain ⟨I0, I1, h0_, hr_, b_, f_, d_⟩ := bx_cl (evs := [(1, (0, 481), (0, 1), .inr (0, (11, 0))), (0, (0, 481), (0, 1), .inr (0, (10, 0))), (1, (0, 480), (0, 1), .inr (0, (0, (-1)))), (1, (0, 480), (0, 0), .inr (0, (0, 0)))]) (fvs := [(3, (8, 0), (0, 0), (0, 0))]) hseg (by decide +kernel) (by decide +kernel)
  have hinv : rxI230_0 S0 ws S (r 8) (r 9) := hinv
  rw [← hr_ 8 (by decide), ← hr_ 9 (by decide)] at hinv
  obtain ⟨⟨l8, u8⟩, ⟨l9, u9⟩, ⟨l10, u10⟩, ⟨l11, u11⟩, -⟩ := b_
  obtain ⟨f0, -⟩ := f_
  obtain ⟨T0, ⟨e1, ⟨T2, ⟨T3, w_, w3⟩, w2⟩⟩, w0⟩ := d_
  subst w0
  subst w2
  subst w3
  subst w_
  have g := rxd230_0_4 hP hin hsm_ I0 I1 hinv l8 u8 l9 u9 l10 u10 l11 u11 f0 e1
  refine ⟨bx_narP_ok (l := []) g.1, ?_⟩
  show rxPS230 S0 ws (bx_up (bx_up (bx_up T3 480 (0) (0)) 480 (1) ((-1))) 481 (1) (r_p 11)) (some (bx_num r_p (.inr (0, (0, (-1))))))
  rw [bx_xv_ok h0_]
  exact g.2
theorem rxd230_0_5 {S0 : Nat → Int → Int} {ws : List Int} {S : Nat → Int → Int} {wh va x10 : Int} (hP : rxP230 S0 ws) (hin : bx_same rxL (bx_mdl rxC230.2.2.1) S0 S) (hin2 : bx_same rxL (bx_mdl rxC230.2.2.1) S (bx_up (bx_up (bx_up S 480 0 0) 482 8 va) 480 1 0)) (I0 : bx_Inv rxL S) (I1 : bx_Inv rxL (bx_up (bx_up (bx_up S 480 0 0) 482 8 va) 480 1 0)) (hinv : rxI230_0 S0 ws S wh va) (l8 : 1 ≤ wh) (u8 : wh ≤ 1) (l9 : 0 ≤ va) (u9 : va ≤ 9) (l10 : 0 ≤ x10) (u10 : x10 ≤ 9) (f0 : wh ≠ 0) (e2 : (bx_up S 480 0 0) 482 8 = x10) : (True) ∧ rxPS230 S0 ws (bx_up (bx_up (bx_up S 480 0 0) 482 8 va) 480 1 0) (some x10) := by
  obtain ⟨rfl, hw⟩ := hinv
  obtain rfl : wh = 1 := by omega
  have e2 := (show _ = S 482 8 from (bx_up_ne (by omega))).symm.trans e2
  refine ⟨trivial, 1, va, hw, Or.inr (Or.inr (Or.inl (⟨?_, ?_, ?_, ?_, (bx_up_ne (by omega)).trans ((bx_up_ne (by omega)).trans ((bx_up_ne (by omega)))), ((bx_up_ne (by omega)).trans (bx_up_at)).trans (by omega), (bx_up_ne (by omega)).trans ((bx_up_ne (by omega)).trans ((bx_up_ne (by omega))))⟩)))⟩ <;> first | omega | exact hin2 | exact congrArg some (by omega) | (intro i i0 i1; simp only [bx_up]; (repeat' split) <;> first | rfl | omega | (simp_all; done) | (simp_all; omega)) | ((repeat (first | rw [bx_up_at] | rw [bx_up_ne (by omega)])); omega) | exact True.intro
theorem rxf230_0_5 {X : (Nat → Int → Int) → Prop} {S0 : Nat → Int → Int} {ws : List Int} (hP : rxP230 S0 ws) : bx_obE rxL X S0 rxC230.2.2.1 (rxI230 S0 ws) (rxPS230 S0 ws) 0 rxz230_0 rxe230_0_5 := by
  intro S S_p r r_p hinv hX hin hsm_ hseg
  obtain ⟨I0, I1, h0_, hr_, b_, f_, d_⟩ := bx_cl (evs := [(1, (0, 480), (0, 1), .inr (0, (0, 0))), (1, (0, 482), (0, 8), .inr (0, (9, 0))), (0, (0, 482), (0, 8), .inr (0, (10, 0))), (1, (0, 480), (0, 0), .inr (0, (0, 0)))]) (fvs := [(3, (8, 0), (0, 0), (0, 0))]) hseg (by decide +kernel) (by decide +kernel)
  have hinv : rxI230_0 S0 ws S (r 8) (r 9) := hinv
  rw [← hr_ 8 (by decide), ← hr_ 9 (by decide)] at hinv
  obtain ⟨⟨l8, u8⟩, ⟨l9, u9⟩, ⟨l10, u10⟩, -⟩ := b_
  obtain ⟨f0, -⟩ := f_
  obtain ⟨T0, ⟨T1, ⟨e2, ⟨T3, w_, w3⟩⟩, w1⟩, w0⟩ := d_
  subst w0
  subst w1
  subst w3
  subst w_
  have g := rxd230_0_5 hP hin hsm_ I0 I1 hinv l8 u8 l9 u9 l10 u10 f0 e2
  refine ⟨bx_narP_ok (l := []) g.1, ?_⟩
  show rxPS230 S0 ws (bx_up (bx_up (bx_up T3 480 (0) (0)) 482 (8) (r_p 9)) 480 (1) (0)) (some (bx_num r_p (.inr (0, (10, 0)))))
  rw [bx_xv_ok h0_]
  exact g.2
theorem rxd230_0_6 {S0 : Nat → Int → Int} {ws : List Int} {S : Nat → Int → Int} {wh va x10 x11 : Int} (hP : rxP230 S0 ws) (hin : bx_same rxL (bx_mdl rxC230.2.2.1) S0 S) (hin2 : bx_same rxL (bx_mdl rxC230.2.2.1) S (bx_up (bx_up (bx_up S 480 0 0) 480 1 ((-1))) 481 1 x11)) (I0 : bx_Inv rxL S) (I1 : bx_Inv rxL (bx_up (bx_up (bx_up S 480 0 0) 480 1 ((-1))) 481 1 x11)) (hinv : rxI230_0 S0 ws S wh va) (l8 : 2 ≤ wh) (u8 : wh ≤ 2) (l9 : (-2147483648) ≤ va) (u9 : va ≤ (-1)) (l10 : (-2147483648) ≤ x10) (u10 : x10 ≤ 2147483647) (l11 : (-2147483648) ≤ x11) (u11 : x11 ≤ 2147483647) (f0 : wh ≠ 1) (f1 : wh ≠ 0) (e1 : (bx_up (bx_up S 480 0 0) 480 1 ((-1))) 481 1 = x10) : (True) ∧ rxPS230 S0 ws (bx_up (bx_up (bx_up S 480 0 0) 480 1 ((-1))) 481 1 x11) (some ((-1))) := by
  obtain ⟨rfl, hw⟩ := hinv
  have e1 := (show _ = S 481 1 from (bx_up_ne (by omega)).trans ((bx_up_ne (by omega)))).symm.trans e1
  refine ⟨trivial, wh, va, hw, Or.inl (⟨?_, ?_, fun j => (bx_up_ne (by omega)).trans ((bx_up_ne (by omega)).trans ((bx_up_ne (by omega))))⟩)⟩ <;> first | omega | exact hin2 | exact congrArg some (by omega) | (intro i i0 i1; simp only [bx_up]; (repeat' split) <;> first | rfl | omega | (simp_all; done) | (simp_all; omega)) | ((repeat (first | rw [bx_up_at] | rw [bx_up_ne (by omega)])); omega) | exact True.intro
theorem rxf230_0_6 {X : (Nat → Int → Int) → Prop} {S0 : Nat → Int → Int} {ws : List Int} (hP : rxP230 S0 ws) : bx_obE rxL X S0 rxC230.2.2.1 (rxI230 S0 ws) (rxPS230 S0 ws) 0 rxz230_0 rxe230_0_6 := by
  intro S S_p r r_p hinv hX hin hsm_ hseg
  obtain ⟨I0, I1, h0_, hr_, b_, f_, d_⟩ := bx_cl (evs := [(1, (0, 481), (0, 1), .inr (0, (11, 0))), (0, (0, 481), (0, 1), .inr (0, (10, 0))), (1, (0, 480), (0, 1), .inr (0, (0, (-1)))), (1, (0, 480), (0, 0), .inr (0, (0, 0)))]) (fvs := [(3, (8, 0), (0, 1), (0, 0)), (3, (8, 0), (0, 0), (0, 0))]) hseg (by decide +kernel) (by decide +kernel)
  have hinv : rxI230_0 S0 ws S (r 8) (r 9) := hinv
  rw [← hr_ 8 (by decide), ← hr_ 9 (by decide)] at hinv
  obtain ⟨⟨l8, u8⟩, ⟨l9, u9⟩, ⟨l10, u10⟩, ⟨l11, u11⟩, -⟩ := b_
  obtain ⟨f0, f1, -⟩ := f_
  obtain ⟨T0, ⟨e1, ⟨T2, ⟨T3, w_, w3⟩, w2⟩⟩, w0⟩ := d_
  subst w0
  subst w2
  subst w3
  subst w_
  have g := rxd230_0_6 hP hin hsm_ I0 I1 hinv l8 u8 l9 u9 l10 u10 l11 u11 f0 f1 e1
  refine ⟨bx_narP_ok (l := []) g.1, ?_⟩
  show rxPS230 S0 ws (bx_up (bx_up (bx_up T3 480 (0) (0)) 480 (1) ((-1))) 481 (1) (r_p 11)) (some (bx_num r_p (.inr (0, (0, (-1))))))
  rw [bx_xv_ok h0_]
  exact g.2
theorem rxd230_0_7 {S0 : Nat → Int → Int} {ws : List Int} {S : Nat → Int → Int} {wh va x10 x11 : Int} (hP : rxP230 S0 ws) (hin : bx_same rxL (bx_mdl rxC230.2.2.1) S0 S) (hin2 : bx_same rxL (bx_mdl rxC230.2.2.1) S (bx_up (bx_up (bx_up S 480 0 0) 480 1 ((-1))) 481 1 x11)) (I0 : bx_Inv rxL S) (I1 : bx_Inv rxL (bx_up (bx_up (bx_up S 480 0 0) 480 1 ((-1))) 481 1 x11)) (hinv : rxI230_0 S0 ws S wh va) (l8 : 2 ≤ wh) (u8 : wh ≤ 2) (l9 : 101 ≤ va) (u9 : va ≤ 2147483647) (l10 : (-2147483648) ≤ x10) (u10 : x10 ≤ 2147483647) (l11 : (-2147483648) ≤ x11) (u11 : x11 ≤ 2147483647) (f0 : wh ≠ 1) (f1 : wh ≠ 0) (e1 : (bx_up (bx_up S 480 0 0) 480 1 ((-1))) 481 1 = x10) : (True) ∧ rxPS230 S0 ws (bx_up (bx_up (bx_up S 480 0 0) 480 1 ((-1))) 481 1 x11) (some ((-1))) := by
  obtain ⟨rfl, hw⟩ := hinv
  have e1 := (show _ = S 481 1 from (bx_up_ne (by omega)).trans ((bx_up_ne (by omega)))).symm.trans e1
  refine ⟨trivial, wh, va, hw, Or.inl (⟨?_, ?_, fun j => (bx_up_ne (by omega)).trans ((bx_up_ne (by omega)).trans ((bx_up_ne (by omega))))⟩)⟩ <;> first | omega | exact hin2 | exact congrArg some (by omega) | (intro i i0 i1; simp only [bx_up]; (repeat' split) <;> first | rfl | omega | (simp_all; done) | (simp_all; omega)) | ((repeat (first | rw [bx_up_at] | rw [bx_up_ne (by omega)])); omega) | exact True.intro
theorem rxf230_0_7 {X : (Nat → Int → Int) → Prop} {S0 : Nat → Int → Int} {ws : List Int} (hP : rxP230 S0 ws) : bx_obE rxL X S0 rxC230.2.2.1 (rxI230 S0 ws) (rxPS230 S0 ws) 0 rxz230_0 rxe230_0_7 := by
  intro S S_p r r_p hinv hX hin hsm_ hseg
  obtain ⟨I0, I1, h0_, hr_, b_, f_, d_⟩ := bx_cl (evs := [(1, (0, 481), (0, 1), .inr (0, (11, 0))), (0, (0, 481), (0, 1), .inr (0, (10, 0))), (1, (0, 480), (0, 1), .inr (0, (0, (-1)))), (1, (0, 480), (0, 0), .inr (0, (0, 0)))]) (fvs := [(3, (8, 0), (0, 1), (0, 0)), (3, (8, 0), (0, 0), (0, 0))]) hseg (by decide +kernel) (by decide +kernel)
  have hinv : rxI230_0 S0 ws S (r 8) (r 9) := hinv
  rw [← hr_ 8 (by decide), ← hr_ 9 (by decide)] at hinv
  obtain ⟨⟨l8, u8⟩, ⟨l9, u9⟩, ⟨l10, u10⟩, ⟨l11, u11⟩, -⟩ := b_
  obtain ⟨f0, f1, -⟩ := f_
  obtain ⟨T0, ⟨e1, ⟨T2, ⟨T3, w_, w3⟩, w2⟩⟩, w0⟩ := d_
  subst w0
  subst w2
  subst w3
  subst w_
  have g := rxd230_0_7 hP hin hsm_ I0 I1 hinv l8 u8 l9 u9 l10 u10 l11 u11 f0 f1 e1
  refine ⟨bx_narP_ok (l := []) g.1, ?_⟩
  show rxPS230 S0 ws (bx_up (bx_up (bx_up T3 480 (0) (0)) 480 (1) ((-1))) 481 (1) (r_p 11)) (some (bx_num r_p (.inr (0, (0, (-1))))))
  rw [bx_xv_ok h0_]
  exact g.2
theorem rxd230_0_8 {S0 : Nat → Int → Int} {ws : List Int} {S : Nat → Int → Int} {wh va x10 : Int} (hP : rxP230 S0 ws) (hin : bx_same rxL (bx_mdl rxC230.2.2.1) S0 S) (hin2 : bx_same rxL (bx_mdl rxC230.2.2.1) S (bx_up (bx_up (bx_up S 480 0 0) 482 9 va) 480 1 0)) (I0 : bx_Inv rxL S) (I1 : bx_Inv rxL (bx_up (bx_up (bx_up S 480 0 0) 482 9 va) 480 1 0)) (hinv : rxI230_0 S0 ws S wh va) (l8 : 2 ≤ wh) (u8 : wh ≤ 2) (l9 : 0 ≤ va) (u9 : va ≤ 100) (l10 : 0 ≤ x10) (u10 : x10 ≤ 100) (f0 : wh ≠ 1) (f1 : wh ≠ 0) (e2 : (bx_up S 480 0 0) 482 9 = x10) : (True) ∧ rxPS230 S0 ws (bx_up (bx_up (bx_up S 480 0 0) 482 9 va) 480 1 0) (some x10) := by
  obtain ⟨rfl, hw⟩ := hinv
  obtain rfl : wh = 2 := by omega
  have e2 := (show _ = S 482 9 from (bx_up_ne (by omega))).symm.trans e2
  refine ⟨trivial, 2, va, hw, Or.inr (Or.inr (Or.inr (⟨?_, ?_, ?_, ?_, (bx_up_ne (by omega)).trans ((bx_up_ne (by omega)).trans ((bx_up_ne (by omega)))), (bx_up_ne (by omega)).trans ((bx_up_ne (by omega)).trans ((bx_up_ne (by omega)))), ((bx_up_ne (by omega)).trans (bx_up_at)).trans (by omega)⟩)))⟩ <;> first | omega | exact hin2 | exact congrArg some (by omega) | (intro i i0 i1; simp only [bx_up]; (repeat' split) <;> first | rfl | omega | (simp_all; done) | (simp_all; omega)) | ((repeat (first | rw [bx_up_at] | rw [bx_up_ne (by omega)])); omega) | exact True.intro
theorem rxf230_0_8 {X : (Nat → Int → Int) → Prop} {S0 : Nat → Int → Int} {ws : List Int} (hP : rxP230 S0 ws) : bx_obE rxL X S0 rxC230.2.2.1 (rxI230 S0 ws) (rxPS230 S0 ws) 0 rxz230_0 rxe230_0_8 := by
  intro S S_p r r_p hinv hX hin hsm_ hseg
  obtain ⟨I0, I1, h0_, hr_, b_, f_, d_⟩ := bx_cl (evs := [(1, (0, 480), (0, 1), .inr (0, (0, 0))), (1, (0, 482), (0, 9), .inr (0, (9, 0))), (0, (0, 482), (0, 9), .inr (0, (10, 0))), (1, (0, 480), (0, 0), .inr (0, (0, 0)))]) (fvs := [(3, (8, 0), (0, 1), (0, 0)), (3, (8, 0), (0, 0), (0, 0))]) hseg (by decide +kernel) (by decide +kernel)
  have hinv : rxI230_0 S0 ws S (r 8) (r 9) := hinv
  rw [← hr_ 8 (by decide), ← hr_ 9 (by decide)] at hinv
  obtain ⟨⟨l8, u8⟩, ⟨l9, u9⟩, ⟨l10, u10⟩, -⟩ := b_
  obtain ⟨f0, f1, -⟩ := f_
  obtain ⟨T0, ⟨T1, ⟨e2, ⟨T3, w_, w3⟩⟩, w1⟩, w0⟩ := d_
  subst w0
  subst w1
  subst w3
  subst w_
  have g := rxd230_0_8 hP hin hsm_ I0 I1 hinv l8 u8 l9 u9 l10 u10 f0 f1 e2
  refine ⟨bx_narP_ok (l := []) g.1, ?_⟩
  show rxPS230 S0 ws (bx_up (bx_up (bx_up T3 480 (0) (0)) 482 (9) (r_p 9)) 480 (1) (0)) (some (bx_num r_p (.inr (0, (10, 0)))))
  rw [bx_xv_ok h0_]
  exact g.2
theorem rxd230_0_9 {S0 : Nat → Int → Int} {ws : List Int} {S : Nat → Int → Int} {wh va x10 x11 : Int} (hP : rxP230 S0 ws) (hin : bx_same rxL (bx_mdl rxC230.2.2.1) S0 S) (hin2 : bx_same rxL (bx_mdl rxC230.2.2.1) S (bx_up (bx_up (bx_up S 480 0 0) 480 1 ((-1))) 481 1 x11)) (I0 : bx_Inv rxL S) (I1 : bx_Inv rxL (bx_up (bx_up (bx_up S 480 0 0) 480 1 ((-1))) 481 1 x11)) (hinv : rxI230_0 S0 ws S wh va) (l8 : (-2147483648) ≤ wh) (u8 : wh ≤ 2147483647) (l9 : (-2147483648) ≤ va) (u9 : va ≤ 2147483647) (l10 : (-2147483648) ≤ x10) (u10 : x10 ≤ 2147483647) (l11 : (-2147483648) ≤ x11) (u11 : x11 ≤ 2147483647) (f0 : wh ≠ 2) (f1 : wh ≠ 1) (f2 : wh ≠ 0) (e1 : (bx_up (bx_up S 480 0 0) 480 1 ((-1))) 481 1 = x10) : (True) ∧ rxPS230 S0 ws (bx_up (bx_up (bx_up S 480 0 0) 480 1 ((-1))) 481 1 x11) (some ((-1))) := by
  obtain ⟨rfl, hw⟩ := hinv
  have e1 := (show _ = S 481 1 from (bx_up_ne (by omega)).trans ((bx_up_ne (by omega)))).symm.trans e1
  refine ⟨trivial, wh, va, hw, Or.inl (⟨?_, ?_, fun j => (bx_up_ne (by omega)).trans ((bx_up_ne (by omega)).trans ((bx_up_ne (by omega))))⟩)⟩ <;> first | omega | exact hin2 | exact congrArg some (by omega) | (intro i i0 i1; simp only [bx_up]; (repeat' split) <;> first | rfl | omega | (simp_all; done) | (simp_all; omega)) | ((repeat (first | rw [bx_up_at] | rw [bx_up_ne (by omega)])); omega) | exact True.intro
theorem rxf230_0_9 {X : (Nat → Int → Int) → Prop} {S0 : Nat → Int → Int} {ws : List Int} (hP : rxP230 S0 ws) : bx_obE rxL X S0 rxC230.2.2.1 (rxI230 S0 ws) (rxPS230 S0 ws) 0 rxz230_0 rxe230_0_9 := by
  intro S S_p r r_p hinv hX hin hsm_ hseg
  obtain ⟨I0, I1, h0_, hr_, b_, f_, d_⟩ := bx_cl (evs := [(1, (0, 481), (0, 1), .inr (0, (11, 0))), (0, (0, 481), (0, 1), .inr (0, (10, 0))), (1, (0, 480), (0, 1), .inr (0, (0, (-1)))), (1, (0, 480), (0, 0), .inr (0, (0, 0)))]) (fvs := [(3, (8, 0), (0, 2), (0, 0)), (3, (8, 0), (0, 1), (0, 0)), (3, (8, 0), (0, 0), (0, 0))]) hseg (by decide +kernel) (by decide +kernel)
  have hinv : rxI230_0 S0 ws S (r 8) (r 9) := hinv
  rw [← hr_ 8 (by decide), ← hr_ 9 (by decide)] at hinv
  obtain ⟨⟨l8, u8⟩, ⟨l9, u9⟩, ⟨l10, u10⟩, ⟨l11, u11⟩, -⟩ := b_
  obtain ⟨f0, f1, f2, -⟩ := f_
  obtain ⟨T0, ⟨e1, ⟨T2, ⟨T3, w_, w3⟩, w2⟩⟩, w0⟩ := d_
  subst w0
  subst w2
  subst w3
  subst w_
  have g := rxd230_0_9 hP hin hsm_ I0 I1 hinv l8 u8 l9 u9 l10 u10 l11 u11 f0 f1 f2 e1
  refine ⟨bx_narP_ok (l := []) g.1, ?_⟩
  show rxPS230 S0 ws (bx_up (bx_up (bx_up T3 480 (0) (0)) 480 (1) ((-1))) 481 (1) (r_p 11)) (some (bx_num r_p (.inr (0, (0, (-1))))))
  rw [bx_xv_ok h0_]
  exact g.2
theorem rxgC230 {X : (Nat → Int → Int) → Prop} {S0 : Nat → Int → Int} {ws : List Int} (hP : rxP230 S0 ws) : bx_allI (fun i q => rxU230 q = true ∨ bx_allP (fun o => bx_obC rxL X S0 rxC230.2.2.1 (rxI230 S0 ws) (rxm230 S0 ws) i q.1 o) q.2.1) 0 rxY230 := ⟨Or.inr trivial, trivial⟩
theorem rxgE230 {X : (Nat → Int → Int) → Prop} {S0 : Nat → Int → Int} {ws : List Int} (hP : rxP230 S0 ws) : bx_allI (fun i q => rxU230 q = true ∨ bx_allP (fun E => bx_obE rxL X S0 rxC230.2.2.1 (rxI230 S0 ws) (rxPS230 S0 ws) i q.1 E) q.2.2) 0 rxY230 := ⟨Or.inr ⟨rxf230_0_0 hP, rxf230_0_1 hP, rxf230_0_2 hP, rxf230_0_3 hP, rxf230_0_4 hP, rxf230_0_5 hP, rxf230_0_6 hP, rxf230_0_7 hP, rxf230_0_8 hP, rxf230_0_9 hP, trivial⟩, trivial⟩
theorem rxQ230 {PX : State → Prop} {Dg : va_G} {A : Nat → Prop} {ad xa : Nat → Nat} {l : Launch} {X : (Nat → Int → Int) → Prop} (hPX : rx_PXOK rxNW A PX) (hsl : ∀ s : State, PX s → ∀ o idx n : Nat, rxSl o idx = some n → ∃ tx : String, vk_R (rxNm o) idx tx (ad n) s)
    (hX : ∀ S S_p : Nat → Int → Int, X S → bx_same rxL (bx_mdl rxC230.2.2.1) S S_p → X S_p)
    (ih : ∀ (j2 : Nat) (ct2 : bx_Ct) (M2 : rx_Mt), ct2 ∈ rxCnE j2 → ct2.2.2.2.1 + 1 ≤ rxC230.2.2.2.1 → rxT.2.2.2.2.2 j2 = some M2 → bx_Con rxG rxNW rxAO PX Dg rxL X vwCl A ad l M2 ct2) : bx_ConP rxG rxNW rxAO PX Dg rxL X vwCl A ad l rxM230 rxC230 rxP230 rxPS230 :=
  rxQof (xa := xa) (Cn := rxCnE) (f := 30000) (j := 230) (tab := rxY230) (us := rxU230) hPX hsl hX ih rfl rxYc230 rxI230 rxm230
    (fun S0 ws r I0 I ht0 ht as he he1 hX0 hI0 hP hs ha => by
      have e := he.symm.trans (show bx_ent0 rxNP rxC230.1 bx_I0 [] = some ([(0, 0), (0, 0), (0, 0), (0, 0), (0, 0), (0, 0), (0, 0), (0, 0), ((-2147483648), 2147483647), ((-2147483648), 2147483647)], [], [.inr (3, (0, 480)), .inr (0, (8, 0)), .inr (0, (9, 0))]) from rfl)
      cases e
      subst ha
      have h0 : r 0 = 0 := hs.1
      show rxI230_0 S0 _ S0 (r 8) (r 9)
      refine ⟨rfl, ?_⟩
      simp only [List.map_cons, List.map_nil, bx_xv_ok h0]
      rfl)
    (fun S0 ws hP => fun i q hq hus => absurd (show false = true from hus) Bool.false_ne_true) (fun S0 ws hP => rxgC230 hP) (fun S0 ws hP => rxgE230 hP)
set_option maxHeartbeats 1000000 in
theorem rzQ230 {PX : State → Prop} {Dg : va_G} {A : Nat → Prop} {ad : Nat → Nat} {l : Launch} (hPX : rx_PXOK rxNW A PX) (hsl : ∀ s : State, PX s → ∀ o idx n : Nat, rxSl o idx = some n → ∃ tx : String, vk_R (rxNm o) idx tx (ad n) s) : bx_ConP rxG rxNW rxAO PX Dg rxL rxX vwCl A ad l rxM230 rxC230 (fun _ _ => True) rxPS230 := by
  have q230 := rxQ230 (PX := PX) (Dg := Dg) (A := A) (ad := ad) (xa := fun n => n) (l := l) (X := rxX) hPX hsl (fun _ _ h hm => rxX_of (by decide +kernel) h hm) (fun _ _ _ h => absurd h List.not_mem_nil)
  exact fun S0 ws h1 h2 h3 _ => q230 S0 ws h1 h2 h3 trivial
