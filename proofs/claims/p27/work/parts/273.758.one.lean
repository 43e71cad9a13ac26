noncomputable def rxCSLX : bx_Ct := ([(3, (1, 480, 0)), (0, (0, 0, 7)), (0, (0, 0, 5)), (0, (0, (-1), 7)), (0, (0, 0, 300))], some (0, (0, 0, 100)), [(12, 28), (12, 32), (12, 33), (12, 34), (1074, 0), (1076, 0)], 4, [])
noncomputable def rxISLX_0 (S0 : Nat → Int → Int) (ws : List Int) (S : Nat → Int → Int) (p pa t y : Int) : Prop := S = S0 ∧ ws = [480, p, pa, t, y]
noncomputable def rxmSLX_0 (S0 : Nat → Int → Int) (ws : List Int) (S : Nat → Int → Int) (p pa t y : Int) : Nat := 100
noncomputable def rxzSLX_0 : rx_Z := ([(0, 0), (0, 0), (0, 0), (0, 0), (0, 0), (0, 0), (0, 0), (0, 0), (0, 7), (0, 5), ((-1), 7), (0, 300)], [], [], 0, 0, 0, [(0, .inr (3, (0, 480))), (1, .inr (0, (8, 0))), (2, .inr (0, (9, 0))), (3, .inr (0, (10, 0))), (4, .inr (0, (11, 0)))], [])
noncomputable def rxISLX_1 (S0 : Nat → Int → Int) (ws : List Int) (S : Nat → Int → Int) (p pa t y bs : Int) : Prop := S = S0 ∧ ws = [480, p, pa, t, y] ∧ bs = S0 482 9
noncomputable def rxmSLX_1 (S0 : Nat → Int → Int) (ws : List Int) (S : Nat → Int → Int) (p pa t y bs : Int) : Nat := 50
noncomputable def rxzSLX_1 : rx_Z := ([(0, 0), (0, 0), (0, 0), (0, 0), (0, 0), (0, 0), (0, 0), (0, 0), (0, 7), (0, 5), ((-1), 7), (0, 300), (0, 100)], [], [], 0, 0, 15, [(0, .inr (3, (0, 480))), (1, .inr (0, (8, 0))), (2, .inr (0, (9, 0))), (3, .inr (0, (10, 0))), (4, .inr (0, (11, 0)))], [.inr (1, (12, 0)), .inr (0, (11, 0)), .inr (0, (10, 0)), .inr (0, (9, 0)), .inr (0, (8, 0)), .inr (0, (0, 0)), .inr (3, (0, 480))])
noncomputable def rxISLX_2 (S0 : Nat → Int → Int) (ws : List Int) (S : Nat → Int → Int) (p pa t y bs r : Int) : Prop := ws = [480, p, pa, t, y] ∧ rqAs (S0 482) p pa t y 0 (S0 482 9) r
noncomputable def rxmSLX_2 (S0 : Nat → Int → Int) (ws : List Int) (S : Nat → Int → Int) (p pa t y bs r : Int) : Nat := 40
noncomputable def rxzSLX_2 : rx_Z := ([(0, 0), (0, 0), (0, 0), (0, 0), (0, 0), (0, 0), (0, 0), (0, 0), (0, 7), (0, 5), ((-1), 7), (0, 300), (0, 100), ((-9223372036854775808), 9223372036854775807)], [], [], 0, 0, 18, [(0, .inr (3, (0, 480))), (1, .inr (0, (8, 0))), (2, .inr (0, (9, 0))), (3, .inr (0, (10, 0))), (4, .inr (0, (11, 0)))], [.inr (1, (13, 0))])
noncomputable def rxoSLX_0_0 : bx_HO := (([(0, 0), (0, 0), (0, 0), (0, 0), (0, 0), (0, 0), (0, 0), (0, 0), (0, 7), (0, 5), ((-1), 7), (0, 300), (0, 100)], [], [(((0, 0), 1851192626986356799230700691457999792575411195110560459822071808000000), .inr (0, (12, 0))), (((0, 482), 9), .inr (0, (12, 0))), (((0, 480), 3), .inr (3, (0, 482)))], 0, 0, 15, [(0, .inr (3, (0, 480))), (1, .inr (0, (8, 0))), (2, .inr (0, (9, 0))), (3, .inr (0, (10, 0))), (4, .inr (0, (11, 0)))], [.inr (1, (12, 0)), .inr (0, (11, 0)), .inr (0, (10, 0)), .inr (0, (9, 0)), .inr (0, (8, 0)), .inr (0, (0, 0)), .inr (3, (0, 480))]), [], [], [(0, 0), (0, 0), (0, 0), (0, 0), (0, 0), (0, 0), (0, 0), (0, 0), (8, 0), (9, 0), (10, 0), (11, 0), (12, 0)], 1)
noncomputable def rxeSLX_2_0 : rx_End × List (Nat × Int × Int) := (([(0, 0), (0, 0), (0, 0), (0, 0), (0, 0), (0, 0), (0, 0), (0, 0), (0, 7), (0, 5), ((-1), 7), (0, 300), (0, 100), (0, 100)], [], [], some (.inr (0, (13, 0)))), [])
noncomputable def rxeSLX_2_1 : rx_End × List (Nat × Int × Int) := (([(0, 0), (0, 0), (0, 0), (0, 0), (0, 0), (0, 0), (0, 0), (0, 0), (0, 7), (0, 5), ((-1), 7), (0, 300), (0, 100), (101, 9223372036854775807)], [], [], some (.inr (0, (0, 100)))), [])
noncomputable def rxeSLX_2_2 : rx_End × List (Nat × Int × Int) := (([(0, 0), (0, 0), (0, 0), (0, 0), (0, 0), (0, 0), (0, 0), (0, 0), (0, 7), (0, 5), ((-1), 7), (0, 300), (0, 100), ((-9223372036854775808), (-1))], [], [], some (.inr (0, (0, 0)))), [])
noncomputable def rxYSLX : List bx_HE := [(rxzSLX_0, [rxoSLX_0_0], []), (rxzSLX_1, [], []), (rxzSLX_2, [], [rxeSLX_2_0, rxeSLX_2_1, rxeSLX_2_2])]
noncomputable def rxUSLX (q : bx_HE) : Bool := Nat.beq (rx_zpc q.1) 15
noncomputable def rxYBSLX : bx_B := (rxV, rxNP, rxDmf, bx_mdH rxCSLX.2.2.1)
set_option maxRecDepth 100000 in
theorem rxYcSLX : bx_chkH rxYBSLX rxM290 rxCSLX rxYSLX (rxUSLX, fun cut z => rx_ex2 (rxCT rxYBSLX rxCnE) cut 30000 rxCSLX.2.2.2.1 290 z) = true := by decide +kernel
noncomputable def rxISLX (S0 : Nat → Int → Int) (ws : List Int) (i : Nat) : bx_SP := fun S r => match i with | 0 => rxISLX_0 S0 ws S (r 8) (r 9) (r 10) (r 11) | 1 => rxISLX_1 S0 ws S (r 8) (r 9) (r 10) (r 11) (r 12) | 2 => rxISLX_2 S0 ws S (r 8) (r 9) (r 10) (r 11) (r 12) (r 13) | _ => False
noncomputable def rxmSLX (S0 : Nat → Int → Int) (ws : List Int) (i : Nat) (S : Nat → Int → Int) (r : Nat → Int) : Nat := match i with | 0 => rxmSLX_0 S0 ws S (r 8) (r 9) (r 10) (r 11) | 1 => rxmSLX_1 S0 ws S (r 8) (r 9) (r 10) (r 11) (r 12) | 2 => rxmSLX_2 S0 ws S (r 8) (r 9) (r 10) (r 11) (r 12) (r 13) | _ => 0
noncomputable def rxPSLX (S0 : Nat → Int → Int) (ws : List Int) : Prop := rxX S0 ∧ rqLp (S0 482)
noncomputable def rxPSSLX (S0 : Nat → Int → Int) (ws : List Int) (S : Nat → Int → Int) (w : Option Int) : Prop := ∃ p pa t y x : Int, ws = [480, p, pa, t, y] ∧ rqAs (S0 482) p pa t y 0 (S0 482 9) x ∧ w = some (rkNear x 100)
theorem rxkSLX_1 {S0 : Nat → Int → Int} {ws : List Int} {S : Nat → Int → Int} {p pa t y bs : Int} (hP : rxPSLX S0 ws) (hin : bx_same rxL (bx_mdl rxCSLX.2.2.1) S0 S) (I0 : bx_Inv rxL S) (hinv : rxISLX_1 S0 ws S p pa t y bs) (l8 : 0 ≤ p) (u8 : p ≤ 7) (l9 : 0 ≤ pa) (u9 : pa ≤ 5) (l10 : (-1) ≤ t) (u10 : t ≤ 7) (l11 : 0 ≤ y) (u11 : y ≤ 300) (l12 : 0 ≤ bs) (u12 : bs ≤ 100) : rxPTEX S [480, 0, p, pa, t, y, bs] ∧ ∀ (S_p : Nat → Int → Int) (r : Int), (-9223372036854775808) ≤ r → r ≤ 9223372036854775807 → rxPSTEX S [480, 0, p, pa, t, y, bs] S_p (some r) → bx_Inv rxL S_p → bx_same rxL (bx_mdl rxC289.2.2.1) S S_p → rxISLX_2 S0 ws S_p p pa t y bs r ∧ rxmSLX_2 S0 ws S_p p pa t y bs r < rxmSLX_1 S0 ws S p pa t y bs := by
  obtain ⟨hS, hw, hbs⟩ := hinv
  subst hS
  refine ⟨⟨hP.1, hP.2⟩, fun S_p r _ _ hq _ hsm => ⟨⟨hw, ?_⟩, by unfold rxmSLX_1 rxmSLX_2; omega⟩⟩
  obtain ⟨-, kd2, p2, pa2, t2, y2, b2, hw3, h⟩ := hq
  have k0 : (0 : Int) = kd2 := Option.some.inj (congrArg (fun l : List Int => l[1]?) hw3)
  have k1 : p = p2 := Option.some.inj (congrArg (fun l : List Int => l[2]?) hw3)
  have k2 : pa = pa2 := Option.some.inj (congrArg (fun l : List Int => l[3]?) hw3)
  have k3 : t = t2 := Option.some.inj (congrArg (fun l : List Int => l[4]?) hw3)
  have k4 : y = y2 := Option.some.inj (congrArg (fun l : List Int => l[5]?) hw3)
  have k5 : bs = b2 := Option.some.inj (congrArg (fun l : List Int => l[6]?) hw3)
  subst k0
  subst k1
  subst k2
  subst k3
  subst k4
  subst k5
  rw [hbs] at h
  rcases h with ⟨a, b⟩ | ⟨a, b⟩
  · exact Or.inl ⟨a, Option.some.inj b⟩
  · refine Or.inr ⟨a, fun L hL hl => ?_⟩
    obtain ⟨x, x1, x2⟩ := b L hL hl
    rw [Option.some.inj x1]
    exact x2
theorem rxsSLX_1 {X : (Nat → Int → Int) → Prop} {S0 : Nat → Int → Int} {ws : List Int} (hP : rxPSLX S0 ws) : rx_obK X S0 rxCSLX.2.2.1 rxC289.2.2.1 (rxISLX S0 ws) (rxmSLX S0 ws) 1 2 rxzSLX_1 rxzSLX_2 [.inr (3, (0, 480)), .inr (0, (0, 0)), .inr (0, (8, 0)), .inr (0, (9, 0)), .inr (0, (10, 0)), .inr (0, (11, 0)), .inr (1, (12, 0))] (some 13) rxPTEX rxPSTEX := by
  intro S r hinv hXS I0 hin hs_ hf_
  have b_ := bx_bds_sat hs_
  have f_ := bx_fcl_ok hs_.1 hf_
  obtain ⟨⟨l8, u8⟩, ⟨l9, u9⟩, ⟨l10, u10⟩, ⟨l11, u11⟩, ⟨l12, u12⟩, -⟩ := b_
  have g := rxkSLX_1 hP hin I0 hinv l8 u8 l9 u9 l10 u10 l11 u11 l12 u12
  have ea : List.map (bx_num r) [.inr (3, (0, 480)), .inr (0, (0, 0)), .inr (0, (8, 0)), .inr (0, (9, 0)), .inr (0, (10, 0)), .inr (0, (11, 0)), .inr (1, (12, 0))] = [480, 0, (r 8), (r 9), (r 10), (r 11), (r 12)] := by
    simp only [List.map_cons, List.map_nil, bx_xv_ok hs_.1]
    rfl
  rw [ea]
  refine ⟨g.1, fun S_p w r_p hPS hX_p I1 hsm hr hw hs_p => ?_⟩
  have hw := hw _ rfl
  subst hw
  have b_p := hs_p.2.2 13 _ _ rfl
  have g2 := g.2 S_p (r_p 13) b_p.1 b_p.2 hPS I1 hsm
  show rxISLX_2 S0 ws S_p (r_p 8) (r_p 9) (r_p 10) (r_p 11) (r_p 12) (r_p 13) ∧ rxmSLX_2 S0 ws S_p (r_p 8) (r_p 9) (r_p 10) (r_p 11) (r_p 12) (r_p 13) < _
  rw [hr 8 (by decide), hr 9 (by decide), hr 10 (by decide), hr 11 (by decide), hr 12 (by decide)]
  exact g2
theorem rxcSLX_0_0 {S0 : Nat → Int → Int} {ws : List Int} {S : Nat → Int → Int} {p pa t y x12 : Int} (hP : rxPSLX S0 ws) (hin : bx_same rxL (bx_mdl rxCSLX.2.2.1) S0 S) (I0 : bx_Inv rxL S) (hinv : rxISLX_0 S0 ws S p pa t y) (l8 : 0 ≤ p) (u8 : p ≤ 7) (l9 : 0 ≤ pa) (u9 : pa ≤ 5) (l10 : (-1) ≤ t) (u10 : t ≤ 7) (l11 : 0 ≤ y) (u11 : y ≤ 300) (l12 : 0 ≤ x12) (u12 : x12 ≤ 100) (e0 : S 482 9 = x12) : (True) ∧ (True) ∧ rxISLX_1 S0 ws S p pa t y x12 ∧ rxmSLX_1 S0 ws S p pa t y x12 < rxmSLX_0 S0 ws S p pa t y := by
  obtain ⟨rfl, hw⟩ := hinv
  exact ⟨trivial, trivial, ⟨rfl, hw, e0.symm⟩, by unfold rxmSLX_0 rxmSLX_1; omega⟩
theorem rxgSLX_0_0 {X : (Nat → Int → Int) → Prop} {S0 : Nat → Int → Int} {ws : List Int} (hP : rxPSLX S0 ws) : bx_obC rxL X S0 rxCSLX.2.2.1 (rxISLX S0 ws) (rxmSLX S0 ws) 0 rxzSLX_0 rxoSLX_0_0 := by
  intro S S_p r r_p hinv hX hin hsm_ hseg
  obtain ⟨I0, I1, h0_, hr_, b_, f_, d_⟩ := bx_cl (evs := [(0, (0, 482), (0, 9), .inr (0, (12, 0)))]) (fvs := []) hseg (by decide +kernel) (by decide +kernel)
  have hinv : rxISLX_0 S0 ws S (r 8) (r 9) (r 10) (r 11) := hinv
  rw [← hr_ 8 (by decide), ← hr_ 9 (by decide), ← hr_ 10 (by decide), ← hr_ 11 (by decide)] at hinv
  obtain ⟨⟨l8, u8⟩, ⟨l9, u9⟩, ⟨l10, u10⟩, ⟨l11, u11⟩, ⟨l12, u12⟩, -⟩ := b_
  obtain ⟨e0, w_⟩ := d_
  subst w_
  have g := rxcSLX_0_0 hP hin I0 hinv l8 u8 l9 u9 l10 u10 l11 u11 l12 u12 e0
  refine ⟨bx_narP_ok (l := []) g.1, bx_nfP_ok h0_ (fvs := []) (by decide +kernel) g.2.1, ?_, ?_⟩
  · show rxISLX_1 S0 ws S_p (bx_val [(0, 0), (0, 0), (0, 0), (0, 0), (0, 0), (0, 0), (0, 0), (0, 0), (8, 0), (9, 0), (10, 0), (11, 0), (12, 0)] r_p 8) (bx_val [(0, 0), (0, 0), (0, 0), (0, 0), (0, 0), (0, 0), (0, 0), (0, 0), (8, 0), (9, 0), (10, 0), (11, 0), (12, 0)] r_p 9) (bx_val [(0, 0), (0, 0), (0, 0), (0, 0), (0, 0), (0, 0), (0, 0), (0, 0), (8, 0), (9, 0), (10, 0), (11, 0), (12, 0)] r_p 10) (bx_val [(0, 0), (0, 0), (0, 0), (0, 0), (0, 0), (0, 0), (0, 0), (0, 0), (8, 0), (9, 0), (10, 0), (11, 0), (12, 0)] r_p 11) (bx_val [(0, 0), (0, 0), (0, 0), (0, 0), (0, 0), (0, 0), (0, 0), (0, 0), (8, 0), (9, 0), (10, 0), (11, 0), (12, 0)] r_p 12)
    rw [bx_val_x (n := 8) (e := (8, 0)) h0_ rfl, bx_val_x (n := 9) (e := (9, 0)) h0_ rfl, bx_val_x (n := 10) (e := (10, 0)) h0_ rfl, bx_val_x (n := 11) (e := (11, 0)) h0_ rfl, bx_val_x (n := 12) (e := (12, 0)) h0_ rfl]
    exact g.2.2.1
  · show rxmSLX_1 S0 ws S_p (bx_val [(0, 0), (0, 0), (0, 0), (0, 0), (0, 0), (0, 0), (0, 0), (0, 0), (8, 0), (9, 0), (10, 0), (11, 0), (12, 0)] r_p 8) (bx_val [(0, 0), (0, 0), (0, 0), (0, 0), (0, 0), (0, 0), (0, 0), (0, 0), (8, 0), (9, 0), (10, 0), (11, 0), (12, 0)] r_p 9) (bx_val [(0, 0), (0, 0), (0, 0), (0, 0), (0, 0), (0, 0), (0, 0), (0, 0), (8, 0), (9, 0), (10, 0), (11, 0), (12, 0)] r_p 10) (bx_val [(0, 0), (0, 0), (0, 0), (0, 0), (0, 0), (0, 0), (0, 0), (0, 0), (8, 0), (9, 0), (10, 0), (11, 0), (12, 0)] r_p 11) (bx_val [(0, 0), (0, 0), (0, 0), (0, 0), (0, 0), (0, 0), (0, 0), (0, 0), (8, 0), (9, 0), (10, 0), (11, 0), (12, 0)] r_p 12) < rxmSLX_0 S0 ws S_p (r 8) (r 9) (r 10) (r 11)
    rw [bx_val_x (n := 8) (e := (8, 0)) h0_ rfl, bx_val_x (n := 9) (e := (9, 0)) h0_ rfl, bx_val_x (n := 10) (e := (10, 0)) h0_ rfl, bx_val_x (n := 11) (e := (11, 0)) h0_ rfl, bx_val_x (n := 12) (e := (12, 0)) h0_ rfl, ← hr_ 8 (by decide), ← hr_ 9 (by decide), ← hr_ 10 (by decide), ← hr_ 11 (by decide)]
    exact g.2.2.2
theorem rxdSLX_2_0 {S0 : Nat → Int → Int} {ws : List Int} {S : Nat → Int → Int} {p pa t y bs r : Int} (hP : rxPSLX S0 ws) (hin : bx_same rxL (bx_mdl rxCSLX.2.2.1) S0 S) (hin2 : bx_same rxL (bx_mdl rxCSLX.2.2.1) S S) (I0 : bx_Inv rxL S) (I1 : bx_Inv rxL S) (hinv : rxISLX_2 S0 ws S p pa t y bs r) (l8 : 0 ≤ p) (u8 : p ≤ 7) (l9 : 0 ≤ pa) (u9 : pa ≤ 5) (l10 : (-1) ≤ t) (u10 : t ≤ 7) (l11 : 0 ≤ y) (u11 : y ≤ 300) (l12 : 0 ≤ bs) (u12 : bs ≤ 100) (l13 : 0 ≤ r) (u13 : r ≤ 100) : (True) ∧ rxPSSLX S0 ws S (some r) := by
  obtain ⟨hw, hr⟩ := hinv
  exact ⟨trivial, p, pa, t, y, r, hw, hr, congrArg some (by first | exact (rkNear_0 (by omega)).symm | exact (rkNear_m (by omega) (by omega)).symm | exact (rkNear_i (by omega) (by omega)).symm)⟩
theorem rxfSLX_2_0 {X : (Nat → Int → Int) → Prop} {S0 : Nat → Int → Int} {ws : List Int} (hP : rxPSLX S0 ws) : bx_obE rxL X S0 rxCSLX.2.2.1 (rxISLX S0 ws) (rxPSSLX S0 ws) 2 rxzSLX_2 rxeSLX_2_0 := by
  intro S S_p r r_p hinv hX hin hsm_ hseg
  obtain ⟨I0, I1, h0_, hr_, b_, f_, d_⟩ := bx_cl (evs := []) (fvs := []) hseg (by decide +kernel) (by decide +kernel)
  have hinv : rxISLX_2 S0 ws S (r 8) (r 9) (r 10) (r 11) (r 12) (r 13) := hinv
  rw [← hr_ 8 (by decide), ← hr_ 9 (by decide), ← hr_ 10 (by decide), ← hr_ 11 (by decide), ← hr_ 12 (by decide), ← hr_ 13 (by decide)] at hinv
  obtain ⟨⟨l8, u8⟩, ⟨l9, u9⟩, ⟨l10, u10⟩, ⟨l11, u11⟩, ⟨l12, u12⟩, ⟨l13, u13⟩, -⟩ := b_
  have w_ := d_
  subst w_
  have g := rxdSLX_2_0 hP hin hsm_ I0 I1 hinv l8 u8 l9 u9 l10 u10 l11 u11 l12 u12 l13 u13
  refine ⟨bx_narP_ok (l := []) g.1, ?_⟩
  show rxPSSLX S0 ws S_p (some (bx_num r_p (.inr (0, (13, 0)))))
  rw [bx_xv_ok h0_]
  exact g.2
theorem rxdSLX_2_1 {S0 : Nat → Int → Int} {ws : List Int} {S : Nat → Int → Int} {p pa t y bs r : Int} (hP : rxPSLX S0 ws) (hin : bx_same rxL (bx_mdl rxCSLX.2.2.1) S0 S) (hin2 : bx_same rxL (bx_mdl rxCSLX.2.2.1) S S) (I0 : bx_Inv rxL S) (I1 : bx_Inv rxL S) (hinv : rxISLX_2 S0 ws S p pa t y bs r) (l8 : 0 ≤ p) (u8 : p ≤ 7) (l9 : 0 ≤ pa) (u9 : pa ≤ 5) (l10 : (-1) ≤ t) (u10 : t ≤ 7) (l11 : 0 ≤ y) (u11 : y ≤ 300) (l12 : 0 ≤ bs) (u12 : bs ≤ 100) (l13 : 101 ≤ r) (u13 : r ≤ 9223372036854775807) : (True) ∧ rxPSSLX S0 ws S (some 100) := by
  obtain ⟨hw, hr⟩ := hinv
  exact ⟨trivial, p, pa, t, y, r, hw, hr, congrArg some (by first | exact (rkNear_0 (by omega)).symm | exact (rkNear_m (by omega) (by omega)).symm | exact (rkNear_i (by omega) (by omega)).symm)⟩
theorem rxfSLX_2_1 {X : (Nat → Int → Int) → Prop} {S0 : Nat → Int → Int} {ws : List Int} (hP : rxPSLX S0 ws) : bx_obE rxL X S0 rxCSLX.2.2.1 (rxISLX S0 ws) (rxPSSLX S0 ws) 2 rxzSLX_2 rxeSLX_2_1 := by
  intro S S_p r r_p hinv hX hin hsm_ hseg
  obtain ⟨I0, I1, h0_, hr_, b_, f_, d_⟩ := bx_cl (evs := []) (fvs := []) hseg (by decide +kernel) (by decide +kernel)
  have hinv : rxISLX_2 S0 ws S (r 8) (r 9) (r 10) (r 11) (r 12) (r 13) := hinv
  rw [← hr_ 8 (by decide), ← hr_ 9 (by decide), ← hr_ 10 (by decide), ← hr_ 11 (by decide), ← hr_ 12 (by decide), ← hr_ 13 (by decide)] at hinv
  obtain ⟨⟨l8, u8⟩, ⟨l9, u9⟩, ⟨l10, u10⟩, ⟨l11, u11⟩, ⟨l12, u12⟩, ⟨l13, u13⟩, -⟩ := b_
  have w_ := d_
  subst w_
  have g := rxdSLX_2_1 hP hin hsm_ I0 I1 hinv l8 u8 l9 u9 l10 u10 l11 u11 l12 u12 l13 u13
  refine ⟨bx_narP_ok (l := []) g.1, ?_⟩
  show rxPSSLX S0 ws S_p (some (bx_num r_p (.inr (0, (0, 100)))))
  rw [bx_xv_ok h0_]
  exact g.2
theorem rxdSLX_2_2 {S0 : Nat → Int → Int} {ws : List Int} {S : Nat → Int → Int} {p pa t y bs r : Int} (hP : rxPSLX S0 ws) (hin : bx_same rxL (bx_mdl rxCSLX.2.2.1) S0 S) (hin2 : bx_same rxL (bx_mdl rxCSLX.2.2.1) S S) (I0 : bx_Inv rxL S) (I1 : bx_Inv rxL S) (hinv : rxISLX_2 S0 ws S p pa t y bs r) (l8 : 0 ≤ p) (u8 : p ≤ 7) (l9 : 0 ≤ pa) (u9 : pa ≤ 5) (l10 : (-1) ≤ t) (u10 : t ≤ 7) (l11 : 0 ≤ y) (u11 : y ≤ 300) (l12 : 0 ≤ bs) (u12 : bs ≤ 100) (l13 : (-9223372036854775808) ≤ r) (u13 : r ≤ (-1)) : (True) ∧ rxPSSLX S0 ws S (some 0) := by
  obtain ⟨hw, hr⟩ := hinv
  exact ⟨trivial, p, pa, t, y, r, hw, hr, congrArg some (by first | exact (rkNear_0 (by omega)).symm | exact (rkNear_m (by omega) (by omega)).symm | exact (rkNear_i (by omega) (by omega)).symm)⟩
theorem rxfSLX_2_2 {X : (Nat → Int → Int) → Prop} {S0 : Nat → Int → Int} {ws : List Int} (hP : rxPSLX S0 ws) : bx_obE rxL X S0 rxCSLX.2.2.1 (rxISLX S0 ws) (rxPSSLX S0 ws) 2 rxzSLX_2 rxeSLX_2_2 := by
  intro S S_p r r_p hinv hX hin hsm_ hseg
  obtain ⟨I0, I1, h0_, hr_, b_, f_, d_⟩ := bx_cl (evs := []) (fvs := []) hseg (by decide +kernel) (by decide +kernel)
  have hinv : rxISLX_2 S0 ws S (r 8) (r 9) (r 10) (r 11) (r 12) (r 13) := hinv
  rw [← hr_ 8 (by decide), ← hr_ 9 (by decide), ← hr_ 10 (by decide), ← hr_ 11 (by decide), ← hr_ 12 (by decide), ← hr_ 13 (by decide)] at hinv
  obtain ⟨⟨l8, u8⟩, ⟨l9, u9⟩, ⟨l10, u10⟩, ⟨l11, u11⟩, ⟨l12, u12⟩, ⟨l13, u13⟩, -⟩ := b_
  have w_ := d_
  subst w_
  have g := rxdSLX_2_2 hP hin hsm_ I0 I1 hinv l8 u8 l9 u9 l10 u10 l11 u11 l12 u12 l13 u13
  refine ⟨bx_narP_ok (l := []) g.1, ?_⟩
  show rxPSSLX S0 ws S_p (some (bx_num r_p (.inr (0, (0, 0)))))
  rw [bx_xv_ok h0_]
  exact g.2
theorem rxgCSLX {X : (Nat → Int → Int) → Prop} {S0 : Nat → Int → Int} {ws : List Int} (hP : rxPSLX S0 ws) : bx_allI (fun i q => rxUSLX q = true ∨ bx_allP (fun o => bx_obC rxL X S0 rxCSLX.2.2.1 (rxISLX S0 ws) (rxmSLX S0 ws) i q.1 o) q.2.1) 0 rxYSLX := ⟨Or.inr ⟨rxgSLX_0_0 hP, trivial⟩, Or.inl rfl, Or.inr trivial, trivial⟩
theorem rxgESLX {X : (Nat → Int → Int) → Prop} {S0 : Nat → Int → Int} {ws : List Int} (hP : rxPSLX S0 ws) : bx_allI (fun i q => rxUSLX q = true ∨ bx_allP (fun E => bx_obE rxL X S0 rxCSLX.2.2.1 (rxISLX S0 ws) (rxPSSLX S0 ws) i q.1 E) q.2.2) 0 rxYSLX := ⟨Or.inr trivial, Or.inl rfl, Or.inr ⟨rxfSLX_2_0 hP, rxfSLX_2_1 hP, rxfSLX_2_2 hP, trivial⟩, trivial⟩
theorem rxuSLX {PX : State → Prop} {Dg : va_G} {A : Nat → Prop} {ad xa : Nat → Nat} {l : Launch} {X : (Nat → Int → Int) → Prop} (hPX : rx_PXOK rxNW A PX) (hX : ∀ S S1 : Nat → Int → Int, X S → bx_same rxL (bx_mdl rxCSLX.2.2.1) S S1 → X S1) (hQTEX : bx_ConP rxG rxNW rxAO PX Dg rxL X vwCl A ad l rxM289 rxC289 rxPTEX rxPSTEX) {S0 : Nat → Int → Int} {ws : List Int} (hP : rxPSLX S0 ws) : ∀ (i : Nat) (q : bx_HE), rxYSLX[i]? = some q → rxUSLX q = true → ∀ {p : Program} {e : Env} {R : Room} {s : State} {m : MethodId} {args : Array Value} {below : List Frame} {meth : Method} {c : Code} {Q : State → Prop} {H0 : Heap}, rx_Fr rxG rxNW rxAO PX p s m args meth c rxM290 → (∀ q, H0.size ≤ q → A q) → H0 = s.heap → rxM290.2.2.2.2.2.2.1 ≤ R.cells → rxM290.2.2.2.2.2.2.2 ≤ R.slots → rxCSLX.2.2.2.1 ≤ R.frames → rxCSLX.2.2.2.1 * 40 ≤ R.locals → bx_Step p l e R s m args below meth c Q Dg rxL X vwCl A xa H0 ad rxM290 rxYSLX (rxISLX S0 ws) (rxmSLX S0 ws) S0 rxCSLX.2.2.1 i q := by
  intro i q hq hus p e R s m args below meth c Q H0 hF hA hH0 hmc hms hd hdl
  match i, hq with
  | 0, hq =>
    cases hq
    exact absurd (show false = true from hus) Bool.false_ne_true
  | 1, hq =>
    cases hq
    exact rx_stepC (ins := .invokevirtual 423) (len := 3) (i_p := 2) (M_p := rxM289) (d := rxCSLX.2.2.2.1) (as := [.inr (3, (0, 480)), .inr (0, (0, 0)), .inr (0, (8, 0)), .inr (0, (9, 0)), .inr (0, (10, 0)), .inr (0, (11, 0)), .inr (1, (12, 0))]) (t := []) (ct := rxC289) hPX hF rfl hA hH0 hmc hms hd hdl (by decide +kernel) rfl rfl (by decide +kernel) (by decide +kernel) hQTEX (by decide +kernel) rfl (Or.inr ⟨_, _, _, 2, rfl, rfl, by omega, rfl, rfl, rfl⟩) (rxsSLX_1 hP)
  | 2, hq =>
    cases hq
    exact absurd (show false = true from hus) Bool.false_ne_true
  | n + 3, hq => cases hq
theorem rxQSLX {PX : State → Prop} {Dg : va_G} {A : Nat → Prop} {ad xa : Nat → Nat} {l : Launch} {X : (Nat → Int → Int) → Prop} (hPX : rx_PXOK rxNW A PX) (hsl : ∀ s : State, PX s → ∀ o idx n : Nat, rxSl o idx = some n → ∃ tx : String, vk_R (rxNm o) idx tx (ad n) s)
    (hX : ∀ S S_p : Nat → Int → Int, X S → bx_same rxL (bx_mdl rxCSLX.2.2.1) S S_p → X S_p)
    (ih : ∀ (j2 : Nat) (ct2 : bx_Ct) (M2 : rx_Mt), ct2 ∈ rxCnE j2 → ct2.2.2.2.1 + 1 ≤ rxCSLX.2.2.2.1 → rxT.2.2.2.2.2 j2 = some M2 → bx_Con rxG rxNW rxAO PX Dg rxL X vwCl A ad l M2 ct2) (hQTEX : bx_ConP rxG rxNW rxAO PX Dg rxL X vwCl A ad l rxM289 rxC289 rxPTEX rxPSTEX) : bx_ConP rxG rxNW rxAO PX Dg rxL X vwCl A ad l rxM290 rxCSLX rxPSLX rxPSSLX :=
  rxQof (xa := xa) (Cn := rxCnE) (f := 30000) (j := 290) (tab := rxYSLX) (us := rxUSLX) hPX hsl hX ih rfl rxYcSLX rxISLX rxmSLX
    (fun S0 ws r I0 I ht0 ht as he he1 hX0 hI0 hP hs ha => by
      have e := he.symm.trans (show bx_ent0 rxNP rxCSLX.1 bx_I0 [] = some ([(0, 0), (0, 0), (0, 0), (0, 0), (0, 0), (0, 0), (0, 0), (0, 0), (0, 7), (0, 5), ((-1), 7), (0, 300)], [], [.inr (3, (0, 480)), .inr (0, (8, 0)), .inr (0, (9, 0)), .inr (0, (10, 0)), .inr (0, (11, 0))]) from rfl)
      cases e
      subst ha
      have h0 : r 0 = 0 := hs.1
      show rxISLX_0 S0 _ S0 (r 8) (r 9) (r 10) (r 11)
      refine ⟨rfl, ?_⟩
      simp only [List.map_cons, List.map_nil, bx_xv_ok h0]
      rfl)
    (fun S0 ws hP => rxuSLX (xa := xa) hPX hX hQTEX hP) (fun S0 ws hP => rxgCSLX hP) (fun S0 ws hP => rxgESLX hP)
noncomputable def rxCHOX : bx_Ct := ([(3, (1, 480, 0)), (0, (0, 0, 7)), (0, (0, 0, 5)), (0, (0, (-1), 7)), (0, (0, 0, 300))], some (0, (0, 0, 99)), [(12, 28), (12, 32), (12, 33), (12, 34), (1074, 0), (1076, 0)], 4, [])
noncomputable def rxIHOX_0 (S0 : Nat → Int → Int) (ws : List Int) (S : Nat → Int → Int) (p pa t y : Int) : Prop := S = S0 ∧ ws = [480, p, pa, t, y]
noncomputable def rxmHOX_0 (S0 : Nat → Int → Int) (ws : List Int) (S : Nat → Int → Int) (p pa t y : Int) : Nat := 100
noncomputable def rxzHOX_0 : rx_Z := ([(0, 0), (0, 0), (0, 0), (0, 0), (0, 0), (0, 0), (0, 0), (0, 0), (0, 7), (0, 5), ((-1), 7), (0, 300)], [], [], 0, 0, 0, [(0, .inr (3, (0, 480))), (1, .inr (0, (8, 0))), (2, .inr (0, (9, 0))), (3, .inr (0, (10, 0))), (4, .inr (0, (11, 0)))], [])
noncomputable def rxIHOX_1 (S0 : Nat → Int → Int) (ws : List Int) (S : Nat → Int → Int) (p pa t y : Int) : Prop := S = S0 ∧ ws = [480, p, pa, t, y]
noncomputable def rxmHOX_1 (S0 : Nat → Int → Int) (ws : List Int) (S : Nat → Int → Int) (p pa t y : Int) : Nat := 50
noncomputable def rxzHOX_1 : rx_Z := ([(0, 0), (0, 0), (0, 0), (0, 0), (0, 0), (0, 0), (0, 0), (0, 0), (0, 7), (0, 5), ((-1), 7), (0, 300)], [], [], 0, 0, 8, [(0, .inr (3, (0, 480))), (1, .inr (0, (8, 0))), (2, .inr (0, (9, 0))), (3, .inr (0, (10, 0))), (4, .inr (0, (11, 0)))], [.inr (1, (0, 1)), .inr (0, (11, 0)), .inr (0, (10, 0)), .inr (0, (9, 0)), .inr (0, (8, 0)), .inr (0, (0, 1)), .inr (3, (0, 480))])
noncomputable def rxIHOX_2 (S0 : Nat → Int → Int) (ws : List Int) (S : Nat → Int → Int) (p pa t y r : Int) : Prop := ws = [480, p, pa, t, y] ∧ rqAs (S0 482) p pa t y 1 (1) r
noncomputable def rxmHOX_2 (S0 : Nat → Int → Int) (ws : List Int) (S : Nat → Int → Int) (p pa t y r : Int) : Nat := 40
noncomputable def rxzHOX_2 : rx_Z := ([(0, 0), (0, 0), (0, 0), (0, 0), (0, 0), (0, 0), (0, 0), (0, 0), (0, 7), (0, 5), ((-1), 7), (0, 300), ((-9223372036854775808), 9223372036854775807)], [], [], 0, 0, 11, [(0, .inr (3, (0, 480))), (1, .inr (0, (8, 0))), (2, .inr (0, (9, 0))), (3, .inr (0, (10, 0))), (4, .inr (0, (11, 0)))], [.inr (1, (12, 0))])
noncomputable def rxoHOX_0_0 : bx_HO := (([(0, 0), (0, 0), (0, 0), (0, 0), (0, 0), (0, 0), (0, 0), (0, 0), (0, 7), (0, 5), ((-1), 7), (0, 300)], [], [], 0, 0, 8, [(0, .inr (3, (0, 480))), (1, .inr (0, (8, 0))), (2, .inr (0, (9, 0))), (3, .inr (0, (10, 0))), (4, .inr (0, (11, 0)))], [.inr (1, (0, 1)), .inr (0, (11, 0)), .inr (0, (10, 0)), .inr (0, (9, 0)), .inr (0, (8, 0)), .inr (0, (0, 1)), .inr (3, (0, 480))]), [], [], [(0, 0), (0, 0), (0, 0), (0, 0), (0, 0), (0, 0), (0, 0), (0, 0), (8, 0), (9, 0), (10, 0), (11, 0)], 1)
noncomputable def rxeHOX_2_0 : rx_End × List (Nat × Int × Int) := (([(0, 0), (0, 0), (0, 0), (0, 0), (0, 0), (0, 0), (0, 0), (0, 0), (0, 7), (0, 5), ((-1), 7), (0, 300), (0, 99)], [], [], some (.inr (0, (12, 0)))), [])
noncomputable def rxeHOX_2_1 : rx_End × List (Nat × Int × Int) := (([(0, 0), (0, 0), (0, 0), (0, 0), (0, 0), (0, 0), (0, 0), (0, 0), (0, 7), (0, 5), ((-1), 7), (0, 300), (100, 9223372036854775807)], [], [], some (.inr (0, (0, 99)))), [])
noncomputable def rxeHOX_2_2 : rx_End × List (Nat × Int × Int) := (([(0, 0), (0, 0), (0, 0), (0, 0), (0, 0), (0, 0), (0, 0), (0, 0), (0, 7), (0, 5), ((-1), 7), (0, 300), ((-9223372036854775808), (-1))], [], [], some (.inr (0, (0, 0)))), [])
noncomputable def rxYHOX : List bx_HE := [(rxzHOX_0, [rxoHOX_0_0], []), (rxzHOX_1, [], []), (rxzHOX_2, [], [rxeHOX_2_0, rxeHOX_2_1, rxeHOX_2_2])]
noncomputable def rxUHOX (q : bx_HE) : Bool := Nat.beq (rx_zpc q.1) 8
noncomputable def rxYBHOX : bx_B := (rxV, rxNP, rxDmf, bx_mdH rxCHOX.2.2.1)
set_option maxRecDepth 100000 in
theorem rxYcHOX : bx_chkH rxYBHOX rxM291 rxCHOX rxYHOX (rxUHOX, fun cut z => rx_ex2 (rxCT rxYBHOX rxCnE) cut 30000 rxCHOX.2.2.2.1 291 z) = true := by decide +kernel
noncomputable def rxIHOX (S0 : Nat → Int → Int) (ws : List Int) (i : Nat) : bx_SP := fun S r => match i with | 0 => rxIHOX_0 S0 ws S (r 8) (r 9) (r 10) (r 11) | 1 => rxIHOX_1 S0 ws S (r 8) (r 9) (r 10) (r 11) | 2 => rxIHOX_2 S0 ws S (r 8) (r 9) (r 10) (r 11) (r 12) | _ => False
noncomputable def rxmHOX (S0 : Nat → Int → Int) (ws : List Int) (i : Nat) (S : Nat → Int → Int) (r : Nat → Int) : Nat := match i with | 0 => rxmHOX_0 S0 ws S (r 8) (r 9) (r 10) (r 11) | 1 => rxmHOX_1 S0 ws S (r 8) (r 9) (r 10) (r 11) | 2 => rxmHOX_2 S0 ws S (r 8) (r 9) (r 10) (r 11) (r 12) | _ => 0
noncomputable def rxPHOX (S0 : Nat → Int → Int) (ws : List Int) : Prop := rxX S0 ∧ rqLp (S0 482)
noncomputable def rxPSHOX (S0 : Nat → Int → Int) (ws : List Int) (S : Nat → Int → Int) (w : Option Int) : Prop := ∃ p pa t y x : Int, ws = [480, p, pa, t, y] ∧ rqAs (S0 482) p pa t y 1 (1) x ∧ w = some (rkNear x 99)
theorem rxkHOX_1 {S0 : Nat → Int → Int} {ws : List Int} {S : Nat → Int → Int} {p pa t y : Int} (hP : rxPHOX S0 ws) (hin : bx_same rxL (bx_mdl rxCHOX.2.2.1) S0 S) (I0 : bx_Inv rxL S) (hinv : rxIHOX_1 S0 ws S p pa t y) (l8 : 0 ≤ p) (u8 : p ≤ 7) (l9 : 0 ≤ pa) (u9 : pa ≤ 5) (l10 : (-1) ≤ t) (u10 : t ≤ 7) (l11 : 0 ≤ y) (u11 : y ≤ 300) : rxPTEX S [480, 1, p, pa, t, y, 1] ∧ ∀ (S_p : Nat → Int → Int) (r : Int), (-9223372036854775808) ≤ r → r ≤ 9223372036854775807 → rxPSTEX S [480, 1, p, pa, t, y, 1] S_p (some r) → bx_Inv rxL S_p → bx_same rxL (bx_mdl rxC289.2.2.1) S S_p → rxIHOX_2 S0 ws S_p p pa t y r ∧ rxmHOX_2 S0 ws S_p p pa t y r < rxmHOX_1 S0 ws S p pa t y := by
  obtain ⟨hS, hw⟩ := hinv
  subst hS
  refine ⟨⟨hP.1, hP.2⟩, fun S_p r _ _ hq _ hsm => ⟨⟨hw, ?_⟩, by unfold rxmHOX_1 rxmHOX_2; omega⟩⟩
  obtain ⟨-, kd2, p2, pa2, t2, y2, b2, hw3, h⟩ := hq
  have k0 : (1 : Int) = kd2 := Option.some.inj (congrArg (fun l : List Int => l[1]?) hw3)
  have k1 : p = p2 := Option.some.inj (congrArg (fun l : List Int => l[2]?) hw3)
  have k2 : pa = pa2 := Option.some.inj (congrArg (fun l : List Int => l[3]?) hw3)
  have k3 : t = t2 := Option.some.inj (congrArg (fun l : List Int => l[4]?) hw3)
  have k4 : y = y2 := Option.some.inj (congrArg (fun l : List Int => l[5]?) hw3)
  have k5 : (1 : Int) = b2 := Option.some.inj (congrArg (fun l : List Int => l[6]?) hw3)
  subst k0
  subst k1
  subst k2
  subst k3
  subst k4
  subst k5
  rcases h with ⟨a, b⟩ | ⟨a, b⟩
  · exact Or.inl ⟨a, Option.some.inj b⟩
  · refine Or.inr ⟨a, fun L hL hl => ?_⟩
    obtain ⟨x, x1, x2⟩ := b L hL hl
    rw [Option.some.inj x1]
    exact x2
theorem rxsHOX_1 {X : (Nat → Int → Int) → Prop} {S0 : Nat → Int → Int} {ws : List Int} (hP : rxPHOX S0 ws) : rx_obK X S0 rxCHOX.2.2.1 rxC289.2.2.1 (rxIHOX S0 ws) (rxmHOX S0 ws) 1 2 rxzHOX_1 rxzHOX_2 [.inr (3, (0, 480)), .inr (0, (0, 1)), .inr (0, (8, 0)), .inr (0, (9, 0)), .inr (0, (10, 0)), .inr (0, (11, 0)), .inr (1, (0, 1))] (some 12) rxPTEX rxPSTEX := by
  intro S r hinv hXS I0 hin hs_ hf_
  have b_ := bx_bds_sat hs_
  have f_ := bx_fcl_ok hs_.1 hf_
  obtain ⟨⟨l8, u8⟩, ⟨l9, u9⟩, ⟨l10, u10⟩, ⟨l11, u11⟩, -⟩ := b_
  have g := rxkHOX_1 hP hin I0 hinv l8 u8 l9 u9 l10 u10 l11 u11
  have ea : List.map (bx_num r) [.inr (3, (0, 480)), .inr (0, (0, 1)), .inr (0, (8, 0)), .inr (0, (9, 0)), .inr (0, (10, 0)), .inr (0, (11, 0)), .inr (1, (0, 1))] = [480, 1, (r 8), (r 9), (r 10), (r 11), 1] := by
    simp only [List.map_cons, List.map_nil, bx_xv_ok hs_.1]
    rfl
  rw [ea]
  refine ⟨g.1, fun S_p w r_p hPS hX_p I1 hsm hr hw hs_p => ?_⟩
  have hw := hw _ rfl
  subst hw
  have b_p := hs_p.2.2 12 _ _ rfl
  have g2 := g.2 S_p (r_p 12) b_p.1 b_p.2 hPS I1 hsm
  show rxIHOX_2 S0 ws S_p (r_p 8) (r_p 9) (r_p 10) (r_p 11) (r_p 12) ∧ rxmHOX_2 S0 ws S_p (r_p 8) (r_p 9) (r_p 10) (r_p 11) (r_p 12) < _
  rw [hr 8 (by decide), hr 9 (by decide), hr 10 (by decide), hr 11 (by decide)]
  exact g2
theorem rxcHOX_0_0 {S0 : Nat → Int → Int} {ws : List Int} {S : Nat → Int → Int} {p pa t y : Int} (hP : rxPHOX S0 ws) (hin : bx_same rxL (bx_mdl rxCHOX.2.2.1) S0 S) (I0 : bx_Inv rxL S) (hinv : rxIHOX_0 S0 ws S p pa t y) (l8 : 0 ≤ p) (u8 : p ≤ 7) (l9 : 0 ≤ pa) (u9 : pa ≤ 5) (l10 : (-1) ≤ t) (u10 : t ≤ 7) (l11 : 0 ≤ y) (u11 : y ≤ 300) : (True) ∧ (True) ∧ rxIHOX_1 S0 ws S p pa t y ∧ rxmHOX_1 S0 ws S p pa t y < rxmHOX_0 S0 ws S p pa t y := by
  obtain ⟨rfl, hw⟩ := hinv
  exact ⟨trivial, trivial, ⟨rfl, hw⟩, by unfold rxmHOX_0 rxmHOX_1; omega⟩
theorem rxgHOX_0_0 {X : (Nat → Int → Int) → Prop} {S0 : Nat → Int → Int} {ws : List Int} (hP : rxPHOX S0 ws) : bx_obC rxL X S0 rxCHOX.2.2.1 (rxIHOX S0 ws) (rxmHOX S0 ws) 0 rxzHOX_0 rxoHOX_0_0 := by
  intro S S_p r r_p hinv hX hin hsm_ hseg
  obtain ⟨I0, I1, h0_, hr_, b_, f_, d_⟩ := bx_cl (evs := []) (fvs := []) hseg (by decide +kernel) (by decide +kernel)
  have hinv : rxIHOX_0 S0 ws S (r 8) (r 9) (r 10) (r 11) := hinv
  rw [← hr_ 8 (by decide), ← hr_ 9 (by decide), ← hr_ 10 (by decide), ← hr_ 11 (by decide)] at hinv
  obtain ⟨⟨l8, u8⟩, ⟨l9, u9⟩, ⟨l10, u10⟩, ⟨l11, u11⟩, -⟩ := b_
  have w_ := d_
  subst w_
  have g := rxcHOX_0_0 hP hin I0 hinv l8 u8 l9 u9 l10 u10 l11 u11
  refine ⟨bx_narP_ok (l := []) g.1, bx_nfP_ok h0_ (fvs := []) (by decide +kernel) g.2.1, ?_, ?_⟩
  · show rxIHOX_1 S0 ws S_p (bx_val [(0, 0), (0, 0), (0, 0), (0, 0), (0, 0), (0, 0), (0, 0), (0, 0), (8, 0), (9, 0), (10, 0), (11, 0)] r_p 8) (bx_val [(0, 0), (0, 0), (0, 0), (0, 0), (0, 0), (0, 0), (0, 0), (0, 0), (8, 0), (9, 0), (10, 0), (11, 0)] r_p 9) (bx_val [(0, 0), (0, 0), (0, 0), (0, 0), (0, 0), (0, 0), (0, 0), (0, 0), (8, 0), (9, 0), (10, 0), (11, 0)] r_p 10) (bx_val [(0, 0), (0, 0), (0, 0), (0, 0), (0, 0), (0, 0), (0, 0), (0, 0), (8, 0), (9, 0), (10, 0), (11, 0)] r_p 11)
    rw [bx_val_x (n := 8) (e := (8, 0)) h0_ rfl, bx_val_x (n := 9) (e := (9, 0)) h0_ rfl, bx_val_x (n := 10) (e := (10, 0)) h0_ rfl, bx_val_x (n := 11) (e := (11, 0)) h0_ rfl]
    exact g.2.2.1
  · show rxmHOX_1 S0 ws S_p (bx_val [(0, 0), (0, 0), (0, 0), (0, 0), (0, 0), (0, 0), (0, 0), (0, 0), (8, 0), (9, 0), (10, 0), (11, 0)] r_p 8) (bx_val [(0, 0), (0, 0), (0, 0), (0, 0), (0, 0), (0, 0), (0, 0), (0, 0), (8, 0), (9, 0), (10, 0), (11, 0)] r_p 9) (bx_val [(0, 0), (0, 0), (0, 0), (0, 0), (0, 0), (0, 0), (0, 0), (0, 0), (8, 0), (9, 0), (10, 0), (11, 0)] r_p 10) (bx_val [(0, 0), (0, 0), (0, 0), (0, 0), (0, 0), (0, 0), (0, 0), (0, 0), (8, 0), (9, 0), (10, 0), (11, 0)] r_p 11) < rxmHOX_0 S0 ws S_p (r 8) (r 9) (r 10) (r 11)
    rw [bx_val_x (n := 8) (e := (8, 0)) h0_ rfl, bx_val_x (n := 9) (e := (9, 0)) h0_ rfl, bx_val_x (n := 10) (e := (10, 0)) h0_ rfl, bx_val_x (n := 11) (e := (11, 0)) h0_ rfl, ← hr_ 8 (by decide), ← hr_ 9 (by decide), ← hr_ 10 (by decide), ← hr_ 11 (by decide)]
    exact g.2.2.2
theorem rxdHOX_2_0 {S0 : Nat → Int → Int} {ws : List Int} {S : Nat → Int → Int} {p pa t y r : Int} (hP : rxPHOX S0 ws) (hin : bx_same rxL (bx_mdl rxCHOX.2.2.1) S0 S) (hin2 : bx_same rxL (bx_mdl rxCHOX.2.2.1) S S) (I0 : bx_Inv rxL S) (I1 : bx_Inv rxL S) (hinv : rxIHOX_2 S0 ws S p pa t y r) (l8 : 0 ≤ p) (u8 : p ≤ 7) (l9 : 0 ≤ pa) (u9 : pa ≤ 5) (l10 : (-1) ≤ t) (u10 : t ≤ 7) (l11 : 0 ≤ y) (u11 : y ≤ 300) (l12 : 0 ≤ r) (u12 : r ≤ 99) : (True) ∧ rxPSHOX S0 ws S (some r) := by
  obtain ⟨hw, hr⟩ := hinv
  exact ⟨trivial, p, pa, t, y, r, hw, hr, congrArg some (by first | exact (rkNear_0 (by omega)).symm | exact (rkNear_m (by omega) (by omega)).symm | exact (rkNear_i (by omega) (by omega)).symm)⟩
theorem rxfHOX_2_0 {X : (Nat → Int → Int) → Prop} {S0 : Nat → Int → Int} {ws : List Int} (hP : rxPHOX S0 ws) : bx_obE rxL X S0 rxCHOX.2.2.1 (rxIHOX S0 ws) (rxPSHOX S0 ws) 2 rxzHOX_2 rxeHOX_2_0 := by
  intro S S_p r r_p hinv hX hin hsm_ hseg
  obtain ⟨I0, I1, h0_, hr_, b_, f_, d_⟩ := bx_cl (evs := []) (fvs := []) hseg (by decide +kernel) (by decide +kernel)
  have hinv : rxIHOX_2 S0 ws S (r 8) (r 9) (r 10) (r 11) (r 12) := hinv
  rw [← hr_ 8 (by decide), ← hr_ 9 (by decide), ← hr_ 10 (by decide), ← hr_ 11 (by decide), ← hr_ 12 (by decide)] at hinv
  obtain ⟨⟨l8, u8⟩, ⟨l9, u9⟩, ⟨l10, u10⟩, ⟨l11, u11⟩, ⟨l12, u12⟩, -⟩ := b_
  have w_ := d_
  subst w_
  have g := rxdHOX_2_0 hP hin hsm_ I0 I1 hinv l8 u8 l9 u9 l10 u10 l11 u11 l12 u12
  refine ⟨bx_narP_ok (l := []) g.1, ?_⟩
  show rxPSHOX S0 ws S_p (some (bx_num r_p (.inr (0, (12, 0)))))
  rw [bx_xv_ok h0_]
  exact g.2
theorem rxdHOX_2_1 {S0 : Nat → Int → Int} {ws : List Int} {S : Nat → Int → Int} {p pa t y r : Int} (hP : rxPHOX S0 ws) (hin : bx_same rxL (bx_mdl rxCHOX.2.2.1) S0 S) (hin2 : bx_same rxL (bx_mdl rxCHOX.2.2.1) S S) (I0 : bx_Inv rxL S) (I1 : bx_Inv rxL S) (hinv : rxIHOX_2 S0 ws S p pa t y r) (l8 : 0 ≤ p) (u8 : p ≤ 7) (l9 : 0 ≤ pa) (u9 : pa ≤ 5) (l10 : (-1) ≤ t) (u10 : t ≤ 7) (l11 : 0 ≤ y) (u11 : y ≤ 300) (l12 : 100 ≤ r) (u12 : r ≤ 9223372036854775807) : (True) ∧ rxPSHOX S0 ws S (some 99) := by
  obtain ⟨hw, hr⟩ := hinv
  exact ⟨trivial, p, pa, t, y, r, hw, hr, congrArg some (by first | exact (rkNear_0 (by omega)).symm | exact (rkNear_m (by omega) (by omega)).symm | exact (rkNear_i (by omega) (by omega)).symm)⟩
theorem rxfHOX_2_1 {X : (Nat → Int → Int) → Prop} {S0 : Nat → Int → Int} {ws : List Int} (hP : rxPHOX S0 ws) : bx_obE rxL X S0 rxCHOX.2.2.1 (rxIHOX S0 ws) (rxPSHOX S0 ws) 2 rxzHOX_2 rxeHOX_2_1 := by
  intro S S_p r r_p hinv hX hin hsm_ hseg
  obtain ⟨I0, I1, h0_, hr_, b_, f_, d_⟩ := bx_cl (evs := []) (fvs := []) hseg (by decide +kernel) (by decide +kernel)
  have hinv : rxIHOX_2 S0 ws S (r 8) (r 9) (r 10) (r 11) (r 12) := hinv
  rw [← hr_ 8 (by decide), ← hr_ 9 (by decide), ← hr_ 10 (by decide), ← hr_ 11 (by decide), ← hr_ 12 (by decide)] at hinv
  obtain ⟨⟨l8, u8⟩, ⟨l9, u9⟩, ⟨l10, u10⟩, ⟨l11, u11⟩, ⟨l12, u12⟩, -⟩ := b_
  have w_ := d_
  subst w_
  have g := rxdHOX_2_1 hP hin hsm_ I0 I1 hinv l8 u8 l9 u9 l10 u10 l11 u11 l12 u12
  refine ⟨bx_narP_ok (l := []) g.1, ?_⟩
  show rxPSHOX S0 ws S_p (some (bx_num r_p (.inr (0, (0, 99)))))
  rw [bx_xv_ok h0_]
  exact g.2
theorem rxdHOX_2_2 {S0 : Nat → Int → Int} {ws : List Int} {S : Nat → Int → Int} {p pa t y r : Int} (hP : rxPHOX S0 ws) (hin : bx_same rxL (bx_mdl rxCHOX.2.2.1) S0 S) (hin2 : bx_same rxL (bx_mdl rxCHOX.2.2.1) S S) (I0 : bx_Inv rxL S) (I1 : bx_Inv rxL S) (hinv : rxIHOX_2 S0 ws S p pa t y r) (l8 : 0 ≤ p) (u8 : p ≤ 7) (l9 : 0 ≤ pa) (u9 : pa ≤ 5) (l10 : (-1) ≤ t) (u10 : t ≤ 7) (l11 : 0 ≤ y) (u11 : y ≤ 300) (l12 : (-9223372036854775808) ≤ r) (u12 : r ≤ (-1)) : (True) ∧ rxPSHOX S0 ws S (some 0) := by
  obtain ⟨hw, hr⟩ := hinv
  exact ⟨trivial, p, pa, t, y, r, hw, hr, congrArg some (by first | exact (rkNear_0 (by omega)).symm | exact (rkNear_m (by omega) (by omega)).symm | exact (rkNear_i (by omega) (by omega)).symm)⟩
theorem rxfHOX_2_2 {X : (Nat → Int → Int) → Prop} {S0 : Nat → Int → Int} {ws : List Int} (hP : rxPHOX S0 ws) : bx_obE rxL X S0 rxCHOX.2.2.1 (rxIHOX S0 ws) (rxPSHOX S0 ws) 2 rxzHOX_2 rxeHOX_2_2 := by
  intro S S_p r r_p hinv hX hin hsm_ hseg
  obtain ⟨I0, I1, h0_, hr_, b_, f_, d_⟩ := bx_cl (evs := []) (fvs := []) hseg (by decide +kernel) (by decide +kernel)
  have hinv : rxIHOX_2 S0 ws S (r 8) (r 9) (r 10) (r 11) (r 12) := hinv
  rw [← hr_ 8 (by decide), ← hr_ 9 (by decide), ← hr_ 10 (by decide), ← hr_ 11 (by decide), ← hr_ 12 (by decide)] at hinv
  obtain ⟨⟨l8, u8⟩, ⟨l9, u9⟩, ⟨l10, u10⟩, ⟨l11, u11⟩, ⟨l12, u12⟩, -⟩ := b_
  have w_ := d_
  subst w_
  have g := rxdHOX_2_2 hP hin hsm_ I0 I1 hinv l8 u8 l9 u9 l10 u10 l11 u11 l12 u12
  refine ⟨bx_narP_ok (l := []) g.1, ?_⟩
  show rxPSHOX S0 ws S_p (some (bx_num r_p (.inr (0, (0, 0)))))
  rw [bx_xv_ok h0_]
  exact g.2
theorem rxgCHOX {X : (Nat → Int → Int) → Prop} {S0 : Nat → Int → Int} {ws : List Int} (hP : rxPHOX S0 ws) : bx_allI (fun i q => rxUHOX q = true ∨ bx_allP (fun o => bx_obC rxL X S0 rxCHOX.2.2.1 (rxIHOX S0 ws) (rxmHOX S0 ws) i q.1 o) q.2.1) 0 rxYHOX := ⟨Or.inr ⟨rxgHOX_0_0 hP, trivial⟩, Or.inl rfl, Or.inr trivial, trivial⟩
theorem rxgEHOX {X : (Nat → Int → Int) → Prop} {S0 : Nat → Int → Int} {ws : List Int} (hP : rxPHOX S0 ws) : bx_allI (fun i q => rxUHOX q = true ∨ bx_allP (fun E => bx_obE rxL X S0 rxCHOX.2.2.1 (rxIHOX S0 ws) (rxPSHOX S0 ws) i q.1 E) q.2.2) 0 rxYHOX := ⟨Or.inr trivial, Or.inl rfl, Or.inr ⟨rxfHOX_2_0 hP, rxfHOX_2_1 hP, rxfHOX_2_2 hP, trivial⟩, trivial⟩
theorem rxuHOX {PX : State → Prop} {Dg : va_G} {A : Nat → Prop} {ad xa : Nat → Nat} {l : Launch} {X : (Nat → Int → Int) → Prop} (hPX : rx_PXOK rxNW A PX) (hX : ∀ S S1 : Nat → Int → Int, X S → bx_same rxL (bx_mdl rxCHOX.2.2.1) S S1 → X S1) (hQTEX : bx_ConP rxG rxNW rxAO PX Dg rxL X vwCl A ad l rxM289 rxC289 rxPTEX rxPSTEX) {S0 : Nat → Int → Int} {ws : List Int} (hP : rxPHOX S0 ws) : ∀ (i : Nat) (q : bx_HE), rxYHOX[i]? = some q → rxUHOX q = true → ∀ {p : Program} {e : Env} {R : Room} {s : State} {m : MethodId} {args : Array Value} {below : List Frame} {meth : Method} {c : Code} {Q : State → Prop} {H0 : Heap}, rx_Fr rxG rxNW rxAO PX p s m args meth c rxM291 → (∀ q, H0.size ≤ q → A q) → H0 = s.heap → rxM291.2.2.2.2.2.2.1 ≤ R.cells → rxM291.2.2.2.2.2.2.2 ≤ R.slots → rxCHOX.2.2.2.1 ≤ R.frames → rxCHOX.2.2.2.1 * 40 ≤ R.locals → bx_Step p l e R s m args below meth c Q Dg rxL X vwCl A xa H0 ad rxM291 rxYHOX (rxIHOX S0 ws) (rxmHOX S0 ws) S0 rxCHOX.2.2.1 i q := by
  intro i q hq hus p e R s m args below meth c Q H0 hF hA hH0 hmc hms hd hdl
  match i, hq with
  | 0, hq =>
    cases hq
    exact absurd (show false = true from hus) Bool.false_ne_true
  | 1, hq =>
    cases hq
    exact rx_stepC (ins := .invokevirtual 423) (len := 3) (i_p := 2) (M_p := rxM289) (d := rxCHOX.2.2.2.1) (as := [.inr (3, (0, 480)), .inr (0, (0, 1)), .inr (0, (8, 0)), .inr (0, (9, 0)), .inr (0, (10, 0)), .inr (0, (11, 0)), .inr (1, (0, 1))]) (t := []) (ct := rxC289) hPX hF rfl hA hH0 hmc hms hd hdl (by decide +kernel) rfl rfl (by decide +kernel) (by decide +kernel) hQTEX (by decide +kernel) rfl (Or.inr ⟨_, _, _, 2, rfl, rfl, by omega, rfl, rfl, rfl⟩) (rxsHOX_1 hP)
  | 2, hq =>
    cases hq
    exact absurd (show false = true from hus) Bool.false_ne_true
  | n + 3, hq => cases hq
theorem rxQHOX {PX : State → Prop} {Dg : va_G} {A : Nat → Prop} {ad xa : Nat → Nat} {l : Launch} {X : (Nat → Int → Int) → Prop} (hPX : rx_PXOK rxNW A PX) (hsl : ∀ s : State, PX s → ∀ o idx n : Nat, rxSl o idx = some n → ∃ tx : String, vk_R (rxNm o) idx tx (ad n) s)
    (hX : ∀ S S_p : Nat → Int → Int, X S → bx_same rxL (bx_mdl rxCHOX.2.2.1) S S_p → X S_p)
    (ih : ∀ (j2 : Nat) (ct2 : bx_Ct) (M2 : rx_Mt), ct2 ∈ rxCnE j2 → ct2.2.2.2.1 + 1 ≤ rxCHOX.2.2.2.1 → rxT.2.2.2.2.2 j2 = some M2 → bx_Con rxG rxNW rxAO PX Dg rxL X vwCl A ad l M2 ct2) (hQTEX : bx_ConP rxG rxNW rxAO PX Dg rxL X vwCl A ad l rxM289 rxC289 rxPTEX rxPSTEX) : bx_ConP rxG rxNW rxAO PX Dg rxL X vwCl A ad l rxM291 rxCHOX rxPHOX rxPSHOX :=
  rxQof (xa := xa) (Cn := rxCnE) (f := 30000) (j := 291) (tab := rxYHOX) (us := rxUHOX) hPX hsl hX ih rfl rxYcHOX rxIHOX rxmHOX
    (fun S0 ws r I0 I ht0 ht as he he1 hX0 hI0 hP hs ha => by
      have e := he.symm.trans (show bx_ent0 rxNP rxCHOX.1 bx_I0 [] = some ([(0, 0), (0, 0), (0, 0), (0, 0), (0, 0), (0, 0), (0, 0), (0, 0), (0, 7), (0, 5), ((-1), 7), (0, 300)], [], [.inr (3, (0, 480)), .inr (0, (8, 0)), .inr (0, (9, 0)), .inr (0, (10, 0)), .inr (0, (11, 0))]) from rfl)
      cases e
      subst ha
      have h0 : r 0 = 0 := hs.1
      show rxIHOX_0 S0 _ S0 (r 8) (r 9) (r 10) (r 11)
      refine ⟨rfl, ?_⟩
      simp only [List.map_cons, List.map_nil, bx_xv_ok h0]
      rfl)
    (fun S0 ws hP => rxuHOX (xa := xa) hPX hX hQTEX hP) (fun S0 ws hP => rxgCHOX hP) (fun S0 ws hP => rxgEHOX hP)
noncomputable def rxCBAX : bx_Ct := ([(3, (1, 480, 0)), (0, (0, 0, 7)), (0, (0, 0, 5)), (0, (0, (-1), 7)), (0, (0, 0, 300))], some (0, (0, 0, 1)), [(12, 28), (12, 32), (12, 33), (12, 34), (1074, 0), (1076, 0)], 4, [])
noncomputable def rxIBAX_0 (S0 : Nat → Int → Int) (ws : List Int) (S : Nat → Int → Int) (p pa t y : Int) : Prop := S = S0 ∧ ws = [480, p, pa, t, y]
noncomputable def rxmBAX_0 (S0 : Nat → Int → Int) (ws : List Int) (S : Nat → Int → Int) (p pa t y : Int) : Nat := 100
noncomputable def rxzBAX_0 : rx_Z := ([(0, 0), (0, 0), (0, 0), (0, 0), (0, 0), (0, 0), (0, 0), (0, 0), (0, 7), (0, 5), ((-1), 7), (0, 300)], [], [], 0, 0, 0, [(0, .inr (3, (0, 480))), (1, .inr (0, (8, 0))), (2, .inr (0, (9, 0))), (3, .inr (0, (10, 0))), (4, .inr (0, (11, 0)))], [])
noncomputable def rxIBAX_1 (S0 : Nat → Int → Int) (ws : List Int) (S : Nat → Int → Int) (p pa t y : Int) : Prop := S = S0 ∧ ws = [480, p, pa, t, y]
noncomputable def rxmBAX_1 (S0 : Nat → Int → Int) (ws : List Int) (S : Nat → Int → Int) (p pa t y : Int) : Nat := 50
noncomputable def rxzBAX_1 : rx_Z := ([(0, 0), (0, 0), (0, 0), (0, 0), (0, 0), (0, 0), (0, 0), (0, 0), (0, 7), (0, 5), ((-1), 7), (0, 300)], [], [], 0, 0, 8, [(0, .inr (3, (0, 480))), (1, .inr (0, (8, 0))), (2, .inr (0, (9, 0))), (3, .inr (0, (10, 0))), (4, .inr (0, (11, 0)))], [.inr (1, (0, 0)), .inr (0, (11, 0)), .inr (0, (10, 0)), .inr (0, (9, 0)), .inr (0, (8, 0)), .inr (0, (0, 2)), .inr (3, (0, 480))])
noncomputable def rxIBAX_2 (S0 : Nat → Int → Int) (ws : List Int) (S : Nat → Int → Int) (p pa t y r : Int) : Prop := ws = [480, p, pa, t, y] ∧ rqAs (S0 482) p pa t y 2 (0) r
noncomputable def rxmBAX_2 (S0 : Nat → Int → Int) (ws : List Int) (S : Nat → Int → Int) (p pa t y r : Int) : Nat := 40
noncomputable def rxzBAX_2 : rx_Z := ([(0, 0), (0, 0), (0, 0), (0, 0), (0, 0), (0, 0), (0, 0), (0, 0), (0, 7), (0, 5), ((-1), 7), (0, 300), ((-9223372036854775808), 9223372036854775807)], [], [], 0, 0, 11, [(0, .inr (3, (0, 480))), (1, .inr (0, (8, 0))), (2, .inr (0, (9, 0))), (3, .inr (0, (10, 0))), (4, .inr (0, (11, 0)))], [.inr (1, (12, 0))])
noncomputable def rxoBAX_0_0 : bx_HO := (([(0, 0), (0, 0), (0, 0), (0, 0), (0, 0), (0, 0), (0, 0), (0, 0), (0, 7), (0, 5), ((-1), 7), (0, 300)], [], [], 0, 0, 8, [(0, .inr (3, (0, 480))), (1, .inr (0, (8, 0))), (2, .inr (0, (9, 0))), (3, .inr (0, (10, 0))), (4, .inr (0, (11, 0)))], [.inr (1, (0, 0)), .inr (0, (11, 0)), .inr (0, (10, 0)), .inr (0, (9, 0)), .inr (0, (8, 0)), .inr (0, (0, 2)), .inr (3, (0, 480))]), [], [], [(0, 0), (0, 0), (0, 0), (0, 0), (0, 0), (0, 0), (0, 0), (0, 0), (8, 0), (9, 0), (10, 0), (11, 0)], 1)
noncomputable def rxeBAX_2_0 : rx_End × List (Nat × Int × Int) := (([(0, 0), (0, 0), (0, 0), (0, 0), (0, 0), (0, 0), (0, 0), (0, 0), (0, 7), (0, 5), ((-1), 7), (0, 300), (1, 1)], [], [], some (.inr (0, (0, 1)))), [])
noncomputable def rxeBAX_2_1 : rx_End × List (Nat × Int × Int) := (([(0, 0), (0, 0), (0, 0), (0, 0), (0, 0), (0, 0), (0, 0), (0, 0), (0, 7), (0, 5), ((-1), 7), (0, 300), ((-9223372036854775808), 9223372036854775807)], [(3, (12, 0), (0, 1))], [], some (.inr (0, (0, 0)))), [])
noncomputable def rxYBAX : List bx_HE := [(rxzBAX_0, [rxoBAX_0_0], []), (rxzBAX_1, [], []), (rxzBAX_2, [], [rxeBAX_2_0, rxeBAX_2_1])]
noncomputable def rxUBAX (q : bx_HE) : Bool := Nat.beq (rx_zpc q.1) 8
noncomputable def rxYBBAX : bx_B := (rxV, rxNP, rxDmf, bx_mdH rxCBAX.2.2.1)
set_option maxRecDepth 100000 in
theorem rxYcBAX : bx_chkH rxYBBAX rxM292 rxCBAX rxYBAX (rxUBAX, fun cut z => rx_ex2 (rxCT rxYBBAX rxCnE) cut 30000 rxCBAX.2.2.2.1 292 z) = true := by decide +kernel
noncomputable def rxIBAX (S0 : Nat → Int → Int) (ws : List Int) (i : Nat) : bx_SP := fun S r => match i with | 0 => rxIBAX_0 S0 ws S (r 8) (r 9) (r 10) (r 11) | 1 => rxIBAX_1 S0 ws S (r 8) (r 9) (r 10) (r 11) | 2 => rxIBAX_2 S0 ws S (r 8) (r 9) (r 10) (r 11) (r 12) | _ => False
noncomputable def rxmBAX (S0 : Nat → Int → Int) (ws : List Int) (i : Nat) (S : Nat → Int → Int) (r : Nat → Int) : Nat := match i with | 0 => rxmBAX_0 S0 ws S (r 8) (r 9) (r 10) (r 11) | 1 => rxmBAX_1 S0 ws S (r 8) (r 9) (r 10) (r 11) | 2 => rxmBAX_2 S0 ws S (r 8) (r 9) (r 10) (r 11) (r 12) | _ => 0
noncomputable def rxPBAX (S0 : Nat → Int → Int) (ws : List Int) : Prop := rxX S0 ∧ rqLp (S0 482)
noncomputable def rxPSBAX (S0 : Nat → Int → Int) (ws : List Int) (S : Nat → Int → Int) (w : Option Int) : Prop := ∃ p pa t y x : Int, ws = [480, p, pa, t, y] ∧ rqAs (S0 482) p pa t y 2 (0) x ∧ w = some (if x = 1 then 1 else 0)
theorem rxkBAX_1 {S0 : Nat → Int → Int} {ws : List Int} {S : Nat → Int → Int} {p pa t y : Int} (hP : rxPBAX S0 ws) (hin : bx_same rxL (bx_mdl rxCBAX.2.2.1) S0 S) (I0 : bx_Inv rxL S) (hinv : rxIBAX_1 S0 ws S p pa t y) (l8 : 0 ≤ p) (u8 : p ≤ 7) (l9 : 0 ≤ pa) (u9 : pa ≤ 5) (l10 : (-1) ≤ t) (u10 : t ≤ 7) (l11 : 0 ≤ y) (u11 : y ≤ 300) : rxPTEX S [480, 2, p, pa, t, y, 0] ∧ ∀ (S_p : Nat → Int → Int) (r : Int), (-9223372036854775808) ≤ r → r ≤ 9223372036854775807 → rxPSTEX S [480, 2, p, pa, t, y, 0] S_p (some r) → bx_Inv rxL S_p → bx_same rxL (bx_mdl rxC289.2.2.1) S S_p → rxIBAX_2 S0 ws S_p p pa t y r ∧ rxmBAX_2 S0 ws S_p p pa t y r < rxmBAX_1 S0 ws S p pa t y := by
  obtain ⟨hS, hw⟩ := hinv
  subst hS
  refine ⟨⟨hP.1, hP.2⟩, fun S_p r _ _ hq _ hsm => ⟨⟨hw, ?_⟩, by unfold rxmBAX_1 rxmBAX_2; omega⟩⟩
  obtain ⟨-, kd2, p2, pa2, t2, y2, b2, hw3, h⟩ := hq
  have k0 : (2 : Int) = kd2 := Option.some.inj (congrArg (fun l : List Int => l[1]?) hw3)
  have k1 : p = p2 := Option.some.inj (congrArg (fun l : List Int => l[2]?) hw3)
  have k2 : pa = pa2 := Option.some.inj (congrArg (fun l : List Int => l[3]?) hw3)
  have k3 : t = t2 := Option.some.inj (congrArg (fun l : List Int => l[4]?) hw3)
  have k4 : y = y2 := Option.some.inj (congrArg (fun l : List Int => l[5]?) hw3)
  have k5 : (0 : Int) = b2 := Option.some.inj (congrArg (fun l : List Int => l[6]?) hw3)
  subst k0
  subst k1
  subst k2
  subst k3
  subst k4
  subst k5
  rcases h with ⟨a, b⟩ | ⟨a, b⟩
  · exact Or.inl ⟨a, Option.some.inj b⟩
  · refine Or.inr ⟨a, fun L hL hl => ?_⟩
    obtain ⟨x, x1, x2⟩ := b L hL hl
    rw [Option.some.inj x1]
    exact x2
theorem rxsBAX_1 {X : (Nat → Int → Int) → Prop} {S0 : Nat → Int → Int} {ws : List Int} (hP : rxPBAX S0 ws) : rx_obK X S0 rxCBAX.2.2.1 rxC289.2.2.1 (rxIBAX S0 ws) (rxmBAX S0 ws) 1 2 rxzBAX_1 rxzBAX_2 [.inr (3, (0, 480)), .inr (0, (0, 2)), .inr (0, (8, 0)), .inr (0, (9, 0)), .inr (0, (10, 0)), .inr (0, (11, 0)), .inr (1, (0, 0))] (some 12) rxPTEX rxPSTEX := by
  intro S r hinv hXS I0 hin hs_ hf_
  have b_ := bx_bds_sat hs_
  have f_ := bx_fcl_ok hs_.1 hf_
  obtain ⟨⟨l8, u8⟩, ⟨l9, u9⟩, ⟨l10, u10⟩, ⟨l11, u11⟩, -⟩ := b_
  have g := rxkBAX_1 hP hin I0 hinv l8 u8 l9 u9 l10 u10 l11 u11
  have ea : List.map (bx_num r) [.inr (3, (0, 480)), .inr (0, (0, 2)), .inr (0, (8, 0)), .inr (0, (9, 0)), .inr (0, (10, 0)), .inr (0, (11, 0)), .inr (1, (0, 0))] = [480, 2, (r 8), (r 9), (r 10), (r 11), 0] := by
    simp only [List.map_cons, List.map_nil, bx_xv_ok hs_.1]
    rfl
  rw [ea]
  refine ⟨g.1, fun S_p w r_p hPS hX_p I1 hsm hr hw hs_p => ?_⟩
  have hw := hw _ rfl
  subst hw
  have b_p := hs_p.2.2 12 _ _ rfl
  have g2 := g.2 S_p (r_p 12) b_p.1 b_p.2 hPS I1 hsm
  show rxIBAX_2 S0 ws S_p (r_p 8) (r_p 9) (r_p 10) (r_p 11) (r_p 12) ∧ rxmBAX_2 S0 ws S_p (r_p 8) (r_p 9) (r_p 10) (r_p 11) (r_p 12) < _
  rw [hr 8 (by decide), hr 9 (by decide), hr 10 (by decide), hr 11 (by decide)]
  exact g2
theorem rxcBAX_0_0 {S0 : Nat → Int → Int} {ws : List Int} {S : Nat → Int → Int} {p pa t y : Int} (hP : rxPBAX S0 ws) (hin : bx_same rxL (bx_mdl rxCBAX.2.2.1) S0 S) (I0 : bx_Inv rxL S) (hinv : rxIBAX_0 S0 ws S p pa t y) (l8 : 0 ≤ p) (u8 : p ≤ 7) (l9 : 0 ≤ pa) (u9 : pa ≤ 5) (l10 : (-1) ≤ t) (u10 : t ≤ 7) (l11 : 0 ≤ y) (u11 : y ≤ 300) : (True) ∧ (True) ∧ rxIBAX_1 S0 ws S p pa t y ∧ rxmBAX_1 S0 ws S p pa t y < rxmBAX_0 S0 ws S p pa t y := by
  obtain ⟨rfl, hw⟩ := hinv
  exact ⟨trivial, trivial, ⟨rfl, hw⟩, by unfold rxmBAX_0 rxmBAX_1; omega⟩
theorem rxgBAX_0_0 {X : (Nat → Int → Int) → Prop} {S0 : Nat → Int → Int} {ws : List Int} (hP : rxPBAX S0 ws) : bx_obC rxL X S0 rxCBAX.2.2.1 (rxIBAX S0 ws) (rxmBAX S0 ws) 0 rxzBAX_0 rxoBAX_0_0 := by
  intro S S_p r r_p hinv hX hin hsm_ hseg
  obtain ⟨I0, I1, h0_, hr_, b_, f_, d_⟩ := bx_cl (evs := []) (fvs := []) hseg (by decide +kernel) (by decide +kernel)
  have hinv : rxIBAX_0 S0 ws S (r 8) (r 9) (r 10) (r 11) := hinv
  rw [← hr_ 8 (by decide), ← hr_ 9 (by decide), ← hr_ 10 (by decide), ← hr_ 11 (by decide)] at hinv
  obtain ⟨⟨l8, u8⟩, ⟨l9, u9⟩, ⟨l10, u10⟩, ⟨l11, u11⟩, -⟩ := b_
  have w_ := d_
  subst w_
  have g := rxcBAX_0_0 hP hin I0 hinv l8 u8 l9 u9 l10 u10 l11 u11
  refine ⟨bx_narP_ok (l := []) g.1, bx_nfP_ok h0_ (fvs := []) (by decide +kernel) g.2.1, ?_, ?_⟩
  · show rxIBAX_1 S0 ws S_p (bx_val [(0, 0), (0, 0), (0, 0), (0, 0), (0, 0), (0, 0), (0, 0), (0, 0), (8, 0), (9, 0), (10, 0), (11, 0)] r_p 8) (bx_val [(0, 0), (0, 0), (0, 0), (0, 0), (0, 0), (0, 0), (0, 0), (0, 0), (8, 0), (9, 0), (10, 0), (11, 0)] r_p 9) (bx_val [(0, 0), (0, 0), (0, 0), (0, 0), (0, 0), (0, 0), (0, 0), (0, 0), (8, 0), (9, 0), (10, 0), (11, 0)] r_p 10) (bx_val [(0, 0), (0, 0), (0, 0), (0, 0), (0, 0), (0, 0), (0, 0), (0, 0), (8, 0), (9, 0), (10, 0), (11, 0)] r_p 11)
    rw [bx_val_x (n := 8) (e := (8, 0)) h0_ rfl, bx_val_x (n := 9) (e := (9, 0)) h0_ rfl, bx_val_x (n := 10) (e := (10, 0)) h0_ rfl, bx_val_x (n := 11) (e := (11, 0)) h0_ rfl]
    exact g.2.2.1
  · show rxmBAX_1 S0 ws S_p (bx_val [(0, 0), (0, 0), (0, 0), (0, 0), (0, 0), (0, 0), (0, 0), (0, 0), (8, 0), (9, 0), (10, 0), (11, 0)] r_p 8) (bx_val [(0, 0), (0, 0), (0, 0), (0, 0), (0, 0), (0, 0), (0, 0), (0, 0), (8, 0), (9, 0), (10, 0), (11, 0)] r_p 9) (bx_val [(0, 0), (0, 0), (0, 0), (0, 0), (0, 0), (0, 0), (0, 0), (0, 0), (8, 0), (9, 0), (10, 0), (11, 0)] r_p 10) (bx_val [(0, 0), (0, 0), (0, 0), (0, 0), (0, 0), (0, 0), (0, 0), (0, 0), (8, 0), (9, 0), (10, 0), (11, 0)] r_p 11) < rxmBAX_0 S0 ws S_p (r 8) (r 9) (r 10) (r 11)
    rw [bx_val_x (n := 8) (e := (8, 0)) h0_ rfl, bx_val_x (n := 9) (e := (9, 0)) h0_ rfl, bx_val_x (n := 10) (e := (10, 0)) h0_ rfl, bx_val_x (n := 11) (e := (11, 0)) h0_ rfl, ← hr_ 8 (by decide), ← hr_ 9 (by decide), ← hr_ 10 (by decide), ← hr_ 11 (by decide)]
    exact g.2.2.2
theorem rxdBAX_2_0 {S0 : Nat → Int → Int} {ws : List Int} {S : Nat → Int → Int} {p pa t y r : Int} (hP : rxPBAX S0 ws) (hin : bx_same rxL (bx_mdl rxCBAX.2.2.1) S0 S) (hin2 : bx_same rxL (bx_mdl rxCBAX.2.2.1) S S) (I0 : bx_Inv rxL S) (I1 : bx_Inv rxL S) (hinv : rxIBAX_2 S0 ws S p pa t y r) (l8 : 0 ≤ p) (u8 : p ≤ 7) (l9 : 0 ≤ pa) (u9 : pa ≤ 5) (l10 : (-1) ≤ t) (u10 : t ≤ 7) (l11 : 0 ≤ y) (u11 : y ≤ 300) (l12 : 1 ≤ r) (u12 : r ≤ 1) : (True) ∧ rxPSBAX S0 ws S (some 1) := by
  obtain ⟨hw, hr⟩ := hinv
  exact ⟨trivial, p, pa, t, y, r, hw, hr, congrArg some (by first | exact (if_pos (by omega)).symm | exact (if_neg (by omega)).symm)⟩
theorem rxfBAX_2_0 {X : (Nat → Int → Int) → Prop} {S0 : Nat → Int → Int} {ws : List Int} (hP : rxPBAX S0 ws) : bx_obE rxL X S0 rxCBAX.2.2.1 (rxIBAX S0 ws) (rxPSBAX S0 ws) 2 rxzBAX_2 rxeBAX_2_0 := by
  intro S S_p r r_p hinv hX hin hsm_ hseg
  obtain ⟨I0, I1, h0_, hr_, b_, f_, d_⟩ := bx_cl (evs := []) (fvs := []) hseg (by decide +kernel) (by decide +kernel)
  have hinv : rxIBAX_2 S0 ws S (r 8) (r 9) (r 10) (r 11) (r 12) := hinv
  rw [← hr_ 8 (by decide), ← hr_ 9 (by decide), ← hr_ 10 (by decide), ← hr_ 11 (by decide), ← hr_ 12 (by decide)] at hinv
  obtain ⟨⟨l8, u8⟩, ⟨l9, u9⟩, ⟨l10, u10⟩, ⟨l11, u11⟩, ⟨l12, u12⟩, -⟩ := b_
  have w_ := d_
  subst w_
  have g := rxdBAX_2_0 hP hin hsm_ I0 I1 hinv l8 u8 l9 u9 l10 u10 l11 u11 l12 u12
  refine ⟨bx_narP_ok (l := []) g.1, ?_⟩
  show rxPSBAX S0 ws S_p (some (bx_num r_p (.inr (0, (0, 1)))))
  rw [bx_xv_ok h0_]
  exact g.2
theorem rxdBAX_2_1 {S0 : Nat → Int → Int} {ws : List Int} {S : Nat → Int → Int} {p pa t y r : Int} (hP : rxPBAX S0 ws) (hin : bx_same rxL (bx_mdl rxCBAX.2.2.1) S0 S) (hin2 : bx_same rxL (bx_mdl rxCBAX.2.2.1) S S) (I0 : bx_Inv rxL S) (I1 : bx_Inv rxL S) (hinv : rxIBAX_2 S0 ws S p pa t y r) (l8 : 0 ≤ p) (u8 : p ≤ 7) (l9 : 0 ≤ pa) (u9 : pa ≤ 5) (l10 : (-1) ≤ t) (u10 : t ≤ 7) (l11 : 0 ≤ y) (u11 : y ≤ 300) (l12 : (-9223372036854775808) ≤ r) (u12 : r ≤ 9223372036854775807) (f0 : r ≠ 1) : (True) ∧ rxPSBAX S0 ws S (some 0) := by
  obtain ⟨hw, hr⟩ := hinv
  exact ⟨trivial, p, pa, t, y, r, hw, hr, congrArg some (by first | exact (if_pos (by omega)).symm | exact (if_neg (by omega)).symm)⟩
theorem rxfBAX_2_1 {X : (Nat → Int → Int) → Prop} {S0 : Nat → Int → Int} {ws : List Int} (hP : rxPBAX S0 ws) : bx_obE rxL X S0 rxCBAX.2.2.1 (rxIBAX S0 ws) (rxPSBAX S0 ws) 2 rxzBAX_2 rxeBAX_2_1 := by
  intro S S_p r r_p hinv hX hin hsm_ hseg
  obtain ⟨I0, I1, h0_, hr_, b_, f_, d_⟩ := bx_cl (evs := []) (fvs := [(3, (12, 0), (0, 1), (0, 0))]) hseg (by decide +kernel) (by decide +kernel)
  have hinv : rxIBAX_2 S0 ws S (r 8) (r 9) (r 10) (r 11) (r 12) := hinv
  rw [← hr_ 8 (by decide), ← hr_ 9 (by decide), ← hr_ 10 (by decide), ← hr_ 11 (by decide), ← hr_ 12 (by decide)] at hinv
  obtain ⟨⟨l8, u8⟩, ⟨l9, u9⟩, ⟨l10, u10⟩, ⟨l11, u11⟩, ⟨l12, u12⟩, -⟩ := b_
  obtain ⟨f0, -⟩ := f_
  have w_ := d_
  subst w_
  have g := rxdBAX_2_1 hP hin hsm_ I0 I1 hinv l8 u8 l9 u9 l10 u10 l11 u11 l12 u12 f0
  refine ⟨bx_narP_ok (l := []) g.1, ?_⟩
  show rxPSBAX S0 ws S_p (some (bx_num r_p (.inr (0, (0, 0)))))
  rw [bx_xv_ok h0_]
  exact g.2
theorem rxgCBAX {X : (Nat → Int → Int) → Prop} {S0 : Nat → Int → Int} {ws : List Int} (hP : rxPBAX S0 ws) : bx_allI (fun i q => rxUBAX q = true ∨ bx_allP (fun o => bx_obC rxL X S0 rxCBAX.2.2.1 (rxIBAX S0 ws) (rxmBAX S0 ws) i q.1 o) q.2.1) 0 rxYBAX := ⟨Or.inr ⟨rxgBAX_0_0 hP, trivial⟩, Or.inl rfl, Or.inr trivial, trivial⟩
theorem rxgEBAX {X : (Nat → Int → Int) → Prop} {S0 : Nat → Int → Int} {ws : List Int} (hP : rxPBAX S0 ws) : bx_allI (fun i q => rxUBAX q = true ∨ bx_allP (fun E => bx_obE rxL X S0 rxCBAX.2.2.1 (rxIBAX S0 ws) (rxPSBAX S0 ws) i q.1 E) q.2.2) 0 rxYBAX := ⟨Or.inr trivial, Or.inl rfl, Or.inr ⟨rxfBAX_2_0 hP, rxfBAX_2_1 hP, trivial⟩, trivial⟩
theorem rxuBAX {PX : State → Prop} {Dg : va_G} {A : Nat → Prop} {ad xa : Nat → Nat} {l : Launch} {X : (Nat → Int → Int) → Prop} (hPX : rx_PXOK rxNW A PX) (hX : ∀ S S1 : Nat → Int → Int, X S → bx_same rxL (bx_mdl rxCBAX.2.2.1) S S1 → X S1) (hQTEX : bx_ConP rxG rxNW rxAO PX Dg rxL X vwCl A ad l rxM289 rxC289 rxPTEX rxPSTEX) {S0 : Nat → Int → Int} {ws : List Int} (hP : rxPBAX S0 ws) : ∀ (i : Nat) (q : bx_HE), rxYBAX[i]? = some q → rxUBAX q = true → ∀ {p : Program} {e : Env} {R : Room} {s : State} {m : MethodId} {args : Array Value} {below : List Frame} {meth : Method} {c : Code} {Q : State → Prop} {H0 : Heap}, rx_Fr rxG rxNW rxAO PX p s m args meth c rxM292 → (∀ q, H0.size ≤ q → A q) → H0 = s.heap → rxM292.2.2.2.2.2.2.1 ≤ R.cells → rxM292.2.2.2.2.2.2.2 ≤ R.slots → rxCBAX.2.2.2.1 ≤ R.frames → rxCBAX.2.2.2.1 * 40 ≤ R.locals → bx_Step p l e R s m args below meth c Q Dg rxL X vwCl A xa H0 ad rxM292 rxYBAX (rxIBAX S0 ws) (rxmBAX S0 ws) S0 rxCBAX.2.2.1 i q := by
  intro i q hq hus p e R s m args below meth c Q H0 hF hA hH0 hmc hms hd hdl
  match i, hq with
  | 0, hq =>
    cases hq
    exact absurd (show false = true from hus) Bool.false_ne_true
  | 1, hq =>
    cases hq
    exact rx_stepC (ins := .invokevirtual 423) (len := 3) (i_p := 2) (M_p := rxM289) (d := rxCBAX.2.2.2.1) (as := [.inr (3, (0, 480)), .inr (0, (0, 2)), .inr (0, (8, 0)), .inr (0, (9, 0)), .inr (0, (10, 0)), .inr (0, (11, 0)), .inr (1, (0, 0))]) (t := []) (ct := rxC289) hPX hF rfl hA hH0 hmc hms hd hdl (by decide +kernel) rfl rfl (by decide +kernel) (by decide +kernel) hQTEX (by decide +kernel) rfl (Or.inr ⟨_, _, _, 2, rfl, rfl, by omega, rfl, rfl, rfl⟩) (rxsBAX_1 hP)
  | 2, hq =>
    cases hq
    exact absurd (show false = true from hus) Bool.false_ne_true
  | n + 3, hq => cases hq
theorem rxQBAX {PX : State → Prop} {Dg : va_G} {A : Nat → Prop} {ad xa : Nat → Nat} {l : Launch} {X : (Nat → Int → Int) → Prop} (hPX : rx_PXOK rxNW A PX) (hsl : ∀ s : State, PX s → ∀ o idx n : Nat, rxSl o idx = some n → ∃ tx : String, vk_R (rxNm o) idx tx (ad n) s)
    (hX : ∀ S S_p : Nat → Int → Int, X S → bx_same rxL (bx_mdl rxCBAX.2.2.1) S S_p → X S_p)
    (ih : ∀ (j2 : Nat) (ct2 : bx_Ct) (M2 : rx_Mt), ct2 ∈ rxCnE j2 → ct2.2.2.2.1 + 1 ≤ rxCBAX.2.2.2.1 → rxT.2.2.2.2.2 j2 = some M2 → bx_Con rxG rxNW rxAO PX Dg rxL X vwCl A ad l M2 ct2) (hQTEX : bx_ConP rxG rxNW rxAO PX Dg rxL X vwCl A ad l rxM289 rxC289 rxPTEX rxPSTEX) : bx_ConP rxG rxNW rxAO PX Dg rxL X vwCl A ad l rxM292 rxCBAX rxPBAX rxPSBAX :=
  rxQof (xa := xa) (Cn := rxCnE) (f := 30000) (j := 292) (tab := rxYBAX) (us := rxUBAX) hPX hsl hX ih rfl rxYcBAX rxIBAX rxmBAX
    (fun S0 ws r I0 I ht0 ht as he he1 hX0 hI0 hP hs ha => by
      have e := he.symm.trans (show bx_ent0 rxNP rxCBAX.1 bx_I0 [] = some ([(0, 0), (0, 0), (0, 0), (0, 0), (0, 0), (0, 0), (0, 0), (0, 0), (0, 7), (0, 5), ((-1), 7), (0, 300)], [], [.inr (3, (0, 480)), .inr (0, (8, 0)), .inr (0, (9, 0)), .inr (0, (10, 0)), .inr (0, (11, 0))]) from rfl)
      cases e
      subst ha
      have h0 : r 0 = 0 := hs.1
      show rxIBAX_0 S0 _ S0 (r 8) (r 9) (r 10) (r 11)
      refine ⟨rfl, ?_⟩
      simp only [List.map_cons, List.map_nil, bx_xv_ok h0]
      rfl)
    (fun S0 ws hP => rxuBAX (xa := xa) hPX hX hQTEX hP) (fun S0 ws hP => rxgCBAX hP) (fun S0 ws hP => rxgEBAX hP)
