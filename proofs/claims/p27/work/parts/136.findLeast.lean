noncomputable def rxI324_0 (S0 : Nat → Int → Int) (ws : List Int) (S : Nat → Int → Int) (row1 cue : Int) : Prop := S = S0 ∧ ws = [480, row1, cue]
noncomputable def rxm324_0 (S0 : Nat → Int → Int) (ws : List Int) (S : Nat → Int → Int) (row1 cue : Int) : Nat := 1000
noncomputable def rxz324_0 : rx_Z := ([(0, 0), (0, 0), (0, 0), (0, 0), (0, 0), (0, 0), (0, 0), (0, 0), (0, 3), (0, 5)], [], [], 0, 0, 0, [(0, .inr (3, (0, 480))), (1, .inr (0, (8, 0))), (2, .inr (0, (9, 0)))], [])
noncomputable def rxI324_1 (S0 : Nat → Int → Int) (ws : List Int) (S : Nat → Int → Int) (row1 cue : Int) : Prop := True
noncomputable def rxm324_1 (S0 : Nat → Int → Int) (ws : List Int) (S : Nat → Int → Int) (row1 cue : Int) : Nat := 900
noncomputable def rxz324_1 : rx_Z := ([(0, 0), (0, 0), (0, 0), (0, 0), (0, 0), (0, 0), (0, 0), (0, 0), (0, 3), (0, 5)], [], [], 0, 0, 1, [(0, .inr (3, (0, 480))), (1, .inr (0, (8, 0))), (2, .inr (0, (9, 0)))], [.inr (3, (0, 480))])
noncomputable def rxI324_2 (S0 : Nat → Int → Int) (ws : List Int) (S : Nat → Int → Int) (row1 cue : Int) : Prop := rxOrd S
noncomputable def rxm324_2 (S0 : Nat → Int → Int) (ws : List Int) (S : Nat → Int → Int) (row1 cue : Int) : Nat := 800
noncomputable def rxz324_2 : rx_Z := ([(0, 0), (0, 0), (0, 0), (0, 0), (0, 0), (0, 0), (0, 0), (0, 0), (0, 3), (0, 5)], [], [], 0, 0, 4, [(0, .inr (3, (0, 480))), (1, .inr (0, (8, 0))), (2, .inr (0, (9, 0)))], [])
noncomputable def rxI324_3 (S0 : Nat → Int → Int) (ws : List Int) (S : Nat → Int → Int) (row1 cue s : Int) : Prop := rxOrd S
noncomputable def rxm324_3 (S0 : Nat → Int → Int) (ws : List Int) (S : Nat → Int → Int) (row1 cue s : Int) : Nat := 10 * (20 - s).toNat + 9
noncomputable def rxz324_3 : rx_Z := ([(0, 0), (0, 0), (0, 0), (0, 0), (0, 0), (0, 0), (0, 0), (0, 0), (0, 3), (0, 5), (1, 4)], [], [], 0, 0, 6, [(0, .inr (3, (0, 480))), (1, .inr (0, (8, 0))), (2, .inr (0, (9, 0))), (3, .inr (0, (10, 0)))], [])
noncomputable def rxI324_4 (S0 : Nat → Int → Int) (ws : List Int) (S : Nat → Int → Int) (row1 cue s a b c : Int) : Prop := rxOrd S
noncomputable def rxm324_4 (S0 : Nat → Int → Int) (ws : List Int) (S : Nat → Int → Int) (row1 cue s a b c : Int) : Nat := 10 * (20 - s).toNat + 8
noncomputable def rxz324_4 : rx_Z := ([(0, 0), (0, 0), (0, 0), (0, 0), (0, 0), (0, 0), (0, 0), (0, 0), (0, 3), (0, 5), (1, 3), (1, 3), (0, 3), (0, 5)], [], [], 0, 0, 15, [(0, .inr (3, (0, 480))), (1, .inr (0, (8, 0))), (2, .inr (0, (9, 0))), (3, .inr (0, (10, 0)))], [.inr (0, (13, 0)), .inr (0, (12, 0)), .inr (0, (11, 0)), .inr (3, (0, 480))])
noncomputable def rxI324_5 (S0 : Nat → Int → Int) (ws : List Int) (S : Nat → Int → Int) (row1 cue s a b c : Int) : Prop := rxOrd S
noncomputable def rxm324_5 (S0 : Nat → Int → Int) (ws : List Int) (S : Nat → Int → Int) (row1 cue s a b c : Int) : Nat := 10 * (20 - s).toNat + 7
noncomputable def rxz324_5 : rx_Z := ([(0, 0), (0, 0), (0, 0), (0, 0), (0, 0), (0, 0), (0, 0), (0, 0), (0, 3), (0, 5), (1, 3), (1, 3), (0, 3), (0, 5)], [], [], 0, 0, 18, [(0, .inr (3, (0, 480))), (1, .inr (0, (8, 0))), (2, .inr (0, (9, 0))), (3, .inr (0, (10, 0)))], [])
noncomputable def rxo324_0_0 : bx_HO := (([(0, 0), (0, 0), (0, 0), (0, 0), (0, 0), (0, 0), (0, 0), (0, 0), (0, 3), (0, 5)], [], [], 0, 0, 1, [(0, .inr (3, (0, 480))), (1, .inr (0, (8, 0))), (2, .inr (0, (9, 0)))], [.inr (3, (0, 480))]), [], [], [(0, 0), (0, 0), (0, 0), (0, 0), (0, 0), (0, 0), (0, 0), (0, 0), (8, 0), (9, 0)], 1)
noncomputable def rxo324_2_0 : bx_HO := (([(0, 0), (0, 0), (0, 0), (0, 0), (0, 0), (0, 0), (0, 0), (0, 0), (0, 3), (0, 5)], [], [], 0, 0, 6, [(3, .inr (0, (0, 1))), (0, .inr (3, (0, 480))), (1, .inr (0, (8, 0))), (2, .inr (0, (9, 0)))], []), [], [], [(0, 0), (0, 0), (0, 0), (0, 0), (0, 0), (0, 0), (0, 0), (0, 0), (8, 0), (9, 0), (0, 1)], 3)
noncomputable def rxo324_3_0 : bx_HO := (([(0, 0), (0, 0), (0, 0), (0, 0), (0, 0), (0, 0), (0, 0), (0, 0), (0, 3), (0, 5), (1, 3)], [], [], 0, 0, 15, [(0, .inr (3, (0, 480))), (1, .inr (0, (8, 0))), (2, .inr (0, (9, 0))), (3, .inr (0, (10, 0)))], [.inr (0, (9, 0)), .inr (0, (8, 0)), .inr (0, (10, 0)), .inr (3, (0, 480))]), [], [], [(0, 0), (0, 0), (0, 0), (0, 0), (0, 0), (0, 0), (0, 0), (0, 0), (8, 0), (9, 0), (10, 0), (10, 0), (8, 0), (9, 0)], 4)
noncomputable def rxe324_3_0 : rx_End × List (Nat × Int × Int) := (([(0, 0), (0, 0), (0, 0), (0, 0), (0, 0), (0, 0), (0, 0), (0, 0), (0, 3), (0, 5), (4, 4)], [], [], some (.inr (0, (0, (-1))))), [])
noncomputable def rxo324_5_0 : bx_HO := (([(0, 0), (0, 0), (0, 0), (0, 0), (0, 0), (0, 0), (0, 0), (0, 0), (0, 3), (0, 5), (1, 3), (1, 3), (0, 3), (0, 5), ((-2147483648), 0)], [], [(((0, 0), 1851192626986356811273103098664536289004699062340675673050316800000000), .inr (0, (14, 0))), (((0, 480), 69), .inr (0, (14, 0)))], 0, 0, 6, [(3, .inr (0, (10, 1))), (0, .inr (3, (0, 480))), (1, .inr (0, (8, 0))), (2, .inr (0, (9, 0)))], []), [], [], [(0, 0), (0, 0), (0, 0), (0, 0), (0, 0), (0, 0), (0, 0), (0, 0), (8, 0), (9, 0), (10, 1)], 3)
noncomputable def rxe324_5_0 : rx_End × List (Nat × Int × Int) := (([(0, 0), (0, 0), (0, 0), (0, 0), (0, 0), (0, 0), (0, 0), (0, 0), (0, 3), (0, 5), (1, 3), (1, 3), (0, 3), (0, 5), (1, 2147483647)], [], [(((0, 0), 1851192626986356811273103098664536289004699062340675673050316800000000), .inr (0, (14, 0))), (((0, 480), 69), .inr (0, (14, 0)))], some (.inr (0, (10, 0)))), [])
noncomputable def rxY324 : List bx_HE := [(rxz324_0, [rxo324_0_0], []), (rxz324_1, [], []), (rxz324_2, [rxo324_2_0], []), (rxz324_3, [rxo324_3_0], [rxe324_3_0]), (rxz324_4, [], []), (rxz324_5, [rxo324_5_0], [rxe324_5_0])]
noncomputable def rxU324 (q : bx_HE) : Bool := Nat.beq (rx_zpc q.1) 1 || Nat.beq (rx_zpc q.1) 15
noncomputable def rxYB324 : bx_B := (rxV, rxNP, rxDmf, bx_mdH rxC324.2.2.1)
set_option maxRecDepth 100000 in
theorem rxYc324 : bx_chkH rxYB324 rxM324 rxC324 rxY324 (rxU324, fun cut z => rx_ex2 (rxCT rxYB324 rxCnE) cut 30000 rxC324.2.2.2.1 324 z) = true := by decide +kernel
noncomputable def rxI324 (S0 : Nat → Int → Int) (ws : List Int) (i : Nat) : bx_SP := fun S r => match i with | 0 => rxI324_0 S0 ws S (r 8) (r 9) | 1 => rxI324_1 S0 ws S (r 8) (r 9) | 2 => rxI324_2 S0 ws S (r 8) (r 9) | 3 => rxI324_3 S0 ws S (r 8) (r 9) (r 10) | 4 => rxI324_4 S0 ws S (r 8) (r 9) (r 10) (r 11) (r 12) (r 13) | 5 => rxI324_5 S0 ws S (r 8) (r 9) (r 10) (r 11) (r 12) (r 13) | _ => False
noncomputable def rxm324 (S0 : Nat → Int → Int) (ws : List Int) (i : Nat) (S : Nat → Int → Int) (r : Nat → Int) : Nat := match i with | 0 => rxm324_0 S0 ws S (r 8) (r 9) | 1 => rxm324_1 S0 ws S (r 8) (r 9) | 2 => rxm324_2 S0 ws S (r 8) (r 9) | 3 => rxm324_3 S0 ws S (r 8) (r 9) (r 10) | 4 => rxm324_4 S0 ws S (r 8) (r 9) (r 10) (r 11) (r 12) (r 13) | 5 => rxm324_5 S0 ws S (r 8) (r 9) (r 10) (r 11) (r 12) (r 13) | _ => 0
noncomputable def rxP324 (S0 : Nat → Int → Int) (ws : List Int) : Prop := True
noncomputable def rxPS324 (S0 : Nat → Int → Int) (ws : List Int) (S : Nat → Int → Int) (w : Option Int) : Prop := True
theorem rxk324_1 {S0 : Nat → Int → Int} {ws : List Int} {S : Nat → Int → Int} {row1 cue : Int} (hP : rxP324 S0 ws) (hin : bx_same rxL (bx_mdl rxC324.2.2.1) S0 S) (I0 : bx_Inv rxL S) (hinv : rxI324_1 S0 ws S row1 cue) (l8 : 0 ≤ row1) (u8 : row1 ≤ 3) (l9 : 0 ≤ cue) (u9 : cue ≤ 5) : rxPFR2 S [480] ∧ ∀ (S_p : Nat → Int → Int), rxPSFR2 S [480] S_p none → bx_Inv rxL S_p → bx_same rxL (bx_mdl rxCFR2.2.2.1) S S_p → rxI324_2 S0 ws S_p row1 cue ∧ rxm324_2 S0 ws S_p row1 cue < rxm324_1 S0 ws S row1 cue := by
  exact ⟨trivial, fun S_p hq I1 hsm => ⟨hq.2, by unfold rxm324_1 rxm324_2; omega⟩⟩
theorem rxs324_1 {X : (Nat → Int → Int) → Prop} {S0 : Nat → Int → Int} {ws : List Int} (hP : rxP324 S0 ws) : rx_obK X S0 rxC324.2.2.1 rxCFR2.2.2.1 (rxI324 S0 ws) (rxm324 S0 ws) 1 2 rxz324_1 rxz324_2 [.inr (3, (0, 480))] none rxPFR2 rxPSFR2 := by
  intro S r hinv hXS I0 hin hs_ hf_
  have b_ := bx_bds_sat hs_
  have f_ := bx_fcl_ok hs_.1 hf_
  obtain ⟨⟨l8, u8⟩, ⟨l9, u9⟩, -⟩ := b_
  have g := rxk324_1 hP hin I0 hinv l8 u8 l9 u9
  have ea : List.map (bx_num r) [.inr (3, (0, 480))] = [480] := by
    simp only [List.map_cons, List.map_nil, bx_xv_ok hs_.1]
    rfl
  rw [ea]
  refine ⟨g.1, fun S_p w r_p hPS hX_p I1 hsm hr hw hs_p => ?_⟩
  have hw : w = none := hPS.1
  subst hw
  have g2 := g.2 S_p hPS I1 hsm
  show rxI324_2 S0 ws S_p (r_p 8) (r_p 9) ∧ rxm324_2 S0 ws S_p (r_p 8) (r_p 9) < _
  rw [hr 8 (by decide), hr 9 (by decide)]
  exact g2
theorem rxk324_4 {S0 : Nat → Int → Int} {ws : List Int} {S : Nat → Int → Int} {row1 cue s a b c : Int} (hP : rxP324 S0 ws) (hin : bx_same rxL (bx_mdl rxC324.2.2.1) S0 S) (I0 : bx_Inv rxL S) (hinv : rxI324_4 S0 ws S row1 cue s a b c) (l8 : 0 ≤ row1) (u8 : row1 ≤ 3) (l9 : 0 ≤ cue) (u9 : cue ≤ 5) (l10 : 1 ≤ s) (u10 : s ≤ 3) (l11 : 1 ≤ a) (u11 : a ≤ 3) (l12 : 0 ≤ b) (u12 : b ≤ 3) (l13 : 0 ≤ c) (u13 : c ≤ 5) : rxPFW S [480, a, b, c] ∧ ∀ (S_p : Nat → Int → Int), rxPSFW S [480, a, b, c] S_p none → bx_Inv rxL S_p → bx_same rxL (bx_mdl rxCFW.2.2.1) S S_p → rxI324_5 S0 ws S_p row1 cue s a b c ∧ rxm324_5 S0 ws S_p row1 cue s a b c < rxm324_4 S0 ws S row1 cue s a b c := by
  exact ⟨hinv, fun S_p hq I1 hsm => ⟨hq.2, by unfold rxm324_4 rxm324_5; omega⟩⟩
theorem rxs324_4 {X : (Nat → Int → Int) → Prop} {S0 : Nat → Int → Int} {ws : List Int} (hP : rxP324 S0 ws) : rx_obK X S0 rxC324.2.2.1 rxCFW.2.2.1 (rxI324 S0 ws) (rxm324 S0 ws) 4 5 rxz324_4 rxz324_5 [.inr (3, (0, 480)), .inr (0, (11, 0)), .inr (0, (12, 0)), .inr (0, (13, 0))] none rxPFW rxPSFW := by
  intro S r hinv hXS I0 hin hs_ hf_
  have b_ := bx_bds_sat hs_
  have f_ := bx_fcl_ok hs_.1 hf_
  obtain ⟨⟨l8, u8⟩, ⟨l9, u9⟩, ⟨l10, u10⟩, ⟨l11, u11⟩, ⟨l12, u12⟩, ⟨l13, u13⟩, -⟩ := b_
  have g := rxk324_4 hP hin I0 hinv l8 u8 l9 u9 l10 u10 l11 u11 l12 u12 l13 u13
  have ea : List.map (bx_num r) [.inr (3, (0, 480)), .inr (0, (11, 0)), .inr (0, (12, 0)), .inr (0, (13, 0))] = [480, (r 11), (r 12), (r 13)] := by
    simp only [List.map_cons, List.map_nil, bx_xv_ok hs_.1]
    rfl
  rw [ea]
  refine ⟨g.1, fun S_p w r_p hPS hX_p I1 hsm hr hw hs_p => ?_⟩
  have hw : w = none := hPS.1
  subst hw
  have g2 := g.2 S_p hPS I1 hsm
  show rxI324_5 S0 ws S_p (r_p 8) (r_p 9) (r_p 10) (r_p 11) (r_p 12) (r_p 13) ∧ rxm324_5 S0 ws S_p (r_p 8) (r_p 9) (r_p 10) (r_p 11) (r_p 12) (r_p 13) < _
  rw [hr 8 (by decide), hr 9 (by decide), hr 10 (by decide), hr 11 (by decide), hr 12 (by decide), hr 13 (by decide)]
  exact g2
theorem rxc324_0_0 {S0 : Nat → Int → Int} {ws : List Int} {S : Nat → Int → Int} {row1 cue : Int} (hP : rxP324 S0 ws) (hin : bx_same rxL (bx_mdl rxC324.2.2.1) S0 S) (I0 : bx_Inv rxL S) (hinv : rxI324_0 S0 ws S row1 cue) (l8 : 0 ≤ row1) (u8 : row1 ≤ 3) (l9 : 0 ≤ cue) (u9 : cue ≤ 5) : (True) ∧ (True) ∧ rxI324_1 S0 ws S row1 cue ∧ rxm324_1 S0 ws S row1 cue < rxm324_0 S0 ws S row1 cue := by
  exact ⟨trivial, trivial, trivial, by unfold rxm324_0 rxm324_1; omega⟩
theorem rxg324_0_0 {X : (Nat → Int → Int) → Prop} {S0 : Nat → Int → Int} {ws : List Int} (hP : rxP324 S0 ws) : bx_obC rxL X S0 rxC324.2.2.1 (rxI324 S0 ws) (rxm324 S0 ws) 0 rxz324_0 rxo324_0_0 := by
  intro S S_p r r_p hinv hX hin hsm_ hseg
  obtain ⟨I0, I1, h0_, hr_, b_, f_, d_⟩ := bx_cl (evs := []) (fvs := []) hseg (by decide +kernel) (by decide +kernel)
  have hinv : rxI324_0 S0 ws S (r 8) (r 9) := hinv
  rw [← hr_ 8 (by decide), ← hr_ 9 (by decide)] at hinv
  obtain ⟨⟨l8, u8⟩, ⟨l9, u9⟩, -⟩ := b_
  have w_ := d_
  subst w_
  have g := rxc324_0_0 hP hin I0 hinv l8 u8 l9 u9
  refine ⟨bx_narP_ok (l := []) g.1, bx_nfP_ok h0_ (fvs := []) (by decide +kernel) g.2.1, ?_, ?_⟩
  · show rxI324_1 S0 ws S_p (bx_val [(0, 0), (0, 0), (0, 0), (0, 0), (0, 0), (0, 0), (0, 0), (0, 0), (8, 0), (9, 0)] r_p 8) (bx_val [(0, 0), (0, 0), (0, 0), (0, 0), (0, 0), (0, 0), (0, 0), (0, 0), (8, 0), (9, 0)] r_p 9)
    rw [bx_val_x (n := 8) (e := (8, 0)) h0_ rfl, bx_val_x (n := 9) (e := (9, 0)) h0_ rfl]
    exact g.2.2.1
  · show rxm324_1 S0 ws S_p (bx_val [(0, 0), (0, 0), (0, 0), (0, 0), (0, 0), (0, 0), (0, 0), (0, 0), (8, 0), (9, 0)] r_p 8) (bx_val [(0, 0), (0, 0), (0, 0), (0, 0), (0, 0), (0, 0), (0, 0), (0, 0), (8, 0), (9, 0)] r_p 9) < rxm324_0 S0 ws S_p (r 8) (r 9)
    rw [bx_val_x (n := 8) (e := (8, 0)) h0_ rfl, bx_val_x (n := 9) (e := (9, 0)) h0_ rfl, ← hr_ 8 (by decide), ← hr_ 9 (by decide)]
    exact g.2.2.2
theorem rxc324_2_0 {S0 : Nat → Int → Int} {ws : List Int} {S : Nat → Int → Int} {row1 cue : Int} (hP : rxP324 S0 ws) (hin : bx_same rxL (bx_mdl rxC324.2.2.1) S0 S) (I0 : bx_Inv rxL S) (hinv : rxI324_2 S0 ws S row1 cue) (l8 : 0 ≤ row1) (u8 : row1 ≤ 3) (l9 : 0 ≤ cue) (u9 : cue ≤ 5) : (True) ∧ (True) ∧ rxI324_3 S0 ws S row1 cue 1 ∧ rxm324_3 S0 ws S row1 cue 1 < rxm324_2 S0 ws S row1 cue := by
  exact ⟨trivial, trivial, hinv, by unfold rxm324_2 rxm324_3; omega⟩
theorem rxg324_2_0 {X : (Nat → Int → Int) → Prop} {S0 : Nat → Int → Int} {ws : List Int} (hP : rxP324 S0 ws) : bx_obC rxL X S0 rxC324.2.2.1 (rxI324 S0 ws) (rxm324 S0 ws) 2 rxz324_2 rxo324_2_0 := by
  intro S S_p r r_p hinv hX hin hsm_ hseg
  obtain ⟨I0, I1, h0_, hr_, b_, f_, d_⟩ := bx_cl (evs := []) (fvs := []) hseg (by decide +kernel) (by decide +kernel)
  have hinv : rxI324_2 S0 ws S (r 8) (r 9) := hinv
  rw [← hr_ 8 (by decide), ← hr_ 9 (by decide)] at hinv
  obtain ⟨⟨l8, u8⟩, ⟨l9, u9⟩, -⟩ := b_
  have w_ := d_
  subst w_
  have g := rxc324_2_0 hP hin I0 hinv l8 u8 l9 u9
  refine ⟨bx_narP_ok (l := []) g.1, bx_nfP_ok h0_ (fvs := []) (by decide +kernel) g.2.1, ?_, ?_⟩
  · show rxI324_3 S0 ws S_p (bx_val [(0, 0), (0, 0), (0, 0), (0, 0), (0, 0), (0, 0), (0, 0), (0, 0), (8, 0), (9, 0), (0, 1)] r_p 8) (bx_val [(0, 0), (0, 0), (0, 0), (0, 0), (0, 0), (0, 0), (0, 0), (0, 0), (8, 0), (9, 0), (0, 1)] r_p 9) (bx_val [(0, 0), (0, 0), (0, 0), (0, 0), (0, 0), (0, 0), (0, 0), (0, 0), (8, 0), (9, 0), (0, 1)] r_p 10)
    rw [bx_val_x (n := 8) (e := (8, 0)) h0_ rfl, bx_val_x (n := 9) (e := (9, 0)) h0_ rfl, bx_val_x (n := 10) (e := (0, 1)) h0_ rfl]
    exact g.2.2.1
  · show rxm324_3 S0 ws S_p (bx_val [(0, 0), (0, 0), (0, 0), (0, 0), (0, 0), (0, 0), (0, 0), (0, 0), (8, 0), (9, 0), (0, 1)] r_p 8) (bx_val [(0, 0), (0, 0), (0, 0), (0, 0), (0, 0), (0, 0), (0, 0), (0, 0), (8, 0), (9, 0), (0, 1)] r_p 9) (bx_val [(0, 0), (0, 0), (0, 0), (0, 0), (0, 0), (0, 0), (0, 0), (0, 0), (8, 0), (9, 0), (0, 1)] r_p 10) < rxm324_2 S0 ws S_p (r 8) (r 9)
    rw [bx_val_x (n := 8) (e := (8, 0)) h0_ rfl, bx_val_x (n := 9) (e := (9, 0)) h0_ rfl, bx_val_x (n := 10) (e := (0, 1)) h0_ rfl, ← hr_ 8 (by decide), ← hr_ 9 (by decide)]
    exact g.2.2.2
theorem rxc324_3_0 {S0 : Nat → Int → Int} {ws : List Int} {S : Nat → Int → Int} {row1 cue s : Int} (hP : rxP324 S0 ws) (hin : bx_same rxL (bx_mdl rxC324.2.2.1) S0 S) (I0 : bx_Inv rxL S) (hinv : rxI324_3 S0 ws S row1 cue s) (l8 : 0 ≤ row1) (u8 : row1 ≤ 3) (l9 : 0 ≤ cue) (u9 : cue ≤ 5) (l10 : 1 ≤ s) (u10 : s ≤ 3) : (True) ∧ (True) ∧ rxI324_4 S0 ws S row1 cue s s row1 cue ∧ rxm324_4 S0 ws S row1 cue s s row1 cue < rxm324_3 S0 ws S row1 cue s := by
  exact ⟨trivial, trivial, hinv, by unfold rxm324_3 rxm324_4; omega⟩
theorem rxg324_3_0 {X : (Nat → Int → Int) → Prop} {S0 : Nat → Int → Int} {ws : List Int} (hP : rxP324 S0 ws) : bx_obC rxL X S0 rxC324.2.2.1 (rxI324 S0 ws) (rxm324 S0 ws) 3 rxz324_3 rxo324_3_0 := by
  intro S S_p r r_p hinv hX hin hsm_ hseg
  obtain ⟨I0, I1, h0_, hr_, b_, f_, d_⟩ := bx_cl (evs := []) (fvs := []) hseg (by decide +kernel) (by decide +kernel)
  have hinv : rxI324_3 S0 ws S (r 8) (r 9) (r 10) := hinv
  rw [← hr_ 8 (by decide), ← hr_ 9 (by decide), ← hr_ 10 (by decide)] at hinv
  obtain ⟨⟨l8, u8⟩, ⟨l9, u9⟩, ⟨l10, u10⟩, -⟩ := b_
  have w_ := d_
  subst w_
  have g := rxc324_3_0 hP hin I0 hinv l8 u8 l9 u9 l10 u10
  refine ⟨bx_narP_ok (l := []) g.1, bx_nfP_ok h0_ (fvs := []) (by decide +kernel) g.2.1, ?_, ?_⟩
  · show rxI324_4 S0 ws S_p (bx_val [(0, 0), (0, 0), (0, 0), (0, 0), (0, 0), (0, 0), (0, 0), (0, 0), (8, 0), (9, 0), (10, 0), (10, 0), (8, 0), (9, 0)] r_p 8) (bx_val [(0, 0), (0, 0), (0, 0), (0, 0), (0, 0), (0, 0), (0, 0), (0, 0), (8, 0), (9, 0), (10, 0), (10, 0), (8, 0), (9, 0)] r_p 9) (bx_val [(0, 0), (0, 0), (0, 0), (0, 0), (0, 0), (0, 0), (0, 0), (0, 0), (8, 0), (9, 0), (10, 0), (10, 0), (8, 0), (9, 0)] r_p 10) (bx_val [(0, 0), (0, 0), (0, 0), (0, 0), (0, 0), (0, 0), (0, 0), (0, 0), (8, 0), (9, 0), (10, 0), (10, 0), (8, 0), (9, 0)] r_p 11) (bx_val [(0, 0), (0, 0), (0, 0), (0, 0), (0, 0), (0, 0), (0, 0), (0, 0), (8, 0), (9, 0), (10, 0), (10, 0), (8, 0), (9, 0)] r_p 12) (bx_val [(0, 0), (0, 0), (0, 0), (0, 0), (0, 0), (0, 0), (0, 0), (0, 0), (8, 0), (9, 0), (10, 0), (10, 0), (8, 0), (9, 0)] r_p 13)
    rw [bx_val_x (n := 8) (e := (8, 0)) h0_ rfl, bx_val_x (n := 9) (e := (9, 0)) h0_ rfl, bx_val_x (n := 10) (e := (10, 0)) h0_ rfl, bx_val_x (n := 11) (e := (10, 0)) h0_ rfl, bx_val_x (n := 12) (e := (8, 0)) h0_ rfl, bx_val_x (n := 13) (e := (9, 0)) h0_ rfl]
    exact g.2.2.1
  · show rxm324_4 S0 ws S_p (bx_val [(0, 0), (0, 0), (0, 0), (0, 0), (0, 0), (0, 0), (0, 0), (0, 0), (8, 0), (9, 0), (10, 0), (10, 0), (8, 0), (9, 0)] r_p 8) (bx_val [(0, 0), (0, 0), (0, 0), (0, 0), (0, 0), (0, 0), (0, 0), (0, 0), (8, 0), (9, 0), (10, 0), (10, 0), (8, 0), (9, 0)] r_p 9) (bx_val [(0, 0), (0, 0), (0, 0), (0, 0), (0, 0), (0, 0), (0, 0), (0, 0), (8, 0), (9, 0), (10, 0), (10, 0), (8, 0), (9, 0)] r_p 10) (bx_val [(0, 0), (0, 0), (0, 0), (0, 0), (0, 0), (0, 0), (0, 0), (0, 0), (8, 0), (9, 0), (10, 0), (10, 0), (8, 0), (9, 0)] r_p 11) (bx_val [(0, 0), (0, 0), (0, 0), (0, 0), (0, 0), (0, 0), (0, 0), (0, 0), (8, 0), (9, 0), (10, 0), (10, 0), (8, 0), (9, 0)] r_p 12) (bx_val [(0, 0), (0, 0), (0, 0), (0, 0), (0, 0), (0, 0), (0, 0), (0, 0), (8, 0), (9, 0), (10, 0), (10, 0), (8, 0), (9, 0)] r_p 13) < rxm324_3 S0 ws S_p (r 8) (r 9) (r 10)
    rw [bx_val_x (n := 8) (e := (8, 0)) h0_ rfl, bx_val_x (n := 9) (e := (9, 0)) h0_ rfl, bx_val_x (n := 10) (e := (10, 0)) h0_ rfl, bx_val_x (n := 11) (e := (10, 0)) h0_ rfl, bx_val_x (n := 12) (e := (8, 0)) h0_ rfl, bx_val_x (n := 13) (e := (9, 0)) h0_ rfl, ← hr_ 8 (by decide), ← hr_ 9 (by decide), ← hr_ 10 (by decide)]
    exact g.2.2.2
theorem rxd324_3_0 {S0 : Nat → Int → Int} {ws : List Int} {S : Nat → Int → Int} {row1 cue s : Int} (hP : rxP324 S0 ws) (hin : bx_same rxL (bx_mdl rxC324.2.2.1) S0 S) (hin2 : bx_same rxL (bx_mdl rxC324.2.2.1) S S) (I0 : bx_Inv rxL S) (I1 : bx_Inv rxL S) (hinv : rxI324_3 S0 ws S row1 cue s) (l8 : 0 ≤ row1) (u8 : row1 ≤ 3) (l9 : 0 ≤ cue) (u9 : cue ≤ 5) (l10 : 4 ≤ s) (u10 : s ≤ 4) : (True) ∧ rxPS324 S0 ws S (some ((-1))) := by
  exact ⟨trivial, trivial⟩
theorem rxf324_3_0 {X : (Nat → Int → Int) → Prop} {S0 : Nat → Int → Int} {ws : List Int} (hP : rxP324 S0 ws) : bx_obE rxL X S0 rxC324.2.2.1 (rxI324 S0 ws) (rxPS324 S0 ws) 3 rxz324_3 rxe324_3_0 := by
  intro S S_p r r_p hinv hX hin hsm_ hseg
  obtain ⟨I0, I1, h0_, hr_, b_, f_, d_⟩ := bx_cl (evs := []) (fvs := []) hseg (by decide +kernel) (by decide +kernel)
  have hinv : rxI324_3 S0 ws S (r 8) (r 9) (r 10) := hinv
  rw [← hr_ 8 (by decide), ← hr_ 9 (by decide), ← hr_ 10 (by decide)] at hinv
  obtain ⟨⟨l8, u8⟩, ⟨l9, u9⟩, ⟨l10, u10⟩, -⟩ := b_
  have w_ := d_
  subst w_
  have g := rxd324_3_0 hP hin hsm_ I0 I1 hinv l8 u8 l9 u9 l10 u10
  refine ⟨bx_narP_ok (l := []) g.1, ?_⟩
  show rxPS324 S0 ws S_p (some (bx_num r_p (.inr (0, (0, (-1))))))
  rw [bx_xv_ok h0_]
  exact g.2
theorem rxc324_5_0 {S0 : Nat → Int → Int} {ws : List Int} {S : Nat → Int → Int} {row1 cue s a b c x14 : Int} (hP : rxP324 S0 ws) (hin : bx_same rxL (bx_mdl rxC324.2.2.1) S0 S) (I0 : bx_Inv rxL S) (hinv : rxI324_5 S0 ws S row1 cue s a b c) (l8 : 0 ≤ row1) (u8 : row1 ≤ 3) (l9 : 0 ≤ cue) (u9 : cue ≤ 5) (l10 : 1 ≤ s) (u10 : s ≤ 3) (l11 : 1 ≤ a) (u11 : a ≤ 3) (l12 : 0 ≤ b) (u12 : b ≤ 3) (l13 : 0 ≤ c) (u13 : c ≤ 5) (l14 : (-2147483648) ≤ x14) (u14 : x14 ≤ 0) (e0 : S 480 69 = x14) : (True) ∧ (True) ∧ rxI324_3 S0 ws S row1 cue (s + 1) ∧ rxm324_3 S0 ws S row1 cue (s + 1) < rxm324_5 S0 ws S row1 cue s a b c := by
  exact ⟨trivial, trivial, hinv, by unfold rxm324_5 rxm324_3; omega⟩
theorem rxg324_5_0 {X : (Nat → Int → Int) → Prop} {S0 : Nat → Int → Int} {ws : List Int} (hP : rxP324 S0 ws) : bx_obC rxL X S0 rxC324.2.2.1 (rxI324 S0 ws) (rxm324 S0 ws) 5 rxz324_5 rxo324_5_0 := by
  intro S S_p r r_p hinv hX hin hsm_ hseg
  obtain ⟨I0, I1, h0_, hr_, b_, f_, d_⟩ := bx_cl (evs := [(0, (0, 480), (0, 69), .inr (0, (14, 0)))]) (fvs := []) hseg (by decide +kernel) (by decide +kernel)
  have hinv : rxI324_5 S0 ws S (r 8) (r 9) (r 10) (r 11) (r 12) (r 13) := hinv
  rw [← hr_ 8 (by decide), ← hr_ 9 (by decide), ← hr_ 10 (by decide), ← hr_ 11 (by decide), ← hr_ 12 (by decide), ← hr_ 13 (by decide)] at hinv
  obtain ⟨⟨l8, u8⟩, ⟨l9, u9⟩, ⟨l10, u10⟩, ⟨l11, u11⟩, ⟨l12, u12⟩, ⟨l13, u13⟩, ⟨l14, u14⟩, -⟩ := b_
  obtain ⟨e0, w_⟩ := d_
  subst w_
  have g := rxc324_5_0 hP hin I0 hinv l8 u8 l9 u9 l10 u10 l11 u11 l12 u12 l13 u13 l14 u14 e0
  refine ⟨bx_narP_ok (l := []) g.1, bx_nfP_ok h0_ (fvs := []) (by decide +kernel) g.2.1, ?_, ?_⟩
  · show rxI324_3 S0 ws S_p (bx_val [(0, 0), (0, 0), (0, 0), (0, 0), (0, 0), (0, 0), (0, 0), (0, 0), (8, 0), (9, 0), (10, 1)] r_p 8) (bx_val [(0, 0), (0, 0), (0, 0), (0, 0), (0, 0), (0, 0), (0, 0), (0, 0), (8, 0), (9, 0), (10, 1)] r_p 9) (bx_val [(0, 0), (0, 0), (0, 0), (0, 0), (0, 0), (0, 0), (0, 0), (0, 0), (8, 0), (9, 0), (10, 1)] r_p 10)
    rw [bx_val_x (n := 8) (e := (8, 0)) h0_ rfl, bx_val_x (n := 9) (e := (9, 0)) h0_ rfl, bx_val_x (n := 10) (e := (10, 1)) h0_ rfl]
    exact g.2.2.1
  · show rxm324_3 S0 ws S_p (bx_val [(0, 0), (0, 0), (0, 0), (0, 0), (0, 0), (0, 0), (0, 0), (0, 0), (8, 0), (9, 0), (10, 1)] r_p 8) (bx_val [(0, 0), (0, 0), (0, 0), (0, 0), (0, 0), (0, 0), (0, 0), (0, 0), (8, 0), (9, 0), (10, 1)] r_p 9) (bx_val [(0, 0), (0, 0), (0, 0), (0, 0), (0, 0), (0, 0), (0, 0), (0, 0), (8, 0), (9, 0), (10, 1)] r_p 10) < rxm324_5 S0 ws S_p (r 8) (r 9) (r 10) (r 11) (r 12) (r 13)
    rw [bx_val_x (n := 8) (e := (8, 0)) h0_ rfl, bx_val_x (n := 9) (e := (9, 0)) h0_ rfl, bx_val_x (n := 10) (e := (10, 1)) h0_ rfl, ← hr_ 8 (by decide), ← hr_ 9 (by decide), ← hr_ 10 (by decide), ← hr_ 11 (by decide), ← hr_ 12 (by decide), ← hr_ 13 (by decide)]
    exact g.2.2.2
theorem rxd324_5_0 {S0 : Nat → Int → Int} {ws : List Int} {S : Nat → Int → Int} {row1 cue s a b c x14 : Int} (hP : rxP324 S0 ws) (hin : bx_same rxL (bx_mdl rxC324.2.2.1) S0 S) (hin2 : bx_same rxL (bx_mdl rxC324.2.2.1) S S) (I0 : bx_Inv rxL S) (I1 : bx_Inv rxL S) (hinv : rxI324_5 S0 ws S row1 cue s a b c) (l8 : 0 ≤ row1) (u8 : row1 ≤ 3) (l9 : 0 ≤ cue) (u9 : cue ≤ 5) (l10 : 1 ≤ s) (u10 : s ≤ 3) (l11 : 1 ≤ a) (u11 : a ≤ 3) (l12 : 0 ≤ b) (u12 : b ≤ 3) (l13 : 0 ≤ c) (u13 : c ≤ 5) (l14 : 1 ≤ x14) (u14 : x14 ≤ 2147483647) (e0 : S 480 69 = x14) : (True) ∧ rxPS324 S0 ws S (some s) := by
  exact ⟨trivial, trivial⟩
theorem rxf324_5_0 {X : (Nat → Int → Int) → Prop} {S0 : Nat → Int → Int} {ws : List Int} (hP : rxP324 S0 ws) : bx_obE rxL X S0 rxC324.2.2.1 (rxI324 S0 ws) (rxPS324 S0 ws) 5 rxz324_5 rxe324_5_0 := by
  intro S S_p r r_p hinv hX hin hsm_ hseg
  obtain ⟨I0, I1, h0_, hr_, b_, f_, d_⟩ := bx_cl (evs := [(0, (0, 480), (0, 69), .inr (0, (14, 0)))]) (fvs := []) hseg (by decide +kernel) (by decide +kernel)
  have hinv : rxI324_5 S0 ws S (r 8) (r 9) (r 10) (r 11) (r 12) (r 13) := hinv
  rw [← hr_ 8 (by decide), ← hr_ 9 (by decide), ← hr_ 10 (by decide), ← hr_ 11 (by decide), ← hr_ 12 (by decide), ← hr_ 13 (by decide)] at hinv
  obtain ⟨⟨l8, u8⟩, ⟨l9, u9⟩, ⟨l10, u10⟩, ⟨l11, u11⟩, ⟨l12, u12⟩, ⟨l13, u13⟩, ⟨l14, u14⟩, -⟩ := b_
  obtain ⟨e0, w_⟩ := d_
  subst w_
  have g := rxd324_5_0 hP hin hsm_ I0 I1 hinv l8 u8 l9 u9 l10 u10 l11 u11 l12 u12 l13 u13 l14 u14 e0
  refine ⟨bx_narP_ok (l := []) g.1, ?_⟩
  show rxPS324 S0 ws S_p (some (bx_num r_p (.inr (0, (10, 0)))))
  rw [bx_xv_ok h0_]
  exact g.2
theorem rxgC324 {X : (Nat → Int → Int) → Prop} {S0 : Nat → Int → Int} {ws : List Int} (hP : rxP324 S0 ws) : bx_allI (fun i q => rxU324 q = true ∨ bx_allP (fun o => bx_obC rxL X S0 rxC324.2.2.1 (rxI324 S0 ws) (rxm324 S0 ws) i q.1 o) q.2.1) 0 rxY324 := ⟨Or.inr ⟨rxg324_0_0 hP, trivial⟩, Or.inl rfl, Or.inr ⟨rxg324_2_0 hP, trivial⟩, Or.inr ⟨rxg324_3_0 hP, trivial⟩, Or.inl rfl, Or.inr ⟨rxg324_5_0 hP, trivial⟩, trivial⟩
theorem rxgE324 {X : (Nat → Int → Int) → Prop} {S0 : Nat → Int → Int} {ws : List Int} (hP : rxP324 S0 ws) : bx_allI (fun i q => rxU324 q = true ∨ bx_allP (fun E => bx_obE rxL X S0 rxC324.2.2.1 (rxI324 S0 ws) (rxPS324 S0 ws) i q.1 E) q.2.2) 0 rxY324 := ⟨Or.inr trivial, Or.inl rfl, Or.inr trivial, Or.inr ⟨rxf324_3_0 hP, trivial⟩, Or.inl rfl, Or.inr ⟨rxf324_5_0 hP, trivial⟩, trivial⟩
theorem rxu324 {PX : State → Prop} {Dg : va_G} {A : Nat → Prop} {ad xa : Nat → Nat} {l : Launch} {X : (Nat → Int → Int) → Prop} (hPX : rx_PXOK rxNW A PX) (hX : ∀ S S1 : Nat → Int → Int, X S → bx_same rxL (bx_mdl rxC324.2.2.1) S S1 → X S1) (hQFR2 : bx_ConP rxG rxNW rxAO PX Dg rxL X vwCl A ad l rxM322 rxCFR2 rxPFR2 rxPSFR2) (hQFW : bx_ConP rxG rxNW rxAO PX Dg rxL X vwCl A ad l rxM323 rxCFW rxPFW rxPSFW) {S0 : Nat → Int → Int} {ws : List Int} (hP : rxP324 S0 ws) : ∀ (i : Nat) (q : bx_HE), rxY324[i]? = some q → rxU324 q = true → ∀ {p : Program} {e : Env} {R : Room} {s : State} {m : MethodId} {args : Array Value} {below : List Frame} {meth : Method} {c : Code} {Q : State → Prop} {H0 : Heap}, rx_Fr rxG rxNW rxAO PX p s m args meth c rxM324 → (∀ q, H0.size ≤ q → A q) → H0 = s.heap → rxM324.2.2.2.2.2.2.1 ≤ R.cells → rxM324.2.2.2.2.2.2.2 ≤ R.slots → rxC324.2.2.2.1 ≤ R.frames → rxC324.2.2.2.1 * 40 ≤ R.locals → bx_Step p l e R s m args below meth c Q Dg rxL X vwCl A xa H0 ad rxM324 rxY324 (rxI324 S0 ws) (rxm324 S0 ws) S0 rxC324.2.2.1 i q := by
  intro i q hq hus p e R s m args below meth c Q H0 hF hA hH0 hmc hms hd hdl
  match i, hq with
  | 0, hq =>
    cases hq
    exact absurd (show false = true from hus) Bool.false_ne_true
  | 1, hq =>
    cases hq
    exact rx_stepC (ins := .invokevirtual 595) (len := 3) (i_p := 2) (M_p := rxM322) (d := rxC324.2.2.2.1) (as := [.inr (3, (0, 480))]) (t := []) (ct := rxCFR2) hPX hF rfl hA hH0 hmc hms hd hdl (by decide +kernel) rfl rfl (by decide +kernel) (by decide +kernel) hQFR2 (by decide +kernel) rfl (Or.inl ⟨rfl, rfl, rfl⟩) (rxs324_1 hP)
  | 2, hq =>
    cases hq
    exact absurd (show false = true from hus) Bool.false_ne_true
  | 3, hq =>
    cases hq
    exact absurd (show false = true from hus) Bool.false_ne_true
  | 4, hq =>
    cases hq
    exact rx_stepC (ins := .invokevirtual 598) (len := 3) (i_p := 5) (M_p := rxM323) (d := rxC324.2.2.2.1) (as := [.inr (3, (0, 480)), .inr (0, (11, 0)), .inr (0, (12, 0)), .inr (0, (13, 0))]) (t := []) (ct := rxCFW) hPX hF rfl hA hH0 hmc hms hd hdl (by decide +kernel) rfl rfl (by decide +kernel) (by decide +kernel) hQFW (by decide +kernel) rfl (Or.inl ⟨rfl, rfl, rfl⟩) (rxs324_4 hP)
  | 5, hq =>
    cases hq
    exact absurd (show false = true from hus) Bool.false_ne_true
  | n + 6, hq => cases hq
theorem rxQ324 {PX : State → Prop} {Dg : va_G} {A : Nat → Prop} {ad xa : Nat → Nat} {l : Launch} {X : (Nat → Int → Int) → Prop} (hPX : rx_PXOK rxNW A PX) (hsl : ∀ s : State, PX s → ∀ o idx n : Nat, rxSl o idx = some n → ∃ tx : String, vk_R (rxNm o) idx tx (ad n) s)
    (hX : ∀ S S_p : Nat → Int → Int, X S → bx_same rxL (bx_mdl rxC324.2.2.1) S S_p → X S_p)
    (ih : ∀ (j2 : Nat) (ct2 : bx_Ct) (M2 : rx_Mt), ct2 ∈ rxCnE j2 → ct2.2.2.2.1 + 1 ≤ rxC324.2.2.2.1 → rxT.2.2.2.2.2 j2 = some M2 → bx_Con rxG rxNW rxAO PX Dg rxL X vwCl A ad l M2 ct2) (hQFR2 : bx_ConP rxG rxNW rxAO PX Dg rxL X vwCl A ad l rxM322 rxCFR2 rxPFR2 rxPSFR2) (hQFW : bx_ConP rxG rxNW rxAO PX Dg rxL X vwCl A ad l rxM323 rxCFW rxPFW rxPSFW) : bx_ConP rxG rxNW rxAO PX Dg rxL X vwCl A ad l rxM324 rxC324 rxP324 rxPS324 :=
  rxQof (xa := xa) (Cn := rxCnE) (f := 30000) (j := 324) (tab := rxY324) (us := rxU324) hPX hsl hX ih rfl rxYc324 rxI324 rxm324
    (fun S0 ws r I0 I ht0 ht as he he1 hX0 hI0 hP hs ha => by
      have e := he.symm.trans (show bx_ent0 rxNP rxC324.1 bx_I0 [] = some ([(0, 0), (0, 0), (0, 0), (0, 0), (0, 0), (0, 0), (0, 0), (0, 0), (0, 3), (0, 5)], [], [.inr (3, (0, 480)), .inr (0, (8, 0)), .inr (0, (9, 0))]) from rfl)
      cases e
      subst ha
      have h0 : r 0 = 0 := hs.1
      show rxI324_0 S0 _ S0 (r 8) (r 9)
      refine ⟨rfl, ?_⟩
      simp only [List.map_cons, List.map_nil, bx_xv_ok h0]
      rfl)
    (fun S0 ws hP => rxu324 (xa := xa) hPX hX hQFR2 hQFW hP) (fun S0 ws hP => rxgC324 hP) (fun S0 ws hP => rxgE324 hP)
