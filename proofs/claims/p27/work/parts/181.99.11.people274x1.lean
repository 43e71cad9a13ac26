section
noncomputable def rxCPC278x5 : bx_Ct := ([(3, (1, 278, 0)), (3, (1, 5, 0))], none, [(5, 0), (1003, 0), (1004, 0), (1005, 0)], 1, [])
noncomputable def rxIPC278x5_0 (S0 : Nat → Int → Int) (ws : List Int) (S : Nat → Int → Int) : Prop := S = S0 ∧ ws = [278, 5]
noncomputable def rxmPC278x5_0 (S0 : Nat → Int → Int) (ws : List Int) (S : Nat → Int → Int) : Nat := 100
noncomputable def rxzPC278x5_0 : rx_Z := ([(0, 0), (0, 0), (0, 0), (0, 0), (0, 0), (0, 0), (0, 0), (0, 0)], [], [], 0, 0, 0, [(0, .inr (3, (0, 278))), (1, .inr (3, (0, 5)))], [])
noncomputable def rxIPC278x5_1 (S0 : Nat → Int → Int) (ws : List Int) (S : Nat → Int → Int) : Prop := S 278 0 = S0 5 0 ∧ (∀ (p : Nat) (j : Int), p ≠ 278 → S p j = S0 p j)
noncomputable def rxmPC278x5_1 (S0 : Nat → Int → Int) (ws : List Int) (S : Nat → Int → Int) : Nat := 90
noncomputable def rxzPC278x5_1 : rx_Z := ([(0, 0), (0, 0), (0, 0), (0, 0), (0, 0), (0, 0), (0, 0), (0, 0)], [], [], 0, 0, 20, [(0, .inr (3, (0, 278))), (1, .inr (3, (0, 5)))], [.inr (0, (0, 8)), .inr (0, (0, 0)), .inr (3, (0, 279)), .inr (0, (0, 0)), .inr (3, (0, 6))])
noncomputable def rxIPC278x5_2 (S0 : Nat → Int → Int) (ws : List Int) (S : Nat → Int → Int) : Prop := S 278 0 = S0 5 0 ∧ (∀ j : Int, 0 ≤ j → j < 8 → S 279 j = S0 6 j) ∧ (∀ (p : Nat) (j : Int), p ≠ 278 → p ≠ 279 → S p j = S0 p j)
noncomputable def rxmPC278x5_2 (S0 : Nat → Int → Int) (ws : List Int) (S : Nat → Int → Int) : Nat := 85
noncomputable def rxzPC278x5_2 : rx_Z := ([(0, 0), (0, 0), (0, 0), (0, 0), (0, 0), (0, 0), (0, 0), (0, 0)], [], [], 0, 0, 23, [(0, .inr (3, (0, 278))), (1, .inr (3, (0, 5)))], [])
noncomputable def rxIPC278x5_3 (S0 : Nat → Int → Int) (ws : List Int) (S : Nat → Int → Int) : Prop := S 278 0 = S0 5 0 ∧ (∀ j : Int, 0 ≤ j → j < 8 → S 279 j = S0 6 j) ∧ (∀ (p : Nat) (j : Int), p ≠ 278 → p ≠ 279 → S p j = S0 p j)
noncomputable def rxmPC278x5_3 (S0 : Nat → Int → Int) (ws : List Int) (S : Nat → Int → Int) : Nat := 80
noncomputable def rxzPC278x5_3 : rx_Z := ([(0, 0), (0, 0), (0, 0), (0, 0), (0, 0), (0, 0), (0, 0), (0, 0)], [], [], 0, 0, 35, [(0, .inr (3, (0, 278))), (1, .inr (3, (0, 5)))], [.inr (0, (0, 8)), .inr (0, (0, 0)), .inr (3, (0, 280)), .inr (0, (0, 0)), .inr (3, (0, 7))])
noncomputable def rxIPC278x5_4 (S0 : Nat → Int → Int) (ws : List Int) (S : Nat → Int → Int) : Prop := S 278 0 = S0 5 0 ∧ (∀ j : Int, 0 ≤ j → j < 8 → S 279 j = S0 6 j) ∧ (∀ j : Int, 0 ≤ j → j < 8 → S 280 j = S0 7 j) ∧ (∀ (p : Nat) (j : Int), p ≠ 278 → p ≠ 279 → p ≠ 280 → S p j = S0 p j)
noncomputable def rxmPC278x5_4 (S0 : Nat → Int → Int) (ws : List Int) (S : Nat → Int → Int) : Nat := 75
noncomputable def rxzPC278x5_4 : rx_Z := ([(0, 0), (0, 0), (0, 0), (0, 0), (0, 0), (0, 0), (0, 0), (0, 0)], [], [], 0, 0, 38, [(0, .inr (3, (0, 278))), (1, .inr (3, (0, 5)))], [])
noncomputable def rxIPC278x5_5 (S0 : Nat → Int → Int) (ws : List Int) (S : Nat → Int → Int) : Prop := S 278 0 = S0 5 0 ∧ (∀ j : Int, 0 ≤ j → j < 8 → S 279 j = S0 6 j) ∧ (∀ j : Int, 0 ≤ j → j < 8 → S 280 j = S0 7 j) ∧ (∀ (p : Nat) (j : Int), p ≠ 278 → p ≠ 279 → p ≠ 280 → S p j = S0 p j)
noncomputable def rxmPC278x5_5 (S0 : Nat → Int → Int) (ws : List Int) (S : Nat → Int → Int) : Nat := 70
noncomputable def rxzPC278x5_5 : rx_Z := ([(0, 0), (0, 0), (0, 0), (0, 0), (0, 0), (0, 0), (0, 0), (0, 0)], [], [], 0, 0, 50, [(0, .inr (3, (0, 278))), (1, .inr (3, (0, 5)))], [.inr (0, (0, 8)), .inr (0, (0, 0)), .inr (3, (0, 281)), .inr (0, (0, 0)), .inr (3, (0, 8))])
noncomputable def rxIPC278x5_6 (S0 : Nat → Int → Int) (ws : List Int) (S : Nat → Int → Int) : Prop := S 278 0 = S0 5 0 ∧ (∀ j : Int, 0 ≤ j → j < 8 → S 279 j = S0 6 j) ∧ (∀ j : Int, 0 ≤ j → j < 8 → S 280 j = S0 7 j) ∧ (∀ j : Int, 0 ≤ j → j < 8 → S 281 j = S0 8 j) ∧ (∀ (p : Nat) (j : Int), p ≠ 278 → p ≠ 279 → p ≠ 280 → p ≠ 281 → S p j = S0 p j)
noncomputable def rxmPC278x5_6 (S0 : Nat → Int → Int) (ws : List Int) (S : Nat → Int → Int) : Nat := 65
noncomputable def rxzPC278x5_6 : rx_Z := ([(0, 0), (0, 0), (0, 0), (0, 0), (0, 0), (0, 0), (0, 0), (0, 0)], [], [], 0, 0, 53, [(0, .inr (3, (0, 278))), (1, .inr (3, (0, 5)))], [])
noncomputable def rxoPC278x5_0_0 : bx_HO := (([(0, 0), (0, 0), (0, 0), (0, 0), (0, 0), (0, 0), (0, 0), (0, 0), (0, 8)], [], [(((0, 278), 1), .inr (3, (0, 279))), (((0, 5), 1), .inr (3, (0, 6))), (((0, 0), 1851192626986356797424340330377019318111018015026043177717334019000000), .inr (0, (8, 0))), (((0, 278), 0), .inr (0, (8, 0))), (((0, 0), 1851192626986356797424340330377019318111018015026043177556312064000000), .inr (0, (8, 0)))], 0, 0, 20, [(0, .inr (3, (0, 278))), (1, .inr (3, (0, 5)))], [.inr (0, (0, 8)), .inr (0, (0, 0)), .inr (3, (0, 279)), .inr (0, (0, 0)), .inr (3, (0, 6))]), [], [], [(0, 0), (0, 0), (0, 0), (0, 0), (0, 0), (0, 0), (0, 0), (0, 0)], 1)
noncomputable def rxoPC278x5_2_0 : bx_HO := (([(0, 0), (0, 0), (0, 0), (0, 0), (0, 0), (0, 0), (0, 0), (0, 0)], [], [(((0, 278), 2), .inr (3, (0, 280))), (((0, 5), 2), .inr (3, (0, 7)))], 0, 0, 35, [(0, .inr (3, (0, 278))), (1, .inr (3, (0, 5)))], [.inr (0, (0, 8)), .inr (0, (0, 0)), .inr (3, (0, 280)), .inr (0, (0, 0)), .inr (3, (0, 7))]), [], [], [(0, 0), (0, 0), (0, 0), (0, 0), (0, 0), (0, 0), (0, 0), (0, 0)], 3)
noncomputable def rxoPC278x5_4_0 : bx_HO := (([(0, 0), (0, 0), (0, 0), (0, 0), (0, 0), (0, 0), (0, 0), (0, 0)], [], [(((0, 278), 3), .inr (3, (0, 281))), (((0, 5), 3), .inr (3, (0, 8)))], 0, 0, 50, [(0, .inr (3, (0, 278))), (1, .inr (3, (0, 5)))], [.inr (0, (0, 8)), .inr (0, (0, 0)), .inr (3, (0, 281)), .inr (0, (0, 0)), .inr (3, (0, 8))]), [], [], [(0, 0), (0, 0), (0, 0), (0, 0), (0, 0), (0, 0), (0, 0), (0, 0)], 5)
noncomputable def rxePC278x5_6_0 : rx_End × List (Nat × Int × Int) := (([(0, 0), (0, 0), (0, 0), (0, 0), (0, 0), (0, 0), (0, 0), (0, 0)], [], [], none), [])
noncomputable def rxYPC278x5 : List bx_HE := [(rxzPC278x5_0, [rxoPC278x5_0_0], []), (rxzPC278x5_1, [], []), (rxzPC278x5_2, [rxoPC278x5_2_0], []), (rxzPC278x5_3, [], []), (rxzPC278x5_4, [rxoPC278x5_4_0], []), (rxzPC278x5_5, [], []), (rxzPC278x5_6, [], [rxePC278x5_6_0])]
noncomputable def rxUPC278x5 (q : bx_HE) : Bool := Nat.beq (rx_zpc q.1) 20 || Nat.beq (rx_zpc q.1) 35 || Nat.beq (rx_zpc q.1) 50
noncomputable def rxYBPC278x5 : bx_B := (rxV, rxNP, rxDmf, bx_mdH rxCPC278x5.2.2.1)
set_option maxRecDepth 100000 in
theorem rxYcPC278x5 : bx_chkH rxYBPC278x5 rxM108 rxCPC278x5 rxYPC278x5 (rxUPC278x5, fun cut z => rx_ex2 (rxCT rxYBPC278x5 rxCnE) cut 30000 rxCPC278x5.2.2.2.1 108 z) = true := by decide +kernel
noncomputable def rxIPC278x5 (S0 : Nat → Int → Int) (ws : List Int) (i : Nat) : bx_SP := fun S r => match i with | 0 => rxIPC278x5_0 S0 ws S | 1 => rxIPC278x5_1 S0 ws S | 2 => rxIPC278x5_2 S0 ws S | 3 => rxIPC278x5_3 S0 ws S | 4 => rxIPC278x5_4 S0 ws S | 5 => rxIPC278x5_5 S0 ws S | 6 => rxIPC278x5_6 S0 ws S | _ => False
noncomputable def rxmPC278x5 (S0 : Nat → Int → Int) (ws : List Int) (i : Nat) (S : Nat → Int → Int) (r : Nat → Int) : Nat := match i with | 0 => rxmPC278x5_0 S0 ws S | 1 => rxmPC278x5_1 S0 ws S | 2 => rxmPC278x5_2 S0 ws S | 3 => rxmPC278x5_3 S0 ws S | 4 => rxmPC278x5_4 S0 ws S | 5 => rxmPC278x5_5 S0 ws S | 6 => rxmPC278x5_6 S0 ws S | _ => 0
noncomputable def rxPPC278x5 (S0 : Nat → Int → Int) (ws : List Int) : Prop := True
noncomputable def rxPSPC278x5 (S0 : Nat → Int → Int) (ws : List Int) (S : Nat → Int → Int) (w : Option Int) : Prop := w = none ∧ S 278 0 = S0 5 0 ∧ (∀ j : Int, 0 ≤ j → j < 8 → S 279 j = S0 6 j) ∧ (∀ j : Int, 0 ≤ j → j < 8 → S 280 j = S0 7 j) ∧ (∀ j : Int, 0 ≤ j → j < 8 → S 281 j = S0 8 j) ∧ (∀ (p : Nat) (j : Int), p ≠ 278 → p ≠ 279 → p ≠ 280 → p ≠ 281 → S p j = S0 p j)
theorem rxtPC278x5_1 {S0 : Nat → Int → Int} {ws : List Int} {S : Nat → Int → Int} (hP : rxPPC278x5 S0 ws) (hin : bx_same rxL (bx_mdl rxCPC278x5.2.2.1) S0 S) (I0 : bx_Inv rxL S) (hinv : rxIPC278x5_1 S0 ws S)  : rxIPC278x5_2 S0 ws (bx_cpS S 6 279 8) ∧ rxmPC278x5_2 S0 ws (bx_cpS S 6 279 8) < rxmPC278x5_1 S0 ws S := by
  obtain ⟨h0, hf⟩ := hinv
  refine ⟨⟨?_, ?_, ?_⟩, by unfold rxmPC278x5_1 rxmPC278x5_2; omega⟩
  · rw [bx_cpS_ne (by decide)]; exact h0
  · intro j a b; rw [bx_cpS_in a b]; exact hf _ j (by decide)
  · intro p j n0 n1; rw [bx_cpS_ne n1]; exact hf p j n0
theorem rxsPC278x5_1 {X : (Nat → Int → Int) → Prop} {S0 : Nat → Int → Int} {ws : List Int} (hP : rxPPC278x5 S0 ws) (hX : ∀ S S1 : Nat → Int → Int, X S → bx_same rxL (bx_mdl rxCPC278x5.2.2.1) S S1 → X S1) : rx_obY X S0 rxCPC278x5.2.2.1 (rxIPC278x5 S0 ws) (rxmPC278x5 S0 ws) 1 2 rxzPC278x5_1 6 279 8 := by
  intro S r hinv hXS I0 hin hs_ hf_
  have b_ := bx_bds_sat hs_
  have f_ := bx_fcl_ok hs_.1 hf_
  have g := rxtPC278x5_1 hP hin I0 hinv 
  exact ⟨g.1, g.2, hX _ _ hXS (rx_same_cp (fun _ _ _ _ _ => rfl) (g1 := 3) rfl (by decide +kernel)), rx_same_cp hin (g1 := 3) rfl (by decide +kernel)⟩
theorem rxtPC278x5_3 {S0 : Nat → Int → Int} {ws : List Int} {S : Nat → Int → Int} (hP : rxPPC278x5 S0 ws) (hin : bx_same rxL (bx_mdl rxCPC278x5.2.2.1) S0 S) (I0 : bx_Inv rxL S) (hinv : rxIPC278x5_3 S0 ws S)  : rxIPC278x5_4 S0 ws (bx_cpS S 7 280 8) ∧ rxmPC278x5_4 S0 ws (bx_cpS S 7 280 8) < rxmPC278x5_3 S0 ws S := by
  obtain ⟨h0, h1, hf⟩ := hinv
  refine ⟨⟨?_, ?_, ?_, ?_⟩, by unfold rxmPC278x5_3 rxmPC278x5_4; omega⟩
  · rw [bx_cpS_ne (by decide)]; exact h0
  · intro j a b; rw [bx_cpS_ne (by decide)]; exact h1 j a b
  · intro j a b; rw [bx_cpS_in a b]; exact hf _ j (by decide) (by decide)
  · intro p j n0 n1 n2; rw [bx_cpS_ne n2]; exact hf p j n0 n1
theorem rxsPC278x5_3 {X : (Nat → Int → Int) → Prop} {S0 : Nat → Int → Int} {ws : List Int} (hP : rxPPC278x5 S0 ws) (hX : ∀ S S1 : Nat → Int → Int, X S → bx_same rxL (bx_mdl rxCPC278x5.2.2.1) S S1 → X S1) : rx_obY X S0 rxCPC278x5.2.2.1 (rxIPC278x5 S0 ws) (rxmPC278x5 S0 ws) 3 4 rxzPC278x5_3 7 280 8 := by
  intro S r hinv hXS I0 hin hs_ hf_
  have b_ := bx_bds_sat hs_
  have f_ := bx_fcl_ok hs_.1 hf_
  have g := rxtPC278x5_3 hP hin I0 hinv 
  exact ⟨g.1, g.2, hX _ _ hXS (rx_same_cp (fun _ _ _ _ _ => rfl) (g1 := 4) rfl (by decide +kernel)), rx_same_cp hin (g1 := 4) rfl (by decide +kernel)⟩
theorem rxtPC278x5_5 {S0 : Nat → Int → Int} {ws : List Int} {S : Nat → Int → Int} (hP : rxPPC278x5 S0 ws) (hin : bx_same rxL (bx_mdl rxCPC278x5.2.2.1) S0 S) (I0 : bx_Inv rxL S) (hinv : rxIPC278x5_5 S0 ws S)  : rxIPC278x5_6 S0 ws (bx_cpS S 8 281 8) ∧ rxmPC278x5_6 S0 ws (bx_cpS S 8 281 8) < rxmPC278x5_5 S0 ws S := by
  obtain ⟨h0, h1, h2, hf⟩ := hinv
  refine ⟨⟨?_, ?_, ?_, ?_, ?_⟩, by unfold rxmPC278x5_5 rxmPC278x5_6; omega⟩
  · rw [bx_cpS_ne (by decide)]; exact h0
  · intro j a b; rw [bx_cpS_ne (by decide)]; exact h1 j a b
  · intro j a b; rw [bx_cpS_ne (by decide)]; exact h2 j a b
  · intro j a b; rw [bx_cpS_in a b]; exact hf _ j (by decide) (by decide) (by decide)
  · intro p j n0 n1 n2 n3; rw [bx_cpS_ne n3]; exact hf p j n0 n1 n2
theorem rxsPC278x5_5 {X : (Nat → Int → Int) → Prop} {S0 : Nat → Int → Int} {ws : List Int} (hP : rxPPC278x5 S0 ws) (hX : ∀ S S1 : Nat → Int → Int, X S → bx_same rxL (bx_mdl rxCPC278x5.2.2.1) S S1 → X S1) : rx_obY X S0 rxCPC278x5.2.2.1 (rxIPC278x5 S0 ws) (rxmPC278x5 S0 ws) 5 6 rxzPC278x5_5 8 281 8 := by
  intro S r hinv hXS I0 hin hs_ hf_
  have b_ := bx_bds_sat hs_
  have f_ := bx_fcl_ok hs_.1 hf_
  have g := rxtPC278x5_5 hP hin I0 hinv 
  exact ⟨g.1, g.2, hX _ _ hXS (rx_same_cp (fun _ _ _ _ _ => rfl) (g1 := 5) rfl (by decide +kernel)), rx_same_cp hin (g1 := 5) rfl (by decide +kernel)⟩
theorem rxcPC278x5_0_0 {S0 : Nat → Int → Int} {ws : List Int} {S : Nat → Int → Int} {x8 : Int} (hP : rxPPC278x5 S0 ws) (hin : bx_same rxL (bx_mdl rxCPC278x5.2.2.1) S0 S) (I0 : bx_Inv rxL S) (hinv : rxIPC278x5_0 S0 ws S) (l8 : 0 ≤ x8) (u8 : x8 ≤ 8) (e1 : S 5 0 = x8) : (True) ∧ (True) ∧ rxIPC278x5_1 S0 ws (bx_up S 278 0 x8) ∧ rxmPC278x5_1 S0 ws (bx_up S 278 0 x8) < rxmPC278x5_0 S0 ws S := by
  obtain ⟨rfl, hw⟩ := hinv
  exact ⟨trivial, trivial, ⟨by rw [bx_up_at]; exact e1.symm, fun p j n0 => congrFun (bx_up_row n0) j⟩, by unfold rxmPC278x5_0 rxmPC278x5_1; omega⟩
theorem rxgPC278x5_0_0 {X : (Nat → Int → Int) → Prop} {S0 : Nat → Int → Int} {ws : List Int} (hP : rxPPC278x5 S0 ws) : bx_obC rxL X S0 rxCPC278x5.2.2.1 (rxIPC278x5 S0 ws) (rxmPC278x5 S0 ws) 0 rxzPC278x5_0 rxoPC278x5_0_0 := by
  intro S S_p r r_p hinv hX hin hsm_ hseg
  obtain ⟨I0, I1, h0_, hr_, b_, f_, d_⟩ := bx_cl (evs := [(1, (0, 278), (0, 0), .inr (0, (8, 0))), (0, (0, 5), (0, 0), .inr (0, (8, 0)))]) (fvs := []) hseg (by decide +kernel) (by decide +kernel)
  have hinv : rxIPC278x5_0 S0 ws S := hinv
  obtain ⟨⟨l8, u8⟩, -⟩ := b_
  obtain ⟨T0, ⟨e1, w_⟩, w0⟩ := d_
  subst w0
  subst w_
  have g := rxcPC278x5_0_0 hP hin I0 hinv l8 u8 e1
  refine ⟨bx_narP_ok (l := []) g.1, bx_nfP_ok h0_ (fvs := []) (by decide +kernel) g.2.1, ?_, ?_⟩
  · show rxIPC278x5_1 S0 ws (bx_up T0 278 (0) (r_p 8))
    exact g.2.2.1
  · show rxmPC278x5_1 S0 ws (bx_up T0 278 (0) (r_p 8)) < rxmPC278x5_0 S0 ws T0
    exact g.2.2.2
theorem rxcPC278x5_2_0 {S0 : Nat → Int → Int} {ws : List Int} {S : Nat → Int → Int} (hP : rxPPC278x5 S0 ws) (hin : bx_same rxL (bx_mdl rxCPC278x5.2.2.1) S0 S) (I0 : bx_Inv rxL S) (hinv : rxIPC278x5_2 S0 ws S)  : (True) ∧ (True) ∧ rxIPC278x5_3 S0 ws S ∧ rxmPC278x5_3 S0 ws S < rxmPC278x5_2 S0 ws S := by
  exact ⟨trivial, trivial, hinv, by unfold rxmPC278x5_2 rxmPC278x5_3; omega⟩
theorem rxgPC278x5_2_0 {X : (Nat → Int → Int) → Prop} {S0 : Nat → Int → Int} {ws : List Int} (hP : rxPPC278x5 S0 ws) : bx_obC rxL X S0 rxCPC278x5.2.2.1 (rxIPC278x5 S0 ws) (rxmPC278x5 S0 ws) 2 rxzPC278x5_2 rxoPC278x5_2_0 := by
  intro S S_p r r_p hinv hX hin hsm_ hseg
  obtain ⟨I0, I1, h0_, hr_, b_, f_, d_⟩ := bx_cl (evs := []) (fvs := []) hseg (by decide +kernel) (by decide +kernel)
  have hinv : rxIPC278x5_2 S0 ws S := hinv
  have w_ := d_
  subst w_
  have g := rxcPC278x5_2_0 hP hin I0 hinv 
  refine ⟨bx_narP_ok (l := []) g.1, bx_nfP_ok h0_ (fvs := []) (by decide +kernel) g.2.1, ?_, ?_⟩
  · show rxIPC278x5_3 S0 ws S_p
    exact g.2.2.1
  · show rxmPC278x5_3 S0 ws S_p < rxmPC278x5_2 S0 ws S_p
    exact g.2.2.2
theorem rxcPC278x5_4_0 {S0 : Nat → Int → Int} {ws : List Int} {S : Nat → Int → Int} (hP : rxPPC278x5 S0 ws) (hin : bx_same rxL (bx_mdl rxCPC278x5.2.2.1) S0 S) (I0 : bx_Inv rxL S) (hinv : rxIPC278x5_4 S0 ws S)  : (True) ∧ (True) ∧ rxIPC278x5_5 S0 ws S ∧ rxmPC278x5_5 S0 ws S < rxmPC278x5_4 S0 ws S := by
  exact ⟨trivial, trivial, hinv, by unfold rxmPC278x5_4 rxmPC278x5_5; omega⟩
theorem rxgPC278x5_4_0 {X : (Nat → Int → Int) → Prop} {S0 : Nat → Int → Int} {ws : List Int} (hP : rxPPC278x5 S0 ws) : bx_obC rxL X S0 rxCPC278x5.2.2.1 (rxIPC278x5 S0 ws) (rxmPC278x5 S0 ws) 4 rxzPC278x5_4 rxoPC278x5_4_0 := by
  intro S S_p r r_p hinv hX hin hsm_ hseg
  obtain ⟨I0, I1, h0_, hr_, b_, f_, d_⟩ := bx_cl (evs := []) (fvs := []) hseg (by decide +kernel) (by decide +kernel)
  have hinv : rxIPC278x5_4 S0 ws S := hinv
  have w_ := d_
  subst w_
  have g := rxcPC278x5_4_0 hP hin I0 hinv 
  refine ⟨bx_narP_ok (l := []) g.1, bx_nfP_ok h0_ (fvs := []) (by decide +kernel) g.2.1, ?_, ?_⟩
  · show rxIPC278x5_5 S0 ws S_p
    exact g.2.2.1
  · show rxmPC278x5_5 S0 ws S_p < rxmPC278x5_4 S0 ws S_p
    exact g.2.2.2
theorem rxdPC278x5_6_0 {S0 : Nat → Int → Int} {ws : List Int} {S : Nat → Int → Int} (hP : rxPPC278x5 S0 ws) (hin : bx_same rxL (bx_mdl rxCPC278x5.2.2.1) S0 S) (hin2 : bx_same rxL (bx_mdl rxCPC278x5.2.2.1) S S) (I0 : bx_Inv rxL S) (I1 : bx_Inv rxL S) (hinv : rxIPC278x5_6 S0 ws S)  : (True) ∧ rxPSPC278x5 S0 ws S none := by
  exact ⟨trivial, rfl, hinv⟩
theorem rxfPC278x5_6_0 {X : (Nat → Int → Int) → Prop} {S0 : Nat → Int → Int} {ws : List Int} (hP : rxPPC278x5 S0 ws) : bx_obE rxL X S0 rxCPC278x5.2.2.1 (rxIPC278x5 S0 ws) (rxPSPC278x5 S0 ws) 6 rxzPC278x5_6 rxePC278x5_6_0 := by
  intro S S_p r r_p hinv hX hin hsm_ hseg
  obtain ⟨I0, I1, h0_, hr_, b_, f_, d_⟩ := bx_cl (evs := []) (fvs := []) hseg (by decide +kernel) (by decide +kernel)
  have hinv : rxIPC278x5_6 S0 ws S := hinv
  have w_ := d_
  subst w_
  have g := rxdPC278x5_6_0 hP hin hsm_ I0 I1 hinv 
  refine ⟨bx_narP_ok (l := []) g.1, ?_⟩
  exact g.2
theorem rxgCPC278x5 {X : (Nat → Int → Int) → Prop} {S0 : Nat → Int → Int} {ws : List Int} (hP : rxPPC278x5 S0 ws) : bx_allI (fun i q => rxUPC278x5 q = true ∨ bx_allP (fun o => bx_obC rxL X S0 rxCPC278x5.2.2.1 (rxIPC278x5 S0 ws) (rxmPC278x5 S0 ws) i q.1 o) q.2.1) 0 rxYPC278x5 := ⟨Or.inr ⟨rxgPC278x5_0_0 hP, trivial⟩, Or.inl rfl, Or.inr ⟨rxgPC278x5_2_0 hP, trivial⟩, Or.inl rfl, Or.inr ⟨rxgPC278x5_4_0 hP, trivial⟩, Or.inl rfl, Or.inr trivial, trivial⟩
theorem rxgEPC278x5 {X : (Nat → Int → Int) → Prop} {S0 : Nat → Int → Int} {ws : List Int} (hP : rxPPC278x5 S0 ws) : bx_allI (fun i q => rxUPC278x5 q = true ∨ bx_allP (fun E => bx_obE rxL X S0 rxCPC278x5.2.2.1 (rxIPC278x5 S0 ws) (rxPSPC278x5 S0 ws) i q.1 E) q.2.2) 0 rxYPC278x5 := ⟨Or.inr trivial, Or.inl rfl, Or.inr trivial, Or.inl rfl, Or.inr trivial, Or.inl rfl, Or.inr ⟨rxfPC278x5_6_0 hP, trivial⟩, trivial⟩
theorem rxuPC278x5 {PX : State → Prop} {Dg : va_G} {A : Nat → Prop} {ad xa : Nat → Nat} {l : Launch} {X : (Nat → Int → Int) → Prop} (hPX : rx_PXOK rxNW A PX) (hX : ∀ S S1 : Nat → Int → Int, X S → bx_same rxL (bx_mdl rxCPC278x5.2.2.1) S S1 → X S1) {S0 : Nat → Int → Int} {ws : List Int} (hP : rxPPC278x5 S0 ws) : ∀ (i : Nat) (q : bx_HE), rxYPC278x5[i]? = some q → rxUPC278x5 q = true → ∀ {p : Program} {e : Env} {R : Room} {s : State} {m : MethodId} {args : Array Value} {below : List Frame} {meth : Method} {c : Code} {Q : State → Prop} {H0 : Heap}, rx_Fr rxG rxNW rxAO PX p s m args meth c rxM108 → (∀ q, H0.size ≤ q → A q) → H0 = s.heap → rxM108.2.2.2.2.2.2.1 ≤ R.cells → rxM108.2.2.2.2.2.2.2 ≤ R.slots → rxCPC278x5.2.2.2.1 ≤ R.frames → rxCPC278x5.2.2.2.1 * 40 ≤ R.locals → bx_Step p l e R s m args below meth c Q Dg rxL X vwCl A xa H0 ad rxM108 rxYPC278x5 (rxIPC278x5 S0 ws) (rxmPC278x5 S0 ws) S0 rxCPC278x5.2.2.1 i q := by
  intro i q hq hus p e R s m args below meth c Q H0 hF hA hH0 hmc hms hd hdl
  match i, hq with
  | 0, hq =>
    cases hq
    exact absurd (show false = true from hus) Bool.false_ne_true
  | 1, hq =>
    cases hq
    exact rx_stepY (i_p := 2) (idx := 25) (P0 := 6) (P1 := 279) (n := 8) (g0 := 3) (g1 := 3) (t := []) hF rfl (Nat.le_trans (by decide) hd) (Nat.le_trans (by decide) hdl) (by decide +kernel) (by decide +kernel) rfl rfl (by decide) (by decide) rfl rfl (by decide) (by decide) rfl rfl (by decide) (by decide) rfl rfl (rxsPC278x5_1 hP hX)
  | 2, hq =>
    cases hq
    exact absurd (show false = true from hus) Bool.false_ne_true
  | 3, hq =>
    cases hq
    exact rx_stepY (i_p := 4) (idx := 25) (P0 := 7) (P1 := 280) (n := 8) (g0 := 4) (g1 := 4) (t := []) hF rfl (Nat.le_trans (by decide) hd) (Nat.le_trans (by decide) hdl) (by decide +kernel) (by decide +kernel) rfl rfl (by decide) (by decide) rfl rfl (by decide) (by decide) rfl rfl (by decide) (by decide) rfl rfl (rxsPC278x5_3 hP hX)
  | 4, hq =>
    cases hq
    exact absurd (show false = true from hus) Bool.false_ne_true
  | 5, hq =>
    cases hq
    exact rx_stepY (i_p := 6) (idx := 25) (P0 := 8) (P1 := 281) (n := 8) (g0 := 5) (g1 := 5) (t := []) hF rfl (Nat.le_trans (by decide) hd) (Nat.le_trans (by decide) hdl) (by decide +kernel) (by decide +kernel) rfl rfl (by decide) (by decide) rfl rfl (by decide) (by decide) rfl rfl (by decide) (by decide) rfl rfl (rxsPC278x5_5 hP hX)
  | 6, hq =>
    cases hq
    exact absurd (show false = true from hus) Bool.false_ne_true
  | n + 7, hq => cases hq
theorem rxQPC278x5 {PX : State → Prop} {Dg : va_G} {A : Nat → Prop} {ad xa : Nat → Nat} {l : Launch} {X : (Nat → Int → Int) → Prop} (hPX : rx_PXOK rxNW A PX) (hsl : ∀ s : State, PX s → ∀ o idx n : Nat, rxSl o idx = some n → ∃ tx : String, vk_R (rxNm o) idx tx (ad n) s)
    (hX : ∀ S S_p : Nat → Int → Int, X S → bx_same rxL (bx_mdl rxCPC278x5.2.2.1) S S_p → X S_p)
    (ih : ∀ (j2 : Nat) (ct2 : bx_Ct) (M2 : rx_Mt), ct2 ∈ rxCnE j2 → ct2.2.2.2.1 + 1 ≤ rxCPC278x5.2.2.2.1 → rxT.2.2.2.2.2 j2 = some M2 → bx_Con rxG rxNW rxAO PX Dg rxL X vwCl A ad l M2 ct2) : bx_ConP rxG rxNW rxAO PX Dg rxL X vwCl A ad l rxM108 rxCPC278x5 rxPPC278x5 rxPSPC278x5 :=
  rxQof (xa := xa) (Cn := rxCnE) (f := 30000) (j := 108) (tab := rxYPC278x5) (us := rxUPC278x5) hPX hsl hX ih rfl rxYcPC278x5 rxIPC278x5 rxmPC278x5
    (fun S0 ws r I0 I ht0 ht as he he1 hX0 hI0 hP hs ha => by
      have e := he.symm.trans (show bx_ent0 rxNP rxCPC278x5.1 bx_I0 [] = some ([(0, 0), (0, 0), (0, 0), (0, 0), (0, 0), (0, 0), (0, 0), (0, 0)], [], [.inr (3, (0, 278)), .inr (3, (0, 5))]) from rfl)
      cases e
      subst ha
      have h0 : r 0 = 0 := hs.1
      show rxIPC278x5_0 S0 _ S0
      refine ⟨rfl, ?_⟩
      simp only [List.map_cons, List.map_nil, bx_xv_ok h0]
      rfl)
    (fun S0 ws hP => rxuPC278x5 (xa := xa) hPX hX hP) (fun S0 ws hP => rxgCPC278x5 hP) (fun S0 ws hP => rxgEPC278x5 hP)
end
section
noncomputable def rxCDC287x14 : bx_Ct := ([(3, (1, 287, 0)), (3, (1, 14, 0))], none, [(2, 0), (1011, 0), (1012, 0), (1013, 0)], 1, [])
noncomputable def rxIDC287x14_0 (S0 : Nat → Int → Int) (ws : List Int) (S : Nat → Int → Int) : Prop := S = S0 ∧ ws = [287, 14]
noncomputable def rxmDC287x14_0 (S0 : Nat → Int → Int) (ws : List Int) (S : Nat → Int → Int) : Nat := 100
noncomputable def rxzDC287x14_0 : rx_Z := ([(0, 0), (0, 0), (0, 0), (0, 0), (0, 0), (0, 0), (0, 0), (0, 0)], [], [], 0, 0, 0, [(0, .inr (3, (0, 287))), (1, .inr (3, (0, 14)))], [])
noncomputable def rxIDC287x14_1 (S0 : Nat → Int → Int) (ws : List Int) (S : Nat → Int → Int) : Prop := S 287 0 = S0 14 0 ∧ (∀ (p : Nat) (j : Int), p ≠ 287 → S p j = S0 p j)
noncomputable def rxmDC287x14_1 (S0 : Nat → Int → Int) (ws : List Int) (S : Nat → Int → Int) : Nat := 90
noncomputable def rxzDC287x14_1 : rx_Z := ([(0, 0), (0, 0), (0, 0), (0, 0), (0, 0), (0, 0), (0, 0), (0, 0)], [], [], 0, 0, 20, [(0, .inr (3, (0, 287))), (1, .inr (3, (0, 14)))], [.inr (0, (0, 12)), .inr (0, (0, 0)), .inr (3, (0, 288)), .inr (0, (0, 0)), .inr (3, (0, 15))])
noncomputable def rxIDC287x14_2 (S0 : Nat → Int → Int) (ws : List Int) (S : Nat → Int → Int) : Prop := S 287 0 = S0 14 0 ∧ (∀ j : Int, 0 ≤ j → j < 12 → S 288 j = S0 15 j) ∧ (∀ (p : Nat) (j : Int), p ≠ 287 → p ≠ 288 → S p j = S0 p j)
noncomputable def rxmDC287x14_2 (S0 : Nat → Int → Int) (ws : List Int) (S : Nat → Int → Int) : Nat := 85
noncomputable def rxzDC287x14_2 : rx_Z := ([(0, 0), (0, 0), (0, 0), (0, 0), (0, 0), (0, 0), (0, 0), (0, 0)], [], [], 0, 0, 23, [(0, .inr (3, (0, 287))), (1, .inr (3, (0, 14)))], [])
noncomputable def rxIDC287x14_3 (S0 : Nat → Int → Int) (ws : List Int) (S : Nat → Int → Int) : Prop := S 287 0 = S0 14 0 ∧ (∀ j : Int, 0 ≤ j → j < 12 → S 288 j = S0 15 j) ∧ (∀ (p : Nat) (j : Int), p ≠ 287 → p ≠ 288 → S p j = S0 p j)
noncomputable def rxmDC287x14_3 (S0 : Nat → Int → Int) (ws : List Int) (S : Nat → Int → Int) : Nat := 80
noncomputable def rxzDC287x14_3 : rx_Z := ([(0, 0), (0, 0), (0, 0), (0, 0), (0, 0), (0, 0), (0, 0), (0, 0)], [], [], 0, 0, 35, [(0, .inr (3, (0, 287))), (1, .inr (3, (0, 14)))], [.inr (0, (0, 12)), .inr (0, (0, 0)), .inr (3, (0, 289)), .inr (0, (0, 0)), .inr (3, (0, 16))])
noncomputable def rxIDC287x14_4 (S0 : Nat → Int → Int) (ws : List Int) (S : Nat → Int → Int) : Prop := S 287 0 = S0 14 0 ∧ (∀ j : Int, 0 ≤ j → j < 12 → S 288 j = S0 15 j) ∧ (∀ j : Int, 0 ≤ j → j < 12 → S 289 j = S0 16 j) ∧ (∀ (p : Nat) (j : Int), p ≠ 287 → p ≠ 288 → p ≠ 289 → S p j = S0 p j)
noncomputable def rxmDC287x14_4 (S0 : Nat → Int → Int) (ws : List Int) (S : Nat → Int → Int) : Nat := 75
noncomputable def rxzDC287x14_4 : rx_Z := ([(0, 0), (0, 0), (0, 0), (0, 0), (0, 0), (0, 0), (0, 0), (0, 0)], [], [], 0, 0, 38, [(0, .inr (3, (0, 287))), (1, .inr (3, (0, 14)))], [])
noncomputable def rxIDC287x14_5 (S0 : Nat → Int → Int) (ws : List Int) (S : Nat → Int → Int) : Prop := S 287 0 = S0 14 0 ∧ (∀ j : Int, 0 ≤ j → j < 12 → S 288 j = S0 15 j) ∧ (∀ j : Int, 0 ≤ j → j < 12 → S 289 j = S0 16 j) ∧ (∀ (p : Nat) (j : Int), p ≠ 287 → p ≠ 288 → p ≠ 289 → S p j = S0 p j)
noncomputable def rxmDC287x14_5 (S0 : Nat → Int → Int) (ws : List Int) (S : Nat → Int → Int) : Nat := 70
noncomputable def rxzDC287x14_5 : rx_Z := ([(0, 0), (0, 0), (0, 0), (0, 0), (0, 0), (0, 0), (0, 0), (0, 0)], [], [], 0, 0, 50, [(0, .inr (3, (0, 287))), (1, .inr (3, (0, 14)))], [.inr (0, (0, 12)), .inr (0, (0, 0)), .inr (3, (0, 290)), .inr (0, (0, 0)), .inr (3, (0, 17))])
noncomputable def rxIDC287x14_6 (S0 : Nat → Int → Int) (ws : List Int) (S : Nat → Int → Int) : Prop := S 287 0 = S0 14 0 ∧ (∀ j : Int, 0 ≤ j → j < 12 → S 288 j = S0 15 j) ∧ (∀ j : Int, 0 ≤ j → j < 12 → S 289 j = S0 16 j) ∧ (∀ j : Int, 0 ≤ j → j < 12 → S 290 j = S0 17 j) ∧ (∀ (p : Nat) (j : Int), p ≠ 287 → p ≠ 288 → p ≠ 289 → p ≠ 290 → S p j = S0 p j)
noncomputable def rxmDC287x14_6 (S0 : Nat → Int → Int) (ws : List Int) (S : Nat → Int → Int) : Nat := 65
noncomputable def rxzDC287x14_6 : rx_Z := ([(0, 0), (0, 0), (0, 0), (0, 0), (0, 0), (0, 0), (0, 0), (0, 0)], [], [], 0, 0, 53, [(0, .inr (3, (0, 287))), (1, .inr (3, (0, 14)))], [])
noncomputable def rxoDC287x14_0_0 : bx_HO := (([(0, 0), (0, 0), (0, 0), (0, 0), (0, 0), (0, 0), (0, 0), (0, 0), (0, 12)], [], [(((0, 287), 1), .inr (3, (0, 288))), (((0, 14), 1), .inr (3, (0, 15))), (((0, 0), 1851192626986356797424340330377019318111018015026043177722642435000000), .inr (0, (8, 0))), (((0, 287), 0), .inr (0, (8, 0))), (((0, 0), 1851192626986356797424340330377019318111018015026043177561620480000000), .inr (0, (8, 0)))], 0, 0, 20, [(0, .inr (3, (0, 287))), (1, .inr (3, (0, 14)))], [.inr (0, (0, 12)), .inr (0, (0, 0)), .inr (3, (0, 288)), .inr (0, (0, 0)), .inr (3, (0, 15))]), [], [], [(0, 0), (0, 0), (0, 0), (0, 0), (0, 0), (0, 0), (0, 0), (0, 0)], 1)
noncomputable def rxoDC287x14_2_0 : bx_HO := (([(0, 0), (0, 0), (0, 0), (0, 0), (0, 0), (0, 0), (0, 0), (0, 0)], [], [(((0, 287), 2), .inr (3, (0, 289))), (((0, 14), 2), .inr (3, (0, 16)))], 0, 0, 35, [(0, .inr (3, (0, 287))), (1, .inr (3, (0, 14)))], [.inr (0, (0, 12)), .inr (0, (0, 0)), .inr (3, (0, 289)), .inr (0, (0, 0)), .inr (3, (0, 16))]), [], [], [(0, 0), (0, 0), (0, 0), (0, 0), (0, 0), (0, 0), (0, 0), (0, 0)], 3)
noncomputable def rxoDC287x14_4_0 : bx_HO := (([(0, 0), (0, 0), (0, 0), (0, 0), (0, 0), (0, 0), (0, 0), (0, 0)], [], [(((0, 287), 3), .inr (3, (0, 290))), (((0, 14), 3), .inr (3, (0, 17)))], 0, 0, 50, [(0, .inr (3, (0, 287))), (1, .inr (3, (0, 14)))], [.inr (0, (0, 12)), .inr (0, (0, 0)), .inr (3, (0, 290)), .inr (0, (0, 0)), .inr (3, (0, 17))]), [], [], [(0, 0), (0, 0), (0, 0), (0, 0), (0, 0), (0, 0), (0, 0), (0, 0)], 5)
noncomputable def rxeDC287x14_6_0 : rx_End × List (Nat × Int × Int) := (([(0, 0), (0, 0), (0, 0), (0, 0), (0, 0), (0, 0), (0, 0), (0, 0)], [], [], none), [])
noncomputable def rxYDC287x14 : List bx_HE := [(rxzDC287x14_0, [rxoDC287x14_0_0], []), (rxzDC287x14_1, [], []), (rxzDC287x14_2, [rxoDC287x14_2_0], []), (rxzDC287x14_3, [], []), (rxzDC287x14_4, [rxoDC287x14_4_0], []), (rxzDC287x14_5, [], []), (rxzDC287x14_6, [], [rxeDC287x14_6_0])]
noncomputable def rxUDC287x14 (q : bx_HE) : Bool := Nat.beq (rx_zpc q.1) 20 || Nat.beq (rx_zpc q.1) 35 || Nat.beq (rx_zpc q.1) 50
noncomputable def rxYBDC287x14 : bx_B := (rxV, rxNP, rxDmf, bx_mdH rxCDC287x14.2.2.1)
set_option maxRecDepth 100000 in
theorem rxYcDC287x14 : bx_chkH rxYBDC287x14 rxM109 rxCDC287x14 rxYDC287x14 (rxUDC287x14, fun cut z => rx_ex2 (rxCT rxYBDC287x14 rxCnE) cut 30000 rxCDC287x14.2.2.2.1 109 z) = true := by decide +kernel
noncomputable def rxIDC287x14 (S0 : Nat → Int → Int) (ws : List Int) (i : Nat) : bx_SP := fun S r => match i with | 0 => rxIDC287x14_0 S0 ws S | 1 => rxIDC287x14_1 S0 ws S | 2 => rxIDC287x14_2 S0 ws S | 3 => rxIDC287x14_3 S0 ws S | 4 => rxIDC287x14_4 S0 ws S | 5 => rxIDC287x14_5 S0 ws S | 6 => rxIDC287x14_6 S0 ws S | _ => False
noncomputable def rxmDC287x14 (S0 : Nat → Int → Int) (ws : List Int) (i : Nat) (S : Nat → Int → Int) (r : Nat → Int) : Nat := match i with | 0 => rxmDC287x14_0 S0 ws S | 1 => rxmDC287x14_1 S0 ws S | 2 => rxmDC287x14_2 S0 ws S | 3 => rxmDC287x14_3 S0 ws S | 4 => rxmDC287x14_4 S0 ws S | 5 => rxmDC287x14_5 S0 ws S | 6 => rxmDC287x14_6 S0 ws S | _ => 0
noncomputable def rxPDC287x14 (S0 : Nat → Int → Int) (ws : List Int) : Prop := True
noncomputable def rxPSDC287x14 (S0 : Nat → Int → Int) (ws : List Int) (S : Nat → Int → Int) (w : Option Int) : Prop := w = none ∧ S 287 0 = S0 14 0 ∧ (∀ j : Int, 0 ≤ j → j < 12 → S 288 j = S0 15 j) ∧ (∀ j : Int, 0 ≤ j → j < 12 → S 289 j = S0 16 j) ∧ (∀ j : Int, 0 ≤ j → j < 12 → S 290 j = S0 17 j) ∧ (∀ (p : Nat) (j : Int), p ≠ 287 → p ≠ 288 → p ≠ 289 → p ≠ 290 → S p j = S0 p j)
theorem rxtDC287x14_1 {S0 : Nat → Int → Int} {ws : List Int} {S : Nat → Int → Int} (hP : rxPDC287x14 S0 ws) (hin : bx_same rxL (bx_mdl rxCDC287x14.2.2.1) S0 S) (I0 : bx_Inv rxL S) (hinv : rxIDC287x14_1 S0 ws S)  : rxIDC287x14_2 S0 ws (bx_cpS S 15 288 12) ∧ rxmDC287x14_2 S0 ws (bx_cpS S 15 288 12) < rxmDC287x14_1 S0 ws S := by
  obtain ⟨h0, hf⟩ := hinv
  refine ⟨⟨?_, ?_, ?_⟩, by unfold rxmDC287x14_1 rxmDC287x14_2; omega⟩
  · rw [bx_cpS_ne (by decide)]; exact h0
  · intro j a b; rw [bx_cpS_in a b]; exact hf _ j (by decide)
  · intro p j n0 n1; rw [bx_cpS_ne n1]; exact hf p j n0
theorem rxsDC287x14_1 {X : (Nat → Int → Int) → Prop} {S0 : Nat → Int → Int} {ws : List Int} (hP : rxPDC287x14 S0 ws) (hX : ∀ S S1 : Nat → Int → Int, X S → bx_same rxL (bx_mdl rxCDC287x14.2.2.1) S S1 → X S1) : rx_obY X S0 rxCDC287x14.2.2.1 (rxIDC287x14 S0 ws) (rxmDC287x14 S0 ws) 1 2 rxzDC287x14_1 15 288 12 := by
  intro S r hinv hXS I0 hin hs_ hf_
  have b_ := bx_bds_sat hs_
  have f_ := bx_fcl_ok hs_.1 hf_
  have g := rxtDC287x14_1 hP hin I0 hinv 
  exact ⟨g.1, g.2, hX _ _ hXS (rx_same_cp (fun _ _ _ _ _ => rfl) (g1 := 11) rfl (by decide +kernel)), rx_same_cp hin (g1 := 11) rfl (by decide +kernel)⟩
theorem rxtDC287x14_3 {S0 : Nat → Int → Int} {ws : List Int} {S : Nat → Int → Int} (hP : rxPDC287x14 S0 ws) (hin : bx_same rxL (bx_mdl rxCDC287x14.2.2.1) S0 S) (I0 : bx_Inv rxL S) (hinv : rxIDC287x14_3 S0 ws S)  : rxIDC287x14_4 S0 ws (bx_cpS S 16 289 12) ∧ rxmDC287x14_4 S0 ws (bx_cpS S 16 289 12) < rxmDC287x14_3 S0 ws S := by
  obtain ⟨h0, h1, hf⟩ := hinv
  refine ⟨⟨?_, ?_, ?_, ?_⟩, by unfold rxmDC287x14_3 rxmDC287x14_4; omega⟩
  · rw [bx_cpS_ne (by decide)]; exact h0
  · intro j a b; rw [bx_cpS_ne (by decide)]; exact h1 j a b
  · intro j a b; rw [bx_cpS_in a b]; exact hf _ j (by decide) (by decide)
  · intro p j n0 n1 n2; rw [bx_cpS_ne n2]; exact hf p j n0 n1
theorem rxsDC287x14_3 {X : (Nat → Int → Int) → Prop} {S0 : Nat → Int → Int} {ws : List Int} (hP : rxPDC287x14 S0 ws) (hX : ∀ S S1 : Nat → Int → Int, X S → bx_same rxL (bx_mdl rxCDC287x14.2.2.1) S S1 → X S1) : rx_obY X S0 rxCDC287x14.2.2.1 (rxIDC287x14 S0 ws) (rxmDC287x14 S0 ws) 3 4 rxzDC287x14_3 16 289 12 := by
  intro S r hinv hXS I0 hin hs_ hf_
  have b_ := bx_bds_sat hs_
  have f_ := bx_fcl_ok hs_.1 hf_
  have g := rxtDC287x14_3 hP hin I0 hinv 
  exact ⟨g.1, g.2, hX _ _ hXS (rx_same_cp (fun _ _ _ _ _ => rfl) (g1 := 12) rfl (by decide +kernel)), rx_same_cp hin (g1 := 12) rfl (by decide +kernel)⟩
theorem rxtDC287x14_5 {S0 : Nat → Int → Int} {ws : List Int} {S : Nat → Int → Int} (hP : rxPDC287x14 S0 ws) (hin : bx_same rxL (bx_mdl rxCDC287x14.2.2.1) S0 S) (I0 : bx_Inv rxL S) (hinv : rxIDC287x14_5 S0 ws S)  : rxIDC287x14_6 S0 ws (bx_cpS S 17 290 12) ∧ rxmDC287x14_6 S0 ws (bx_cpS S 17 290 12) < rxmDC287x14_5 S0 ws S := by
  obtain ⟨h0, h1, h2, hf⟩ := hinv
  refine ⟨⟨?_, ?_, ?_, ?_, ?_⟩, by unfold rxmDC287x14_5 rxmDC287x14_6; omega⟩
  · rw [bx_cpS_ne (by decide)]; exact h0
  · intro j a b; rw [bx_cpS_ne (by decide)]; exact h1 j a b
  · intro j a b; rw [bx_cpS_ne (by decide)]; exact h2 j a b
  · intro j a b; rw [bx_cpS_in a b]; exact hf _ j (by decide) (by decide) (by decide)
  · intro p j n0 n1 n2 n3; rw [bx_cpS_ne n3]; exact hf p j n0 n1 n2
theorem rxsDC287x14_5 {X : (Nat → Int → Int) → Prop} {S0 : Nat → Int → Int} {ws : List Int} (hP : rxPDC287x14 S0 ws) (hX : ∀ S S1 : Nat → Int → Int, X S → bx_same rxL (bx_mdl rxCDC287x14.2.2.1) S S1 → X S1) : rx_obY X S0 rxCDC287x14.2.2.1 (rxIDC287x14 S0 ws) (rxmDC287x14 S0 ws) 5 6 rxzDC287x14_5 17 290 12 := by
  intro S r hinv hXS I0 hin hs_ hf_
  have b_ := bx_bds_sat hs_
  have f_ := bx_fcl_ok hs_.1 hf_
  have g := rxtDC287x14_5 hP hin I0 hinv 
  exact ⟨g.1, g.2, hX _ _ hXS (rx_same_cp (fun _ _ _ _ _ => rfl) (g1 := 13) rfl (by decide +kernel)), rx_same_cp hin (g1 := 13) rfl (by decide +kernel)⟩
theorem rxcDC287x14_0_0 {S0 : Nat → Int → Int} {ws : List Int} {S : Nat → Int → Int} {x8 : Int} (hP : rxPDC287x14 S0 ws) (hin : bx_same rxL (bx_mdl rxCDC287x14.2.2.1) S0 S) (I0 : bx_Inv rxL S) (hinv : rxIDC287x14_0 S0 ws S) (l8 : 0 ≤ x8) (u8 : x8 ≤ 12) (e1 : S 14 0 = x8) : (True) ∧ (True) ∧ rxIDC287x14_1 S0 ws (bx_up S 287 0 x8) ∧ rxmDC287x14_1 S0 ws (bx_up S 287 0 x8) < rxmDC287x14_0 S0 ws S := by
  obtain ⟨rfl, hw⟩ := hinv
  exact ⟨trivial, trivial, ⟨by rw [bx_up_at]; exact e1.symm, fun p j n0 => congrFun (bx_up_row n0) j⟩, by unfold rxmDC287x14_0 rxmDC287x14_1; omega⟩
theorem rxgDC287x14_0_0 {X : (Nat → Int → Int) → Prop} {S0 : Nat → Int → Int} {ws : List Int} (hP : rxPDC287x14 S0 ws) : bx_obC rxL X S0 rxCDC287x14.2.2.1 (rxIDC287x14 S0 ws) (rxmDC287x14 S0 ws) 0 rxzDC287x14_0 rxoDC287x14_0_0 := by
  intro S S_p r r_p hinv hX hin hsm_ hseg
  obtain ⟨I0, I1, h0_, hr_, b_, f_, d_⟩ := bx_cl (evs := [(1, (0, 287), (0, 0), .inr (0, (8, 0))), (0, (0, 14), (0, 0), .inr (0, (8, 0)))]) (fvs := []) hseg (by decide +kernel) (by decide +kernel)
  have hinv : rxIDC287x14_0 S0 ws S := hinv
  obtain ⟨⟨l8, u8⟩, -⟩ := b_
  obtain ⟨T0, ⟨e1, w_⟩, w0⟩ := d_
  subst w0
  subst w_
  have g := rxcDC287x14_0_0 hP hin I0 hinv l8 u8 e1
  refine ⟨bx_narP_ok (l := []) g.1, bx_nfP_ok h0_ (fvs := []) (by decide +kernel) g.2.1, ?_, ?_⟩
  · show rxIDC287x14_1 S0 ws (bx_up T0 287 (0) (r_p 8))
    exact g.2.2.1
  · show rxmDC287x14_1 S0 ws (bx_up T0 287 (0) (r_p 8)) < rxmDC287x14_0 S0 ws T0
    exact g.2.2.2
theorem rxcDC287x14_2_0 {S0 : Nat → Int → Int} {ws : List Int} {S : Nat → Int → Int} (hP : rxPDC287x14 S0 ws) (hin : bx_same rxL (bx_mdl rxCDC287x14.2.2.1) S0 S) (I0 : bx_Inv rxL S) (hinv : rxIDC287x14_2 S0 ws S)  : (True) ∧ (True) ∧ rxIDC287x14_3 S0 ws S ∧ rxmDC287x14_3 S0 ws S < rxmDC287x14_2 S0 ws S := by
  exact ⟨trivial, trivial, hinv, by unfold rxmDC287x14_2 rxmDC287x14_3; omega⟩
theorem rxgDC287x14_2_0 {X : (Nat → Int → Int) → Prop} {S0 : Nat → Int → Int} {ws : List Int} (hP : rxPDC287x14 S0 ws) : bx_obC rxL X S0 rxCDC287x14.2.2.1 (rxIDC287x14 S0 ws) (rxmDC287x14 S0 ws) 2 rxzDC287x14_2 rxoDC287x14_2_0 := by
  intro S S_p r r_p hinv hX hin hsm_ hseg
  obtain ⟨I0, I1, h0_, hr_, b_, f_, d_⟩ := bx_cl (evs := []) (fvs := []) hseg (by decide +kernel) (by decide +kernel)
  have hinv : rxIDC287x14_2 S0 ws S := hinv
  have w_ := d_
  subst w_
  have g := rxcDC287x14_2_0 hP hin I0 hinv 
  refine ⟨bx_narP_ok (l := []) g.1, bx_nfP_ok h0_ (fvs := []) (by decide +kernel) g.2.1, ?_, ?_⟩
  · show rxIDC287x14_3 S0 ws S_p
    exact g.2.2.1
  · show rxmDC287x14_3 S0 ws S_p < rxmDC287x14_2 S0 ws S_p
    exact g.2.2.2
theorem rxcDC287x14_4_0 {S0 : Nat → Int → Int} {ws : List Int} {S : Nat → Int → Int} (hP : rxPDC287x14 S0 ws) (hin : bx_same rxL (bx_mdl rxCDC287x14.2.2.1) S0 S) (I0 : bx_Inv rxL S) (hinv : rxIDC287x14_4 S0 ws S)  : (True) ∧ (True) ∧ rxIDC287x14_5 S0 ws S ∧ rxmDC287x14_5 S0 ws S < rxmDC287x14_4 S0 ws S := by
  exact ⟨trivial, trivial, hinv, by unfold rxmDC287x14_4 rxmDC287x14_5; omega⟩
theorem rxgDC287x14_4_0 {X : (Nat → Int → Int) → Prop} {S0 : Nat → Int → Int} {ws : List Int} (hP : rxPDC287x14 S0 ws) : bx_obC rxL X S0 rxCDC287x14.2.2.1 (rxIDC287x14 S0 ws) (rxmDC287x14 S0 ws) 4 rxzDC287x14_4 rxoDC287x14_4_0 := by
  intro S S_p r r_p hinv hX hin hsm_ hseg
  obtain ⟨I0, I1, h0_, hr_, b_, f_, d_⟩ := bx_cl (evs := []) (fvs := []) hseg (by decide +kernel) (by decide +kernel)
  have hinv : rxIDC287x14_4 S0 ws S := hinv
  have w_ := d_
  subst w_
  have g := rxcDC287x14_4_0 hP hin I0 hinv 
  refine ⟨bx_narP_ok (l := []) g.1, bx_nfP_ok h0_ (fvs := []) (by decide +kernel) g.2.1, ?_, ?_⟩
  · show rxIDC287x14_5 S0 ws S_p
    exact g.2.2.1
  · show rxmDC287x14_5 S0 ws S_p < rxmDC287x14_4 S0 ws S_p
    exact g.2.2.2
theorem rxdDC287x14_6_0 {S0 : Nat → Int → Int} {ws : List Int} {S : Nat → Int → Int} (hP : rxPDC287x14 S0 ws) (hin : bx_same rxL (bx_mdl rxCDC287x14.2.2.1) S0 S) (hin2 : bx_same rxL (bx_mdl rxCDC287x14.2.2.1) S S) (I0 : bx_Inv rxL S) (I1 : bx_Inv rxL S) (hinv : rxIDC287x14_6 S0 ws S)  : (True) ∧ rxPSDC287x14 S0 ws S none := by
  exact ⟨trivial, rfl, hinv⟩
theorem rxfDC287x14_6_0 {X : (Nat → Int → Int) → Prop} {S0 : Nat → Int → Int} {ws : List Int} (hP : rxPDC287x14 S0 ws) : bx_obE rxL X S0 rxCDC287x14.2.2.1 (rxIDC287x14 S0 ws) (rxPSDC287x14 S0 ws) 6 rxzDC287x14_6 rxeDC287x14_6_0 := by
  intro S S_p r r_p hinv hX hin hsm_ hseg
  obtain ⟨I0, I1, h0_, hr_, b_, f_, d_⟩ := bx_cl (evs := []) (fvs := []) hseg (by decide +kernel) (by decide +kernel)
  have hinv : rxIDC287x14_6 S0 ws S := hinv
  have w_ := d_
  subst w_
  have g := rxdDC287x14_6_0 hP hin hsm_ I0 I1 hinv 
  refine ⟨bx_narP_ok (l := []) g.1, ?_⟩
  exact g.2
theorem rxgCDC287x14 {X : (Nat → Int → Int) → Prop} {S0 : Nat → Int → Int} {ws : List Int} (hP : rxPDC287x14 S0 ws) : bx_allI (fun i q => rxUDC287x14 q = true ∨ bx_allP (fun o => bx_obC rxL X S0 rxCDC287x14.2.2.1 (rxIDC287x14 S0 ws) (rxmDC287x14 S0 ws) i q.1 o) q.2.1) 0 rxYDC287x14 := ⟨Or.inr ⟨rxgDC287x14_0_0 hP, trivial⟩, Or.inl rfl, Or.inr ⟨rxgDC287x14_2_0 hP, trivial⟩, Or.inl rfl, Or.inr ⟨rxgDC287x14_4_0 hP, trivial⟩, Or.inl rfl, Or.inr trivial, trivial⟩
theorem rxgEDC287x14 {X : (Nat → Int → Int) → Prop} {S0 : Nat → Int → Int} {ws : List Int} (hP : rxPDC287x14 S0 ws) : bx_allI (fun i q => rxUDC287x14 q = true ∨ bx_allP (fun E => bx_obE rxL X S0 rxCDC287x14.2.2.1 (rxIDC287x14 S0 ws) (rxPSDC287x14 S0 ws) i q.1 E) q.2.2) 0 rxYDC287x14 := ⟨Or.inr trivial, Or.inl rfl, Or.inr trivial, Or.inl rfl, Or.inr trivial, Or.inl rfl, Or.inr ⟨rxfDC287x14_6_0 hP, trivial⟩, trivial⟩
theorem rxuDC287x14 {PX : State → Prop} {Dg : va_G} {A : Nat → Prop} {ad xa : Nat → Nat} {l : Launch} {X : (Nat → Int → Int) → Prop} (hPX : rx_PXOK rxNW A PX) (hX : ∀ S S1 : Nat → Int → Int, X S → bx_same rxL (bx_mdl rxCDC287x14.2.2.1) S S1 → X S1) {S0 : Nat → Int → Int} {ws : List Int} (hP : rxPDC287x14 S0 ws) : ∀ (i : Nat) (q : bx_HE), rxYDC287x14[i]? = some q → rxUDC287x14 q = true → ∀ {p : Program} {e : Env} {R : Room} {s : State} {m : MethodId} {args : Array Value} {below : List Frame} {meth : Method} {c : Code} {Q : State → Prop} {H0 : Heap}, rx_Fr rxG rxNW rxAO PX p s m args meth c rxM109 → (∀ q, H0.size ≤ q → A q) → H0 = s.heap → rxM109.2.2.2.2.2.2.1 ≤ R.cells → rxM109.2.2.2.2.2.2.2 ≤ R.slots → rxCDC287x14.2.2.2.1 ≤ R.frames → rxCDC287x14.2.2.2.1 * 40 ≤ R.locals → bx_Step p l e R s m args below meth c Q Dg rxL X vwCl A xa H0 ad rxM109 rxYDC287x14 (rxIDC287x14 S0 ws) (rxmDC287x14 S0 ws) S0 rxCDC287x14.2.2.1 i q := by
  intro i q hq hus p e R s m args below meth c Q H0 hF hA hH0 hmc hms hd hdl
  match i, hq with
  | 0, hq =>
    cases hq
    exact absurd (show false = true from hus) Bool.false_ne_true
  | 1, hq =>
    cases hq
    exact rx_stepY (i_p := 2) (idx := 28) (P0 := 15) (P1 := 288) (n := 12) (g0 := 11) (g1 := 11) (t := []) hF rfl (Nat.le_trans (by decide) hd) (Nat.le_trans (by decide) hdl) (by decide +kernel) (by decide +kernel) rfl rfl (by decide) (by decide) rfl rfl (by decide) (by decide) rfl rfl (by decide) (by decide) rfl rfl (rxsDC287x14_1 hP hX)
  | 2, hq =>
    cases hq
    exact absurd (show false = true from hus) Bool.false_ne_true
  | 3, hq =>
    cases hq
    exact rx_stepY (i_p := 4) (idx := 28) (P0 := 16) (P1 := 289) (n := 12) (g0 := 12) (g1 := 12) (t := []) hF rfl (Nat.le_trans (by decide) hd) (Nat.le_trans (by decide) hdl) (by decide +kernel) (by decide +kernel) rfl rfl (by decide) (by decide) rfl rfl (by decide) (by decide) rfl rfl (by decide) (by decide) rfl rfl (rxsDC287x14_3 hP hX)
  | 4, hq =>
    cases hq
    exact absurd (show false = true from hus) Bool.false_ne_true
  | 5, hq =>
    cases hq
    exact rx_stepY (i_p := 6) (idx := 28) (P0 := 17) (P1 := 290) (n := 12) (g0 := 13) (g1 := 13) (t := []) hF rfl (Nat.le_trans (by decide) hd) (Nat.le_trans (by decide) hdl) (by decide +kernel) (by decide +kernel) rfl rfl (by decide) (by decide) rfl rfl (by decide) (by decide) rfl rfl (by decide) (by decide) rfl rfl (rxsDC287x14_5 hP hX)
  | 6, hq =>
    cases hq
    exact absurd (show false = true from hus) Bool.false_ne_true
  | n + 7, hq => cases hq
theorem rxQDC287x14 {PX : State → Prop} {Dg : va_G} {A : Nat → Prop} {ad xa : Nat → Nat} {l : Launch} {X : (Nat → Int → Int) → Prop} (hPX : rx_PXOK rxNW A PX) (hsl : ∀ s : State, PX s → ∀ o idx n : Nat, rxSl o idx = some n → ∃ tx : String, vk_R (rxNm o) idx tx (ad n) s)
    (hX : ∀ S S_p : Nat → Int → Int, X S → bx_same rxL (bx_mdl rxCDC287x14.2.2.1) S S_p → X S_p)
    (ih : ∀ (j2 : Nat) (ct2 : bx_Ct) (M2 : rx_Mt), ct2 ∈ rxCnE j2 → ct2.2.2.2.1 + 1 ≤ rxCDC287x14.2.2.2.1 → rxT.2.2.2.2.2 j2 = some M2 → bx_Con rxG rxNW rxAO PX Dg rxL X vwCl A ad l M2 ct2) : bx_ConP rxG rxNW rxAO PX Dg rxL X vwCl A ad l rxM109 rxCDC287x14 rxPDC287x14 rxPSDC287x14 :=
  rxQof (xa := xa) (Cn := rxCnE) (f := 30000) (j := 109) (tab := rxYDC287x14) (us := rxUDC287x14) hPX hsl hX ih rfl rxYcDC287x14 rxIDC287x14 rxmDC287x14
    (fun S0 ws r I0 I ht0 ht as he he1 hX0 hI0 hP hs ha => by
      have e := he.symm.trans (show bx_ent0 rxNP rxCDC287x14.1 bx_I0 [] = some ([(0, 0), (0, 0), (0, 0), (0, 0), (0, 0), (0, 0), (0, 0), (0, 0)], [], [.inr (3, (0, 287)), .inr (3, (0, 14))]) from rfl)
      cases e
      subst ha
      have h0 : r 0 = 0 := hs.1
      show rxIDC287x14_0 S0 _ S0
      refine ⟨rfl, ?_⟩
      simp only [List.map_cons, List.map_nil, bx_xv_ok h0]
      rfl)
    (fun S0 ws hP => rxuDC287x14 (xa := xa) hPX hX hP) (fun S0 ws hP => rxgCDC287x14 hP) (fun S0 ws hP => rxgEDC287x14 hP)
end
