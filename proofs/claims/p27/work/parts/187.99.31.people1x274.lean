section
noncomputable def rxCPC5x278 : bx_Ct := ([(3, (1, 5, 0)), (3, (1, 278, 0))], none, [(5, 0), (1003, 0), (1004, 0), (1005, 0)], 1, [])
noncomputable def rxIPC5x278_0 (S0 : Nat → Int → Int) (ws : List Int) (S : Nat → Int → Int) : Prop := S = S0 ∧ ws = [5, 278]
noncomputable def rxmPC5x278_0 (S0 : Nat → Int → Int) (ws : List Int) (S : Nat → Int → Int) : Nat := 100
noncomputable def rxzPC5x278_0 : rx_Z := ([(0, 0), (0, 0), (0, 0), (0, 0), (0, 0), (0, 0), (0, 0), (0, 0)], [], [], 0, 0, 0, [(0, .inr (3, (0, 5))), (1, .inr (3, (0, 278)))], [])
noncomputable def rxIPC5x278_1 (S0 : Nat → Int → Int) (ws : List Int) (S : Nat → Int → Int) : Prop := S 5 0 = S0 278 0 ∧ (∀ (p : Nat) (j : Int), p ≠ 5 → S p j = S0 p j)
noncomputable def rxmPC5x278_1 (S0 : Nat → Int → Int) (ws : List Int) (S : Nat → Int → Int) : Nat := 90
noncomputable def rxzPC5x278_1 : rx_Z := ([(0, 0), (0, 0), (0, 0), (0, 0), (0, 0), (0, 0), (0, 0), (0, 0)], [], [], 0, 0, 20, [(0, .inr (3, (0, 5))), (1, .inr (3, (0, 278)))], [.inr (0, (0, 8)), .inr (0, (0, 0)), .inr (3, (0, 6)), .inr (0, (0, 0)), .inr (3, (0, 279))])
noncomputable def rxIPC5x278_2 (S0 : Nat → Int → Int) (ws : List Int) (S : Nat → Int → Int) : Prop := S 5 0 = S0 278 0 ∧ (∀ j : Int, 0 ≤ j → j < 8 → S 6 j = S0 279 j) ∧ (∀ (p : Nat) (j : Int), p ≠ 5 → p ≠ 6 → S p j = S0 p j)
noncomputable def rxmPC5x278_2 (S0 : Nat → Int → Int) (ws : List Int) (S : Nat → Int → Int) : Nat := 85
noncomputable def rxzPC5x278_2 : rx_Z := ([(0, 0), (0, 0), (0, 0), (0, 0), (0, 0), (0, 0), (0, 0), (0, 0)], [], [], 0, 0, 23, [(0, .inr (3, (0, 5))), (1, .inr (3, (0, 278)))], [])
noncomputable def rxIPC5x278_3 (S0 : Nat → Int → Int) (ws : List Int) (S : Nat → Int → Int) : Prop := S 5 0 = S0 278 0 ∧ (∀ j : Int, 0 ≤ j → j < 8 → S 6 j = S0 279 j) ∧ (∀ (p : Nat) (j : Int), p ≠ 5 → p ≠ 6 → S p j = S0 p j)
noncomputable def rxmPC5x278_3 (S0 : Nat → Int → Int) (ws : List Int) (S : Nat → Int → Int) : Nat := 80
noncomputable def rxzPC5x278_3 : rx_Z := ([(0, 0), (0, 0), (0, 0), (0, 0), (0, 0), (0, 0), (0, 0), (0, 0)], [], [], 0, 0, 35, [(0, .inr (3, (0, 5))), (1, .inr (3, (0, 278)))], [.inr (0, (0, 8)), .inr (0, (0, 0)), .inr (3, (0, 7)), .inr (0, (0, 0)), .inr (3, (0, 280))])
noncomputable def rxIPC5x278_4 (S0 : Nat → Int → Int) (ws : List Int) (S : Nat → Int → Int) : Prop := S 5 0 = S0 278 0 ∧ (∀ j : Int, 0 ≤ j → j < 8 → S 6 j = S0 279 j) ∧ (∀ j : Int, 0 ≤ j → j < 8 → S 7 j = S0 280 j) ∧ (∀ (p : Nat) (j : Int), p ≠ 5 → p ≠ 6 → p ≠ 7 → S p j = S0 p j)
noncomputable def rxmPC5x278_4 (S0 : Nat → Int → Int) (ws : List Int) (S : Nat → Int → Int) : Nat := 75
noncomputable def rxzPC5x278_4 : rx_Z := ([(0, 0), (0, 0), (0, 0), (0, 0), (0, 0), (0, 0), (0, 0), (0, 0)], [], [], 0, 0, 38, [(0, .inr (3, (0, 5))), (1, .inr (3, (0, 278)))], [])
noncomputable def rxIPC5x278_5 (S0 : Nat → Int → Int) (ws : List Int) (S : Nat → Int → Int) : Prop := S 5 0 = S0 278 0 ∧ (∀ j : Int, 0 ≤ j → j < 8 → S 6 j = S0 279 j) ∧ (∀ j : Int, 0 ≤ j → j < 8 → S 7 j = S0 280 j) ∧ (∀ (p : Nat) (j : Int), p ≠ 5 → p ≠ 6 → p ≠ 7 → S p j = S0 p j)
noncomputable def rxmPC5x278_5 (S0 : Nat → Int → Int) (ws : List Int) (S : Nat → Int → Int) : Nat := 70
noncomputable def rxzPC5x278_5 : rx_Z := ([(0, 0), (0, 0), (0, 0), (0, 0), (0, 0), (0, 0), (0, 0), (0, 0)], [], [], 0, 0, 50, [(0, .inr (3, (0, 5))), (1, .inr (3, (0, 278)))], [.inr (0, (0, 8)), .inr (0, (0, 0)), .inr (3, (0, 8)), .inr (0, (0, 0)), .inr (3, (0, 281))])
noncomputable def rxIPC5x278_6 (S0 : Nat → Int → Int) (ws : List Int) (S : Nat → Int → Int) : Prop := S 5 0 = S0 278 0 ∧ (∀ j : Int, 0 ≤ j → j < 8 → S 6 j = S0 279 j) ∧ (∀ j : Int, 0 ≤ j → j < 8 → S 7 j = S0 280 j) ∧ (∀ j : Int, 0 ≤ j → j < 8 → S 8 j = S0 281 j) ∧ (∀ (p : Nat) (j : Int), p ≠ 5 → p ≠ 6 → p ≠ 7 → p ≠ 8 → S p j = S0 p j)
noncomputable def rxmPC5x278_6 (S0 : Nat → Int → Int) (ws : List Int) (S : Nat → Int → Int) : Nat := 65
noncomputable def rxzPC5x278_6 : rx_Z := ([(0, 0), (0, 0), (0, 0), (0, 0), (0, 0), (0, 0), (0, 0), (0, 0)], [], [], 0, 0, 53, [(0, .inr (3, (0, 5))), (1, .inr (3, (0, 278)))], [])
noncomputable def rxoPC5x278_0_0 : bx_HO := (([(0, 0), (0, 0), (0, 0), (0, 0), (0, 0), (0, 0), (0, 0), (0, 0), (0, 8)], [], [(((0, 5), 1), .inr (3, (0, 6))), (((0, 278), 1), .inr (3, (0, 279))), (((0, 0), 1851192626986356797424340330377019318111018015026043177556312067000000), .inr (0, (8, 0))), (((0, 5), 0), .inr (0, (8, 0))), (((0, 0), 1851192626986356797424340330377019318111018015026043177717334016000000), .inr (0, (8, 0)))], 0, 0, 20, [(0, .inr (3, (0, 5))), (1, .inr (3, (0, 278)))], [.inr (0, (0, 8)), .inr (0, (0, 0)), .inr (3, (0, 6)), .inr (0, (0, 0)), .inr (3, (0, 279))]), [], [], [(0, 0), (0, 0), (0, 0), (0, 0), (0, 0), (0, 0), (0, 0), (0, 0)], 1)
noncomputable def rxoPC5x278_2_0 : bx_HO := (([(0, 0), (0, 0), (0, 0), (0, 0), (0, 0), (0, 0), (0, 0), (0, 0)], [], [(((0, 5), 2), .inr (3, (0, 7))), (((0, 278), 2), .inr (3, (0, 280)))], 0, 0, 35, [(0, .inr (3, (0, 5))), (1, .inr (3, (0, 278)))], [.inr (0, (0, 8)), .inr (0, (0, 0)), .inr (3, (0, 7)), .inr (0, (0, 0)), .inr (3, (0, 280))]), [], [], [(0, 0), (0, 0), (0, 0), (0, 0), (0, 0), (0, 0), (0, 0), (0, 0)], 3)
noncomputable def rxoPC5x278_4_0 : bx_HO := (([(0, 0), (0, 0), (0, 0), (0, 0), (0, 0), (0, 0), (0, 0), (0, 0)], [], [(((0, 5), 3), .inr (3, (0, 8))), (((0, 278), 3), .inr (3, (0, 281)))], 0, 0, 50, [(0, .inr (3, (0, 5))), (1, .inr (3, (0, 278)))], [.inr (0, (0, 8)), .inr (0, (0, 0)), .inr (3, (0, 8)), .inr (0, (0, 0)), .inr (3, (0, 281))]), [], [], [(0, 0), (0, 0), (0, 0), (0, 0), (0, 0), (0, 0), (0, 0), (0, 0)], 5)
noncomputable def rxePC5x278_6_0 : rx_End × List (Nat × Int × Int) := (([(0, 0), (0, 0), (0, 0), (0, 0), (0, 0), (0, 0), (0, 0), (0, 0)], [], [], none), [])
noncomputable def rxYPC5x278 : List bx_HE := [(rxzPC5x278_0, [rxoPC5x278_0_0], []), (rxzPC5x278_1, [], []), (rxzPC5x278_2, [rxoPC5x278_2_0], []), (rxzPC5x278_3, [], []), (rxzPC5x278_4, [rxoPC5x278_4_0], []), (rxzPC5x278_5, [], []), (rxzPC5x278_6, [], [rxePC5x278_6_0])]
noncomputable def rxUPC5x278 (q : bx_HE) : Bool := Nat.beq (rx_zpc q.1) 20 || Nat.beq (rx_zpc q.1) 35 || Nat.beq (rx_zpc q.1) 50
noncomputable def rxYBPC5x278 : bx_B := (rxV, rxNP, rxDmf, bx_mdH rxCPC5x278.2.2.1)
set_option maxRecDepth 100000 in
theorem rxYcPC5x278 : bx_chkH rxYBPC5x278 rxM108 rxCPC5x278 rxYPC5x278 (rxUPC5x278, fun cut z => rx_ex2 (rxCT rxYBPC5x278 rxCnE) cut 30000 rxCPC5x278.2.2.2.1 108 z) = true := by decide +kernel
noncomputable def rxIPC5x278 (S0 : Nat → Int → Int) (ws : List Int) (i : Nat) : bx_SP := fun S r => match i with | 0 => rxIPC5x278_0 S0 ws S | 1 => rxIPC5x278_1 S0 ws S | 2 => rxIPC5x278_2 S0 ws S | 3 => rxIPC5x278_3 S0 ws S | 4 => rxIPC5x278_4 S0 ws S | 5 => rxIPC5x278_5 S0 ws S | 6 => rxIPC5x278_6 S0 ws S | _ => False
noncomputable def rxmPC5x278 (S0 : Nat → Int → Int) (ws : List Int) (i : Nat) (S : Nat → Int → Int) (r : Nat → Int) : Nat := match i with | 0 => rxmPC5x278_0 S0 ws S | 1 => rxmPC5x278_1 S0 ws S | 2 => rxmPC5x278_2 S0 ws S | 3 => rxmPC5x278_3 S0 ws S | 4 => rxmPC5x278_4 S0 ws S | 5 => rxmPC5x278_5 S0 ws S | 6 => rxmPC5x278_6 S0 ws S | _ => 0
noncomputable def rxPPC5x278 (S0 : Nat → Int → Int) (ws : List Int) : Prop := True
noncomputable def rxPSPC5x278 (S0 : Nat → Int → Int) (ws : List Int) (S : Nat → Int → Int) (w : Option Int) : Prop := w = none ∧ S 5 0 = S0 278 0 ∧ (∀ j : Int, 0 ≤ j → j < 8 → S 6 j = S0 279 j) ∧ (∀ j : Int, 0 ≤ j → j < 8 → S 7 j = S0 280 j) ∧ (∀ j : Int, 0 ≤ j → j < 8 → S 8 j = S0 281 j) ∧ (∀ (p : Nat) (j : Int), p ≠ 5 → p ≠ 6 → p ≠ 7 → p ≠ 8 → S p j = S0 p j)
theorem rxtPC5x278_1 {S0 : Nat → Int → Int} {ws : List Int} {S : Nat → Int → Int} (hP : rxPPC5x278 S0 ws) (hin : bx_same rxL (bx_mdl rxCPC5x278.2.2.1) S0 S) (I0 : bx_Inv rxL S) (hinv : rxIPC5x278_1 S0 ws S)  : rxIPC5x278_2 S0 ws (bx_cpS S 279 6 8) ∧ rxmPC5x278_2 S0 ws (bx_cpS S 279 6 8) < rxmPC5x278_1 S0 ws S := by
  obtain ⟨h0, hf⟩ := hinv
  refine ⟨⟨?_, ?_, ?_⟩, by unfold rxmPC5x278_1 rxmPC5x278_2; omega⟩
  · rw [bx_cpS_ne (by decide)]; exact h0
  · intro j a b; rw [bx_cpS_in a b]; exact hf _ j (by decide)
  · intro p j n0 n1; rw [bx_cpS_ne n1]; exact hf p j n0
theorem rxsPC5x278_1 {X : (Nat → Int → Int) → Prop} {S0 : Nat → Int → Int} {ws : List Int} (hP : rxPPC5x278 S0 ws) (hX : ∀ S S1 : Nat → Int → Int, X S → bx_same rxL (bx_mdl rxCPC5x278.2.2.1) S S1 → X S1) : rx_obY X S0 rxCPC5x278.2.2.1 (rxIPC5x278 S0 ws) (rxmPC5x278 S0 ws) 1 2 rxzPC5x278_1 279 6 8 := by
  intro S r hinv hXS I0 hin hs_ hf_
  have b_ := bx_bds_sat hs_
  have f_ := bx_fcl_ok hs_.1 hf_
  have g := rxtPC5x278_1 hP hin I0 hinv 
  exact ⟨g.1, g.2, hX _ _ hXS (rx_same_cp (fun _ _ _ _ _ => rfl) (g1 := 3) rfl (by decide +kernel)), rx_same_cp hin (g1 := 3) rfl (by decide +kernel)⟩
theorem rxtPC5x278_3 {S0 : Nat → Int → Int} {ws : List Int} {S : Nat → Int → Int} (hP : rxPPC5x278 S0 ws) (hin : bx_same rxL (bx_mdl rxCPC5x278.2.2.1) S0 S) (I0 : bx_Inv rxL S) (hinv : rxIPC5x278_3 S0 ws S)  : rxIPC5x278_4 S0 ws (bx_cpS S 280 7 8) ∧ rxmPC5x278_4 S0 ws (bx_cpS S 280 7 8) < rxmPC5x278_3 S0 ws S := by
  obtain ⟨h0, h1, hf⟩ := hinv
  refine ⟨⟨?_, ?_, ?_, ?_⟩, by unfold rxmPC5x278_3 rxmPC5x278_4; omega⟩
  · rw [bx_cpS_ne (by decide)]; exact h0
  · intro j a b; rw [bx_cpS_ne (by decide)]; exact h1 j a b
  · intro j a b; rw [bx_cpS_in a b]; exact hf _ j (by decide) (by decide)
  · intro p j n0 n1 n2; rw [bx_cpS_ne n2]; exact hf p j n0 n1
theorem rxsPC5x278_3 {X : (Nat → Int → Int) → Prop} {S0 : Nat → Int → Int} {ws : List Int} (hP : rxPPC5x278 S0 ws) (hX : ∀ S S1 : Nat → Int → Int, X S → bx_same rxL (bx_mdl rxCPC5x278.2.2.1) S S1 → X S1) : rx_obY X S0 rxCPC5x278.2.2.1 (rxIPC5x278 S0 ws) (rxmPC5x278 S0 ws) 3 4 rxzPC5x278_3 280 7 8 := by
  intro S r hinv hXS I0 hin hs_ hf_
  have b_ := bx_bds_sat hs_
  have f_ := bx_fcl_ok hs_.1 hf_
  have g := rxtPC5x278_3 hP hin I0 hinv 
  exact ⟨g.1, g.2, hX _ _ hXS (rx_same_cp (fun _ _ _ _ _ => rfl) (g1 := 4) rfl (by decide +kernel)), rx_same_cp hin (g1 := 4) rfl (by decide +kernel)⟩
theorem rxtPC5x278_5 {S0 : Nat → Int → Int} {ws : List Int} {S : Nat → Int → Int} (hP : rxPPC5x278 S0 ws) (hin : bx_same rxL (bx_mdl rxCPC5x278.2.2.1) S0 S) (I0 : bx_Inv rxL S) (hinv : rxIPC5x278_5 S0 ws S)  : rxIPC5x278_6 S0 ws (bx_cpS S 281 8 8) ∧ rxmPC5x278_6 S0 ws (bx_cpS S 281 8 8) < rxmPC5x278_5 S0 ws S := by
  obtain ⟨h0, h1, h2, hf⟩ := hinv
  refine ⟨⟨?_, ?_, ?_, ?_, ?_⟩, by unfold rxmPC5x278_5 rxmPC5x278_6; omega⟩
  · rw [bx_cpS_ne (by decide)]; exact h0
  · intro j a b; rw [bx_cpS_ne (by decide)]; exact h1 j a b
  · intro j a b; rw [bx_cpS_ne (by decide)]; exact h2 j a b
  · intro j a b; rw [bx_cpS_in a b]; exact hf _ j (by decide) (by decide) (by decide)
  · intro p j n0 n1 n2 n3; rw [bx_cpS_ne n3]; exact hf p j n0 n1 n2
theorem rxsPC5x278_5 {X : (Nat → Int → Int) → Prop} {S0 : Nat → Int → Int} {ws : List Int} (hP : rxPPC5x278 S0 ws) (hX : ∀ S S1 : Nat → Int → Int, X S → bx_same rxL (bx_mdl rxCPC5x278.2.2.1) S S1 → X S1) : rx_obY X S0 rxCPC5x278.2.2.1 (rxIPC5x278 S0 ws) (rxmPC5x278 S0 ws) 5 6 rxzPC5x278_5 281 8 8 := by
  intro S r hinv hXS I0 hin hs_ hf_
  have b_ := bx_bds_sat hs_
  have f_ := bx_fcl_ok hs_.1 hf_
  have g := rxtPC5x278_5 hP hin I0 hinv 
  exact ⟨g.1, g.2, hX _ _ hXS (rx_same_cp (fun _ _ _ _ _ => rfl) (g1 := 5) rfl (by decide +kernel)), rx_same_cp hin (g1 := 5) rfl (by decide +kernel)⟩
theorem rxcPC5x278_0_0 {S0 : Nat → Int → Int} {ws : List Int} {S : Nat → Int → Int} {x8 : Int} (hP : rxPPC5x278 S0 ws) (hin : bx_same rxL (bx_mdl rxCPC5x278.2.2.1) S0 S) (I0 : bx_Inv rxL S) (hinv : rxIPC5x278_0 S0 ws S) (l8 : 0 ≤ x8) (u8 : x8 ≤ 8) (e1 : S 278 0 = x8) : (True) ∧ (True) ∧ rxIPC5x278_1 S0 ws (bx_up S 5 0 x8) ∧ rxmPC5x278_1 S0 ws (bx_up S 5 0 x8) < rxmPC5x278_0 S0 ws S := by
  obtain ⟨rfl, hw⟩ := hinv
  exact ⟨trivial, trivial, ⟨by rw [bx_up_at]; exact e1.symm, fun p j n0 => congrFun (bx_up_row n0) j⟩, by unfold rxmPC5x278_0 rxmPC5x278_1; omega⟩
theorem rxgPC5x278_0_0 {X : (Nat → Int → Int) → Prop} {S0 : Nat → Int → Int} {ws : List Int} (hP : rxPPC5x278 S0 ws) : bx_obC rxL X S0 rxCPC5x278.2.2.1 (rxIPC5x278 S0 ws) (rxmPC5x278 S0 ws) 0 rxzPC5x278_0 rxoPC5x278_0_0 := by
  intro S S_p r r_p hinv hX hin hsm_ hseg
  obtain ⟨I0, I1, h0_, hr_, b_, f_, d_⟩ := bx_cl (evs := [(1, (0, 5), (0, 0), .inr (0, (8, 0))), (0, (0, 278), (0, 0), .inr (0, (8, 0)))]) (fvs := []) hseg (by decide +kernel) (by decide +kernel)
  have hinv : rxIPC5x278_0 S0 ws S := hinv
  obtain ⟨⟨l8, u8⟩, -⟩ := b_
  obtain ⟨T0, ⟨e1, w_⟩, w0⟩ := d_
  subst w0
  subst w_
  have g := rxcPC5x278_0_0 hP hin I0 hinv l8 u8 e1
  refine ⟨bx_narP_ok (l := []) g.1, bx_nfP_ok h0_ (fvs := []) (by decide +kernel) g.2.1, ?_, ?_⟩
  · show rxIPC5x278_1 S0 ws (bx_up T0 5 (0) (r_p 8))
    exact g.2.2.1
  · show rxmPC5x278_1 S0 ws (bx_up T0 5 (0) (r_p 8)) < rxmPC5x278_0 S0 ws T0
    exact g.2.2.2
theorem rxcPC5x278_2_0 {S0 : Nat → Int → Int} {ws : List Int} {S : Nat → Int → Int} (hP : rxPPC5x278 S0 ws) (hin : bx_same rxL (bx_mdl rxCPC5x278.2.2.1) S0 S) (I0 : bx_Inv rxL S) (hinv : rxIPC5x278_2 S0 ws S)  : (True) ∧ (True) ∧ rxIPC5x278_3 S0 ws S ∧ rxmPC5x278_3 S0 ws S < rxmPC5x278_2 S0 ws S := by
  exact ⟨trivial, trivial, hinv, by unfold rxmPC5x278_2 rxmPC5x278_3; omega⟩
theorem rxgPC5x278_2_0 {X : (Nat → Int → Int) → Prop} {S0 : Nat → Int → Int} {ws : List Int} (hP : rxPPC5x278 S0 ws) : bx_obC rxL X S0 rxCPC5x278.2.2.1 (rxIPC5x278 S0 ws) (rxmPC5x278 S0 ws) 2 rxzPC5x278_2 rxoPC5x278_2_0 := by
  intro S S_p r r_p hinv hX hin hsm_ hseg
  obtain ⟨I0, I1, h0_, hr_, b_, f_, d_⟩ := bx_cl (evs := []) (fvs := []) hseg (by decide +kernel) (by decide +kernel)
  have hinv : rxIPC5x278_2 S0 ws S := hinv
  have w_ := d_
  subst w_
  have g := rxcPC5x278_2_0 hP hin I0 hinv 
  refine ⟨bx_narP_ok (l := []) g.1, bx_nfP_ok h0_ (fvs := []) (by decide +kernel) g.2.1, ?_, ?_⟩
  · show rxIPC5x278_3 S0 ws S_p
    exact g.2.2.1
  · show rxmPC5x278_3 S0 ws S_p < rxmPC5x278_2 S0 ws S_p
    exact g.2.2.2
theorem rxcPC5x278_4_0 {S0 : Nat → Int → Int} {ws : List Int} {S : Nat → Int → Int} (hP : rxPPC5x278 S0 ws) (hin : bx_same rxL (bx_mdl rxCPC5x278.2.2.1) S0 S) (I0 : bx_Inv rxL S) (hinv : rxIPC5x278_4 S0 ws S)  : (True) ∧ (True) ∧ rxIPC5x278_5 S0 ws S ∧ rxmPC5x278_5 S0 ws S < rxmPC5x278_4 S0 ws S := by
  exact ⟨trivial, trivial, hinv, by unfold rxmPC5x278_4 rxmPC5x278_5; omega⟩
theorem rxgPC5x278_4_0 {X : (Nat → Int → Int) → Prop} {S0 : Nat → Int → Int} {ws : List Int} (hP : rxPPC5x278 S0 ws) : bx_obC rxL X S0 rxCPC5x278.2.2.1 (rxIPC5x278 S0 ws) (rxmPC5x278 S0 ws) 4 rxzPC5x278_4 rxoPC5x278_4_0 := by
  intro S S_p r r_p hinv hX hin hsm_ hseg
  obtain ⟨I0, I1, h0_, hr_, b_, f_, d_⟩ := bx_cl (evs := []) (fvs := []) hseg (by decide +kernel) (by decide +kernel)
  have hinv : rxIPC5x278_4 S0 ws S := hinv
  have w_ := d_
  subst w_
  have g := rxcPC5x278_4_0 hP hin I0 hinv 
  refine ⟨bx_narP_ok (l := []) g.1, bx_nfP_ok h0_ (fvs := []) (by decide +kernel) g.2.1, ?_, ?_⟩
  · show rxIPC5x278_5 S0 ws S_p
    exact g.2.2.1
  · show rxmPC5x278_5 S0 ws S_p < rxmPC5x278_4 S0 ws S_p
    exact g.2.2.2
theorem rxdPC5x278_6_0 {S0 : Nat → Int → Int} {ws : List Int} {S : Nat → Int → Int} (hP : rxPPC5x278 S0 ws) (hin : bx_same rxL (bx_mdl rxCPC5x278.2.2.1) S0 S) (hin2 : bx_same rxL (bx_mdl rxCPC5x278.2.2.1) S S) (I0 : bx_Inv rxL S) (I1 : bx_Inv rxL S) (hinv : rxIPC5x278_6 S0 ws S)  : (True) ∧ rxPSPC5x278 S0 ws S none := by
  exact ⟨trivial, rfl, hinv⟩
theorem rxfPC5x278_6_0 {X : (Nat → Int → Int) → Prop} {S0 : Nat → Int → Int} {ws : List Int} (hP : rxPPC5x278 S0 ws) : bx_obE rxL X S0 rxCPC5x278.2.2.1 (rxIPC5x278 S0 ws) (rxPSPC5x278 S0 ws) 6 rxzPC5x278_6 rxePC5x278_6_0 := by
  intro S S_p r r_p hinv hX hin hsm_ hseg
  obtain ⟨I0, I1, h0_, hr_, b_, f_, d_⟩ := bx_cl (evs := []) (fvs := []) hseg (by decide +kernel) (by decide +kernel)
  have hinv : rxIPC5x278_6 S0 ws S := hinv
  have w_ := d_
  subst w_
  have g := rxdPC5x278_6_0 hP hin hsm_ I0 I1 hinv 
  refine ⟨bx_narP_ok (l := []) g.1, ?_⟩
  exact g.2
theorem rxgCPC5x278 {X : (Nat → Int → Int) → Prop} {S0 : Nat → Int → Int} {ws : List Int} (hP : rxPPC5x278 S0 ws) : bx_allI (fun i q => rxUPC5x278 q = true ∨ bx_allP (fun o => bx_obC rxL X S0 rxCPC5x278.2.2.1 (rxIPC5x278 S0 ws) (rxmPC5x278 S0 ws) i q.1 o) q.2.1) 0 rxYPC5x278 := ⟨Or.inr ⟨rxgPC5x278_0_0 hP, trivial⟩, Or.inl rfl, Or.inr ⟨rxgPC5x278_2_0 hP, trivial⟩, Or.inl rfl, Or.inr ⟨rxgPC5x278_4_0 hP, trivial⟩, Or.inl rfl, Or.inr trivial, trivial⟩
theorem rxgEPC5x278 {X : (Nat → Int → Int) → Prop} {S0 : Nat → Int → Int} {ws : List Int} (hP : rxPPC5x278 S0 ws) : bx_allI (fun i q => rxUPC5x278 q = true ∨ bx_allP (fun E => bx_obE rxL X S0 rxCPC5x278.2.2.1 (rxIPC5x278 S0 ws) (rxPSPC5x278 S0 ws) i q.1 E) q.2.2) 0 rxYPC5x278 := ⟨Or.inr trivial, Or.inl rfl, Or.inr trivial, Or.inl rfl, Or.inr trivial, Or.inl rfl, Or.inr ⟨rxfPC5x278_6_0 hP, trivial⟩, trivial⟩
theorem rxuPC5x278 {PX : State → Prop} {Dg : va_G} {A : Nat → Prop} {ad xa : Nat → Nat} {l : Launch} {X : (Nat → Int → Int) → Prop} (hPX : rx_PXOK rxNW A PX) (hX : ∀ S S1 : Nat → Int → Int, X S → bx_same rxL (bx_mdl rxCPC5x278.2.2.1) S S1 → X S1) {S0 : Nat → Int → Int} {ws : List Int} (hP : rxPPC5x278 S0 ws) : ∀ (i : Nat) (q : bx_HE), rxYPC5x278[i]? = some q → rxUPC5x278 q = true → ∀ {p : Program} {e : Env} {R : Room} {s : State} {m : MethodId} {args : Array Value} {below : List Frame} {meth : Method} {c : Code} {Q : State → Prop} {H0 : Heap}, rx_Fr rxG rxNW rxAO PX p s m args meth c rxM108 → (∀ q, H0.size ≤ q → A q) → H0 = s.heap → rxM108.2.2.2.2.2.2.1 ≤ R.cells → rxM108.2.2.2.2.2.2.2 ≤ R.slots → rxCPC5x278.2.2.2.1 ≤ R.frames → rxCPC5x278.2.2.2.1 * 40 ≤ R.locals → bx_Step p l e R s m args below meth c Q Dg rxL X vwCl A xa H0 ad rxM108 rxYPC5x278 (rxIPC5x278 S0 ws) (rxmPC5x278 S0 ws) S0 rxCPC5x278.2.2.1 i q := by
  intro i q hq hus p e R s m args below meth c Q H0 hF hA hH0 hmc hms hd hdl
  match i, hq with
  | 0, hq =>
    cases hq
    exact absurd (show false = true from hus) Bool.false_ne_true
  | 1, hq =>
    cases hq
    exact rx_stepY (i_p := 2) (idx := 25) (P0 := 279) (P1 := 6) (n := 8) (g0 := 3) (g1 := 3) (t := []) hF rfl (Nat.le_trans (by decide) hd) (Nat.le_trans (by decide) hdl) (by decide +kernel) (by decide +kernel) rfl rfl (by decide) (by decide) rfl rfl (by decide) (by decide) rfl rfl (by decide) (by decide) rfl rfl (rxsPC5x278_1 hP hX)
  | 2, hq =>
    cases hq
    exact absurd (show false = true from hus) Bool.false_ne_true
  | 3, hq =>
    cases hq
    exact rx_stepY (i_p := 4) (idx := 25) (P0 := 280) (P1 := 7) (n := 8) (g0 := 4) (g1 := 4) (t := []) hF rfl (Nat.le_trans (by decide) hd) (Nat.le_trans (by decide) hdl) (by decide +kernel) (by decide +kernel) rfl rfl (by decide) (by decide) rfl rfl (by decide) (by decide) rfl rfl (by decide) (by decide) rfl rfl (rxsPC5x278_3 hP hX)
  | 4, hq =>
    cases hq
    exact absurd (show false = true from hus) Bool.false_ne_true
  | 5, hq =>
    cases hq
    exact rx_stepY (i_p := 6) (idx := 25) (P0 := 281) (P1 := 8) (n := 8) (g0 := 5) (g1 := 5) (t := []) hF rfl (Nat.le_trans (by decide) hd) (Nat.le_trans (by decide) hdl) (by decide +kernel) (by decide +kernel) rfl rfl (by decide) (by decide) rfl rfl (by decide) (by decide) rfl rfl (by decide) (by decide) rfl rfl (rxsPC5x278_5 hP hX)
  | 6, hq =>
    cases hq
    exact absurd (show false = true from hus) Bool.false_ne_true
  | n + 7, hq => cases hq
theorem rxQPC5x278 {PX : State → Prop} {Dg : va_G} {A : Nat → Prop} {ad xa : Nat → Nat} {l : Launch} {X : (Nat → Int → Int) → Prop} (hPX : rx_PXOK rxNW A PX) (hsl : ∀ s : State, PX s → ∀ o idx n : Nat, rxSl o idx = some n → ∃ tx : String, vk_R (rxNm o) idx tx (ad n) s)
    (hX : ∀ S S_p : Nat → Int → Int, X S → bx_same rxL (bx_mdl rxCPC5x278.2.2.1) S S_p → X S_p)
    (ih : ∀ (j2 : Nat) (ct2 : bx_Ct) (M2 : rx_Mt), ct2 ∈ rxCnE j2 → ct2.2.2.2.1 + 1 ≤ rxCPC5x278.2.2.2.1 → rxT.2.2.2.2.2 j2 = some M2 → bx_Con rxG rxNW rxAO PX Dg rxL X vwCl A ad l M2 ct2) : bx_ConP rxG rxNW rxAO PX Dg rxL X vwCl A ad l rxM108 rxCPC5x278 rxPPC5x278 rxPSPC5x278 :=
  rxQof (xa := xa) (Cn := rxCnE) (f := 30000) (j := 108) (tab := rxYPC5x278) (us := rxUPC5x278) hPX hsl hX ih rfl rxYcPC5x278 rxIPC5x278 rxmPC5x278
    (fun S0 ws r I0 I ht0 ht as he he1 hX0 hI0 hP hs ha => by
      have e := he.symm.trans (show bx_ent0 rxNP rxCPC5x278.1 bx_I0 [] = some ([(0, 0), (0, 0), (0, 0), (0, 0), (0, 0), (0, 0), (0, 0), (0, 0)], [], [.inr (3, (0, 5)), .inr (3, (0, 278))]) from rfl)
      cases e
      subst ha
      have h0 : r 0 = 0 := hs.1
      show rxIPC5x278_0 S0 _ S0
      refine ⟨rfl, ?_⟩
      simp only [List.map_cons, List.map_nil, bx_xv_ok h0]
      rfl)
    (fun S0 ws hP => rxuPC5x278 (xa := xa) hPX hX hP) (fun S0 ws hP => rxgCPC5x278 hP) (fun S0 ws hP => rxgEPC5x278 hP)
end
section
noncomputable def rxCDC14x287 : bx_Ct := ([(3, (1, 14, 0)), (3, (1, 287, 0))], none, [(2, 0), (1011, 0), (1012, 0), (1013, 0)], 1, [])
noncomputable def rxIDC14x287_0 (S0 : Nat → Int → Int) (ws : List Int) (S : Nat → Int → Int) : Prop := S = S0 ∧ ws = [14, 287]
noncomputable def rxmDC14x287_0 (S0 : Nat → Int → Int) (ws : List Int) (S : Nat → Int → Int) : Nat := 100
noncomputable def rxzDC14x287_0 : rx_Z := ([(0, 0), (0, 0), (0, 0), (0, 0), (0, 0), (0, 0), (0, 0), (0, 0)], [], [], 0, 0, 0, [(0, .inr (3, (0, 14))), (1, .inr (3, (0, 287)))], [])
noncomputable def rxIDC14x287_1 (S0 : Nat → Int → Int) (ws : List Int) (S : Nat → Int → Int) : Prop := S 14 0 = S0 287 0 ∧ (∀ (p : Nat) (j : Int), p ≠ 14 → S p j = S0 p j)
noncomputable def rxmDC14x287_1 (S0 : Nat → Int → Int) (ws : List Int) (S : Nat → Int → Int) : Nat := 90
noncomputable def rxzDC14x287_1 : rx_Z := ([(0, 0), (0, 0), (0, 0), (0, 0), (0, 0), (0, 0), (0, 0), (0, 0)], [], [], 0, 0, 20, [(0, .inr (3, (0, 14))), (1, .inr (3, (0, 287)))], [.inr (0, (0, 12)), .inr (0, (0, 0)), .inr (3, (0, 15)), .inr (0, (0, 0)), .inr (3, (0, 288))])
noncomputable def rxIDC14x287_2 (S0 : Nat → Int → Int) (ws : List Int) (S : Nat → Int → Int) : Prop := S 14 0 = S0 287 0 ∧ (∀ j : Int, 0 ≤ j → j < 12 → S 15 j = S0 288 j) ∧ (∀ (p : Nat) (j : Int), p ≠ 14 → p ≠ 15 → S p j = S0 p j)
noncomputable def rxmDC14x287_2 (S0 : Nat → Int → Int) (ws : List Int) (S : Nat → Int → Int) : Nat := 85
noncomputable def rxzDC14x287_2 : rx_Z := ([(0, 0), (0, 0), (0, 0), (0, 0), (0, 0), (0, 0), (0, 0), (0, 0)], [], [], 0, 0, 23, [(0, .inr (3, (0, 14))), (1, .inr (3, (0, 287)))], [])
noncomputable def rxIDC14x287_3 (S0 : Nat → Int → Int) (ws : List Int) (S : Nat → Int → Int) : Prop := S 14 0 = S0 287 0 ∧ (∀ j : Int, 0 ≤ j → j < 12 → S 15 j = S0 288 j) ∧ (∀ (p : Nat) (j : Int), p ≠ 14 → p ≠ 15 → S p j = S0 p j)
noncomputable def rxmDC14x287_3 (S0 : Nat → Int → Int) (ws : List Int) (S : Nat → Int → Int) : Nat := 80
noncomputable def rxzDC14x287_3 : rx_Z := ([(0, 0), (0, 0), (0, 0), (0, 0), (0, 0), (0, 0), (0, 0), (0, 0)], [], [], 0, 0, 35, [(0, .inr (3, (0, 14))), (1, .inr (3, (0, 287)))], [.inr (0, (0, 12)), .inr (0, (0, 0)), .inr (3, (0, 16)), .inr (0, (0, 0)), .inr (3, (0, 289))])
noncomputable def rxIDC14x287_4 (S0 : Nat → Int → Int) (ws : List Int) (S : Nat → Int → Int) : Prop := S 14 0 = S0 287 0 ∧ (∀ j : Int, 0 ≤ j → j < 12 → S 15 j = S0 288 j) ∧ (∀ j : Int, 0 ≤ j → j < 12 → S 16 j = S0 289 j) ∧ (∀ (p : Nat) (j : Int), p ≠ 14 → p ≠ 15 → p ≠ 16 → S p j = S0 p j)
noncomputable def rxmDC14x287_4 (S0 : Nat → Int → Int) (ws : List Int) (S : Nat → Int → Int) : Nat := 75
noncomputable def rxzDC14x287_4 : rx_Z := ([(0, 0), (0, 0), (0, 0), (0, 0), (0, 0), (0, 0), (0, 0), (0, 0)], [], [], 0, 0, 38, [(0, .inr (3, (0, 14))), (1, .inr (3, (0, 287)))], [])
noncomputable def rxIDC14x287_5 (S0 : Nat → Int → Int) (ws : List Int) (S : Nat → Int → Int) : Prop := S 14 0 = S0 287 0 ∧ (∀ j : Int, 0 ≤ j → j < 12 → S 15 j = S0 288 j) ∧ (∀ j : Int, 0 ≤ j → j < 12 → S 16 j = S0 289 j) ∧ (∀ (p : Nat) (j : Int), p ≠ 14 → p ≠ 15 → p ≠ 16 → S p j = S0 p j)
noncomputable def rxmDC14x287_5 (S0 : Nat → Int → Int) (ws : List Int) (S : Nat → Int → Int) : Nat := 70
noncomputable def rxzDC14x287_5 : rx_Z := ([(0, 0), (0, 0), (0, 0), (0, 0), (0, 0), (0, 0), (0, 0), (0, 0)], [], [], 0, 0, 50, [(0, .inr (3, (0, 14))), (1, .inr (3, (0, 287)))], [.inr (0, (0, 12)), .inr (0, (0, 0)), .inr (3, (0, 17)), .inr (0, (0, 0)), .inr (3, (0, 290))])
noncomputable def rxIDC14x287_6 (S0 : Nat → Int → Int) (ws : List Int) (S : Nat → Int → Int) : Prop := S 14 0 = S0 287 0 ∧ (∀ j : Int, 0 ≤ j → j < 12 → S 15 j = S0 288 j) ∧ (∀ j : Int, 0 ≤ j → j < 12 → S 16 j = S0 289 j) ∧ (∀ j : Int, 0 ≤ j → j < 12 → S 17 j = S0 290 j) ∧ (∀ (p : Nat) (j : Int), p ≠ 14 → p ≠ 15 → p ≠ 16 → p ≠ 17 → S p j = S0 p j)
noncomputable def rxmDC14x287_6 (S0 : Nat → Int → Int) (ws : List Int) (S : Nat → Int → Int) : Nat := 65
noncomputable def rxzDC14x287_6 : rx_Z := ([(0, 0), (0, 0), (0, 0), (0, 0), (0, 0), (0, 0), (0, 0), (0, 0)], [], [], 0, 0, 53, [(0, .inr (3, (0, 14))), (1, .inr (3, (0, 287)))], [])
noncomputable def rxoDC14x287_0_0 : bx_HO := (([(0, 0), (0, 0), (0, 0), (0, 0), (0, 0), (0, 0), (0, 0), (0, 0), (0, 12)], [], [(((0, 14), 1), .inr (3, (0, 15))), (((0, 287), 1), .inr (3, (0, 288))), (((0, 0), 1851192626986356797424340330377019318111018015026043177561620483000000), .inr (0, (8, 0))), (((0, 14), 0), .inr (0, (8, 0))), (((0, 0), 1851192626986356797424340330377019318111018015026043177722642432000000), .inr (0, (8, 0)))], 0, 0, 20, [(0, .inr (3, (0, 14))), (1, .inr (3, (0, 287)))], [.inr (0, (0, 12)), .inr (0, (0, 0)), .inr (3, (0, 15)), .inr (0, (0, 0)), .inr (3, (0, 288))]), [], [], [(0, 0), (0, 0), (0, 0), (0, 0), (0, 0), (0, 0), (0, 0), (0, 0)], 1)
noncomputable def rxoDC14x287_2_0 : bx_HO := (([(0, 0), (0, 0), (0, 0), (0, 0), (0, 0), (0, 0), (0, 0), (0, 0)], [], [(((0, 14), 2), .inr (3, (0, 16))), (((0, 287), 2), .inr (3, (0, 289)))], 0, 0, 35, [(0, .inr (3, (0, 14))), (1, .inr (3, (0, 287)))], [.inr (0, (0, 12)), .inr (0, (0, 0)), .inr (3, (0, 16)), .inr (0, (0, 0)), .inr (3, (0, 289))]), [], [], [(0, 0), (0, 0), (0, 0), (0, 0), (0, 0), (0, 0), (0, 0), (0, 0)], 3)
noncomputable def rxoDC14x287_4_0 : bx_HO := (([(0, 0), (0, 0), (0, 0), (0, 0), (0, 0), (0, 0), (0, 0), (0, 0)], [], [(((0, 14), 3), .inr (3, (0, 17))), (((0, 287), 3), .inr (3, (0, 290)))], 0, 0, 50, [(0, .inr (3, (0, 14))), (1, .inr (3, (0, 287)))], [.inr (0, (0, 12)), .inr (0, (0, 0)), .inr (3, (0, 17)), .inr (0, (0, 0)), .inr (3, (0, 290))]), [], [], [(0, 0), (0, 0), (0, 0), (0, 0), (0, 0), (0, 0), (0, 0), (0, 0)], 5)
noncomputable def rxeDC14x287_6_0 : rx_End × List (Nat × Int × Int) := (([(0, 0), (0, 0), (0, 0), (0, 0), (0, 0), (0, 0), (0, 0), (0, 0)], [], [], none), [])
noncomputable def rxYDC14x287 : List bx_HE := [(rxzDC14x287_0, [rxoDC14x287_0_0], []), (rxzDC14x287_1, [], []), (rxzDC14x287_2, [rxoDC14x287_2_0], []), (rxzDC14x287_3, [], []), (rxzDC14x287_4, [rxoDC14x287_4_0], []), (rxzDC14x287_5, [], []), (rxzDC14x287_6, [], [rxeDC14x287_6_0])]
noncomputable def rxUDC14x287 (q : bx_HE) : Bool := Nat.beq (rx_zpc q.1) 20 || Nat.beq (rx_zpc q.1) 35 || Nat.beq (rx_zpc q.1) 50
noncomputable def rxYBDC14x287 : bx_B := (rxV, rxNP, rxDmf, bx_mdH rxCDC14x287.2.2.1)
set_option maxRecDepth 100000 in
theorem rxYcDC14x287 : bx_chkH rxYBDC14x287 rxM109 rxCDC14x287 rxYDC14x287 (rxUDC14x287, fun cut z => rx_ex2 (rxCT rxYBDC14x287 rxCnE) cut 30000 rxCDC14x287.2.2.2.1 109 z) = true := by decide +kernel
noncomputable def rxIDC14x287 (S0 : Nat → Int → Int) (ws : List Int) (i : Nat) : bx_SP := fun S r => match i with | 0 => rxIDC14x287_0 S0 ws S | 1 => rxIDC14x287_1 S0 ws S | 2 => rxIDC14x287_2 S0 ws S | 3 => rxIDC14x287_3 S0 ws S | 4 => rxIDC14x287_4 S0 ws S | 5 => rxIDC14x287_5 S0 ws S | 6 => rxIDC14x287_6 S0 ws S | _ => False
noncomputable def rxmDC14x287 (S0 : Nat → Int → Int) (ws : List Int) (i : Nat) (S : Nat → Int → Int) (r : Nat → Int) : Nat := match i with | 0 => rxmDC14x287_0 S0 ws S | 1 => rxmDC14x287_1 S0 ws S | 2 => rxmDC14x287_2 S0 ws S | 3 => rxmDC14x287_3 S0 ws S | 4 => rxmDC14x287_4 S0 ws S | 5 => rxmDC14x287_5 S0 ws S | 6 => rxmDC14x287_6 S0 ws S | _ => 0
noncomputable def rxPDC14x287 (S0 : Nat → Int → Int) (ws : List Int) : Prop := True
noncomputable def rxPSDC14x287 (S0 : Nat → Int → Int) (ws : List Int) (S : Nat → Int → Int) (w : Option Int) : Prop := w = none ∧ S 14 0 = S0 287 0 ∧ (∀ j : Int, 0 ≤ j → j < 12 → S 15 j = S0 288 j) ∧ (∀ j : Int, 0 ≤ j → j < 12 → S 16 j = S0 289 j) ∧ (∀ j : Int, 0 ≤ j → j < 12 → S 17 j = S0 290 j) ∧ (∀ (p : Nat) (j : Int), p ≠ 14 → p ≠ 15 → p ≠ 16 → p ≠ 17 → S p j = S0 p j)
theorem rxtDC14x287_1 {S0 : Nat → Int → Int} {ws : List Int} {S : Nat → Int → Int} (hP : rxPDC14x287 S0 ws) (hin : bx_same rxL (bx_mdl rxCDC14x287.2.2.1) S0 S) (I0 : bx_Inv rxL S) (hinv : rxIDC14x287_1 S0 ws S)  : rxIDC14x287_2 S0 ws (bx_cpS S 288 15 12) ∧ rxmDC14x287_2 S0 ws (bx_cpS S 288 15 12) < rxmDC14x287_1 S0 ws S := by
  obtain ⟨h0, hf⟩ := hinv
  refine ⟨⟨?_, ?_, ?_⟩, by unfold rxmDC14x287_1 rxmDC14x287_2; omega⟩
  · rw [bx_cpS_ne (by decide)]; exact h0
  · intro j a b; rw [bx_cpS_in a b]; exact hf _ j (by decide)
  · intro p j n0 n1; rw [bx_cpS_ne n1]; exact hf p j n0
theorem rxsDC14x287_1 {X : (Nat → Int → Int) → Prop} {S0 : Nat → Int → Int} {ws : List Int} (hP : rxPDC14x287 S0 ws) (hX : ∀ S S1 : Nat → Int → Int, X S → bx_same rxL (bx_mdl rxCDC14x287.2.2.1) S S1 → X S1) : rx_obY X S0 rxCDC14x287.2.2.1 (rxIDC14x287 S0 ws) (rxmDC14x287 S0 ws) 1 2 rxzDC14x287_1 288 15 12 := by
  intro S r hinv hXS I0 hin hs_ hf_
  have b_ := bx_bds_sat hs_
  have f_ := bx_fcl_ok hs_.1 hf_
  have g := rxtDC14x287_1 hP hin I0 hinv 
  exact ⟨g.1, g.2, hX _ _ hXS (rx_same_cp (fun _ _ _ _ _ => rfl) (g1 := 11) rfl (by decide +kernel)), rx_same_cp hin (g1 := 11) rfl (by decide +kernel)⟩
theorem rxtDC14x287_3 {S0 : Nat → Int → Int} {ws : List Int} {S : Nat → Int → Int} (hP : rxPDC14x287 S0 ws) (hin : bx_same rxL (bx_mdl rxCDC14x287.2.2.1) S0 S) (I0 : bx_Inv rxL S) (hinv : rxIDC14x287_3 S0 ws S)  : rxIDC14x287_4 S0 ws (bx_cpS S 289 16 12) ∧ rxmDC14x287_4 S0 ws (bx_cpS S 289 16 12) < rxmDC14x287_3 S0 ws S := by
  obtain ⟨h0, h1, hf⟩ := hinv
  refine ⟨⟨?_, ?_, ?_, ?_⟩, by unfold rxmDC14x287_3 rxmDC14x287_4; omega⟩
  · rw [bx_cpS_ne (by decide)]; exact h0
  · intro j a b; rw [bx_cpS_ne (by decide)]; exact h1 j a b
  · intro j a b; rw [bx_cpS_in a b]; exact hf _ j (by decide) (by decide)
  · intro p j n0 n1 n2; rw [bx_cpS_ne n2]; exact hf p j n0 n1
theorem rxsDC14x287_3 {X : (Nat → Int → Int) → Prop} {S0 : Nat → Int → Int} {ws : List Int} (hP : rxPDC14x287 S0 ws) (hX : ∀ S S1 : Nat → Int → Int, X S → bx_same rxL (bx_mdl rxCDC14x287.2.2.1) S S1 → X S1) : rx_obY X S0 rxCDC14x287.2.2.1 (rxIDC14x287 S0 ws) (rxmDC14x287 S0 ws) 3 4 rxzDC14x287_3 289 16 12 := by
  intro S r hinv hXS I0 hin hs_ hf_
  have b_ := bx_bds_sat hs_
  have f_ := bx_fcl_ok hs_.1 hf_
  have g := rxtDC14x287_3 hP hin I0 hinv 
  exact ⟨g.1, g.2, hX _ _ hXS (rx_same_cp (fun _ _ _ _ _ => rfl) (g1 := 12) rfl (by decide +kernel)), rx_same_cp hin (g1 := 12) rfl (by decide +kernel)⟩
theorem rxtDC14x287_5 {S0 : Nat → Int → Int} {ws : List Int} {S : Nat → Int → Int} (hP : rxPDC14x287 S0 ws) (hin : bx_same rxL (bx_mdl rxCDC14x287.2.2.1) S0 S) (I0 : bx_Inv rxL S) (hinv : rxIDC14x287_5 S0 ws S)  : rxIDC14x287_6 S0 ws (bx_cpS S 290 17 12) ∧ rxmDC14x287_6 S0 ws (bx_cpS S 290 17 12) < rxmDC14x287_5 S0 ws S := by
  obtain ⟨h0, h1, h2, hf⟩ := hinv
  refine ⟨⟨?_, ?_, ?_, ?_, ?_⟩, by unfold rxmDC14x287_5 rxmDC14x287_6; omega⟩
  · rw [bx_cpS_ne (by decide)]; exact h0
  · intro j a b; rw [bx_cpS_ne (by decide)]; exact h1 j a b
  · intro j a b; rw [bx_cpS_ne (by decide)]; exact h2 j a b
  · intro j a b; rw [bx_cpS_in a b]; exact hf _ j (by decide) (by decide) (by decide)
  · intro p j n0 n1 n2 n3; rw [bx_cpS_ne n3]; exact hf p j n0 n1 n2
theorem rxsDC14x287_5 {X : (Nat → Int → Int) → Prop} {S0 : Nat → Int → Int} {ws : List Int} (hP : rxPDC14x287 S0 ws) (hX : ∀ S S1 : Nat → Int → Int, X S → bx_same rxL (bx_mdl rxCDC14x287.2.2.1) S S1 → X S1) : rx_obY X S0 rxCDC14x287.2.2.1 (rxIDC14x287 S0 ws) (rxmDC14x287 S0 ws) 5 6 rxzDC14x287_5 290 17 12 := by
  intro S r hinv hXS I0 hin hs_ hf_
  have b_ := bx_bds_sat hs_
  have f_ := bx_fcl_ok hs_.1 hf_
  have g := rxtDC14x287_5 hP hin I0 hinv 
  exact ⟨g.1, g.2, hX _ _ hXS (rx_same_cp (fun _ _ _ _ _ => rfl) (g1 := 13) rfl (by decide +kernel)), rx_same_cp hin (g1 := 13) rfl (by decide +kernel)⟩
theorem rxcDC14x287_0_0 {S0 : Nat → Int → Int} {ws : List Int} {S : Nat → Int → Int} {x8 : Int} (hP : rxPDC14x287 S0 ws) (hin : bx_same rxL (bx_mdl rxCDC14x287.2.2.1) S0 S) (I0 : bx_Inv rxL S) (hinv : rxIDC14x287_0 S0 ws S) (l8 : 0 ≤ x8) (u8 : x8 ≤ 12) (e1 : S 287 0 = x8) : (True) ∧ (True) ∧ rxIDC14x287_1 S0 ws (bx_up S 14 0 x8) ∧ rxmDC14x287_1 S0 ws (bx_up S 14 0 x8) < rxmDC14x287_0 S0 ws S := by
  obtain ⟨rfl, hw⟩ := hinv
  exact ⟨trivial, trivial, ⟨by rw [bx_up_at]; exact e1.symm, fun p j n0 => congrFun (bx_up_row n0) j⟩, by unfold rxmDC14x287_0 rxmDC14x287_1; omega⟩
theorem rxgDC14x287_0_0 {X : (Nat → Int → Int) → Prop} {S0 : Nat → Int → Int} {ws : List Int} (hP : rxPDC14x287 S0 ws) : bx_obC rxL X S0 rxCDC14x287.2.2.1 (rxIDC14x287 S0 ws) (rxmDC14x287 S0 ws) 0 rxzDC14x287_0 rxoDC14x287_0_0 := by
  intro S S_p r r_p hinv hX hin hsm_ hseg
  obtain ⟨I0, I1, h0_, hr_, b_, f_, d_⟩ := bx_cl (evs := [(1, (0, 14), (0, 0), .inr (0, (8, 0))), (0, (0, 287), (0, 0), .inr (0, (8, 0)))]) (fvs := []) hseg (by decide +kernel) (by decide +kernel)
  have hinv : rxIDC14x287_0 S0 ws S := hinv
  obtain ⟨⟨l8, u8⟩, -⟩ := b_
  obtain ⟨T0, ⟨e1, w_⟩, w0⟩ := d_
  subst w0
  subst w_
  have g := rxcDC14x287_0_0 hP hin I0 hinv l8 u8 e1
  refine ⟨bx_narP_ok (l := []) g.1, bx_nfP_ok h0_ (fvs := []) (by decide +kernel) g.2.1, ?_, ?_⟩
  · show rxIDC14x287_1 S0 ws (bx_up T0 14 (0) (r_p 8))
    exact g.2.2.1
  · show rxmDC14x287_1 S0 ws (bx_up T0 14 (0) (r_p 8)) < rxmDC14x287_0 S0 ws T0
    exact g.2.2.2
theorem rxcDC14x287_2_0 {S0 : Nat → Int → Int} {ws : List Int} {S : Nat → Int → Int} (hP : rxPDC14x287 S0 ws) (hin : bx_same rxL (bx_mdl rxCDC14x287.2.2.1) S0 S) (I0 : bx_Inv rxL S) (hinv : rxIDC14x287_2 S0 ws S)  : (True) ∧ (True) ∧ rxIDC14x287_3 S0 ws S ∧ rxmDC14x287_3 S0 ws S < rxmDC14x287_2 S0 ws S := by
  exact ⟨trivial, trivial, hinv, by unfold rxmDC14x287_2 rxmDC14x287_3; omega⟩
theorem rxgDC14x287_2_0 {X : (Nat → Int → Int) → Prop} {S0 : Nat → Int → Int} {ws : List Int} (hP : rxPDC14x287 S0 ws) : bx_obC rxL X S0 rxCDC14x287.2.2.1 (rxIDC14x287 S0 ws) (rxmDC14x287 S0 ws) 2 rxzDC14x287_2 rxoDC14x287_2_0 := by
  intro S S_p r r_p hinv hX hin hsm_ hseg
  obtain ⟨I0, I1, h0_, hr_, b_, f_, d_⟩ := bx_cl (evs := []) (fvs := []) hseg (by decide +kernel) (by decide +kernel)
  have hinv : rxIDC14x287_2 S0 ws S := hinv
  have w_ := d_
  subst w_
  have g := rxcDC14x287_2_0 hP hin I0 hinv 
  refine ⟨bx_narP_ok (l := []) g.1, bx_nfP_ok h0_ (fvs := []) (by decide +kernel) g.2.1, ?_, ?_⟩
  · show rxIDC14x287_3 S0 ws S_p
    exact g.2.2.1
  · show rxmDC14x287_3 S0 ws S_p < rxmDC14x287_2 S0 ws S_p
    exact g.2.2.2
theorem rxcDC14x287_4_0 {S0 : Nat → Int → Int} {ws : List Int} {S : Nat → Int → Int} (hP : rxPDC14x287 S0 ws) (hin : bx_same rxL (bx_mdl rxCDC14x287.2.2.1) S0 S) (I0 : bx_Inv rxL S) (hinv : rxIDC14x287_4 S0 ws S)  : (True) ∧ (True) ∧ rxIDC14x287_5 S0 ws S ∧ rxmDC14x287_5 S0 ws S < rxmDC14x287_4 S0 ws S := by
  exact ⟨trivial, trivial, hinv, by unfold rxmDC14x287_4 rxmDC14x287_5; omega⟩
theorem rxgDC14x287_4_0 {X : (Nat → Int → Int) → Prop} {S0 : Nat → Int → Int} {ws : List Int} (hP : rxPDC14x287 S0 ws) : bx_obC rxL X S0 rxCDC14x287.2.2.1 (rxIDC14x287 S0 ws) (rxmDC14x287 S0 ws) 4 rxzDC14x287_4 rxoDC14x287_4_0 := by
  intro S S_p r r_p hinv hX hin hsm_ hseg
  obtain ⟨I0, I1, h0_, hr_, b_, f_, d_⟩ := bx_cl (evs := []) (fvs := []) hseg (by decide +kernel) (by decide +kernel)
  have hinv : rxIDC14x287_4 S0 ws S := hinv
  have w_ := d_
  subst w_
  have g := rxcDC14x287_4_0 hP hin I0 hinv 
  refine ⟨bx_narP_ok (l := []) g.1, bx_nfP_ok h0_ (fvs := []) (by decide +kernel) g.2.1, ?_, ?_⟩
  · show rxIDC14x287_5 S0 ws S_p
    exact g.2.2.1
  · show rxmDC14x287_5 S0 ws S_p < rxmDC14x287_4 S0 ws S_p
    exact g.2.2.2
theorem rxdDC14x287_6_0 {S0 : Nat → Int → Int} {ws : List Int} {S : Nat → Int → Int} (hP : rxPDC14x287 S0 ws) (hin : bx_same rxL (bx_mdl rxCDC14x287.2.2.1) S0 S) (hin2 : bx_same rxL (bx_mdl rxCDC14x287.2.2.1) S S) (I0 : bx_Inv rxL S) (I1 : bx_Inv rxL S) (hinv : rxIDC14x287_6 S0 ws S)  : (True) ∧ rxPSDC14x287 S0 ws S none := by
  exact ⟨trivial, rfl, hinv⟩
theorem rxfDC14x287_6_0 {X : (Nat → Int → Int) → Prop} {S0 : Nat → Int → Int} {ws : List Int} (hP : rxPDC14x287 S0 ws) : bx_obE rxL X S0 rxCDC14x287.2.2.1 (rxIDC14x287 S0 ws) (rxPSDC14x287 S0 ws) 6 rxzDC14x287_6 rxeDC14x287_6_0 := by
  intro S S_p r r_p hinv hX hin hsm_ hseg
  obtain ⟨I0, I1, h0_, hr_, b_, f_, d_⟩ := bx_cl (evs := []) (fvs := []) hseg (by decide +kernel) (by decide +kernel)
  have hinv : rxIDC14x287_6 S0 ws S := hinv
  have w_ := d_
  subst w_
  have g := rxdDC14x287_6_0 hP hin hsm_ I0 I1 hinv 
  refine ⟨bx_narP_ok (l := []) g.1, ?_⟩
  exact g.2
theorem rxgCDC14x287 {X : (Nat → Int → Int) → Prop} {S0 : Nat → Int → Int} {ws : List Int} (hP : rxPDC14x287 S0 ws) : bx_allI (fun i q => rxUDC14x287 q = true ∨ bx_allP (fun o => bx_obC rxL X S0 rxCDC14x287.2.2.1 (rxIDC14x287 S0 ws) (rxmDC14x287 S0 ws) i q.1 o) q.2.1) 0 rxYDC14x287 := ⟨Or.inr ⟨rxgDC14x287_0_0 hP, trivial⟩, Or.inl rfl, Or.inr ⟨rxgDC14x287_2_0 hP, trivial⟩, Or.inl rfl, Or.inr ⟨rxgDC14x287_4_0 hP, trivial⟩, Or.inl rfl, Or.inr trivial, trivial⟩
theorem rxgEDC14x287 {X : (Nat → Int → Int) → Prop} {S0 : Nat → Int → Int} {ws : List Int} (hP : rxPDC14x287 S0 ws) : bx_allI (fun i q => rxUDC14x287 q = true ∨ bx_allP (fun E => bx_obE rxL X S0 rxCDC14x287.2.2.1 (rxIDC14x287 S0 ws) (rxPSDC14x287 S0 ws) i q.1 E) q.2.2) 0 rxYDC14x287 := ⟨Or.inr trivial, Or.inl rfl, Or.inr trivial, Or.inl rfl, Or.inr trivial, Or.inl rfl, Or.inr ⟨rxfDC14x287_6_0 hP, trivial⟩, trivial⟩
theorem rxuDC14x287 {PX : State → Prop} {Dg : va_G} {A : Nat → Prop} {ad xa : Nat → Nat} {l : Launch} {X : (Nat → Int → Int) → Prop} (hPX : rx_PXOK rxNW A PX) (hX : ∀ S S1 : Nat → Int → Int, X S → bx_same rxL (bx_mdl rxCDC14x287.2.2.1) S S1 → X S1) {S0 : Nat → Int → Int} {ws : List Int} (hP : rxPDC14x287 S0 ws) : ∀ (i : Nat) (q : bx_HE), rxYDC14x287[i]? = some q → rxUDC14x287 q = true → ∀ {p : Program} {e : Env} {R : Room} {s : State} {m : MethodId} {args : Array Value} {below : List Frame} {meth : Method} {c : Code} {Q : State → Prop} {H0 : Heap}, rx_Fr rxG rxNW rxAO PX p s m args meth c rxM109 → (∀ q, H0.size ≤ q → A q) → H0 = s.heap → rxM109.2.2.2.2.2.2.1 ≤ R.cells → rxM109.2.2.2.2.2.2.2 ≤ R.slots → rxCDC14x287.2.2.2.1 ≤ R.frames → rxCDC14x287.2.2.2.1 * 40 ≤ R.locals → bx_Step p l e R s m args below meth c Q Dg rxL X vwCl A xa H0 ad rxM109 rxYDC14x287 (rxIDC14x287 S0 ws) (rxmDC14x287 S0 ws) S0 rxCDC14x287.2.2.1 i q := by
  intro i q hq hus p e R s m args below meth c Q H0 hF hA hH0 hmc hms hd hdl
  match i, hq with
  | 0, hq =>
    cases hq
    exact absurd (show false = true from hus) Bool.false_ne_true
  | 1, hq =>
    cases hq
    exact rx_stepY (i_p := 2) (idx := 28) (P0 := 288) (P1 := 15) (n := 12) (g0 := 11) (g1 := 11) (t := []) hF rfl (Nat.le_trans (by decide) hd) (Nat.le_trans (by decide) hdl) (by decide +kernel) (by decide +kernel) rfl rfl (by decide) (by decide) rfl rfl (by decide) (by decide) rfl rfl (by decide) (by decide) rfl rfl (rxsDC14x287_1 hP hX)
  | 2, hq =>
    cases hq
    exact absurd (show false = true from hus) Bool.false_ne_true
  | 3, hq =>
    cases hq
    exact rx_stepY (i_p := 4) (idx := 28) (P0 := 289) (P1 := 16) (n := 12) (g0 := 12) (g1 := 12) (t := []) hF rfl (Nat.le_trans (by decide) hd) (Nat.le_trans (by decide) hdl) (by decide +kernel) (by decide +kernel) rfl rfl (by decide) (by decide) rfl rfl (by decide) (by decide) rfl rfl (by decide) (by decide) rfl rfl (rxsDC14x287_3 hP hX)
  | 4, hq =>
    cases hq
    exact absurd (show false = true from hus) Bool.false_ne_true
  | 5, hq =>
    cases hq
    exact rx_stepY (i_p := 6) (idx := 28) (P0 := 290) (P1 := 17) (n := 12) (g0 := 13) (g1 := 13) (t := []) hF rfl (Nat.le_trans (by decide) hd) (Nat.le_trans (by decide) hdl) (by decide +kernel) (by decide +kernel) rfl rfl (by decide) (by decide) rfl rfl (by decide) (by decide) rfl rfl (by decide) (by decide) rfl rfl (rxsDC14x287_5 hP hX)
  | 6, hq =>
    cases hq
    exact absurd (show false = true from hus) Bool.false_ne_true
  | n + 7, hq => cases hq
theorem rxQDC14x287 {PX : State → Prop} {Dg : va_G} {A : Nat → Prop} {ad xa : Nat → Nat} {l : Launch} {X : (Nat → Int → Int) → Prop} (hPX : rx_PXOK rxNW A PX) (hsl : ∀ s : State, PX s → ∀ o idx n : Nat, rxSl o idx = some n → ∃ tx : String, vk_R (rxNm o) idx tx (ad n) s)
    (hX : ∀ S S_p : Nat → Int → Int, X S → bx_same rxL (bx_mdl rxCDC14x287.2.2.1) S S_p → X S_p)
    (ih : ∀ (j2 : Nat) (ct2 : bx_Ct) (M2 : rx_Mt), ct2 ∈ rxCnE j2 → ct2.2.2.2.1 + 1 ≤ rxCDC14x287.2.2.2.1 → rxT.2.2.2.2.2 j2 = some M2 → bx_Con rxG rxNW rxAO PX Dg rxL X vwCl A ad l M2 ct2) : bx_ConP rxG rxNW rxAO PX Dg rxL X vwCl A ad l rxM109 rxCDC14x287 rxPDC14x287 rxPSDC14x287 :=
  rxQof (xa := xa) (Cn := rxCnE) (f := 30000) (j := 109) (tab := rxYDC14x287) (us := rxUDC14x287) hPX hsl hX ih rfl rxYcDC14x287 rxIDC14x287 rxmDC14x287
    (fun S0 ws r I0 I ht0 ht as he he1 hX0 hI0 hP hs ha => by
      have e := he.symm.trans (show bx_ent0 rxNP rxCDC14x287.1 bx_I0 [] = some ([(0, 0), (0, 0), (0, 0), (0, 0), (0, 0), (0, 0), (0, 0), (0, 0)], [], [.inr (3, (0, 14)), .inr (3, (0, 287))]) from rfl)
      cases e
      subst ha
      have h0 : r 0 = 0 := hs.1
      show rxIDC14x287_0 S0 _ S0
      refine ⟨rfl, ?_⟩
      simp only [List.map_cons, List.map_nil, bx_xv_ok h0]
      rfl)
    (fun S0 ws hP => rxuDC14x287 (xa := xa) hPX hX hP) (fun S0 ws hP => rxgCDC14x287 hP) (fun S0 ws hP => rxgEDC14x287 hP)
end
