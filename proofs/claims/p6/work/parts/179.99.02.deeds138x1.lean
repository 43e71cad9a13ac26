/-! CONTRACT BY HAND, by program (wip/sim/genhand.py): DeadUnderstudies$Deeds.copyFrom -/
def rxCDC151x14 : bx_Ct := ([(3, (1, 151, 0)), (3, (1, 14, 0))], none, [(2, 0), (1011, 0), (1012, 0), (1013, 0)], 1, [])
def rxIDC151x14_0 (S0 : Nat → Int → Int) (ws : List Int) (S : Nat → Int → Int) : Prop := S = S0 ∧ ws = [151, 14]
def rxmDC151x14_0 (S0 : Nat → Int → Int) (ws : List Int) (S : Nat → Int → Int) : Nat := 100
def rxzDC151x14_0 : rx_Z := ([(0, 0), (0, 0), (0, 0), (0, 0), (0, 0), (0, 0), (0, 0), (0, 0)], [], [], 0, 0, 0, [(0, .inr (3, (0, 151))), (1, .inr (3, (0, 14)))], [])
def rxIDC151x14_1 (S0 : Nat → Int → Int) (ws : List Int) (S : Nat → Int → Int) : Prop := S 151 0 = S0 14 0 ∧ (∀ (p : Nat) (j : Int), p ≠ 151 → S p j = S0 p j)
def rxmDC151x14_1 (S0 : Nat → Int → Int) (ws : List Int) (S : Nat → Int → Int) : Nat := 90
def rxzDC151x14_1 : rx_Z := ([(0, 0), (0, 0), (0, 0), (0, 0), (0, 0), (0, 0), (0, 0), (0, 0)], [], [], 0, 0, 20, [(0, .inr (3, (0, 151))), (1, .inr (3, (0, 14)))], [.inr (0, (0, 12)), .inr (0, (0, 0)), .inr (3, (0, 152)), .inr (0, (0, 0)), .inr (3, (0, 15))])
def rxIDC151x14_2 (S0 : Nat → Int → Int) (ws : List Int) (S : Nat → Int → Int) : Prop := S 151 0 = S0 14 0 ∧ (∀ j : Int, 0 ≤ j → j < 12 → S 152 j = S0 15 j) ∧ (∀ (p : Nat) (j : Int), p ≠ 151 → p ≠ 152 → S p j = S0 p j)
def rxmDC151x14_2 (S0 : Nat → Int → Int) (ws : List Int) (S : Nat → Int → Int) : Nat := 85
def rxzDC151x14_2 : rx_Z := ([(0, 0), (0, 0), (0, 0), (0, 0), (0, 0), (0, 0), (0, 0), (0, 0)], [], [], 0, 0, 23, [(0, .inr (3, (0, 151))), (1, .inr (3, (0, 14)))], [])
def rxIDC151x14_3 (S0 : Nat → Int → Int) (ws : List Int) (S : Nat → Int → Int) : Prop := S 151 0 = S0 14 0 ∧ (∀ j : Int, 0 ≤ j → j < 12 → S 152 j = S0 15 j) ∧ (∀ (p : Nat) (j : Int), p ≠ 151 → p ≠ 152 → S p j = S0 p j)
def rxmDC151x14_3 (S0 : Nat → Int → Int) (ws : List Int) (S : Nat → Int → Int) : Nat := 80
def rxzDC151x14_3 : rx_Z := ([(0, 0), (0, 0), (0, 0), (0, 0), (0, 0), (0, 0), (0, 0), (0, 0)], [], [], 0, 0, 35, [(0, .inr (3, (0, 151))), (1, .inr (3, (0, 14)))], [.inr (0, (0, 12)), .inr (0, (0, 0)), .inr (3, (0, 153)), .inr (0, (0, 0)), .inr (3, (0, 16))])
def rxIDC151x14_4 (S0 : Nat → Int → Int) (ws : List Int) (S : Nat → Int → Int) : Prop := S 151 0 = S0 14 0 ∧ (∀ j : Int, 0 ≤ j → j < 12 → S 152 j = S0 15 j) ∧ (∀ j : Int, 0 ≤ j → j < 12 → S 153 j = S0 16 j) ∧ (∀ (p : Nat) (j : Int), p ≠ 151 → p ≠ 152 → p ≠ 153 → S p j = S0 p j)
def rxmDC151x14_4 (S0 : Nat → Int → Int) (ws : List Int) (S : Nat → Int → Int) : Nat := 75
def rxzDC151x14_4 : rx_Z := ([(0, 0), (0, 0), (0, 0), (0, 0), (0, 0), (0, 0), (0, 0), (0, 0)], [], [], 0, 0, 38, [(0, .inr (3, (0, 151))), (1, .inr (3, (0, 14)))], [])
def rxIDC151x14_5 (S0 : Nat → Int → Int) (ws : List Int) (S : Nat → Int → Int) : Prop := S 151 0 = S0 14 0 ∧ (∀ j : Int, 0 ≤ j → j < 12 → S 152 j = S0 15 j) ∧ (∀ j : Int, 0 ≤ j → j < 12 → S 153 j = S0 16 j) ∧ (∀ (p : Nat) (j : Int), p ≠ 151 → p ≠ 152 → p ≠ 153 → S p j = S0 p j)
def rxmDC151x14_5 (S0 : Nat → Int → Int) (ws : List Int) (S : Nat → Int → Int) : Nat := 70
def rxzDC151x14_5 : rx_Z := ([(0, 0), (0, 0), (0, 0), (0, 0), (0, 0), (0, 0), (0, 0), (0, 0)], [], [], 0, 0, 50, [(0, .inr (3, (0, 151))), (1, .inr (3, (0, 14)))], [.inr (0, (0, 12)), .inr (0, (0, 0)), .inr (3, (0, 154)), .inr (0, (0, 0)), .inr (3, (0, 17))])
def rxIDC151x14_6 (S0 : Nat → Int → Int) (ws : List Int) (S : Nat → Int → Int) : Prop := S 151 0 = S0 14 0 ∧ (∀ j : Int, 0 ≤ j → j < 12 → S 152 j = S0 15 j) ∧ (∀ j : Int, 0 ≤ j → j < 12 → S 153 j = S0 16 j) ∧ (∀ j : Int, 0 ≤ j → j < 12 → S 154 j = S0 17 j) ∧ (∀ (p : Nat) (j : Int), p ≠ 151 → p ≠ 152 → p ≠ 153 → p ≠ 154 → S p j = S0 p j)
def rxmDC151x14_6 (S0 : Nat → Int → Int) (ws : List Int) (S : Nat → Int → Int) : Nat := 65
def rxzDC151x14_6 : rx_Z := ([(0, 0), (0, 0), (0, 0), (0, 0), (0, 0), (0, 0), (0, 0), (0, 0)], [], [], 0, 0, 53, [(0, .inr (3, (0, 151))), (1, .inr (3, (0, 14)))], [])
def rxoDC151x14_0_0 : bx_HO := (([(0, 0), (0, 0), (0, 0), (0, 0), (0, 0), (0, 0), (0, 0), (0, 0), (0, 12)], [], [(((0, 151), 1), .inr (3, (0, 152))), (((0, 14), 1), .inr (3, (0, 15))), (((0, 0), 1851192626986356797424340330377019318111018015026043177642426371000000), .inr (0, (8, 0))), (((0, 151), 0), .inr (0, (8, 0))), (((0, 0), 1851192626986356797424340330377019318111018015026043177561620480000000), .inr (0, (8, 0)))], 0, 0, 20, [(0, .inr (3, (0, 151))), (1, .inr (3, (0, 14)))], [.inr (0, (0, 12)), .inr (0, (0, 0)), .inr (3, (0, 152)), .inr (0, (0, 0)), .inr (3, (0, 15))]), [], [], [(0, 0), (0, 0), (0, 0), (0, 0), (0, 0), (0, 0), (0, 0), (0, 0)], 1)
def rxoDC151x14_2_0 : bx_HO := (([(0, 0), (0, 0), (0, 0), (0, 0), (0, 0), (0, 0), (0, 0), (0, 0)], [], [(((0, 151), 2), .inr (3, (0, 153))), (((0, 14), 2), .inr (3, (0, 16)))], 0, 0, 35, [(0, .inr (3, (0, 151))), (1, .inr (3, (0, 14)))], [.inr (0, (0, 12)), .inr (0, (0, 0)), .inr (3, (0, 153)), .inr (0, (0, 0)), .inr (3, (0, 16))]), [], [], [(0, 0), (0, 0), (0, 0), (0, 0), (0, 0), (0, 0), (0, 0), (0, 0)], 3)
def rxoDC151x14_4_0 : bx_HO := (([(0, 0), (0, 0), (0, 0), (0, 0), (0, 0), (0, 0), (0, 0), (0, 0)], [], [(((0, 151), 3), .inr (3, (0, 154))), (((0, 14), 3), .inr (3, (0, 17)))], 0, 0, 50, [(0, .inr (3, (0, 151))), (1, .inr (3, (0, 14)))], [.inr (0, (0, 12)), .inr (0, (0, 0)), .inr (3, (0, 154)), .inr (0, (0, 0)), .inr (3, (0, 17))]), [], [], [(0, 0), (0, 0), (0, 0), (0, 0), (0, 0), (0, 0), (0, 0), (0, 0)], 5)
def rxeDC151x14_6_0 : rx_End × List (Nat × Int × Int) := (([(0, 0), (0, 0), (0, 0), (0, 0), (0, 0), (0, 0), (0, 0), (0, 0)], [], [], none), [])
def rxYDC151x14 : List bx_HE := [(rxzDC151x14_0, [rxoDC151x14_0_0], []), (rxzDC151x14_1, [], []), (rxzDC151x14_2, [rxoDC151x14_2_0], []), (rxzDC151x14_3, [], []), (rxzDC151x14_4, [rxoDC151x14_4_0], []), (rxzDC151x14_5, [], []), (rxzDC151x14_6, [], [rxeDC151x14_6_0])]
def rxUDC151x14 (q : bx_HE) : Bool := Nat.beq (rx_zpc q.1) 20 || Nat.beq (rx_zpc q.1) 35 || Nat.beq (rx_zpc q.1) 50
def rxYBDC151x14 : bx_B := (rxV, rxNP, rxDmf, bx_mdH rxCDC151x14.2.2.1)
set_option maxRecDepth 100000 in
theorem rxYcDC151x14 : bx_chkH rxYBDC151x14 rxM109 rxCDC151x14 rxYDC151x14 (rxUDC151x14, fun cut z => rx_ex2 (rxCT rxYBDC151x14 rxCnE) cut 30000 rxCDC151x14.2.2.2.1 109 z) = true := by decide +kernel
def rxIDC151x14 (S0 : Nat → Int → Int) (ws : List Int) (i : Nat) : bx_SP := fun S r => match i with | 0 => rxIDC151x14_0 S0 ws S | 1 => rxIDC151x14_1 S0 ws S | 2 => rxIDC151x14_2 S0 ws S | 3 => rxIDC151x14_3 S0 ws S | 4 => rxIDC151x14_4 S0 ws S | 5 => rxIDC151x14_5 S0 ws S | 6 => rxIDC151x14_6 S0 ws S | _ => False
def rxmDC151x14 (S0 : Nat → Int → Int) (ws : List Int) (i : Nat) (S : Nat → Int → Int) (r : Nat → Int) : Nat := match i with | 0 => rxmDC151x14_0 S0 ws S | 1 => rxmDC151x14_1 S0 ws S | 2 => rxmDC151x14_2 S0 ws S | 3 => rxmDC151x14_3 S0 ws S | 4 => rxmDC151x14_4 S0 ws S | 5 => rxmDC151x14_5 S0 ws S | 6 => rxmDC151x14_6 S0 ws S | _ => 0
def rxPDC151x14 (S0 : Nat → Int → Int) (ws : List Int) : Prop := True
def rxPSDC151x14 (S0 : Nat → Int → Int) (ws : List Int) (S : Nat → Int → Int) (w : Option Int) : Prop := w = none ∧ S 151 0 = S0 14 0 ∧ (∀ j : Int, 0 ≤ j → j < 12 → S 152 j = S0 15 j) ∧ (∀ j : Int, 0 ≤ j → j < 12 → S 153 j = S0 16 j) ∧ (∀ j : Int, 0 ≤ j → j < 12 → S 154 j = S0 17 j) ∧ (∀ (p : Nat) (j : Int), p ≠ 151 → p ≠ 152 → p ≠ 153 → p ≠ 154 → S p j = S0 p j)
theorem rxtDC151x14_1 {S0 : Nat → Int → Int} {ws : List Int} {S : Nat → Int → Int} (hP : rxPDC151x14 S0 ws) (hin : bx_same rxL (bx_mdl rxCDC151x14.2.2.1) S0 S) (I0 : bx_Inv rxL S) (hinv : rxIDC151x14_1 S0 ws S)  : rxIDC151x14_2 S0 ws (bx_cpS S 15 152 12) ∧ rxmDC151x14_2 S0 ws (bx_cpS S 15 152 12) < rxmDC151x14_1 S0 ws S := by
  obtain ⟨h0, hf⟩ := hinv
  refine ⟨⟨?_, ?_, ?_⟩, by unfold rxmDC151x14_1 rxmDC151x14_2; omega⟩
  · rw [bx_cpS_ne (by decide)]; exact h0
  · intro j a b; rw [bx_cpS_in a b]; exact hf _ j (by decide)
  · intro p j n0 n1; rw [bx_cpS_ne n1]; exact hf p j n0
theorem rxsDC151x14_1 {X : (Nat → Int → Int) → Prop} {S0 : Nat → Int → Int} {ws : List Int} (hP : rxPDC151x14 S0 ws) (hX : ∀ S S1 : Nat → Int → Int, X S → bx_same rxL (bx_mdl rxCDC151x14.2.2.1) S S1 → X S1) : rx_obY X S0 rxCDC151x14.2.2.1 (rxIDC151x14 S0 ws) (rxmDC151x14 S0 ws) 1 2 rxzDC151x14_1 15 152 12 := by
  intro S r hinv hXS I0 hin hs_ hf_
  have b_ := bx_bds_sat hs_
  have f_ := bx_fcl_ok hs_.1 hf_
  have g := rxtDC151x14_1 hP hin I0 hinv 
  exact ⟨g.1, g.2, hX _ _ hXS (rx_same_cp (fun _ _ _ _ _ => rfl) (g1 := 11) rfl (by decide +kernel)), rx_same_cp hin (g1 := 11) rfl (by decide +kernel)⟩
theorem rxtDC151x14_3 {S0 : Nat → Int → Int} {ws : List Int} {S : Nat → Int → Int} (hP : rxPDC151x14 S0 ws) (hin : bx_same rxL (bx_mdl rxCDC151x14.2.2.1) S0 S) (I0 : bx_Inv rxL S) (hinv : rxIDC151x14_3 S0 ws S)  : rxIDC151x14_4 S0 ws (bx_cpS S 16 153 12) ∧ rxmDC151x14_4 S0 ws (bx_cpS S 16 153 12) < rxmDC151x14_3 S0 ws S := by
  obtain ⟨h0, h1, hf⟩ := hinv
  refine ⟨⟨?_, ?_, ?_, ?_⟩, by unfold rxmDC151x14_3 rxmDC151x14_4; omega⟩
  · rw [bx_cpS_ne (by decide)]; exact h0
  · intro j a b; rw [bx_cpS_ne (by decide)]; exact h1 j a b
  · intro j a b; rw [bx_cpS_in a b]; exact hf _ j (by decide) (by decide)
  · intro p j n0 n1 n2; rw [bx_cpS_ne n2]; exact hf p j n0 n1
theorem rxsDC151x14_3 {X : (Nat → Int → Int) → Prop} {S0 : Nat → Int → Int} {ws : List Int} (hP : rxPDC151x14 S0 ws) (hX : ∀ S S1 : Nat → Int → Int, X S → bx_same rxL (bx_mdl rxCDC151x14.2.2.1) S S1 → X S1) : rx_obY X S0 rxCDC151x14.2.2.1 (rxIDC151x14 S0 ws) (rxmDC151x14 S0 ws) 3 4 rxzDC151x14_3 16 153 12 := by
  intro S r hinv hXS I0 hin hs_ hf_
  have b_ := bx_bds_sat hs_
  have f_ := bx_fcl_ok hs_.1 hf_
  have g := rxtDC151x14_3 hP hin I0 hinv 
  exact ⟨g.1, g.2, hX _ _ hXS (rx_same_cp (fun _ _ _ _ _ => rfl) (g1 := 12) rfl (by decide +kernel)), rx_same_cp hin (g1 := 12) rfl (by decide +kernel)⟩
theorem rxtDC151x14_5 {S0 : Nat → Int → Int} {ws : List Int} {S : Nat → Int → Int} (hP : rxPDC151x14 S0 ws) (hin : bx_same rxL (bx_mdl rxCDC151x14.2.2.1) S0 S) (I0 : bx_Inv rxL S) (hinv : rxIDC151x14_5 S0 ws S)  : rxIDC151x14_6 S0 ws (bx_cpS S 17 154 12) ∧ rxmDC151x14_6 S0 ws (bx_cpS S 17 154 12) < rxmDC151x14_5 S0 ws S := by
  obtain ⟨h0, h1, h2, hf⟩ := hinv
  refine ⟨⟨?_, ?_, ?_, ?_, ?_⟩, by unfold rxmDC151x14_5 rxmDC151x14_6; omega⟩
  · rw [bx_cpS_ne (by decide)]; exact h0
  · intro j a b; rw [bx_cpS_ne (by decide)]; exact h1 j a b
  · intro j a b; rw [bx_cpS_ne (by decide)]; exact h2 j a b
  · intro j a b; rw [bx_cpS_in a b]; exact hf _ j (by decide) (by decide) (by decide)
  · intro p j n0 n1 n2 n3; rw [bx_cpS_ne n3]; exact hf p j n0 n1 n2
theorem rxsDC151x14_5 {X : (Nat → Int → Int) → Prop} {S0 : Nat → Int → Int} {ws : List Int} (hP : rxPDC151x14 S0 ws) (hX : ∀ S S1 : Nat → Int → Int, X S → bx_same rxL (bx_mdl rxCDC151x14.2.2.1) S S1 → X S1) : rx_obY X S0 rxCDC151x14.2.2.1 (rxIDC151x14 S0 ws) (rxmDC151x14 S0 ws) 5 6 rxzDC151x14_5 17 154 12 := by
  intro S r hinv hXS I0 hin hs_ hf_
  have b_ := bx_bds_sat hs_
  have f_ := bx_fcl_ok hs_.1 hf_
  have g := rxtDC151x14_5 hP hin I0 hinv 
  exact ⟨g.1, g.2, hX _ _ hXS (rx_same_cp (fun _ _ _ _ _ => rfl) (g1 := 13) rfl (by decide +kernel)), rx_same_cp hin (g1 := 13) rfl (by decide +kernel)⟩
theorem rxcDC151x14_0_0 {S0 : Nat → Int → Int} {ws : List Int} {S : Nat → Int → Int} {x8 : Int} (hP : rxPDC151x14 S0 ws) (hin : bx_same rxL (bx_mdl rxCDC151x14.2.2.1) S0 S) (I0 : bx_Inv rxL S) (hinv : rxIDC151x14_0 S0 ws S) (l8 : 0 ≤ x8) (u8 : x8 ≤ 12) (e1 : S 14 0 = x8) : (True) ∧ (True) ∧ rxIDC151x14_1 S0 ws (bx_up S 151 0 x8) ∧ rxmDC151x14_1 S0 ws (bx_up S 151 0 x8) < rxmDC151x14_0 S0 ws S := by
  obtain ⟨rfl, hw⟩ := hinv
  exact ⟨trivial, trivial, ⟨by rw [bx_up_at]; exact e1.symm, fun p j n0 => congrFun (bx_up_row n0) j⟩, by unfold rxmDC151x14_0 rxmDC151x14_1; omega⟩
theorem rxgDC151x14_0_0 {X : (Nat → Int → Int) → Prop} {S0 : Nat → Int → Int} {ws : List Int} (hP : rxPDC151x14 S0 ws) : bx_obC rxL X S0 rxCDC151x14.2.2.1 (rxIDC151x14 S0 ws) (rxmDC151x14 S0 ws) 0 rxzDC151x14_0 rxoDC151x14_0_0 := by
  intro S S_p r r_p hinv hX hin hsm_ hseg
  obtain ⟨I0, I1, h0_, hr_, b_, f_, d_⟩ := bx_cl (evs := [(1, (0, 151), (0, 0), .inr (0, (8, 0))), (0, (0, 14), (0, 0), .inr (0, (8, 0)))]) (fvs := []) hseg (by decide +kernel) (by decide +kernel)
  have hinv : rxIDC151x14_0 S0 ws S := hinv
  obtain ⟨⟨l8, u8⟩, -⟩ := b_
  obtain ⟨T0, ⟨e1, w_⟩, w0⟩ := d_
  subst w0
  subst w_
  have g := rxcDC151x14_0_0 hP hin I0 hinv l8 u8 e1
  refine ⟨bx_narP_ok (l := []) g.1, bx_nfP_ok h0_ (fvs := []) (by decide +kernel) g.2.1, ?_, ?_⟩
  · show rxIDC151x14_1 S0 ws (bx_up T0 151 (0) (r_p 8))
    exact g.2.2.1
  · show rxmDC151x14_1 S0 ws (bx_up T0 151 (0) (r_p 8)) < rxmDC151x14_0 S0 ws T0
    exact g.2.2.2
theorem rxcDC151x14_2_0 {S0 : Nat → Int → Int} {ws : List Int} {S : Nat → Int → Int} (hP : rxPDC151x14 S0 ws) (hin : bx_same rxL (bx_mdl rxCDC151x14.2.2.1) S0 S) (I0 : bx_Inv rxL S) (hinv : rxIDC151x14_2 S0 ws S)  : (True) ∧ (True) ∧ rxIDC151x14_3 S0 ws S ∧ rxmDC151x14_3 S0 ws S < rxmDC151x14_2 S0 ws S := by
  exact ⟨trivial, trivial, hinv, by unfold rxmDC151x14_2 rxmDC151x14_3; omega⟩
theorem rxgDC151x14_2_0 {X : (Nat → Int → Int) → Prop} {S0 : Nat → Int → Int} {ws : List Int} (hP : rxPDC151x14 S0 ws) : bx_obC rxL X S0 rxCDC151x14.2.2.1 (rxIDC151x14 S0 ws) (rxmDC151x14 S0 ws) 2 rxzDC151x14_2 rxoDC151x14_2_0 := by
  intro S S_p r r_p hinv hX hin hsm_ hseg
  obtain ⟨I0, I1, h0_, hr_, b_, f_, d_⟩ := bx_cl (evs := []) (fvs := []) hseg (by decide +kernel) (by decide +kernel)
  have hinv : rxIDC151x14_2 S0 ws S := hinv
  have w_ := d_
  subst w_
  have g := rxcDC151x14_2_0 hP hin I0 hinv 
  refine ⟨bx_narP_ok (l := []) g.1, bx_nfP_ok h0_ (fvs := []) (by decide +kernel) g.2.1, ?_, ?_⟩
  · show rxIDC151x14_3 S0 ws S_p
    exact g.2.2.1
  · show rxmDC151x14_3 S0 ws S_p < rxmDC151x14_2 S0 ws S_p
    exact g.2.2.2
theorem rxcDC151x14_4_0 {S0 : Nat → Int → Int} {ws : List Int} {S : Nat → Int → Int} (hP : rxPDC151x14 S0 ws) (hin : bx_same rxL (bx_mdl rxCDC151x14.2.2.1) S0 S) (I0 : bx_Inv rxL S) (hinv : rxIDC151x14_4 S0 ws S)  : (True) ∧ (True) ∧ rxIDC151x14_5 S0 ws S ∧ rxmDC151x14_5 S0 ws S < rxmDC151x14_4 S0 ws S := by
  exact ⟨trivial, trivial, hinv, by unfold rxmDC151x14_4 rxmDC151x14_5; omega⟩
theorem rxgDC151x14_4_0 {X : (Nat → Int → Int) → Prop} {S0 : Nat → Int → Int} {ws : List Int} (hP : rxPDC151x14 S0 ws) : bx_obC rxL X S0 rxCDC151x14.2.2.1 (rxIDC151x14 S0 ws) (rxmDC151x14 S0 ws) 4 rxzDC151x14_4 rxoDC151x14_4_0 := by
  intro S S_p r r_p hinv hX hin hsm_ hseg
  obtain ⟨I0, I1, h0_, hr_, b_, f_, d_⟩ := bx_cl (evs := []) (fvs := []) hseg (by decide +kernel) (by decide +kernel)
  have hinv : rxIDC151x14_4 S0 ws S := hinv
  have w_ := d_
  subst w_
  have g := rxcDC151x14_4_0 hP hin I0 hinv 
  refine ⟨bx_narP_ok (l := []) g.1, bx_nfP_ok h0_ (fvs := []) (by decide +kernel) g.2.1, ?_, ?_⟩
  · show rxIDC151x14_5 S0 ws S_p
    exact g.2.2.1
  · show rxmDC151x14_5 S0 ws S_p < rxmDC151x14_4 S0 ws S_p
    exact g.2.2.2
theorem rxdDC151x14_6_0 {S0 : Nat → Int → Int} {ws : List Int} {S : Nat → Int → Int} (hP : rxPDC151x14 S0 ws) (hin : bx_same rxL (bx_mdl rxCDC151x14.2.2.1) S0 S) (hin2 : bx_same rxL (bx_mdl rxCDC151x14.2.2.1) S S) (I0 : bx_Inv rxL S) (I1 : bx_Inv rxL S) (hinv : rxIDC151x14_6 S0 ws S)  : (True) ∧ rxPSDC151x14 S0 ws S none := by
  exact ⟨trivial, rfl, hinv⟩
theorem rxfDC151x14_6_0 {X : (Nat → Int → Int) → Prop} {S0 : Nat → Int → Int} {ws : List Int} (hP : rxPDC151x14 S0 ws) : bx_obE rxL X S0 rxCDC151x14.2.2.1 (rxIDC151x14 S0 ws) (rxPSDC151x14 S0 ws) 6 rxzDC151x14_6 rxeDC151x14_6_0 := by
  intro S S_p r r_p hinv hX hin hsm_ hseg
  obtain ⟨I0, I1, h0_, hr_, b_, f_, d_⟩ := bx_cl (evs := []) (fvs := []) hseg (by decide +kernel) (by decide +kernel)
  have hinv : rxIDC151x14_6 S0 ws S := hinv
  have w_ := d_
  subst w_
  have g := rxdDC151x14_6_0 hP hin hsm_ I0 I1 hinv 
  refine ⟨bx_narP_ok (l := []) g.1, ?_⟩
  exact g.2
theorem rxgCDC151x14 {X : (Nat → Int → Int) → Prop} {S0 : Nat → Int → Int} {ws : List Int} (hP : rxPDC151x14 S0 ws) : bx_allI (fun i q => rxUDC151x14 q = true ∨ bx_allP (fun o => bx_obC rxL X S0 rxCDC151x14.2.2.1 (rxIDC151x14 S0 ws) (rxmDC151x14 S0 ws) i q.1 o) q.2.1) 0 rxYDC151x14 := ⟨Or.inr ⟨rxgDC151x14_0_0 hP, trivial⟩, Or.inl rfl, Or.inr ⟨rxgDC151x14_2_0 hP, trivial⟩, Or.inl rfl, Or.inr ⟨rxgDC151x14_4_0 hP, trivial⟩, Or.inl rfl, Or.inr trivial, trivial⟩
theorem rxgEDC151x14 {X : (Nat → Int → Int) → Prop} {S0 : Nat → Int → Int} {ws : List Int} (hP : rxPDC151x14 S0 ws) : bx_allI (fun i q => rxUDC151x14 q = true ∨ bx_allP (fun E => bx_obE rxL X S0 rxCDC151x14.2.2.1 (rxIDC151x14 S0 ws) (rxPSDC151x14 S0 ws) i q.1 E) q.2.2) 0 rxYDC151x14 := ⟨Or.inr trivial, Or.inl rfl, Or.inr trivial, Or.inl rfl, Or.inr trivial, Or.inl rfl, Or.inr ⟨rxfDC151x14_6_0 hP, trivial⟩, trivial⟩
theorem rxuDC151x14 {PX : State → Prop} {Dg : va_G} {A : Nat → Prop} {ad xa : Nat → Nat} {l : Launch} {X : (Nat → Int → Int) → Prop} (hPX : rx_PXOK rxNW A PX) (hX : ∀ S S1 : Nat → Int → Int, X S → bx_same rxL (bx_mdl rxCDC151x14.2.2.1) S S1 → X S1) {S0 : Nat → Int → Int} {ws : List Int} (hP : rxPDC151x14 S0 ws) : ∀ (i : Nat) (q : bx_HE), rxYDC151x14[i]? = some q → rxUDC151x14 q = true → ∀ {p : Program} {e : Env} {R : Room} {s : State} {m : MethodId} {args : Array Value} {below : List Frame} {meth : Method} {c : Code} {Q : State → Prop} {H0 : Heap}, rx_Fr rxG rxNW rxAO PX p s m args meth c rxM109 → (∀ q, H0.size ≤ q → A q) → H0 = s.heap → rxM109.2.2.2.2.2.2.1 ≤ R.cells → rxM109.2.2.2.2.2.2.2 ≤ R.slots → rxCDC151x14.2.2.2.1 ≤ R.frames → rxCDC151x14.2.2.2.1 * 40 ≤ R.locals → bx_Step p l e R s m args below meth c Q Dg rxL X vwCl A xa H0 ad rxM109 rxYDC151x14 (rxIDC151x14 S0 ws) (rxmDC151x14 S0 ws) S0 rxCDC151x14.2.2.1 i q := by
  intro i q hq hus p e R s m args below meth c Q H0 hF hA hH0 hmc hms hd hdl
  match i, hq with
  | 0, hq =>
    cases hq
    exact absurd (show false = true from hus) Bool.false_ne_true
  | 1, hq =>
    cases hq
    exact rx_stepY (i_p := 2) (idx := 28) (P0 := 15) (P1 := 152) (n := 12) (g0 := 11) (g1 := 11) (t := []) hF rfl (Nat.le_trans (by decide) hd) (Nat.le_trans (by decide) hdl) (by decide +kernel) (by decide +kernel) rfl rfl (by decide) (by decide) rfl rfl (by decide) (by decide) rfl rfl (by decide) (by decide) rfl rfl (rxsDC151x14_1 hP hX)
  | 2, hq =>
    cases hq
    exact absurd (show false = true from hus) Bool.false_ne_true
  | 3, hq =>
    cases hq
    exact rx_stepY (i_p := 4) (idx := 28) (P0 := 16) (P1 := 153) (n := 12) (g0 := 12) (g1 := 12) (t := []) hF rfl (Nat.le_trans (by decide) hd) (Nat.le_trans (by decide) hdl) (by decide +kernel) (by decide +kernel) rfl rfl (by decide) (by decide) rfl rfl (by decide) (by decide) rfl rfl (by decide) (by decide) rfl rfl (rxsDC151x14_3 hP hX)
  | 4, hq =>
    cases hq
    exact absurd (show false = true from hus) Bool.false_ne_true
  | 5, hq =>
    cases hq
    exact rx_stepY (i_p := 6) (idx := 28) (P0 := 17) (P1 := 154) (n := 12) (g0 := 13) (g1 := 13) (t := []) hF rfl (Nat.le_trans (by decide) hd) (Nat.le_trans (by decide) hdl) (by decide +kernel) (by decide +kernel) rfl rfl (by decide) (by decide) rfl rfl (by decide) (by decide) rfl rfl (by decide) (by decide) rfl rfl (rxsDC151x14_5 hP hX)
  | 6, hq =>
    cases hq
    exact absurd (show false = true from hus) Bool.false_ne_true
  | n + 7, hq => cases hq
theorem rxQDC151x14 {PX : State → Prop} {Dg : va_G} {A : Nat → Prop} {ad xa : Nat → Nat} {l : Launch} {X : (Nat → Int → Int) → Prop} (hPX : rx_PXOK rxNW A PX) (hsl : ∀ s : State, PX s → ∀ o idx n : Nat, rxSl o idx = some n → ∃ tx : String, vk_R (rxNm o) idx tx (ad n) s)
    (hX : ∀ S S_p : Nat → Int → Int, X S → bx_same rxL (bx_mdl rxCDC151x14.2.2.1) S S_p → X S_p)
    (ih : ∀ (j2 : Nat) (ct2 : bx_Ct) (M2 : rx_Mt), ct2 ∈ rxCnE j2 → ct2.2.2.2.1 + 1 ≤ rxCDC151x14.2.2.2.1 → rxT.2.2.2.2.2 j2 = some M2 → bx_Con rxG rxNW rxAO PX Dg rxL X vwCl A ad l M2 ct2) : bx_ConP rxG rxNW rxAO PX Dg rxL X vwCl A ad l rxM109 rxCDC151x14 rxPDC151x14 rxPSDC151x14 :=
  rxQof (xa := xa) (Cn := rxCnE) (f := 30000) (j := 109) (tab := rxYDC151x14) (us := rxUDC151x14) hPX hsl hX ih rfl rxYcDC151x14 rxIDC151x14 rxmDC151x14
    (fun S0 ws r I0 I ht0 ht as he he1 hX0 hI0 hP hs ha => by
      have e := he.symm.trans (show bx_ent0 rxNP rxCDC151x14.1 bx_I0 [] = some ([(0, 0), (0, 0), (0, 0), (0, 0), (0, 0), (0, 0), (0, 0), (0, 0)], [], [.inr (3, (0, 151)), .inr (3, (0, 14))]) from rfl)
      cases e
      subst ha
      have h0 : r 0 = 0 := hs.1
      show rxIDC151x14_0 S0 _ S0
      refine ⟨rfl, ?_⟩
      simp only [List.map_cons, List.map_nil, bx_xv_ok h0]
      rfl)
    (fun S0 ws hP => rxuDC151x14 (xa := xa) hPX hX hP) (fun S0 ws hP => rxgCDC151x14 hP) (fun S0 ws hP => rxgEDC151x14 hP)
