/-! CONTRACT BY HAND, by program (wip/sim/genhand.py): DeadUnderstudies$People.copyFrom -/
def rxCPC142x5 : bx_Ct := ([(3, (1, 142, 0)), (3, (1, 5, 0))], none, [(5, 0), (1003, 0), (1004, 0), (1005, 0)], 1, [])
def rxIPC142x5_0 (S0 : Nat → Int → Int) (ws : List Int) (S : Nat → Int → Int) : Prop := S = S0 ∧ ws = [142, 5]
def rxmPC142x5_0 (S0 : Nat → Int → Int) (ws : List Int) (S : Nat → Int → Int) : Nat := 100
def rxzPC142x5_0 : rx_Z := ([(0, 0), (0, 0), (0, 0), (0, 0), (0, 0), (0, 0), (0, 0), (0, 0)], [], [], 0, 0, 0, [(0, .inr (3, (0, 142))), (1, .inr (3, (0, 5)))], [])
def rxIPC142x5_1 (S0 : Nat → Int → Int) (ws : List Int) (S : Nat → Int → Int) : Prop := S 142 0 = S0 5 0 ∧ (∀ (p : Nat) (j : Int), p ≠ 142 → S p j = S0 p j)
def rxmPC142x5_1 (S0 : Nat → Int → Int) (ws : List Int) (S : Nat → Int → Int) : Nat := 90
def rxzPC142x5_1 : rx_Z := ([(0, 0), (0, 0), (0, 0), (0, 0), (0, 0), (0, 0), (0, 0), (0, 0)], [], [], 0, 0, 20, [(0, .inr (3, (0, 142))), (1, .inr (3, (0, 5)))], [.inr (0, (0, 8)), .inr (0, (0, 0)), .inr (3, (0, 143)), .inr (0, (0, 0)), .inr (3, (0, 6))])
def rxIPC142x5_2 (S0 : Nat → Int → Int) (ws : List Int) (S : Nat → Int → Int) : Prop := S 142 0 = S0 5 0 ∧ (∀ j : Int, 0 ≤ j → j < 8 → S 143 j = S0 6 j) ∧ (∀ (p : Nat) (j : Int), p ≠ 142 → p ≠ 143 → S p j = S0 p j)
def rxmPC142x5_2 (S0 : Nat → Int → Int) (ws : List Int) (S : Nat → Int → Int) : Nat := 85
def rxzPC142x5_2 : rx_Z := ([(0, 0), (0, 0), (0, 0), (0, 0), (0, 0), (0, 0), (0, 0), (0, 0)], [], [], 0, 0, 23, [(0, .inr (3, (0, 142))), (1, .inr (3, (0, 5)))], [])
def rxIPC142x5_3 (S0 : Nat → Int → Int) (ws : List Int) (S : Nat → Int → Int) : Prop := S 142 0 = S0 5 0 ∧ (∀ j : Int, 0 ≤ j → j < 8 → S 143 j = S0 6 j) ∧ (∀ (p : Nat) (j : Int), p ≠ 142 → p ≠ 143 → S p j = S0 p j)
def rxmPC142x5_3 (S0 : Nat → Int → Int) (ws : List Int) (S : Nat → Int → Int) : Nat := 80
def rxzPC142x5_3 : rx_Z := ([(0, 0), (0, 0), (0, 0), (0, 0), (0, 0), (0, 0), (0, 0), (0, 0)], [], [], 0, 0, 35, [(0, .inr (3, (0, 142))), (1, .inr (3, (0, 5)))], [.inr (0, (0, 8)), .inr (0, (0, 0)), .inr (3, (0, 144)), .inr (0, (0, 0)), .inr (3, (0, 7))])
def rxIPC142x5_4 (S0 : Nat → Int → Int) (ws : List Int) (S : Nat → Int → Int) : Prop := S 142 0 = S0 5 0 ∧ (∀ j : Int, 0 ≤ j → j < 8 → S 143 j = S0 6 j) ∧ (∀ j : Int, 0 ≤ j → j < 8 → S 144 j = S0 7 j) ∧ (∀ (p : Nat) (j : Int), p ≠ 142 → p ≠ 143 → p ≠ 144 → S p j = S0 p j)
def rxmPC142x5_4 (S0 : Nat → Int → Int) (ws : List Int) (S : Nat → Int → Int) : Nat := 75
def rxzPC142x5_4 : rx_Z := ([(0, 0), (0, 0), (0, 0), (0, 0), (0, 0), (0, 0), (0, 0), (0, 0)], [], [], 0, 0, 38, [(0, .inr (3, (0, 142))), (1, .inr (3, (0, 5)))], [])
def rxIPC142x5_5 (S0 : Nat → Int → Int) (ws : List Int) (S : Nat → Int → Int) : Prop := S 142 0 = S0 5 0 ∧ (∀ j : Int, 0 ≤ j → j < 8 → S 143 j = S0 6 j) ∧ (∀ j : Int, 0 ≤ j → j < 8 → S 144 j = S0 7 j) ∧ (∀ (p : Nat) (j : Int), p ≠ 142 → p ≠ 143 → p ≠ 144 → S p j = S0 p j)
def rxmPC142x5_5 (S0 : Nat → Int → Int) (ws : List Int) (S : Nat → Int → Int) : Nat := 70
def rxzPC142x5_5 : rx_Z := ([(0, 0), (0, 0), (0, 0), (0, 0), (0, 0), (0, 0), (0, 0), (0, 0)], [], [], 0, 0, 50, [(0, .inr (3, (0, 142))), (1, .inr (3, (0, 5)))], [.inr (0, (0, 8)), .inr (0, (0, 0)), .inr (3, (0, 145)), .inr (0, (0, 0)), .inr (3, (0, 8))])
def rxIPC142x5_6 (S0 : Nat → Int → Int) (ws : List Int) (S : Nat → Int → Int) : Prop := S 142 0 = S0 5 0 ∧ (∀ j : Int, 0 ≤ j → j < 8 → S 143 j = S0 6 j) ∧ (∀ j : Int, 0 ≤ j → j < 8 → S 144 j = S0 7 j) ∧ (∀ j : Int, 0 ≤ j → j < 8 → S 145 j = S0 8 j) ∧ (∀ (p : Nat) (j : Int), p ≠ 142 → p ≠ 143 → p ≠ 144 → p ≠ 145 → S p j = S0 p j)
def rxmPC142x5_6 (S0 : Nat → Int → Int) (ws : List Int) (S : Nat → Int → Int) : Nat := 65
def rxzPC142x5_6 : rx_Z := ([(0, 0), (0, 0), (0, 0), (0, 0), (0, 0), (0, 0), (0, 0), (0, 0)], [], [], 0, 0, 53, [(0, .inr (3, (0, 142))), (1, .inr (3, (0, 5)))], [])
def rxoPC142x5_0_0 : bx_HO := (([(0, 0), (0, 0), (0, 0), (0, 0), (0, 0), (0, 0), (0, 0), (0, 0), (0, 8)], [], [(((0, 142), 1), .inr (3, (0, 143))), (((0, 5), 1), .inr (3, (0, 6))), (((0, 0), 1851192626986356797424340330377019318111018015026043177637117955000000), .inr (0, (8, 0))), (((0, 142), 0), .inr (0, (8, 0))), (((0, 0), 1851192626986356797424340330377019318111018015026043177556312064000000), .inr (0, (8, 0)))], 0, 0, 20, [(0, .inr (3, (0, 142))), (1, .inr (3, (0, 5)))], [.inr (0, (0, 8)), .inr (0, (0, 0)), .inr (3, (0, 143)), .inr (0, (0, 0)), .inr (3, (0, 6))]), [], [], [(0, 0), (0, 0), (0, 0), (0, 0), (0, 0), (0, 0), (0, 0), (0, 0)], 1)
def rxoPC142x5_2_0 : bx_HO := (([(0, 0), (0, 0), (0, 0), (0, 0), (0, 0), (0, 0), (0, 0), (0, 0)], [], [(((0, 142), 2), .inr (3, (0, 144))), (((0, 5), 2), .inr (3, (0, 7)))], 0, 0, 35, [(0, .inr (3, (0, 142))), (1, .inr (3, (0, 5)))], [.inr (0, (0, 8)), .inr (0, (0, 0)), .inr (3, (0, 144)), .inr (0, (0, 0)), .inr (3, (0, 7))]), [], [], [(0, 0), (0, 0), (0, 0), (0, 0), (0, 0), (0, 0), (0, 0), (0, 0)], 3)
def rxoPC142x5_4_0 : bx_HO := (([(0, 0), (0, 0), (0, 0), (0, 0), (0, 0), (0, 0), (0, 0), (0, 0)], [], [(((0, 142), 3), .inr (3, (0, 145))), (((0, 5), 3), .inr (3, (0, 8)))], 0, 0, 50, [(0, .inr (3, (0, 142))), (1, .inr (3, (0, 5)))], [.inr (0, (0, 8)), .inr (0, (0, 0)), .inr (3, (0, 145)), .inr (0, (0, 0)), .inr (3, (0, 8))]), [], [], [(0, 0), (0, 0), (0, 0), (0, 0), (0, 0), (0, 0), (0, 0), (0, 0)], 5)
def rxePC142x5_6_0 : rx_End × List (Nat × Int × Int) := (([(0, 0), (0, 0), (0, 0), (0, 0), (0, 0), (0, 0), (0, 0), (0, 0)], [], [], none), [])
def rxYPC142x5 : List bx_HE := [(rxzPC142x5_0, [rxoPC142x5_0_0], []), (rxzPC142x5_1, [], []), (rxzPC142x5_2, [rxoPC142x5_2_0], []), (rxzPC142x5_3, [], []), (rxzPC142x5_4, [rxoPC142x5_4_0], []), (rxzPC142x5_5, [], []), (rxzPC142x5_6, [], [rxePC142x5_6_0])]
def rxUPC142x5 (q : bx_HE) : Bool := Nat.beq (rx_zpc q.1) 20 || Nat.beq (rx_zpc q.1) 35 || Nat.beq (rx_zpc q.1) 50
def rxYBPC142x5 : bx_B := (rxV, rxNP, rxDmf, bx_mdH rxCPC142x5.2.2.1)
set_option maxRecDepth 100000 in
theorem rxYcPC142x5 : bx_chkH rxYBPC142x5 rxM108 rxCPC142x5 rxYPC142x5 (rxUPC142x5, fun cut z => rx_ex2 (rxCT rxYBPC142x5 rxCnE) cut 30000 rxCPC142x5.2.2.2.1 108 z) = true := by decide +kernel
def rxIPC142x5 (S0 : Nat → Int → Int) (ws : List Int) (i : Nat) : bx_SP := fun S r => match i with | 0 => rxIPC142x5_0 S0 ws S | 1 => rxIPC142x5_1 S0 ws S | 2 => rxIPC142x5_2 S0 ws S | 3 => rxIPC142x5_3 S0 ws S | 4 => rxIPC142x5_4 S0 ws S | 5 => rxIPC142x5_5 S0 ws S | 6 => rxIPC142x5_6 S0 ws S | _ => False
def rxmPC142x5 (S0 : Nat → Int → Int) (ws : List Int) (i : Nat) (S : Nat → Int → Int) (r : Nat → Int) : Nat := match i with | 0 => rxmPC142x5_0 S0 ws S | 1 => rxmPC142x5_1 S0 ws S | 2 => rxmPC142x5_2 S0 ws S | 3 => rxmPC142x5_3 S0 ws S | 4 => rxmPC142x5_4 S0 ws S | 5 => rxmPC142x5_5 S0 ws S | 6 => rxmPC142x5_6 S0 ws S | _ => 0
def rxPPC142x5 (S0 : Nat → Int → Int) (ws : List Int) : Prop := True
def rxPSPC142x5 (S0 : Nat → Int → Int) (ws : List Int) (S : Nat → Int → Int) (w : Option Int) : Prop := w = none ∧ S 142 0 = S0 5 0 ∧ (∀ j : Int, 0 ≤ j → j < 8 → S 143 j = S0 6 j) ∧ (∀ j : Int, 0 ≤ j → j < 8 → S 144 j = S0 7 j) ∧ (∀ j : Int, 0 ≤ j → j < 8 → S 145 j = S0 8 j) ∧ (∀ (p : Nat) (j : Int), p ≠ 142 → p ≠ 143 → p ≠ 144 → p ≠ 145 → S p j = S0 p j)
theorem rxtPC142x5_1 {S0 : Nat → Int → Int} {ws : List Int} {S : Nat → Int → Int} (hP : rxPPC142x5 S0 ws) (hin : bx_same rxL (bx_mdl rxCPC142x5.2.2.1) S0 S) (I0 : bx_Inv rxL S) (hinv : rxIPC142x5_1 S0 ws S)  : rxIPC142x5_2 S0 ws (bx_cpS S 6 143 8) ∧ rxmPC142x5_2 S0 ws (bx_cpS S 6 143 8) < rxmPC142x5_1 S0 ws S := by
  obtain ⟨h0, hf⟩ := hinv
  refine ⟨⟨?_, ?_, ?_⟩, by unfold rxmPC142x5_1 rxmPC142x5_2; omega⟩
  · rw [bx_cpS_ne (by decide)]; exact h0
  · intro j a b; rw [bx_cpS_in a b]; exact hf _ j (by decide)
  · intro p j n0 n1; rw [bx_cpS_ne n1]; exact hf p j n0
theorem rxsPC142x5_1 {X : (Nat → Int → Int) → Prop} {S0 : Nat → Int → Int} {ws : List Int} (hP : rxPPC142x5 S0 ws) (hX : ∀ S S1 : Nat → Int → Int, X S → bx_same rxL (bx_mdl rxCPC142x5.2.2.1) S S1 → X S1) : rx_obY X S0 rxCPC142x5.2.2.1 (rxIPC142x5 S0 ws) (rxmPC142x5 S0 ws) 1 2 rxzPC142x5_1 6 143 8 := by
  intro S r hinv hXS I0 hin hs_ hf_
  have b_ := bx_bds_sat hs_
  have f_ := bx_fcl_ok hs_.1 hf_
  have g := rxtPC142x5_1 hP hin I0 hinv 
  exact ⟨g.1, g.2, hX _ _ hXS (rx_same_cp (fun _ _ _ _ _ => rfl) (g1 := 3) rfl (by decide +kernel)), rx_same_cp hin (g1 := 3) rfl (by decide +kernel)⟩
theorem rxtPC142x5_3 {S0 : Nat → Int → Int} {ws : List Int} {S : Nat → Int → Int} (hP : rxPPC142x5 S0 ws) (hin : bx_same rxL (bx_mdl rxCPC142x5.2.2.1) S0 S) (I0 : bx_Inv rxL S) (hinv : rxIPC142x5_3 S0 ws S)  : rxIPC142x5_4 S0 ws (bx_cpS S 7 144 8) ∧ rxmPC142x5_4 S0 ws (bx_cpS S 7 144 8) < rxmPC142x5_3 S0 ws S := by
  obtain ⟨h0, h1, hf⟩ := hinv
  refine ⟨⟨?_, ?_, ?_, ?_⟩, by unfold rxmPC142x5_3 rxmPC142x5_4; omega⟩
  · rw [bx_cpS_ne (by decide)]; exact h0
  · intro j a b; rw [bx_cpS_ne (by decide)]; exact h1 j a b
  · intro j a b; rw [bx_cpS_in a b]; exact hf _ j (by decide) (by decide)
  · intro p j n0 n1 n2; rw [bx_cpS_ne n2]; exact hf p j n0 n1
theorem rxsPC142x5_3 {X : (Nat → Int → Int) → Prop} {S0 : Nat → Int → Int} {ws : List Int} (hP : rxPPC142x5 S0 ws) (hX : ∀ S S1 : Nat → Int → Int, X S → bx_same rxL (bx_mdl rxCPC142x5.2.2.1) S S1 → X S1) : rx_obY X S0 rxCPC142x5.2.2.1 (rxIPC142x5 S0 ws) (rxmPC142x5 S0 ws) 3 4 rxzPC142x5_3 7 144 8 := by
  intro S r hinv hXS I0 hin hs_ hf_
  have b_ := bx_bds_sat hs_
  have f_ := bx_fcl_ok hs_.1 hf_
  have g := rxtPC142x5_3 hP hin I0 hinv 
  exact ⟨g.1, g.2, hX _ _ hXS (rx_same_cp (fun _ _ _ _ _ => rfl) (g1 := 4) rfl (by decide +kernel)), rx_same_cp hin (g1 := 4) rfl (by decide +kernel)⟩
theorem rxtPC142x5_5 {S0 : Nat → Int → Int} {ws : List Int} {S : Nat → Int → Int} (hP : rxPPC142x5 S0 ws) (hin : bx_same rxL (bx_mdl rxCPC142x5.2.2.1) S0 S) (I0 : bx_Inv rxL S) (hinv : rxIPC142x5_5 S0 ws S)  : rxIPC142x5_6 S0 ws (bx_cpS S 8 145 8) ∧ rxmPC142x5_6 S0 ws (bx_cpS S 8 145 8) < rxmPC142x5_5 S0 ws S := by
  obtain ⟨h0, h1, h2, hf⟩ := hinv
  refine ⟨⟨?_, ?_, ?_, ?_, ?_⟩, by unfold rxmPC142x5_5 rxmPC142x5_6; omega⟩
  · rw [bx_cpS_ne (by decide)]; exact h0
  · intro j a b; rw [bx_cpS_ne (by decide)]; exact h1 j a b
  · intro j a b; rw [bx_cpS_ne (by decide)]; exact h2 j a b
  · intro j a b; rw [bx_cpS_in a b]; exact hf _ j (by decide) (by decide) (by decide)
  · intro p j n0 n1 n2 n3; rw [bx_cpS_ne n3]; exact hf p j n0 n1 n2
theorem rxsPC142x5_5 {X : (Nat → Int → Int) → Prop} {S0 : Nat → Int → Int} {ws : List Int} (hP : rxPPC142x5 S0 ws) (hX : ∀ S S1 : Nat → Int → Int, X S → bx_same rxL (bx_mdl rxCPC142x5.2.2.1) S S1 → X S1) : rx_obY X S0 rxCPC142x5.2.2.1 (rxIPC142x5 S0 ws) (rxmPC142x5 S0 ws) 5 6 rxzPC142x5_5 8 145 8 := by
  intro S r hinv hXS I0 hin hs_ hf_
  have b_ := bx_bds_sat hs_
  have f_ := bx_fcl_ok hs_.1 hf_
  have g := rxtPC142x5_5 hP hin I0 hinv 
  exact ⟨g.1, g.2, hX _ _ hXS (rx_same_cp (fun _ _ _ _ _ => rfl) (g1 := 5) rfl (by decide +kernel)), rx_same_cp hin (g1 := 5) rfl (by decide +kernel)⟩
theorem rxcPC142x5_0_0 {S0 : Nat → Int → Int} {ws : List Int} {S : Nat → Int → Int} {x8 : Int} (hP : rxPPC142x5 S0 ws) (hin : bx_same rxL (bx_mdl rxCPC142x5.2.2.1) S0 S) (I0 : bx_Inv rxL S) (hinv : rxIPC142x5_0 S0 ws S) (l8 : 0 ≤ x8) (u8 : x8 ≤ 8) (e1 : S 5 0 = x8) : (True) ∧ (True) ∧ rxIPC142x5_1 S0 ws (bx_up S 142 0 x8) ∧ rxmPC142x5_1 S0 ws (bx_up S 142 0 x8) < rxmPC142x5_0 S0 ws S := by
  obtain ⟨rfl, hw⟩ := hinv
  exact ⟨trivial, trivial, ⟨by rw [bx_up_at]; exact e1.symm, fun p j n0 => congrFun (bx_up_row n0) j⟩, by unfold rxmPC142x5_0 rxmPC142x5_1; omega⟩
theorem rxgPC142x5_0_0 {X : (Nat → Int → Int) → Prop} {S0 : Nat → Int → Int} {ws : List Int} (hP : rxPPC142x5 S0 ws) : bx_obC rxL X S0 rxCPC142x5.2.2.1 (rxIPC142x5 S0 ws) (rxmPC142x5 S0 ws) 0 rxzPC142x5_0 rxoPC142x5_0_0 := by
  intro S S_p r r_p hinv hX hin hsm_ hseg
  obtain ⟨I0, I1, h0_, hr_, b_, f_, d_⟩ := bx_cl (evs := [(1, (0, 142), (0, 0), .inr (0, (8, 0))), (0, (0, 5), (0, 0), .inr (0, (8, 0)))]) (fvs := []) hseg (by decide +kernel) (by decide +kernel)
  have hinv : rxIPC142x5_0 S0 ws S := hinv
  obtain ⟨⟨l8, u8⟩, -⟩ := b_
  obtain ⟨T0, ⟨e1, w_⟩, w0⟩ := d_
  subst w0
  subst w_
  have g := rxcPC142x5_0_0 hP hin I0 hinv l8 u8 e1
  refine ⟨bx_narP_ok (l := []) g.1, bx_nfP_ok h0_ (fvs := []) (by decide +kernel) g.2.1, ?_, ?_⟩
  · show rxIPC142x5_1 S0 ws (bx_up T0 142 (0) (r_p 8))
    exact g.2.2.1
  · show rxmPC142x5_1 S0 ws (bx_up T0 142 (0) (r_p 8)) < rxmPC142x5_0 S0 ws T0
    exact g.2.2.2
theorem rxcPC142x5_2_0 {S0 : Nat → Int → Int} {ws : List Int} {S : Nat → Int → Int} (hP : rxPPC142x5 S0 ws) (hin : bx_same rxL (bx_mdl rxCPC142x5.2.2.1) S0 S) (I0 : bx_Inv rxL S) (hinv : rxIPC142x5_2 S0 ws S)  : (True) ∧ (True) ∧ rxIPC142x5_3 S0 ws S ∧ rxmPC142x5_3 S0 ws S < rxmPC142x5_2 S0 ws S := by
  exact ⟨trivial, trivial, hinv, by unfold rxmPC142x5_2 rxmPC142x5_3; omega⟩
theorem rxgPC142x5_2_0 {X : (Nat → Int → Int) → Prop} {S0 : Nat → Int → Int} {ws : List Int} (hP : rxPPC142x5 S0 ws) : bx_obC rxL X S0 rxCPC142x5.2.2.1 (rxIPC142x5 S0 ws) (rxmPC142x5 S0 ws) 2 rxzPC142x5_2 rxoPC142x5_2_0 := by
  intro S S_p r r_p hinv hX hin hsm_ hseg
  obtain ⟨I0, I1, h0_, hr_, b_, f_, d_⟩ := bx_cl (evs := []) (fvs := []) hseg (by decide +kernel) (by decide +kernel)
  have hinv : rxIPC142x5_2 S0 ws S := hinv
  have w_ := d_
  subst w_
  have g := rxcPC142x5_2_0 hP hin I0 hinv 
  refine ⟨bx_narP_ok (l := []) g.1, bx_nfP_ok h0_ (fvs := []) (by decide +kernel) g.2.1, ?_, ?_⟩
  · show rxIPC142x5_3 S0 ws S_p
    exact g.2.2.1
  · show rxmPC142x5_3 S0 ws S_p < rxmPC142x5_2 S0 ws S_p
    exact g.2.2.2
theorem rxcPC142x5_4_0 {S0 : Nat → Int → Int} {ws : List Int} {S : Nat → Int → Int} (hP : rxPPC142x5 S0 ws) (hin : bx_same rxL (bx_mdl rxCPC142x5.2.2.1) S0 S) (I0 : bx_Inv rxL S) (hinv : rxIPC142x5_4 S0 ws S)  : (True) ∧ (True) ∧ rxIPC142x5_5 S0 ws S ∧ rxmPC142x5_5 S0 ws S < rxmPC142x5_4 S0 ws S := by
  exact ⟨trivial, trivial, hinv, by unfold rxmPC142x5_4 rxmPC142x5_5; omega⟩
theorem rxgPC142x5_4_0 {X : (Nat → Int → Int) → Prop} {S0 : Nat → Int → Int} {ws : List Int} (hP : rxPPC142x5 S0 ws) : bx_obC rxL X S0 rxCPC142x5.2.2.1 (rxIPC142x5 S0 ws) (rxmPC142x5 S0 ws) 4 rxzPC142x5_4 rxoPC142x5_4_0 := by
  intro S S_p r r_p hinv hX hin hsm_ hseg
  obtain ⟨I0, I1, h0_, hr_, b_, f_, d_⟩ := bx_cl (evs := []) (fvs := []) hseg (by decide +kernel) (by decide +kernel)
  have hinv : rxIPC142x5_4 S0 ws S := hinv
  have w_ := d_
  subst w_
  have g := rxcPC142x5_4_0 hP hin I0 hinv 
  refine ⟨bx_narP_ok (l := []) g.1, bx_nfP_ok h0_ (fvs := []) (by decide +kernel) g.2.1, ?_, ?_⟩
  · show rxIPC142x5_5 S0 ws S_p
    exact g.2.2.1
  · show rxmPC142x5_5 S0 ws S_p < rxmPC142x5_4 S0 ws S_p
    exact g.2.2.2
theorem rxdPC142x5_6_0 {S0 : Nat → Int → Int} {ws : List Int} {S : Nat → Int → Int} (hP : rxPPC142x5 S0 ws) (hin : bx_same rxL (bx_mdl rxCPC142x5.2.2.1) S0 S) (hin2 : bx_same rxL (bx_mdl rxCPC142x5.2.2.1) S S) (I0 : bx_Inv rxL S) (I1 : bx_Inv rxL S) (hinv : rxIPC142x5_6 S0 ws S)  : (True) ∧ rxPSPC142x5 S0 ws S none := by
  exact ⟨trivial, rfl, hinv⟩
theorem rxfPC142x5_6_0 {X : (Nat → Int → Int) → Prop} {S0 : Nat → Int → Int} {ws : List Int} (hP : rxPPC142x5 S0 ws) : bx_obE rxL X S0 rxCPC142x5.2.2.1 (rxIPC142x5 S0 ws) (rxPSPC142x5 S0 ws) 6 rxzPC142x5_6 rxePC142x5_6_0 := by
  intro S S_p r r_p hinv hX hin hsm_ hseg
  obtain ⟨I0, I1, h0_, hr_, b_, f_, d_⟩ := bx_cl (evs := []) (fvs := []) hseg (by decide +kernel) (by decide +kernel)
  have hinv : rxIPC142x5_6 S0 ws S := hinv
  have w_ := d_
  subst w_
  have g := rxdPC142x5_6_0 hP hin hsm_ I0 I1 hinv 
  refine ⟨bx_narP_ok (l := []) g.1, ?_⟩
  exact g.2
theorem rxgCPC142x5 {X : (Nat → Int → Int) → Prop} {S0 : Nat → Int → Int} {ws : List Int} (hP : rxPPC142x5 S0 ws) : bx_allI (fun i q => rxUPC142x5 q = true ∨ bx_allP (fun o => bx_obC rxL X S0 rxCPC142x5.2.2.1 (rxIPC142x5 S0 ws) (rxmPC142x5 S0 ws) i q.1 o) q.2.1) 0 rxYPC142x5 := ⟨Or.inr ⟨rxgPC142x5_0_0 hP, trivial⟩, Or.inl rfl, Or.inr ⟨rxgPC142x5_2_0 hP, trivial⟩, Or.inl rfl, Or.inr ⟨rxgPC142x5_4_0 hP, trivial⟩, Or.inl rfl, Or.inr trivial, trivial⟩
theorem rxgEPC142x5 {X : (Nat → Int → Int) → Prop} {S0 : Nat → Int → Int} {ws : List Int} (hP : rxPPC142x5 S0 ws) : bx_allI (fun i q => rxUPC142x5 q = true ∨ bx_allP (fun E => bx_obE rxL X S0 rxCPC142x5.2.2.1 (rxIPC142x5 S0 ws) (rxPSPC142x5 S0 ws) i q.1 E) q.2.2) 0 rxYPC142x5 := ⟨Or.inr trivial, Or.inl rfl, Or.inr trivial, Or.inl rfl, Or.inr trivial, Or.inl rfl, Or.inr ⟨rxfPC142x5_6_0 hP, trivial⟩, trivial⟩
theorem rxuPC142x5 {PX : State → Prop} {Dg : va_G} {A : Nat → Prop} {ad xa : Nat → Nat} {l : Launch} {X : (Nat → Int → Int) → Prop} (hPX : rx_PXOK rxNW A PX) (hX : ∀ S S1 : Nat → Int → Int, X S → bx_same rxL (bx_mdl rxCPC142x5.2.2.1) S S1 → X S1) {S0 : Nat → Int → Int} {ws : List Int} (hP : rxPPC142x5 S0 ws) : ∀ (i : Nat) (q : bx_HE), rxYPC142x5[i]? = some q → rxUPC142x5 q = true → ∀ {p : Program} {e : Env} {R : Room} {s : State} {m : MethodId} {args : Array Value} {below : List Frame} {meth : Method} {c : Code} {Q : State → Prop} {H0 : Heap}, rx_Fr rxG rxNW rxAO PX p s m args meth c rxM108 → (∀ q, H0.size ≤ q → A q) → H0 = s.heap → rxM108.2.2.2.2.2.2.1 ≤ R.cells → rxM108.2.2.2.2.2.2.2 ≤ R.slots → rxCPC142x5.2.2.2.1 ≤ R.frames → rxCPC142x5.2.2.2.1 * 40 ≤ R.locals → bx_Step p l e R s m args below meth c Q Dg rxL X vwCl A xa H0 ad rxM108 rxYPC142x5 (rxIPC142x5 S0 ws) (rxmPC142x5 S0 ws) S0 rxCPC142x5.2.2.1 i q := by
  intro i q hq hus p e R s m args below meth c Q H0 hF hA hH0 hmc hms hd hdl
  match i, hq with
  | 0, hq =>
    cases hq
    exact absurd (show false = true from hus) Bool.false_ne_true
  | 1, hq =>
    cases hq
    exact rx_stepY (i_p := 2) (idx := 25) (P0 := 6) (P1 := 143) (n := 8) (g0 := 3) (g1 := 3) (t := []) hF rfl (Nat.le_trans (by decide) hd) (Nat.le_trans (by decide) hdl) (by decide +kernel) (by decide +kernel) rfl rfl (by decide) (by decide) rfl rfl (by decide) (by decide) rfl rfl (by decide) (by decide) rfl rfl (rxsPC142x5_1 hP hX)
  | 2, hq =>
    cases hq
    exact absurd (show false = true from hus) Bool.false_ne_true
  | 3, hq =>
    cases hq
    exact rx_stepY (i_p := 4) (idx := 25) (P0 := 7) (P1 := 144) (n := 8) (g0 := 4) (g1 := 4) (t := []) hF rfl (Nat.le_trans (by decide) hd) (Nat.le_trans (by decide) hdl) (by decide +kernel) (by decide +kernel) rfl rfl (by decide) (by decide) rfl rfl (by decide) (by decide) rfl rfl (by decide) (by decide) rfl rfl (rxsPC142x5_3 hP hX)
  | 4, hq =>
    cases hq
    exact absurd (show false = true from hus) Bool.false_ne_true
  | 5, hq =>
    cases hq
    exact rx_stepY (i_p := 6) (idx := 25) (P0 := 8) (P1 := 145) (n := 8) (g0 := 5) (g1 := 5) (t := []) hF rfl (Nat.le_trans (by decide) hd) (Nat.le_trans (by decide) hdl) (by decide +kernel) (by decide +kernel) rfl rfl (by decide) (by decide) rfl rfl (by decide) (by decide) rfl rfl (by decide) (by decide) rfl rfl (rxsPC142x5_5 hP hX)
  | 6, hq =>
    cases hq
    exact absurd (show false = true from hus) Bool.false_ne_true
  | n + 7, hq => cases hq
theorem rxQPC142x5 {PX : State → Prop} {Dg : va_G} {A : Nat → Prop} {ad xa : Nat → Nat} {l : Launch} {X : (Nat → Int → Int) → Prop} (hPX : rx_PXOK rxNW A PX) (hsl : ∀ s : State, PX s → ∀ o idx n : Nat, rxSl o idx = some n → ∃ tx : String, vk_R (rxNm o) idx tx (ad n) s)
    (hX : ∀ S S_p : Nat → Int → Int, X S → bx_same rxL (bx_mdl rxCPC142x5.2.2.1) S S_p → X S_p)
    (ih : ∀ (j2 : Nat) (ct2 : bx_Ct) (M2 : rx_Mt), ct2 ∈ rxCnE j2 → ct2.2.2.2.1 + 1 ≤ rxCPC142x5.2.2.2.1 → rxT.2.2.2.2.2 j2 = some M2 → bx_Con rxG rxNW rxAO PX Dg rxL X vwCl A ad l M2 ct2) : bx_ConP rxG rxNW rxAO PX Dg rxL X vwCl A ad l rxM108 rxCPC142x5 rxPPC142x5 rxPSPC142x5 :=
  rxQof (xa := xa) (Cn := rxCnE) (f := 30000) (j := 108) (tab := rxYPC142x5) (us := rxUPC142x5) hPX hsl hX ih rfl rxYcPC142x5 rxIPC142x5 rxmPC142x5
    (fun S0 ws r I0 I ht0 ht as he he1 hX0 hI0 hP hs ha => by
      have e := he.symm.trans (show bx_ent0 rxNP rxCPC142x5.1 bx_I0 [] = some ([(0, 0), (0, 0), (0, 0), (0, 0), (0, 0), (0, 0), (0, 0), (0, 0)], [], [.inr (3, (0, 142)), .inr (3, (0, 5))]) from rfl)
      cases e
      subst ha
      have h0 : r 0 = 0 := hs.1
      show rxIPC142x5_0 S0 _ S0
      refine ⟨rfl, ?_⟩
      simp only [List.map_cons, List.map_nil, bx_xv_ok h0]
      rfl)
    (fun S0 ws hP => rxuPC142x5 (xa := xa) hPX hX hP) (fun S0 ws hP => rxgCPC142x5 hP) (fun S0 ws hP => rxgEPC142x5 hP)
