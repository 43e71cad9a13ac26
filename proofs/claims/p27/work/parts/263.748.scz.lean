section
noncomputable def rxCSCZ : bx_Ct := ([(3, (2, 10, 0)), (3, (2, 10, 0))], none, [(1019, 0), (1020, 0)], 1, [])
noncomputable def rxISCZ_0 (S0 : Nat → Int → Int) (ws : List Int) (S : Nat → Int → Int) (pt ps : Int) : Prop := S = S0 ∧ ws = [pt, ps]
noncomputable def rxmSCZ_0 (S0 : Nat → Int → Int) (ws : List Int) (S : Nat → Int → Int) (pt ps : Int) : Nat := 100
noncomputable def rxzSCZ_0 : rx_Z := ([(0, 0), (0, 0), (0, 0), (0, 0), (0, 0), (0, 0), (0, 0), (0, 0), (0, 1522), (0, 1522)], [], [(((9, 0), 1000010), .inl none), (((8, 0), 1000010), .inl none)], 0, 0, 0, [(0, .inr (3, (8, 0))), (1, .inr (3, (9, 0)))], [])
noncomputable def rxISCZ_1 (S0 : Nat → Int → Int) (ws : List Int) (S : Nat → Int → Int) (pt ps a0_ b0_ : Int) : Prop := ∃ t s : Nat, pt = (t : Int) ∧ ps = (s : Int) ∧ ws = [(t : Int), (s : Int)] ∧ (t ∈ rkSg ∧ s ∈ rkSg ∧ (t + 3 ≤ s ∨ s + 3 ≤ t)) ∧ a0_ = ((s + 1 : Nat) : Int) ∧ b0_ = ((t + 1 : Nat) : Int) ∧ (∀ (p : Nat) (j : Int), S p j = S0 p j)
noncomputable def rxmSCZ_1 (S0 : Nat → Int → Int) (ws : List Int) (S : Nat → Int → Int) (pt ps a0_ b0_ : Int) : Nat := 90
noncomputable def rxzSCZ_1 : rx_Z := ([(0, 0), (0, 0), (0, 0), (0, 0), (0, 0), (0, 0), (0, 0), (0, 0), (0, 1522), (0, 1522), (0, 1522), (0, 1522)], [], [(((8, 0), 1000010), .inl none), (((9, 0), 1000010), .inl none), (((10, 0), 1000019), .inl none), (((11, 0), 1000019), .inl none)], 0, 0, 12, [(0, .inr (3, (8, 0))), (1, .inr (3, (9, 0)))], [.inr (0, (0, 36)), .inr (0, (0, 0)), .inr (3, (11, 0)), .inr (0, (0, 0)), .inr (3, (10, 0))])
noncomputable def rxISCZ_2 (S0 : Nat → Int → Int) (ws : List Int) (S : Nat → Int → Int) (pt ps a0_ b0_ : Int) : Prop := ∃ t s : Nat, pt = (t : Int) ∧ ps = (s : Int) ∧ ws = [(t : Int), (s : Int)] ∧ (t ∈ rkSg ∧ s ∈ rkSg ∧ (t + 3 ≤ s ∨ s + 3 ≤ t)) ∧ (∀ j : Int, 0 ≤ j → j < 36 → S (t + 1) j = S0 (s + 1) j) ∧ (∀ (p : Nat) (j : Int), p ≠ t + 1 → S p j = S0 p j)
noncomputable def rxmSCZ_2 (S0 : Nat → Int → Int) (ws : List Int) (S : Nat → Int → Int) (pt ps a0_ b0_ : Int) : Nat := 85
noncomputable def rxzSCZ_2 : rx_Z := ([(0, 0), (0, 0), (0, 0), (0, 0), (0, 0), (0, 0), (0, 0), (0, 0), (0, 1522), (0, 1522), (0, 1522), (0, 1522)], [], [(((8, 0), 1000010), .inl none), (((9, 0), 1000010), .inl none), (((10, 0), 1000019), .inl none), (((11, 0), 1000019), .inl none)], 0, 0, 15, [(0, .inr (3, (8, 0))), (1, .inr (3, (9, 0)))], [])
noncomputable def rxISCZ_3 (S0 : Nat → Int → Int) (ws : List Int) (S : Nat → Int → Int) (pt ps a1_ b1_ : Int) : Prop := ∃ t s : Nat, pt = (t : Int) ∧ ps = (s : Int) ∧ ws = [(t : Int), (s : Int)] ∧ (t ∈ rkSg ∧ s ∈ rkSg ∧ (t + 3 ≤ s ∨ s + 3 ≤ t)) ∧ a1_ = ((s + 2 : Nat) : Int) ∧ b1_ = ((t + 2 : Nat) : Int) ∧ (∀ j : Int, 0 ≤ j → j < 36 → S (t + 1) j = S0 (s + 1) j) ∧ (∀ (p : Nat) (j : Int), p ≠ t + 1 → S p j = S0 p j)
noncomputable def rxmSCZ_3 (S0 : Nat → Int → Int) (ws : List Int) (S : Nat → Int → Int) (pt ps a1_ b1_ : Int) : Nat := 80
noncomputable def rxzSCZ_3 : rx_Z := ([(0, 0), (0, 0), (0, 0), (0, 0), (0, 0), (0, 0), (0, 0), (0, 0), (0, 1522), (0, 1522), (0, 1522), (0, 1522)], [], [(((8, 0), 1000010), .inl none), (((9, 0), 1000010), .inl none), (((10, 0), 1000018), .inl none), (((11, 0), 1000018), .inl none)], 0, 0, 27, [(0, .inr (3, (8, 0))), (1, .inr (3, (9, 0)))], [.inr (0, (0, 36)), .inr (0, (0, 0)), .inr (3, (11, 0)), .inr (0, (0, 0)), .inr (3, (10, 0))])
noncomputable def rxISCZ_4 (S0 : Nat → Int → Int) (ws : List Int) (S : Nat → Int → Int) (pt ps a1_ b1_ : Int) : Prop := ∃ t s : Nat, pt = (t : Int) ∧ ps = (s : Int) ∧ ws = [(t : Int), (s : Int)] ∧ (t ∈ rkSg ∧ s ∈ rkSg ∧ (t + 3 ≤ s ∨ s + 3 ≤ t)) ∧ (∀ j : Int, 0 ≤ j → j < 36 → S (t + 1) j = S0 (s + 1) j) ∧ (∀ j : Int, 0 ≤ j → j < 36 → S (t + 2) j = S0 (s + 2) j) ∧ (∀ (p : Nat) (j : Int), p ≠ t + 1 → p ≠ t + 2 → S p j = S0 p j)
noncomputable def rxmSCZ_4 (S0 : Nat → Int → Int) (ws : List Int) (S : Nat → Int → Int) (pt ps a1_ b1_ : Int) : Nat := 75
noncomputable def rxzSCZ_4 : rx_Z := ([(0, 0), (0, 0), (0, 0), (0, 0), (0, 0), (0, 0), (0, 0), (0, 0), (0, 1522), (0, 1522), (0, 1522), (0, 1522)], [], [(((8, 0), 1000010), .inl none), (((9, 0), 1000010), .inl none), (((10, 0), 1000018), .inl none), (((11, 0), 1000018), .inl none)], 0, 0, 30, [(0, .inr (3, (8, 0))), (1, .inr (3, (9, 0)))], [])
noncomputable def rxoSCZ_0_0 : bx_HO := (([(0, 0), (0, 0), (0, 0), (0, 0), (0, 0), (0, 0), (0, 0), (0, 0), (0, 1522), (0, 1522), (0, 1522), (0, 1522)], [], [(((0, 0), 1851192626986356797424340330377019318111018015026043177553363016000000), .inr (3, (11, 0))), (((8, 0), 0), .inr (3, (11, 0))), (((11, 0), 1000019), .inl none), (((0, 0), 1851192626986356797424340330377019318111018015026043177553363025000000), .inr (3, (10, 0))), (((9, 0), 0), .inr (3, (10, 0))), (((10, 0), 1000019), .inl none), (((9, 0), 1000010), .inl none), (((8, 0), 1000010), .inl none)], 0, 0, 12, [(0, .inr (3, (8, 0))), (1, .inr (3, (9, 0)))], [.inr (0, (0, 36)), .inr (0, (0, 0)), .inr (3, (11, 0)), .inr (0, (0, 0)), .inr (3, (10, 0))]), [], [], [(0, 0), (0, 0), (0, 0), (0, 0), (0, 0), (0, 0), (0, 0), (0, 0), (8, 0), (9, 0), (10, 0), (11, 0)], 1)
noncomputable def rxoSCZ_2_0 : bx_HO := (([(0, 0), (0, 0), (0, 0), (0, 0), (0, 0), (0, 0), (0, 0), (0, 0), (0, 1522), (0, 1522), (0, 1522), (0, 1522), (0, 1522), (0, 1522)], [], [(((0, 0), 1851192626986356797625047037163794926384839479479878431107186760000000), .inr (3, (13, 0))), (((8, 0), 1), .inr (3, (13, 0))), (((13, 0), 1000018), .inl none), (((0, 0), 1851192626986356797625047037163794926384839479479878431107186769000000), .inr (3, (12, 0))), (((9, 0), 1), .inr (3, (12, 0))), (((12, 0), 1000018), .inl none), (((8, 0), 1000010), .inl none), (((9, 0), 1000010), .inl none), (((10, 0), 1000019), .inl none), (((11, 0), 1000019), .inl none)], 0, 0, 27, [(0, .inr (3, (8, 0))), (1, .inr (3, (9, 0)))], [.inr (0, (0, 36)), .inr (0, (0, 0)), .inr (3, (13, 0)), .inr (0, (0, 0)), .inr (3, (12, 0))]), [], [], [(0, 0), (0, 0), (0, 0), (0, 0), (0, 0), (0, 0), (0, 0), (0, 0), (8, 0), (9, 0), (12, 0), (13, 0)], 3)
noncomputable def rxeSCZ_4_0 : rx_End × List (Nat × Int × Int) := (([(0, 0), (0, 0), (0, 0), (0, 0), (0, 0), (0, 0), (0, 0), (0, 0), (0, 1522), (0, 1522), (0, 1522), (0, 1522)], [], [(((8, 0), 1000010), .inl none), (((9, 0), 1000010), .inl none), (((10, 0), 1000018), .inl none), (((11, 0), 1000018), .inl none)], none), [])
noncomputable def rxYSCZ : List bx_HE := [(rxzSCZ_0, [rxoSCZ_0_0], []), (rxzSCZ_1, [], []), (rxzSCZ_2, [rxoSCZ_2_0], []), (rxzSCZ_3, [], []), (rxzSCZ_4, [], [rxeSCZ_4_0])]
noncomputable def rxUSCZ (q : bx_HE) : Bool := Nat.beq (rx_zpc q.1) 12 || Nat.beq (rx_zpc q.1) 27
noncomputable def rxYBSCZ : bx_B := (rxV, rxNP, rxDmf, bx_mdH rxCSCZ.2.2.1)
set_option maxRecDepth 100000 in
theorem rxYcSCZ : bx_chkH rxYBSCZ rxM42 rxCSCZ rxYSCZ (rxUSCZ, fun cut z => rx_ex2 (rxCT rxYBSCZ rxCnE) cut 30000 rxCSCZ.2.2.2.1 42 z) = true := by decide +kernel
noncomputable def rxISCZ (S0 : Nat → Int → Int) (ws : List Int) (i : Nat) : bx_SP := fun S r => match i with | 0 => rxISCZ_0 S0 ws S (r 8) (r 9) | 1 => rxISCZ_1 S0 ws S (r 8) (r 9) (r 10) (r 11) | 2 => rxISCZ_2 S0 ws S (r 8) (r 9) (r 10) (r 11) | 3 => rxISCZ_3 S0 ws S (r 8) (r 9) (r 10) (r 11) | 4 => rxISCZ_4 S0 ws S (r 8) (r 9) (r 10) (r 11) | _ => False
noncomputable def rxmSCZ (S0 : Nat → Int → Int) (ws : List Int) (i : Nat) (S : Nat → Int → Int) (r : Nat → Int) : Nat := match i with | 0 => rxmSCZ_0 S0 ws S (r 8) (r 9) | 1 => rxmSCZ_1 S0 ws S (r 8) (r 9) (r 10) (r 11) | 2 => rxmSCZ_2 S0 ws S (r 8) (r 9) (r 10) (r 11) | 3 => rxmSCZ_3 S0 ws S (r 8) (r 9) (r 10) (r 11) | 4 => rxmSCZ_4 S0 ws S (r 8) (r 9) (r 10) (r 11) | _ => 0
noncomputable def rxPSCZ (S0 : Nat → Int → Int) (ws : List Int) : Prop := ∃ t s : Nat, ws = [(t : Int), (s : Int)] ∧ (t ∈ rkSg ∧ s ∈ rkSg ∧ (t + 3 ≤ s ∨ s + 3 ≤ t)) ∧ rkSp S0 s ∧ rkSp S0 t
noncomputable def rxPSSCZ (S0 : Nat → Int → Int) (ws : List Int) (S : Nat → Int → Int) (w : Option Int) : Prop := w = none ∧ ∀ t s : Nat, ws = [(t : Int), (s : Int)] → rkSc S0 S t s
theorem rxtSCZ_1 {S0 : Nat → Int → Int} {ws : List Int} {S : Nat → Int → Int} {pt ps a0_ b0_ : Int} (hP : rxPSCZ S0 ws) (hin : bx_same rxL (bx_mdl rxCSCZ.2.2.1) S0 S) (I0 : bx_Inv rxL S) (hinv : rxISCZ_1 S0 ws S pt ps a0_ b0_) (l8 : 0 ≤ pt) (u8 : pt ≤ 1522) (l9 : 0 ≤ ps) (u9 : ps ≤ 1522) (l10 : 0 ≤ a0_) (u10 : a0_ ≤ 1522) (l11 : 0 ≤ b0_) (u11 : b0_ ≤ 1522) : ∃ P0 P1 : Nat, (a0_ = (P0 : Int) ∧ b0_ = (P1 : Int)) ∧ rk_ck rxCSCZ.2.2.1 36 P0 P1 = true ∧ rxISCZ_2 S0 ws (bx_cpS S P0 P1 36) pt ps a0_ b0_ ∧ rxmSCZ_2 S0 ws (bx_cpS S P0 P1 36) pt ps a0_ b0_ < rxmSCZ_1 S0 ws S pt ps a0_ b0_ := by
  obtain ⟨t, s, hpt, hps, hw, hm, ha, hb, hf⟩ := hinv
  have hgap := hm.2.2
  refine ⟨s + 1, t + 1, ⟨by omega, by omega⟩, rk_ck_of (g := 19) (l := (-1)) (h := 9) (List.all_eq_true.mp rkSg_c1 s hm.2.1) (List.all_eq_true.mp rkSg_c1 t hm.1) (by decide +kernel), ⟨t, s, hpt, hps, hw, hm, ?_, ?_⟩, by unfold rxmSCZ_1 rxmSCZ_2; omega⟩
  · intro j a b; rw [bx_cpS_in a b]; exact hf _ j 
  · intro p j n0; rw [bx_cpS_ne n0]; exact hf p j 
theorem rxsSCZ_1 {X : (Nat → Int → Int) → Prop} {S0 : Nat → Int → Int} {ws : List Int} (hP : rxPSCZ S0 ws) (hX : ∀ S S1 : Nat → Int → Int, X S → bx_same rxL (bx_mdl rxCSCZ.2.2.1) S S1 → X S1) : rk_obZ X S0 rxCSCZ.2.2.1 (rxISCZ S0 ws) (rxmSCZ S0 ws) 1 2 rxzSCZ_1 ((10, 0)) ((11, 0)) 36 := by
  intro S r hinv hXS I0 hin hs_ hf_
  have b_ := bx_bds_sat hs_
  have f_ := bx_fcl_ok hs_.1 hf_
  obtain ⟨⟨l8, u8⟩, ⟨l9, u9⟩, ⟨l10, u10⟩, ⟨l11, u11⟩, -⟩ := b_
  obtain ⟨P0, P1, ⟨g1, g2⟩, gc, g3, g4⟩ := rxtSCZ_1 hP hin I0 hinv l8 u8 l9 u9 l10 u10 l11 u11
  exact ⟨P0, P1, ⟨by have q := g1; show (r 10 + 0).toNat = _; omega, by have q := g2; show (r 11 + 0).toNat = _; omega⟩, gc, g3, g4, hX _ _ hXS (rk_ck_same gc (fun _ _ _ _ _ => rfl)), rk_ck_same gc hin⟩
theorem rxtSCZ_3 {S0 : Nat → Int → Int} {ws : List Int} {S : Nat → Int → Int} {pt ps a1_ b1_ : Int} (hP : rxPSCZ S0 ws) (hin : bx_same rxL (bx_mdl rxCSCZ.2.2.1) S0 S) (I0 : bx_Inv rxL S) (hinv : rxISCZ_3 S0 ws S pt ps a1_ b1_) (l8 : 0 ≤ pt) (u8 : pt ≤ 1522) (l9 : 0 ≤ ps) (u9 : ps ≤ 1522) (l10 : 0 ≤ a1_) (u10 : a1_ ≤ 1522) (l11 : 0 ≤ b1_) (u11 : b1_ ≤ 1522) : ∃ P0 P1 : Nat, (a1_ = (P0 : Int) ∧ b1_ = (P1 : Int)) ∧ rk_ck rxCSCZ.2.2.1 36 P0 P1 = true ∧ rxISCZ_4 S0 ws (bx_cpS S P0 P1 36) pt ps a1_ b1_ ∧ rxmSCZ_4 S0 ws (bx_cpS S P0 P1 36) pt ps a1_ b1_ < rxmSCZ_3 S0 ws S pt ps a1_ b1_ := by
  obtain ⟨t, s, hpt, hps, hw, hm, ha, hb, h0, hf⟩ := hinv
  have hgap := hm.2.2
  refine ⟨s + 2, t + 2, ⟨by omega, by omega⟩, rk_ck_of (g := 20) (l := (-1)) (h := 5) (List.all_eq_true.mp rkSg_c2 s hm.2.1) (List.all_eq_true.mp rkSg_c2 t hm.1) (by decide +kernel), ⟨t, s, hpt, hps, hw, hm, ?_, ?_, ?_⟩, by unfold rxmSCZ_3 rxmSCZ_4; omega⟩
  · intro j a b; rw [bx_cpS_ne (by omega)]; exact h0 j a b
  · intro j a b; rw [bx_cpS_in a b]; exact hf _ j (by omega)
  · intro p j n0 n1; rw [bx_cpS_ne n1]; exact hf p j n0
theorem rxsSCZ_3 {X : (Nat → Int → Int) → Prop} {S0 : Nat → Int → Int} {ws : List Int} (hP : rxPSCZ S0 ws) (hX : ∀ S S1 : Nat → Int → Int, X S → bx_same rxL (bx_mdl rxCSCZ.2.2.1) S S1 → X S1) : rk_obZ X S0 rxCSCZ.2.2.1 (rxISCZ S0 ws) (rxmSCZ S0 ws) 3 4 rxzSCZ_3 ((10, 0)) ((11, 0)) 36 := by
  intro S r hinv hXS I0 hin hs_ hf_
  have b_ := bx_bds_sat hs_
  have f_ := bx_fcl_ok hs_.1 hf_
  obtain ⟨⟨l8, u8⟩, ⟨l9, u9⟩, ⟨l10, u10⟩, ⟨l11, u11⟩, -⟩ := b_
  obtain ⟨P0, P1, ⟨g1, g2⟩, gc, g3, g4⟩ := rxtSCZ_3 hP hin I0 hinv l8 u8 l9 u9 l10 u10 l11 u11
  exact ⟨P0, P1, ⟨by have q := g1; show (r 10 + 0).toNat = _; omega, by have q := g2; show (r 11 + 0).toNat = _; omega⟩, gc, g3, g4, hX _ _ hXS (rk_ck_same gc (fun _ _ _ _ _ => rfl)), rk_ck_same gc hin⟩
theorem rxcSCZ_0_0 {S0 : Nat → Int → Int} {ws : List Int} {S : Nat → Int → Int} {pt ps x10 x11 : Int} (hP : rxPSCZ S0 ws) (hin : bx_same rxL (bx_mdl rxCSCZ.2.2.1) S0 S) (I0 : bx_Inv rxL S) (hinv : rxISCZ_0 S0 ws S pt ps) (l8 : 0 ≤ pt) (u8 : pt ≤ 1522) (l9 : 0 ≤ ps) (u9 : ps ≤ 1522) (l10 : 0 ≤ x10) (u10 : x10 ≤ 1522) (l11 : 0 ≤ x11) (u11 : x11 ≤ 1522) (e1 : S (ps).toNat 0 = x10) (e0 : S (pt).toNat 0 = x11) : (True) ∧ (True) ∧ rxISCZ_1 S0 ws S pt ps x10 x11 ∧ rxmSCZ_1 S0 ws S pt ps x10 x11 < rxmSCZ_0 S0 ws S pt ps := by
  obtain ⟨rfl, hw⟩ := hinv
  obtain ⟨t, s, hw2, hm, hq⟩ := hP
  have z0 := hw.symm.trans hw2
  have hpt : pt = (t : Int) := Option.some.inj (congrArg (fun l : List Int => l[0]?) z0)
  have hps : ps = (s : Int) := Option.some.inj (congrArg (fun l : List Int => l[1]?) z0)
  have ept : (pt).toNat = t := by omega
  have eps : (ps).toNat = s := by omega
  have kA := e1
  rw [eps] at kA
  have kB := e0
  rw [ept] at kB
  obtain ⟨hqs, hqt⟩ := hq
  exact ⟨trivial, trivial, ⟨t, s, hpt, hps, hw2, hm, kA.symm.trans (hqs.1), kB.symm.trans (hqt.1), fun p j => rfl⟩, by unfold rxmSCZ_0 rxmSCZ_1; omega⟩
theorem rxgSCZ_0_0 {X : (Nat → Int → Int) → Prop} {S0 : Nat → Int → Int} {ws : List Int} (hP : rxPSCZ S0 ws) : bx_obC rxL X S0 rxCSCZ.2.2.1 (rxISCZ S0 ws) (rxmSCZ S0 ws) 0 rxzSCZ_0 rxoSCZ_0_0 := by
  intro S S_p r r_p hinv hX hin hsm_ hseg
  obtain ⟨I0, I1, h0_, hr_, b_, f_, d_⟩ := bx_cl (evs := [(0, (8, 0), (0, 0), .inr (3, (11, 0))), (0, (9, 0), (0, 0), .inr (3, (10, 0)))]) (fvs := []) hseg (by decide +kernel) (by decide +kernel)
  have hinv : rxISCZ_0 S0 ws S (r 8) (r 9) := hinv
  rw [← hr_ 8 (by decide), ← hr_ 9 (by decide)] at hinv
  obtain ⟨⟨l8, u8⟩, ⟨l9, u9⟩, ⟨l10, u10⟩, ⟨l11, u11⟩, -⟩ := b_
  obtain ⟨e0, ⟨e1, w_⟩⟩ := d_
  subst w_
  have g := rxcSCZ_0_0 hP hin I0 hinv l8 u8 l9 u9 l10 u10 l11 u11 e1 e0
  refine ⟨bx_narP_ok (l := []) g.1, bx_nfP_ok h0_ (fvs := []) (by decide +kernel) g.2.1, ?_, ?_⟩
  · show rxISCZ_1 S0 ws S_p (bx_val [(0, 0), (0, 0), (0, 0), (0, 0), (0, 0), (0, 0), (0, 0), (0, 0), (8, 0), (9, 0), (10, 0), (11, 0)] r_p 8) (bx_val [(0, 0), (0, 0), (0, 0), (0, 0), (0, 0), (0, 0), (0, 0), (0, 0), (8, 0), (9, 0), (10, 0), (11, 0)] r_p 9) (bx_val [(0, 0), (0, 0), (0, 0), (0, 0), (0, 0), (0, 0), (0, 0), (0, 0), (8, 0), (9, 0), (10, 0), (11, 0)] r_p 10) (bx_val [(0, 0), (0, 0), (0, 0), (0, 0), (0, 0), (0, 0), (0, 0), (0, 0), (8, 0), (9, 0), (10, 0), (11, 0)] r_p 11)
    rw [bx_val_x (n := 8) (e := (8, 0)) h0_ rfl, bx_val_x (n := 9) (e := (9, 0)) h0_ rfl, bx_val_x (n := 10) (e := (10, 0)) h0_ rfl, bx_val_x (n := 11) (e := (11, 0)) h0_ rfl]
    exact g.2.2.1
  · show rxmSCZ_1 S0 ws S_p (bx_val [(0, 0), (0, 0), (0, 0), (0, 0), (0, 0), (0, 0), (0, 0), (0, 0), (8, 0), (9, 0), (10, 0), (11, 0)] r_p 8) (bx_val [(0, 0), (0, 0), (0, 0), (0, 0), (0, 0), (0, 0), (0, 0), (0, 0), (8, 0), (9, 0), (10, 0), (11, 0)] r_p 9) (bx_val [(0, 0), (0, 0), (0, 0), (0, 0), (0, 0), (0, 0), (0, 0), (0, 0), (8, 0), (9, 0), (10, 0), (11, 0)] r_p 10) (bx_val [(0, 0), (0, 0), (0, 0), (0, 0), (0, 0), (0, 0), (0, 0), (0, 0), (8, 0), (9, 0), (10, 0), (11, 0)] r_p 11) < rxmSCZ_0 S0 ws S_p (r 8) (r 9)
    rw [bx_val_x (n := 8) (e := (8, 0)) h0_ rfl, bx_val_x (n := 9) (e := (9, 0)) h0_ rfl, bx_val_x (n := 10) (e := (10, 0)) h0_ rfl, bx_val_x (n := 11) (e := (11, 0)) h0_ rfl, ← hr_ 8 (by decide), ← hr_ 9 (by decide)]
    exact g.2.2.2
theorem rxcSCZ_2_0 {S0 : Nat → Int → Int} {ws : List Int} {S : Nat → Int → Int} {pt ps a0_ b0_ x12 x13 : Int} (hP : rxPSCZ S0 ws) (hin : bx_same rxL (bx_mdl rxCSCZ.2.2.1) S0 S) (I0 : bx_Inv rxL S) (hinv : rxISCZ_2 S0 ws S pt ps a0_ b0_) (l8 : 0 ≤ pt) (u8 : pt ≤ 1522) (l9 : 0 ≤ ps) (u9 : ps ≤ 1522) (l10 : 0 ≤ a0_) (u10 : a0_ ≤ 1522) (l11 : 0 ≤ b0_) (u11 : b0_ ≤ 1522) (l12 : 0 ≤ x12) (u12 : x12 ≤ 1522) (l13 : 0 ≤ x13) (u13 : x13 ≤ 1522) (e1 : S (ps).toNat 1 = x12) (e0 : S (pt).toNat 1 = x13) : (True) ∧ (True) ∧ rxISCZ_3 S0 ws S pt ps x12 x13 ∧ rxmSCZ_3 S0 ws S pt ps x12 x13 < rxmSCZ_2 S0 ws S pt ps a0_ b0_ := by
  obtain ⟨t, s, hpt, hps, hw, hm, h0, hf⟩ := id hinv
  have hgap := hm.2.2
  have ept : (pt).toNat = t := by omega
  have eps : (ps).toNat = s := by omega
  obtain ⟨t2, s2, hw2, -, hqs, hqt⟩ := hP
  have z0 := hw.symm.trans hw2
  have z1 : (t : Int) = (t2 : Int) := Option.some.inj (congrArg (fun l : List Int => l[0]?) z0)
  have z2 : (s : Int) = (s2 : Int) := Option.some.inj (congrArg (fun l : List Int => l[1]?) z0)
  have z1 : t = t2 := by omega
  have z2 : s = s2 := by omega
  subst z1
  subst z2
  have kA := e1
  rw [eps] at kA
  have kB := e0
  rw [ept] at kB
  have k1 : S s 1 = S0 s 1 := hf s 1 (by omega)
  have k2 : S t 1 = S0 t 1 := hf t 1 (by omega)
  exact ⟨trivial, trivial, ⟨t, s, hpt, hps, hw, hm, (kA.symm.trans (k1.trans (hqs.2))).trans (by omega), (kB.symm.trans (k2.trans (hqt.2))).trans (by omega), h0, hf⟩, by unfold rxmSCZ_2 rxmSCZ_3; omega⟩
theorem rxgSCZ_2_0 {X : (Nat → Int → Int) → Prop} {S0 : Nat → Int → Int} {ws : List Int} (hP : rxPSCZ S0 ws) : bx_obC rxL X S0 rxCSCZ.2.2.1 (rxISCZ S0 ws) (rxmSCZ S0 ws) 2 rxzSCZ_2 rxoSCZ_2_0 := by
  intro S S_p r r_p hinv hX hin hsm_ hseg
  obtain ⟨I0, I1, h0_, hr_, b_, f_, d_⟩ := bx_cl (evs := [(0, (8, 0), (0, 1), .inr (3, (13, 0))), (0, (9, 0), (0, 1), .inr (3, (12, 0)))]) (fvs := []) hseg (by decide +kernel) (by decide +kernel)
  have hinv : rxISCZ_2 S0 ws S (r 8) (r 9) (r 10) (r 11) := hinv
  rw [← hr_ 8 (by decide), ← hr_ 9 (by decide), ← hr_ 10 (by decide), ← hr_ 11 (by decide)] at hinv
  obtain ⟨⟨l8, u8⟩, ⟨l9, u9⟩, ⟨l10, u10⟩, ⟨l11, u11⟩, ⟨l12, u12⟩, ⟨l13, u13⟩, -⟩ := b_
  obtain ⟨e0, ⟨e1, w_⟩⟩ := d_
  subst w_
  have g := rxcSCZ_2_0 hP hin I0 hinv l8 u8 l9 u9 l10 u10 l11 u11 l12 u12 l13 u13 e1 e0
  refine ⟨bx_narP_ok (l := []) g.1, bx_nfP_ok h0_ (fvs := []) (by decide +kernel) g.2.1, ?_, ?_⟩
  · show rxISCZ_3 S0 ws S_p (bx_val [(0, 0), (0, 0), (0, 0), (0, 0), (0, 0), (0, 0), (0, 0), (0, 0), (8, 0), (9, 0), (12, 0), (13, 0)] r_p 8) (bx_val [(0, 0), (0, 0), (0, 0), (0, 0), (0, 0), (0, 0), (0, 0), (0, 0), (8, 0), (9, 0), (12, 0), (13, 0)] r_p 9) (bx_val [(0, 0), (0, 0), (0, 0), (0, 0), (0, 0), (0, 0), (0, 0), (0, 0), (8, 0), (9, 0), (12, 0), (13, 0)] r_p 10) (bx_val [(0, 0), (0, 0), (0, 0), (0, 0), (0, 0), (0, 0), (0, 0), (0, 0), (8, 0), (9, 0), (12, 0), (13, 0)] r_p 11)
    rw [bx_val_x (n := 8) (e := (8, 0)) h0_ rfl, bx_val_x (n := 9) (e := (9, 0)) h0_ rfl, bx_val_x (n := 10) (e := (12, 0)) h0_ rfl, bx_val_x (n := 11) (e := (13, 0)) h0_ rfl]
    exact g.2.2.1
  · show rxmSCZ_3 S0 ws S_p (bx_val [(0, 0), (0, 0), (0, 0), (0, 0), (0, 0), (0, 0), (0, 0), (0, 0), (8, 0), (9, 0), (12, 0), (13, 0)] r_p 8) (bx_val [(0, 0), (0, 0), (0, 0), (0, 0), (0, 0), (0, 0), (0, 0), (0, 0), (8, 0), (9, 0), (12, 0), (13, 0)] r_p 9) (bx_val [(0, 0), (0, 0), (0, 0), (0, 0), (0, 0), (0, 0), (0, 0), (0, 0), (8, 0), (9, 0), (12, 0), (13, 0)] r_p 10) (bx_val [(0, 0), (0, 0), (0, 0), (0, 0), (0, 0), (0, 0), (0, 0), (0, 0), (8, 0), (9, 0), (12, 0), (13, 0)] r_p 11) < rxmSCZ_2 S0 ws S_p (r 8) (r 9) (r 10) (r 11)
    rw [bx_val_x (n := 8) (e := (8, 0)) h0_ rfl, bx_val_x (n := 9) (e := (9, 0)) h0_ rfl, bx_val_x (n := 10) (e := (12, 0)) h0_ rfl, bx_val_x (n := 11) (e := (13, 0)) h0_ rfl, ← hr_ 8 (by decide), ← hr_ 9 (by decide), ← hr_ 10 (by decide), ← hr_ 11 (by decide)]
    exact g.2.2.2
theorem rxdSCZ_4_0 {S0 : Nat → Int → Int} {ws : List Int} {S : Nat → Int → Int} {pt ps a1_ b1_ : Int} (hP : rxPSCZ S0 ws) (hin : bx_same rxL (bx_mdl rxCSCZ.2.2.1) S0 S) (hin2 : bx_same rxL (bx_mdl rxCSCZ.2.2.1) S S) (I0 : bx_Inv rxL S) (I1 : bx_Inv rxL S) (hinv : rxISCZ_4 S0 ws S pt ps a1_ b1_) (l8 : 0 ≤ pt) (u8 : pt ≤ 1522) (l9 : 0 ≤ ps) (u9 : ps ≤ 1522) (l10 : 0 ≤ a1_) (u10 : a1_ ≤ 1522) (l11 : 0 ≤ b1_) (u11 : b1_ ≤ 1522) : (True) ∧ rxPSSCZ S0 ws S none := by
  obtain ⟨t, s, hpt, hps, hw, hm, h0, h1, hf⟩ := hinv
  refine ⟨trivial, rfl, fun t2 s2 e => ?_⟩
  have z0 := hw.symm.trans e
  have z1 : (t : Int) = (t2 : Int) := Option.some.inj (congrArg (fun l : List Int => l[0]?) z0)
  have z2 : (s : Int) = (s2 : Int) := Option.some.inj (congrArg (fun l : List Int => l[1]?) z0)
  have z1 : t = t2 := by omega
  have z2 : s = s2 := by omega
  subst z1
  subst z2
  exact ⟨h0, h1, hf⟩
theorem rxfSCZ_4_0 {X : (Nat → Int → Int) → Prop} {S0 : Nat → Int → Int} {ws : List Int} (hP : rxPSCZ S0 ws) : bx_obE rxL X S0 rxCSCZ.2.2.1 (rxISCZ S0 ws) (rxPSSCZ S0 ws) 4 rxzSCZ_4 rxeSCZ_4_0 := by
  intro S S_p r r_p hinv hX hin hsm_ hseg
  obtain ⟨I0, I1, h0_, hr_, b_, f_, d_⟩ := bx_cl (evs := []) (fvs := []) hseg (by decide +kernel) (by decide +kernel)
  have hinv : rxISCZ_4 S0 ws S (r 8) (r 9) (r 10) (r 11) := hinv
  rw [← hr_ 8 (by decide), ← hr_ 9 (by decide), ← hr_ 10 (by decide), ← hr_ 11 (by decide)] at hinv
  obtain ⟨⟨l8, u8⟩, ⟨l9, u9⟩, ⟨l10, u10⟩, ⟨l11, u11⟩, -⟩ := b_
  have w_ := d_
  subst w_
  have g := rxdSCZ_4_0 hP hin hsm_ I0 I1 hinv l8 u8 l9 u9 l10 u10 l11 u11
  refine ⟨bx_narP_ok (l := []) g.1, ?_⟩
  exact g.2
theorem rxgCSCZ {X : (Nat → Int → Int) → Prop} {S0 : Nat → Int → Int} {ws : List Int} (hP : rxPSCZ S0 ws) : bx_allI (fun i q => rxUSCZ q = true ∨ bx_allP (fun o => bx_obC rxL X S0 rxCSCZ.2.2.1 (rxISCZ S0 ws) (rxmSCZ S0 ws) i q.1 o) q.2.1) 0 rxYSCZ := ⟨Or.inr ⟨rxgSCZ_0_0 hP, trivial⟩, Or.inl rfl, Or.inr ⟨rxgSCZ_2_0 hP, trivial⟩, Or.inl rfl, Or.inr trivial, trivial⟩
theorem rxgESCZ {X : (Nat → Int → Int) → Prop} {S0 : Nat → Int → Int} {ws : List Int} (hP : rxPSCZ S0 ws) : bx_allI (fun i q => rxUSCZ q = true ∨ bx_allP (fun E => bx_obE rxL X S0 rxCSCZ.2.2.1 (rxISCZ S0 ws) (rxPSSCZ S0 ws) i q.1 E) q.2.2) 0 rxYSCZ := ⟨Or.inr trivial, Or.inl rfl, Or.inr trivial, Or.inl rfl, Or.inr ⟨rxfSCZ_4_0 hP, trivial⟩, trivial⟩
theorem rxuSCZ {PX : State → Prop} {Dg : va_G} {A : Nat → Prop} {ad xa : Nat → Nat} {l : Launch} {X : (Nat → Int → Int) → Prop} (hPX : rx_PXOK rxNW A PX) (hX : ∀ S S1 : Nat → Int → Int, X S → bx_same rxL (bx_mdl rxCSCZ.2.2.1) S S1 → X S1) {S0 : Nat → Int → Int} {ws : List Int} (hP : rxPSCZ S0 ws) : ∀ (i : Nat) (q : bx_HE), rxYSCZ[i]? = some q → rxUSCZ q = true → ∀ {p : Program} {e : Env} {R : Room} {s : State} {m : MethodId} {args : Array Value} {below : List Frame} {meth : Method} {c : Code} {Q : State → Prop} {H0 : Heap}, rx_Fr rxG rxNW rxAO PX p s m args meth c rxM42 → (∀ q, H0.size ≤ q → A q) → H0 = s.heap → rxM42.2.2.2.2.2.2.1 ≤ R.cells → rxM42.2.2.2.2.2.2.2 ≤ R.slots → rxCSCZ.2.2.2.1 ≤ R.frames → rxCSCZ.2.2.2.1 * 40 ≤ R.locals → bx_Step p l e R s m args below meth c Q Dg rxL X vwCl A xa H0 ad rxM42 rxYSCZ (rxISCZ S0 ws) (rxmSCZ S0 ws) S0 rxCSCZ.2.2.1 i q := by
  intro i q hq hus p e R s m args below meth c Q H0 hF hA hH0 hmc hms hd hdl
  match i, hq with
  | 0, hq =>
    cases hq
    exact absurd (show false = true from hus) Bool.false_ne_true
  | 1, hq =>
    cases hq
    exact rk_stepZ (i_p := 2) (idx := 27) (w0 := ((10, 0))) (w1 := ((11, 0))) (n := 36) (t := []) hF rfl (Nat.le_trans (by decide) hd) (Nat.le_trans (by decide) hdl) (by decide +kernel) (by decide +kernel) rfl rfl (by decide) (by decide) rfl rfl (rxsSCZ_1 hP hX)
  | 2, hq =>
    cases hq
    exact absurd (show false = true from hus) Bool.false_ne_true
  | 3, hq =>
    cases hq
    exact rk_stepZ (i_p := 4) (idx := 27) (w0 := ((10, 0))) (w1 := ((11, 0))) (n := 36) (t := []) hF rfl (Nat.le_trans (by decide) hd) (Nat.le_trans (by decide) hdl) (by decide +kernel) (by decide +kernel) rfl rfl (by decide) (by decide) rfl rfl (rxsSCZ_3 hP hX)
  | 4, hq =>
    cases hq
    exact absurd (show false = true from hus) Bool.false_ne_true
  | n + 5, hq => cases hq
theorem rxQSCZ {PX : State → Prop} {Dg : va_G} {A : Nat → Prop} {ad xa : Nat → Nat} {l : Launch} {X : (Nat → Int → Int) → Prop} (hPX : rx_PXOK rxNW A PX) (hsl : ∀ s : State, PX s → ∀ o idx n : Nat, rxSl o idx = some n → ∃ tx : String, vk_R (rxNm o) idx tx (ad n) s)
    (hX : ∀ S S_p : Nat → Int → Int, X S → bx_same rxL (bx_mdl rxCSCZ.2.2.1) S S_p → X S_p)
    (ih : ∀ (j2 : Nat) (ct2 : bx_Ct) (M2 : rx_Mt), ct2 ∈ rxCnE j2 → ct2.2.2.2.1 + 1 ≤ rxCSCZ.2.2.2.1 → rxT.2.2.2.2.2 j2 = some M2 → bx_Con rxG rxNW rxAO PX Dg rxL X vwCl A ad l M2 ct2) : bx_ConP rxG rxNW rxAO PX Dg rxL X vwCl A ad l rxM42 rxCSCZ rxPSCZ rxPSSCZ :=
  rxQof (xa := xa) (Cn := rxCnE) (f := 30000) (j := 42) (tab := rxYSCZ) (us := rxUSCZ) hPX hsl hX ih rfl rxYcSCZ rxISCZ rxmSCZ
    (fun S0 ws r I0 I ht0 ht as he he1 hX0 hI0 hP hs ha => by
      have e := he.symm.trans (show bx_ent0 rxNP rxCSCZ.1 bx_I0 [] = some ([(0, 0), (0, 0), (0, 0), (0, 0), (0, 0), (0, 0), (0, 0), (0, 0), (0, 1522), (0, 1522)], [(((9, 0), 1000010), .inl none), (((8, 0), 1000010), .inl none)], [.inr (3, (8, 0)), .inr (3, (9, 0))]) from rfl)
      cases e
      subst ha
      have h0 : r 0 = 0 := hs.1
      show rxISCZ_0 S0 _ S0 (r 8) (r 9)
      refine ⟨rfl, ?_⟩
      simp only [List.map_cons, List.map_nil, bx_xv_ok h0]
      rfl)
    (fun S0 ws hP => rxuSCZ (xa := xa) hPX hX hP) (fun S0 ws hP => rxgCSCZ hP) (fun S0 ws hP => rxgESCZ hP)
end
section
noncomputable def rkRgn (p : Nat) : Prop := (23 ≤ p ∧ p < 137) ∨ (160 ≤ p ∧ p < 274) ∨ (296 ≤ p ∧ p < 410)
noncomputable def rkTb (b : Nat) : Prop := b = 23 ∨ b = 160 ∨ b = 296
noncomputable def rkSq (S0 S : Nat → Int → Int) (t s : Nat) : Prop := ∀ j : Int, 0 ≤ j → j < 36 → S (t + 1) j = S0 (s + 1) j ∧ S (t + 2) j = S0 (s + 2) j
noncomputable def tqCp (S0 S : Nat → Int → Int) (t s : Nat) : Prop := S t 0 = S0 s 0 ∧ S t 4 = S0 s 4 ∧ (∀ j : Int, 0 ≤ j → j < 400 → S (t + 1) j = S0 (s + 1) j ∧ S (t + 2) j = S0 (s + 2) j) ∧ ∀ p : Nat, 4 ≤ p → p ≤ 9 → ∀ j : Int, 0 ≤ j → j < 12 → S (t + p) j = S0 (s + p) j
theorem tqCp_of {S0 S : Nat → Int → Int} {t s : Nat} (q : rkQc S0 S t s) : tqCp S0 S t s := by
  obtain ⟨q0, q4, r1, r2, k4, k5, k6, k7, k8, k9, -, -⟩ := q
  refine ⟨q0, q4, fun j a b => ⟨r1 j a b, r2 j a b⟩, fun p p4 p9 j a b => ?_⟩
  have e : p = 4 ∨ p = 5 ∨ p = 6 ∨ p = 7 ∨ p = 8 ∨ p = 9 := by omega
  rcases e with rfl | rfl | rfl | rfl | rfl | rfl
  · exact k4 j a b
  · exact k5 j a b
  · exact k6 j a b
  · exact k7 j a b
  · exact k8 j a b
  · exact k9 j a b
theorem rkHl_cq {S0 S : Nat → Int → Int} {t s : Nat} {L : List rkQ} (h : rkHl S0 s L) (q : tqCp S0 S t s) : rkHl S t L := by
  obtain ⟨h1, h2, h3, h4⟩ := h
  obtain ⟨q0, q4, r, k⟩ := q
  have a0 : rkAt S t 427 0 = S t 0 := (rkAt_p (Nat.le_refl 427) 0).trans rfl
  have b0 : rkAt S0 s 427 0 = S0 s 0 := (rkAt_p (Nat.le_refl 427) 0).trans rfl
  refine ⟨q4.trans h1, h2, by omega, rkPd_cg (S := rkAt S0 s) (a0.trans (q0.trans b0.symm)) (fun j x y => ?_) (fun p a b j x y => ?_) h2 h4⟩
  · rw [b0] at y
    rw [rkAt_p (by omega), rkAt_p (by omega), rkAt_p (by omega), rkAt_p (by omega)]
    exact r j x (by omega)
  · rw [rkAt_p (by omega), rkAt_p (by omega)]
    exact k (p - 427) (by omega) (by omega) j x y
noncomputable def rkW4 (S0 S : Nat → Int → Int) (tb : Nat) : Prop := ∀ (p : Nat) (j : Int), rkRgn p → (p < tb ∨ tb + 114 ≤ p) → S p j = S0 p j
noncomputable def rkWt4 (S0 S : Nat → Int → Int) (tb sb : Nat) (a v l : Int) : Prop := (∀ k : Nat, (k : Int) < a → k < 6 → rkSq S0 S (tb + 3 * k) (sb + 3 * k)) ∧ (∀ k : Nat, (k : Int) < v → k < 12 → rkSq S0 S (tb + 18 + 3 * k) (sb + 18 + 3 * k)) ∧ (∀ k : Nat, (k : Int) < l → k < 6 → tqCp S0 S (tb + 54 + 10 * k) (sb + 54 + 10 * k)) ∧ rkW4 S0 S tb
theorem rkSq_cg {S0 S S_p : Nat → Int → Int} {t s : Nat} (h : rkSq S0 S t s) (e : ∀ (p : Nat) (j : Int), t ≤ p → p < t + 3 → S_p p j = S p j) : rkSq S0 S_p t s := fun j a b => ⟨(e _ j (by omega) (by omega)).trans (h j a b).1, (e _ j (by omega) (by omega)).trans (h j a b).2⟩
theorem tqCp_cg {S0 S S_p : Nat → Int → Int} {t s : Nat} (h : tqCp S0 S t s) (e : ∀ (p : Nat) (j : Int), t ≤ p → p < t + 10 → S_p p j = S p j) : tqCp S0 S_p t s :=
  ⟨(e _ _ (by omega) (by omega)).trans h.1, (e _ _ (by omega) (by omega)).trans h.2.1, fun j a b => ⟨(e _ j (by omega) (by omega)).trans (h.2.2.1 j a b).1, (e _ j (by omega) (by omega)).trans (h.2.2.1 j a b).2⟩, fun p a b j x y => (e _ j (by omega) (by omega)).trans (h.2.2.2 p a b j x y)⟩
theorem rkTb_re {b p : Nat} (h : rkTb b) (h0 : b ≤ p) (h1 : p < b + 114) : rkRgn p := by
  unfold rkTb at h
  unfold rkRgn
  omega
theorem rkWt4_ne {S0 S S_p : Nat → Int → Int} {tb sb : Nat} {a v l : Int} (hb : rkTb tb) (h : rkWt4 S0 S tb sb a v l) (e : ∀ (p : Nat) (j : Int), rkRgn p → S_p p j = S p j) : rkWt4 S0 S_p tb sb a v l :=
  ⟨fun k x y => rkSq_cg (h.1 k x y) fun p j p0 p1 => e p j (rkTb_re hb (by omega) (by omega)), fun k x y => rkSq_cg (h.2.1 k x y) fun p j p0 p1 => e p j (rkTb_re hb (by omega) (by omega)), fun k x y => tqCp_cg (h.2.2.1 k x y) fun p j p0 p1 => e p j (rkTb_re hb (by omega) (by omega)), fun p j r n => (e p j r).trans (h.2.2.2 p j r n)⟩
theorem rkWt4_0 {S0 S : Nat → Int → Int} {tb sb : Nat} (e : ∀ (p : Nat) (j : Int), rkRgn p → S p j = S0 p j) : rkWt4 S0 S tb sb 0 0 0 :=
  ⟨fun k x y => by omega, fun k x y => by omega, fun k x y => by omega, fun p j r _ => e p j r⟩
section RKW4
variable {S0 S S_p : Nat → Int → Int} {tb sb i : Nat}
theorem rkSq_src {t s : Nat} (hw : rkW4 S0 S tb) (q : rkSc S S_p t s) (r : ∀ p : Nat, s ≤ p → p < s + 3 → rkRgn p ∧ (p < tb ∨ tb + 114 ≤ p)) : rkSq S0 S_p t s := fun j a b => by
  obtain ⟨r1, r2⟩ := r (s + 1) (by omega) (by omega)
  obtain ⟨r3, r4⟩ := r (s + 2) (by omega) (by omega)
  exact ⟨(q.1 j a b).trans (hw _ j r1 r2), (q.2.1 j a b).trans (hw _ j r3 r4)⟩
theorem rkWt4_a (hb : rkTb tb) (hs : rkTb sb) (hn : tb ≠ sb) (i6 : i < 6) (h : rkWt4 S0 S tb sb (i : Int) 0 0) (q : rkSc S S_p (tb + 3 * i) (sb + 3 * i)) : rkWt4 S0 S_p tb sb ((i : Int) + 1) 0 0 := by
  have hb_p := hb
  have hs_p := hs
  unfold rkTb at hb_p hs_p
  refine ⟨fun k x y => ?_, fun k x y => by omega, fun k x y => by omega, fun p j r n => (q.2.2 p j (by omega) (by omega)).trans (h.2.2.2 p j r n)⟩
  by_cases e : k = i
  · subst e
    exact rkSq_src h.2.2.2 q fun p p0 p1 => ⟨rkTb_re hs (by omega) (by omega), by omega⟩
  · exact rkSq_cg (h.1 k (by omega) y) fun p j p0 p1 => q.2.2 p j (by omega) (by omega)
theorem rkWt4_v (hb : rkTb tb) (hs : rkTb sb) (hn : tb ≠ sb) (i12 : i < 12) (h : rkWt4 S0 S tb sb 6 (i : Int) 0) (q : rkSc S S_p (tb + 18 + 3 * i) (sb + 18 + 3 * i)) : rkWt4 S0 S_p tb sb 6 ((i : Int) + 1) 0 := by
  have hb_p := hb
  have hs_p := hs
  unfold rkTb at hb_p hs_p
  refine ⟨fun k x y => rkSq_cg (h.1 k x y) fun p j p0 p1 => q.2.2 p j (by omega) (by omega), fun k x y => ?_, fun k x y => by omega, fun p j r n => (q.2.2 p j (by omega) (by omega)).trans (h.2.2.2 p j r n)⟩
  by_cases e : k = i
  · subst e
    exact rkSq_src h.2.2.2 q fun p p0 p1 => ⟨rkTb_re hs (by omega) (by omega), by omega⟩
  · exact rkSq_cg (h.2.1 k (by omega) y) fun p j p0 p1 => q.2.2 p j (by omega) (by omega)
theorem rkWt4_l (hb : rkTb tb) (hs : rkTb sb) (hn : tb ≠ sb) (i6 : i < 6) (h : rkWt4 S0 S tb sb 6 12 (i : Int)) (q : rkQc S S_p (tb + 54 + 10 * i) (sb + 54 + 10 * i)) : rkWt4 S0 S_p tb sb 6 12 ((i : Int) + 1) := by
  have hb_p := hb
  have hs_p := hs
  unfold rkTb at hb_p hs_p
  have c := tqCp_of q
  obtain ⟨-, -, -, -, -, -, -, -, -, -, f, o⟩ := q
  have f_p : ∀ (p : Nat) (j : Int), (p < tb + 54 + 10 * i ∨ tb + 54 + 10 * i + 10 ≤ p) → S_p p j = S p j := fun p j n => f p j (by omega) (by omega) (by omega) (by omega) (by omega) (by omega) (by omega) (by omega) (by omega)
  refine ⟨fun k x y => rkSq_cg (h.1 k x y) fun p j p0 p1 => f_p p j (by omega), fun k x y => rkSq_cg (h.2.1 k x y) fun p j p0 p1 => f_p p j (by omega), fun k x y => ?_, fun p j r n => (f_p p j (by omega)).trans (h.2.2.2 p j r n)⟩
  by_cases e : k = i
  · subst e
    have s : ∀ (p : Nat) (j : Int), sb + 54 + 10 * k ≤ p → p < sb + 54 + 10 * k + 10 → S p j = S0 p j := fun p j p0 p1 => h.2.2.2 p j (rkTb_re hs (by omega) (by omega)) (by omega)
    exact ⟨c.1.trans (s _ _ (by omega) (by omega)), c.2.1.trans (s _ _ (by omega) (by omega)), fun j a b => ⟨(c.2.2.1 j a b).1.trans (s _ _ (by omega) (by omega)), (c.2.2.1 j a b).2.trans (s _ _ (by omega) (by omega))⟩, fun p a b j x y => (c.2.2.2 p a b j x y).trans (s _ _ (by omega) (by omega))⟩
  · exact tqCp_cg (h.2.2.1 k (by omega) y) fun p j p0 p1 => f_p p j (by omega)
end RKW4
noncomputable def rkSl (S : Nat → Int → Int) (row b n : Nat) : Prop := ∀ i : Nat, i < n → S row (i : Int) = ((b + 3 * i : Nat) : Int) ∧ rkSp S (b + 3 * i)
noncomputable def rkPl (S : Nat → Int → Int) : Prop := rkPf S ∧ (rkSl S 4 23 6 ∧ rkSl S 12 41 12) ∧ (rkSl S 141 160 6 ∧ rkSl S 149 178 12) ∧ (rkSl S 277 296 6 ∧ rkSl S 285 314 12)
theorem rkSl_sm {ms : List (Nat × Nat)} {S S_p : Nat → Int → Int} (hs : bx_same rxL (bx_mdl ms) S S_p) (hk : [(9, 0), (9, 1), (1002, 0), (1009, 0)].all (fun q => !(bx_mdl ms q.1 q.2)) = true) {row b n : Nat} (hc : (List.range n).all (fun i => Nat.blt row 522 && (Nat.blt i (bx_wd (rxL.1 row)) && [(1002, 0), (1009, 0)].contains (bx_mc (rxL.1 row) i)) && (Nat.blt (b + 3 * i) 522 && (Nat.beq (bx_wd (rxL.1 (b + 3 * i))) 2 && (decide (bx_mc (rxL.1 (b + 3 * i)) 0 = (9, 0)) && decide (bx_mc (rxL.1 (b + 3 * i)) 1 = (9, 1)))))) = true) (h : rkSl S row b n) : rkSl S_p row b n := fun i hi => by
  have hq : ∀ x : Nat × Nat, x ∈ [(9, 0), (9, 1), (1002, 0), (1009, 0)] → bx_mdl ms x.1 x.2 = false := fun x hm => by
    have := List.all_eq_true.mp hk x hm
    rw [Bool.not_eq_true'] at this
    exact this
  have g := List.all_eq_true.mp hc i (List.mem_range.mpr hi)
  rw [Bool.and_eq_true, Bool.and_eq_true, Bool.and_eq_true, Bool.and_eq_true, Bool.and_eq_true, Bool.and_eq_true, Nat.blt_eq, Nat.blt_eq, Nat.blt_eq, decide_eq_true_eq, decide_eq_true_eq] at g
  obtain ⟨⟨g1, g2, g3⟩, g4, g5, g6, g7⟩ := g
  have g5 := Nat.eq_of_beq_eq_true g5
  obtain ⟨h1, h2, h3⟩ := h i hi
  refine ⟨(hs row i g1 g2 (hq _ ?_)).trans h1, (hs _ 0 g4 (by omega) (by rw [g6]; exact hq (9, 0) (by decide))).trans h2, (hs _ 1 g4 (by omega) (by rw [g7]; exact hq (9, 1) (by decide))).trans h3⟩
  have := List.contains_iff_mem.mp g3
  simp only [List.mem_cons, List.not_mem_nil, or_false] at this ⊢
  rcases this with e | e
  · exact Or.inr (Or.inr (Or.inl e))
  · exact Or.inr (Or.inr (Or.inr e))
theorem rkPl_sm {ms : List (Nat × Nat)} {S S_p : Nat → Int → Int} (hs : bx_same rxL (bx_mdl ms) S S_p) (hk : [(6, 8), (6, 9), (6, 10), (1016, 0), (9, 0), (9, 1), (1002, 0), (1009, 0)].all (fun q => !(bx_mdl ms q.1 q.2)) = true) (h : rkPl S) : rkPl S_p := by
  have hq : ∀ x : Nat × Nat, x ∈ [(6, 8), (6, 9), (6, 10), (1016, 0), (9, 0), (9, 1), (1002, 0), (1009, 0)] → (!(bx_mdl ms x.1 x.2)) = true := fun x hm => List.all_eq_true.mp hk x hm
  have hp : [(6, 8), (6, 9), (6, 10)].all (fun q => !(bx_mdl ms q.1 q.2)) = true := List.all_eq_true.mpr fun x hm => hq x (by
    simp only [List.mem_cons, List.not_mem_nil, or_false] at hm ⊢
    rcases hm with e | e | e
    · exact Or.inl e
    · exact Or.inr (Or.inl e)
    · exact Or.inr (Or.inr (Or.inl e)))
  have hz : [(9, 0), (9, 1), (1002, 0), (1009, 0)].all (fun q => !(bx_mdl ms q.1 q.2)) = true := List.all_eq_true.mpr fun x hm => hq x (by
    simp only [List.mem_cons, List.not_mem_nil, or_false] at hm ⊢
    rcases hm with e | e | e | e
    · exact Or.inr (Or.inr (Or.inr (Or.inr (Or.inl e))))
    · exact Or.inr (Or.inr (Or.inr (Or.inr (Or.inr (Or.inl e)))))
    · exact Or.inr (Or.inr (Or.inr (Or.inr (Or.inr (Or.inr (Or.inl e))))))
    · exact Or.inr (Or.inr (Or.inr (Or.inr (Or.inr (Or.inr (Or.inr e)))))))
  have hr : bx_mdl ms 1016 0 = false := by
    have := hq (1016, 0) (by decide)
    rw [Bool.not_eq_true'] at this
    exact this
  obtain ⟨h0, ⟨h1, h2⟩, ⟨h3, h4⟩, h5, h6⟩ := h
  exact ⟨rkPf_sm hs hp hr h0, ⟨rkSl_sm hs hz (by decide +kernel) h1, rkSl_sm hs hz (by decide +kernel) h2⟩, ⟨rkSl_sm hs hz (by decide +kernel) h3, rkSl_sm hs hz (by decide +kernel) h4⟩, rkSl_sm hs hz (by decide +kernel) h5, rkSl_sm hs hz (by decide +kernel) h6⟩
theorem rkNum_n0 : rxNum.all (fun p => !(decide (23 ≤ p ∧ p < 137) || (decide (160 ≤ p ∧ p < 274) || decide (296 ≤ p ∧ p < 410)))) = true := by decide +kernel
theorem rkNum_n {p : Nat} (h : p ∈ rxNum) : ¬ rkRgn p := fun r => by
  have g := List.all_eq_true.mp rkNum_n0 p h
  rw [Bool.not_eq_true', Bool.or_eq_false_iff, Bool.or_eq_false_iff, decide_eq_false_iff_not, decide_eq_false_iff_not, decide_eq_false_iff_not] at g
  rcases r with r | r | r
  · exact g.1 r
  · exact g.2.1 r
  · exact g.2.2 r
theorem rkSc_o {S S_p : Nat → Int → Int} {t s tb : Nat} (q : rkSc S S_p t s) (hb : rkTb tb) (h0 : tb ≤ t) (h1 : t + 3 ≤ tb + 114) (p : Nat) (j : Int) (n : ¬ rkRgn p) : S_p p j = S p j :=
  q.2.2 p j (fun e => n (rkTb_re hb (by omega) (by omega))) (fun e => n (rkTb_re hb (by omega) (by omega)))
theorem rkQc_o {S S_p : Nat → Int → Int} {t s tb : Nat} (q : rkQc S S_p t s) (hb : rkTb tb) (h0 : tb ≤ t) (h1 : t + 10 ≤ tb + 114) (p : Nat) (j : Int) (n : ¬ rkRgn p) : S_p p j = S p j := by
  obtain ⟨-, -, -, -, -, -, -, -, -, -, f, -⟩ := q
  have k : ∀ x : Nat, x < 10 → p ≠ t + x := fun x hx e => n (rkTb_re hb (by omega) (by omega))
  exact f p j (k 0 (by omega)) (k 1 (by omega)) (k 2 (by omega)) (k 4 (by omega)) (k 5 (by omega)) (k 6 (by omega)) (k 7 (by omega)) (k 8 (by omega)) (k 9 (by omega))
theorem rkSg_t {k tb : Nat} (hb : rkTb tb) (hk : k < 18) : tb + 3 * k ∈ rkSg := by
  have g : [23, 160, 296].all (fun b => (List.range 18).all (fun k => rkSg.contains (b + 3 * k))) = true := by decide +kernel
  have hm : tb ∈ [23, 160, 296] := by
    rcases hb with rfl | rfl | rfl <;> decide
  exact List.contains_iff_mem.mp (List.all_eq_true.mp (List.all_eq_true.mp g tb hm) k (List.mem_range.mpr hk))
theorem rkPg_t {k tb : Nat} (hb : rkTb tb) (hk : k < 6) : tb + 54 + 10 * k ∈ rkPg := by
  have g : [23, 160, 296].all (fun b => (List.range 6).all (fun k => rkPg.contains (b + 54 + 10 * k))) = true := by decide +kernel
  have hm : tb ∈ [23, 160, 296] := by
    rcases hb with rfl | rfl | rfl <;> decide
  exact List.contains_iff_mem.mp (List.all_eq_true.mp (List.all_eq_true.mp g tb hm) k (List.mem_range.mpr hk))
end
section
noncomputable def rkOe (S0 S : Nat → Int → Int) : Prop := ∀ p i : Nat, p ∈ rkOl → tqOk p i = true → S p (i : Int) = S0 p (i : Int)
theorem tqOk_x {p i : Nat} (h : tqOk p i = true) : p < 522 ∧ i < bx_wd (rxL.1 p) ∧ tqKs.contains (bx_mc (rxL.1 p) i) = true := by
  unfold tqOk at h
  rw [Bool.and_eq_true, Bool.and_eq_true, Nat.blt_eq, Nat.blt_eq] at h
  exact ⟨h.1, h.2.1, h.2.2⟩
theorem rkOe_of {S0 S : Nat → Int → Int} (h : rkOf S0 S) : rkOe S0 S := fun p i hp ho => h p i hp (tqOk_x ho).2.1
theorem rkOe_up {S0 S : Nat → Int → Int} {q : Nat} {i v : Int} (hq : rkOl.contains q = false) (h : rkOe S0 S) : rkOe S0 (bx_up S q i v) := fun p j hp ho => by
  refine (bx_up_ne fun g => ?_).trans (h p j hp ho)
  have := List.contains_iff_mem.mpr hp
  rw [g.1, hq] at this
  cases this
theorem rkOe_sm {ms : List (Nat × Nat)} {S0 S S_p : Nat → Int → Int} (hs : bx_same rxL (bx_mdl ms) S S_p) (hk : tqKs.all (fun q => !(bx_mdl ms q.1 q.2)) = true) (h : rkOe S0 S) : rkOe S0 S_p := fun p i hp ho => by
  obtain ⟨a, b, d⟩ := tqOk_x ho
  refine (hs p i a b ?_).trans (h p i hp ho)
  have q := List.all_eq_true.mp hk (bx_mc (rxL.1 p) i) (List.contains_iff_mem.mp d)
  rw [Bool.not_eq_true'] at q
  exact q
theorem rkOl_10 : (List.range 6).all (fun k => [77, 214, 350].all (fun b => (List.range 10).all (fun x => rkOl.contains (b + 10 * k + x)))) = true := by decide +kernel
theorem rkOl_in {b k x : Nat} (hb : b = 77 ∨ b = 214 ∨ b = 350) (hk : k < 6) (hx : x < 10) : b + 10 * k + x ∈ rkOl := by
  have hm : b ∈ [77, 214, 350] := by
    rcases hb with rfl | rfl | rfl <;> decide
  exact List.contains_iff_mem.mp (List.all_eq_true.mp (List.all_eq_true.mp (List.all_eq_true.mp rkOl_10 k (List.mem_range.mpr hk)) b hm) x (List.mem_range.mpr hx))
theorem rkPg_in {b k : Nat} (hb : b = 77 ∨ b = 214 ∨ b = 350) (hk : k < 6) : b + 10 * k ∈ rkPg := by
  have g : [77, 214, 350].all (fun b => (List.range 6).all (fun k => rkPg.contains (b + 10 * k))) = true := by decide +kernel
  have hm : b ∈ [77, 214, 350] := by
    rcases hb with rfl | rfl | rfl <;> decide
  exact List.contains_iff_mem.mp (List.all_eq_true.mp (List.all_eq_true.mp g b hm) k (List.mem_range.mpr hk))
theorem tqEq_oe {S S_p : Nat → Int → Int} {b k : Nat} (hb : b = 77 ∨ b = 214 ∨ b = 350) (hk : k < 6) (h : ∀ p i : Nat, b + 10 * k ≤ p → p < b + 10 * k + 10 → p ∈ rkOl → tqOk p i = true → S_p p (i : Int) = S p (i : Int)) : tqEq S S_p (b + 10 * k) := by
  have g := List.all_eq_true.mp rkPg_e _ (rkPg_in hb hk)
  rw [Bool.and_eq_true, Bool.and_eq_true] at g
  obtain ⟨g1, g2, g3⟩ := g
  have k1 := List.all_eq_true.mp g1
  have m : ∀ x : Nat, x < 10 → b + 10 * k + x ∈ rkOl := fun x hx => rkOl_in hb hk hx
  have f : ∀ i : Nat, tqOk (b + 10 * k) i = true → S_p (b + 10 * k) (i : Int) = S (b + 10 * k) (i : Int) := fun i ho => h _ i (Nat.le_refl _) (by omega) (m 0 (by omega)) ho
  refine ⟨f 0 (k1 0 (by decide)), f 4 (k1 4 (by decide)), ⟨f 8 (k1 8 (by decide)), f 9 (k1 9 (by decide)), f 10 (k1 10 (by decide))⟩, fun i a c => ?_, fun p p4 p9 i a c => ?_⟩
  · have q := List.all_eq_true.mp g2 i.toNat (List.mem_range.mpr (by omega))
    rw [Bool.and_eq_true] at q
    have q1 := h _ _ (by omega) (by omega) (m 1 (by omega)) q.1
    have q2 := h _ _ (by omega) (by omega) (m 2 (by omega)) q.2
    rw [Int.toNat_of_nonneg a] at q1 q2
    exact ⟨q1, q2⟩
  · have pm : p ∈ [4, 5, 6, 7, 8, 9] := by
      have e : p = 4 ∨ p = 5 ∨ p = 6 ∨ p = 7 ∨ p = 8 ∨ p = 9 := by omega
      rcases e with rfl | rfl | rfl | rfl | rfl | rfl <;> decide
    have q := List.all_eq_true.mp (List.all_eq_true.mp g3 p pm) i.toNat (List.mem_range.mpr (by omega))
    have q1 := h _ _ (by omega) (by omega) (m p (by omega)) q
    rw [Int.toNat_of_nonneg a] at q1
    exact q1
end
section
noncomputable def rxIADLQ_0 (S0 : Nat → Int → Int) (ws : List Int) (S : Nat → Int → Int) : Prop := S = S0 ∧ ws = [1, 427]
noncomputable def rxmADLQ_0 (S0 : Nat → Int → Int) (ws : List Int) (S : Nat → Int → Int) : Nat := 100
noncomputable def rxzADLQ_0 : rx_Z := ([(0, 0), (0, 0), (0, 0), (0, 0), (0, 0), (0, 0), (0, 0), (0, 0)], [], [], 0, 0, 0, [(0, .inr (3, (0, 1))), (1, .inr (3, (0, 427)))], [])
noncomputable def rxIADLQ_1 (S0 : Nat → Int → Int) (ws : List Int) (S : Nat → Int → Int) (rp nl : Int) : Prop := nl = S 1 14 ∧ S = S0 ∧ ws = [1, 427] ∧ ∃ i : Nat, i < 6 ∧ S0 1 14 = (i : Int) ∧ rp = ((77 + 10 * i : Nat) : Int)
noncomputable def rxmADLQ_1 (S0 : Nat → Int → Int) (ws : List Int) (S : Nat → Int → Int) (rp nl : Int) : Nat := 50
noncomputable def rxzADLQ_1 : rx_Z := ([(0, 0), (0, 0), (0, 0), (0, 0), (0, 0), (0, 0), (0, 0), (0, 0), (0, 1522), (0, 5)], [], [(((8, 0), 1000007), .inl none), (((0, 1), 14), .inr (0, (9, 0)))], 0, 0, 21, [(0, .inr (3, (0, 1))), (1, .inr (3, (0, 427)))], [.inr (3, (0, 427)), .inr (3, (8, 0))])
noncomputable def rxIADLQ_2 (S0 : Nat → Int → Int) (ws : List Int) (S : Nat → Int → Int) (rp nl : Int) : Prop := nl = S0 1 14 ∧ ws = [1, 427] ∧ ∃ i : Nat, i < 6 ∧ S0 1 14 = (i : Int) ∧ rkQc S0 S (77 + 10 * i) 427
noncomputable def rxmADLQ_2 (S0 : Nat → Int → Int) (ws : List Int) (S : Nat → Int → Int) (rp nl : Int) : Nat := 40
noncomputable def rxzADLQ_2 : rx_Z := ([(0, 0), (0, 0), (0, 0), (0, 0), (0, 0), (0, 0), (0, 0), (0, 0), (0, 1522), (0, 5)], [], [(((8, 0), 1000007), .inl none), (((0, 1), 14), .inr (0, (9, 0)))], 0, 0, 24, [(0, .inr (3, (0, 1))), (1, .inr (3, (0, 427)))], [])
noncomputable def rxoADLQ_0_0 : bx_HO := (([(0, 0), (0, 0), (0, 0), (0, 0), (0, 0), (0, 0), (0, 0), (0, 0), (0, 5), (0, 1522)], [], [(((0, 0), 1851192626986356797424364830707437625680387377997778264876384256000000), .inr (3, (9, 0))), (((9, 0), 1000007), .inl none), (((0, 1), 16), .inr (3, (0, 20))), (((0, 0), 1851192626986356800234234225391877833944518517379736727307485184000000), .inr (0, (8, 0))), (((0, 1), 14), .inr (0, (8, 0)))], 0, 0, 21, [(0, .inr (3, (0, 1))), (1, .inr (3, (0, 427)))], [.inr (3, (0, 427)), .inr (3, (9, 0))]), [], [], [(0, 0), (0, 0), (0, 0), (0, 0), (0, 0), (0, 0), (0, 0), (0, 0), (9, 0), (8, 0)], 1)
noncomputable def rxeADLQ_0_0 : rx_End × List (Nat × Int × Int) := (([(0, 0), (0, 0), (0, 0), (0, 0), (0, 0), (0, 0), (0, 0), (0, 0), (6, 6)], [], [(((0, 0), 1851192626986356800234234225391877833944518517379736727307485184000000), .inr (0, (8, 0))), (((0, 1), 14), .inr (0, (8, 0)))], some (.inr (0, (0, (-1))))), [])
noncomputable def rxeADLQ_2_0 : rx_End × List (Nat × Int × Int) := (([(0, 0), (0, 0), (0, 0), (0, 0), (0, 0), (0, 0), (0, 0), (0, 0), (0, 1522), (0, 5)], [], [(((0, 0), 1851192626986356800234234225391877833944518517379736727307485187000000), .inr (0, (9, 1))), (((0, 1), 14), .inr (0, (9, 1))), (((8, 0), 1000007), .inl none)], some (.inr (0, (9, 0)))), [])
noncomputable def rxYADLQ : List bx_HE := [(rxzADLQ_0, [rxoADLQ_0_0], [rxeADLQ_0_0]), (rxzADLQ_1, [], []), (rxzADLQ_2, [], [rxeADLQ_2_0])]
noncomputable def rxUADLQ (q : bx_HE) : Bool := Nat.beq (rx_zpc q.1) 21
noncomputable def rxYBADLQ : bx_B := (rxV, rxNP, rxDmf, bx_mdH rxC121.2.2.1)
set_option maxRecDepth 100000 in
theorem rxYcADLQ : bx_chkH rxYBADLQ rxM121 rxC121 rxYADLQ (rxUADLQ, fun cut z => rx_ex2 (rxCT rxYBADLQ rxCnE) cut 30000 rxC121.2.2.2.1 121 z) = true := by decide +kernel
noncomputable def rxIADLQ (S0 : Nat → Int → Int) (ws : List Int) (i : Nat) : bx_SP := fun S r => match i with | 0 => rxIADLQ_0 S0 ws S | 1 => rxIADLQ_1 S0 ws S (r 8) (r 9) | 2 => rxIADLQ_2 S0 ws S (r 8) (r 9) | _ => False
noncomputable def rxmADLQ (S0 : Nat → Int → Int) (ws : List Int) (i : Nat) (S : Nat → Int → Int) (r : Nat → Int) : Nat := match i with | 0 => rxmADLQ_0 S0 ws S | 1 => rxmADLQ_1 S0 ws S (r 8) (r 9) | 2 => rxmADLQ_2 S0 ws S (r 8) (r 9) | _ => 0
noncomputable def rxPADLQ (S0 : Nat → Int → Int) (ws : List Int) : Prop := rkPf S0
noncomputable def rxPSADLQ (S0 : Nat → Int → Int) (ws : List Int) (S : Nat → Int → Int) (w : Option Int) : Prop := rxPSADL S0 ws S w ∧ (S0 1 14 < 6 → ∃ (i : Nat) (S1 : Nat → Int → Int), i < 6 ∧ S0 1 14 = (i : Int) ∧ rkQc S0 S1 (77 + 10 * i) 427 ∧ ∀ (p : Nat) (j : Int), ¬ (p = 1 ∧ j = 14) → S p j = S1 p j)
theorem rxkADLQ_1 {S0 : Nat → Int → Int} {ws : List Int} {S : Nat → Int → Int} {rp nl : Int} (hP : rxPADLQ S0 ws) (hin : bx_same rxL (bx_mdl rxC121.2.2.1) S0 S) (I0 : bx_Inv rxL S) (hinv : rxIADLQ_1 S0 ws S rp nl) (l8 : 0 ≤ rp) (u8 : rp ≤ 1522) (l9 : 0 ≤ nl) (u9 : nl ≤ 5) : rxPQCZ S [rp, 427] ∧ ∀ (S_p : Nat → Int → Int), rxPSQCZ S [rp, 427] S_p none → bx_Inv rxL S_p → bx_same rxL (bx_mdl rxCQCZ.2.2.1) S S_p → rxIADLQ_2 S0 ws S_p rp nl ∧ rxmADLQ_2 S0 ws S_p rp nl < rxmADLQ_1 S0 ws S rp nl := by
  obtain ⟨hnl, rfl, hw, i, i6, hi, hr⟩ := hinv
  obtain ⟨p427, p20, -⟩ := hP
  have e : i = 0 ∨ i = 1 ∨ i = 2 ∨ i = 3 ∨ i = 4 ∨ i = 5 := by omega
  have hm : 77 + 10 * i ∈ rkPg := by rcases e with rfl | rfl | rfl | rfl | rfl | rfl <;> decide
  exact ⟨⟨77 + 10 * i, 427, by rw [hr]; rfl, ⟨hm, by decide, by omega⟩, p427, (p20 i i6).2⟩, fun S_p hq I1 hsm => ⟨⟨hnl, hw, i, i6, hi, hq.2 (77 + 10 * i) 427 (by rw [hr]; rfl)⟩, by unfold rxmADLQ_1 rxmADLQ_2; omega⟩⟩
theorem rxsADLQ_1 {X : (Nat → Int → Int) → Prop} {S0 : Nat → Int → Int} {ws : List Int} (hP : rxPADLQ S0 ws) : rx_obK X S0 rxC121.2.2.1 rxCQCZ.2.2.1 (rxIADLQ S0 ws) (rxmADLQ S0 ws) 1 2 rxzADLQ_1 rxzADLQ_2 [.inr (3, (8, 0)), .inr (3, (0, 427))] none rxPQCZ rxPSQCZ := by
  intro S r hinv hXS I0 hin hs_ hf_
  have b_ := bx_bds_sat hs_
  have f_ := bx_fcl_ok hs_.1 hf_
  obtain ⟨⟨l8, u8⟩, ⟨l9, u9⟩, -⟩ := b_
  have g := rxkADLQ_1 hP hin I0 hinv l8 u8 l9 u9
  have ea : List.map (bx_num r) [.inr (3, (8, 0)), .inr (3, (0, 427))] = [(r 8), 427] := by
    simp only [List.map_cons, List.map_nil, bx_xv_ok hs_.1]
    rfl
  rw [ea]
  refine ⟨g.1, fun S_p w r_p hPS hX_p I1 hsm hr hw hs_p => ?_⟩
  have hw : w = none := hPS.1
  subst hw
  have g2 := g.2 S_p hPS I1 hsm
  show rxIADLQ_2 S0 ws S_p (r_p 8) (r_p 9) ∧ rxmADLQ_2 S0 ws S_p (r_p 8) (r_p 9) < _
  rw [hr 8 (by decide), hr 9 (by decide)]
  exact g2
theorem rxcADLQ_0_0 {S0 : Nat → Int → Int} {ws : List Int} {S : Nat → Int → Int} {x8 x9 : Int} (hP : rxPADLQ S0 ws) (hin : bx_same rxL (bx_mdl rxC121.2.2.1) S0 S) (I0 : bx_Inv rxL S) (hinv : rxIADLQ_0 S0 ws S) (l8 : 0 ≤ x8) (u8 : x8 ≤ 5) (l9 : 0 ≤ x9) (u9 : x9 ≤ 1522) (e1 : S 1 14 = x8) (e0 : S 20 x8 = x9) : (True) ∧ (True) ∧ rxIADLQ_1 S0 ws S x9 x8 ∧ rxmADLQ_1 S0 ws S x9 x8 < rxmADLQ_0 S0 ws S := by
  obtain ⟨rfl, hw⟩ := hinv
  obtain ⟨-, p20, -⟩ := hP
  have b : x8 = ((x8.toNat : Nat) : Int) := by omega
  have g := (p20 x8.toNat (by omega)).1
  rw [← b] at g
  exact ⟨trivial, trivial, ⟨by omega, rfl, hw, x8.toNat, by omega, by omega, e0.symm.trans g⟩, by unfold rxmADLQ_0 rxmADLQ_1; omega⟩
theorem rxgADLQ_0_0 {X : (Nat → Int → Int) → Prop} {S0 : Nat → Int → Int} {ws : List Int} (hP : rxPADLQ S0 ws) : bx_obC rxL X S0 rxC121.2.2.1 (rxIADLQ S0 ws) (rxmADLQ S0 ws) 0 rxzADLQ_0 rxoADLQ_0_0 := by
  intro S S_p r r_p hinv hX hin hsm_ hseg
  obtain ⟨I0, I1, h0_, hr_, b_, f_, d_⟩ := bx_cl (evs := [(0, (0, 20), (8, 0), .inr (3, (9, 0))), (0, (0, 1), (0, 14), .inr (0, (8, 0)))]) (fvs := []) hseg (by decide +kernel) (by decide +kernel)
  have hinv : rxIADLQ_0 S0 ws S := hinv
  obtain ⟨⟨l8, u8⟩, ⟨l9, u9⟩, -⟩ := b_
  obtain ⟨e0, ⟨e1, w_⟩⟩ := d_
  subst w_
  have g := rxcADLQ_0_0 hP hin I0 hinv l8 u8 l9 u9 e1 e0
  refine ⟨bx_narP_ok (l := []) g.1, bx_nfP_ok h0_ (fvs := []) (by decide +kernel) g.2.1, ?_, ?_⟩
  · show rxIADLQ_1 S0 ws S_p (bx_val [(0, 0), (0, 0), (0, 0), (0, 0), (0, 0), (0, 0), (0, 0), (0, 0), (9, 0), (8, 0)] r_p 8) (bx_val [(0, 0), (0, 0), (0, 0), (0, 0), (0, 0), (0, 0), (0, 0), (0, 0), (9, 0), (8, 0)] r_p 9)
    rw [bx_val_x (n := 8) (e := (9, 0)) h0_ rfl, bx_val_x (n := 9) (e := (8, 0)) h0_ rfl]
    exact g.2.2.1
  · show rxmADLQ_1 S0 ws S_p (bx_val [(0, 0), (0, 0), (0, 0), (0, 0), (0, 0), (0, 0), (0, 0), (0, 0), (9, 0), (8, 0)] r_p 8) (bx_val [(0, 0), (0, 0), (0, 0), (0, 0), (0, 0), (0, 0), (0, 0), (0, 0), (9, 0), (8, 0)] r_p 9) < rxmADLQ_0 S0 ws S_p
    rw [bx_val_x (n := 8) (e := (9, 0)) h0_ rfl, bx_val_x (n := 9) (e := (8, 0)) h0_ rfl]
    exact g.2.2.2
theorem rxdADLQ_0_0 {S0 : Nat → Int → Int} {ws : List Int} {S : Nat → Int → Int} {x8 : Int} (hP : rxPADLQ S0 ws) (hin : bx_same rxL (bx_mdl rxC121.2.2.1) S0 S) (hin2 : bx_same rxL (bx_mdl rxC121.2.2.1) S S) (I0 : bx_Inv rxL S) (I1 : bx_Inv rxL S) (hinv : rxIADLQ_0 S0 ws S) (l8 : 6 ≤ x8) (u8 : x8 ≤ 6) (e0 : S 1 14 = x8) : (True) ∧ rxPSADLQ S0 ws S (some ((-1))) := by
  obtain ⟨rfl, hw⟩ := hinv
  exact ⟨trivial, ⟨hw, Or.inl ⟨by omega, rfl⟩⟩, fun g => by omega⟩
theorem rxfADLQ_0_0 {X : (Nat → Int → Int) → Prop} {S0 : Nat → Int → Int} {ws : List Int} (hP : rxPADLQ S0 ws) : bx_obE rxL X S0 rxC121.2.2.1 (rxIADLQ S0 ws) (rxPSADLQ S0 ws) 0 rxzADLQ_0 rxeADLQ_0_0 := by
  intro S S_p r r_p hinv hX hin hsm_ hseg
  obtain ⟨I0, I1, h0_, hr_, b_, f_, d_⟩ := bx_cl (evs := [(0, (0, 1), (0, 14), .inr (0, (8, 0)))]) (fvs := []) hseg (by decide +kernel) (by decide +kernel)
  have hinv : rxIADLQ_0 S0 ws S := hinv
  obtain ⟨⟨l8, u8⟩, -⟩ := b_
  obtain ⟨e0, w_⟩ := d_
  subst w_
  have g := rxdADLQ_0_0 hP hin hsm_ I0 I1 hinv l8 u8 e0
  refine ⟨bx_narP_ok (l := []) g.1, ?_⟩
  show rxPSADLQ S0 ws S_p (some (bx_num r_p (.inr (0, (0, (-1))))))
  rw [bx_xv_ok h0_]
  exact g.2
theorem rxdADLQ_2_0 {S0 : Nat → Int → Int} {ws : List Int} {S : Nat → Int → Int} {rp nl : Int} (hP : rxPADLQ S0 ws) (hin : bx_same rxL (bx_mdl rxC121.2.2.1) S0 S) (hin2 : bx_same rxL (bx_mdl rxC121.2.2.1) S (bx_up S 1 14 (nl + 1))) (I0 : bx_Inv rxL S) (I1 : bx_Inv rxL (bx_up S 1 14 (nl + 1))) (hinv : rxIADLQ_2 S0 ws S rp nl) (l8 : 0 ≤ rp) (u8 : rp ≤ 1522) (l9 : 0 ≤ nl) (u9 : nl ≤ 5) : (True) ∧ rxPSADLQ S0 ws (bx_up S 1 14 (nl + 1)) (some nl) := by
  obtain ⟨hnl, hw, i, i6, hi, q⟩ := hinv
  have qf := q.2.2.2.2.2.2.2.2.2.2.1
  have f1 : ∀ j : Int, S 1 j = S0 1 j := fun j => qf 1 j (by omega) (by omega) (by omega) (by omega) (by omega) (by omega) (by omega) (by omega) (by omega)
  have f138 : S 138 14 = S0 138 14 := qf 138 14 (by omega) (by omega) (by omega) (by omega) (by omega) (by omega) (by omega) (by omega) (by omega)
  have f274 : S 274 14 = S0 274 14 := qf 274 14 (by omega) (by omega) (by omega) (by omega) (by omega) (by omega) (by omega) (by omega) (by omega)
  have f14 := f1 14
  exact ⟨trivial, ⟨hw, Or.inr ⟨by omega, congrArg some hnl, bx_up_at.trans (by omega), (bx_up_ne (by omega)).trans f138, (bx_up_ne (by omega)).trans f274⟩⟩, fun _ => ⟨i, S, i6, hi, q, fun p j n => bx_up_ne n⟩⟩
theorem rxfADLQ_2_0 {X : (Nat → Int → Int) → Prop} {S0 : Nat → Int → Int} {ws : List Int} (hP : rxPADLQ S0 ws) : bx_obE rxL X S0 rxC121.2.2.1 (rxIADLQ S0 ws) (rxPSADLQ S0 ws) 2 rxzADLQ_2 rxeADLQ_2_0 := by
  intro S S_p r r_p hinv hX hin hsm_ hseg
  obtain ⟨I0, I1, h0_, hr_, b_, f_, d_⟩ := bx_cl (evs := [(1, (0, 1), (0, 14), .inr (0, (9, 1)))]) (fvs := []) hseg (by decide +kernel) (by decide +kernel)
  have hinv : rxIADLQ_2 S0 ws S (r 8) (r 9) := hinv
  rw [← hr_ 8 (by decide), ← hr_ 9 (by decide)] at hinv
  obtain ⟨⟨l8, u8⟩, ⟨l9, u9⟩, -⟩ := b_
  obtain ⟨T0, w_, w0⟩ := d_
  subst w0
  subst w_
  have g := rxdADLQ_2_0 hP hin hsm_ I0 I1 hinv l8 u8 l9 u9
  refine ⟨bx_narP_ok (l := []) g.1, ?_⟩
  show rxPSADLQ S0 ws (bx_up T0 1 (14) (r_p 9 + 1)) (some (bx_num r_p (.inr (0, (9, 0)))))
  rw [bx_xv_ok h0_]
  exact g.2
theorem rxgCADLQ {X : (Nat → Int → Int) → Prop} {S0 : Nat → Int → Int} {ws : List Int} (hP : rxPADLQ S0 ws) : bx_allI (fun i q => rxUADLQ q = true ∨ bx_allP (fun o => bx_obC rxL X S0 rxC121.2.2.1 (rxIADLQ S0 ws) (rxmADLQ S0 ws) i q.1 o) q.2.1) 0 rxYADLQ := ⟨Or.inr ⟨rxgADLQ_0_0 hP, trivial⟩, Or.inl rfl, Or.inr trivial, trivial⟩
theorem rxgEADLQ {X : (Nat → Int → Int) → Prop} {S0 : Nat → Int → Int} {ws : List Int} (hP : rxPADLQ S0 ws) : bx_allI (fun i q => rxUADLQ q = true ∨ bx_allP (fun E => bx_obE rxL X S0 rxC121.2.2.1 (rxIADLQ S0 ws) (rxPSADLQ S0 ws) i q.1 E) q.2.2) 0 rxYADLQ := ⟨Or.inr ⟨rxfADLQ_0_0 hP, trivial⟩, Or.inl rfl, Or.inr ⟨rxfADLQ_2_0 hP, trivial⟩, trivial⟩
theorem rxuADLQ {PX : State → Prop} {Dg : va_G} {A : Nat → Prop} {ad xa : Nat → Nat} {l : Launch} {X : (Nat → Int → Int) → Prop} (hPX : rx_PXOK rxNW A PX) (hX : ∀ S S1 : Nat → Int → Int, X S → bx_same rxL (bx_mdl rxC121.2.2.1) S S1 → X S1) (hQQCZ : bx_ConP rxG rxNW rxAO PX Dg rxL X vwCl A ad l rxM95 rxCQCZ rxPQCZ rxPSQCZ) {S0 : Nat → Int → Int} {ws : List Int} (hP : rxPADLQ S0 ws) : ∀ (i : Nat) (q : bx_HE), rxYADLQ[i]? = some q → rxUADLQ q = true → ∀ {p : Program} {e : Env} {R : Room} {s : State} {m : MethodId} {args : Array Value} {below : List Frame} {meth : Method} {c : Code} {Q : State → Prop} {H0 : Heap}, rx_Fr rxG rxNW rxAO PX p s m args meth c rxM121 → (∀ q, H0.size ≤ q → A q) → H0 = s.heap → rxM121.2.2.2.2.2.2.1 ≤ R.cells → rxM121.2.2.2.2.2.2.2 ≤ R.slots → rxC121.2.2.2.1 ≤ R.frames → rxC121.2.2.2.1 * 40 ≤ R.locals → bx_Step p l e R s m args below meth c Q Dg rxL X vwCl A xa H0 ad rxM121 rxYADLQ (rxIADLQ S0 ws) (rxmADLQ S0 ws) S0 rxC121.2.2.1 i q := by
  intro i q hq hus p e R s m args below meth c Q H0 hF hA hH0 hmc hms hd hdl
  match i, hq with
  | 0, hq =>
    cases hq
    exact absurd (show false = true from hus) Bool.false_ne_true
  | 1, hq =>
    cases hq
    exact rx_stepC (ins := .invokevirtual 102) (len := 3) (i_p := 2) (M_p := rxM95) (d := rxC121.2.2.2.1) (as := [.inr (3, (8, 0)), .inr (3, (0, 427))]) (t := []) (ct := rxCQCZ) hPX hF rfl hA hH0 hmc hms hd hdl (by decide +kernel) rfl rfl (by decide +kernel) (by decide +kernel) hQQCZ (by decide +kernel) rfl (Or.inl ⟨rfl, rfl, rfl⟩) (rxsADLQ_1 hP)
  | 2, hq =>
    cases hq
    exact absurd (show false = true from hus) Bool.false_ne_true
  | n + 3, hq => cases hq
theorem rxQADLQ {PX : State → Prop} {Dg : va_G} {A : Nat → Prop} {ad xa : Nat → Nat} {l : Launch} {X : (Nat → Int → Int) → Prop} (hPX : rx_PXOK rxNW A PX) (hsl : ∀ s : State, PX s → ∀ o idx n : Nat, rxSl o idx = some n → ∃ tx : String, vk_R (rxNm o) idx tx (ad n) s)
    (hX : ∀ S S_p : Nat → Int → Int, X S → bx_same rxL (bx_mdl rxC121.2.2.1) S S_p → X S_p)
    (ih : ∀ (j2 : Nat) (ct2 : bx_Ct) (M2 : rx_Mt), ct2 ∈ rxCnE j2 → ct2.2.2.2.1 + 1 ≤ rxC121.2.2.2.1 → rxT.2.2.2.2.2 j2 = some M2 → bx_Con rxG rxNW rxAO PX Dg rxL X vwCl A ad l M2 ct2) (hQQCZ : bx_ConP rxG rxNW rxAO PX Dg rxL X vwCl A ad l rxM95 rxCQCZ rxPQCZ rxPSQCZ) : bx_ConP rxG rxNW rxAO PX Dg rxL X vwCl A ad l rxM121 rxC121 rxPADLQ rxPSADLQ :=
  rxQof (xa := xa) (Cn := rxCnE) (f := 30000) (j := 121) (tab := rxYADLQ) (us := rxUADLQ) hPX hsl hX ih rfl rxYcADLQ rxIADLQ rxmADLQ
    (fun S0 ws r I0 I ht0 ht as he he1 hX0 hI0 hP hs ha => by
      have e := he.symm.trans (show bx_ent0 rxNP rxC121.1 bx_I0 [] = some ([(0, 0), (0, 0), (0, 0), (0, 0), (0, 0), (0, 0), (0, 0), (0, 0)], [], [.inr (3, (0, 1)), .inr (3, (0, 427))]) from rfl)
      cases e
      subst ha
      have h0 : r 0 = 0 := hs.1
      show rxIADLQ_0 S0 _ S0
      refine ⟨rfl, ?_⟩
      simp only [List.map_cons, List.map_nil, bx_xv_ok h0]
      rfl)
    (fun S0 ws hP => rxuADLQ (xa := xa) hPX hX hQQCZ hP) (fun S0 ws hP => rxgCADLQ hP) (fun S0 ws hP => rxgEADLQ hP)
end
section
noncomputable def rxILWDK_0 (S0 : Nat → Int → Int) (ws : List Int) (S : Nat → Int → Int) : Prop := rxILWD_0 S0 ws S ∧ True
noncomputable def rxmLWDK_0 (S0 : Nat → Int → Int) (ws : List Int) (S : Nat → Int → Int) : Nat := rxmLWD_0 S0 ws S
noncomputable def rxzLWDK_0 : rx_Z := ([(0, 0), (0, 0), (0, 0), (0, 0), (0, 0), (0, 0), (0, 0), (0, 0)], [], [], 0, 0, 0, [(0, .inr (3, (0, 0)))], [])
noncomputable def rxILWDK_1 (S0 : Nat → Int → Int) (ws : List Int) (S : Nat → Int → Int) : Prop := rxILWD_1 S0 ws S ∧ rkPO S0 S
noncomputable def rxmLWDK_1 (S0 : Nat → Int → Int) (ws : List Int) (S : Nat → Int → Int) : Nat := rxmLWD_1 S0 ws S
noncomputable def rxzLWDK_1 : rx_Z := ([(0, 0), (0, 0), (0, 0), (0, 0), (0, 0), (0, 0), (0, 0), (0, 0)], [], [], 0, 0, 25, [(0, .inr (3, (0, 0)))], [.inr (0, (0, (-5))), .inr (3, (0, 0))])
noncomputable def rxILWDK_2 (S0 : Nat → Int → Int) (ws : List Int) (S : Nat → Int → Int) (res : Int) : Prop := rxILWD_2 S0 ws S res ∧ rkPO S0 S
noncomputable def rxmLWDK_2 (S0 : Nat → Int → Int) (ws : List Int) (S : Nat → Int → Int) (res : Int) : Nat := rxmLWD_2 S0 ws S res
noncomputable def rxzLWDK_2 : rx_Z := ([(0, 0), (0, 0), (0, 0), (0, 0), (0, 0), (0, 0), (0, 0), (0, 0), ((-6), (-1))], [], [], 0, 0, 28, [(0, .inr (3, (0, 0)))], [.inr (0, (8, 0))])
noncomputable def rxILWDK_3 (S0 : Nat → Int → Int) (ws : List Int) (S : Nat → Int → Int) (nb : Int) : Prop := rxILWD_3 S0 ws S nb ∧ rkPO S0 S
noncomputable def rxmLWDK_3 (S0 : Nat → Int → Int) (ws : List Int) (S : Nat → Int → Int) (nb : Int) : Nat := rxmLWD_3 S0 ws S nb
noncomputable def rxzLWDK_3 : rx_Z := ([(0, 0), (0, 0), (0, 0), (0, 0), (0, 0), (0, 0), (0, 0), (0, 0), (0, 400)], [], [], 0, 0, 43, [(0, .inr (3, (0, 0))), (1, .inr (0, (8, 0)))], [.inr (3, (0, 427)), .inr (0, (0, 0)), .inr (0, (8, 0)), .inr (3, (0, 411)), .inr (3, (0, 412))])
noncomputable def rxILWDK_4 (S0 : Nat → Int → Int) (ws : List Int) (S : Nat → Int → Int) (nb res : Int) : Prop := rxILWD_4 S0 ws S nb res ∧ ((res = 1 → ∃ L : List rkQ, rkText false (rzCut (S0 411)) (S0 0 4) L ∧ rkHl S 427 L) ∧ rkPO S0 S)
noncomputable def rxmLWDK_4 (S0 : Nat → Int → Int) (ws : List Int) (S : Nat → Int → Int) (nb res : Int) : Nat := rxmLWD_4 S0 ws S nb res
noncomputable def rxzLWDK_4 : rx_Z := ([(0, 0), (0, 0), (0, 0), (0, 0), (0, 0), (0, 0), (0, 0), (0, 0), (0, 400), (0, 1)], [], [], 0, 0, 46, [(0, .inr (3, (0, 0))), (1, .inr (0, (8, 0)))], [.inr (0, (9, 0))])
noncomputable def rxILWDK_5 (S0 : Nat → Int → Int) (ws : List Int) (S : Nat → Int → Int) : Prop := rxILWD_5 S0 ws S ∧ rkPO S0 S
noncomputable def rxmLWDK_5 (S0 : Nat → Int → Int) (ws : List Int) (S : Nat → Int → Int) : Nat := rxmLWD_5 S0 ws S
noncomputable def rxzLWDK_5 : rx_Z := ([(0, 0), (0, 0), (0, 0), (0, 0), (0, 0), (0, 0), (0, 0), (0, 0)], [], [], 0, 0, 70, [(0, .inr (3, (0, 0)))], [.inr (0, (0, (-6))), .inr (3, (0, 0))])
noncomputable def rxILWDK_6 (S0 : Nat → Int → Int) (ws : List Int) (S : Nat → Int → Int) (res : Int) : Prop := rxILWD_6 S0 ws S res ∧ rkPO S0 S
noncomputable def rxmLWDK_6 (S0 : Nat → Int → Int) (ws : List Int) (S : Nat → Int → Int) (res : Int) : Nat := rxmLWD_6 S0 ws S res
noncomputable def rxzLWDK_6 : rx_Z := ([(0, 0), (0, 0), (0, 0), (0, 0), (0, 0), (0, 0), (0, 0), (0, 0), ((-6), (-1))], [], [], 0, 0, 73, [(0, .inr (3, (0, 0)))], [.inr (0, (8, 0))])
noncomputable def rxILWDK_7 (S0 : Nat → Int → Int) (ws : List Int) (S : Nat → Int → Int) : Prop := rxILWD_7 S0 ws S ∧ (rkPO S0 S ∧ ∃ L : List rkQ, rkText false (rzCut (S0 411)) (S0 0 4) L ∧ rkHl S 427 L)
noncomputable def rxmLWDK_7 (S0 : Nat → Int → Int) (ws : List Int) (S : Nat → Int → Int) : Nat := rxmLWD_7 S0 ws S
noncomputable def rxzLWDK_7 : rx_Z := ([(0, 0), (0, 0), (0, 0), (0, 0), (0, 0), (0, 0), (0, 0), (0, 0)], [], [], 0, 0, 58, [(0, .inr (3, (0, 0)))], [.inr (3, (0, 427)), .inr (3, (0, 1)), .inr (3, (0, 0))])
noncomputable def rxILWDK_8 (S0 : Nat → Int → Int) (ws : List Int) (S : Nat → Int → Int) (res : Int) : Prop := rxILWD_8 S0 ws S res ∧ rkLd8 S0 S
noncomputable def rxmLWDK_8 (S0 : Nat → Int → Int) (ws : List Int) (S : Nat → Int → Int) (res : Int) : Nat := rxmLWD_8 S0 ws S res
noncomputable def rxzLWDK_8 : rx_Z := ([(0, 0), (0, 0), (0, 0), (0, 0), (0, 0), (0, 0), (0, 0), (0, 0), ((-1), 5)], [], [], 0, 0, 61, [(0, .inr (3, (0, 0)))], [.inr (0, (8, 0)), .inr (3, (0, 0))])
noncomputable def rxoLWDK_0_0 : bx_HO := (([(0, 0), (0, 0), (0, 0), (0, 0), (0, 0), (0, 0), (0, 0), (0, 0), (0, 400), (6, 6)], [], [(((0, 0), 1851192626986356800234234225391877833944518517379736727307485184000000), .inr (0, (9, 0))), (((0, 1), 14), .inr (0, (9, 0))), (((0, 0), 0), .inr (3, (0, 1))), (((0, 0), 1851192626986356798227167157524121751206303872841384191768657923000000), .inr (0, (0, 0))), (((0, 0), 4), .inr (0, (0, 0))), (((0, 0), 1851192626986356798227167157524121751206303872841384191768657920000000), .inr (0, (8, 0)))], 0, 0, 25, [(1, .inr (0, (8, 0))), (0, .inr (3, (0, 0)))], [.inr (0, (0, (-5))), .inr (3, (0, 0))]), [], [], [(0, 0), (0, 0), (0, 0), (0, 0), (0, 0), (0, 0), (0, 0), (0, 0)], 1)
noncomputable def rxoLWDK_0_1 : bx_HO := (([(0, 0), (0, 0), (0, 0), (0, 0), (0, 0), (0, 0), (0, 0), (0, 0), (0, 400), (0, 5)], [], [(((0, 0), 6), .inr (3, (0, 427))), (((0, 0), 3), .inr (3, (0, 411))), (((0, 0), 5), .inr (3, (0, 412))), (((0, 0), 1851192626986356800234234225391877833944518517379736727307485184000000), .inr (0, (9, 0))), (((0, 1), 14), .inr (0, (9, 0))), (((0, 0), 0), .inr (3, (0, 1))), (((0, 0), 1851192626986356798227167157524121751206303872841384191768657923000000), .inr (0, (0, 0))), (((0, 0), 4), .inr (0, (0, 0))), (((0, 0), 1851192626986356798227167157524121751206303872841384191768657920000000), .inr (0, (8, 0)))], 0, 0, 43, [(1, .inr (0, (8, 0))), (0, .inr (3, (0, 0)))], [.inr (3, (0, 427)), .inr (0, (0, 0)), .inr (0, (8, 0)), .inr (3, (0, 411)), .inr (3, (0, 412))]), [], [], [(0, 0), (0, 0), (0, 0), (0, 0), (0, 0), (0, 0), (0, 0), (0, 0), (8, 0)], 3)
noncomputable def rxeLWDK_2_0 : rx_End × List (Nat × Int × Int) := (([(0, 0), (0, 0), (0, 0), (0, 0), (0, 0), (0, 0), (0, 0), (0, 0), ((-6), (-1))], [], [], some (.inr (0, (8, 0)))), [])
noncomputable def rxoLWDK_4_0 : bx_HO := (([(0, 0), (0, 0), (0, 0), (0, 0), (0, 0), (0, 0), (0, 0), (0, 0), (0, 400), (1, 1)], [(3, (9, 0), (0, 0))], [(((0, 0), 6), .inr (3, (0, 427))), (((0, 0), 0), .inr (3, (0, 1)))], 0, 0, 58, [(0, .inr (3, (0, 0))), (1, .inr (0, (8, 0)))], [.inr (3, (0, 427)), .inr (3, (0, 1)), .inr (3, (0, 0))]), [], [], [(0, 0), (0, 0), (0, 0), (0, 0), (0, 0), (0, 0), (0, 0), (0, 0)], 7)
noncomputable def rxoLWDK_4_1 : bx_HO := (([(0, 0), (0, 0), (0, 0), (0, 0), (0, 0), (0, 0), (0, 0), (0, 0), (0, 400), (0, 0)], [], [], 0, 0, 70, [(0, .inr (3, (0, 0))), (1, .inr (0, (8, 0)))], [.inr (0, (0, (-6))), .inr (3, (0, 0))]), [], [], [(0, 0), (0, 0), (0, 0), (0, 0), (0, 0), (0, 0), (0, 0), (0, 0)], 5)
noncomputable def rxeLWDK_6_0 : rx_End × List (Nat × Int × Int) := (([(0, 0), (0, 0), (0, 0), (0, 0), (0, 0), (0, 0), (0, 0), (0, 0), ((-6), (-1))], [], [], some (.inr (0, (8, 0)))), [])
noncomputable def rxeLWDK_8_0 : rx_End × List (Nat × Int × Int) := (([(0, 0), (0, 0), (0, 0), (0, 0), (0, 0), (0, 0), (0, 0), (0, 0), ((-1), 5)], [], [(((0, 0), 1851192626986356799029993984671224184301589730656725205983952899000000), .inr (0, (0, 0))), (((0, 0), 8), .inr (0, (0, 0)))], some (.inr (0, (8, 0)))), [])
noncomputable def rxYLWDK : List bx_HE := [(rxzLWDK_0, [rxoLWDK_0_0, rxoLWDK_0_1], []), (rxzLWDK_1, [], []), (rxzLWDK_2, [], [rxeLWDK_2_0]), (rxzLWDK_3, [], []), (rxzLWDK_4, [rxoLWDK_4_0, rxoLWDK_4_1], []), (rxzLWDK_5, [], []), (rxzLWDK_6, [], [rxeLWDK_6_0]), (rxzLWDK_7, [], []), (rxzLWDK_8, [], [rxeLWDK_8_0])]
noncomputable def rxULWDK (q : bx_HE) : Bool := Nat.beq (rx_zpc q.1) 25 || Nat.beq (rx_zpc q.1) 43 || Nat.beq (rx_zpc q.1) 70 || Nat.beq (rx_zpc q.1) 58
noncomputable def rxYBLWDK : bx_B := (rxV, rxNP, rxDmf, bx_mdH rxC241.2.2.1)
set_option maxRecDepth 100000 in
theorem rxYcLWDK : bx_chkH rxYBLWDK rxM241 rxC241 rxYLWDK (rxULWDK, fun cut z => rx_ex2 (rxCT rxYBLWDK rxCnE) cut 30000 rxC241.2.2.2.1 241 z) = true := by decide +kernel
noncomputable def rxILWDK (S0 : Nat → Int → Int) (ws : List Int) (i : Nat) : bx_SP := fun S r => match i with | 0 => rxILWDK_0 S0 ws S | 1 => rxILWDK_1 S0 ws S | 2 => rxILWDK_2 S0 ws S (r 8) | 3 => rxILWDK_3 S0 ws S (r 8) | 4 => rxILWDK_4 S0 ws S (r 8) (r 9) | 5 => rxILWDK_5 S0 ws S | 6 => rxILWDK_6 S0 ws S (r 8) | 7 => rxILWDK_7 S0 ws S | 8 => rxILWDK_8 S0 ws S (r 8) | _ => False
noncomputable def rxmLWDK (S0 : Nat → Int → Int) (ws : List Int) (i : Nat) (S : Nat → Int → Int) (r : Nat → Int) : Nat := match i with | 0 => rxmLWDK_0 S0 ws S | 1 => rxmLWDK_1 S0 ws S | 2 => rxmLWDK_2 S0 ws S (r 8) | 3 => rxmLWDK_3 S0 ws S (r 8) | 4 => rxmLWDK_4 S0 ws S (r 8) (r 9) | 5 => rxmLWDK_5 S0 ws S | 6 => rxmLWDK_6 S0 ws S (r 8) | 7 => rxmLWDK_7 S0 ws S | 8 => rxmLWDK_8 S0 ws S (r 8) | _ => 0
noncomputable def rxPLWDK (S0 : Nat → Int → Int) (ws : List Int) : Prop := rxPLWD S0 ws ∧ (rkPf S0)
noncomputable def rxPSLWDK (S0 : Nat → Int → Int) (ws : List Int) (S : Nat → Int → Int) (w : Option Int) : Prop := rxPSLWD S0 ws S w ∧ (rkLd S0 S)
theorem rxkLWDK_1 {S0 : Nat → Int → Int} {ws : List Int} {S : Nat → Int → Int} (hP : rxPLWDK S0 ws) (hin : bx_same rxL (bx_mdl rxC241.2.2.1) S0 S) (I0 : bx_Inv rxL S) (hinv : rxILWDK_1 S0 ws S)  : rxP110 S [0, (-5)] ∧ ∀ (S_p : Nat → Int → Int) (res : Int), (-6) ≤ res → res ≤ (-1) → rxPS110 S [0, (-5)] S_p (some res) → bx_Inv rxL S_p → bx_same rxL (bx_mdl rxC110.2.2.1) S S_p → rxILWDK_2 S0 ws S_p res ∧ rxmLWDK_2 S0 ws S_p res < rxmLWDK_1 S0 ws S := by
  obtain ⟨hI, hx⟩ := hinv
  have g_ := rxkLWD_1 hP.1 hin I0 hI
  exact ⟨g_.1, fun S_p res l_ u_ hq I1 hsm => ⟨⟨(g_.2 S_p res l_ u_ hq I1 hsm).1, rkPO_sm hsm (by decide +kernel) hx⟩, (g_.2 S_p res l_ u_ hq I1 hsm).2⟩⟩
theorem rxsLWDK_1 {X : (Nat → Int → Int) → Prop} {S0 : Nat → Int → Int} {ws : List Int} (hP : rxPLWDK S0 ws) : rx_obK X S0 rxC241.2.2.1 rxC110.2.2.1 (rxILWDK S0 ws) (rxmLWDK S0 ws) 1 2 rxzLWDK_1 rxzLWDK_2 [.inr (3, (0, 0)), .inr (0, (0, (-5)))] (some 8) rxP110 rxPS110 := by
  intro S r hinv hXS I0 hin hs_ hf_
  have b_ := bx_bds_sat hs_
  have f_ := bx_fcl_ok hs_.1 hf_
  have g := rxkLWDK_1 hP hin I0 hinv 
  have ea : List.map (bx_num r) [.inr (3, (0, 0)), .inr (0, (0, (-5)))] = [0, -5] := by
    simp only [List.map_cons, List.map_nil, bx_xv_ok hs_.1]
    rfl
  rw [ea]
  refine ⟨g.1, fun S_p w r_p hPS hX_p I1 hsm hr hw hs_p => ?_⟩
  have hw := hw _ rfl
  subst hw
  have b_p := hs_p.2.2 8 _ _ rfl
  have g2 := g.2 S_p (r_p 8) b_p.1 b_p.2 hPS I1 hsm
  show rxILWDK_2 S0 ws S_p (r_p 8) ∧ rxmLWDK_2 S0 ws S_p (r_p 8) < _
  exact g2
theorem rxkLWDK_3 {S0 : Nat → Int → Int} {ws : List Int} {S : Nat → Int → Int} {nb : Int} (hP : rxPLWDK S0 ws) (hin : bx_same rxL (bx_mdl rxC241.2.2.1) S0 S) (I0 : bx_Inv rxL S) (hinv : rxILWDK_3 S0 ws S nb) (l8 : 0 ≤ nb) (u8 : nb ≤ 400) : rxPRDXO S [412, 411, nb, 0, 427] ∧ ∀ (S_p : Nat → Int → Int) (res : Int), 0 ≤ res → res ≤ 1 → rxPSRDXO S [412, 411, nb, 0, 427] S_p (some res) → bx_Inv rxL S_p → bx_same rxL (bx_mdl rxCRDXO.2.2.1) S S_p → rxILWDK_4 S0 ws S_p nb res ∧ rxmLWDK_4 S0 ws S_p nb res < rxmLWDK_3 S0 ws S nb := by
  obtain ⟨hI, hx⟩ := hinv
  have g_ := rxkLWD_3 hP.1 hin I0 hI l8 u8
  exact ⟨g_.1, fun S_p res l_ u_ hq I1 hsm => ⟨⟨(g_.2 S_p res l_ u_ hq.1.1 I1 hsm).1, (by
    obtain ⟨hS, h6, hnb, hw⟩ := hI
    have hp : rkPp S := hx.1
    obtain ⟨-, nb2, ap2, hw2, h⟩ := hq.1
    have e1 : nb = nb2 := Option.some.inj (congrArg (fun l : List Int => l[2]?) hw2)
    have e2 : (0 : Int) = ap2 := Option.some.inj (congrArg (fun l : List Int => l[3]?) hw2)
    subst e1
    subst e2
    refine ⟨fun g => ?_, hx.tr (hq.2 hp)⟩
    subst g
    obtain ⟨L, t1, t2, t3, t4, t5⟩ := h rfl hp
    have b0 : 0 ≤ S_p 427 0 ∧ S_p 427 0 ≤ 400 := I1 427 0 (by decide) (by decide)
    have eT : S 411 = S0 411 := by
      rw [hS]
      exact funext fun _ => bx_up_ne (by omega)
    rw [eT, hnb, show decide ((0 : Int) = 1) = false from by decide] at t1
    exact ⟨L, t1, t2, by omega, b0.2, by rw [rkAt_427]; exact t4⟩)⟩, (g_.2 S_p res l_ u_ hq.1.1 I1 hsm).2⟩⟩
theorem rxsLWDK_3 {X : (Nat → Int → Int) → Prop} {S0 : Nat → Int → Int} {ws : List Int} (hP : rxPLWDK S0 ws) : rx_obK X S0 rxC241.2.2.1 rxCRDXO.2.2.1 (rxILWDK S0 ws) (rxmLWDK S0 ws) 3 4 rxzLWDK_3 rxzLWDK_4 [.inr (3, (0, 412)), .inr (3, (0, 411)), .inr (0, (8, 0)), .inr (0, (0, 0)), .inr (3, (0, 427))] (some 9) rxPRDXO rxPSRDXO := by
  intro S r hinv hXS I0 hin hs_ hf_
  have b_ := bx_bds_sat hs_
  have f_ := bx_fcl_ok hs_.1 hf_
  obtain ⟨⟨l8, u8⟩, -⟩ := b_
  have g := rxkLWDK_3 hP hin I0 hinv l8 u8
  have ea : List.map (bx_num r) [.inr (3, (0, 412)), .inr (3, (0, 411)), .inr (0, (8, 0)), .inr (0, (0, 0)), .inr (3, (0, 427))] = [412, 411, (r 8), 0, 427] := by
    simp only [List.map_cons, List.map_nil, bx_xv_ok hs_.1]
    rfl
  rw [ea]
  refine ⟨g.1, fun S_p w r_p hPS hX_p I1 hsm hr hw hs_p => ?_⟩
  have hw := hw _ rfl
  subst hw
  have b_p := hs_p.2.2 9 _ _ rfl
  have g2 := g.2 S_p (r_p 9) b_p.1 b_p.2 hPS I1 hsm
  show rxILWDK_4 S0 ws S_p (r_p 8) (r_p 9) ∧ rxmLWDK_4 S0 ws S_p (r_p 8) (r_p 9) < _
  rw [hr 8 (by decide)]
  exact g2
theorem rxkLWDK_5 {S0 : Nat → Int → Int} {ws : List Int} {S : Nat → Int → Int} (hP : rxPLWDK S0 ws) (hin : bx_same rxL (bx_mdl rxC241.2.2.1) S0 S) (I0 : bx_Inv rxL S) (hinv : rxILWDK_5 S0 ws S)  : rxP110 S [0, (-6)] ∧ ∀ (S_p : Nat → Int → Int) (res : Int), (-6) ≤ res → res ≤ (-1) → rxPS110 S [0, (-6)] S_p (some res) → bx_Inv rxL S_p → bx_same rxL (bx_mdl rxC110.2.2.1) S S_p → rxILWDK_6 S0 ws S_p res ∧ rxmLWDK_6 S0 ws S_p res < rxmLWDK_5 S0 ws S := by
  obtain ⟨hI, hx⟩ := hinv
  have g_ := rxkLWD_5 hP.1 hin I0 hI
  exact ⟨g_.1, fun S_p res l_ u_ hq I1 hsm => ⟨⟨(g_.2 S_p res l_ u_ hq I1 hsm).1, rkPO_sm hsm (by decide +kernel) hx⟩, (g_.2 S_p res l_ u_ hq I1 hsm).2⟩⟩
theorem rxsLWDK_5 {X : (Nat → Int → Int) → Prop} {S0 : Nat → Int → Int} {ws : List Int} (hP : rxPLWDK S0 ws) : rx_obK X S0 rxC241.2.2.1 rxC110.2.2.1 (rxILWDK S0 ws) (rxmLWDK S0 ws) 5 6 rxzLWDK_5 rxzLWDK_6 [.inr (3, (0, 0)), .inr (0, (0, (-6)))] (some 8) rxP110 rxPS110 := by
  intro S r hinv hXS I0 hin hs_ hf_
  have b_ := bx_bds_sat hs_
  have f_ := bx_fcl_ok hs_.1 hf_
  have g := rxkLWDK_5 hP hin I0 hinv 
  have ea : List.map (bx_num r) [.inr (3, (0, 0)), .inr (0, (0, (-6)))] = [0, -6] := by
    simp only [List.map_cons, List.map_nil, bx_xv_ok hs_.1]
    rfl
  rw [ea]
  refine ⟨g.1, fun S_p w r_p hPS hX_p I1 hsm hr hw hs_p => ?_⟩
  have hw := hw _ rfl
  subst hw
  have b_p := hs_p.2.2 8 _ _ rfl
  have g2 := g.2 S_p (r_p 8) b_p.1 b_p.2 hPS I1 hsm
  show rxILWDK_6 S0 ws S_p (r_p 8) ∧ rxmLWDK_6 S0 ws S_p (r_p 8) < _
  exact g2
theorem rxkLWDK_7 {S0 : Nat → Int → Int} {ws : List Int} {S : Nat → Int → Int} (hP : rxPLWDK S0 ws) (hin : bx_same rxL (bx_mdl rxC241.2.2.1) S0 S) (I0 : bx_Inv rxL S) (hinv : rxILWDK_7 S0 ws S)  : rxPADLQ S [1, 427] ∧ ∀ (S_p : Nat → Int → Int) (res : Int), (-1) ≤ res → res ≤ 5 → rxPSADLQ S [1, 427] S_p (some res) → bx_Inv rxL S_p → bx_same rxL (bx_mdl rxC121.2.2.1) S S_p → rxILWDK_8 S0 ws S_p res ∧ rxmLWDK_8 S0 ws S_p res < rxmLWDK_7 S0 ws S := by
  obtain ⟨hI, hx⟩ := hinv
  have g_ := rxkLWD_7 hP.1 hin I0 hI
  exact ⟨rkPf_sm hin (by decide +kernel) (by decide +kernel) hP.2, fun S_p res l_ u_ hq I1 hsm => ⟨⟨(g_.2 S_p res l_ u_ hq.1 I1 hsm).1, (by
    obtain ⟨h1, L, h2, h3⟩ := hx
    obtain ⟨h6, hw, h4, h14, -⟩ := hI
    exact rkLd8_of h1 h2 h3 h14 (hq.2 (by omega)))⟩, (g_.2 S_p res l_ u_ hq.1 I1 hsm).2⟩⟩
theorem rxsLWDK_7 {X : (Nat → Int → Int) → Prop} {S0 : Nat → Int → Int} {ws : List Int} (hP : rxPLWDK S0 ws) : rx_obK X S0 rxC241.2.2.1 rxC121.2.2.1 (rxILWDK S0 ws) (rxmLWDK S0 ws) 7 8 rxzLWDK_7 rxzLWDK_8 [.inr (3, (0, 1)), .inr (3, (0, 427))] (some 8) rxPADLQ rxPSADLQ := by
  intro S r hinv hXS I0 hin hs_ hf_
  have b_ := bx_bds_sat hs_
  have f_ := bx_fcl_ok hs_.1 hf_
  have g := rxkLWDK_7 hP hin I0 hinv 
  have ea : List.map (bx_num r) [.inr (3, (0, 1)), .inr (3, (0, 427))] = [1, 427] := by
    simp only [List.map_cons, List.map_nil, bx_xv_ok hs_.1]
    rfl
  rw [ea]
  refine ⟨g.1, fun S_p w r_p hPS hX_p I1 hsm hr hw hs_p => ?_⟩
  have hw := hw _ rfl
  subst hw
  have b_p := hs_p.2.2 8 _ _ rfl
  have g2 := g.2 S_p (r_p 8) b_p.1 b_p.2 hPS I1 hsm
  show rxILWDK_8 S0 ws S_p (r_p 8) ∧ rxmLWDK_8 S0 ws S_p (r_p 8) < _
  exact g2
theorem rxcLWDK_0_0 {S0 : Nat → Int → Int} {ws : List Int} {S : Nat → Int → Int} {x8 x9 : Int} (hP : rxPLWDK S0 ws) (hin : bx_same rxL (bx_mdl rxC241.2.2.1) S0 S) (I0 : bx_Inv rxL S) (hinv : rxILWDK_0 S0 ws S) (l8 : 0 ≤ x8) (u8 : x8 ≤ 400) (l9 : 6 ≤ x9) (u9 : x9 ≤ 6) (e2 : S 0 4 = x8) (e0 : (bx_up S 0 4 0) 1 14 = x9) : (True) ∧ (True) ∧ rxILWDK_1 S0 ws (bx_up S 0 4 0) ∧ rxmLWDK_1 S0 ws (bx_up S 0 4 0) < rxmLWDK_0 S0 ws S := by
  obtain ⟨hI, hx⟩ := hinv
  obtain ⟨a_, b_, c_, d_⟩ := rxcLWD_0_0 hP.1 hin I0 hI l8 u8 l9 u9 e2 e0
  exact ⟨a_, b_, ⟨c_, (by
    have e := hI.1
    subst e
    exact (rkPO_up (q := 0) (by decide +kernel) (fun g => absurd g.1 (by decide)) (rkPO_rf (rkPp_of hP.2))))⟩, d_⟩
theorem rxgLWDK_0_0 {X : (Nat → Int → Int) → Prop} {S0 : Nat → Int → Int} {ws : List Int} (hP : rxPLWDK S0 ws) : bx_obC rxL X S0 rxC241.2.2.1 (rxILWDK S0 ws) (rxmLWDK S0 ws) 0 rxzLWDK_0 rxoLWDK_0_0 := by
  intro S S_p r r_p hinv hX hin hsm_ hseg
  obtain ⟨I0, I1, h0_, hr_, b_, f_, d_⟩ := bx_cl (evs := [(0, (0, 1), (0, 14), .inr (0, (9, 0))), (1, (0, 0), (0, 4), .inr (0, (0, 0))), (0, (0, 0), (0, 4), .inr (0, (8, 0)))]) (fvs := []) hseg (by decide +kernel) (by decide +kernel)
  have hinv : rxILWDK_0 S0 ws S := hinv
  obtain ⟨⟨l8, u8⟩, ⟨l9, u9⟩, -⟩ := b_
  obtain ⟨e0, ⟨T1, ⟨e2, w_⟩, w1⟩⟩ := d_
  subst w1
  subst w_
  have g := rxcLWDK_0_0 hP hin I0 hinv l8 u8 l9 u9 e2 e0
  refine ⟨bx_narP_ok (l := []) g.1, bx_nfP_ok h0_ (fvs := []) (by decide +kernel) g.2.1, ?_, ?_⟩
  · show rxILWDK_1 S0 ws (bx_up T1 0 (4) (0))
    exact g.2.2.1
  · show rxmLWDK_1 S0 ws (bx_up T1 0 (4) (0)) < rxmLWDK_0 S0 ws T1
    exact g.2.2.2
theorem rxcLWDK_0_1 {S0 : Nat → Int → Int} {ws : List Int} {S : Nat → Int → Int} {x8 x9 : Int} (hP : rxPLWDK S0 ws) (hin : bx_same rxL (bx_mdl rxC241.2.2.1) S0 S) (I0 : bx_Inv rxL S) (hinv : rxILWDK_0 S0 ws S) (l8 : 0 ≤ x8) (u8 : x8 ≤ 400) (l9 : 0 ≤ x9) (u9 : x9 ≤ 5) (e2 : S 0 4 = x8) (e0 : (bx_up S 0 4 0) 1 14 = x9) : (True) ∧ (True) ∧ rxILWDK_3 S0 ws (bx_up S 0 4 0) x8 ∧ rxmLWDK_3 S0 ws (bx_up S 0 4 0) x8 < rxmLWDK_0 S0 ws S := by
  obtain ⟨hI, hx⟩ := hinv
  obtain ⟨a_, b_, c_, d_⟩ := rxcLWD_0_1 hP.1 hin I0 hI l8 u8 l9 u9 e2 e0
  exact ⟨a_, b_, ⟨c_, (by
    have e := hI.1
    subst e
    exact (rkPO_up (q := 0) (by decide +kernel) (fun g => absurd g.1 (by decide)) (rkPO_rf (rkPp_of hP.2))))⟩, d_⟩
theorem rxgLWDK_0_1 {X : (Nat → Int → Int) → Prop} {S0 : Nat → Int → Int} {ws : List Int} (hP : rxPLWDK S0 ws) : bx_obC rxL X S0 rxC241.2.2.1 (rxILWDK S0 ws) (rxmLWDK S0 ws) 0 rxzLWDK_0 rxoLWDK_0_1 := by
  intro S S_p r r_p hinv hX hin hsm_ hseg
  obtain ⟨I0, I1, h0_, hr_, b_, f_, d_⟩ := bx_cl (evs := [(0, (0, 1), (0, 14), .inr (0, (9, 0))), (1, (0, 0), (0, 4), .inr (0, (0, 0))), (0, (0, 0), (0, 4), .inr (0, (8, 0)))]) (fvs := []) hseg (by decide +kernel) (by decide +kernel)
  have hinv : rxILWDK_0 S0 ws S := hinv
  obtain ⟨⟨l8, u8⟩, ⟨l9, u9⟩, -⟩ := b_
  obtain ⟨e0, ⟨T1, ⟨e2, w_⟩, w1⟩⟩ := d_
  subst w1
  subst w_
  have g := rxcLWDK_0_1 hP hin I0 hinv l8 u8 l9 u9 e2 e0
  refine ⟨bx_narP_ok (l := []) g.1, bx_nfP_ok h0_ (fvs := []) (by decide +kernel) g.2.1, ?_, ?_⟩
  · show rxILWDK_3 S0 ws (bx_up T1 0 (4) (0)) (bx_val [(0, 0), (0, 0), (0, 0), (0, 0), (0, 0), (0, 0), (0, 0), (0, 0), (8, 0)] r_p 8)
    rw [bx_val_x (n := 8) (e := (8, 0)) h0_ rfl]
    exact g.2.2.1
  · show rxmLWDK_3 S0 ws (bx_up T1 0 (4) (0)) (bx_val [(0, 0), (0, 0), (0, 0), (0, 0), (0, 0), (0, 0), (0, 0), (0, 0), (8, 0)] r_p 8) < rxmLWDK_0 S0 ws T1
    rw [bx_val_x (n := 8) (e := (8, 0)) h0_ rfl]
    exact g.2.2.2
theorem rxdLWDK_2_0 {S0 : Nat → Int → Int} {ws : List Int} {S : Nat → Int → Int} {res : Int} (hP : rxPLWDK S0 ws) (hin : bx_same rxL (bx_mdl rxC241.2.2.1) S0 S) (hin2 : bx_same rxL (bx_mdl rxC241.2.2.1) S S) (I0 : bx_Inv rxL S) (I1 : bx_Inv rxL S) (hinv : rxILWDK_2 S0 ws S res) (l8 : (-6) ≤ res) (u8 : res ≤ (-1)) : (True) ∧ rxPSLWDK S0 ws S (some res) := by
  obtain ⟨hI, hx⟩ := hinv
  obtain ⟨a_, c_⟩ := rxdLWD_2_0 hP.1 hin hin2 I0 I1 hI l8 u8
  exact ⟨a_, c_, (by
    exact Or.inl ⟨(rfl).trans hI.2.2.2.2.2.1, hx.2⟩)⟩
theorem rxfLWDK_2_0 {X : (Nat → Int → Int) → Prop} {S0 : Nat → Int → Int} {ws : List Int} (hP : rxPLWDK S0 ws) : bx_obE rxL X S0 rxC241.2.2.1 (rxILWDK S0 ws) (rxPSLWDK S0 ws) 2 rxzLWDK_2 rxeLWDK_2_0 := by
  intro S S_p r r_p hinv hX hin hsm_ hseg
  obtain ⟨I0, I1, h0_, hr_, b_, f_, d_⟩ := bx_cl (evs := []) (fvs := []) hseg (by decide +kernel) (by decide +kernel)
  have hinv : rxILWDK_2 S0 ws S (r 8) := hinv
  rw [← hr_ 8 (by decide)] at hinv
  obtain ⟨⟨l8, u8⟩, -⟩ := b_
  have w_ := d_
  subst w_
  have g := rxdLWDK_2_0 hP hin hsm_ I0 I1 hinv l8 u8
  refine ⟨bx_narP_ok (l := []) g.1, ?_⟩
  show rxPSLWDK S0 ws S_p (some (bx_num r_p (.inr (0, (8, 0)))))
  rw [bx_xv_ok h0_]
  exact g.2
theorem rxcLWDK_4_0 {S0 : Nat → Int → Int} {ws : List Int} {S : Nat → Int → Int} {nb res : Int} (hP : rxPLWDK S0 ws) (hin : bx_same rxL (bx_mdl rxC241.2.2.1) S0 S) (I0 : bx_Inv rxL S) (hinv : rxILWDK_4 S0 ws S nb res) (l8 : 0 ≤ nb) (u8 : nb ≤ 400) (l9 : 1 ≤ res) (u9 : res ≤ 1) (f0 : res ≠ 0) : (True) ∧ (True) ∧ rxILWDK_7 S0 ws S ∧ rxmLWDK_7 S0 ws S < rxmLWDK_4 S0 ws S nb res := by
  obtain ⟨hI, hx⟩ := hinv
  obtain ⟨a_, b_, c_, d_⟩ := rxcLWD_4_0 hP.1 hin I0 hI l8 u8 l9 u9 f0
  exact ⟨a_, b_, ⟨c_, ⟨hx.2, hx.1 (by omega)⟩⟩, d_⟩
theorem rxgLWDK_4_0 {X : (Nat → Int → Int) → Prop} {S0 : Nat → Int → Int} {ws : List Int} (hP : rxPLWDK S0 ws) : bx_obC rxL X S0 rxC241.2.2.1 (rxILWDK S0 ws) (rxmLWDK S0 ws) 4 rxzLWDK_4 rxoLWDK_4_0 := by
  intro S S_p r r_p hinv hX hin hsm_ hseg
  obtain ⟨I0, I1, h0_, hr_, b_, f_, d_⟩ := bx_cl (evs := []) (fvs := [(3, (9, 0), (0, 0), (0, 0))]) hseg (by decide +kernel) (by decide +kernel)
  have hinv : rxILWDK_4 S0 ws S (r 8) (r 9) := hinv
  rw [← hr_ 8 (by decide), ← hr_ 9 (by decide)] at hinv
  obtain ⟨⟨l8, u8⟩, ⟨l9, u9⟩, -⟩ := b_
  obtain ⟨f0, -⟩ := f_
  have w_ := d_
  subst w_
  have g := rxcLWDK_4_0 hP hin I0 hinv l8 u8 l9 u9 f0
  refine ⟨bx_narP_ok (l := []) g.1, bx_nfP_ok h0_ (fvs := []) (by decide +kernel) g.2.1, ?_, ?_⟩
  · show rxILWDK_7 S0 ws S_p
    exact g.2.2.1
  · show rxmLWDK_7 S0 ws S_p < rxmLWDK_4 S0 ws S_p (r 8) (r 9)
    rw [← hr_ 8 (by decide), ← hr_ 9 (by decide)]
    exact g.2.2.2
theorem rxcLWDK_4_1 {S0 : Nat → Int → Int} {ws : List Int} {S : Nat → Int → Int} {nb res : Int} (hP : rxPLWDK S0 ws) (hin : bx_same rxL (bx_mdl rxC241.2.2.1) S0 S) (I0 : bx_Inv rxL S) (hinv : rxILWDK_4 S0 ws S nb res) (l8 : 0 ≤ nb) (u8 : nb ≤ 400) (l9 : 0 ≤ res) (u9 : res ≤ 0) : (True) ∧ (True) ∧ rxILWDK_5 S0 ws S ∧ rxmLWDK_5 S0 ws S < rxmLWDK_4 S0 ws S nb res := by
  obtain ⟨hI, hx⟩ := hinv
  obtain ⟨a_, b_, c_, d_⟩ := rxcLWD_4_1 hP.1 hin I0 hI l8 u8 l9 u9
  exact ⟨a_, b_, ⟨c_, hx.2⟩, d_⟩
theorem rxgLWDK_4_1 {X : (Nat → Int → Int) → Prop} {S0 : Nat → Int → Int} {ws : List Int} (hP : rxPLWDK S0 ws) : bx_obC rxL X S0 rxC241.2.2.1 (rxILWDK S0 ws) (rxmLWDK S0 ws) 4 rxzLWDK_4 rxoLWDK_4_1 := by
  intro S S_p r r_p hinv hX hin hsm_ hseg
  obtain ⟨I0, I1, h0_, hr_, b_, f_, d_⟩ := bx_cl (evs := []) (fvs := []) hseg (by decide +kernel) (by decide +kernel)
  have hinv : rxILWDK_4 S0 ws S (r 8) (r 9) := hinv
  rw [← hr_ 8 (by decide), ← hr_ 9 (by decide)] at hinv
  obtain ⟨⟨l8, u8⟩, ⟨l9, u9⟩, -⟩ := b_
  have w_ := d_
  subst w_
  have g := rxcLWDK_4_1 hP hin I0 hinv l8 u8 l9 u9
  refine ⟨bx_narP_ok (l := []) g.1, bx_nfP_ok h0_ (fvs := []) (by decide +kernel) g.2.1, ?_, ?_⟩
  · show rxILWDK_5 S0 ws S_p
    exact g.2.2.1
  · show rxmLWDK_5 S0 ws S_p < rxmLWDK_4 S0 ws S_p (r 8) (r 9)
    rw [← hr_ 8 (by decide), ← hr_ 9 (by decide)]
    exact g.2.2.2
theorem rxdLWDK_6_0 {S0 : Nat → Int → Int} {ws : List Int} {S : Nat → Int → Int} {res : Int} (hP : rxPLWDK S0 ws) (hin : bx_same rxL (bx_mdl rxC241.2.2.1) S0 S) (hin2 : bx_same rxL (bx_mdl rxC241.2.2.1) S S) (I0 : bx_Inv rxL S) (I1 : bx_Inv rxL S) (hinv : rxILWDK_6 S0 ws S res) (l8 : (-6) ≤ res) (u8 : res ≤ (-1)) : (True) ∧ rxPSLWDK S0 ws S (some res) := by
  obtain ⟨hI, hx⟩ := hinv
  obtain ⟨a_, c_⟩ := rxdLWD_6_0 hP.1 hin hin2 I0 I1 hI l8 u8
  exact ⟨a_, c_, (by
    exact Or.inl ⟨(rfl).trans hI.2.2.2.2.1, hx.2⟩)⟩
theorem rxfLWDK_6_0 {X : (Nat → Int → Int) → Prop} {S0 : Nat → Int → Int} {ws : List Int} (hP : rxPLWDK S0 ws) : bx_obE rxL X S0 rxC241.2.2.1 (rxILWDK S0 ws) (rxPSLWDK S0 ws) 6 rxzLWDK_6 rxeLWDK_6_0 := by
  intro S S_p r r_p hinv hX hin hsm_ hseg
  obtain ⟨I0, I1, h0_, hr_, b_, f_, d_⟩ := bx_cl (evs := []) (fvs := []) hseg (by decide +kernel) (by decide +kernel)
  have hinv : rxILWDK_6 S0 ws S (r 8) := hinv
  rw [← hr_ 8 (by decide)] at hinv
  obtain ⟨⟨l8, u8⟩, -⟩ := b_
  have w_ := d_
  subst w_
  have g := rxdLWDK_6_0 hP hin hsm_ I0 I1 hinv l8 u8
  refine ⟨bx_narP_ok (l := []) g.1, ?_⟩
  show rxPSLWDK S0 ws S_p (some (bx_num r_p (.inr (0, (8, 0)))))
  rw [bx_xv_ok h0_]
  exact g.2
theorem rxdLWDK_8_0 {S0 : Nat → Int → Int} {ws : List Int} {S : Nat → Int → Int} {res : Int} (hP : rxPLWDK S0 ws) (hin : bx_same rxL (bx_mdl rxC241.2.2.1) S0 S) (hin2 : bx_same rxL (bx_mdl rxC241.2.2.1) S (bx_up S 0 8 0)) (I0 : bx_Inv rxL S) (I1 : bx_Inv rxL (bx_up S 0 8 0)) (hinv : rxILWDK_8 S0 ws S res) (l8 : (-1) ≤ res) (u8 : res ≤ 5) : (True) ∧ rxPSLWDK S0 ws (bx_up S 0 8 0) (some res) := by
  obtain ⟨hI, hx⟩ := hinv
  obtain ⟨a_, c_⟩ := rxdLWD_8_0 hP.1 hin hin2 I0 I1 hI l8 u8
  exact ⟨a_, c_, (by
    obtain ⟨hr, h6, hw, h4, h14, -⟩ := hI
    exact Or.inr ⟨((bx_up_ne (by omega))).trans h14, rkLd8_ne hx (fun p j a => (bx_up_ne (by omega)))⟩)⟩
theorem rxfLWDK_8_0 {X : (Nat → Int → Int) → Prop} {S0 : Nat → Int → Int} {ws : List Int} (hP : rxPLWDK S0 ws) : bx_obE rxL X S0 rxC241.2.2.1 (rxILWDK S0 ws) (rxPSLWDK S0 ws) 8 rxzLWDK_8 rxeLWDK_8_0 := by
  intro S S_p r r_p hinv hX hin hsm_ hseg
  obtain ⟨I0, I1, h0_, hr_, b_, f_, d_⟩ := bx_cl (evs := [(1, (0, 0), (0, 8), .inr (0, (0, 0)))]) (fvs := []) hseg (by decide +kernel) (by decide +kernel)
  have hinv : rxILWDK_8 S0 ws S (r 8) := hinv
  rw [← hr_ 8 (by decide)] at hinv
  obtain ⟨⟨l8, u8⟩, -⟩ := b_
  obtain ⟨T0, w_, w0⟩ := d_
  subst w0
  subst w_
  have g := rxdLWDK_8_0 hP hin hsm_ I0 I1 hinv l8 u8
  refine ⟨bx_narP_ok (l := []) g.1, ?_⟩
  show rxPSLWDK S0 ws (bx_up T0 0 (8) (0)) (some (bx_num r_p (.inr (0, (8, 0)))))
  rw [bx_xv_ok h0_]
  exact g.2
theorem rxgCLWDK {X : (Nat → Int → Int) → Prop} {S0 : Nat → Int → Int} {ws : List Int} (hP : rxPLWDK S0 ws) : bx_allI (fun i q => rxULWDK q = true ∨ bx_allP (fun o => bx_obC rxL X S0 rxC241.2.2.1 (rxILWDK S0 ws) (rxmLWDK S0 ws) i q.1 o) q.2.1) 0 rxYLWDK := ⟨Or.inr ⟨rxgLWDK_0_0 hP, rxgLWDK_0_1 hP, trivial⟩, Or.inl rfl, Or.inr trivial, Or.inl rfl, Or.inr ⟨rxgLWDK_4_0 hP, rxgLWDK_4_1 hP, trivial⟩, Or.inl rfl, Or.inr trivial, Or.inl rfl, Or.inr trivial, trivial⟩
theorem rxgELWDK {X : (Nat → Int → Int) → Prop} {S0 : Nat → Int → Int} {ws : List Int} (hP : rxPLWDK S0 ws) : bx_allI (fun i q => rxULWDK q = true ∨ bx_allP (fun E => bx_obE rxL X S0 rxC241.2.2.1 (rxILWDK S0 ws) (rxPSLWDK S0 ws) i q.1 E) q.2.2) 0 rxYLWDK := ⟨Or.inr trivial, Or.inl rfl, Or.inr ⟨rxfLWDK_2_0 hP, trivial⟩, Or.inl rfl, Or.inr trivial, Or.inl rfl, Or.inr ⟨rxfLWDK_6_0 hP, trivial⟩, Or.inl rfl, Or.inr ⟨rxfLWDK_8_0 hP, trivial⟩, trivial⟩
theorem rxuLWDK {PX : State → Prop} {Dg : va_G} {A : Nat → Prop} {ad xa : Nat → Nat} {l : Launch} {X : (Nat → Int → Int) → Prop} (hPX : rx_PXOK rxNW A PX) (hX : ∀ S S1 : Nat → Int → Int, X S → bx_same rxL (bx_mdl rxC241.2.2.1) S S1 → X S1) (hQ110 : bx_ConP rxG rxNW rxAO PX Dg rxL X vwCl A ad l rxM110 rxC110 rxP110 rxPS110) (hQRDXO : bx_ConP rxG rxNW rxAO PX Dg rxL X vwCl A ad l rxM119 rxCRDXO rxPRDXO rxPSRDXO) (hQADLQ : bx_ConP rxG rxNW rxAO PX Dg rxL X vwCl A ad l rxM121 rxC121 rxPADLQ rxPSADLQ) {S0 : Nat → Int → Int} {ws : List Int} (hP : rxPLWDK S0 ws) : ∀ (i : Nat) (q : bx_HE), rxYLWDK[i]? = some q → rxULWDK q = true → ∀ {p : Program} {e : Env} {R : Room} {s : State} {m : MethodId} {args : Array Value} {below : List Frame} {meth : Method} {c : Code} {Q : State → Prop} {H0 : Heap}, rx_Fr rxG rxNW rxAO PX p s m args meth c rxM241 → (∀ q, H0.size ≤ q → A q) → H0 = s.heap → rxM241.2.2.2.2.2.2.1 ≤ R.cells → rxM241.2.2.2.2.2.2.2 ≤ R.slots → rxC241.2.2.2.1 ≤ R.frames → rxC241.2.2.2.1 * 40 ≤ R.locals → bx_Step p l e R s m args below meth c Q Dg rxL X vwCl A xa H0 ad rxM241 rxYLWDK (rxILWDK S0 ws) (rxmLWDK S0 ws) S0 rxC241.2.2.1 i q := by
  intro i q hq hus p e R s m args below meth c Q H0 hF hA hH0 hmc hms hd hdl
  match i, hq with
  | 0, hq =>
    cases hq
    exact absurd (show false = true from hus) Bool.false_ne_true
  | 1, hq =>
    cases hq
    exact rx_stepC (ins := .invokevirtual 110) (len := 3) (i_p := 2) (M_p := rxM110) (d := rxC241.2.2.2.1) (as := [.inr (3, (0, 0)), .inr (0, (0, (-5)))]) (t := []) (ct := rxC110) hPX hF rfl hA hH0 hmc hms hd hdl (by decide +kernel) rfl rfl (by decide +kernel) (by decide +kernel) hQ110 (by decide +kernel) rfl (Or.inr ⟨_, _, _, 1, rfl, rfl, by omega, rfl, rfl, rfl⟩) (rxsLWDK_1 hP)
  | 2, hq =>
    cases hq
    exact absurd (show false = true from hus) Bool.false_ne_true
  | 3, hq =>
    cases hq
    exact rx_stepC (ins := .invokevirtual 212) (len := 3) (i_p := 4) (M_p := rxM119) (d := rxC241.2.2.2.1) (as := [.inr (3, (0, 412)), .inr (3, (0, 411)), .inr (0, (8, 0)), .inr (0, (0, 0)), .inr (3, (0, 427))]) (t := []) (ct := rxCRDXO) hPX hF rfl hA hH0 hmc hms hd hdl (by decide +kernel) rfl rfl (by decide +kernel) (by decide +kernel) hQRDXO (by decide +kernel) rfl (Or.inr ⟨_, _, _, 1, rfl, rfl, by omega, rfl, rfl, rfl⟩) (rxsLWDK_3 hP)
  | 4, hq =>
    cases hq
    exact absurd (show false = true from hus) Bool.false_ne_true
  | 5, hq =>
    cases hq
    exact rx_stepC (ins := .invokevirtual 110) (len := 3) (i_p := 6) (M_p := rxM110) (d := rxC241.2.2.2.1) (as := [.inr (3, (0, 0)), .inr (0, (0, (-6)))]) (t := []) (ct := rxC110) hPX hF rfl hA hH0 hmc hms hd hdl (by decide +kernel) rfl rfl (by decide +kernel) (by decide +kernel) hQ110 (by decide +kernel) rfl (Or.inr ⟨_, _, _, 1, rfl, rfl, by omega, rfl, rfl, rfl⟩) (rxsLWDK_5 hP)
  | 6, hq =>
    cases hq
    exact absurd (show false = true from hus) Bool.false_ne_true
  | 7, hq =>
    cases hq
    exact rx_stepC (ins := .invokevirtual 223) (len := 3) (i_p := 8) (M_p := rxM121) (d := rxC241.2.2.2.1) (as := [.inr (3, (0, 1)), .inr (3, (0, 427))]) (t := [.inr (3, (0, 0))]) (ct := rxC121) hPX hF rfl hA hH0 hmc hms hd hdl (by decide +kernel) rfl rfl (by decide +kernel) (by decide +kernel) hQADLQ (by decide +kernel) rfl (Or.inr ⟨_, _, _, 1, rfl, rfl, by omega, rfl, rfl, rfl⟩) (rxsLWDK_7 hP)
  | 8, hq =>
    cases hq
    exact absurd (show false = true from hus) Bool.false_ne_true
  | n + 9, hq => cases hq
theorem rxQLWDK {PX : State → Prop} {Dg : va_G} {A : Nat → Prop} {ad xa : Nat → Nat} {l : Launch} {X : (Nat → Int → Int) → Prop} (hPX : rx_PXOK rxNW A PX) (hsl : ∀ s : State, PX s → ∀ o idx n : Nat, rxSl o idx = some n → ∃ tx : String, vk_R (rxNm o) idx tx (ad n) s)
    (hX : ∀ S S_p : Nat → Int → Int, X S → bx_same rxL (bx_mdl rxC241.2.2.1) S S_p → X S_p)
    (ih : ∀ (j2 : Nat) (ct2 : bx_Ct) (M2 : rx_Mt), ct2 ∈ rxCnE j2 → ct2.2.2.2.1 + 1 ≤ rxC241.2.2.2.1 → rxT.2.2.2.2.2 j2 = some M2 → bx_Con rxG rxNW rxAO PX Dg rxL X vwCl A ad l M2 ct2) (hQ110 : bx_ConP rxG rxNW rxAO PX Dg rxL X vwCl A ad l rxM110 rxC110 rxP110 rxPS110) (hQRDXO : bx_ConP rxG rxNW rxAO PX Dg rxL X vwCl A ad l rxM119 rxCRDXO rxPRDXO rxPSRDXO) (hQADLQ : bx_ConP rxG rxNW rxAO PX Dg rxL X vwCl A ad l rxM121 rxC121 rxPADLQ rxPSADLQ) : bx_ConP rxG rxNW rxAO PX Dg rxL X vwCl A ad l rxM241 rxC241 rxPLWDK rxPSLWDK :=
  rxQof (xa := xa) (Cn := rxCnE) (f := 30000) (j := 241) (tab := rxYLWDK) (us := rxULWDK) hPX hsl hX ih rfl rxYcLWDK rxILWDK rxmLWDK
    (fun S0 ws r I0 I ht0 ht as he he1 hX0 hI0 hP hs ha => by
      have e := he.symm.trans (show bx_ent0 rxNP rxC241.1 bx_I0 [] = some ([(0, 0), (0, 0), (0, 0), (0, 0), (0, 0), (0, 0), (0, 0), (0, 0)], [], [.inr (3, (0, 0))]) from rfl)
      cases e
      subst ha
      have h0 : r 0 = 0 := hs.1
      show rxILWDK_0 S0 _ S0
      refine ⟨⟨rfl, ?_⟩, trivial⟩
      simp only [List.map_cons, List.map_nil, bx_xv_ok h0]
      rfl)
    (fun S0 ws hP => rxuLWDK (xa := xa) hPX hX hQ110 hQRDXO hQADLQ hP) (fun S0 ws hP => rxgCLWDK hP) (fun S0 ws hP => rxgELWDK hP)
end
