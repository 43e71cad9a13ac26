noncomputable def rxCCHG : bx_Ct := ([(3, (1, 480, 0)), (0, (0, 0, 5)), (0, (0, 0, 35)), (0, (0, (-1), 59))], some (0, (0, (-1), 9)), [(12, 1), (1063, 13)], 1, [])
noncomputable def rxICHG_0 (S0 : Nat → Int → Int) (ws : List Int) (S : Nat → Int → Int) (pa at_ v : Int) : Prop := S = S0 ∧ ws = [480, pa, at_, v]
noncomputable def rxmCHG_0 (S0 : Nat → Int → Int) (ws : List Int) (S : Nat → Int → Int) (pa at_ v : Int) : Nat := 100
noncomputable def rxzCHG_0 : rx_Z := ([(0, 0), (0, 0), (0, 0), (0, 0), (0, 0), (0, 0), (0, 0), (0, 0), (0, 5), (0, 35), ((-1), 59)], [], [], 0, 0, 0, [(0, .inr (3, (0, 480))), (1, .inr (0, (8, 0))), (2, .inr (0, (9, 0))), (3, .inr (0, (10, 0)))], [])
noncomputable def rxICHG_1 (S0 : Nat → Int → Int) (ws : List Int) (S : Nat → Int → Int) (pa at_ v old : Int) : Prop := ws = [480, pa, at_, v] ∧ old = S0 482 (22 + 36 * pa + at_) ∧ S 482 (22 + 36 * pa + at_) = v ∧ (∀ j : Int, j ≠ (22 + 36 * pa + at_) → S 482 j = S0 482 j)
noncomputable def rxmCHG_1 (S0 : Nat → Int → Int) (ws : List Int) (S : Nat → Int → Int) (pa at_ v old : Int) : Nat := 90
noncomputable def rxzCHG_1 : rx_Z := ([(0, 0), (0, 0), (0, 0), (0, 0), (0, 0), (0, 0), (0, 0), (0, 0), (0, 5), (0, 35), ((-1), 59), ((-1), 59)], [], [], 0, 0, 34, [(0, .inr (3, (0, 480))), (1, .inr (0, (8, 0))), (2, .inr (0, (9, 0))), (3, .inr (0, (10, 0))), (4, .inr (0, (11, 0)))], [.inr (0, (11, 0)), .inr (3, (0, 480))])
noncomputable def rxICHG_2 (S0 : Nat → Int → Int) (ws : List Int) (S : Nat → Int → Int) (pa at_ v old wo : Int) : Prop := ws = [480, pa, at_, v] ∧ wo = rjWo (S0 482 (22 + 36 * pa + at_)) ∧ S 482 (22 + 36 * pa + at_) = v ∧ (∀ j : Int, j ≠ (22 + 36 * pa + at_) → S 482 j = S0 482 j)
noncomputable def rxmCHG_2 (S0 : Nat → Int → Int) (ws : List Int) (S : Nat → Int → Int) (pa at_ v old wo : Int) : Nat := 80
noncomputable def rxzCHG_2 : rx_Z := ([(0, 0), (0, 0), (0, 0), (0, 0), (0, 0), (0, 0), (0, 0), (0, 0), (0, 5), (0, 35), ((-1), 59), ((-1), 59), ((-1), 9)], [], [], 0, 0, 37, [(0, .inr (3, (0, 480))), (1, .inr (0, (8, 0))), (2, .inr (0, (9, 0))), (3, .inr (0, (10, 0))), (4, .inr (0, (11, 0)))], [.inr (0, (12, 0)), .inr (3, (0, 480))])
noncomputable def rxoCHG_0_0 : bx_HO := (([(0, 0), (0, 0), (0, 0), (0, 0), (0, 0), (0, 0), (0, 0), (0, 0), (0, 5), (0, 35), ((-1), 59), (0, 180), (22, 237), ((-1), 59), (0, 180), (22, 237)], [(604462909807314587353097000000, (15, 0), (14, 22)), (40, (14, 0), (8, 0)), (604462909807314587353097000000, (12, 0), (11, 22)), (40, (11, 0), (8, 0))], [(((0, 0), 1851192626986356797424386268496553644803585570598046466546204675000000), .inr (0, (10, 0))), (((0, 0), 1851192626986356797424377080872646779465072059483645808804495360000000), .inr (0, (13, 0))), (((0, 480), 3), .inr (3, (0, 482)))], 0, 0, 34, [(4, .inr (0, (13, 0))), (0, .inr (3, (0, 480))), (1, .inr (0, (8, 0))), (2, .inr (0, (9, 0))), (3, .inr (0, (10, 0)))], [.inr (0, (13, 0)), .inr (3, (0, 480))]), [], [], [(0, 0), (0, 0), (0, 0), (0, 0), (0, 0), (0, 0), (0, 0), (0, 0), (8, 0), (9, 0), (10, 0), (13, 0)], 1)
noncomputable def rxeCHG_2_0 : rx_End × List (Nat × Int × Int) := (([(0, 0), (0, 0), (0, 0), (0, 0), (0, 0), (0, 0), (0, 0), (0, 0), (0, 5), (0, 35), ((-1), 59), ((-1), 59), ((-1), 9)], [], [(((0, 0), 1851192626986356797625047037163794926384839479479878431390302211000000), .inr (0, (0, 0))), (((0, 480), 1), .inr (0, (0, 0)))], some (.inr (0, (12, 0)))), [])
noncomputable def rxYCHG : List bx_HE := [(rxzCHG_0, [rxoCHG_0_0], []), (rxzCHG_1, [], []), (rxzCHG_2, [], [rxeCHG_2_0])]
noncomputable def rxUCHG (q : bx_HE) : Bool := Nat.beq (rx_zpc q.1) 34
noncomputable def rxYBCHG : bx_B := (rxV, rxNP, rxDmf, bx_mdH rxCCHG.2.2.1)
set_option maxRecDepth 100000 in
theorem rxYcCHG : bx_chkH rxYBCHG rxM259 rxCCHG rxYCHG (rxUCHG, fun cut z => rx_ex2 (rxCT rxYBCHG rxCnE) cut 30000 rxCCHG.2.2.2.1 259 z) = true := by decide +kernel
noncomputable def rxICHG (S0 : Nat → Int → Int) (ws : List Int) (i : Nat) : bx_SP := fun S r => match i with | 0 => rxICHG_0 S0 ws S (r 8) (r 9) (r 10) | 1 => rxICHG_1 S0 ws S (r 8) (r 9) (r 10) (r 11) | 2 => rxICHG_2 S0 ws S (r 8) (r 9) (r 10) (r 11) (r 12) | _ => False
noncomputable def rxmCHG (S0 : Nat → Int → Int) (ws : List Int) (i : Nat) (S : Nat → Int → Int) (r : Nat → Int) : Nat := match i with | 0 => rxmCHG_0 S0 ws S (r 8) (r 9) (r 10) | 1 => rxmCHG_1 S0 ws S (r 8) (r 9) (r 10) (r 11) | 2 => rxmCHG_2 S0 ws S (r 8) (r 9) (r 10) (r 11) (r 12) | _ => 0
noncomputable def rxPCHG (S0 : Nat → Int → Int) (ws : List Int) : Prop := True
noncomputable def rxPSCHG (S0 : Nat → Int → Int) (ws : List Int) (S : Nat → Int → Int) (w : Option Int) : Prop := ∃ pa at_ v : Int, ws = [480, pa, at_, v] ∧ w = some (rjWo (S0 482 (22 + 36 * pa + at_))) ∧ S 482 (22 + 36 * pa + at_) = v ∧ (∀ j : Int, j ≠ (22 + 36 * pa + at_) → S 482 j = S0 482 j)
theorem rxkCHG_1 {S0 : Nat → Int → Int} {ws : List Int} {S : Nat → Int → Int} {pa at_ v old : Int} (hP : rxPCHG S0 ws) (hin : bx_same rxL (bx_mdl rxCCHG.2.2.1) S0 S) (I0 : bx_Inv rxL S) (hinv : rxICHG_1 S0 ws S pa at_ v old) (l8 : 0 ≤ pa) (u8 : pa ≤ 5) (l9 : 0 ≤ at_) (u9 : at_ ≤ 35) (l10 : (-1) ≤ v) (u10 : v ≤ 59) (l11 : (-1) ≤ old) (u11 : old ≤ 59) : rxPWOK S [old] ∧ ∀ (S_p : Nat → Int → Int) (wo : Int), (-1) ≤ wo → wo ≤ 9 → rxPSWOK S [old] S_p (some wo) → bx_Inv rxL S_p → bx_same rxL (bx_mdl rxCWOK.2.2.1) S S_p → rxICHG_2 S0 ws S_p pa at_ v old wo ∧ rxmCHG_2 S0 ws S_p pa at_ v old wo < rxmCHG_1 S0 ws S pa at_ v old := by
  obtain ⟨hw, ho, hv, hf⟩ := hinv
  refine ⟨trivial, fun S_p wo _ _ hq _ hsm => ⟨?_, by unfold rxmCHG_1 rxmCHG_2; omega⟩⟩
  obtain ⟨hS, r, hw3, hr⟩ := hq
  subst hS
  have k1 : old = r := Option.some.inj (congrArg (fun l : List Int => l[0]?) hw3)
  subst k1
  exact ⟨hw, by rw [← ho]; exact Option.some.inj hr, hv, hf⟩
theorem rxsCHG_1 {X : (Nat → Int → Int) → Prop} {S0 : Nat → Int → Int} {ws : List Int} (hP : rxPCHG S0 ws) : rx_obK X S0 rxCCHG.2.2.1 rxCWOK.2.2.1 (rxICHG S0 ws) (rxmCHG S0 ws) 1 2 rxzCHG_1 rxzCHG_2 [.inr (0, (11, 0))] (some 12) rxPWOK rxPSWOK := by
  intro S r hinv hXS I0 hin hs_ hf_
  have b_ := bx_bds_sat hs_
  have f_ := bx_fcl_ok hs_.1 hf_
  obtain ⟨⟨l8, u8⟩, ⟨l9, u9⟩, ⟨l10, u10⟩, ⟨l11, u11⟩, -⟩ := b_
  have g := rxkCHG_1 hP hin I0 hinv l8 u8 l9 u9 l10 u10 l11 u11
  have ea : List.map (bx_num r) [.inr (0, (11, 0))] = [(r 11)] := by
    simp only [List.map_cons, List.map_nil, bx_xv_ok hs_.1]
    rfl
  rw [ea]
  refine ⟨g.1, fun S_p w r_p hPS hX_p I1 hsm hr hw hs_p => ?_⟩
  have hw := hw _ rfl
  subst hw
  have b_p := hs_p.2.2 12 _ _ rfl
  have g2 := g.2 S_p (r_p 12) b_p.1 b_p.2 hPS I1 hsm
  show rxICHG_2 S0 ws S_p (r_p 8) (r_p 9) (r_p 10) (r_p 11) (r_p 12) ∧ rxmCHG_2 S0 ws S_p (r_p 8) (r_p 9) (r_p 10) (r_p 11) (r_p 12) < _
  rw [hr 8 (by decide), hr 9 (by decide), hr 10 (by decide), hr 11 (by decide)]
  exact g2
theorem rxcCHG_0_0 {S0 : Nat → Int → Int} {ws : List Int} {S : Nat → Int → Int} {pa at_ v x11 x12 x13 x14 x15 : Int} (hP : rxPCHG S0 ws) (hin : bx_same rxL (bx_mdl rxCCHG.2.2.1) S0 S) (I0 : bx_Inv rxL S) (hinv : rxICHG_0 S0 ws S pa at_ v) (l8 : 0 ≤ pa) (u8 : pa ≤ 5) (l9 : 0 ≤ at_) (u9 : at_ ≤ 35) (l10 : (-1) ≤ v) (u10 : v ≤ 59) (l11 : 0 ≤ x11) (u11 : x11 ≤ 180) (l12 : 22 ≤ x12) (u12 : x12 ≤ 237) (l13 : (-1) ≤ x13) (u13 : x13 ≤ 59) (l14 : 0 ≤ x14) (u14 : x14 ≤ 180) (l15 : 22 ≤ x15) (u15 : x15 ≤ 237) (f0 : x15 = x14 + 22 + at_) (f1 : x14 = 36 * (pa)) (f2 : x12 = x11 + 22 + at_) (f3 : x11 = 36 * (pa)) (e1 : S 482 x12 = x13) : (True) ∧ (True) ∧ rxICHG_1 S0 ws (bx_up S 482 x15 v) pa at_ v x13 ∧ rxmCHG_1 S0 ws (bx_up S 482 x15 v) pa at_ v x13 < rxmCHG_0 S0 ws S pa at_ v := by
  obtain ⟨rfl, hw⟩ := hinv
  have a0 : x12 = 22 + 36 * pa + at_ := by omega
  have a1 : x15 = 22 + 36 * pa + at_ := by omega
  have q0 := e1
  rw [a0] at q0
  refine ⟨trivial, trivial, ⟨hw, q0.symm, ?_, fun j a => bx_up_ne (by omega)⟩, by unfold rxmCHG_0 rxmCHG_1; omega⟩
  rw [a1]
  exact bx_up_at
theorem rxgCHG_0_0 {X : (Nat → Int → Int) → Prop} {S0 : Nat → Int → Int} {ws : List Int} (hP : rxPCHG S0 ws) : bx_obC rxL X S0 rxCCHG.2.2.1 (rxICHG S0 ws) (rxmCHG S0 ws) 0 rxzCHG_0 rxoCHG_0_0 := by
  intro S S_p r r_p hinv hX hin hsm_ hseg
  obtain ⟨I0, I1, h0_, hr_, b_, f_, d_⟩ := bx_cl (evs := [(1, (0, 482), (15, 0), .inr (0, (10, 0))), (0, (0, 482), (12, 0), .inr (0, (13, 0)))]) (fvs := [(5, (15, 0), (14, 22), (9, 0)), (4, (14, 0), (8, 0), (0, 36)), (5, (12, 0), (11, 22), (9, 0)), (4, (11, 0), (8, 0), (0, 36))]) hseg (by decide +kernel) (by decide +kernel)
  have hinv : rxICHG_0 S0 ws S (r 8) (r 9) (r 10) := hinv
  rw [← hr_ 8 (by decide), ← hr_ 9 (by decide), ← hr_ 10 (by decide)] at hinv
  obtain ⟨⟨l8, u8⟩, ⟨l9, u9⟩, ⟨l10, u10⟩, ⟨l11, u11⟩, ⟨l12, u12⟩, ⟨l13, u13⟩, ⟨l14, u14⟩, ⟨l15, u15⟩, -⟩ := b_
  obtain ⟨f0, f1, f2, f3, -⟩ := f_
  obtain ⟨T0, ⟨e1, w_⟩, w0⟩ := d_
  subst w0
  subst w_
  have g := rxcCHG_0_0 hP hin I0 hinv l8 u8 l9 u9 l10 u10 l11 u11 l12 u12 l13 u13 l14 u14 l15 u15 f0 f1 f2 f3 e1
  refine ⟨bx_narP_ok (l := []) g.1, bx_nfP_ok h0_ (fvs := []) (by decide +kernel) g.2.1, ?_, ?_⟩
  · show rxICHG_1 S0 ws (bx_up T0 482 (r_p 15) (r_p 10)) (bx_val [(0, 0), (0, 0), (0, 0), (0, 0), (0, 0), (0, 0), (0, 0), (0, 0), (8, 0), (9, 0), (10, 0), (13, 0)] r_p 8) (bx_val [(0, 0), (0, 0), (0, 0), (0, 0), (0, 0), (0, 0), (0, 0), (0, 0), (8, 0), (9, 0), (10, 0), (13, 0)] r_p 9) (bx_val [(0, 0), (0, 0), (0, 0), (0, 0), (0, 0), (0, 0), (0, 0), (0, 0), (8, 0), (9, 0), (10, 0), (13, 0)] r_p 10) (bx_val [(0, 0), (0, 0), (0, 0), (0, 0), (0, 0), (0, 0), (0, 0), (0, 0), (8, 0), (9, 0), (10, 0), (13, 0)] r_p 11)
    rw [bx_val_x (n := 8) (e := (8, 0)) h0_ rfl, bx_val_x (n := 9) (e := (9, 0)) h0_ rfl, bx_val_x (n := 10) (e := (10, 0)) h0_ rfl, bx_val_x (n := 11) (e := (13, 0)) h0_ rfl]
    exact g.2.2.1
  · show rxmCHG_1 S0 ws (bx_up T0 482 (r_p 15) (r_p 10)) (bx_val [(0, 0), (0, 0), (0, 0), (0, 0), (0, 0), (0, 0), (0, 0), (0, 0), (8, 0), (9, 0), (10, 0), (13, 0)] r_p 8) (bx_val [(0, 0), (0, 0), (0, 0), (0, 0), (0, 0), (0, 0), (0, 0), (0, 0), (8, 0), (9, 0), (10, 0), (13, 0)] r_p 9) (bx_val [(0, 0), (0, 0), (0, 0), (0, 0), (0, 0), (0, 0), (0, 0), (0, 0), (8, 0), (9, 0), (10, 0), (13, 0)] r_p 10) (bx_val [(0, 0), (0, 0), (0, 0), (0, 0), (0, 0), (0, 0), (0, 0), (0, 0), (8, 0), (9, 0), (10, 0), (13, 0)] r_p 11) < rxmCHG_0 S0 ws T0 (r 8) (r 9) (r 10)
    rw [bx_val_x (n := 8) (e := (8, 0)) h0_ rfl, bx_val_x (n := 9) (e := (9, 0)) h0_ rfl, bx_val_x (n := 10) (e := (10, 0)) h0_ rfl, bx_val_x (n := 11) (e := (13, 0)) h0_ rfl, ← hr_ 8 (by decide), ← hr_ 9 (by decide), ← hr_ 10 (by decide)]
    exact g.2.2.2
theorem rxdCHG_2_0 {S0 : Nat → Int → Int} {ws : List Int} {S : Nat → Int → Int} {pa at_ v old wo : Int} (hP : rxPCHG S0 ws) (hin : bx_same rxL (bx_mdl rxCCHG.2.2.1) S0 S) (hin2 : bx_same rxL (bx_mdl rxCCHG.2.2.1) S (bx_up S 480 1 0)) (I0 : bx_Inv rxL S) (I1 : bx_Inv rxL (bx_up S 480 1 0)) (hinv : rxICHG_2 S0 ws S pa at_ v old wo) (l8 : 0 ≤ pa) (u8 : pa ≤ 5) (l9 : 0 ≤ at_) (u9 : at_ ≤ 35) (l10 : (-1) ≤ v) (u10 : v ≤ 59) (l11 : (-1) ≤ old) (u11 : old ≤ 59) (l12 : (-1) ≤ wo) (u12 : wo ≤ 9) : (True) ∧ rxPSCHG S0 ws (bx_up S 480 1 0) (some wo) := by
  obtain ⟨hw, hwo, hv, hf⟩ := hinv
  exact ⟨trivial, pa, at_, v, hw, congrArg some hwo, ((bx_up_ne (by omega))).trans hv, fun j a => ((bx_up_ne (by omega))).trans (hf j a)⟩
theorem rxfCHG_2_0 {X : (Nat → Int → Int) → Prop} {S0 : Nat → Int → Int} {ws : List Int} (hP : rxPCHG S0 ws) : bx_obE rxL X S0 rxCCHG.2.2.1 (rxICHG S0 ws) (rxPSCHG S0 ws) 2 rxzCHG_2 rxeCHG_2_0 := by
  intro S S_p r r_p hinv hX hin hsm_ hseg
  obtain ⟨I0, I1, h0_, hr_, b_, f_, d_⟩ := bx_cl (evs := [(1, (0, 480), (0, 1), .inr (0, (0, 0)))]) (fvs := []) hseg (by decide +kernel) (by decide +kernel)
  have hinv : rxICHG_2 S0 ws S (r 8) (r 9) (r 10) (r 11) (r 12) := hinv
  rw [← hr_ 8 (by decide), ← hr_ 9 (by decide), ← hr_ 10 (by decide), ← hr_ 11 (by decide), ← hr_ 12 (by decide)] at hinv
  obtain ⟨⟨l8, u8⟩, ⟨l9, u9⟩, ⟨l10, u10⟩, ⟨l11, u11⟩, ⟨l12, u12⟩, -⟩ := b_
  obtain ⟨T0, w_, w0⟩ := d_
  subst w0
  subst w_
  have g := rxdCHG_2_0 hP hin hsm_ I0 I1 hinv l8 u8 l9 u9 l10 u10 l11 u11 l12 u12
  refine ⟨bx_narP_ok (l := []) g.1, ?_⟩
  show rxPSCHG S0 ws (bx_up T0 480 (1) (0)) (some (bx_num r_p (.inr (0, (12, 0)))))
  rw [bx_xv_ok h0_]
  exact g.2
theorem rxgCCHG {X : (Nat → Int → Int) → Prop} {S0 : Nat → Int → Int} {ws : List Int} (hP : rxPCHG S0 ws) : bx_allI (fun i q => rxUCHG q = true ∨ bx_allP (fun o => bx_obC rxL X S0 rxCCHG.2.2.1 (rxICHG S0 ws) (rxmCHG S0 ws) i q.1 o) q.2.1) 0 rxYCHG := ⟨Or.inr ⟨rxgCHG_0_0 hP, trivial⟩, Or.inl rfl, Or.inr trivial, trivial⟩
theorem rxgECHG {X : (Nat → Int → Int) → Prop} {S0 : Nat → Int → Int} {ws : List Int} (hP : rxPCHG S0 ws) : bx_allI (fun i q => rxUCHG q = true ∨ bx_allP (fun E => bx_obE rxL X S0 rxCCHG.2.2.1 (rxICHG S0 ws) (rxPSCHG S0 ws) i q.1 E) q.2.2) 0 rxYCHG := ⟨Or.inr trivial, Or.inl rfl, Or.inr ⟨rxfCHG_2_0 hP, trivial⟩, trivial⟩
theorem rxuCHG {PX : State → Prop} {Dg : va_G} {A : Nat → Prop} {ad xa : Nat → Nat} {l : Launch} {X : (Nat → Int → Int) → Prop} (hPX : rx_PXOK rxNW A PX) (hX : ∀ S S1 : Nat → Int → Int, X S → bx_same rxL (bx_mdl rxCCHG.2.2.1) S S1 → X S1) (hQWOK : bx_ConP rxG rxNW rxAO PX Dg rxL X vwCl A ad l rxM17 rxCWOK rxPWOK rxPSWOK) {S0 : Nat → Int → Int} {ws : List Int} (hP : rxPCHG S0 ws) : ∀ (i : Nat) (q : bx_HE), rxYCHG[i]? = some q → rxUCHG q = true → ∀ {p : Program} {e : Env} {R : Room} {s : State} {m : MethodId} {args : Array Value} {below : List Frame} {meth : Method} {c : Code} {Q : State → Prop} {H0 : Heap}, rx_Fr rxG rxNW rxAO PX p s m args meth c rxM259 → (∀ q, H0.size ≤ q → A q) → H0 = s.heap → rxM259.2.2.2.2.2.2.1 ≤ R.cells → rxM259.2.2.2.2.2.2.2 ≤ R.slots → rxCCHG.2.2.2.1 ≤ R.frames → rxCCHG.2.2.2.1 * 40 ≤ R.locals → bx_Step p l e R s m args below meth c Q Dg rxL X vwCl A xa H0 ad rxM259 rxYCHG (rxICHG S0 ws) (rxmCHG S0 ws) S0 rxCCHG.2.2.1 i q := by
  intro i q hq hus p e R s m args below meth c Q H0 hF hA hH0 hmc hms hd hdl
  match i, hq with
  | 0, hq =>
    cases hq
    exact absurd (show false = true from hus) Bool.false_ne_true
  | 1, hq =>
    cases hq
    exact rx_stepC (ins := .invokestatic 191) (len := 3) (i_p := 2) (M_p := rxM17) (d := rxCCHG.2.2.2.1) (as := [.inr (0, (11, 0))]) (t := [.inr (3, (0, 480))]) (ct := rxCWOK) hPX hF rfl hA hH0 hmc hms hd hdl (by decide +kernel) rfl rfl (by decide +kernel) (by decide +kernel) hQWOK (by decide +kernel) rfl (Or.inr ⟨_, _, _, 1, rfl, rfl, by omega, rfl, rfl, rfl⟩) (rxsCHG_1 hP)
  | 2, hq =>
    cases hq
    exact absurd (show false = true from hus) Bool.false_ne_true
  | n + 3, hq => cases hq
theorem rxQCHG {PX : State → Prop} {Dg : va_G} {A : Nat → Prop} {ad xa : Nat → Nat} {l : Launch} {X : (Nat → Int → Int) → Prop} (hPX : rx_PXOK rxNW A PX) (hsl : ∀ s : State, PX s → ∀ o idx n : Nat, rxSl o idx = some n → ∃ tx : String, vk_R (rxNm o) idx tx (ad n) s)
    (hX : ∀ S S_p : Nat → Int → Int, X S → bx_same rxL (bx_mdl rxCCHG.2.2.1) S S_p → X S_p)
    (ih : ∀ (j2 : Nat) (ct2 : bx_Ct) (M2 : rx_Mt), ct2 ∈ rxCnE j2 → ct2.2.2.2.1 + 1 ≤ rxCCHG.2.2.2.1 → rxT.2.2.2.2.2 j2 = some M2 → bx_Con rxG rxNW rxAO PX Dg rxL X vwCl A ad l M2 ct2) (hQWOK : bx_ConP rxG rxNW rxAO PX Dg rxL X vwCl A ad l rxM17 rxCWOK rxPWOK rxPSWOK) : bx_ConP rxG rxNW rxAO PX Dg rxL X vwCl A ad l rxM259 rxCCHG rxPCHG rxPSCHG :=
  rxQof (xa := xa) (Cn := rxCnE) (f := 30000) (j := 259) (tab := rxYCHG) (us := rxUCHG) hPX hsl hX ih rfl rxYcCHG rxICHG rxmCHG
    (fun S0 ws r I0 I ht0 ht as he he1 hX0 hI0 hP hs ha => by
      have e := he.symm.trans (show bx_ent0 rxNP rxCCHG.1 bx_I0 [] = some ([(0, 0), (0, 0), (0, 0), (0, 0), (0, 0), (0, 0), (0, 0), (0, 0), (0, 5), (0, 35), ((-1), 59)], [], [.inr (3, (0, 480)), .inr (0, (8, 0)), .inr (0, (9, 0)), .inr (0, (10, 0))]) from rfl)
      cases e
      subst ha
      have h0 : r 0 = 0 := hs.1
      show rxICHG_0 S0 _ S0 (r 8) (r 9) (r 10)
      refine ⟨rfl, ?_⟩
      simp only [List.map_cons, List.map_nil, bx_xv_ok h0]
      rfl)
    (fun S0 ws hP => rxuCHG (xa := xa) hPX hX hQWOK hP) (fun S0 ws hP => rxgCCHG hP) (fun S0 ws hP => rxgECHG hP)
noncomputable def rxIRRU_0 (S0 : Nat → Int → Int) (ws : List Int) (S : Nat → Int → Int) (pa st cu wo ne : Int) : Prop := S = S0 ∧ ws = [480, pa, st, cu, wo, ne]
noncomputable def rxmRRU_0 (S0 : Nat → Int → Int) (ws : List Int) (S : Nat → Int → Int) (pa st cu wo ne : Int) : Nat := 100
noncomputable def rxzRRU_0 : rx_Z := ([(0, 0), (0, 0), (0, 0), (0, 0), (0, 0), (0, 0), (0, 0), (0, 0), ((-2147483648), 2147483647), ((-2147483648), 2147483647), ((-2147483648), 2147483647), ((-2147483648), 2147483647), ((-2147483648), 2147483647)], [], [], 0, 0, 0, [(0, .inr (3, (0, 480))), (1, .inr (0, (8, 0))), (2, .inr (0, (9, 0))), (3, .inr (0, (10, 0))), (4, .inr (0, (11, 0))), (5, .inr (0, (12, 0)))], [])
noncomputable def rxIRRU_1 (S0 : Nat → Int → Int) (ws : List Int) (S : Nat → Int → Int) (pa st cu wo ne ax vx : Int) : Prop := ws = [480, pa, st, cu, wo, ne] ∧ (0 ≤ st ∧ st ≤ 5 ∧ 0 ≤ cu ∧ cu ≤ 5 ∧ 0 ≤ wo ∧ wo ≤ 9 ∧ 0 ≤ ne ∧ ne ≤ 5) ∧ pa < S0 482 0 ∧ ax = 6 * st + cu ∧ vx = 6 * wo + ne ∧ (∀ j : Int, S 482 j = S0 482 j)
noncomputable def rxmRRU_1 (S0 : Nat → Int → Int) (ws : List Int) (S : Nat → Int → Int) (pa st cu wo ne ax vx : Int) : Nat := 90
noncomputable def rxzRRU_1 : rx_Z := ([(0, 0), (0, 0), (0, 0), (0, 0), (0, 0), (0, 0), (0, 0), (0, 0), (0, 5), (0, 5), (0, 5), (0, 9), (0, 5), (0, 35), (0, 59)], [], [], 0, 0, 64, [(0, .inr (3, (0, 480))), (1, .inr (0, (8, 0))), (2, .inr (0, (9, 0))), (3, .inr (0, (10, 0))), (4, .inr (0, (11, 0))), (5, .inr (0, (12, 0)))], [.inr (0, (14, 0)), .inr (0, (13, 0)), .inr (0, (8, 0)), .inr (3, (0, 480))])
noncomputable def rxIRRU_2 (S0 : Nat → Int → Int) (ws : List Int) (S : Nat → Int → Int) (pa st cu wo ne ax vx res : Int) : Prop := ws = [480, pa, st, cu, wo, ne] ∧ (0 ≤ st ∧ st ≤ 5 ∧ 0 ≤ cu ∧ cu ≤ 5 ∧ 0 ≤ wo ∧ wo ≤ 9 ∧ 0 ≤ ne ∧ ne ≤ 5) ∧ pa < S0 482 0 ∧ res = rjWo (S0 482 (22 + 36 * pa + (6 * st + cu))) ∧ S 482 (22 + 36 * pa + (6 * st + cu)) = 6 * wo + ne ∧ (∀ j : Int, j ≠ (22 + 36 * pa + (6 * st + cu)) → S 482 j = S0 482 j)
noncomputable def rxmRRU_2 (S0 : Nat → Int → Int) (ws : List Int) (S : Nat → Int → Int) (pa st cu wo ne ax vx res : Int) : Nat := 80
noncomputable def rxzRRU_2 : rx_Z := ([(0, 0), (0, 0), (0, 0), (0, 0), (0, 0), (0, 0), (0, 0), (0, 0), (0, 5), (0, 5), (0, 5), (0, 9), (0, 5), (0, 35), (0, 59), ((-1), 9)], [], [], 0, 0, 67, [(0, .inr (3, (0, 480))), (1, .inr (0, (8, 0))), (2, .inr (0, (9, 0))), (3, .inr (0, (10, 0))), (4, .inr (0, (11, 0))), (5, .inr (0, (12, 0)))], [.inr (0, (15, 0))])
noncomputable def rxoRRU_0_0 : bx_HO := (([(0, 0), (0, 0), (0, 0), (0, 0), (0, 0), (0, 0), (0, 0), (0, 0), (0, 5), (0, 5), (0, 5), (0, 9), (0, 5), (1, 6), (0, 30), (0, 35), (0, 54), (0, 59)], [(604462909807314587353100000000, (17, 0), (16, 0)), (10, (16, 0), (11, 0)), (604462909807314587353098000000, (15, 0), (14, 0)), (10, (14, 0), (9, 0)), (1, (8, 0), (13, (-1)))], [(((0, 0), 1851192626986356797424340330377019318111018015026043177837658112000000), .inr (0, (13, 0))), (((0, 482), 0), .inr (0, (13, 0))), (((0, 480), 3), .inr (3, (0, 482))), (((0, 0), 1851192626986356797424340330377019318111018015026043177836478467000000), .inr (0, (0, 0))), (((0, 480), 0), .inr (0, (0, 0)))], 0, 0, 64, [(0, .inr (3, (0, 480))), (1, .inr (0, (8, 0))), (2, .inr (0, (9, 0))), (3, .inr (0, (10, 0))), (4, .inr (0, (11, 0))), (5, .inr (0, (12, 0)))], [.inr (0, (17, 0)), .inr (0, (15, 0)), .inr (0, (8, 0)), .inr (3, (0, 480))]), [], [], [(0, 0), (0, 0), (0, 0), (0, 0), (0, 0), (0, 0), (0, 0), (0, 0), (8, 0), (9, 0), (10, 0), (11, 0), (12, 0), (15, 0), (17, 0)], 1)
noncomputable def rxeRRU_0_0 : rx_End × List (Nat × Int × Int) := (([(0, 0), (0, 0), (0, 0), (0, 0), (0, 0), (0, 0), (0, 0), (0, 0), ((-2147483648), 2147483647), (0, 5), (0, 5), (0, 9), ((-2147483648), (-1)), ((-2147483648), 2147483647), ((-2147483648), 2147483647)], [], [(((0, 0), 1851192626986356797625047037163794926384839479479878431390892035000000), .inr (0, (14, 0))), (((0, 481), 1), .inr (0, (14, 0))), (((0, 0), 1851192626986356797625047037163794926384839479479878431390892032000000), .inr (0, (13, 0))), (((0, 480), 2), .inr (3, (0, 481))), (((0, 0), 1851192626986356797625047037163794926384839479479878431390302211000000), .inr (0, (0, (-1)))), (((0, 480), 1), .inr (0, (0, (-1)))), (((0, 0), 1851192626986356797424340330377019318111018015026043177836478467000000), .inr (0, (0, 0))), (((0, 480), 0), .inr (0, (0, 0)))], some (.inr (0, (0, (-1))))), [])
noncomputable def rxeRRU_0_1 : rx_End × List (Nat × Int × Int) := (([(0, 0), (0, 0), (0, 0), (0, 0), (0, 0), (0, 0), (0, 0), (0, 0), ((-2147483648), 2147483647), (0, 5), (0, 5), (0, 9), (6, 2147483647), ((-2147483648), 2147483647), ((-2147483648), 2147483647)], [], [(((0, 0), 1851192626986356797625047037163794926384839479479878431390892035000000), .inr (0, (14, 0))), (((0, 481), 1), .inr (0, (14, 0))), (((0, 0), 1851192626986356797625047037163794926384839479479878431390892032000000), .inr (0, (13, 0))), (((0, 480), 2), .inr (3, (0, 481))), (((0, 0), 1851192626986356797625047037163794926384839479479878431390302211000000), .inr (0, (0, (-1)))), (((0, 480), 1), .inr (0, (0, (-1)))), (((0, 0), 1851192626986356797424340330377019318111018015026043177836478467000000), .inr (0, (0, 0))), (((0, 480), 0), .inr (0, (0, 0)))], some (.inr (0, (0, (-1))))), [])
noncomputable def rxeRRU_0_2 : rx_End × List (Nat × Int × Int) := (([(0, 0), (0, 0), (0, 0), (0, 0), (0, 0), (0, 0), (0, 0), (0, 0), (0, 2147483647), (0, 5), (0, 5), (0, 9), (0, 5), (0, 6), ((-2147483648), 2147483647), ((-2147483648), 2147483647)], [(0, (13, (-1)), (8, 0))], [(((0, 0), 1851192626986356797825753743950570534658660943933713684944715779000000), .inr (0, (15, 0))), (((0, 481), 2), .inr (0, (15, 0))), (((0, 0), 1851192626986356797825753743950570534658660943933713684944715776000000), .inr (0, (14, 0))), (((0, 480), 2), .inr (3, (0, 481))), (((0, 0), 1851192626986356797625047037163794926384839479479878431390302211000000), .inr (0, (0, (-2)))), (((0, 480), 1), .inr (0, (0, (-2)))), (((0, 0), 1851192626986356797424340330377019318111018015026043177837658112000000), .inr (0, (13, 0))), (((0, 482), 0), .inr (0, (13, 0))), (((0, 480), 3), .inr (3, (0, 482))), (((0, 0), 1851192626986356797424340330377019318111018015026043177836478467000000), .inr (0, (0, 0))), (((0, 480), 0), .inr (0, (0, 0)))], some (.inr (0, (0, (-2))))), [])
noncomputable def rxeRRU_0_3 : rx_End × List (Nat × Int × Int) := (([(0, 0), (0, 0), (0, 0), (0, 0), (0, 0), (0, 0), (0, 0), (0, 0), ((-2147483648), (-1)), (0, 5), (0, 5), (0, 9), (0, 5), (0, 6), ((-2147483648), 2147483647), ((-2147483648), 2147483647)], [], [(((0, 0), 1851192626986356797825753743950570534658660943933713684944715779000000), .inr (0, (15, 0))), (((0, 481), 2), .inr (0, (15, 0))), (((0, 0), 1851192626986356797825753743950570534658660943933713684944715776000000), .inr (0, (14, 0))), (((0, 480), 2), .inr (3, (0, 481))), (((0, 0), 1851192626986356797625047037163794926384839479479878431390302211000000), .inr (0, (0, (-2)))), (((0, 480), 1), .inr (0, (0, (-2)))), (((0, 0), 1851192626986356797424340330377019318111018015026043177837658112000000), .inr (0, (13, 0))), (((0, 482), 0), .inr (0, (13, 0))), (((0, 480), 3), .inr (3, (0, 482))), (((0, 0), 1851192626986356797424340330377019318111018015026043177836478467000000), .inr (0, (0, 0))), (((0, 480), 0), .inr (0, (0, 0)))], some (.inr (0, (0, (-2))))), [])
noncomputable def rxeRRU_0_4 : rx_End × List (Nat × Int × Int) := (([(0, 0), (0, 0), (0, 0), (0, 0), (0, 0), (0, 0), (0, 0), (0, 0), ((-2147483648), 2147483647), (0, 5), (0, 5), (10, 2147483647), ((-2147483648), 2147483647), ((-2147483648), 2147483647), ((-2147483648), 2147483647)], [], [(((0, 0), 1851192626986356797625047037163794926384839479479878431390892035000000), .inr (0, (14, 0))), (((0, 481), 1), .inr (0, (14, 0))), (((0, 0), 1851192626986356797625047037163794926384839479479878431390892032000000), .inr (0, (13, 0))), (((0, 480), 2), .inr (3, (0, 481))), (((0, 0), 1851192626986356797625047037163794926384839479479878431390302211000000), .inr (0, (0, (-1)))), (((0, 480), 1), .inr (0, (0, (-1)))), (((0, 0), 1851192626986356797424340330377019318111018015026043177836478467000000), .inr (0, (0, 0))), (((0, 480), 0), .inr (0, (0, 0)))], some (.inr (0, (0, (-1))))), [])
noncomputable def rxeRRU_0_5 : rx_End × List (Nat × Int × Int) := (([(0, 0), (0, 0), (0, 0), (0, 0), (0, 0), (0, 0), (0, 0), (0, 0), ((-2147483648), 2147483647), (0, 5), (0, 5), ((-2147483648), (-1)), ((-2147483648), 2147483647), ((-2147483648), 2147483647), ((-2147483648), 2147483647)], [], [(((0, 0), 1851192626986356797625047037163794926384839479479878431390892035000000), .inr (0, (14, 0))), (((0, 481), 1), .inr (0, (14, 0))), (((0, 0), 1851192626986356797625047037163794926384839479479878431390892032000000), .inr (0, (13, 0))), (((0, 480), 2), .inr (3, (0, 481))), (((0, 0), 1851192626986356797625047037163794926384839479479878431390302211000000), .inr (0, (0, (-1)))), (((0, 480), 1), .inr (0, (0, (-1)))), (((0, 0), 1851192626986356797424340330377019318111018015026043177836478467000000), .inr (0, (0, 0))), (((0, 480), 0), .inr (0, (0, 0)))], some (.inr (0, (0, (-1))))), [])
noncomputable def rxeRRU_0_6 : rx_End × List (Nat × Int × Int) := (([(0, 0), (0, 0), (0, 0), (0, 0), (0, 0), (0, 0), (0, 0), (0, 0), ((-2147483648), 2147483647), (0, 5), (6, 2147483647), ((-2147483648), 2147483647), ((-2147483648), 2147483647), ((-2147483648), 2147483647), ((-2147483648), 2147483647)], [], [(((0, 0), 1851192626986356797625047037163794926384839479479878431390892035000000), .inr (0, (14, 0))), (((0, 481), 1), .inr (0, (14, 0))), (((0, 0), 1851192626986356797625047037163794926384839479479878431390892032000000), .inr (0, (13, 0))), (((0, 480), 2), .inr (3, (0, 481))), (((0, 0), 1851192626986356797625047037163794926384839479479878431390302211000000), .inr (0, (0, (-1)))), (((0, 480), 1), .inr (0, (0, (-1)))), (((0, 0), 1851192626986356797424340330377019318111018015026043177836478467000000), .inr (0, (0, 0))), (((0, 480), 0), .inr (0, (0, 0)))], some (.inr (0, (0, (-1))))), [])
noncomputable def rxeRRU_0_7 : rx_End × List (Nat × Int × Int) := (([(0, 0), (0, 0), (0, 0), (0, 0), (0, 0), (0, 0), (0, 0), (0, 0), ((-2147483648), 2147483647), (0, 5), ((-2147483648), (-1)), ((-2147483648), 2147483647), ((-2147483648), 2147483647), ((-2147483648), 2147483647), ((-2147483648), 2147483647)], [], [(((0, 0), 1851192626986356797625047037163794926384839479479878431390892035000000), .inr (0, (14, 0))), (((0, 481), 1), .inr (0, (14, 0))), (((0, 0), 1851192626986356797625047037163794926384839479479878431390892032000000), .inr (0, (13, 0))), (((0, 480), 2), .inr (3, (0, 481))), (((0, 0), 1851192626986356797625047037163794926384839479479878431390302211000000), .inr (0, (0, (-1)))), (((0, 480), 1), .inr (0, (0, (-1)))), (((0, 0), 1851192626986356797424340330377019318111018015026043177836478467000000), .inr (0, (0, 0))), (((0, 480), 0), .inr (0, (0, 0)))], some (.inr (0, (0, (-1))))), [])
noncomputable def rxeRRU_0_8 : rx_End × List (Nat × Int × Int) := (([(0, 0), (0, 0), (0, 0), (0, 0), (0, 0), (0, 0), (0, 0), (0, 0), ((-2147483648), 2147483647), (6, 2147483647), ((-2147483648), 2147483647), ((-2147483648), 2147483647), ((-2147483648), 2147483647), ((-2147483648), 2147483647), ((-2147483648), 2147483647)], [], [(((0, 0), 1851192626986356797625047037163794926384839479479878431390892035000000), .inr (0, (14, 0))), (((0, 481), 1), .inr (0, (14, 0))), (((0, 0), 1851192626986356797625047037163794926384839479479878431390892032000000), .inr (0, (13, 0))), (((0, 480), 2), .inr (3, (0, 481))), (((0, 0), 1851192626986356797625047037163794926384839479479878431390302211000000), .inr (0, (0, (-1)))), (((0, 480), 1), .inr (0, (0, (-1)))), (((0, 0), 1851192626986356797424340330377019318111018015026043177836478467000000), .inr (0, (0, 0))), (((0, 480), 0), .inr (0, (0, 0)))], some (.inr (0, (0, (-1))))), [])
noncomputable def rxeRRU_0_9 : rx_End × List (Nat × Int × Int) := (([(0, 0), (0, 0), (0, 0), (0, 0), (0, 0), (0, 0), (0, 0), (0, 0), ((-2147483648), 2147483647), ((-2147483648), (-1)), ((-2147483648), 2147483647), ((-2147483648), 2147483647), ((-2147483648), 2147483647), ((-2147483648), 2147483647), ((-2147483648), 2147483647)], [], [(((0, 0), 1851192626986356797625047037163794926384839479479878431390892035000000), .inr (0, (14, 0))), (((0, 481), 1), .inr (0, (14, 0))), (((0, 0), 1851192626986356797625047037163794926384839479479878431390892032000000), .inr (0, (13, 0))), (((0, 480), 2), .inr (3, (0, 481))), (((0, 0), 1851192626986356797625047037163794926384839479479878431390302211000000), .inr (0, (0, (-1)))), (((0, 480), 1), .inr (0, (0, (-1)))), (((0, 0), 1851192626986356797424340330377019318111018015026043177836478467000000), .inr (0, (0, 0))), (((0, 480), 0), .inr (0, (0, 0)))], some (.inr (0, (0, (-1))))), [])
noncomputable def rxeRRU_2_0 : rx_End × List (Nat × Int × Int) := (([(0, 0), (0, 0), (0, 0), (0, 0), (0, 0), (0, 0), (0, 0), (0, 0), (0, 5), (0, 5), (0, 5), (0, 9), (0, 5), (0, 35), (0, 59), ((-1), 9)], [], [], some (.inr (0, (15, 0)))), [])
noncomputable def rxYRRU : List bx_HE := [(rxzRRU_0, [rxoRRU_0_0], [rxeRRU_0_0, rxeRRU_0_1, rxeRRU_0_2, rxeRRU_0_3, rxeRRU_0_4, rxeRRU_0_5, rxeRRU_0_6, rxeRRU_0_7, rxeRRU_0_8, rxeRRU_0_9]), (rxzRRU_1, [], []), (rxzRRU_2, [], [rxeRRU_2_0])]
noncomputable def rxURRU (q : bx_HE) : Bool := Nat.beq (rx_zpc q.1) 64
noncomputable def rxYBRRU : bx_B := (rxV, rxNP, rxDmf, bx_mdH rxC216.2.2.1)
set_option maxRecDepth 100000 in
theorem rxYcRRU : bx_chkH rxYBRRU rxM216 rxC216 rxYRRU (rxURRU, fun cut z => rx_ex2 (rxCT rxYBRRU rxCnE) cut 30000 rxC216.2.2.2.1 216 z) = true := by decide +kernel
noncomputable def rxIRRU (S0 : Nat → Int → Int) (ws : List Int) (i : Nat) : bx_SP := fun S r => match i with | 0 => rxIRRU_0 S0 ws S (r 8) (r 9) (r 10) (r 11) (r 12) | 1 => rxIRRU_1 S0 ws S (r 8) (r 9) (r 10) (r 11) (r 12) (r 13) (r 14) | 2 => rxIRRU_2 S0 ws S (r 8) (r 9) (r 10) (r 11) (r 12) (r 13) (r 14) (r 15) | _ => False
noncomputable def rxmRRU (S0 : Nat → Int → Int) (ws : List Int) (i : Nat) (S : Nat → Int → Int) (r : Nat → Int) : Nat := match i with | 0 => rxmRRU_0 S0 ws S (r 8) (r 9) (r 10) (r 11) (r 12) | 1 => rxmRRU_1 S0 ws S (r 8) (r 9) (r 10) (r 11) (r 12) (r 13) (r 14) | 2 => rxmRRU_2 S0 ws S (r 8) (r 9) (r 10) (r 11) (r 12) (r 13) (r 14) (r 15) | _ => 0
noncomputable def rxPRRU (S0 : Nat → Int → Int) (ws : List Int) : Prop := True
noncomputable def rxPSRRU (S0 : Nat → Int → Int) (ws : List Int) (S : Nat → Int → Int) (w : Option Int) : Prop := ∃ pa st cu wo ne : Int, ws = [480, pa, st, cu, wo, ne] ∧ (((st < 0 ∨ 5 < st ∨ cu < 0 ∨ 5 < cu ∨ wo < 0 ∨ 9 < wo ∨ ne < 0 ∨ 5 < ne) ∧ w = some (-1) ∧ (∀ j : Int, S 482 j = S0 482 j)) ∨ (0 ≤ st ∧ st ≤ 5 ∧ 0 ≤ cu ∧ cu ≤ 5 ∧ 0 ≤ wo ∧ wo ≤ 9 ∧ 0 ≤ ne ∧ ne ≤ 5 ∧ (pa < 0 ∨ S0 482 0 ≤ pa) ∧ w = some (-2) ∧ (∀ j : Int, S 482 j = S0 482 j)) ∨ (0 ≤ st ∧ st ≤ 5 ∧ 0 ≤ cu ∧ cu ≤ 5 ∧ 0 ≤ wo ∧ wo ≤ 9 ∧ 0 ≤ ne ∧ ne ≤ 5 ∧ 0 ≤ pa ∧ pa < S0 482 0 ∧ w = some (rjWo (S0 482 (22 + 36 * pa + (6 * st + cu)))) ∧ S 482 (22 + 36 * pa + (6 * st + cu)) = 6 * wo + ne ∧ (∀ j : Int, j ≠ (22 + 36 * pa + (6 * st + cu)) → S 482 j = S0 482 j)))
theorem rxkRRU_1 {S0 : Nat → Int → Int} {ws : List Int} {S : Nat → Int → Int} {pa st cu wo ne ax vx : Int} (hP : rxPRRU S0 ws) (hin : bx_same rxL (bx_mdl rxC216.2.2.1) S0 S) (I0 : bx_Inv rxL S) (hinv : rxIRRU_1 S0 ws S pa st cu wo ne ax vx) (l8 : 0 ≤ pa) (u8 : pa ≤ 5) (l9 : 0 ≤ st) (u9 : st ≤ 5) (l10 : 0 ≤ cu) (u10 : cu ≤ 5) (l11 : 0 ≤ wo) (u11 : wo ≤ 9) (l12 : 0 ≤ ne) (u12 : ne ≤ 5) (l13 : 0 ≤ ax) (u13 : ax ≤ 35) (l14 : 0 ≤ vx) (u14 : vx ≤ 59) : rxPCHG S [480, pa, ax, vx] ∧ ∀ (S_p : Nat → Int → Int) (res : Int), (-1) ≤ res → res ≤ 9 → rxPSCHG S [480, pa, ax, vx] S_p (some res) → bx_Inv rxL S_p → bx_same rxL (bx_mdl rxCCHG.2.2.1) S S_p → rxIRRU_2 S0 ws S_p pa st cu wo ne ax vx res ∧ rxmRRU_2 S0 ws S_p pa st cu wo ne ax vx res < rxmRRU_1 S0 ws S pa st cu wo ne ax vx := by
  obtain ⟨hw, hi, hp, hax, hvx, hf⟩ := hinv
  refine ⟨trivial, fun S_p res _ _ hq _ hsm => ⟨?_, by unfold rxmRRU_1 rxmRRU_2; omega⟩⟩
  obtain ⟨p2, a2, v2, hw3, hr, hv, hg⟩ := hq
  have k1 : pa = p2 := Option.some.inj (congrArg (fun l : List Int => l[1]?) hw3)
  have k2 : ax = a2 := Option.some.inj (congrArg (fun l : List Int => l[2]?) hw3)
  have k3 : vx = v2 := Option.some.inj (congrArg (fun l : List Int => l[3]?) hw3)
  subst k1
  subst k2
  subst k3
  subst hax
  subst hvx
  rw [hf] at hr
  exact ⟨hw, hi, hp, Option.some.inj hr, hv, fun j a => (hg j a).trans (hf j)⟩
theorem rxsRRU_1 {X : (Nat → Int → Int) → Prop} {S0 : Nat → Int → Int} {ws : List Int} (hP : rxPRRU S0 ws) : rx_obK X S0 rxC216.2.2.1 rxCCHG.2.2.1 (rxIRRU S0 ws) (rxmRRU S0 ws) 1 2 rxzRRU_1 rxzRRU_2 [.inr (3, (0, 480)), .inr (0, (8, 0)), .inr (0, (13, 0)), .inr (0, (14, 0))] (some 15) rxPCHG rxPSCHG := by
  intro S r hinv hXS I0 hin hs_ hf_
  have b_ := bx_bds_sat hs_
  have f_ := bx_fcl_ok hs_.1 hf_
  obtain ⟨⟨l8, u8⟩, ⟨l9, u9⟩, ⟨l10, u10⟩, ⟨l11, u11⟩, ⟨l12, u12⟩, ⟨l13, u13⟩, ⟨l14, u14⟩, -⟩ := b_
  have g := rxkRRU_1 hP hin I0 hinv l8 u8 l9 u9 l10 u10 l11 u11 l12 u12 l13 u13 l14 u14
  have ea : List.map (bx_num r) [.inr (3, (0, 480)), .inr (0, (8, 0)), .inr (0, (13, 0)), .inr (0, (14, 0))] = [480, (r 8), (r 13), (r 14)] := by
    simp only [List.map_cons, List.map_nil, bx_xv_ok hs_.1]
    rfl
  rw [ea]
  refine ⟨g.1, fun S_p w r_p hPS hX_p I1 hsm hr hw hs_p => ?_⟩
  have hw := hw _ rfl
  subst hw
  have b_p := hs_p.2.2 15 _ _ rfl
  have g2 := g.2 S_p (r_p 15) b_p.1 b_p.2 hPS I1 hsm
  show rxIRRU_2 S0 ws S_p (r_p 8) (r_p 9) (r_p 10) (r_p 11) (r_p 12) (r_p 13) (r_p 14) (r_p 15) ∧ rxmRRU_2 S0 ws S_p (r_p 8) (r_p 9) (r_p 10) (r_p 11) (r_p 12) (r_p 13) (r_p 14) (r_p 15) < _
  rw [hr 8 (by decide), hr 9 (by decide), hr 10 (by decide), hr 11 (by decide), hr 12 (by decide), hr 13 (by decide), hr 14 (by decide)]
  exact g2
theorem rxcRRU_0_0 {S0 : Nat → Int → Int} {ws : List Int} {S : Nat → Int → Int} {pa st cu wo ne x13 x14 x15 x16 x17 : Int} (hP : rxPRRU S0 ws) (hin : bx_same rxL (bx_mdl rxC216.2.2.1) S0 S) (I0 : bx_Inv rxL S) (hinv : rxIRRU_0 S0 ws S pa st cu wo ne) (l8 : 0 ≤ pa) (u8 : pa ≤ 5) (l9 : 0 ≤ st) (u9 : st ≤ 5) (l10 : 0 ≤ cu) (u10 : cu ≤ 5) (l11 : 0 ≤ wo) (u11 : wo ≤ 9) (l12 : 0 ≤ ne) (u12 : ne ≤ 5) (l13 : 1 ≤ x13) (u13 : x13 ≤ 6) (l14 : 0 ≤ x14) (u14 : x14 ≤ 30) (l15 : 0 ≤ x15) (u15 : x15 ≤ 35) (l16 : 0 ≤ x16) (u16 : x16 ≤ 54) (l17 : 0 ≤ x17) (u17 : x17 ≤ 59) (f0 : x17 = x16 + ne) (f1 : x16 = 6 * (wo)) (f2 : x15 = x14 + cu) (f3 : x14 = 6 * (st)) (f4 : pa ≤ x13 + (-1)) (e0 : (bx_up S 480 0 0) 482 0 = x13) : (True) ∧ (True) ∧ rxIRRU_1 S0 ws (bx_up S 480 0 0) pa st cu wo ne x15 x17 ∧ rxmRRU_1 S0 ws (bx_up S 480 0 0) pa st cu wo ne x15 x17 < rxmRRU_0 S0 ws S pa st cu wo ne := by
  obtain ⟨rfl, hw⟩ := hinv
  have q0 : S 482 0 = x13 := ((bx_up_ne (by omega))).symm.trans e0
  exact ⟨trivial, trivial, ⟨hw, ⟨by omega, by omega, by omega, by omega, by omega, by omega, by omega, by omega⟩, by omega, by omega, by omega, fun j => (bx_up_ne (by omega))⟩, by unfold rxmRRU_0 rxmRRU_1; omega⟩
theorem rxgRRU_0_0 {X : (Nat → Int → Int) → Prop} {S0 : Nat → Int → Int} {ws : List Int} (hP : rxPRRU S0 ws) : bx_obC rxL X S0 rxC216.2.2.1 (rxIRRU S0 ws) (rxmRRU S0 ws) 0 rxzRRU_0 rxoRRU_0_0 := by
  intro S S_p r r_p hinv hX hin hsm_ hseg
  obtain ⟨I0, I1, h0_, hr_, b_, f_, d_⟩ := bx_cl (evs := [(0, (0, 482), (0, 0), .inr (0, (13, 0))), (1, (0, 480), (0, 0), .inr (0, (0, 0)))]) (fvs := [(5, (17, 0), (16, 0), (12, 0)), (4, (16, 0), (11, 0), (0, 6)), (5, (15, 0), (14, 0), (10, 0)), (4, (14, 0), (9, 0), (0, 6)), (1, (8, 0), (13, (-1)), (0, 0))]) hseg (by decide +kernel) (by decide +kernel)
  have hinv : rxIRRU_0 S0 ws S (r 8) (r 9) (r 10) (r 11) (r 12) := hinv
  rw [← hr_ 8 (by decide), ← hr_ 9 (by decide), ← hr_ 10 (by decide), ← hr_ 11 (by decide), ← hr_ 12 (by decide)] at hinv
  obtain ⟨⟨l8, u8⟩, ⟨l9, u9⟩, ⟨l10, u10⟩, ⟨l11, u11⟩, ⟨l12, u12⟩, ⟨l13, u13⟩, ⟨l14, u14⟩, ⟨l15, u15⟩, ⟨l16, u16⟩, ⟨l17, u17⟩, -⟩ := b_
  obtain ⟨f0, f1, f2, f3, f4, -⟩ := f_
  obtain ⟨e0, ⟨T1, w_, w1⟩⟩ := d_
  subst w1
  subst w_
  have g := rxcRRU_0_0 hP hin I0 hinv l8 u8 l9 u9 l10 u10 l11 u11 l12 u12 l13 u13 l14 u14 l15 u15 l16 u16 l17 u17 f0 f1 f2 f3 f4 e0
  refine ⟨bx_narP_ok (l := []) g.1, bx_nfP_ok h0_ (fvs := []) (by decide +kernel) g.2.1, ?_, ?_⟩
  · show rxIRRU_1 S0 ws (bx_up T1 480 (0) (0)) (bx_val [(0, 0), (0, 0), (0, 0), (0, 0), (0, 0), (0, 0), (0, 0), (0, 0), (8, 0), (9, 0), (10, 0), (11, 0), (12, 0), (15, 0), (17, 0)] r_p 8) (bx_val [(0, 0), (0, 0), (0, 0), (0, 0), (0, 0), (0, 0), (0, 0), (0, 0), (8, 0), (9, 0), (10, 0), (11, 0), (12, 0), (15, 0), (17, 0)] r_p 9) (bx_val [(0, 0), (0, 0), (0, 0), (0, 0), (0, 0), (0, 0), (0, 0), (0, 0), (8, 0), (9, 0), (10, 0), (11, 0), (12, 0), (15, 0), (17, 0)] r_p 10) (bx_val [(0, 0), (0, 0), (0, 0), (0, 0), (0, 0), (0, 0), (0, 0), (0, 0), (8, 0), (9, 0), (10, 0), (11, 0), (12, 0), (15, 0), (17, 0)] r_p 11) (bx_val [(0, 0), (0, 0), (0, 0), (0, 0), (0, 0), (0, 0), (0, 0), (0, 0), (8, 0), (9, 0), (10, 0), (11, 0), (12, 0), (15, 0), (17, 0)] r_p 12) (bx_val [(0, 0), (0, 0), (0, 0), (0, 0), (0, 0), (0, 0), (0, 0), (0, 0), (8, 0), (9, 0), (10, 0), (11, 0), (12, 0), (15, 0), (17, 0)] r_p 13) (bx_val [(0, 0), (0, 0), (0, 0), (0, 0), (0, 0), (0, 0), (0, 0), (0, 0), (8, 0), (9, 0), (10, 0), (11, 0), (12, 0), (15, 0), (17, 0)] r_p 14)
    rw [bx_val_x (n := 8) (e := (8, 0)) h0_ rfl, bx_val_x (n := 9) (e := (9, 0)) h0_ rfl, bx_val_x (n := 10) (e := (10, 0)) h0_ rfl, bx_val_x (n := 11) (e := (11, 0)) h0_ rfl, bx_val_x (n := 12) (e := (12, 0)) h0_ rfl, bx_val_x (n := 13) (e := (15, 0)) h0_ rfl, bx_val_x (n := 14) (e := (17, 0)) h0_ rfl]
    exact g.2.2.1
  · show rxmRRU_1 S0 ws (bx_up T1 480 (0) (0)) (bx_val [(0, 0), (0, 0), (0, 0), (0, 0), (0, 0), (0, 0), (0, 0), (0, 0), (8, 0), (9, 0), (10, 0), (11, 0), (12, 0), (15, 0), (17, 0)] r_p 8) (bx_val [(0, 0), (0, 0), (0, 0), (0, 0), (0, 0), (0, 0), (0, 0), (0, 0), (8, 0), (9, 0), (10, 0), (11, 0), (12, 0), (15, 0), (17, 0)] r_p 9) (bx_val [(0, 0), (0, 0), (0, 0), (0, 0), (0, 0), (0, 0), (0, 0), (0, 0), (8, 0), (9, 0), (10, 0), (11, 0), (12, 0), (15, 0), (17, 0)] r_p 10) (bx_val [(0, 0), (0, 0), (0, 0), (0, 0), (0, 0), (0, 0), (0, 0), (0, 0), (8, 0), (9, 0), (10, 0), (11, 0), (12, 0), (15, 0), (17, 0)] r_p 11) (bx_val [(0, 0), (0, 0), (0, 0), (0, 0), (0, 0), (0, 0), (0, 0), (0, 0), (8, 0), (9, 0), (10, 0), (11, 0), (12, 0), (15, 0), (17, 0)] r_p 12) (bx_val [(0, 0), (0, 0), (0, 0), (0, 0), (0, 0), (0, 0), (0, 0), (0, 0), (8, 0), (9, 0), (10, 0), (11, 0), (12, 0), (15, 0), (17, 0)] r_p 13) (bx_val [(0, 0), (0, 0), (0, 0), (0, 0), (0, 0), (0, 0), (0, 0), (0, 0), (8, 0), (9, 0), (10, 0), (11, 0), (12, 0), (15, 0), (17, 0)] r_p 14) < rxmRRU_0 S0 ws T1 (r 8) (r 9) (r 10) (r 11) (r 12)
    rw [bx_val_x (n := 8) (e := (8, 0)) h0_ rfl, bx_val_x (n := 9) (e := (9, 0)) h0_ rfl, bx_val_x (n := 10) (e := (10, 0)) h0_ rfl, bx_val_x (n := 11) (e := (11, 0)) h0_ rfl, bx_val_x (n := 12) (e := (12, 0)) h0_ rfl, bx_val_x (n := 13) (e := (15, 0)) h0_ rfl, bx_val_x (n := 14) (e := (17, 0)) h0_ rfl, ← hr_ 8 (by decide), ← hr_ 9 (by decide), ← hr_ 10 (by decide), ← hr_ 11 (by decide), ← hr_ 12 (by decide)]
    exact g.2.2.2
theorem rxdRRU_0_0 {S0 : Nat → Int → Int} {ws : List Int} {S : Nat → Int → Int} {pa st cu wo ne x13 x14 : Int} (hP : rxPRRU S0 ws) (hin : bx_same rxL (bx_mdl rxC216.2.2.1) S0 S) (hin2 : bx_same rxL (bx_mdl rxC216.2.2.1) S (bx_up (bx_up (bx_up S 480 0 0) 480 1 ((-1))) 481 1 x14)) (I0 : bx_Inv rxL S) (I1 : bx_Inv rxL (bx_up (bx_up (bx_up S 480 0 0) 480 1 ((-1))) 481 1 x14)) (hinv : rxIRRU_0 S0 ws S pa st cu wo ne) (l8 : (-2147483648) ≤ pa) (u8 : pa ≤ 2147483647) (l9 : 0 ≤ st) (u9 : st ≤ 5) (l10 : 0 ≤ cu) (u10 : cu ≤ 5) (l11 : 0 ≤ wo) (u11 : wo ≤ 9) (l12 : (-2147483648) ≤ ne) (u12 : ne ≤ (-1)) (l13 : (-2147483648) ≤ x13) (u13 : x13 ≤ 2147483647) (l14 : (-2147483648) ≤ x14) (u14 : x14 ≤ 2147483647) (e1 : (bx_up (bx_up S 480 0 0) 480 1 ((-1))) 481 1 = x13) : (True) ∧ rxPSRRU S0 ws (bx_up (bx_up (bx_up S 480 0 0) 480 1 ((-1))) 481 1 x14) (some ((-1))) := by
  obtain ⟨rfl, hw⟩ := hinv
  exact ⟨trivial, pa, st, cu, wo, ne, hw, Or.inl ⟨by omega, rfl, fun j => (bx_up_ne (by omega)).trans ((bx_up_ne (by omega)).trans ((bx_up_ne (by omega))))⟩⟩
theorem rxfRRU_0_0 {X : (Nat → Int → Int) → Prop} {S0 : Nat → Int → Int} {ws : List Int} (hP : rxPRRU S0 ws) : bx_obE rxL X S0 rxC216.2.2.1 (rxIRRU S0 ws) (rxPSRRU S0 ws) 0 rxzRRU_0 rxeRRU_0_0 := by
  intro S S_p r r_p hinv hX hin hsm_ hseg
  obtain ⟨I0, I1, h0_, hr_, b_, f_, d_⟩ := bx_cl (evs := [(1, (0, 481), (0, 1), .inr (0, (14, 0))), (0, (0, 481), (0, 1), .inr (0, (13, 0))), (1, (0, 480), (0, 1), .inr (0, (0, (-1)))), (1, (0, 480), (0, 0), .inr (0, (0, 0)))]) (fvs := []) hseg (by decide +kernel) (by decide +kernel)
  have hinv : rxIRRU_0 S0 ws S (r 8) (r 9) (r 10) (r 11) (r 12) := hinv
  rw [← hr_ 8 (by decide), ← hr_ 9 (by decide), ← hr_ 10 (by decide), ← hr_ 11 (by decide), ← hr_ 12 (by decide)] at hinv
  obtain ⟨⟨l8, u8⟩, ⟨l9, u9⟩, ⟨l10, u10⟩, ⟨l11, u11⟩, ⟨l12, u12⟩, ⟨l13, u13⟩, ⟨l14, u14⟩, -⟩ := b_
  obtain ⟨T0, ⟨e1, ⟨T2, ⟨T3, w_, w3⟩, w2⟩⟩, w0⟩ := d_
  subst w0
  subst w2
  subst w3
  subst w_
  have g := rxdRRU_0_0 hP hin hsm_ I0 I1 hinv l8 u8 l9 u9 l10 u10 l11 u11 l12 u12 l13 u13 l14 u14 e1
  refine ⟨bx_narP_ok (l := []) g.1, ?_⟩
  show rxPSRRU S0 ws (bx_up (bx_up (bx_up T3 480 (0) (0)) 480 (1) ((-1))) 481 (1) (r_p 14)) (some (bx_num r_p (.inr (0, (0, (-1))))))
  rw [bx_xv_ok h0_]
  exact g.2
theorem rxdRRU_0_1 {S0 : Nat → Int → Int} {ws : List Int} {S : Nat → Int → Int} {pa st cu wo ne x13 x14 : Int} (hP : rxPRRU S0 ws) (hin : bx_same rxL (bx_mdl rxC216.2.2.1) S0 S) (hin2 : bx_same rxL (bx_mdl rxC216.2.2.1) S (bx_up (bx_up (bx_up S 480 0 0) 480 1 ((-1))) 481 1 x14)) (I0 : bx_Inv rxL S) (I1 : bx_Inv rxL (bx_up (bx_up (bx_up S 480 0 0) 480 1 ((-1))) 481 1 x14)) (hinv : rxIRRU_0 S0 ws S pa st cu wo ne) (l8 : (-2147483648) ≤ pa) (u8 : pa ≤ 2147483647) (l9 : 0 ≤ st) (u9 : st ≤ 5) (l10 : 0 ≤ cu) (u10 : cu ≤ 5) (l11 : 0 ≤ wo) (u11 : wo ≤ 9) (l12 : 6 ≤ ne) (u12 : ne ≤ 2147483647) (l13 : (-2147483648) ≤ x13) (u13 : x13 ≤ 2147483647) (l14 : (-2147483648) ≤ x14) (u14 : x14 ≤ 2147483647) (e1 : (bx_up (bx_up S 480 0 0) 480 1 ((-1))) 481 1 = x13) : (True) ∧ rxPSRRU S0 ws (bx_up (bx_up (bx_up S 480 0 0) 480 1 ((-1))) 481 1 x14) (some ((-1))) := by
  obtain ⟨rfl, hw⟩ := hinv
  exact ⟨trivial, pa, st, cu, wo, ne, hw, Or.inl ⟨by omega, rfl, fun j => (bx_up_ne (by omega)).trans ((bx_up_ne (by omega)).trans ((bx_up_ne (by omega))))⟩⟩
theorem rxfRRU_0_1 {X : (Nat → Int → Int) → Prop} {S0 : Nat → Int → Int} {ws : List Int} (hP : rxPRRU S0 ws) : bx_obE rxL X S0 rxC216.2.2.1 (rxIRRU S0 ws) (rxPSRRU S0 ws) 0 rxzRRU_0 rxeRRU_0_1 := by
  intro S S_p r r_p hinv hX hin hsm_ hseg
  obtain ⟨I0, I1, h0_, hr_, b_, f_, d_⟩ := bx_cl (evs := [(1, (0, 481), (0, 1), .inr (0, (14, 0))), (0, (0, 481), (0, 1), .inr (0, (13, 0))), (1, (0, 480), (0, 1), .inr (0, (0, (-1)))), (1, (0, 480), (0, 0), .inr (0, (0, 0)))]) (fvs := []) hseg (by decide +kernel) (by decide +kernel)
  have hinv : rxIRRU_0 S0 ws S (r 8) (r 9) (r 10) (r 11) (r 12) := hinv
  rw [← hr_ 8 (by decide), ← hr_ 9 (by decide), ← hr_ 10 (by decide), ← hr_ 11 (by decide), ← hr_ 12 (by decide)] at hinv
  obtain ⟨⟨l8, u8⟩, ⟨l9, u9⟩, ⟨l10, u10⟩, ⟨l11, u11⟩, ⟨l12, u12⟩, ⟨l13, u13⟩, ⟨l14, u14⟩, -⟩ := b_
  obtain ⟨T0, ⟨e1, ⟨T2, ⟨T3, w_, w3⟩, w2⟩⟩, w0⟩ := d_
  subst w0
  subst w2
  subst w3
  subst w_
  have g := rxdRRU_0_1 hP hin hsm_ I0 I1 hinv l8 u8 l9 u9 l10 u10 l11 u11 l12 u12 l13 u13 l14 u14 e1
  refine ⟨bx_narP_ok (l := []) g.1, ?_⟩
  show rxPSRRU S0 ws (bx_up (bx_up (bx_up T3 480 (0) (0)) 480 (1) ((-1))) 481 (1) (r_p 14)) (some (bx_num r_p (.inr (0, (0, (-1))))))
  rw [bx_xv_ok h0_]
  exact g.2
theorem rxdRRU_0_2 {S0 : Nat → Int → Int} {ws : List Int} {S : Nat → Int → Int} {pa st cu wo ne x13 x14 x15 : Int} (hP : rxPRRU S0 ws) (hin : bx_same rxL (bx_mdl rxC216.2.2.1) S0 S) (hin2 : bx_same rxL (bx_mdl rxC216.2.2.1) S (bx_up (bx_up (bx_up S 480 0 0) 480 1 ((-2))) 481 2 x15)) (I0 : bx_Inv rxL S) (I1 : bx_Inv rxL (bx_up (bx_up (bx_up S 480 0 0) 480 1 ((-2))) 481 2 x15)) (hinv : rxIRRU_0 S0 ws S pa st cu wo ne) (l8 : 0 ≤ pa) (u8 : pa ≤ 2147483647) (l9 : 0 ≤ st) (u9 : st ≤ 5) (l10 : 0 ≤ cu) (u10 : cu ≤ 5) (l11 : 0 ≤ wo) (u11 : wo ≤ 9) (l12 : 0 ≤ ne) (u12 : ne ≤ 5) (l13 : 0 ≤ x13) (u13 : x13 ≤ 6) (l14 : (-2147483648) ≤ x14) (u14 : x14 ≤ 2147483647) (l15 : (-2147483648) ≤ x15) (u15 : x15 ≤ 2147483647) (f0 : x13 + (-1) < pa) (e3 : (bx_up S 480 0 0) 482 0 = x13) (e1 : (bx_up (bx_up S 480 0 0) 480 1 ((-2))) 481 2 = x14) : (True) ∧ rxPSRRU S0 ws (bx_up (bx_up (bx_up S 480 0 0) 480 1 ((-2))) 481 2 x15) (some ((-2))) := by
  obtain ⟨rfl, hw⟩ := hinv
  have q0 : S 482 0 = x13 := ((bx_up_ne (by omega))).symm.trans e3
  exact ⟨trivial, pa, st, cu, wo, ne, hw, Or.inr (Or.inl ⟨by omega, by omega, by omega, by omega, by omega, by omega, by omega, by omega, by omega, rfl, fun j => (bx_up_ne (by omega)).trans ((bx_up_ne (by omega)).trans ((bx_up_ne (by omega))))⟩)⟩
theorem rxfRRU_0_2 {X : (Nat → Int → Int) → Prop} {S0 : Nat → Int → Int} {ws : List Int} (hP : rxPRRU S0 ws) : bx_obE rxL X S0 rxC216.2.2.1 (rxIRRU S0 ws) (rxPSRRU S0 ws) 0 rxzRRU_0 rxeRRU_0_2 := by
  intro S S_p r r_p hinv hX hin hsm_ hseg
  obtain ⟨I0, I1, h0_, hr_, b_, f_, d_⟩ := bx_cl (evs := [(1, (0, 481), (0, 2), .inr (0, (15, 0))), (0, (0, 481), (0, 2), .inr (0, (14, 0))), (1, (0, 480), (0, 1), .inr (0, (0, (-2)))), (0, (0, 482), (0, 0), .inr (0, (13, 0))), (1, (0, 480), (0, 0), .inr (0, (0, 0)))]) (fvs := [(0, (13, (-1)), (8, 0), (0, 0))]) hseg (by decide +kernel) (by decide +kernel)
  have hinv : rxIRRU_0 S0 ws S (r 8) (r 9) (r 10) (r 11) (r 12) := hinv
  rw [← hr_ 8 (by decide), ← hr_ 9 (by decide), ← hr_ 10 (by decide), ← hr_ 11 (by decide), ← hr_ 12 (by decide)] at hinv
  obtain ⟨⟨l8, u8⟩, ⟨l9, u9⟩, ⟨l10, u10⟩, ⟨l11, u11⟩, ⟨l12, u12⟩, ⟨l13, u13⟩, ⟨l14, u14⟩, ⟨l15, u15⟩, -⟩ := b_
  obtain ⟨f0, -⟩ := f_
  obtain ⟨T0, ⟨e1, ⟨T2, ⟨e3, ⟨T4, w_, w4⟩⟩, w2⟩⟩, w0⟩ := d_
  subst w0
  subst w2
  subst w4
  subst w_
  have g := rxdRRU_0_2 hP hin hsm_ I0 I1 hinv l8 u8 l9 u9 l10 u10 l11 u11 l12 u12 l13 u13 l14 u14 l15 u15 f0 e3 e1
  refine ⟨bx_narP_ok (l := []) g.1, ?_⟩
  show rxPSRRU S0 ws (bx_up (bx_up (bx_up T4 480 (0) (0)) 480 (1) ((-2))) 481 (2) (r_p 15)) (some (bx_num r_p (.inr (0, (0, (-2))))))
  rw [bx_xv_ok h0_]
  exact g.2
theorem rxdRRU_0_3 {S0 : Nat → Int → Int} {ws : List Int} {S : Nat → Int → Int} {pa st cu wo ne x13 x14 x15 : Int} (hP : rxPRRU S0 ws) (hin : bx_same rxL (bx_mdl rxC216.2.2.1) S0 S) (hin2 : bx_same rxL (bx_mdl rxC216.2.2.1) S (bx_up (bx_up (bx_up S 480 0 0) 480 1 ((-2))) 481 2 x15)) (I0 : bx_Inv rxL S) (I1 : bx_Inv rxL (bx_up (bx_up (bx_up S 480 0 0) 480 1 ((-2))) 481 2 x15)) (hinv : rxIRRU_0 S0 ws S pa st cu wo ne) (l8 : (-2147483648) ≤ pa) (u8 : pa ≤ (-1)) (l9 : 0 ≤ st) (u9 : st ≤ 5) (l10 : 0 ≤ cu) (u10 : cu ≤ 5) (l11 : 0 ≤ wo) (u11 : wo ≤ 9) (l12 : 0 ≤ ne) (u12 : ne ≤ 5) (l13 : 0 ≤ x13) (u13 : x13 ≤ 6) (l14 : (-2147483648) ≤ x14) (u14 : x14 ≤ 2147483647) (l15 : (-2147483648) ≤ x15) (u15 : x15 ≤ 2147483647) (e3 : (bx_up S 480 0 0) 482 0 = x13) (e1 : (bx_up (bx_up S 480 0 0) 480 1 ((-2))) 481 2 = x14) : (True) ∧ rxPSRRU S0 ws (bx_up (bx_up (bx_up S 480 0 0) 480 1 ((-2))) 481 2 x15) (some ((-2))) := by
  obtain ⟨rfl, hw⟩ := hinv
  have q0 : S 482 0 = x13 := ((bx_up_ne (by omega))).symm.trans e3
  exact ⟨trivial, pa, st, cu, wo, ne, hw, Or.inr (Or.inl ⟨by omega, by omega, by omega, by omega, by omega, by omega, by omega, by omega, by omega, rfl, fun j => (bx_up_ne (by omega)).trans ((bx_up_ne (by omega)).trans ((bx_up_ne (by omega))))⟩)⟩
theorem rxfRRU_0_3 {X : (Nat → Int → Int) → Prop} {S0 : Nat → Int → Int} {ws : List Int} (hP : rxPRRU S0 ws) : bx_obE rxL X S0 rxC216.2.2.1 (rxIRRU S0 ws) (rxPSRRU S0 ws) 0 rxzRRU_0 rxeRRU_0_3 := by
  intro S S_p r r_p hinv hX hin hsm_ hseg
  obtain ⟨I0, I1, h0_, hr_, b_, f_, d_⟩ := bx_cl (evs := [(1, (0, 481), (0, 2), .inr (0, (15, 0))), (0, (0, 481), (0, 2), .inr (0, (14, 0))), (1, (0, 480), (0, 1), .inr (0, (0, (-2)))), (0, (0, 482), (0, 0), .inr (0, (13, 0))), (1, (0, 480), (0, 0), .inr (0, (0, 0)))]) (fvs := []) hseg (by decide +kernel) (by decide +kernel)
  have hinv : rxIRRU_0 S0 ws S (r 8) (r 9) (r 10) (r 11) (r 12) := hinv
  rw [← hr_ 8 (by decide), ← hr_ 9 (by decide), ← hr_ 10 (by decide), ← hr_ 11 (by decide), ← hr_ 12 (by decide)] at hinv
  obtain ⟨⟨l8, u8⟩, ⟨l9, u9⟩, ⟨l10, u10⟩, ⟨l11, u11⟩, ⟨l12, u12⟩, ⟨l13, u13⟩, ⟨l14, u14⟩, ⟨l15, u15⟩, -⟩ := b_
  obtain ⟨T0, ⟨e1, ⟨T2, ⟨e3, ⟨T4, w_, w4⟩⟩, w2⟩⟩, w0⟩ := d_
  subst w0
  subst w2
  subst w4
  subst w_
  have g := rxdRRU_0_3 hP hin hsm_ I0 I1 hinv l8 u8 l9 u9 l10 u10 l11 u11 l12 u12 l13 u13 l14 u14 l15 u15 e3 e1
  refine ⟨bx_narP_ok (l := []) g.1, ?_⟩
  show rxPSRRU S0 ws (bx_up (bx_up (bx_up T4 480 (0) (0)) 480 (1) ((-2))) 481 (2) (r_p 15)) (some (bx_num r_p (.inr (0, (0, (-2))))))
  rw [bx_xv_ok h0_]
  exact g.2
theorem rxdRRU_0_4 {S0 : Nat → Int → Int} {ws : List Int} {S : Nat → Int → Int} {pa st cu wo ne x13 x14 : Int} (hP : rxPRRU S0 ws) (hin : bx_same rxL (bx_mdl rxC216.2.2.1) S0 S) (hin2 : bx_same rxL (bx_mdl rxC216.2.2.1) S (bx_up (bx_up (bx_up S 480 0 0) 480 1 ((-1))) 481 1 x14)) (I0 : bx_Inv rxL S) (I1 : bx_Inv rxL (bx_up (bx_up (bx_up S 480 0 0) 480 1 ((-1))) 481 1 x14)) (hinv : rxIRRU_0 S0 ws S pa st cu wo ne) (l8 : (-2147483648) ≤ pa) (u8 : pa ≤ 2147483647) (l9 : 0 ≤ st) (u9 : st ≤ 5) (l10 : 0 ≤ cu) (u10 : cu ≤ 5) (l11 : 10 ≤ wo) (u11 : wo ≤ 2147483647) (l12 : (-2147483648) ≤ ne) (u12 : ne ≤ 2147483647) (l13 : (-2147483648) ≤ x13) (u13 : x13 ≤ 2147483647) (l14 : (-2147483648) ≤ x14) (u14 : x14 ≤ 2147483647) (e1 : (bx_up (bx_up S 480 0 0) 480 1 ((-1))) 481 1 = x13) : (True) ∧ rxPSRRU S0 ws (bx_up (bx_up (bx_up S 480 0 0) 480 1 ((-1))) 481 1 x14) (some ((-1))) := by
  obtain ⟨rfl, hw⟩ := hinv
  exact ⟨trivial, pa, st, cu, wo, ne, hw, Or.inl ⟨by omega, rfl, fun j => (bx_up_ne (by omega)).trans ((bx_up_ne (by omega)).trans ((bx_up_ne (by omega))))⟩⟩
theorem rxfRRU_0_4 {X : (Nat → Int → Int) → Prop} {S0 : Nat → Int → Int} {ws : List Int} (hP : rxPRRU S0 ws) : bx_obE rxL X S0 rxC216.2.2.1 (rxIRRU S0 ws) (rxPSRRU S0 ws) 0 rxzRRU_0 rxeRRU_0_4 := by
  intro S S_p r r_p hinv hX hin hsm_ hseg
  obtain ⟨I0, I1, h0_, hr_, b_, f_, d_⟩ := bx_cl (evs := [(1, (0, 481), (0, 1), .inr (0, (14, 0))), (0, (0, 481), (0, 1), .inr (0, (13, 0))), (1, (0, 480), (0, 1), .inr (0, (0, (-1)))), (1, (0, 480), (0, 0), .inr (0, (0, 0)))]) (fvs := []) hseg (by decide +kernel) (by decide +kernel)
  have hinv : rxIRRU_0 S0 ws S (r 8) (r 9) (r 10) (r 11) (r 12) := hinv
  rw [← hr_ 8 (by decide), ← hr_ 9 (by decide), ← hr_ 10 (by decide), ← hr_ 11 (by decide), ← hr_ 12 (by decide)] at hinv
  obtain ⟨⟨l8, u8⟩, ⟨l9, u9⟩, ⟨l10, u10⟩, ⟨l11, u11⟩, ⟨l12, u12⟩, ⟨l13, u13⟩, ⟨l14, u14⟩, -⟩ := b_
  obtain ⟨T0, ⟨e1, ⟨T2, ⟨T3, w_, w3⟩, w2⟩⟩, w0⟩ := d_
  subst w0
  subst w2
  subst w3
  subst w_
  have g := rxdRRU_0_4 hP hin hsm_ I0 I1 hinv l8 u8 l9 u9 l10 u10 l11 u11 l12 u12 l13 u13 l14 u14 e1
  refine ⟨bx_narP_ok (l := []) g.1, ?_⟩
  show rxPSRRU S0 ws (bx_up (bx_up (bx_up T3 480 (0) (0)) 480 (1) ((-1))) 481 (1) (r_p 14)) (some (bx_num r_p (.inr (0, (0, (-1))))))
  rw [bx_xv_ok h0_]
  exact g.2
theorem rxdRRU_0_5 {S0 : Nat → Int → Int} {ws : List Int} {S : Nat → Int → Int} {pa st cu wo ne x13 x14 : Int} (hP : rxPRRU S0 ws) (hin : bx_same rxL (bx_mdl rxC216.2.2.1) S0 S) (hin2 : bx_same rxL (bx_mdl rxC216.2.2.1) S (bx_up (bx_up (bx_up S 480 0 0) 480 1 ((-1))) 481 1 x14)) (I0 : bx_Inv rxL S) (I1 : bx_Inv rxL (bx_up (bx_up (bx_up S 480 0 0) 480 1 ((-1))) 481 1 x14)) (hinv : rxIRRU_0 S0 ws S pa st cu wo ne) (l8 : (-2147483648) ≤ pa) (u8 : pa ≤ 2147483647) (l9 : 0 ≤ st) (u9 : st ≤ 5) (l10 : 0 ≤ cu) (u10 : cu ≤ 5) (l11 : (-2147483648) ≤ wo) (u11 : wo ≤ (-1)) (l12 : (-2147483648) ≤ ne) (u12 : ne ≤ 2147483647) (l13 : (-2147483648) ≤ x13) (u13 : x13 ≤ 2147483647) (l14 : (-2147483648) ≤ x14) (u14 : x14 ≤ 2147483647) (e1 : (bx_up (bx_up S 480 0 0) 480 1 ((-1))) 481 1 = x13) : (True) ∧ rxPSRRU S0 ws (bx_up (bx_up (bx_up S 480 0 0) 480 1 ((-1))) 481 1 x14) (some ((-1))) := by
  obtain ⟨rfl, hw⟩ := hinv
  exact ⟨trivial, pa, st, cu, wo, ne, hw, Or.inl ⟨by omega, rfl, fun j => (bx_up_ne (by omega)).trans ((bx_up_ne (by omega)).trans ((bx_up_ne (by omega))))⟩⟩
theorem rxfRRU_0_5 {X : (Nat → Int → Int) → Prop} {S0 : Nat → Int → Int} {ws : List Int} (hP : rxPRRU S0 ws) : bx_obE rxL X S0 rxC216.2.2.1 (rxIRRU S0 ws) (rxPSRRU S0 ws) 0 rxzRRU_0 rxeRRU_0_5 := by
  intro S S_p r r_p hinv hX hin hsm_ hseg
  obtain ⟨I0, I1, h0_, hr_, b_, f_, d_⟩ := bx_cl (evs := [(1, (0, 481), (0, 1), .inr (0, (14, 0))), (0, (0, 481), (0, 1), .inr (0, (13, 0))), (1, (0, 480), (0, 1), .inr (0, (0, (-1)))), (1, (0, 480), (0, 0), .inr (0, (0, 0)))]) (fvs := []) hseg (by decide +kernel) (by decide +kernel)
  have hinv : rxIRRU_0 S0 ws S (r 8) (r 9) (r 10) (r 11) (r 12) := hinv
  rw [← hr_ 8 (by decide), ← hr_ 9 (by decide), ← hr_ 10 (by decide), ← hr_ 11 (by decide), ← hr_ 12 (by decide)] at hinv
  obtain ⟨⟨l8, u8⟩, ⟨l9, u9⟩, ⟨l10, u10⟩, ⟨l11, u11⟩, ⟨l12, u12⟩, ⟨l13, u13⟩, ⟨l14, u14⟩, -⟩ := b_
  obtain ⟨T0, ⟨e1, ⟨T2, ⟨T3, w_, w3⟩, w2⟩⟩, w0⟩ := d_
  subst w0
  subst w2
  subst w3
  subst w_
  have g := rxdRRU_0_5 hP hin hsm_ I0 I1 hinv l8 u8 l9 u9 l10 u10 l11 u11 l12 u12 l13 u13 l14 u14 e1
  refine ⟨bx_narP_ok (l := []) g.1, ?_⟩
  show rxPSRRU S0 ws (bx_up (bx_up (bx_up T3 480 (0) (0)) 480 (1) ((-1))) 481 (1) (r_p 14)) (some (bx_num r_p (.inr (0, (0, (-1))))))
  rw [bx_xv_ok h0_]
  exact g.2
theorem rxdRRU_0_6 {S0 : Nat → Int → Int} {ws : List Int} {S : Nat → Int → Int} {pa st cu wo ne x13 x14 : Int} (hP : rxPRRU S0 ws) (hin : bx_same rxL (bx_mdl rxC216.2.2.1) S0 S) (hin2 : bx_same rxL (bx_mdl rxC216.2.2.1) S (bx_up (bx_up (bx_up S 480 0 0) 480 1 ((-1))) 481 1 x14)) (I0 : bx_Inv rxL S) (I1 : bx_Inv rxL (bx_up (bx_up (bx_up S 480 0 0) 480 1 ((-1))) 481 1 x14)) (hinv : rxIRRU_0 S0 ws S pa st cu wo ne) (l8 : (-2147483648) ≤ pa) (u8 : pa ≤ 2147483647) (l9 : 0 ≤ st) (u9 : st ≤ 5) (l10 : 6 ≤ cu) (u10 : cu ≤ 2147483647) (l11 : (-2147483648) ≤ wo) (u11 : wo ≤ 2147483647) (l12 : (-2147483648) ≤ ne) (u12 : ne ≤ 2147483647) (l13 : (-2147483648) ≤ x13) (u13 : x13 ≤ 2147483647) (l14 : (-2147483648) ≤ x14) (u14 : x14 ≤ 2147483647) (e1 : (bx_up (bx_up S 480 0 0) 480 1 ((-1))) 481 1 = x13) : (True) ∧ rxPSRRU S0 ws (bx_up (bx_up (bx_up S 480 0 0) 480 1 ((-1))) 481 1 x14) (some ((-1))) := by
  obtain ⟨rfl, hw⟩ := hinv
  exact ⟨trivial, pa, st, cu, wo, ne, hw, Or.inl ⟨by omega, rfl, fun j => (bx_up_ne (by omega)).trans ((bx_up_ne (by omega)).trans ((bx_up_ne (by omega))))⟩⟩
theorem rxfRRU_0_6 {X : (Nat → Int → Int) → Prop} {S0 : Nat → Int → Int} {ws : List Int} (hP : rxPRRU S0 ws) : bx_obE rxL X S0 rxC216.2.2.1 (rxIRRU S0 ws) (rxPSRRU S0 ws) 0 rxzRRU_0 rxeRRU_0_6 := by
  intro S S_p r r_p hinv hX hin hsm_ hseg
  obtain ⟨I0, I1, h0_, hr_, b_, f_, d_⟩ := bx_cl (evs := [(1, (0, 481), (0, 1), .inr (0, (14, 0))), (0, (0, 481), (0, 1), .inr (0, (13, 0))), (1, (0, 480), (0, 1), .inr (0, (0, (-1)))), (1, (0, 480), (0, 0), .inr (0, (0, 0)))]) (fvs := []) hseg (by decide +kernel) (by decide +kernel)
  have hinv : rxIRRU_0 S0 ws S (r 8) (r 9) (r 10) (r 11) (r 12) := hinv
  rw [← hr_ 8 (by decide), ← hr_ 9 (by decide), ← hr_ 10 (by decide), ← hr_ 11 (by decide), ← hr_ 12 (by decide)] at hinv
  obtain ⟨⟨l8, u8⟩, ⟨l9, u9⟩, ⟨l10, u10⟩, ⟨l11, u11⟩, ⟨l12, u12⟩, ⟨l13, u13⟩, ⟨l14, u14⟩, -⟩ := b_
  obtain ⟨T0, ⟨e1, ⟨T2, ⟨T3, w_, w3⟩, w2⟩⟩, w0⟩ := d_
  subst w0
  subst w2
  subst w3
  subst w_
  have g := rxdRRU_0_6 hP hin hsm_ I0 I1 hinv l8 u8 l9 u9 l10 u10 l11 u11 l12 u12 l13 u13 l14 u14 e1
  refine ⟨bx_narP_ok (l := []) g.1, ?_⟩
  show rxPSRRU S0 ws (bx_up (bx_up (bx_up T3 480 (0) (0)) 480 (1) ((-1))) 481 (1) (r_p 14)) (some (bx_num r_p (.inr (0, (0, (-1))))))
  rw [bx_xv_ok h0_]
  exact g.2
theorem rxdRRU_0_7 {S0 : Nat → Int → Int} {ws : List Int} {S : Nat → Int → Int} {pa st cu wo ne x13 x14 : Int} (hP : rxPRRU S0 ws) (hin : bx_same rxL (bx_mdl rxC216.2.2.1) S0 S) (hin2 : bx_same rxL (bx_mdl rxC216.2.2.1) S (bx_up (bx_up (bx_up S 480 0 0) 480 1 ((-1))) 481 1 x14)) (I0 : bx_Inv rxL S) (I1 : bx_Inv rxL (bx_up (bx_up (bx_up S 480 0 0) 480 1 ((-1))) 481 1 x14)) (hinv : rxIRRU_0 S0 ws S pa st cu wo ne) (l8 : (-2147483648) ≤ pa) (u8 : pa ≤ 2147483647) (l9 : 0 ≤ st) (u9 : st ≤ 5) (l10 : (-2147483648) ≤ cu) (u10 : cu ≤ (-1)) (l11 : (-2147483648) ≤ wo) (u11 : wo ≤ 2147483647) (l12 : (-2147483648) ≤ ne) (u12 : ne ≤ 2147483647) (l13 : (-2147483648) ≤ x13) (u13 : x13 ≤ 2147483647) (l14 : (-2147483648) ≤ x14) (u14 : x14 ≤ 2147483647) (e1 : (bx_up (bx_up S 480 0 0) 480 1 ((-1))) 481 1 = x13) : (True) ∧ rxPSRRU S0 ws (bx_up (bx_up (bx_up S 480 0 0) 480 1 ((-1))) 481 1 x14) (some ((-1))) := by
  obtain ⟨rfl, hw⟩ := hinv
  exact ⟨trivial, pa, st, cu, wo, ne, hw, Or.inl ⟨by omega, rfl, fun j => (bx_up_ne (by omega)).trans ((bx_up_ne (by omega)).trans ((bx_up_ne (by omega))))⟩⟩
theorem rxfRRU_0_7 {X : (Nat → Int → Int) → Prop} {S0 : Nat → Int → Int} {ws : List Int} (hP : rxPRRU S0 ws) : bx_obE rxL X S0 rxC216.2.2.1 (rxIRRU S0 ws) (rxPSRRU S0 ws) 0 rxzRRU_0 rxeRRU_0_7 := by
  intro S S_p r r_p hinv hX hin hsm_ hseg
  obtain ⟨I0, I1, h0_, hr_, b_, f_, d_⟩ := bx_cl (evs := [(1, (0, 481), (0, 1), .inr (0, (14, 0))), (0, (0, 481), (0, 1), .inr (0, (13, 0))), (1, (0, 480), (0, 1), .inr (0, (0, (-1)))), (1, (0, 480), (0, 0), .inr (0, (0, 0)))]) (fvs := []) hseg (by decide +kernel) (by decide +kernel)
  have hinv : rxIRRU_0 S0 ws S (r 8) (r 9) (r 10) (r 11) (r 12) := hinv
  rw [← hr_ 8 (by decide), ← hr_ 9 (by decide), ← hr_ 10 (by decide), ← hr_ 11 (by decide), ← hr_ 12 (by decide)] at hinv
  obtain ⟨⟨l8, u8⟩, ⟨l9, u9⟩, ⟨l10, u10⟩, ⟨l11, u11⟩, ⟨l12, u12⟩, ⟨l13, u13⟩, ⟨l14, u14⟩, -⟩ := b_
  obtain ⟨T0, ⟨e1, ⟨T2, ⟨T3, w_, w3⟩, w2⟩⟩, w0⟩ := d_
  subst w0
  subst w2
  subst w3
  subst w_
  have g := rxdRRU_0_7 hP hin hsm_ I0 I1 hinv l8 u8 l9 u9 l10 u10 l11 u11 l12 u12 l13 u13 l14 u14 e1
  refine ⟨bx_narP_ok (l := []) g.1, ?_⟩
  show rxPSRRU S0 ws (bx_up (bx_up (bx_up T3 480 (0) (0)) 480 (1) ((-1))) 481 (1) (r_p 14)) (some (bx_num r_p (.inr (0, (0, (-1))))))
  rw [bx_xv_ok h0_]
  exact g.2
theorem rxdRRU_0_8 {S0 : Nat → Int → Int} {ws : List Int} {S : Nat → Int → Int} {pa st cu wo ne x13 x14 : Int} (hP : rxPRRU S0 ws) (hin : bx_same rxL (bx_mdl rxC216.2.2.1) S0 S) (hin2 : bx_same rxL (bx_mdl rxC216.2.2.1) S (bx_up (bx_up (bx_up S 480 0 0) 480 1 ((-1))) 481 1 x14)) (I0 : bx_Inv rxL S) (I1 : bx_Inv rxL (bx_up (bx_up (bx_up S 480 0 0) 480 1 ((-1))) 481 1 x14)) (hinv : rxIRRU_0 S0 ws S pa st cu wo ne) (l8 : (-2147483648) ≤ pa) (u8 : pa ≤ 2147483647) (l9 : 6 ≤ st) (u9 : st ≤ 2147483647) (l10 : (-2147483648) ≤ cu) (u10 : cu ≤ 2147483647) (l11 : (-2147483648) ≤ wo) (u11 : wo ≤ 2147483647) (l12 : (-2147483648) ≤ ne) (u12 : ne ≤ 2147483647) (l13 : (-2147483648) ≤ x13) (u13 : x13 ≤ 2147483647) (l14 : (-2147483648) ≤ x14) (u14 : x14 ≤ 2147483647) (e1 : (bx_up (bx_up S 480 0 0) 480 1 ((-1))) 481 1 = x13) : (True) ∧ rxPSRRU S0 ws (bx_up (bx_up (bx_up S 480 0 0) 480 1 ((-1))) 481 1 x14) (some ((-1))) := by
  obtain ⟨rfl, hw⟩ := hinv
  exact ⟨trivial, pa, st, cu, wo, ne, hw, Or.inl ⟨by omega, rfl, fun j => (bx_up_ne (by omega)).trans ((bx_up_ne (by omega)).trans ((bx_up_ne (by omega))))⟩⟩
theorem rxfRRU_0_8 {X : (Nat → Int → Int) → Prop} {S0 : Nat → Int → Int} {ws : List Int} (hP : rxPRRU S0 ws) : bx_obE rxL X S0 rxC216.2.2.1 (rxIRRU S0 ws) (rxPSRRU S0 ws) 0 rxzRRU_0 rxeRRU_0_8 := by
  intro S S_p r r_p hinv hX hin hsm_ hseg
  obtain ⟨I0, I1, h0_, hr_, b_, f_, d_⟩ := bx_cl (evs := [(1, (0, 481), (0, 1), .inr (0, (14, 0))), (0, (0, 481), (0, 1), .inr (0, (13, 0))), (1, (0, 480), (0, 1), .inr (0, (0, (-1)))), (1, (0, 480), (0, 0), .inr (0, (0, 0)))]) (fvs := []) hseg (by decide +kernel) (by decide +kernel)
  have hinv : rxIRRU_0 S0 ws S (r 8) (r 9) (r 10) (r 11) (r 12) := hinv
  rw [← hr_ 8 (by decide), ← hr_ 9 (by decide), ← hr_ 10 (by decide), ← hr_ 11 (by decide), ← hr_ 12 (by decide)] at hinv
  obtain ⟨⟨l8, u8⟩, ⟨l9, u9⟩, ⟨l10, u10⟩, ⟨l11, u11⟩, ⟨l12, u12⟩, ⟨l13, u13⟩, ⟨l14, u14⟩, -⟩ := b_
  obtain ⟨T0, ⟨e1, ⟨T2, ⟨T3, w_, w3⟩, w2⟩⟩, w0⟩ := d_
  subst w0
  subst w2
  subst w3
  subst w_
  have g := rxdRRU_0_8 hP hin hsm_ I0 I1 hinv l8 u8 l9 u9 l10 u10 l11 u11 l12 u12 l13 u13 l14 u14 e1
  refine ⟨bx_narP_ok (l := []) g.1, ?_⟩
  show rxPSRRU S0 ws (bx_up (bx_up (bx_up T3 480 (0) (0)) 480 (1) ((-1))) 481 (1) (r_p 14)) (some (bx_num r_p (.inr (0, (0, (-1))))))
  rw [bx_xv_ok h0_]
  exact g.2
theorem rxdRRU_0_9 {S0 : Nat → Int → Int} {ws : List Int} {S : Nat → Int → Int} {pa st cu wo ne x13 x14 : Int} (hP : rxPRRU S0 ws) (hin : bx_same rxL (bx_mdl rxC216.2.2.1) S0 S) (hin2 : bx_same rxL (bx_mdl rxC216.2.2.1) S (bx_up (bx_up (bx_up S 480 0 0) 480 1 ((-1))) 481 1 x14)) (I0 : bx_Inv rxL S) (I1 : bx_Inv rxL (bx_up (bx_up (bx_up S 480 0 0) 480 1 ((-1))) 481 1 x14)) (hinv : rxIRRU_0 S0 ws S pa st cu wo ne) (l8 : (-2147483648) ≤ pa) (u8 : pa ≤ 2147483647) (l9 : (-2147483648) ≤ st) (u9 : st ≤ (-1)) (l10 : (-2147483648) ≤ cu) (u10 : cu ≤ 2147483647) (l11 : (-2147483648) ≤ wo) (u11 : wo ≤ 2147483647) (l12 : (-2147483648) ≤ ne) (u12 : ne ≤ 2147483647) (l13 : (-2147483648) ≤ x13) (u13 : x13 ≤ 2147483647) (l14 : (-2147483648) ≤ x14) (u14 : x14 ≤ 2147483647) (e1 : (bx_up (bx_up S 480 0 0) 480 1 ((-1))) 481 1 = x13) : (True) ∧ rxPSRRU S0 ws (bx_up (bx_up (bx_up S 480 0 0) 480 1 ((-1))) 481 1 x14) (some ((-1))) := by
  obtain ⟨rfl, hw⟩ := hinv
  exact ⟨trivial, pa, st, cu, wo, ne, hw, Or.inl ⟨by omega, rfl, fun j => (bx_up_ne (by omega)).trans ((bx_up_ne (by omega)).trans ((bx_up_ne (by omega))))⟩⟩
theorem rxfRRU_0_9 {X : (Nat → Int → Int) → Prop} {S0 : Nat → Int → Int} {ws : List Int} (hP : rxPRRU S0 ws) : bx_obE rxL X S0 rxC216.2.2.1 (rxIRRU S0 ws) (rxPSRRU S0 ws) 0 rxzRRU_0 rxeRRU_0_9 := by
  intro S S_p r r_p hinv hX hin hsm_ hseg
  obtain ⟨I0, I1, h0_, hr_, b_, f_, d_⟩ := bx_cl (evs := [(1, (0, 481), (0, 1), .inr (0, (14, 0))), (0, (0, 481), (0, 1), .inr (0, (13, 0))), (1, (0, 480), (0, 1), .inr (0, (0, (-1)))), (1, (0, 480), (0, 0), .inr (0, (0, 0)))]) (fvs := []) hseg (by decide +kernel) (by decide +kernel)
  have hinv : rxIRRU_0 S0 ws S (r 8) (r 9) (r 10) (r 11) (r 12) := hinv
  rw [← hr_ 8 (by decide), ← hr_ 9 (by decide), ← hr_ 10 (by decide), ← hr_ 11 (by decide), ← hr_ 12 (by decide)] at hinv
  obtain ⟨⟨l8, u8⟩, ⟨l9, u9⟩, ⟨l10, u10⟩, ⟨l11, u11⟩, ⟨l12, u12⟩, ⟨l13, u13⟩, ⟨l14, u14⟩, -⟩ := b_
  obtain ⟨T0, ⟨e1, ⟨T2, ⟨T3, w_, w3⟩, w2⟩⟩, w0⟩ := d_
  subst w0
  subst w2
  subst w3
  subst w_
  have g := rxdRRU_0_9 hP hin hsm_ I0 I1 hinv l8 u8 l9 u9 l10 u10 l11 u11 l12 u12 l13 u13 l14 u14 e1
  refine ⟨bx_narP_ok (l := []) g.1, ?_⟩
  show rxPSRRU S0 ws (bx_up (bx_up (bx_up T3 480 (0) (0)) 480 (1) ((-1))) 481 (1) (r_p 14)) (some (bx_num r_p (.inr (0, (0, (-1))))))
  rw [bx_xv_ok h0_]
  exact g.2
theorem rxdRRU_2_0 {S0 : Nat → Int → Int} {ws : List Int} {S : Nat → Int → Int} {pa st cu wo ne ax vx res : Int} (hP : rxPRRU S0 ws) (hin : bx_same rxL (bx_mdl rxC216.2.2.1) S0 S) (hin2 : bx_same rxL (bx_mdl rxC216.2.2.1) S S) (I0 : bx_Inv rxL S) (I1 : bx_Inv rxL S) (hinv : rxIRRU_2 S0 ws S pa st cu wo ne ax vx res) (l8 : 0 ≤ pa) (u8 : pa ≤ 5) (l9 : 0 ≤ st) (u9 : st ≤ 5) (l10 : 0 ≤ cu) (u10 : cu ≤ 5) (l11 : 0 ≤ wo) (u11 : wo ≤ 9) (l12 : 0 ≤ ne) (u12 : ne ≤ 5) (l13 : 0 ≤ ax) (u13 : ax ≤ 35) (l14 : 0 ≤ vx) (u14 : vx ≤ 59) (l15 : (-1) ≤ res) (u15 : res ≤ 9) : (True) ∧ rxPSRRU S0 ws S (some res) := by
  obtain ⟨hw, ⟨i0, i1, i2, i3, i4, i5, i6, i7⟩, hp, hr, hv, hf⟩ := hinv
  exact ⟨trivial, pa, st, cu, wo, ne, hw, Or.inr (Or.inr ⟨i0, i1, i2, i3, i4, i5, i6, i7, by omega, hp, congrArg some hr, (rfl).trans hv, fun j a => (rfl).trans (hf j a)⟩)⟩
theorem rxfRRU_2_0 {X : (Nat → Int → Int) → Prop} {S0 : Nat → Int → Int} {ws : List Int} (hP : rxPRRU S0 ws) : bx_obE rxL X S0 rxC216.2.2.1 (rxIRRU S0 ws) (rxPSRRU S0 ws) 2 rxzRRU_2 rxeRRU_2_0 := by
  intro S S_p r r_p hinv hX hin hsm_ hseg
  obtain ⟨I0, I1, h0_, hr_, b_, f_, d_⟩ := bx_cl (evs := []) (fvs := []) hseg (by decide +kernel) (by decide +kernel)
  have hinv : rxIRRU_2 S0 ws S (r 8) (r 9) (r 10) (r 11) (r 12) (r 13) (r 14) (r 15) := hinv
  rw [← hr_ 8 (by decide), ← hr_ 9 (by decide), ← hr_ 10 (by decide), ← hr_ 11 (by decide), ← hr_ 12 (by decide), ← hr_ 13 (by decide), ← hr_ 14 (by decide), ← hr_ 15 (by decide)] at hinv
  obtain ⟨⟨l8, u8⟩, ⟨l9, u9⟩, ⟨l10, u10⟩, ⟨l11, u11⟩, ⟨l12, u12⟩, ⟨l13, u13⟩, ⟨l14, u14⟩, ⟨l15, u15⟩, -⟩ := b_
  have w_ := d_
  subst w_
  have g := rxdRRU_2_0 hP hin hsm_ I0 I1 hinv l8 u8 l9 u9 l10 u10 l11 u11 l12 u12 l13 u13 l14 u14 l15 u15
  refine ⟨bx_narP_ok (l := []) g.1, ?_⟩
  show rxPSRRU S0 ws S_p (some (bx_num r_p (.inr (0, (15, 0)))))
  rw [bx_xv_ok h0_]
  exact g.2
theorem rxgCRRU {X : (Nat → Int → Int) → Prop} {S0 : Nat → Int → Int} {ws : List Int} (hP : rxPRRU S0 ws) : bx_allI (fun i q => rxURRU q = true ∨ bx_allP (fun o => bx_obC rxL X S0 rxC216.2.2.1 (rxIRRU S0 ws) (rxmRRU S0 ws) i q.1 o) q.2.1) 0 rxYRRU := ⟨Or.inr ⟨rxgRRU_0_0 hP, trivial⟩, Or.inl rfl, Or.inr trivial, trivial⟩
theorem rxgERRU {X : (Nat → Int → Int) → Prop} {S0 : Nat → Int → Int} {ws : List Int} (hP : rxPRRU S0 ws) : bx_allI (fun i q => rxURRU q = true ∨ bx_allP (fun E => bx_obE rxL X S0 rxC216.2.2.1 (rxIRRU S0 ws) (rxPSRRU S0 ws) i q.1 E) q.2.2) 0 rxYRRU := ⟨Or.inr ⟨rxfRRU_0_0 hP, rxfRRU_0_1 hP, rxfRRU_0_2 hP, rxfRRU_0_3 hP, rxfRRU_0_4 hP, rxfRRU_0_5 hP, rxfRRU_0_6 hP, rxfRRU_0_7 hP, rxfRRU_0_8 hP, rxfRRU_0_9 hP, trivial⟩, Or.inl rfl, Or.inr ⟨rxfRRU_2_0 hP, trivial⟩, trivial⟩
theorem rxuRRU {PX : State → Prop} {Dg : va_G} {A : Nat → Prop} {ad xa : Nat → Nat} {l : Launch} {X : (Nat → Int → Int) → Prop} (hPX : rx_PXOK rxNW A PX) (hX : ∀ S S1 : Nat → Int → Int, X S → bx_same rxL (bx_mdl rxC216.2.2.1) S S1 → X S1) (hQCHG : bx_ConP rxG rxNW rxAO PX Dg rxL X vwCl A ad l rxM259 rxCCHG rxPCHG rxPSCHG) {S0 : Nat → Int → Int} {ws : List Int} (hP : rxPRRU S0 ws) : ∀ (i : Nat) (q : bx_HE), rxYRRU[i]? = some q → rxURRU q = true → ∀ {p : Program} {e : Env} {R : Room} {s : State} {m : MethodId} {args : Array Value} {below : List Frame} {meth : Method} {c : Code} {Q : State → Prop} {H0 : Heap}, rx_Fr rxG rxNW rxAO PX p s m args meth c rxM216 → (∀ q, H0.size ≤ q → A q) → H0 = s.heap → rxM216.2.2.2.2.2.2.1 ≤ R.cells → rxM216.2.2.2.2.2.2.2 ≤ R.slots → rxC216.2.2.2.1 ≤ R.frames → rxC216.2.2.2.1 * 40 ≤ R.locals → bx_Step p l e R s m args below meth c Q Dg rxL X vwCl A xa H0 ad rxM216 rxYRRU (rxIRRU S0 ws) (rxmRRU S0 ws) S0 rxC216.2.2.1 i q := by
  intro i q hq hus p e R s m args below meth c Q H0 hF hA hH0 hmc hms hd hdl
  match i, hq with
  | 0, hq =>
    cases hq
    exact absurd (show false = true from hus) Bool.false_ne_true
  | 1, hq =>
    cases hq
    exact rx_stepC (ins := .invokevirtual 208) (len := 3) (i_p := 2) (M_p := rxM259) (d := rxC216.2.2.2.1) (as := [.inr (3, (0, 480)), .inr (0, (8, 0)), .inr (0, (13, 0)), .inr (0, (14, 0))]) (t := []) (ct := rxCCHG) hPX hF rfl hA hH0 hmc hms hd hdl (by decide +kernel) rfl rfl (by decide +kernel) (by decide +kernel) hQCHG (by decide +kernel) rfl (Or.inr ⟨_, _, _, 1, rfl, rfl, by omega, rfl, rfl, rfl⟩) (rxsRRU_1 hP)
  | 2, hq =>
    cases hq
    exact absurd (show false = true from hus) Bool.false_ne_true
  | n + 3, hq => cases hq
theorem rxQRRU {PX : State → Prop} {Dg : va_G} {A : Nat → Prop} {ad xa : Nat → Nat} {l : Launch} {X : (Nat → Int → Int) → Prop} (hPX : rx_PXOK rxNW A PX) (hsl : ∀ s : State, PX s → ∀ o idx n : Nat, rxSl o idx = some n → ∃ tx : String, vk_R (rxNm o) idx tx (ad n) s)
    (hX : ∀ S S_p : Nat → Int → Int, X S → bx_same rxL (bx_mdl rxC216.2.2.1) S S_p → X S_p)
    (ih : ∀ (j2 : Nat) (ct2 : bx_Ct) (M2 : rx_Mt), ct2 ∈ rxCnE j2 → ct2.2.2.2.1 + 1 ≤ rxC216.2.2.2.1 → rxT.2.2.2.2.2 j2 = some M2 → bx_Con rxG rxNW rxAO PX Dg rxL X vwCl A ad l M2 ct2) (hQCHG : bx_ConP rxG rxNW rxAO PX Dg rxL X vwCl A ad l rxM259 rxCCHG rxPCHG rxPSCHG) : bx_ConP rxG rxNW rxAO PX Dg rxL X vwCl A ad l rxM216 rxC216 rxPRRU rxPSRRU :=
  rxQof (xa := xa) (Cn := rxCnE) (f := 30000) (j := 216) (tab := rxYRRU) (us := rxURRU) hPX hsl hX ih rfl rxYcRRU rxIRRU rxmRRU
    (fun S0 ws r I0 I ht0 ht as he he1 hX0 hI0 hP hs ha => by
      have e := he.symm.trans (show bx_ent0 rxNP rxC216.1 bx_I0 [] = some ([(0, 0), (0, 0), (0, 0), (0, 0), (0, 0), (0, 0), (0, 0), (0, 0), ((-2147483648), 2147483647), ((-2147483648), 2147483647), ((-2147483648), 2147483647), ((-2147483648), 2147483647), ((-2147483648), 2147483647)], [], [.inr (3, (0, 480)), .inr (0, (8, 0)), .inr (0, (9, 0)), .inr (0, (10, 0)), .inr (0, (11, 0)), .inr (0, (12, 0))]) from rfl)
      cases e
      subst ha
      have h0 : r 0 = 0 := hs.1
      show rxIRRU_0 S0 _ S0 (r 8) (r 9) (r 10) (r 11) (r 12)
      refine ⟨rfl, ?_⟩
      simp only [List.map_cons, List.map_nil, bx_xv_ok h0]
      rfl)
    (fun S0 ws hP => rxuRRU (xa := xa) hPX hX hQCHG hP) (fun S0 ws hP => rxgCRRU hP) (fun S0 ws hP => rxgERRU hP)
noncomputable def rxIRHU_0 (S0 : Nat → Int → Int) (ws : List Int) (S : Nat → Int → Int) (pa st cu : Int) : Prop := S = S0 ∧ ws = [480, pa, st, cu]
noncomputable def rxmRHU_0 (S0 : Nat → Int → Int) (ws : List Int) (S : Nat → Int → Int) (pa st cu : Int) : Nat := 100
noncomputable def rxzRHU_0 : rx_Z := ([(0, 0), (0, 0), (0, 0), (0, 0), (0, 0), (0, 0), (0, 0), (0, 0), ((-2147483648), 2147483647), ((-2147483648), 2147483647), ((-2147483648), 2147483647)], [], [], 0, 0, 0, [(0, .inr (3, (0, 480))), (1, .inr (0, (8, 0))), (2, .inr (0, (9, 0))), (3, .inr (0, (10, 0)))], [])
noncomputable def rxIRHU_1 (S0 : Nat → Int → Int) (ws : List Int) (S : Nat → Int → Int) (pa st cu ax : Int) : Prop := ws = [480, pa, st, cu] ∧ (0 ≤ st ∧ st ≤ 5 ∧ 0 ≤ cu ∧ cu ≤ 5) ∧ pa < S0 482 0 ∧ ax = 6 * st + cu ∧ (∀ j : Int, S 482 j = S0 482 j)
noncomputable def rxmRHU_1 (S0 : Nat → Int → Int) (ws : List Int) (S : Nat → Int → Int) (pa st cu ax : Int) : Nat := 90
noncomputable def rxzRHU_1 : rx_Z := ([(0, 0), (0, 0), (0, 0), (0, 0), (0, 0), (0, 0), (0, 0), (0, 0), (0, 5), (0, 5), (0, 5), (0, 35)], [], [], 0, 0, 36, [(0, .inr (3, (0, 480))), (1, .inr (0, (8, 0))), (2, .inr (0, (9, 0))), (3, .inr (0, (10, 0)))], [.inr (0, (0, (-1))), .inr (0, (11, 0)), .inr (0, (8, 0)), .inr (3, (0, 480))])
noncomputable def rxIRHU_2 (S0 : Nat → Int → Int) (ws : List Int) (S : Nat → Int → Int) (pa st cu ax res : Int) : Prop := ws = [480, pa, st, cu] ∧ (0 ≤ st ∧ st ≤ 5 ∧ 0 ≤ cu ∧ cu ≤ 5) ∧ pa < S0 482 0 ∧ res = rjWo (S0 482 (22 + 36 * pa + (6 * st + cu))) ∧ S 482 (22 + 36 * pa + (6 * st + cu)) = -1 ∧ (∀ j : Int, j ≠ (22 + 36 * pa + (6 * st + cu)) → S 482 j = S0 482 j)
noncomputable def rxmRHU_2 (S0 : Nat → Int → Int) (ws : List Int) (S : Nat → Int → Int) (pa st cu ax res : Int) : Nat := 80
noncomputable def rxzRHU_2 : rx_Z := ([(0, 0), (0, 0), (0, 0), (0, 0), (0, 0), (0, 0), (0, 0), (0, 0), (0, 5), (0, 5), (0, 5), (0, 35), ((-1), 9)], [], [], 0, 0, 39, [(0, .inr (3, (0, 480))), (1, .inr (0, (8, 0))), (2, .inr (0, (9, 0))), (3, .inr (0, (10, 0)))], [.inr (0, (12, 0))])
noncomputable def rxoRHU_0_0 : bx_HO := (([(0, 0), (0, 0), (0, 0), (0, 0), (0, 0), (0, 0), (0, 0), (0, 0), (0, 5), (0, 5), (0, 5), (1, 6), (0, 30), (0, 35)], [(604462909807314587353098000000, (13, 0), (12, 0)), (10, (12, 0), (9, 0)), (1, (8, 0), (11, (-1)))], [(((0, 0), 1851192626986356797424340330377019318111018015026043177837658112000000), .inr (0, (11, 0))), (((0, 482), 0), .inr (0, (11, 0))), (((0, 480), 3), .inr (3, (0, 482))), (((0, 0), 1851192626986356797424340330377019318111018015026043177836478467000000), .inr (0, (0, 0))), (((0, 480), 0), .inr (0, (0, 0)))], 0, 0, 36, [(0, .inr (3, (0, 480))), (1, .inr (0, (8, 0))), (2, .inr (0, (9, 0))), (3, .inr (0, (10, 0)))], [.inr (0, (0, (-1))), .inr (0, (13, 0)), .inr (0, (8, 0)), .inr (3, (0, 480))]), [], [], [(0, 0), (0, 0), (0, 0), (0, 0), (0, 0), (0, 0), (0, 0), (0, 0), (8, 0), (9, 0), (10, 0), (13, 0)], 1)
noncomputable def rxeRHU_0_0 : rx_End × List (Nat × Int × Int) := (([(0, 0), (0, 0), (0, 0), (0, 0), (0, 0), (0, 0), (0, 0), (0, 0), (0, 2147483647), (0, 5), (0, 5), (0, 6), ((-2147483648), 2147483647), ((-2147483648), 2147483647)], [(0, (11, (-1)), (8, 0))], [(((0, 0), 1851192626986356797825753743950570534658660943933713684944715779000000), .inr (0, (13, 0))), (((0, 481), 2), .inr (0, (13, 0))), (((0, 0), 1851192626986356797825753743950570534658660943933713684944715776000000), .inr (0, (12, 0))), (((0, 480), 2), .inr (3, (0, 481))), (((0, 0), 1851192626986356797625047037163794926384839479479878431390302211000000), .inr (0, (0, (-2)))), (((0, 480), 1), .inr (0, (0, (-2)))), (((0, 0), 1851192626986356797424340330377019318111018015026043177837658112000000), .inr (0, (11, 0))), (((0, 482), 0), .inr (0, (11, 0))), (((0, 480), 3), .inr (3, (0, 482))), (((0, 0), 1851192626986356797424340330377019318111018015026043177836478467000000), .inr (0, (0, 0))), (((0, 480), 0), .inr (0, (0, 0)))], some (.inr (0, (0, (-2))))), [])
noncomputable def rxeRHU_0_1 : rx_End × List (Nat × Int × Int) := (([(0, 0), (0, 0), (0, 0), (0, 0), (0, 0), (0, 0), (0, 0), (0, 0), ((-2147483648), (-1)), (0, 5), (0, 5), (0, 6), ((-2147483648), 2147483647), ((-2147483648), 2147483647)], [], [(((0, 0), 1851192626986356797825753743950570534658660943933713684944715779000000), .inr (0, (13, 0))), (((0, 481), 2), .inr (0, (13, 0))), (((0, 0), 1851192626986356797825753743950570534658660943933713684944715776000000), .inr (0, (12, 0))), (((0, 480), 2), .inr (3, (0, 481))), (((0, 0), 1851192626986356797625047037163794926384839479479878431390302211000000), .inr (0, (0, (-2)))), (((0, 480), 1), .inr (0, (0, (-2)))), (((0, 0), 1851192626986356797424340330377019318111018015026043177837658112000000), .inr (0, (11, 0))), (((0, 482), 0), .inr (0, (11, 0))), (((0, 480), 3), .inr (3, (0, 482))), (((0, 0), 1851192626986356797424340330377019318111018015026043177836478467000000), .inr (0, (0, 0))), (((0, 480), 0), .inr (0, (0, 0)))], some (.inr (0, (0, (-2))))), [])
noncomputable def rxeRHU_0_2 : rx_End × List (Nat × Int × Int) := (([(0, 0), (0, 0), (0, 0), (0, 0), (0, 0), (0, 0), (0, 0), (0, 0), ((-2147483648), 2147483647), (0, 5), (6, 2147483647), ((-2147483648), 2147483647), ((-2147483648), 2147483647)], [], [(((0, 0), 1851192626986356797625047037163794926384839479479878431390892035000000), .inr (0, (12, 0))), (((0, 481), 1), .inr (0, (12, 0))), (((0, 0), 1851192626986356797625047037163794926384839479479878431390892032000000), .inr (0, (11, 0))), (((0, 480), 2), .inr (3, (0, 481))), (((0, 0), 1851192626986356797625047037163794926384839479479878431390302211000000), .inr (0, (0, (-1)))), (((0, 480), 1), .inr (0, (0, (-1)))), (((0, 0), 1851192626986356797424340330377019318111018015026043177836478467000000), .inr (0, (0, 0))), (((0, 480), 0), .inr (0, (0, 0)))], some (.inr (0, (0, (-1))))), [])
noncomputable def rxeRHU_0_3 : rx_End × List (Nat × Int × Int) := (([(0, 0), (0, 0), (0, 0), (0, 0), (0, 0), (0, 0), (0, 0), (0, 0), ((-2147483648), 2147483647), (0, 5), ((-2147483648), (-1)), ((-2147483648), 2147483647), ((-2147483648), 2147483647)], [], [(((0, 0), 1851192626986356797625047037163794926384839479479878431390892035000000), .inr (0, (12, 0))), (((0, 481), 1), .inr (0, (12, 0))), (((0, 0), 1851192626986356797625047037163794926384839479479878431390892032000000), .inr (0, (11, 0))), (((0, 480), 2), .inr (3, (0, 481))), (((0, 0), 1851192626986356797625047037163794926384839479479878431390302211000000), .inr (0, (0, (-1)))), (((0, 480), 1), .inr (0, (0, (-1)))), (((0, 0), 1851192626986356797424340330377019318111018015026043177836478467000000), .inr (0, (0, 0))), (((0, 480), 0), .inr (0, (0, 0)))], some (.inr (0, (0, (-1))))), [])
noncomputable def rxeRHU_0_4 : rx_End × List (Nat × Int × Int) := (([(0, 0), (0, 0), (0, 0), (0, 0), (0, 0), (0, 0), (0, 0), (0, 0), ((-2147483648), 2147483647), (6, 2147483647), ((-2147483648), 2147483647), ((-2147483648), 2147483647), ((-2147483648), 2147483647)], [], [(((0, 0), 1851192626986356797625047037163794926384839479479878431390892035000000), .inr (0, (12, 0))), (((0, 481), 1), .inr (0, (12, 0))), (((0, 0), 1851192626986356797625047037163794926384839479479878431390892032000000), .inr (0, (11, 0))), (((0, 480), 2), .inr (3, (0, 481))), (((0, 0), 1851192626986356797625047037163794926384839479479878431390302211000000), .inr (0, (0, (-1)))), (((0, 480), 1), .inr (0, (0, (-1)))), (((0, 0), 1851192626986356797424340330377019318111018015026043177836478467000000), .inr (0, (0, 0))), (((0, 480), 0), .inr (0, (0, 0)))], some (.inr (0, (0, (-1))))), [])
noncomputable def rxeRHU_0_5 : rx_End × List (Nat × Int × Int) := (([(0, 0), (0, 0), (0, 0), (0, 0), (0, 0), (0, 0), (0, 0), (0, 0), ((-2147483648), 2147483647), ((-2147483648), (-1)), ((-2147483648), 2147483647), ((-2147483648), 2147483647), ((-2147483648), 2147483647)], [], [(((0, 0), 1851192626986356797625047037163794926384839479479878431390892035000000), .inr (0, (12, 0))), (((0, 481), 1), .inr (0, (12, 0))), (((0, 0), 1851192626986356797625047037163794926384839479479878431390892032000000), .inr (0, (11, 0))), (((0, 480), 2), .inr (3, (0, 481))), (((0, 0), 1851192626986356797625047037163794926384839479479878431390302211000000), .inr (0, (0, (-1)))), (((0, 480), 1), .inr (0, (0, (-1)))), (((0, 0), 1851192626986356797424340330377019318111018015026043177836478467000000), .inr (0, (0, 0))), (((0, 480), 0), .inr (0, (0, 0)))], some (.inr (0, (0, (-1))))), [])
noncomputable def rxeRHU_2_0 : rx_End × List (Nat × Int × Int) := (([(0, 0), (0, 0), (0, 0), (0, 0), (0, 0), (0, 0), (0, 0), (0, 0), (0, 5), (0, 5), (0, 5), (0, 35), ((-1), 9)], [], [], some (.inr (0, (12, 0)))), [])
noncomputable def rxYRHU : List bx_HE := [(rxzRHU_0, [rxoRHU_0_0], [rxeRHU_0_0, rxeRHU_0_1, rxeRHU_0_2, rxeRHU_0_3, rxeRHU_0_4, rxeRHU_0_5]), (rxzRHU_1, [], []), (rxzRHU_2, [], [rxeRHU_2_0])]
noncomputable def rxURHU (q : bx_HE) : Bool := Nat.beq (rx_zpc q.1) 36
noncomputable def rxYBRHU : bx_B := (rxV, rxNP, rxDmf, bx_mdH rxC218.2.2.1)
set_option maxRecDepth 100000 in
theorem rxYcRHU : bx_chkH rxYBRHU rxM218 rxC218 rxYRHU (rxURHU, fun cut z => rx_ex2 (rxCT rxYBRHU rxCnE) cut 30000 rxC218.2.2.2.1 218 z) = true := by decide +kernel
noncomputable def rxIRHU (S0 : Nat → Int → Int) (ws : List Int) (i : Nat) : bx_SP := fun S r => match i with | 0 => rxIRHU_0 S0 ws S (r 8) (r 9) (r 10) | 1 => rxIRHU_1 S0 ws S (r 8) (r 9) (r 10) (r 11) | 2 => rxIRHU_2 S0 ws S (r 8) (r 9) (r 10) (r 11) (r 12) | _ => False
noncomputable def rxmRHU (S0 : Nat → Int → Int) (ws : List Int) (i : Nat) (S : Nat → Int → Int) (r : Nat → Int) : Nat := match i with | 0 => rxmRHU_0 S0 ws S (r 8) (r 9) (r 10) | 1 => rxmRHU_1 S0 ws S (r 8) (r 9) (r 10) (r 11) | 2 => rxmRHU_2 S0 ws S (r 8) (r 9) (r 10) (r 11) (r 12) | _ => 0
noncomputable def rxPRHU (S0 : Nat → Int → Int) (ws : List Int) : Prop := True
noncomputable def rxPSRHU (S0 : Nat → Int → Int) (ws : List Int) (S : Nat → Int → Int) (w : Option Int) : Prop := ∃ pa st cu : Int, ws = [480, pa, st, cu] ∧ (((st < 0 ∨ 5 < st ∨ cu < 0 ∨ 5 < cu) ∧ w = some (-1) ∧ (∀ j : Int, S 482 j = S0 482 j)) ∨ (0 ≤ st ∧ st ≤ 5 ∧ 0 ≤ cu ∧ cu ≤ 5 ∧ (pa < 0 ∨ S0 482 0 ≤ pa) ∧ w = some (-2) ∧ (∀ j : Int, S 482 j = S0 482 j)) ∨ (0 ≤ st ∧ st ≤ 5 ∧ 0 ≤ cu ∧ cu ≤ 5 ∧ 0 ≤ pa ∧ pa < S0 482 0 ∧ w = some (rjWo (S0 482 (22 + 36 * pa + (6 * st + cu)))) ∧ S 482 (22 + 36 * pa + (6 * st + cu)) = -1 ∧ (∀ j : Int, j ≠ (22 + 36 * pa + (6 * st + cu)) → S 482 j = S0 482 j)))
theorem rxkRHU_1 {S0 : Nat → Int → Int} {ws : List Int} {S : Nat → Int → Int} {pa st cu ax : Int} (hP : rxPRHU S0 ws) (hin : bx_same rxL (bx_mdl rxC218.2.2.1) S0 S) (I0 : bx_Inv rxL S) (hinv : rxIRHU_1 S0 ws S pa st cu ax) (l8 : 0 ≤ pa) (u8 : pa ≤ 5) (l9 : 0 ≤ st) (u9 : st ≤ 5) (l10 : 0 ≤ cu) (u10 : cu ≤ 5) (l11 : 0 ≤ ax) (u11 : ax ≤ 35) : rxPCHG S [480, pa, ax, (-1)] ∧ ∀ (S_p : Nat → Int → Int) (res : Int), (-1) ≤ res → res ≤ 9 → rxPSCHG S [480, pa, ax, (-1)] S_p (some res) → bx_Inv rxL S_p → bx_same rxL (bx_mdl rxCCHG.2.2.1) S S_p → rxIRHU_2 S0 ws S_p pa st cu ax res ∧ rxmRHU_2 S0 ws S_p pa st cu ax res < rxmRHU_1 S0 ws S pa st cu ax := by
  obtain ⟨hw, hi, hp, hax, hf⟩ := hinv
  refine ⟨trivial, fun S_p res _ _ hq _ hsm => ⟨?_, by unfold rxmRHU_1 rxmRHU_2; omega⟩⟩
  obtain ⟨p2, a2, v2, hw3, hr, hv, hg⟩ := hq
  have k1 : pa = p2 := Option.some.inj (congrArg (fun l : List Int => l[1]?) hw3)
  have k2 : ax = a2 := Option.some.inj (congrArg (fun l : List Int => l[2]?) hw3)
  have k3 : (-1 : Int) = v2 := Option.some.inj (congrArg (fun l : List Int => l[3]?) hw3)
  subst k1
  subst k2
  subst k3
  subst hax
  rw [hf] at hr
  exact ⟨hw, hi, hp, Option.some.inj hr, hv, fun j a => (hg j a).trans (hf j)⟩
theorem rxsRHU_1 {X : (Nat → Int → Int) → Prop} {S0 : Nat → Int → Int} {ws : List Int} (hP : rxPRHU S0 ws) : rx_obK X S0 rxC218.2.2.1 rxCCHG.2.2.1 (rxIRHU S0 ws) (rxmRHU S0 ws) 1 2 rxzRHU_1 rxzRHU_2 [.inr (3, (0, 480)), .inr (0, (8, 0)), .inr (0, (11, 0)), .inr (0, (0, (-1)))] (some 12) rxPCHG rxPSCHG := by
  intro S r hinv hXS I0 hin hs_ hf_
  have b_ := bx_bds_sat hs_
  have f_ := bx_fcl_ok hs_.1 hf_
  obtain ⟨⟨l8, u8⟩, ⟨l9, u9⟩, ⟨l10, u10⟩, ⟨l11, u11⟩, -⟩ := b_
  have g := rxkRHU_1 hP hin I0 hinv l8 u8 l9 u9 l10 u10 l11 u11
  have ea : List.map (bx_num r) [.inr (3, (0, 480)), .inr (0, (8, 0)), .inr (0, (11, 0)), .inr (0, (0, (-1)))] = [480, (r 8), (r 11), -1] := by
    simp only [List.map_cons, List.map_nil, bx_xv_ok hs_.1]
    rfl
  rw [ea]
  refine ⟨g.1, fun S_p w r_p hPS hX_p I1 hsm hr hw hs_p => ?_⟩
  have hw := hw _ rfl
  subst hw
  have b_p := hs_p.2.2 12 _ _ rfl
  have g2 := g.2 S_p (r_p 12) b_p.1 b_p.2 hPS I1 hsm
  show rxIRHU_2 S0 ws S_p (r_p 8) (r_p 9) (r_p 10) (r_p 11) (r_p 12) ∧ rxmRHU_2 S0 ws S_p (r_p 8) (r_p 9) (r_p 10) (r_p 11) (r_p 12) < _
  rw [hr 8 (by decide), hr 9 (by decide), hr 10 (by decide), hr 11 (by decide)]
  exact g2
theorem rxcRHU_0_0 {S0 : Nat → Int → Int} {ws : List Int} {S : Nat → Int → Int} {pa st cu x11 x12 x13 : Int} (hP : rxPRHU S0 ws) (hin : bx_same rxL (bx_mdl rxC218.2.2.1) S0 S) (I0 : bx_Inv rxL S) (hinv : rxIRHU_0 S0 ws S pa st cu) (l8 : 0 ≤ pa) (u8 : pa ≤ 5) (l9 : 0 ≤ st) (u9 : st ≤ 5) (l10 : 0 ≤ cu) (u10 : cu ≤ 5) (l11 : 1 ≤ x11) (u11 : x11 ≤ 6) (l12 : 0 ≤ x12) (u12 : x12 ≤ 30) (l13 : 0 ≤ x13) (u13 : x13 ≤ 35) (f0 : x13 = x12 + cu) (f1 : x12 = 6 * (st)) (f2 : pa ≤ x11 + (-1)) (e0 : (bx_up S 480 0 0) 482 0 = x11) : (True) ∧ (True) ∧ rxIRHU_1 S0 ws (bx_up S 480 0 0) pa st cu x13 ∧ rxmRHU_1 S0 ws (bx_up S 480 0 0) pa st cu x13 < rxmRHU_0 S0 ws S pa st cu := by
  obtain ⟨rfl, hw⟩ := hinv
  have q0 : S 482 0 = x11 := ((bx_up_ne (by omega))).symm.trans e0
  exact ⟨trivial, trivial, ⟨hw, ⟨by omega, by omega, by omega, by omega⟩, by omega, by omega, fun j => (bx_up_ne (by omega))⟩, by unfold rxmRHU_0 rxmRHU_1; omega⟩
theorem rxgRHU_0_0 {X : (Nat → Int → Int) → Prop} {S0 : Nat → Int → Int} {ws : List Int} (hP : rxPRHU S0 ws) : bx_obC rxL X S0 rxC218.2.2.1 (rxIRHU S0 ws) (rxmRHU S0 ws) 0 rxzRHU_0 rxoRHU_0_0 := by
  intro S S_p r r_p hinv hX hin hsm_ hseg
  obtain ⟨I0, I1, h0_, hr_, b_, f_, d_⟩ := bx_cl (evs := [(0, (0, 482), (0, 0), .inr (0, (11, 0))), (1, (0, 480), (0, 0), .inr (0, (0, 0)))]) (fvs := [(5, (13, 0), (12, 0), (10, 0)), (4, (12, 0), (9, 0), (0, 6)), (1, (8, 0), (11, (-1)), (0, 0))]) hseg (by decide +kernel) (by decide +kernel)
  have hinv : rxIRHU_0 S0 ws S (r 8) (r 9) (r 10) := hinv
  rw [← hr_ 8 (by decide), ← hr_ 9 (by decide), ← hr_ 10 (by decide)] at hinv
  obtain ⟨⟨l8, u8⟩, ⟨l9, u9⟩, ⟨l10, u10⟩, ⟨l11, u11⟩, ⟨l12, u12⟩, ⟨l13, u13⟩, -⟩ := b_
  obtain ⟨f0, f1, f2, -⟩ := f_
  obtain ⟨e0, ⟨T1, w_, w1⟩⟩ := d_
  subst w1
  subst w_
  have g := rxcRHU_0_0 hP hin I0 hinv l8 u8 l9 u9 l10 u10 l11 u11 l12 u12 l13 u13 f0 f1 f2 e0
  refine ⟨bx_narP_ok (l := []) g.1, bx_nfP_ok h0_ (fvs := []) (by decide +kernel) g.2.1, ?_, ?_⟩
  · show rxIRHU_1 S0 ws (bx_up T1 480 (0) (0)) (bx_val [(0, 0), (0, 0), (0, 0), (0, 0), (0, 0), (0, 0), (0, 0), (0, 0), (8, 0), (9, 0), (10, 0), (13, 0)] r_p 8) (bx_val [(0, 0), (0, 0), (0, 0), (0, 0), (0, 0), (0, 0), (0, 0), (0, 0), (8, 0), (9, 0), (10, 0), (13, 0)] r_p 9) (bx_val [(0, 0), (0, 0), (0, 0), (0, 0), (0, 0), (0, 0), (0, 0), (0, 0), (8, 0), (9, 0), (10, 0), (13, 0)] r_p 10) (bx_val [(0, 0), (0, 0), (0, 0), (0, 0), (0, 0), (0, 0), (0, 0), (0, 0), (8, 0), (9, 0), (10, 0), (13, 0)] r_p 11)
    rw [bx_val_x (n := 8) (e := (8, 0)) h0_ rfl, bx_val_x (n := 9) (e := (9, 0)) h0_ rfl, bx_val_x (n := 10) (e := (10, 0)) h0_ rfl, bx_val_x (n := 11) (e := (13, 0)) h0_ rfl]
    exact g.2.2.1
  · show rxmRHU_1 S0 ws (bx_up T1 480 (0) (0)) (bx_val [(0, 0), (0, 0), (0, 0), (0, 0), (0, 0), (0, 0), (0, 0), (0, 0), (8, 0), (9, 0), (10, 0), (13, 0)] r_p 8) (bx_val [(0, 0), (0, 0), (0, 0), (0, 0), (0, 0), (0, 0), (0, 0), (0, 0), (8, 0), (9, 0), (10, 0), (13, 0)] r_p 9) (bx_val [(0, 0), (0, 0), (0, 0), (0, 0), (0, 0), (0, 0), (0, 0), (0, 0), (8, 0), (9, 0), (10, 0), (13, 0)] r_p 10) (bx_val [(0, 0), (0, 0), (0, 0), (0, 0), (0, 0), (0, 0), (0, 0), (0, 0), (8, 0), (9, 0), (10, 0), (13, 0)] r_p 11) < rxmRHU_0 S0 ws T1 (r 8) (r 9) (r 10)
    rw [bx_val_x (n := 8) (e := (8, 0)) h0_ rfl, bx_val_x (n := 9) (e := (9, 0)) h0_ rfl, bx_val_x (n := 10) (e := (10, 0)) h0_ rfl, bx_val_x (n := 11) (e := (13, 0)) h0_ rfl, ← hr_ 8 (by decide), ← hr_ 9 (by decide), ← hr_ 10 (by decide)]
    exact g.2.2.2
theorem rxdRHU_0_0 {S0 : Nat → Int → Int} {ws : List Int} {S : Nat → Int → Int} {pa st cu x11 x12 x13 : Int} (hP : rxPRHU S0 ws) (hin : bx_same rxL (bx_mdl rxC218.2.2.1) S0 S) (hin2 : bx_same rxL (bx_mdl rxC218.2.2.1) S (bx_up (bx_up (bx_up S 480 0 0) 480 1 ((-2))) 481 2 x13)) (I0 : bx_Inv rxL S) (I1 : bx_Inv rxL (bx_up (bx_up (bx_up S 480 0 0) 480 1 ((-2))) 481 2 x13)) (hinv : rxIRHU_0 S0 ws S pa st cu) (l8 : 0 ≤ pa) (u8 : pa ≤ 2147483647) (l9 : 0 ≤ st) (u9 : st ≤ 5) (l10 : 0 ≤ cu) (u10 : cu ≤ 5) (l11 : 0 ≤ x11) (u11 : x11 ≤ 6) (l12 : (-2147483648) ≤ x12) (u12 : x12 ≤ 2147483647) (l13 : (-2147483648) ≤ x13) (u13 : x13 ≤ 2147483647) (f0 : x11 + (-1) < pa) (e3 : (bx_up S 480 0 0) 482 0 = x11) (e1 : (bx_up (bx_up S 480 0 0) 480 1 ((-2))) 481 2 = x12) : (True) ∧ rxPSRHU S0 ws (bx_up (bx_up (bx_up S 480 0 0) 480 1 ((-2))) 481 2 x13) (some ((-2))) := by
  obtain ⟨rfl, hw⟩ := hinv
  have q0 : S 482 0 = x11 := ((bx_up_ne (by omega))).symm.trans e3
  exact ⟨trivial, pa, st, cu, hw, Or.inr (Or.inl ⟨by omega, by omega, by omega, by omega, by omega, rfl, fun j => (bx_up_ne (by omega)).trans ((bx_up_ne (by omega)).trans ((bx_up_ne (by omega))))⟩)⟩
theorem rxfRHU_0_0 {X : (Nat → Int → Int) → Prop} {S0 : Nat → Int → Int} {ws : List Int} (hP : rxPRHU S0 ws) : bx_obE rxL X S0 rxC218.2.2.1 (rxIRHU S0 ws) (rxPSRHU S0 ws) 0 rxzRHU_0 rxeRHU_0_0 := by
  intro S S_p r r_p hinv hX hin hsm_ hseg
  obtain ⟨I0, I1, h0_, hr_, b_, f_, d_⟩ := bx_cl (evs := [(1, (0, 481), (0, 2), .inr (0, (13, 0))), (0, (0, 481), (0, 2), .inr (0, (12, 0))), (1, (0, 480), (0, 1), .inr (0, (0, (-2)))), (0, (0, 482), (0, 0), .inr (0, (11, 0))), (1, (0, 480), (0, 0), .inr (0, (0, 0)))]) (fvs := [(0, (11, (-1)), (8, 0), (0, 0))]) hseg (by decide +kernel) (by decide +kernel)
  have hinv : rxIRHU_0 S0 ws S (r 8) (r 9) (r 10) := hinv
  rw [← hr_ 8 (by decide), ← hr_ 9 (by decide), ← hr_ 10 (by decide)] at hinv
  obtain ⟨⟨l8, u8⟩, ⟨l9, u9⟩, ⟨l10, u10⟩, ⟨l11, u11⟩, ⟨l12, u12⟩, ⟨l13, u13⟩, -⟩ := b_
  obtain ⟨f0, -⟩ := f_
  obtain ⟨T0, ⟨e1, ⟨T2, ⟨e3, ⟨T4, w_, w4⟩⟩, w2⟩⟩, w0⟩ := d_
  subst w0
  subst w2
  subst w4
  subst w_
  have g := rxdRHU_0_0 hP hin hsm_ I0 I1 hinv l8 u8 l9 u9 l10 u10 l11 u11 l12 u12 l13 u13 f0 e3 e1
  refine ⟨bx_narP_ok (l := []) g.1, ?_⟩
  show rxPSRHU S0 ws (bx_up (bx_up (bx_up T4 480 (0) (0)) 480 (1) ((-2))) 481 (2) (r_p 13)) (some (bx_num r_p (.inr (0, (0, (-2))))))
  rw [bx_xv_ok h0_]
  exact g.2
theorem rxdRHU_0_1 {S0 : Nat → Int → Int} {ws : List Int} {S : Nat → Int → Int} {pa st cu x11 x12 x13 : Int} (hP : rxPRHU S0 ws) (hin : bx_same rxL (bx_mdl rxC218.2.2.1) S0 S) (hin2 : bx_same rxL (bx_mdl rxC218.2.2.1) S (bx_up (bx_up (bx_up S 480 0 0) 480 1 ((-2))) 481 2 x13)) (I0 : bx_Inv rxL S) (I1 : bx_Inv rxL (bx_up (bx_up (bx_up S 480 0 0) 480 1 ((-2))) 481 2 x13)) (hinv : rxIRHU_0 S0 ws S pa st cu) (l8 : (-2147483648) ≤ pa) (u8 : pa ≤ (-1)) (l9 : 0 ≤ st) (u9 : st ≤ 5) (l10 : 0 ≤ cu) (u10 : cu ≤ 5) (l11 : 0 ≤ x11) (u11 : x11 ≤ 6) (l12 : (-2147483648) ≤ x12) (u12 : x12 ≤ 2147483647) (l13 : (-2147483648) ≤ x13) (u13 : x13 ≤ 2147483647) (e3 : (bx_up S 480 0 0) 482 0 = x11) (e1 : (bx_up (bx_up S 480 0 0) 480 1 ((-2))) 481 2 = x12) : (True) ∧ rxPSRHU S0 ws (bx_up (bx_up (bx_up S 480 0 0) 480 1 ((-2))) 481 2 x13) (some ((-2))) := by
  obtain ⟨rfl, hw⟩ := hinv
  have q0 : S 482 0 = x11 := ((bx_up_ne (by omega))).symm.trans e3
  exact ⟨trivial, pa, st, cu, hw, Or.inr (Or.inl ⟨by omega, by omega, by omega, by omega, by omega, rfl, fun j => (bx_up_ne (by omega)).trans ((bx_up_ne (by omega)).trans ((bx_up_ne (by omega))))⟩)⟩
theorem rxfRHU_0_1 {X : (Nat → Int → Int) → Prop} {S0 : Nat → Int → Int} {ws : List Int} (hP : rxPRHU S0 ws) : bx_obE rxL X S0 rxC218.2.2.1 (rxIRHU S0 ws) (rxPSRHU S0 ws) 0 rxzRHU_0 rxeRHU_0_1 := by
  intro S S_p r r_p hinv hX hin hsm_ hseg
  obtain ⟨I0, I1, h0_, hr_, b_, f_, d_⟩ := bx_cl (evs := [(1, (0, 481), (0, 2), .inr (0, (13, 0))), (0, (0, 481), (0, 2), .inr (0, (12, 0))), (1, (0, 480), (0, 1), .inr (0, (0, (-2)))), (0, (0, 482), (0, 0), .inr (0, (11, 0))), (1, (0, 480), (0, 0), .inr (0, (0, 0)))]) (fvs := []) hseg (by decide +kernel) (by decide +kernel)
  have hinv : rxIRHU_0 S0 ws S (r 8) (r 9) (r 10) := hinv
  rw [← hr_ 8 (by decide), ← hr_ 9 (by decide), ← hr_ 10 (by decide)] at hinv
  obtain ⟨⟨l8, u8⟩, ⟨l9, u9⟩, ⟨l10, u10⟩, ⟨l11, u11⟩, ⟨l12, u12⟩, ⟨l13, u13⟩, -⟩ := b_
  obtain ⟨T0, ⟨e1, ⟨T2, ⟨e3, ⟨T4, w_, w4⟩⟩, w2⟩⟩, w0⟩ := d_
  subst w0
  subst w2
  subst w4
  subst w_
  have g := rxdRHU_0_1 hP hin hsm_ I0 I1 hinv l8 u8 l9 u9 l10 u10 l11 u11 l12 u12 l13 u13 e3 e1
  refine ⟨bx_narP_ok (l := []) g.1, ?_⟩
  show rxPSRHU S0 ws (bx_up (bx_up (bx_up T4 480 (0) (0)) 480 (1) ((-2))) 481 (2) (r_p 13)) (some (bx_num r_p (.inr (0, (0, (-2))))))
  rw [bx_xv_ok h0_]
  exact g.2
theorem rxdRHU_0_2 {S0 : Nat → Int → Int} {ws : List Int} {S : Nat → Int → Int} {pa st cu x11 x12 : Int} (hP : rxPRHU S0 ws) (hin : bx_same rxL (bx_mdl rxC218.2.2.1) S0 S) (hin2 : bx_same rxL (bx_mdl rxC218.2.2.1) S (bx_up (bx_up (bx_up S 480 0 0) 480 1 ((-1))) 481 1 x12)) (I0 : bx_Inv rxL S) (I1 : bx_Inv rxL (bx_up (bx_up (bx_up S 480 0 0) 480 1 ((-1))) 481 1 x12)) (hinv : rxIRHU_0 S0 ws S pa st cu) (l8 : (-2147483648) ≤ pa) (u8 : pa ≤ 2147483647) (l9 : 0 ≤ st) (u9 : st ≤ 5) (l10 : 6 ≤ cu) (u10 : cu ≤ 2147483647) (l11 : (-2147483648) ≤ x11) (u11 : x11 ≤ 2147483647) (l12 : (-2147483648) ≤ x12) (u12 : x12 ≤ 2147483647) (e1 : (bx_up (bx_up S 480 0 0) 480 1 ((-1))) 481 1 = x11) : (True) ∧ rxPSRHU S0 ws (bx_up (bx_up (bx_up S 480 0 0) 480 1 ((-1))) 481 1 x12) (some ((-1))) := by
  obtain ⟨rfl, hw⟩ := hinv
  exact ⟨trivial, pa, st, cu, hw, Or.inl ⟨by omega, rfl, fun j => (bx_up_ne (by omega)).trans ((bx_up_ne (by omega)).trans ((bx_up_ne (by omega))))⟩⟩
theorem rxfRHU_0_2 {X : (Nat → Int → Int) → Prop} {S0 : Nat → Int → Int} {ws : List Int} (hP : rxPRHU S0 ws) : bx_obE rxL X S0 rxC218.2.2.1 (rxIRHU S0 ws) (rxPSRHU S0 ws) 0 rxzRHU_0 rxeRHU_0_2 := by
  intro S S_p r r_p hinv hX hin hsm_ hseg
  obtain ⟨I0, I1, h0_, hr_, b_, f_, d_⟩ := bx_cl (evs := [(1, (0, 481), (0, 1), .inr (0, (12, 0))), (0, (0, 481), (0, 1), .inr (0, (11, 0))), (1, (0, 480), (0, 1), .inr (0, (0, (-1)))), (1, (0, 480), (0, 0), .inr (0, (0, 0)))]) (fvs := []) hseg (by decide +kernel) (by decide +kernel)
  have hinv : rxIRHU_0 S0 ws S (r 8) (r 9) (r 10) := hinv
  rw [← hr_ 8 (by decide), ← hr_ 9 (by decide), ← hr_ 10 (by decide)] at hinv
  obtain ⟨⟨l8, u8⟩, ⟨l9, u9⟩, ⟨l10, u10⟩, ⟨l11, u11⟩, ⟨l12, u12⟩, -⟩ := b_
  obtain ⟨T0, ⟨e1, ⟨T2, ⟨T3, w_, w3⟩, w2⟩⟩, w0⟩ := d_
  subst w0
  subst w2
  subst w3
  subst w_
  have g := rxdRHU_0_2 hP hin hsm_ I0 I1 hinv l8 u8 l9 u9 l10 u10 l11 u11 l12 u12 e1
  refine ⟨bx_narP_ok (l := []) g.1, ?_⟩
  show rxPSRHU S0 ws (bx_up (bx_up (bx_up T3 480 (0) (0)) 480 (1) ((-1))) 481 (1) (r_p 12)) (some (bx_num r_p (.inr (0, (0, (-1))))))
  rw [bx_xv_ok h0_]
  exact g.2
theorem rxdRHU_0_3 {S0 : Nat → Int → Int} {ws : List Int} {S : Nat → Int → Int} {pa st cu x11 x12 : Int} (hP : rxPRHU S0 ws) (hin : bx_same rxL (bx_mdl rxC218.2.2.1) S0 S) (hin2 : bx_same rxL (bx_mdl rxC218.2.2.1) S (bx_up (bx_up (bx_up S 480 0 0) 480 1 ((-1))) 481 1 x12)) (I0 : bx_Inv rxL S) (I1 : bx_Inv rxL (bx_up (bx_up (bx_up S 480 0 0) 480 1 ((-1))) 481 1 x12)) (hinv : rxIRHU_0 S0 ws S pa st cu) (l8 : (-2147483648) ≤ pa) (u8 : pa ≤ 2147483647) (l9 : 0 ≤ st) (u9 : st ≤ 5) (l10 : (-2147483648) ≤ cu) (u10 : cu ≤ (-1)) (l11 : (-2147483648) ≤ x11) (u11 : x11 ≤ 2147483647) (l12 : (-2147483648) ≤ x12) (u12 : x12 ≤ 2147483647) (e1 : (bx_up (bx_up S 480 0 0) 480 1 ((-1))) 481 1 = x11) : (True) ∧ rxPSRHU S0 ws (bx_up (bx_up (bx_up S 480 0 0) 480 1 ((-1))) 481 1 x12) (some ((-1))) := by
  obtain ⟨rfl, hw⟩ := hinv
  exact ⟨trivial, pa, st, cu, hw, Or.inl ⟨by omega, rfl, fun j => (bx_up_ne (by omega)).trans ((bx_up_ne (by omega)).trans ((bx_up_ne (by omega))))⟩⟩
theorem rxfRHU_0_3 {X : (Nat → Int → Int) → Prop} {S0 : Nat → Int → Int} {ws : List Int} (hP : rxPRHU S0 ws) : bx_obE rxL X S0 rxC218.2.2.1 (rxIRHU S0 ws) (rxPSRHU S0 ws) 0 rxzRHU_0 rxeRHU_0_3 := by
  intro S S_p r r_p hinv hX hin hsm_ hseg
  obtain ⟨I0, I1, h0_, hr_, b_, f_, d_⟩ := bx_cl (evs := [(1, (0, 481), (0, 1), .inr (0, (12, 0))), (0, (0, 481), (0, 1), .inr (0, (11, 0))), (1, (0, 480), (0, 1), .inr (0, (0, (-1)))), (1, (0, 480), (0, 0), .inr (0, (0, 0)))]) (fvs := []) hseg (by decide +kernel) (by decide +kernel)
  have hinv : rxIRHU_0 S0 ws S (r 8) (r 9) (r 10) := hinv
  rw [← hr_ 8 (by decide), ← hr_ 9 (by decide), ← hr_ 10 (by decide)] at hinv
  obtain ⟨⟨l8, u8⟩, ⟨l9, u9⟩, ⟨l10, u10⟩, ⟨l11, u11⟩, ⟨l12, u12⟩, -⟩ := b_
  obtain ⟨T0, ⟨e1, ⟨T2, ⟨T3, w_, w3⟩, w2⟩⟩, w0⟩ := d_
  subst w0
  subst w2
  subst w3
  subst w_
  have g := rxdRHU_0_3 hP hin hsm_ I0 I1 hinv l8 u8 l9 u9 l10 u10 l11 u11 l12 u12 e1
  refine ⟨bx_narP_ok (l := []) g.1, ?_⟩
  show rxPSRHU S0 ws (bx_up (bx_up (bx_up T3 480 (0) (0)) 480 (1) ((-1))) 481 (1) (r_p 12)) (some (bx_num r_p (.inr (0, (0, (-1))))))
  rw [bx_xv_ok h0_]
  exact g.2
theorem rxdRHU_0_4 {S0 : Nat → Int → Int} {ws : List Int} {S : Nat → Int → Int} {pa st cu x11 x12 : Int} (hP : rxPRHU S0 ws) (hin : bx_same rxL (bx_mdl rxC218.2.2.1) S0 S) (hin2 : bx_same rxL (bx_mdl rxC218.2.2.1) S (bx_up (bx_up (bx_up S 480 0 0) 480 1 ((-1))) 481 1 x12)) (I0 : bx_Inv rxL S) (I1 : bx_Inv rxL (bx_up (bx_up (bx_up S 480 0 0) 480 1 ((-1))) 481 1 x12)) (hinv : rxIRHU_0 S0 ws S pa st cu) (l8 : (-2147483648) ≤ pa) (u8 : pa ≤ 2147483647) (l9 : 6 ≤ st) (u9 : st ≤ 2147483647) (l10 : (-2147483648) ≤ cu) (u10 : cu ≤ 2147483647) (l11 : (-2147483648) ≤ x11) (u11 : x11 ≤ 2147483647) (l12 : (-2147483648) ≤ x12) (u12 : x12 ≤ 2147483647) (e1 : (bx_up (bx_up S 480 0 0) 480 1 ((-1))) 481 1 = x11) : (True) ∧ rxPSRHU S0 ws (bx_up (bx_up (bx_up S 480 0 0) 480 1 ((-1))) 481 1 x12) (some ((-1))) := by
  obtain ⟨rfl, hw⟩ := hinv
  exact ⟨trivial, pa, st, cu, hw, Or.inl ⟨by omega, rfl, fun j => (bx_up_ne (by omega)).trans ((bx_up_ne (by omega)).trans ((bx_up_ne (by omega))))⟩⟩
theorem rxfRHU_0_4 {X : (Nat → Int → Int) → Prop} {S0 : Nat → Int → Int} {ws : List Int} (hP : rxPRHU S0 ws) : bx_obE rxL X S0 rxC218.2.2.1 (rxIRHU S0 ws) (rxPSRHU S0 ws) 0 rxzRHU_0 rxeRHU_0_4 := by
  intro S S_p r r_p hinv hX hin hsm_ hseg
  obtain ⟨I0, I1, h0_, hr_, b_, f_, d_⟩ := bx_cl (evs := [(1, (0, 481), (0, 1), .inr (0, (12, 0))), (0, (0, 481), (0, 1), .inr (0, (11, 0))), (1, (0, 480), (0, 1), .inr (0, (0, (-1)))), (1, (0, 480), (0, 0), .inr (0, (0, 0)))]) (fvs := []) hseg (by decide +kernel) (by decide +kernel)
  have hinv : rxIRHU_0 S0 ws S (r 8) (r 9) (r 10) := hinv
  rw [← hr_ 8 (by decide), ← hr_ 9 (by decide), ← hr_ 10 (by decide)] at hinv
  obtain ⟨⟨l8, u8⟩, ⟨l9, u9⟩, ⟨l10, u10⟩, ⟨l11, u11⟩, ⟨l12, u12⟩, -⟩ := b_
  obtain ⟨T0, ⟨e1, ⟨T2, ⟨T3, w_, w3⟩, w2⟩⟩, w0⟩ := d_
  subst w0
  subst w2
  subst w3
  subst w_
  have g := rxdRHU_0_4 hP hin hsm_ I0 I1 hinv l8 u8 l9 u9 l10 u10 l11 u11 l12 u12 e1
  refine ⟨bx_narP_ok (l := []) g.1, ?_⟩
  show rxPSRHU S0 ws (bx_up (bx_up (bx_up T3 480 (0) (0)) 480 (1) ((-1))) 481 (1) (r_p 12)) (some (bx_num r_p (.inr (0, (0, (-1))))))
  rw [bx_xv_ok h0_]
  exact g.2
theorem rxdRHU_0_5 {S0 : Nat → Int → Int} {ws : List Int} {S : Nat → Int → Int} {pa st cu x11 x12 : Int} (hP : rxPRHU S0 ws) (hin : bx_same rxL (bx_mdl rxC218.2.2.1) S0 S) (hin2 : bx_same rxL (bx_mdl rxC218.2.2.1) S (bx_up (bx_up (bx_up S 480 0 0) 480 1 ((-1))) 481 1 x12)) (I0 : bx_Inv rxL S) (I1 : bx_Inv rxL (bx_up (bx_up (bx_up S 480 0 0) 480 1 ((-1))) 481 1 x12)) (hinv : rxIRHU_0 S0 ws S pa st cu) (l8 : (-2147483648) ≤ pa) (u8 : pa ≤ 2147483647) (l9 : (-2147483648) ≤ st) (u9 : st ≤ (-1)) (l10 : (-2147483648) ≤ cu) (u10 : cu ≤ 2147483647) (l11 : (-2147483648) ≤ x11) (u11 : x11 ≤ 2147483647) (l12 : (-2147483648) ≤ x12) (u12 : x12 ≤ 2147483647) (e1 : (bx_up (bx_up S 480 0 0) 480 1 ((-1))) 481 1 = x11) : (True) ∧ rxPSRHU S0 ws (bx_up (bx_up (bx_up S 480 0 0) 480 1 ((-1))) 481 1 x12) (some ((-1))) := by
  obtain ⟨rfl, hw⟩ := hinv
  exact ⟨trivial, pa, st, cu, hw, Or.inl ⟨by omega, rfl, fun j => (bx_up_ne (by omega)).trans ((bx_up_ne (by omega)).trans ((bx_up_ne (by omega))))⟩⟩
theorem rxfRHU_0_5 {X : (Nat → Int → Int) → Prop} {S0 : Nat → Int → Int} {ws : List Int} (hP : rxPRHU S0 ws) : bx_obE rxL X S0 rxC218.2.2.1 (rxIRHU S0 ws) (rxPSRHU S0 ws) 0 rxzRHU_0 rxeRHU_0_5 := by
  intro S S_p r r_p hinv hX hin hsm_ hseg
  obtain ⟨I0, I1, h0_, hr_, b_, f_, d_⟩ := bx_cl (evs := [(1, (0, 481), (0, 1), .inr (0, (12, 0))), (0, (0, 481), (0, 1), .inr (0, (11, 0))), (1, (0, 480), (0, 1), .inr (0, (0, (-1)))), (1, (0, 480), (0, 0), .inr (0, (0, 0)))]) (fvs := []) hseg (by decide +kernel) (by decide +kernel)
  have hinv : rxIRHU_0 S0 ws S (r 8) (r 9) (r 10) := hinv
  rw [← hr_ 8 (by decide), ← hr_ 9 (by decide), ← hr_ 10 (by decide)] at hinv
  obtain ⟨⟨l8, u8⟩, ⟨l9, u9⟩, ⟨l10, u10⟩, ⟨l11, u11⟩, ⟨l12, u12⟩, -⟩ := b_
  obtain ⟨T0, ⟨e1, ⟨T2, ⟨T3, w_, w3⟩, w2⟩⟩, w0⟩ := d_
  subst w0
  subst w2
  subst w3
  subst w_
  have g := rxdRHU_0_5 hP hin hsm_ I0 I1 hinv l8 u8 l9 u9 l10 u10 l11 u11 l12 u12 e1
  refine ⟨bx_narP_ok (l := []) g.1, ?_⟩
  show rxPSRHU S0 ws (bx_up (bx_up (bx_up T3 480 (0) (0)) 480 (1) ((-1))) 481 (1) (r_p 12)) (some (bx_num r_p (.inr (0, (0, (-1))))))
  rw [bx_xv_ok h0_]
  exact g.2
theorem rxdRHU_2_0 {S0 : Nat → Int → Int} {ws : List Int} {S : Nat → Int → Int} {pa st cu ax res : Int} (hP : rxPRHU S0 ws) (hin : bx_same rxL (bx_mdl rxC218.2.2.1) S0 S) (hin2 : bx_same rxL (bx_mdl rxC218.2.2.1) S S) (I0 : bx_Inv rxL S) (I1 : bx_Inv rxL S) (hinv : rxIRHU_2 S0 ws S pa st cu ax res) (l8 : 0 ≤ pa) (u8 : pa ≤ 5) (l9 : 0 ≤ st) (u9 : st ≤ 5) (l10 : 0 ≤ cu) (u10 : cu ≤ 5) (l11 : 0 ≤ ax) (u11 : ax ≤ 35) (l12 : (-1) ≤ res) (u12 : res ≤ 9) : (True) ∧ rxPSRHU S0 ws S (some res) := by
  obtain ⟨hw, ⟨i0, i1, i2, i3⟩, hp, hr, hv, hf⟩ := hinv
  exact ⟨trivial, pa, st, cu, hw, Or.inr (Or.inr ⟨i0, i1, i2, i3, by omega, hp, congrArg some hr, (rfl).trans hv, fun j a => (rfl).trans (hf j a)⟩)⟩
theorem rxfRHU_2_0 {X : (Nat → Int → Int) → Prop} {S0 : Nat → Int → Int} {ws : List Int} (hP : rxPRHU S0 ws) : bx_obE rxL X S0 rxC218.2.2.1 (rxIRHU S0 ws) (rxPSRHU S0 ws) 2 rxzRHU_2 rxeRHU_2_0 := by
  intro S S_p r r_p hinv hX hin hsm_ hseg
  obtain ⟨I0, I1, h0_, hr_, b_, f_, d_⟩ := bx_cl (evs := []) (fvs := []) hseg (by decide +kernel) (by decide +kernel)
  have hinv : rxIRHU_2 S0 ws S (r 8) (r 9) (r 10) (r 11) (r 12) := hinv
  rw [← hr_ 8 (by decide), ← hr_ 9 (by decide), ← hr_ 10 (by decide), ← hr_ 11 (by decide), ← hr_ 12 (by decide)] at hinv
  obtain ⟨⟨l8, u8⟩, ⟨l9, u9⟩, ⟨l10, u10⟩, ⟨l11, u11⟩, ⟨l12, u12⟩, -⟩ := b_
  have w_ := d_
  subst w_
  have g := rxdRHU_2_0 hP hin hsm_ I0 I1 hinv l8 u8 l9 u9 l10 u10 l11 u11 l12 u12
  refine ⟨bx_narP_ok (l := []) g.1, ?_⟩
  show rxPSRHU S0 ws S_p (some (bx_num r_p (.inr (0, (12, 0)))))
  rw [bx_xv_ok h0_]
  exact g.2
theorem rxgCRHU {X : (Nat → Int → Int) → Prop} {S0 : Nat → Int → Int} {ws : List Int} (hP : rxPRHU S0 ws) : bx_allI (fun i q => rxURHU q = true ∨ bx_allP (fun o => bx_obC rxL X S0 rxC218.2.2.1 (rxIRHU S0 ws) (rxmRHU S0 ws) i q.1 o) q.2.1) 0 rxYRHU := ⟨Or.inr ⟨rxgRHU_0_0 hP, trivial⟩, Or.inl rfl, Or.inr trivial, trivial⟩
theorem rxgERHU {X : (Nat → Int → Int) → Prop} {S0 : Nat → Int → Int} {ws : List Int} (hP : rxPRHU S0 ws) : bx_allI (fun i q => rxURHU q = true ∨ bx_allP (fun E => bx_obE rxL X S0 rxC218.2.2.1 (rxIRHU S0 ws) (rxPSRHU S0 ws) i q.1 E) q.2.2) 0 rxYRHU := ⟨Or.inr ⟨rxfRHU_0_0 hP, rxfRHU_0_1 hP, rxfRHU_0_2 hP, rxfRHU_0_3 hP, rxfRHU_0_4 hP, rxfRHU_0_5 hP, trivial⟩, Or.inl rfl, Or.inr ⟨rxfRHU_2_0 hP, trivial⟩, trivial⟩
theorem rxuRHU {PX : State → Prop} {Dg : va_G} {A : Nat → Prop} {ad xa : Nat → Nat} {l : Launch} {X : (Nat → Int → Int) → Prop} (hPX : rx_PXOK rxNW A PX) (hX : ∀ S S1 : Nat → Int → Int, X S → bx_same rxL (bx_mdl rxC218.2.2.1) S S1 → X S1) (hQCHG : bx_ConP rxG rxNW rxAO PX Dg rxL X vwCl A ad l rxM259 rxCCHG rxPCHG rxPSCHG) {S0 : Nat → Int → Int} {ws : List Int} (hP : rxPRHU S0 ws) : ∀ (i : Nat) (q : bx_HE), rxYRHU[i]? = some q → rxURHU q = true → ∀ {p : Program} {e : Env} {R : Room} {s : State} {m : MethodId} {args : Array Value} {below : List Frame} {meth : Method} {c : Code} {Q : State → Prop} {H0 : Heap}, rx_Fr rxG rxNW rxAO PX p s m args meth c rxM218 → (∀ q, H0.size ≤ q → A q) → H0 = s.heap → rxM218.2.2.2.2.2.2.1 ≤ R.cells → rxM218.2.2.2.2.2.2.2 ≤ R.slots → rxC218.2.2.2.1 ≤ R.frames → rxC218.2.2.2.1 * 40 ≤ R.locals → bx_Step p l e R s m args below meth c Q Dg rxL X vwCl A xa H0 ad rxM218 rxYRHU (rxIRHU S0 ws) (rxmRHU S0 ws) S0 rxC218.2.2.1 i q := by
  intro i q hq hus p e R s m args below meth c Q H0 hF hA hH0 hmc hms hd hdl
  match i, hq with
  | 0, hq =>
    cases hq
    exact absurd (show false = true from hus) Bool.false_ne_true
  | 1, hq =>
    cases hq
    exact rx_stepC (ins := .invokevirtual 208) (len := 3) (i_p := 2) (M_p := rxM259) (d := rxC218.2.2.2.1) (as := [.inr (3, (0, 480)), .inr (0, (8, 0)), .inr (0, (11, 0)), .inr (0, (0, (-1)))]) (t := []) (ct := rxCCHG) hPX hF rfl hA hH0 hmc hms hd hdl (by decide +kernel) rfl rfl (by decide +kernel) (by decide +kernel) hQCHG (by decide +kernel) rfl (Or.inr ⟨_, _, _, 1, rfl, rfl, by omega, rfl, rfl, rfl⟩) (rxsRHU_1 hP)
  | 2, hq =>
    cases hq
    exact absurd (show false = true from hus) Bool.false_ne_true
  | n + 3, hq => cases hq
theorem rxQRHU {PX : State → Prop} {Dg : va_G} {A : Nat → Prop} {ad xa : Nat → Nat} {l : Launch} {X : (Nat → Int → Int) → Prop} (hPX : rx_PXOK rxNW A PX) (hsl : ∀ s : State, PX s → ∀ o idx n : Nat, rxSl o idx = some n → ∃ tx : String, vk_R (rxNm o) idx tx (ad n) s)
    (hX : ∀ S S_p : Nat → Int → Int, X S → bx_same rxL (bx_mdl rxC218.2.2.1) S S_p → X S_p)
    (ih : ∀ (j2 : Nat) (ct2 : bx_Ct) (M2 : rx_Mt), ct2 ∈ rxCnE j2 → ct2.2.2.2.1 + 1 ≤ rxC218.2.2.2.1 → rxT.2.2.2.2.2 j2 = some M2 → bx_Con rxG rxNW rxAO PX Dg rxL X vwCl A ad l M2 ct2) (hQCHG : bx_ConP rxG rxNW rxAO PX Dg rxL X vwCl A ad l rxM259 rxCCHG rxPCHG rxPSCHG) : bx_ConP rxG rxNW rxAO PX Dg rxL X vwCl A ad l rxM218 rxC218 rxPRHU rxPSRHU :=
  rxQof (xa := xa) (Cn := rxCnE) (f := 30000) (j := 218) (tab := rxYRHU) (us := rxURHU) hPX hsl hX ih rfl rxYcRHU rxIRHU rxmRHU
    (fun S0 ws r I0 I ht0 ht as he he1 hX0 hI0 hP hs ha => by
      have e := he.symm.trans (show bx_ent0 rxNP rxC218.1 bx_I0 [] = some ([(0, 0), (0, 0), (0, 0), (0, 0), (0, 0), (0, 0), (0, 0), (0, 0), ((-2147483648), 2147483647), ((-2147483648), 2147483647), ((-2147483648), 2147483647)], [], [.inr (3, (0, 480)), .inr (0, (8, 0)), .inr (0, (9, 0)), .inr (0, (10, 0))]) from rfl)
      cases e
      subst ha
      have h0 : r 0 = 0 := hs.1
      show rxIRHU_0 S0 _ S0 (r 8) (r 9) (r 10)
      refine ⟨rfl, ?_⟩
      simp only [List.map_cons, List.map_nil, bx_xv_ok h0]
      rfl)
    (fun S0 ws hP => rxuRHU (xa := xa) hPX hX hQCHG hP) (fun S0 ws hP => rxgCRHU hP) (fun S0 ws hP => rxgERHU hP)
noncomputable def rxIDRU_0 (S0 : Nat → Int → Int) (ws : List Int) (S : Nat → Int → Int) (pa st cu wo ne : Int) : Prop := S = S0 ∧ ws = [0, pa, st, cu, wo, ne]
noncomputable def rxmDRU_0 (S0 : Nat → Int → Int) (ws : List Int) (S : Nat → Int → Int) (pa st cu wo ne : Int) : Nat := 100
noncomputable def rxzDRU_0 : rx_Z := ([(0, 0), (0, 0), (0, 0), (0, 0), (0, 0), (0, 0), (0, 0), (0, 0), ((-2147483648), 2147483647), ((-2147483648), 2147483647), ((-2147483648), 2147483647), ((-2147483648), 2147483647), ((-2147483648), 2147483647)], [], [], 0, 0, 0, [(0, .inr (3, (0, 0))), (1, .inr (0, (8, 0))), (2, .inr (0, (9, 0))), (3, .inr (0, (10, 0))), (4, .inr (0, (11, 0))), (5, .inr (0, (12, 0)))], [])
noncomputable def rxIDRU_1 (S0 : Nat → Int → Int) (ws : List Int) (S : Nat → Int → Int) (pa st cu wo ne : Int) : Prop := S = S0 ∧ (st < 0 ∨ 5 < st ∨ cu < 0 ∨ 5 < cu ∨ wo < 0 ∨ 9 < wo ∨ ne < 0 ∨ 5 < ne) ∧ ws = [0, pa, st, cu, wo, ne]
noncomputable def rxmDRU_1 (S0 : Nat → Int → Int) (ws : List Int) (S : Nat → Int → Int) (pa st cu wo ne : Int) : Nat := 50
noncomputable def rxzDRU_1 : rx_Z := ([(0, 0), (0, 0), (0, 0), (0, 0), (0, 0), (0, 0), (0, 0), (0, 0), ((-2147483648), 2147483647), ((-2147483648), 2147483647), ((-2147483648), 2147483647), ((-2147483648), 2147483647), ((-2147483648), 2147483647)], [], [], 0, 0, 34, [(0, .inr (3, (0, 0))), (1, .inr (0, (8, 0))), (2, .inr (0, (9, 0))), (3, .inr (0, (10, 0))), (4, .inr (0, (11, 0))), (5, .inr (0, (12, 0)))], [.inr (0, (0, (-1))), .inr (3, (0, 0))])
noncomputable def rxIDRU_2 (S0 : Nat → Int → Int) (ws : List Int) (S : Nat → Int → Int) (pa st cu wo ne res : Int) : Prop := res = -1 ∧ (st < 0 ∨ 5 < st ∨ cu < 0 ∨ 5 < cu ∨ wo < 0 ∨ 9 < wo ∨ ne < 0 ∨ 5 < ne) ∧ ws = [0, pa, st, cu, wo, ne] ∧ bx_same rxL (bx_mdl rxC110.2.2.1) S0 S
noncomputable def rxmDRU_2 (S0 : Nat → Int → Int) (ws : List Int) (S : Nat → Int → Int) (pa st cu wo ne res : Int) : Nat := 20
noncomputable def rxzDRU_2 : rx_Z := ([(0, 0), (0, 0), (0, 0), (0, 0), (0, 0), (0, 0), (0, 0), (0, 0), ((-2147483648), 2147483647), ((-2147483648), 2147483647), ((-2147483648), 2147483647), ((-2147483648), 2147483647), ((-2147483648), 2147483647), ((-6), (-1))], [], [], 0, 0, 37, [(0, .inr (3, (0, 0))), (1, .inr (0, (8, 0))), (2, .inr (0, (9, 0))), (3, .inr (0, (10, 0))), (4, .inr (0, (11, 0))), (5, .inr (0, (12, 0)))], [.inr (0, (13, 0))])
noncomputable def rxIDRU_3 (S0 : Nat → Int → Int) (ws : List Int) (S : Nat → Int → Int) (pa st cu wo ne : Int) : Prop := S = S0 ∧ (0 ≤ st ∧ st ≤ 5 ∧ 0 ≤ cu ∧ cu ≤ 5 ∧ 0 ≤ wo ∧ wo ≤ 9 ∧ 0 ≤ ne ∧ ne ≤ 5) ∧ (pa < 0 ∨ S0 1 0 ≤ pa) ∧ ws = [0, pa, st, cu, wo, ne]
noncomputable def rxmDRU_3 (S0 : Nat → Int → Int) (ws : List Int) (S : Nat → Int → Int) (pa st cu wo ne : Int) : Nat := 50
noncomputable def rxzDRU_3 : rx_Z := ([(0, 0), (0, 0), (0, 0), (0, 0), (0, 0), (0, 0), (0, 0), (0, 0), ((-2147483648), 2147483647), (0, 5), (0, 5), (0, 9), (0, 5)], [], [], 0, 0, 52, [(0, .inr (3, (0, 0))), (1, .inr (0, (8, 0))), (2, .inr (0, (9, 0))), (3, .inr (0, (10, 0))), (4, .inr (0, (11, 0))), (5, .inr (0, (12, 0)))], [.inr (0, (0, (-2))), .inr (3, (0, 0))])
noncomputable def rxIDRU_4 (S0 : Nat → Int → Int) (ws : List Int) (S : Nat → Int → Int) (pa st cu wo ne res : Int) : Prop := res = -2 ∧ (0 ≤ st ∧ st ≤ 5 ∧ 0 ≤ cu ∧ cu ≤ 5 ∧ 0 ≤ wo ∧ wo ≤ 9 ∧ 0 ≤ ne ∧ ne ≤ 5) ∧ (pa < 0 ∨ S0 1 0 ≤ pa) ∧ ws = [0, pa, st, cu, wo, ne] ∧ bx_same rxL (bx_mdl rxC110.2.2.1) S0 S
noncomputable def rxmDRU_4 (S0 : Nat → Int → Int) (ws : List Int) (S : Nat → Int → Int) (pa st cu wo ne res : Int) : Nat := 20
noncomputable def rxzDRU_4 : rx_Z := ([(0, 0), (0, 0), (0, 0), (0, 0), (0, 0), (0, 0), (0, 0), (0, 0), ((-2147483648), 2147483647), (0, 5), (0, 5), (0, 9), (0, 5), ((-6), (-1))], [], [], 0, 0, 55, [(0, .inr (3, (0, 0))), (1, .inr (0, (8, 0))), (2, .inr (0, (9, 0))), (3, .inr (0, (10, 0))), (4, .inr (0, (11, 0))), (5, .inr (0, (12, 0)))], [.inr (0, (13, 0))])
noncomputable def rxoDRU_0_0 : bx_HO := (([(0, 0), (0, 0), (0, 0), (0, 0), (0, 0), (0, 0), (0, 0), (0, 0), ((-2147483648), 2147483647), ((-2147483648), (-1)), ((-2147483648), 2147483647), ((-2147483648), 2147483647), ((-2147483648), 2147483647)], [], [], 0, 0, 34, [(0, .inr (3, (0, 0))), (1, .inr (0, (8, 0))), (2, .inr (0, (9, 0))), (3, .inr (0, (10, 0))), (4, .inr (0, (11, 0))), (5, .inr (0, (12, 0)))], [.inr (0, (0, (-1))), .inr (3, (0, 0))]), [], [], [(0, 0), (0, 0), (0, 0), (0, 0), (0, 0), (0, 0), (0, 0), (0, 0), (8, 0), (9, 0), (10, 0), (11, 0), (12, 0)], 1)
noncomputable def rxoDRU_0_1 : bx_HO := (([(0, 0), (0, 0), (0, 0), (0, 0), (0, 0), (0, 0), (0, 0), (0, 0), ((-2147483648), 2147483647), (6, 2147483647), ((-2147483648), 2147483647), ((-2147483648), 2147483647), ((-2147483648), 2147483647)], [], [], 0, 0, 34, [(0, .inr (3, (0, 0))), (1, .inr (0, (8, 0))), (2, .inr (0, (9, 0))), (3, .inr (0, (10, 0))), (4, .inr (0, (11, 0))), (5, .inr (0, (12, 0)))], [.inr (0, (0, (-1))), .inr (3, (0, 0))]), [], [], [(0, 0), (0, 0), (0, 0), (0, 0), (0, 0), (0, 0), (0, 0), (0, 0), (8, 0), (9, 0), (10, 0), (11, 0), (12, 0)], 1)
noncomputable def rxoDRU_0_2 : bx_HO := (([(0, 0), (0, 0), (0, 0), (0, 0), (0, 0), (0, 0), (0, 0), (0, 0), ((-2147483648), 2147483647), (0, 5), ((-2147483648), (-1)), ((-2147483648), 2147483647), ((-2147483648), 2147483647)], [], [], 0, 0, 34, [(0, .inr (3, (0, 0))), (1, .inr (0, (8, 0))), (2, .inr (0, (9, 0))), (3, .inr (0, (10, 0))), (4, .inr (0, (11, 0))), (5, .inr (0, (12, 0)))], [.inr (0, (0, (-1))), .inr (3, (0, 0))]), [], [], [(0, 0), (0, 0), (0, 0), (0, 0), (0, 0), (0, 0), (0, 0), (0, 0), (8, 0), (9, 0), (10, 0), (11, 0), (12, 0)], 1)
noncomputable def rxoDRU_0_3 : bx_HO := (([(0, 0), (0, 0), (0, 0), (0, 0), (0, 0), (0, 0), (0, 0), (0, 0), ((-2147483648), 2147483647), (0, 5), (6, 2147483647), ((-2147483648), 2147483647), ((-2147483648), 2147483647)], [], [], 0, 0, 34, [(0, .inr (3, (0, 0))), (1, .inr (0, (8, 0))), (2, .inr (0, (9, 0))), (3, .inr (0, (10, 0))), (4, .inr (0, (11, 0))), (5, .inr (0, (12, 0)))], [.inr (0, (0, (-1))), .inr (3, (0, 0))]), [], [], [(0, 0), (0, 0), (0, 0), (0, 0), (0, 0), (0, 0), (0, 0), (0, 0), (8, 0), (9, 0), (10, 0), (11, 0), (12, 0)], 1)
noncomputable def rxoDRU_0_4 : bx_HO := (([(0, 0), (0, 0), (0, 0), (0, 0), (0, 0), (0, 0), (0, 0), (0, 0), ((-2147483648), 2147483647), (0, 5), (0, 5), (0, 9), (6, 2147483647)], [], [], 0, 0, 34, [(0, .inr (3, (0, 0))), (1, .inr (0, (8, 0))), (2, .inr (0, (9, 0))), (3, .inr (0, (10, 0))), (4, .inr (0, (11, 0))), (5, .inr (0, (12, 0)))], [.inr (0, (0, (-1))), .inr (3, (0, 0))]), [], [], [(0, 0), (0, 0), (0, 0), (0, 0), (0, 0), (0, 0), (0, 0), (0, 0), (8, 0), (9, 0), (10, 0), (11, 0), (12, 0)], 1)
noncomputable def rxoDRU_0_5 : bx_HO := (([(0, 0), (0, 0), (0, 0), (0, 0), (0, 0), (0, 0), (0, 0), (0, 0), ((-2147483648), (-1)), (0, 5), (0, 5), (0, 9), (0, 5)], [], [(((0, 0), 0), .inr (3, (0, 1)))], 0, 0, 52, [(0, .inr (3, (0, 0))), (1, .inr (0, (8, 0))), (2, .inr (0, (9, 0))), (3, .inr (0, (10, 0))), (4, .inr (0, (11, 0))), (5, .inr (0, (12, 0)))], [.inr (0, (0, (-2))), .inr (3, (0, 0))]), [], [], [(0, 0), (0, 0), (0, 0), (0, 0), (0, 0), (0, 0), (0, 0), (0, 0), (8, 0), (9, 0), (10, 0), (11, 0), (12, 0)], 3)
noncomputable def rxoDRU_0_6 : bx_HO := (([(0, 0), (0, 0), (0, 0), (0, 0), (0, 0), (0, 0), (0, 0), (0, 0), (0, 2147483647), (0, 5), (0, 5), (0, 9), (0, 5), (0, 6)], [(1, (13, 0), (8, 0))], [(((0, 0), 1851192626986356797424340330377019318111018015026043177553952768000000), .inr (0, (13, 0))), (((0, 1), 0), .inr (0, (13, 0))), (((0, 0), 0), .inr (3, (0, 1)))], 0, 0, 52, [(0, .inr (3, (0, 0))), (1, .inr (0, (8, 0))), (2, .inr (0, (9, 0))), (3, .inr (0, (10, 0))), (4, .inr (0, (11, 0))), (5, .inr (0, (12, 0)))], [.inr (0, (0, (-2))), .inr (3, (0, 0))]), [], [], [(0, 0), (0, 0), (0, 0), (0, 0), (0, 0), (0, 0), (0, 0), (0, 0), (8, 0), (9, 0), (10, 0), (11, 0), (12, 0)], 3)
noncomputable def rxoDRU_0_7 : bx_HO := (([(0, 0), (0, 0), (0, 0), (0, 0), (0, 0), (0, 0), (0, 0), (0, 0), ((-2147483648), 2147483647), (0, 5), (0, 5), (0, 9), ((-2147483648), (-1))], [], [], 0, 0, 34, [(0, .inr (3, (0, 0))), (1, .inr (0, (8, 0))), (2, .inr (0, (9, 0))), (3, .inr (0, (10, 0))), (4, .inr (0, (11, 0))), (5, .inr (0, (12, 0)))], [.inr (0, (0, (-1))), .inr (3, (0, 0))]), [], [], [(0, 0), (0, 0), (0, 0), (0, 0), (0, 0), (0, 0), (0, 0), (0, 0), (8, 0), (9, 0), (10, 0), (11, 0), (12, 0)], 1)
noncomputable def rxoDRU_0_8 : bx_HO := (([(0, 0), (0, 0), (0, 0), (0, 0), (0, 0), (0, 0), (0, 0), (0, 0), ((-2147483648), 2147483647), (0, 5), (0, 5), (10, 2147483647), ((-2147483648), 2147483647)], [], [], 0, 0, 34, [(0, .inr (3, (0, 0))), (1, .inr (0, (8, 0))), (2, .inr (0, (9, 0))), (3, .inr (0, (10, 0))), (4, .inr (0, (11, 0))), (5, .inr (0, (12, 0)))], [.inr (0, (0, (-1))), .inr (3, (0, 0))]), [], [], [(0, 0), (0, 0), (0, 0), (0, 0), (0, 0), (0, 0), (0, 0), (0, 0), (8, 0), (9, 0), (10, 0), (11, 0), (12, 0)], 1)
noncomputable def rxoDRU_0_9 : bx_HO := (([(0, 0), (0, 0), (0, 0), (0, 0), (0, 0), (0, 0), (0, 0), (0, 0), ((-2147483648), 2147483647), (0, 5), (0, 5), ((-2147483648), (-1)), ((-2147483648), 2147483647)], [], [], 0, 0, 34, [(0, .inr (3, (0, 0))), (1, .inr (0, (8, 0))), (2, .inr (0, (9, 0))), (3, .inr (0, (10, 0))), (4, .inr (0, (11, 0))), (5, .inr (0, (12, 0)))], [.inr (0, (0, (-1))), .inr (3, (0, 0))]), [], [], [(0, 0), (0, 0), (0, 0), (0, 0), (0, 0), (0, 0), (0, 0), (0, 0), (8, 0), (9, 0), (10, 0), (11, 0), (12, 0)], 1)
noncomputable def rxeDRU_0_0 : rx_End × List (Nat × Int × Int) := (([(0, 0), (0, 0), (0, 0), (0, 0), (0, 0), (0, 0), (0, 0), (0, 0), (0, 5), (0, 5), (0, 5), (0, 9), (0, 5), (1, 6), (0, 1522), (0, 1522), (0, 30), (0, 35), ((-1), 9), (0, 30), (0, 35), (0, 1522), (0, 30), (0, 35)], [(604462909807314587353098000000, (23, 0), (22, 0)), (10, (22, 0), (9, 0)), (604462909807314587353098000000, (20, 0), (19, 0)), (10, (19, 0), (9, 0)), (604462909807314587353098000000, (17, 0), (16, 0)), (10, (16, 0), (9, 0)), (0, (8, 0), (13, 0))], [(((0, 0), 1851192626986356799029993984671224184301589730656725205983952899000000), .inr (0, (0, 0))), (((0, 0), 8), .inr (0, (0, 0))), (((0, 0), 1851192626986356797424410768826971952372954933569781553573134528000000), .inr (0, (12, 0))), (((0, 0), 1851192626986356797625047037163794926384839479479878431107186814000000), .inr (3, (21, 0))), (((14, 0), 1), .inr (3, (21, 0))), (((21, 0), 1000018), .inl none), (((0, 0), 1851192626986356797424401581203065087034441422455380895831425162000000), .inr (0, (11, 0))), (((0, 0), 1851192626986356797424392393579158221695927911340980238089715847000000), .inr (0, (18, 0))), (((0, 0), 1851192626986356797424340330377019318111018015026043177553363070000000), .inr (3, (15, 0))), (((14, 0), 0), .inr (3, (15, 0))), (((15, 0), 1000019), .inl none), (((0, 0), 1851192626986356797424364830707437625680387377997778264866947072000000), .inr (3, (14, 0))), (((14, 0), 1000010), .inl none), (((0, 1), 3), .inr (3, (0, 4))), (((0, 0), 1851192626986356797424340330377019318111018015026043177553952768000000), .inr (0, (13, 0))), (((0, 1), 0), .inr (0, (13, 0))), (((0, 0), 0), .inr (3, (0, 1)))], some (.inr (0, (18, 0)))), [])
noncomputable def rxeDRU_2_0 : rx_End × List (Nat × Int × Int) := (([(0, 0), (0, 0), (0, 0), (0, 0), (0, 0), (0, 0), (0, 0), (0, 0), ((-2147483648), 2147483647), ((-2147483648), 2147483647), ((-2147483648), 2147483647), ((-2147483648), 2147483647), ((-2147483648), 2147483647), ((-6), (-1))], [], [], some (.inr (0, (13, 0)))), [])
noncomputable def rxeDRU_4_0 : rx_End × List (Nat × Int × Int) := (([(0, 0), (0, 0), (0, 0), (0, 0), (0, 0), (0, 0), (0, 0), (0, 0), ((-2147483648), 2147483647), (0, 5), (0, 5), (0, 9), (0, 5), ((-6), (-1))], [], [], some (.inr (0, (13, 0)))), [])
noncomputable def rxYDRU : List bx_HE := [(rxzDRU_0, [rxoDRU_0_0, rxoDRU_0_1, rxoDRU_0_2, rxoDRU_0_3, rxoDRU_0_4, rxoDRU_0_5, rxoDRU_0_6, rxoDRU_0_7, rxoDRU_0_8, rxoDRU_0_9], [rxeDRU_0_0]), (rxzDRU_1, [], []), (rxzDRU_2, [], [rxeDRU_2_0]), (rxzDRU_3, [], []), (rxzDRU_4, [], [rxeDRU_4_0])]
noncomputable def rxUDRU (q : bx_HE) : Bool := Nat.beq (rx_zpc q.1) 34 || Nat.beq (rx_zpc q.1) 52
noncomputable def rxYBDRU : bx_B := (rxV, rxNP, rxDmf, bx_mdH rxC199.2.2.1)
set_option maxRecDepth 100000 in
theorem rxYcDRU : bx_chkH rxYBDRU rxM199 rxC199 rxYDRU (rxUDRU, fun cut z => rx_ex2 (rxCT rxYBDRU rxCnE) cut 30000 rxC199.2.2.2.1 199 z) = true := by decide +kernel
noncomputable def rxIDRU (S0 : Nat → Int → Int) (ws : List Int) (i : Nat) : bx_SP := fun S r => match i with | 0 => rxIDRU_0 S0 ws S (r 8) (r 9) (r 10) (r 11) (r 12) | 1 => rxIDRU_1 S0 ws S (r 8) (r 9) (r 10) (r 11) (r 12) | 2 => rxIDRU_2 S0 ws S (r 8) (r 9) (r 10) (r 11) (r 12) (r 13) | 3 => rxIDRU_3 S0 ws S (r 8) (r 9) (r 10) (r 11) (r 12) | 4 => rxIDRU_4 S0 ws S (r 8) (r 9) (r 10) (r 11) (r 12) (r 13) | _ => False
noncomputable def rxmDRU (S0 : Nat → Int → Int) (ws : List Int) (i : Nat) (S : Nat → Int → Int) (r : Nat → Int) : Nat := match i with | 0 => rxmDRU_0 S0 ws S (r 8) (r 9) (r 10) (r 11) (r 12) | 1 => rxmDRU_1 S0 ws S (r 8) (r 9) (r 10) (r 11) (r 12) | 2 => rxmDRU_2 S0 ws S (r 8) (r 9) (r 10) (r 11) (r 12) (r 13) | 3 => rxmDRU_3 S0 ws S (r 8) (r 9) (r 10) (r 11) (r 12) | 4 => rxmDRU_4 S0 ws S (r 8) (r 9) (r 10) (r 11) (r 12) (r 13) | _ => 0
noncomputable def rxPDRU (S0 : Nat → Int → Int) (ws : List Int) : Prop := rkPl S0
noncomputable def rxPSDRU (S0 : Nat → Int → Int) (ws : List Int) (S : Nat → Int → Int) (w : Option Int) : Prop := ∃ pa st cu wo ne : Int, ws = [0, pa, st, cu, wo, ne] ∧ (((st < 0 ∨ 5 < st ∨ cu < 0 ∨ 5 < cu ∨ wo < 0 ∨ 9 < wo ∨ ne < 0 ∨ 5 < ne) ∧ w = some (-1) ∧ bx_same rxL (bx_mdl rxC110.2.2.1) S0 S) ∨ (0 ≤ st ∧ st ≤ 5 ∧ 0 ≤ cu ∧ cu ≤ 5 ∧ 0 ≤ wo ∧ wo ≤ 9 ∧ 0 ≤ ne ∧ ne ≤ 5 ∧ (pa < 0 ∨ S0 1 0 ≤ pa) ∧ w = some (-2) ∧ bx_same rxL (bx_mdl rxC110.2.2.1) S0 S) ∨ (0 ≤ st ∧ st ≤ 5 ∧ 0 ≤ cu ∧ cu ≤ 5 ∧ 0 ≤ wo ∧ wo ≤ 9 ∧ 0 ≤ ne ∧ ne ≤ 5 ∧ (0 ≤ pa ∧ pa < S0 1 0 ∧ pa ≤ 5) ∧ w = some (S0 (24 + 3 * pa).toNat (6 * st + cu)) ∧ (rjdSl S pa (6 * st + cu) (6 * wo + ne) ∧ rjdOt S0 S pa (6 * st + cu)) ∧ (∀ (p : Nat) (j : Int), p ≠ 0 → p ≠ (24 + 3 * pa).toNat → p ≠ (25 + 3 * pa).toNat → S p j = S0 p j)))
theorem rxkDRU_1 {S0 : Nat → Int → Int} {ws : List Int} {S : Nat → Int → Int} {pa st cu wo ne : Int} (hP : rxPDRU S0 ws) (hin : bx_same rxL (bx_mdl rxC199.2.2.1) S0 S) (I0 : bx_Inv rxL S) (hinv : rxIDRU_1 S0 ws S pa st cu wo ne) (l8 : (-2147483648) ≤ pa) (u8 : pa ≤ 2147483647) (l9 : (-2147483648) ≤ st) (u9 : st ≤ 2147483647) (l10 : (-2147483648) ≤ cu) (u10 : cu ≤ 2147483647) (l11 : (-2147483648) ≤ wo) (u11 : wo ≤ 2147483647) (l12 : (-2147483648) ≤ ne) (u12 : ne ≤ 2147483647) : rxP110 S [0, (-1)] ∧ ∀ (S_p : Nat → Int → Int) (res : Int), (-6) ≤ res → res ≤ (-1) → rxPS110 S [0, (-1)] S_p (some res) → bx_Inv rxL S_p → bx_same rxL (bx_mdl rxC110.2.2.1) S S_p → rxIDRU_2 S0 ws S_p pa st cu wo ne res ∧ rxmDRU_2 S0 ws S_p pa st cu wo ne res < rxmDRU_1 S0 ws S pa st cu wo ne := by
  obtain ⟨rfl, h1, hw⟩ := hinv
  refine ⟨trivial, fun S_p res _ _ hq _ hsm => ⟨⟨?_, h1, hw, hsm⟩, by unfold rxmDRU_1 rxmDRU_2; omega⟩⟩
  obtain ⟨c, hc, hr⟩ := hq
  simp only [List.cons.injEq, and_true, true_and] at hc
  simp only [Option.some.injEq] at hr
  omega
theorem rxsDRU_1 {X : (Nat → Int → Int) → Prop} {S0 : Nat → Int → Int} {ws : List Int} (hP : rxPDRU S0 ws) : rx_obK X S0 rxC199.2.2.1 rxC110.2.2.1 (rxIDRU S0 ws) (rxmDRU S0 ws) 1 2 rxzDRU_1 rxzDRU_2 [.inr (3, (0, 0)), .inr (0, (0, (-1)))] (some 13) rxP110 rxPS110 := by
  intro S r hinv hXS I0 hin hs_ hf_
  have b_ := bx_bds_sat hs_
  have f_ := bx_fcl_ok hs_.1 hf_
  obtain ⟨⟨l8, u8⟩, ⟨l9, u9⟩, ⟨l10, u10⟩, ⟨l11, u11⟩, ⟨l12, u12⟩, -⟩ := b_
  have g := rxkDRU_1 hP hin I0 hinv l8 u8 l9 u9 l10 u10 l11 u11 l12 u12
  have ea : List.map (bx_num r) [.inr (3, (0, 0)), .inr (0, (0, (-1)))] = [0, -1] := by
    simp only [List.map_cons, List.map_nil, bx_xv_ok hs_.1]
    rfl
  rw [ea]
  refine ⟨g.1, fun S_p w r_p hPS hX_p I1 hsm hr hw hs_p => ?_⟩
  have hw := hw _ rfl
  subst hw
  have b_p := hs_p.2.2 13 _ _ rfl
  have g2 := g.2 S_p (r_p 13) b_p.1 b_p.2 hPS I1 hsm
  show rxIDRU_2 S0 ws S_p (r_p 8) (r_p 9) (r_p 10) (r_p 11) (r_p 12) (r_p 13) ∧ rxmDRU_2 S0 ws S_p (r_p 8) (r_p 9) (r_p 10) (r_p 11) (r_p 12) (r_p 13) < _
  rw [hr 8 (by decide), hr 9 (by decide), hr 10 (by decide), hr 11 (by decide), hr 12 (by decide)]
  exact g2
theorem rxkDRU_3 {S0 : Nat → Int → Int} {ws : List Int} {S : Nat → Int → Int} {pa st cu wo ne : Int} (hP : rxPDRU S0 ws) (hin : bx_same rxL (bx_mdl rxC199.2.2.1) S0 S) (I0 : bx_Inv rxL S) (hinv : rxIDRU_3 S0 ws S pa st cu wo ne) (l8 : (-2147483648) ≤ pa) (u8 : pa ≤ 2147483647) (l9 : 0 ≤ st) (u9 : st ≤ 5) (l10 : 0 ≤ cu) (u10 : cu ≤ 5) (l11 : 0 ≤ wo) (u11 : wo ≤ 9) (l12 : 0 ≤ ne) (u12 : ne ≤ 5) : rxP110 S [0, (-2)] ∧ ∀ (S_p : Nat → Int → Int) (res : Int), (-6) ≤ res → res ≤ (-1) → rxPS110 S [0, (-2)] S_p (some res) → bx_Inv rxL S_p → bx_same rxL (bx_mdl rxC110.2.2.1) S S_p → rxIDRU_4 S0 ws S_p pa st cu wo ne res ∧ rxmDRU_4 S0 ws S_p pa st cu wo ne res < rxmDRU_3 S0 ws S pa st cu wo ne := by
  obtain ⟨rfl, h1, h2, hw⟩ := hinv
  refine ⟨trivial, fun S_p res _ _ hq _ hsm => ⟨⟨?_, h1, h2, hw, hsm⟩, by unfold rxmDRU_3 rxmDRU_4; omega⟩⟩
  obtain ⟨c, hc, hr⟩ := hq
  simp only [List.cons.injEq, and_true, true_and] at hc
  simp only [Option.some.injEq] at hr
  omega
theorem rxsDRU_3 {X : (Nat → Int → Int) → Prop} {S0 : Nat → Int → Int} {ws : List Int} (hP : rxPDRU S0 ws) : rx_obK X S0 rxC199.2.2.1 rxC110.2.2.1 (rxIDRU S0 ws) (rxmDRU S0 ws) 3 4 rxzDRU_3 rxzDRU_4 [.inr (3, (0, 0)), .inr (0, (0, (-2)))] (some 13) rxP110 rxPS110 := by
  intro S r hinv hXS I0 hin hs_ hf_
  have b_ := bx_bds_sat hs_
  have f_ := bx_fcl_ok hs_.1 hf_
  obtain ⟨⟨l8, u8⟩, ⟨l9, u9⟩, ⟨l10, u10⟩, ⟨l11, u11⟩, ⟨l12, u12⟩, -⟩ := b_
  have g := rxkDRU_3 hP hin I0 hinv l8 u8 l9 u9 l10 u10 l11 u11 l12 u12
  have ea : List.map (bx_num r) [.inr (3, (0, 0)), .inr (0, (0, (-2)))] = [0, -2] := by
    simp only [List.map_cons, List.map_nil, bx_xv_ok hs_.1]
    rfl
  rw [ea]
  refine ⟨g.1, fun S_p w r_p hPS hX_p I1 hsm hr hw hs_p => ?_⟩
  have hw := hw _ rfl
  subst hw
  have b_p := hs_p.2.2 13 _ _ rfl
  have g2 := g.2 S_p (r_p 13) b_p.1 b_p.2 hPS I1 hsm
  show rxIDRU_4 S0 ws S_p (r_p 8) (r_p 9) (r_p 10) (r_p 11) (r_p 12) (r_p 13) ∧ rxmDRU_4 S0 ws S_p (r_p 8) (r_p 9) (r_p 10) (r_p 11) (r_p 12) (r_p 13) < _
  rw [hr 8 (by decide), hr 9 (by decide), hr 10 (by decide), hr 11 (by decide), hr 12 (by decide)]
  exact g2
theorem rxcDRU_0_0 {S0 : Nat → Int → Int} {ws : List Int} {S : Nat → Int → Int} {pa st cu wo ne : Int} (hP : rxPDRU S0 ws) (hin : bx_same rxL (bx_mdl rxC199.2.2.1) S0 S) (I0 : bx_Inv rxL S) (hinv : rxIDRU_0 S0 ws S pa st cu wo ne) (l8 : (-2147483648) ≤ pa) (u8 : pa ≤ 2147483647) (l9 : (-2147483648) ≤ st) (u9 : st ≤ (-1)) (l10 : (-2147483648) ≤ cu) (u10 : cu ≤ 2147483647) (l11 : (-2147483648) ≤ wo) (u11 : wo ≤ 2147483647) (l12 : (-2147483648) ≤ ne) (u12 : ne ≤ 2147483647) : (True) ∧ (True) ∧ rxIDRU_1 S0 ws S pa st cu wo ne ∧ rxmDRU_1 S0 ws S pa st cu wo ne < rxmDRU_0 S0 ws S pa st cu wo ne := by
  obtain ⟨rfl, hw⟩ := hinv
  exact ⟨trivial, trivial, ⟨rfl, by omega, hw⟩, by unfold rxmDRU_0 rxmDRU_1; omega⟩
theorem rxgDRU_0_0 {X : (Nat → Int → Int) → Prop} {S0 : Nat → Int → Int} {ws : List Int} (hP : rxPDRU S0 ws) : bx_obC rxL X S0 rxC199.2.2.1 (rxIDRU S0 ws) (rxmDRU S0 ws) 0 rxzDRU_0 rxoDRU_0_0 := by
  intro S S_p r r_p hinv hX hin hsm_ hseg
  obtain ⟨I0, I1, h0_, hr_, b_, f_, d_⟩ := bx_cl (evs := []) (fvs := []) hseg (by decide +kernel) (by decide +kernel)
  have hinv : rxIDRU_0 S0 ws S (r 8) (r 9) (r 10) (r 11) (r 12) := hinv
  rw [← hr_ 8 (by decide), ← hr_ 9 (by decide), ← hr_ 10 (by decide), ← hr_ 11 (by decide), ← hr_ 12 (by decide)] at hinv
  obtain ⟨⟨l8, u8⟩, ⟨l9, u9⟩, ⟨l10, u10⟩, ⟨l11, u11⟩, ⟨l12, u12⟩, -⟩ := b_
  have w_ := d_
  subst w_
  have g := rxcDRU_0_0 hP hin I0 hinv l8 u8 l9 u9 l10 u10 l11 u11 l12 u12
  refine ⟨bx_narP_ok (l := []) g.1, bx_nfP_ok h0_ (fvs := []) (by decide +kernel) g.2.1, ?_, ?_⟩
  · show rxIDRU_1 S0 ws S_p (bx_val [(0, 0), (0, 0), (0, 0), (0, 0), (0, 0), (0, 0), (0, 0), (0, 0), (8, 0), (9, 0), (10, 0), (11, 0), (12, 0)] r_p 8) (bx_val [(0, 0), (0, 0), (0, 0), (0, 0), (0, 0), (0, 0), (0, 0), (0, 0), (8, 0), (9, 0), (10, 0), (11, 0), (12, 0)] r_p 9) (bx_val [(0, 0), (0, 0), (0, 0), (0, 0), (0, 0), (0, 0), (0, 0), (0, 0), (8, 0), (9, 0), (10, 0), (11, 0), (12, 0)] r_p 10) (bx_val [(0, 0), (0, 0), (0, 0), (0, 0), (0, 0), (0, 0), (0, 0), (0, 0), (8, 0), (9, 0), (10, 0), (11, 0), (12, 0)] r_p 11) (bx_val [(0, 0), (0, 0), (0, 0), (0, 0), (0, 0), (0, 0), (0, 0), (0, 0), (8, 0), (9, 0), (10, 0), (11, 0), (12, 0)] r_p 12)
    rw [bx_val_x (n := 8) (e := (8, 0)) h0_ rfl, bx_val_x (n := 9) (e := (9, 0)) h0_ rfl, bx_val_x (n := 10) (e := (10, 0)) h0_ rfl, bx_val_x (n := 11) (e := (11, 0)) h0_ rfl, bx_val_x (n := 12) (e := (12, 0)) h0_ rfl]
    exact g.2.2.1
  · show rxmDRU_1 S0 ws S_p (bx_val [(0, 0), (0, 0), (0, 0), (0, 0), (0, 0), (0, 0), (0, 0), (0, 0), (8, 0), (9, 0), (10, 0), (11, 0), (12, 0)] r_p 8) (bx_val [(0, 0), (0, 0), (0, 0), (0, 0), (0, 0), (0, 0), (0, 0), (0, 0), (8, 0), (9, 0), (10, 0), (11, 0), (12, 0)] r_p 9) (bx_val [(0, 0), (0, 0), (0, 0), (0, 0), (0, 0), (0, 0), (0, 0), (0, 0), (8, 0), (9, 0), (10, 0), (11, 0), (12, 0)] r_p 10) (bx_val [(0, 0), (0, 0), (0, 0), (0, 0), (0, 0), (0, 0), (0, 0), (0, 0), (8, 0), (9, 0), (10, 0), (11, 0), (12, 0)] r_p 11) (bx_val [(0, 0), (0, 0), (0, 0), (0, 0), (0, 0), (0, 0), (0, 0), (0, 0), (8, 0), (9, 0), (10, 0), (11, 0), (12, 0)] r_p 12) < rxmDRU_0 S0 ws S_p (r 8) (r 9) (r 10) (r 11) (r 12)
    rw [bx_val_x (n := 8) (e := (8, 0)) h0_ rfl, bx_val_x (n := 9) (e := (9, 0)) h0_ rfl, bx_val_x (n := 10) (e := (10, 0)) h0_ rfl, bx_val_x (n := 11) (e := (11, 0)) h0_ rfl, bx_val_x (n := 12) (e := (12, 0)) h0_ rfl, ← hr_ 8 (by decide), ← hr_ 9 (by decide), ← hr_ 10 (by decide), ← hr_ 11 (by decide), ← hr_ 12 (by decide)]
    exact g.2.2.2
theorem rxcDRU_0_1 {S0 : Nat → Int → Int} {ws : List Int} {S : Nat → Int → Int} {pa st cu wo ne : Int} (hP : rxPDRU S0 ws) (hin : bx_same rxL (bx_mdl rxC199.2.2.1) S0 S) (I0 : bx_Inv rxL S) (hinv : rxIDRU_0 S0 ws S pa st cu wo ne) (l8 : (-2147483648) ≤ pa) (u8 : pa ≤ 2147483647) (l9 : 6 ≤ st) (u9 : st ≤ 2147483647) (l10 : (-2147483648) ≤ cu) (u10 : cu ≤ 2147483647) (l11 : (-2147483648) ≤ wo) (u11 : wo ≤ 2147483647) (l12 : (-2147483648) ≤ ne) (u12 : ne ≤ 2147483647) : (True) ∧ (True) ∧ rxIDRU_1 S0 ws S pa st cu wo ne ∧ rxmDRU_1 S0 ws S pa st cu wo ne < rxmDRU_0 S0 ws S pa st cu wo ne := by
  obtain ⟨rfl, hw⟩ := hinv
  exact ⟨trivial, trivial, ⟨rfl, by omega, hw⟩, by unfold rxmDRU_0 rxmDRU_1; omega⟩
theorem rxgDRU_0_1 {X : (Nat → Int → Int) → Prop} {S0 : Nat → Int → Int} {ws : List Int} (hP : rxPDRU S0 ws) : bx_obC rxL X S0 rxC199.2.2.1 (rxIDRU S0 ws) (rxmDRU S0 ws) 0 rxzDRU_0 rxoDRU_0_1 := by
  intro S S_p r r_p hinv hX hin hsm_ hseg
  obtain ⟨I0, I1, h0_, hr_, b_, f_, d_⟩ := bx_cl (evs := []) (fvs := []) hseg (by decide +kernel) (by decide +kernel)
  have hinv : rxIDRU_0 S0 ws S (r 8) (r 9) (r 10) (r 11) (r 12) := hinv
  rw [← hr_ 8 (by decide), ← hr_ 9 (by decide), ← hr_ 10 (by decide), ← hr_ 11 (by decide), ← hr_ 12 (by decide)] at hinv
  obtain ⟨⟨l8, u8⟩, ⟨l9, u9⟩, ⟨l10, u10⟩, ⟨l11, u11⟩, ⟨l12, u12⟩, -⟩ := b_
  have w_ := d_
  subst w_
  have g := rxcDRU_0_1 hP hin I0 hinv l8 u8 l9 u9 l10 u10 l11 u11 l12 u12
  refine ⟨bx_narP_ok (l := []) g.1, bx_nfP_ok h0_ (fvs := []) (by decide +kernel) g.2.1, ?_, ?_⟩
  · show rxIDRU_1 S0 ws S_p (bx_val [(0, 0), (0, 0), (0, 0), (0, 0), (0, 0), (0, 0), (0, 0), (0, 0), (8, 0), (9, 0), (10, 0), (11, 0), (12, 0)] r_p 8) (bx_val [(0, 0), (0, 0), (0, 0), (0, 0), (0, 0), (0, 0), (0, 0), (0, 0), (8, 0), (9, 0), (10, 0), (11, 0), (12, 0)] r_p 9) (bx_val [(0, 0), (0, 0), (0, 0), (0, 0), (0, 0), (0, 0), (0, 0), (0, 0), (8, 0), (9, 0), (10, 0), (11, 0), (12, 0)] r_p 10) (bx_val [(0, 0), (0, 0), (0, 0), (0, 0), (0, 0), (0, 0), (0, 0), (0, 0), (8, 0), (9, 0), (10, 0), (11, 0), (12, 0)] r_p 11) (bx_val [(0, 0), (0, 0), (0, 0), (0, 0), (0, 0), (0, 0), (0, 0), (0, 0), (8, 0), (9, 0), (10, 0), (11, 0), (12, 0)] r_p 12)
    rw [bx_val_x (n := 8) (e := (8, 0)) h0_ rfl, bx_val_x (n := 9) (e := (9, 0)) h0_ rfl, bx_val_x (n := 10) (e := (10, 0)) h0_ rfl, bx_val_x (n := 11) (e := (11, 0)) h0_ rfl, bx_val_x (n := 12) (e := (12, 0)) h0_ rfl]
    exact g.2.2.1
  · show rxmDRU_1 S0 ws S_p (bx_val [(0, 0), (0, 0), (0, 0), (0, 0), (0, 0), (0, 0), (0, 0), (0, 0), (8, 0), (9, 0), (10, 0), (11, 0), (12, 0)] r_p 8) (bx_val [(0, 0), (0, 0), (0, 0), (0, 0), (0, 0), (0, 0), (0, 0), (0, 0), (8, 0), (9, 0), (10, 0), (11, 0), (12, 0)] r_p 9) (bx_val [(0, 0), (0, 0), (0, 0), (0, 0), (0, 0), (0, 0), (0, 0), (0, 0), (8, 0), (9, 0), (10, 0), (11, 0), (12, 0)] r_p 10) (bx_val [(0, 0), (0, 0), (0, 0), (0, 0), (0, 0), (0, 0), (0, 0), (0, 0), (8, 0), (9, 0), (10, 0), (11, 0), (12, 0)] r_p 11) (bx_val [(0, 0), (0, 0), (0, 0), (0, 0), (0, 0), (0, 0), (0, 0), (0, 0), (8, 0), (9, 0), (10, 0), (11, 0), (12, 0)] r_p 12) < rxmDRU_0 S0 ws S_p (r 8) (r 9) (r 10) (r 11) (r 12)
    rw [bx_val_x (n := 8) (e := (8, 0)) h0_ rfl, bx_val_x (n := 9) (e := (9, 0)) h0_ rfl, bx_val_x (n := 10) (e := (10, 0)) h0_ rfl, bx_val_x (n := 11) (e := (11, 0)) h0_ rfl, bx_val_x (n := 12) (e := (12, 0)) h0_ rfl, ← hr_ 8 (by decide), ← hr_ 9 (by decide), ← hr_ 10 (by decide), ← hr_ 11 (by decide), ← hr_ 12 (by decide)]
    exact g.2.2.2
theorem rxcDRU_0_2 {S0 : Nat → Int → Int} {ws : List Int} {S : Nat → Int → Int} {pa st cu wo ne : Int} (hP : rxPDRU S0 ws) (hin : bx_same rxL (bx_mdl rxC199.2.2.1) S0 S) (I0 : bx_Inv rxL S) (hinv : rxIDRU_0 S0 ws S pa st cu wo ne) (l8 : (-2147483648) ≤ pa) (u8 : pa ≤ 2147483647) (l9 : 0 ≤ st) (u9 : st ≤ 5) (l10 : (-2147483648) ≤ cu) (u10 : cu ≤ (-1)) (l11 : (-2147483648) ≤ wo) (u11 : wo ≤ 2147483647) (l12 : (-2147483648) ≤ ne) (u12 : ne ≤ 2147483647) : (True) ∧ (True) ∧ rxIDRU_1 S0 ws S pa st cu wo ne ∧ rxmDRU_1 S0 ws S pa st cu wo ne < rxmDRU_0 S0 ws S pa st cu wo ne := by
  obtain ⟨rfl, hw⟩ := hinv
  exact ⟨trivial, trivial, ⟨rfl, by omega, hw⟩, by unfold rxmDRU_0 rxmDRU_1; omega⟩
theorem rxgDRU_0_2 {X : (Nat → Int → Int) → Prop} {S0 : Nat → Int → Int} {ws : List Int} (hP : rxPDRU S0 ws) : bx_obC rxL X S0 rxC199.2.2.1 (rxIDRU S0 ws) (rxmDRU S0 ws) 0 rxzDRU_0 rxoDRU_0_2 := by
  intro S S_p r r_p hinv hX hin hsm_ hseg
  obtain ⟨I0, I1, h0_, hr_, b_, f_, d_⟩ := bx_cl (evs := []) (fvs := []) hseg (by decide +kernel) (by decide +kernel)
  have hinv : rxIDRU_0 S0 ws S (r 8) (r 9) (r 10) (r 11) (r 12) := hinv
  rw [← hr_ 8 (by decide), ← hr_ 9 (by decide), ← hr_ 10 (by decide), ← hr_ 11 (by decide), ← hr_ 12 (by decide)] at hinv
  obtain ⟨⟨l8, u8⟩, ⟨l9, u9⟩, ⟨l10, u10⟩, ⟨l11, u11⟩, ⟨l12, u12⟩, -⟩ := b_
  have w_ := d_
  subst w_
  have g := rxcDRU_0_2 hP hin I0 hinv l8 u8 l9 u9 l10 u10 l11 u11 l12 u12
  refine ⟨bx_narP_ok (l := []) g.1, bx_nfP_ok h0_ (fvs := []) (by decide +kernel) g.2.1, ?_, ?_⟩
  · show rxIDRU_1 S0 ws S_p (bx_val [(0, 0), (0, 0), (0, 0), (0, 0), (0, 0), (0, 0), (0, 0), (0, 0), (8, 0), (9, 0), (10, 0), (11, 0), (12, 0)] r_p 8) (bx_val [(0, 0), (0, 0), (0, 0), (0, 0), (0, 0), (0, 0), (0, 0), (0, 0), (8, 0), (9, 0), (10, 0), (11, 0), (12, 0)] r_p 9) (bx_val [(0, 0), (0, 0), (0, 0), (0, 0), (0, 0), (0, 0), (0, 0), (0, 0), (8, 0), (9, 0), (10, 0), (11, 0), (12, 0)] r_p 10) (bx_val [(0, 0), (0, 0), (0, 0), (0, 0), (0, 0), (0, 0), (0, 0), (0, 0), (8, 0), (9, 0), (10, 0), (11, 0), (12, 0)] r_p 11) (bx_val [(0, 0), (0, 0), (0, 0), (0, 0), (0, 0), (0, 0), (0, 0), (0, 0), (8, 0), (9, 0), (10, 0), (11, 0), (12, 0)] r_p 12)
    rw [bx_val_x (n := 8) (e := (8, 0)) h0_ rfl, bx_val_x (n := 9) (e := (9, 0)) h0_ rfl, bx_val_x (n := 10) (e := (10, 0)) h0_ rfl, bx_val_x (n := 11) (e := (11, 0)) h0_ rfl, bx_val_x (n := 12) (e := (12, 0)) h0_ rfl]
    exact g.2.2.1
  · show rxmDRU_1 S0 ws S_p (bx_val [(0, 0), (0, 0), (0, 0), (0, 0), (0, 0), (0, 0), (0, 0), (0, 0), (8, 0), (9, 0), (10, 0), (11, 0), (12, 0)] r_p 8) (bx_val [(0, 0), (0, 0), (0, 0), (0, 0), (0, 0), (0, 0), (0, 0), (0, 0), (8, 0), (9, 0), (10, 0), (11, 0), (12, 0)] r_p 9) (bx_val [(0, 0), (0, 0), (0, 0), (0, 0), (0, 0), (0, 0), (0, 0), (0, 0), (8, 0), (9, 0), (10, 0), (11, 0), (12, 0)] r_p 10) (bx_val [(0, 0), (0, 0), (0, 0), (0, 0), (0, 0), (0, 0), (0, 0), (0, 0), (8, 0), (9, 0), (10, 0), (11, 0), (12, 0)] r_p 11) (bx_val [(0, 0), (0, 0), (0, 0), (0, 0), (0, 0), (0, 0), (0, 0), (0, 0), (8, 0), (9, 0), (10, 0), (11, 0), (12, 0)] r_p 12) < rxmDRU_0 S0 ws S_p (r 8) (r 9) (r 10) (r 11) (r 12)
    rw [bx_val_x (n := 8) (e := (8, 0)) h0_ rfl, bx_val_x (n := 9) (e := (9, 0)) h0_ rfl, bx_val_x (n := 10) (e := (10, 0)) h0_ rfl, bx_val_x (n := 11) (e := (11, 0)) h0_ rfl, bx_val_x (n := 12) (e := (12, 0)) h0_ rfl, ← hr_ 8 (by decide), ← hr_ 9 (by decide), ← hr_ 10 (by decide), ← hr_ 11 (by decide), ← hr_ 12 (by decide)]
    exact g.2.2.2
theorem rxcDRU_0_3 {S0 : Nat → Int → Int} {ws : List Int} {S : Nat → Int → Int} {pa st cu wo ne : Int} (hP : rxPDRU S0 ws) (hin : bx_same rxL (bx_mdl rxC199.2.2.1) S0 S) (I0 : bx_Inv rxL S) (hinv : rxIDRU_0 S0 ws S pa st cu wo ne) (l8 : (-2147483648) ≤ pa) (u8 : pa ≤ 2147483647) (l9 : 0 ≤ st) (u9 : st ≤ 5) (l10 : 6 ≤ cu) (u10 : cu ≤ 2147483647) (l11 : (-2147483648) ≤ wo) (u11 : wo ≤ 2147483647) (l12 : (-2147483648) ≤ ne) (u12 : ne ≤ 2147483647) : (True) ∧ (True) ∧ rxIDRU_1 S0 ws S pa st cu wo ne ∧ rxmDRU_1 S0 ws S pa st cu wo ne < rxmDRU_0 S0 ws S pa st cu wo ne := by
  obtain ⟨rfl, hw⟩ := hinv
  exact ⟨trivial, trivial, ⟨rfl, by omega, hw⟩, by unfold rxmDRU_0 rxmDRU_1; omega⟩
theorem rxgDRU_0_3 {X : (Nat → Int → Int) → Prop} {S0 : Nat → Int → Int} {ws : List Int} (hP : rxPDRU S0 ws) : bx_obC rxL X S0 rxC199.2.2.1 (rxIDRU S0 ws) (rxmDRU S0 ws) 0 rxzDRU_0 rxoDRU_0_3 := by
  intro S S_p r r_p hinv hX hin hsm_ hseg
  obtain ⟨I0, I1, h0_, hr_, b_, f_, d_⟩ := bx_cl (evs := []) (fvs := []) hseg (by decide +kernel) (by decide +kernel)
  have hinv : rxIDRU_0 S0 ws S (r 8) (r 9) (r 10) (r 11) (r 12) := hinv
  rw [← hr_ 8 (by decide), ← hr_ 9 (by decide), ← hr_ 10 (by decide), ← hr_ 11 (by decide), ← hr_ 12 (by decide)] at hinv
  obtain ⟨⟨l8, u8⟩, ⟨l9, u9⟩, ⟨l10, u10⟩, ⟨l11, u11⟩, ⟨l12, u12⟩, -⟩ := b_
  have w_ := d_
  subst w_
  have g := rxcDRU_0_3 hP hin I0 hinv l8 u8 l9 u9 l10 u10 l11 u11 l12 u12
  refine ⟨bx_narP_ok (l := []) g.1, bx_nfP_ok h0_ (fvs := []) (by decide +kernel) g.2.1, ?_, ?_⟩
  · show rxIDRU_1 S0 ws S_p (bx_val [(0, 0), (0, 0), (0, 0), (0, 0), (0, 0), (0, 0), (0, 0), (0, 0), (8, 0), (9, 0), (10, 0), (11, 0), (12, 0)] r_p 8) (bx_val [(0, 0), (0, 0), (0, 0), (0, 0), (0, 0), (0, 0), (0, 0), (0, 0), (8, 0), (9, 0), (10, 0), (11, 0), (12, 0)] r_p 9) (bx_val [(0, 0), (0, 0), (0, 0), (0, 0), (0, 0), (0, 0), (0, 0), (0, 0), (8, 0), (9, 0), (10, 0), (11, 0), (12, 0)] r_p 10) (bx_val [(0, 0), (0, 0), (0, 0), (0, 0), (0, 0), (0, 0), (0, 0), (0, 0), (8, 0), (9, 0), (10, 0), (11, 0), (12, 0)] r_p 11) (bx_val [(0, 0), (0, 0), (0, 0), (0, 0), (0, 0), (0, 0), (0, 0), (0, 0), (8, 0), (9, 0), (10, 0), (11, 0), (12, 0)] r_p 12)
    rw [bx_val_x (n := 8) (e := (8, 0)) h0_ rfl, bx_val_x (n := 9) (e := (9, 0)) h0_ rfl, bx_val_x (n := 10) (e := (10, 0)) h0_ rfl, bx_val_x (n := 11) (e := (11, 0)) h0_ rfl, bx_val_x (n := 12) (e := (12, 0)) h0_ rfl]
    exact g.2.2.1
  · show rxmDRU_1 S0 ws S_p (bx_val [(0, 0), (0, 0), (0, 0), (0, 0), (0, 0), (0, 0), (0, 0), (0, 0), (8, 0), (9, 0), (10, 0), (11, 0), (12, 0)] r_p 8) (bx_val [(0, 0), (0, 0), (0, 0), (0, 0), (0, 0), (0, 0), (0, 0), (0, 0), (8, 0), (9, 0), (10, 0), (11, 0), (12, 0)] r_p 9) (bx_val [(0, 0), (0, 0), (0, 0), (0, 0), (0, 0), (0, 0), (0, 0), (0, 0), (8, 0), (9, 0), (10, 0), (11, 0), (12, 0)] r_p 10) (bx_val [(0, 0), (0, 0), (0, 0), (0, 0), (0, 0), (0, 0), (0, 0), (0, 0), (8, 0), (9, 0), (10, 0), (11, 0), (12, 0)] r_p 11) (bx_val [(0, 0), (0, 0), (0, 0), (0, 0), (0, 0), (0, 0), (0, 0), (0, 0), (8, 0), (9, 0), (10, 0), (11, 0), (12, 0)] r_p 12) < rxmDRU_0 S0 ws S_p (r 8) (r 9) (r 10) (r 11) (r 12)
    rw [bx_val_x (n := 8) (e := (8, 0)) h0_ rfl, bx_val_x (n := 9) (e := (9, 0)) h0_ rfl, bx_val_x (n := 10) (e := (10, 0)) h0_ rfl, bx_val_x (n := 11) (e := (11, 0)) h0_ rfl, bx_val_x (n := 12) (e := (12, 0)) h0_ rfl, ← hr_ 8 (by decide), ← hr_ 9 (by decide), ← hr_ 10 (by decide), ← hr_ 11 (by decide), ← hr_ 12 (by decide)]
    exact g.2.2.2
theorem rxcDRU_0_4 {S0 : Nat → Int → Int} {ws : List Int} {S : Nat → Int → Int} {pa st cu wo ne : Int} (hP : rxPDRU S0 ws) (hin : bx_same rxL (bx_mdl rxC199.2.2.1) S0 S) (I0 : bx_Inv rxL S) (hinv : rxIDRU_0 S0 ws S pa st cu wo ne) (l8 : (-2147483648) ≤ pa) (u8 : pa ≤ 2147483647) (l9 : 0 ≤ st) (u9 : st ≤ 5) (l10 : 0 ≤ cu) (u10 : cu ≤ 5) (l11 : 0 ≤ wo) (u11 : wo ≤ 9) (l12 : 6 ≤ ne) (u12 : ne ≤ 2147483647) : (True) ∧ (True) ∧ rxIDRU_1 S0 ws S pa st cu wo ne ∧ rxmDRU_1 S0 ws S pa st cu wo ne < rxmDRU_0 S0 ws S pa st cu wo ne := by
  obtain ⟨rfl, hw⟩ := hinv
  exact ⟨trivial, trivial, ⟨rfl, by omega, hw⟩, by unfold rxmDRU_0 rxmDRU_1; omega⟩
theorem rxgDRU_0_4 {X : (Nat → Int → Int) → Prop} {S0 : Nat → Int → Int} {ws : List Int} (hP : rxPDRU S0 ws) : bx_obC rxL X S0 rxC199.2.2.1 (rxIDRU S0 ws) (rxmDRU S0 ws) 0 rxzDRU_0 rxoDRU_0_4 := by
  intro S S_p r r_p hinv hX hin hsm_ hseg
  obtain ⟨I0, I1, h0_, hr_, b_, f_, d_⟩ := bx_cl (evs := []) (fvs := []) hseg (by decide +kernel) (by decide +kernel)
  have hinv : rxIDRU_0 S0 ws S (r 8) (r 9) (r 10) (r 11) (r 12) := hinv
  rw [← hr_ 8 (by decide), ← hr_ 9 (by decide), ← hr_ 10 (by decide), ← hr_ 11 (by decide), ← hr_ 12 (by decide)] at hinv
  obtain ⟨⟨l8, u8⟩, ⟨l9, u9⟩, ⟨l10, u10⟩, ⟨l11, u11⟩, ⟨l12, u12⟩, -⟩ := b_
  have w_ := d_
  subst w_
  have g := rxcDRU_0_4 hP hin I0 hinv l8 u8 l9 u9 l10 u10 l11 u11 l12 u12
  refine ⟨bx_narP_ok (l := []) g.1, bx_nfP_ok h0_ (fvs := []) (by decide +kernel) g.2.1, ?_, ?_⟩
  · show rxIDRU_1 S0 ws S_p (bx_val [(0, 0), (0, 0), (0, 0), (0, 0), (0, 0), (0, 0), (0, 0), (0, 0), (8, 0), (9, 0), (10, 0), (11, 0), (12, 0)] r_p 8) (bx_val [(0, 0), (0, 0), (0, 0), (0, 0), (0, 0), (0, 0), (0, 0), (0, 0), (8, 0), (9, 0), (10, 0), (11, 0), (12, 0)] r_p 9) (bx_val [(0, 0), (0, 0), (0, 0), (0, 0), (0, 0), (0, 0), (0, 0), (0, 0), (8, 0), (9, 0), (10, 0), (11, 0), (12, 0)] r_p 10) (bx_val [(0, 0), (0, 0), (0, 0), (0, 0), (0, 0), (0, 0), (0, 0), (0, 0), (8, 0), (9, 0), (10, 0), (11, 0), (12, 0)] r_p 11) (bx_val [(0, 0), (0, 0), (0, 0), (0, 0), (0, 0), (0, 0), (0, 0), (0, 0), (8, 0), (9, 0), (10, 0), (11, 0), (12, 0)] r_p 12)
    rw [bx_val_x (n := 8) (e := (8, 0)) h0_ rfl, bx_val_x (n := 9) (e := (9, 0)) h0_ rfl, bx_val_x (n := 10) (e := (10, 0)) h0_ rfl, bx_val_x (n := 11) (e := (11, 0)) h0_ rfl, bx_val_x (n := 12) (e := (12, 0)) h0_ rfl]
    exact g.2.2.1
  · show rxmDRU_1 S0 ws S_p (bx_val [(0, 0), (0, 0), (0, 0), (0, 0), (0, 0), (0, 0), (0, 0), (0, 0), (8, 0), (9, 0), (10, 0), (11, 0), (12, 0)] r_p 8) (bx_val [(0, 0), (0, 0), (0, 0), (0, 0), (0, 0), (0, 0), (0, 0), (0, 0), (8, 0), (9, 0), (10, 0), (11, 0), (12, 0)] r_p 9) (bx_val [(0, 0), (0, 0), (0, 0), (0, 0), (0, 0), (0, 0), (0, 0), (0, 0), (8, 0), (9, 0), (10, 0), (11, 0), (12, 0)] r_p 10) (bx_val [(0, 0), (0, 0), (0, 0), (0, 0), (0, 0), (0, 0), (0, 0), (0, 0), (8, 0), (9, 0), (10, 0), (11, 0), (12, 0)] r_p 11) (bx_val [(0, 0), (0, 0), (0, 0), (0, 0), (0, 0), (0, 0), (0, 0), (0, 0), (8, 0), (9, 0), (10, 0), (11, 0), (12, 0)] r_p 12) < rxmDRU_0 S0 ws S_p (r 8) (r 9) (r 10) (r 11) (r 12)
    rw [bx_val_x (n := 8) (e := (8, 0)) h0_ rfl, bx_val_x (n := 9) (e := (9, 0)) h0_ rfl, bx_val_x (n := 10) (e := (10, 0)) h0_ rfl, bx_val_x (n := 11) (e := (11, 0)) h0_ rfl, bx_val_x (n := 12) (e := (12, 0)) h0_ rfl, ← hr_ 8 (by decide), ← hr_ 9 (by decide), ← hr_ 10 (by decide), ← hr_ 11 (by decide), ← hr_ 12 (by decide)]
    exact g.2.2.2
theorem rxcDRU_0_5 {S0 : Nat → Int → Int} {ws : List Int} {S : Nat → Int → Int} {pa st cu wo ne : Int} (hP : rxPDRU S0 ws) (hin : bx_same rxL (bx_mdl rxC199.2.2.1) S0 S) (I0 : bx_Inv rxL S) (hinv : rxIDRU_0 S0 ws S pa st cu wo ne) (l8 : (-2147483648) ≤ pa) (u8 : pa ≤ (-1)) (l9 : 0 ≤ st) (u9 : st ≤ 5) (l10 : 0 ≤ cu) (u10 : cu ≤ 5) (l11 : 0 ≤ wo) (u11 : wo ≤ 9) (l12 : 0 ≤ ne) (u12 : ne ≤ 5) : (True) ∧ (True) ∧ rxIDRU_3 S0 ws S pa st cu wo ne ∧ rxmDRU_3 S0 ws S pa st cu wo ne < rxmDRU_0 S0 ws S pa st cu wo ne := by
  obtain ⟨rfl, hw⟩ := hinv
  exact ⟨trivial, trivial, ⟨rfl, ⟨by omega, by omega, by omega, by omega, by omega, by omega, by omega, by omega⟩, by omega, hw⟩, by unfold rxmDRU_0 rxmDRU_3; omega⟩
theorem rxgDRU_0_5 {X : (Nat → Int → Int) → Prop} {S0 : Nat → Int → Int} {ws : List Int} (hP : rxPDRU S0 ws) : bx_obC rxL X S0 rxC199.2.2.1 (rxIDRU S0 ws) (rxmDRU S0 ws) 0 rxzDRU_0 rxoDRU_0_5 := by
  intro S S_p r r_p hinv hX hin hsm_ hseg
  obtain ⟨I0, I1, h0_, hr_, b_, f_, d_⟩ := bx_cl (evs := []) (fvs := []) hseg (by decide +kernel) (by decide +kernel)
  have hinv : rxIDRU_0 S0 ws S (r 8) (r 9) (r 10) (r 11) (r 12) := hinv
  rw [← hr_ 8 (by decide), ← hr_ 9 (by decide), ← hr_ 10 (by decide), ← hr_ 11 (by decide), ← hr_ 12 (by decide)] at hinv
  obtain ⟨⟨l8, u8⟩, ⟨l9, u9⟩, ⟨l10, u10⟩, ⟨l11, u11⟩, ⟨l12, u12⟩, -⟩ := b_
  have w_ := d_
  subst w_
  have g := rxcDRU_0_5 hP hin I0 hinv l8 u8 l9 u9 l10 u10 l11 u11 l12 u12
  refine ⟨bx_narP_ok (l := []) g.1, bx_nfP_ok h0_ (fvs := []) (by decide +kernel) g.2.1, ?_, ?_⟩
  · show rxIDRU_3 S0 ws S_p (bx_val [(0, 0), (0, 0), (0, 0), (0, 0), (0, 0), (0, 0), (0, 0), (0, 0), (8, 0), (9, 0), (10, 0), (11, 0), (12, 0)] r_p 8) (bx_val [(0, 0), (0, 0), (0, 0), (0, 0), (0, 0), (0, 0), (0, 0), (0, 0), (8, 0), (9, 0), (10, 0), (11, 0), (12, 0)] r_p 9) (bx_val [(0, 0), (0, 0), (0, 0), (0, 0), (0, 0), (0, 0), (0, 0), (0, 0), (8, 0), (9, 0), (10, 0), (11, 0), (12, 0)] r_p 10) (bx_val [(0, 0), (0, 0), (0, 0), (0, 0), (0, 0), (0, 0), (0, 0), (0, 0), (8, 0), (9, 0), (10, 0), (11, 0), (12, 0)] r_p 11) (bx_val [(0, 0), (0, 0), (0, 0), (0, 0), (0, 0), (0, 0), (0, 0), (0, 0), (8, 0), (9, 0), (10, 0), (11, 0), (12, 0)] r_p 12)
    rw [bx_val_x (n := 8) (e := (8, 0)) h0_ rfl, bx_val_x (n := 9) (e := (9, 0)) h0_ rfl, bx_val_x (n := 10) (e := (10, 0)) h0_ rfl, bx_val_x (n := 11) (e := (11, 0)) h0_ rfl, bx_val_x (n := 12) (e := (12, 0)) h0_ rfl]
    exact g.2.2.1
  · show rxmDRU_3 S0 ws S_p (bx_val [(0, 0), (0, 0), (0, 0), (0, 0), (0, 0), (0, 0), (0, 0), (0, 0), (8, 0), (9, 0), (10, 0), (11, 0), (12, 0)] r_p 8) (bx_val [(0, 0), (0, 0), (0, 0), (0, 0), (0, 0), (0, 0), (0, 0), (0, 0), (8, 0), (9, 0), (10, 0), (11, 0), (12, 0)] r_p 9) (bx_val [(0, 0), (0, 0), (0, 0), (0, 0), (0, 0), (0, 0), (0, 0), (0, 0), (8, 0), (9, 0), (10, 0), (11, 0), (12, 0)] r_p 10) (bx_val [(0, 0), (0, 0), (0, 0), (0, 0), (0, 0), (0, 0), (0, 0), (0, 0), (8, 0), (9, 0), (10, 0), (11, 0), (12, 0)] r_p 11) (bx_val [(0, 0), (0, 0), (0, 0), (0, 0), (0, 0), (0, 0), (0, 0), (0, 0), (8, 0), (9, 0), (10, 0), (11, 0), (12, 0)] r_p 12) < rxmDRU_0 S0 ws S_p (r 8) (r 9) (r 10) (r 11) (r 12)
    rw [bx_val_x (n := 8) (e := (8, 0)) h0_ rfl, bx_val_x (n := 9) (e := (9, 0)) h0_ rfl, bx_val_x (n := 10) (e := (10, 0)) h0_ rfl, bx_val_x (n := 11) (e := (11, 0)) h0_ rfl, bx_val_x (n := 12) (e := (12, 0)) h0_ rfl, ← hr_ 8 (by decide), ← hr_ 9 (by decide), ← hr_ 10 (by decide), ← hr_ 11 (by decide), ← hr_ 12 (by decide)]
    exact g.2.2.2
theorem rxcDRU_0_6 {S0 : Nat → Int → Int} {ws : List Int} {S : Nat → Int → Int} {pa st cu wo ne x13 : Int} (hP : rxPDRU S0 ws) (hin : bx_same rxL (bx_mdl rxC199.2.2.1) S0 S) (I0 : bx_Inv rxL S) (hinv : rxIDRU_0 S0 ws S pa st cu wo ne) (l8 : 0 ≤ pa) (u8 : pa ≤ 2147483647) (l9 : 0 ≤ st) (u9 : st ≤ 5) (l10 : 0 ≤ cu) (u10 : cu ≤ 5) (l11 : 0 ≤ wo) (u11 : wo ≤ 9) (l12 : 0 ≤ ne) (u12 : ne ≤ 5) (l13 : 0 ≤ x13) (u13 : x13 ≤ 6) (f0 : x13 ≤ pa) (e0 : S 1 0 = x13) : (True) ∧ (True) ∧ rxIDRU_3 S0 ws S pa st cu wo ne ∧ rxmDRU_3 S0 ws S pa st cu wo ne < rxmDRU_0 S0 ws S pa st cu wo ne := by
  obtain ⟨rfl, hw⟩ := hinv
  exact ⟨trivial, trivial, ⟨rfl, ⟨by omega, by omega, by omega, by omega, by omega, by omega, by omega, by omega⟩, by omega, hw⟩, by unfold rxmDRU_0 rxmDRU_3; omega⟩
theorem rxgDRU_0_6 {X : (Nat → Int → Int) → Prop} {S0 : Nat → Int → Int} {ws : List Int} (hP : rxPDRU S0 ws) : bx_obC rxL X S0 rxC199.2.2.1 (rxIDRU S0 ws) (rxmDRU S0 ws) 0 rxzDRU_0 rxoDRU_0_6 := by
  intro S S_p r r_p hinv hX hin hsm_ hseg
  obtain ⟨I0, I1, h0_, hr_, b_, f_, d_⟩ := bx_cl (evs := [(0, (0, 1), (0, 0), .inr (0, (13, 0)))]) (fvs := [(1, (13, 0), (8, 0), (0, 0))]) hseg (by decide +kernel) (by decide +kernel)
  have hinv : rxIDRU_0 S0 ws S (r 8) (r 9) (r 10) (r 11) (r 12) := hinv
  rw [← hr_ 8 (by decide), ← hr_ 9 (by decide), ← hr_ 10 (by decide), ← hr_ 11 (by decide), ← hr_ 12 (by decide)] at hinv
  obtain ⟨⟨l8, u8⟩, ⟨l9, u9⟩, ⟨l10, u10⟩, ⟨l11, u11⟩, ⟨l12, u12⟩, ⟨l13, u13⟩, -⟩ := b_
  obtain ⟨f0, -⟩ := f_
  obtain ⟨e0, w_⟩ := d_
  subst w_
  have g := rxcDRU_0_6 hP hin I0 hinv l8 u8 l9 u9 l10 u10 l11 u11 l12 u12 l13 u13 f0 e0
  refine ⟨bx_narP_ok (l := []) g.1, bx_nfP_ok h0_ (fvs := []) (by decide +kernel) g.2.1, ?_, ?_⟩
  · show rxIDRU_3 S0 ws S_p (bx_val [(0, 0), (0, 0), (0, 0), (0, 0), (0, 0), (0, 0), (0, 0), (0, 0), (8, 0), (9, 0), (10, 0), (11, 0), (12, 0)] r_p 8) (bx_val [(0, 0), (0, 0), (0, 0), (0, 0), (0, 0), (0, 0), (0, 0), (0, 0), (8, 0), (9, 0), (10, 0), (11, 0), (12, 0)] r_p 9) (bx_val [(0, 0), (0, 0), (0, 0), (0, 0), (0, 0), (0, 0), (0, 0), (0, 0), (8, 0), (9, 0), (10, 0), (11, 0), (12, 0)] r_p 10) (bx_val [(0, 0), (0, 0), (0, 0), (0, 0), (0, 0), (0, 0), (0, 0), (0, 0), (8, 0), (9, 0), (10, 0), (11, 0), (12, 0)] r_p 11) (bx_val [(0, 0), (0, 0), (0, 0), (0, 0), (0, 0), (0, 0), (0, 0), (0, 0), (8, 0), (9, 0), (10, 0), (11, 0), (12, 0)] r_p 12)
    rw [bx_val_x (n := 8) (e := (8, 0)) h0_ rfl, bx_val_x (n := 9) (e := (9, 0)) h0_ rfl, bx_val_x (n := 10) (e := (10, 0)) h0_ rfl, bx_val_x (n := 11) (e := (11, 0)) h0_ rfl, bx_val_x (n := 12) (e := (12, 0)) h0_ rfl]
    exact g.2.2.1
  · show rxmDRU_3 S0 ws S_p (bx_val [(0, 0), (0, 0), (0, 0), (0, 0), (0, 0), (0, 0), (0, 0), (0, 0), (8, 0), (9, 0), (10, 0), (11, 0), (12, 0)] r_p 8) (bx_val [(0, 0), (0, 0), (0, 0), (0, 0), (0, 0), (0, 0), (0, 0), (0, 0), (8, 0), (9, 0), (10, 0), (11, 0), (12, 0)] r_p 9) (bx_val [(0, 0), (0, 0), (0, 0), (0, 0), (0, 0), (0, 0), (0, 0), (0, 0), (8, 0), (9, 0), (10, 0), (11, 0), (12, 0)] r_p 10) (bx_val [(0, 0), (0, 0), (0, 0), (0, 0), (0, 0), (0, 0), (0, 0), (0, 0), (8, 0), (9, 0), (10, 0), (11, 0), (12, 0)] r_p 11) (bx_val [(0, 0), (0, 0), (0, 0), (0, 0), (0, 0), (0, 0), (0, 0), (0, 0), (8, 0), (9, 0), (10, 0), (11, 0), (12, 0)] r_p 12) < rxmDRU_0 S0 ws S_p (r 8) (r 9) (r 10) (r 11) (r 12)
    rw [bx_val_x (n := 8) (e := (8, 0)) h0_ rfl, bx_val_x (n := 9) (e := (9, 0)) h0_ rfl, bx_val_x (n := 10) (e := (10, 0)) h0_ rfl, bx_val_x (n := 11) (e := (11, 0)) h0_ rfl, bx_val_x (n := 12) (e := (12, 0)) h0_ rfl, ← hr_ 8 (by decide), ← hr_ 9 (by decide), ← hr_ 10 (by decide), ← hr_ 11 (by decide), ← hr_ 12 (by decide)]
    exact g.2.2.2
theorem rxcDRU_0_7 {S0 : Nat → Int → Int} {ws : List Int} {S : Nat → Int → Int} {pa st cu wo ne : Int} (hP : rxPDRU S0 ws) (hin : bx_same rxL (bx_mdl rxC199.2.2.1) S0 S) (I0 : bx_Inv rxL S) (hinv : rxIDRU_0 S0 ws S pa st cu wo ne) (l8 : (-2147483648) ≤ pa) (u8 : pa ≤ 2147483647) (l9 : 0 ≤ st) (u9 : st ≤ 5) (l10 : 0 ≤ cu) (u10 : cu ≤ 5) (l11 : 0 ≤ wo) (u11 : wo ≤ 9) (l12 : (-2147483648) ≤ ne) (u12 : ne ≤ (-1)) : (True) ∧ (True) ∧ rxIDRU_1 S0 ws S pa st cu wo ne ∧ rxmDRU_1 S0 ws S pa st cu wo ne < rxmDRU_0 S0 ws S pa st cu wo ne := by
  obtain ⟨rfl, hw⟩ := hinv
  exact ⟨trivial, trivial, ⟨rfl, by omega, hw⟩, by unfold rxmDRU_0 rxmDRU_1; omega⟩
theorem rxgDRU_0_7 {X : (Nat → Int → Int) → Prop} {S0 : Nat → Int → Int} {ws : List Int} (hP : rxPDRU S0 ws) : bx_obC rxL X S0 rxC199.2.2.1 (rxIDRU S0 ws) (rxmDRU S0 ws) 0 rxzDRU_0 rxoDRU_0_7 := by
  intro S S_p r r_p hinv hX hin hsm_ hseg
  obtain ⟨I0, I1, h0_, hr_, b_, f_, d_⟩ := bx_cl (evs := []) (fvs := []) hseg (by decide +kernel) (by decide +kernel)
  have hinv : rxIDRU_0 S0 ws S (r 8) (r 9) (r 10) (r 11) (r 12) := hinv
  rw [← hr_ 8 (by decide), ← hr_ 9 (by decide), ← hr_ 10 (by decide), ← hr_ 11 (by decide), ← hr_ 12 (by decide)] at hinv
  obtain ⟨⟨l8, u8⟩, ⟨l9, u9⟩, ⟨l10, u10⟩, ⟨l11, u11⟩, ⟨l12, u12⟩, -⟩ := b_
  have w_ := d_
  subst w_
  have g := rxcDRU_0_7 hP hin I0 hinv l8 u8 l9 u9 l10 u10 l11 u11 l12 u12
  refine ⟨bx_narP_ok (l := []) g.1, bx_nfP_ok h0_ (fvs := []) (by decide +kernel) g.2.1, ?_, ?_⟩
  · show rxIDRU_1 S0 ws S_p (bx_val [(0, 0), (0, 0), (0, 0), (0, 0), (0, 0), (0, 0), (0, 0), (0, 0), (8, 0), (9, 0), (10, 0), (11, 0), (12, 0)] r_p 8) (bx_val [(0, 0), (0, 0), (0, 0), (0, 0), (0, 0), (0, 0), (0, 0), (0, 0), (8, 0), (9, 0), (10, 0), (11, 0), (12, 0)] r_p 9) (bx_val [(0, 0), (0, 0), (0, 0), (0, 0), (0, 0), (0, 0), (0, 0), (0, 0), (8, 0), (9, 0), (10, 0), (11, 0), (12, 0)] r_p 10) (bx_val [(0, 0), (0, 0), (0, 0), (0, 0), (0, 0), (0, 0), (0, 0), (0, 0), (8, 0), (9, 0), (10, 0), (11, 0), (12, 0)] r_p 11) (bx_val [(0, 0), (0, 0), (0, 0), (0, 0), (0, 0), (0, 0), (0, 0), (0, 0), (8, 0), (9, 0), (10, 0), (11, 0), (12, 0)] r_p 12)
    rw [bx_val_x (n := 8) (e := (8, 0)) h0_ rfl, bx_val_x (n := 9) (e := (9, 0)) h0_ rfl, bx_val_x (n := 10) (e := (10, 0)) h0_ rfl, bx_val_x (n := 11) (e := (11, 0)) h0_ rfl, bx_val_x (n := 12) (e := (12, 0)) h0_ rfl]
    exact g.2.2.1
  · show rxmDRU_1 S0 ws S_p (bx_val [(0, 0), (0, 0), (0, 0), (0, 0), (0, 0), (0, 0), (0, 0), (0, 0), (8, 0), (9, 0), (10, 0), (11, 0), (12, 0)] r_p 8) (bx_val [(0, 0), (0, 0), (0, 0), (0, 0), (0, 0), (0, 0), (0, 0), (0, 0), (8, 0), (9, 0), (10, 0), (11, 0), (12, 0)] r_p 9) (bx_val [(0, 0), (0, 0), (0, 0), (0, 0), (0, 0), (0, 0), (0, 0), (0, 0), (8, 0), (9, 0), (10, 0), (11, 0), (12, 0)] r_p 10) (bx_val [(0, 0), (0, 0), (0, 0), (0, 0), (0, 0), (0, 0), (0, 0), (0, 0), (8, 0), (9, 0), (10, 0), (11, 0), (12, 0)] r_p 11) (bx_val [(0, 0), (0, 0), (0, 0), (0, 0), (0, 0), (0, 0), (0, 0), (0, 0), (8, 0), (9, 0), (10, 0), (11, 0), (12, 0)] r_p 12) < rxmDRU_0 S0 ws S_p (r 8) (r 9) (r 10) (r 11) (r 12)
    rw [bx_val_x (n := 8) (e := (8, 0)) h0_ rfl, bx_val_x (n := 9) (e := (9, 0)) h0_ rfl, bx_val_x (n := 10) (e := (10, 0)) h0_ rfl, bx_val_x (n := 11) (e := (11, 0)) h0_ rfl, bx_val_x (n := 12) (e := (12, 0)) h0_ rfl, ← hr_ 8 (by decide), ← hr_ 9 (by decide), ← hr_ 10 (by decide), ← hr_ 11 (by decide), ← hr_ 12 (by decide)]
    exact g.2.2.2
theorem rxcDRU_0_8 {S0 : Nat → Int → Int} {ws : List Int} {S : Nat → Int → Int} {pa st cu wo ne : Int} (hP : rxPDRU S0 ws) (hin : bx_same rxL (bx_mdl rxC199.2.2.1) S0 S) (I0 : bx_Inv rxL S) (hinv : rxIDRU_0 S0 ws S pa st cu wo ne) (l8 : (-2147483648) ≤ pa) (u8 : pa ≤ 2147483647) (l9 : 0 ≤ st) (u9 : st ≤ 5) (l10 : 0 ≤ cu) (u10 : cu ≤ 5) (l11 : 10 ≤ wo) (u11 : wo ≤ 2147483647) (l12 : (-2147483648) ≤ ne) (u12 : ne ≤ 2147483647) : (True) ∧ (True) ∧ rxIDRU_1 S0 ws S pa st cu wo ne ∧ rxmDRU_1 S0 ws S pa st cu wo ne < rxmDRU_0 S0 ws S pa st cu wo ne := by
  obtain ⟨rfl, hw⟩ := hinv
  exact ⟨trivial, trivial, ⟨rfl, by omega, hw⟩, by unfold rxmDRU_0 rxmDRU_1; omega⟩
theorem rxgDRU_0_8 {X : (Nat → Int → Int) → Prop} {S0 : Nat → Int → Int} {ws : List Int} (hP : rxPDRU S0 ws) : bx_obC rxL X S0 rxC199.2.2.1 (rxIDRU S0 ws) (rxmDRU S0 ws) 0 rxzDRU_0 rxoDRU_0_8 := by
  intro S S_p r r_p hinv hX hin hsm_ hseg
  obtain ⟨I0, I1, h0_, hr_, b_, f_, d_⟩ := bx_cl (evs := []) (fvs := []) hseg (by decide +kernel) (by decide +kernel)
  have hinv : rxIDRU_0 S0 ws S (r 8) (r 9) (r 10) (r 11) (r 12) := hinv
  rw [← hr_ 8 (by decide), ← hr_ 9 (by decide), ← hr_ 10 (by decide), ← hr_ 11 (by decide), ← hr_ 12 (by decide)] at hinv
  obtain ⟨⟨l8, u8⟩, ⟨l9, u9⟩, ⟨l10, u10⟩, ⟨l11, u11⟩, ⟨l12, u12⟩, -⟩ := b_
  have w_ := d_
  subst w_
  have g := rxcDRU_0_8 hP hin I0 hinv l8 u8 l9 u9 l10 u10 l11 u11 l12 u12
  refine ⟨bx_narP_ok (l := []) g.1, bx_nfP_ok h0_ (fvs := []) (by decide +kernel) g.2.1, ?_, ?_⟩
  · show rxIDRU_1 S0 ws S_p (bx_val [(0, 0), (0, 0), (0, 0), (0, 0), (0, 0), (0, 0), (0, 0), (0, 0), (8, 0), (9, 0), (10, 0), (11, 0), (12, 0)] r_p 8) (bx_val [(0, 0), (0, 0), (0, 0), (0, 0), (0, 0), (0, 0), (0, 0), (0, 0), (8, 0), (9, 0), (10, 0), (11, 0), (12, 0)] r_p 9) (bx_val [(0, 0), (0, 0), (0, 0), (0, 0), (0, 0), (0, 0), (0, 0), (0, 0), (8, 0), (9, 0), (10, 0), (11, 0), (12, 0)] r_p 10) (bx_val [(0, 0), (0, 0), (0, 0), (0, 0), (0, 0), (0, 0), (0, 0), (0, 0), (8, 0), (9, 0), (10, 0), (11, 0), (12, 0)] r_p 11) (bx_val [(0, 0), (0, 0), (0, 0), (0, 0), (0, 0), (0, 0), (0, 0), (0, 0), (8, 0), (9, 0), (10, 0), (11, 0), (12, 0)] r_p 12)
    rw [bx_val_x (n := 8) (e := (8, 0)) h0_ rfl, bx_val_x (n := 9) (e := (9, 0)) h0_ rfl, bx_val_x (n := 10) (e := (10, 0)) h0_ rfl, bx_val_x (n := 11) (e := (11, 0)) h0_ rfl, bx_val_x (n := 12) (e := (12, 0)) h0_ rfl]
    exact g.2.2.1
  · show rxmDRU_1 S0 ws S_p (bx_val [(0, 0), (0, 0), (0, 0), (0, 0), (0, 0), (0, 0), (0, 0), (0, 0), (8, 0), (9, 0), (10, 0), (11, 0), (12, 0)] r_p 8) (bx_val [(0, 0), (0, 0), (0, 0), (0, 0), (0, 0), (0, 0), (0, 0), (0, 0), (8, 0), (9, 0), (10, 0), (11, 0), (12, 0)] r_p 9) (bx_val [(0, 0), (0, 0), (0, 0), (0, 0), (0, 0), (0, 0), (0, 0), (0, 0), (8, 0), (9, 0), (10, 0), (11, 0), (12, 0)] r_p 10) (bx_val [(0, 0), (0, 0), (0, 0), (0, 0), (0, 0), (0, 0), (0, 0), (0, 0), (8, 0), (9, 0), (10, 0), (11, 0), (12, 0)] r_p 11) (bx_val [(0, 0), (0, 0), (0, 0), (0, 0), (0, 0), (0, 0), (0, 0), (0, 0), (8, 0), (9, 0), (10, 0), (11, 0), (12, 0)] r_p 12) < rxmDRU_0 S0 ws S_p (r 8) (r 9) (r 10) (r 11) (r 12)
    rw [bx_val_x (n := 8) (e := (8, 0)) h0_ rfl, bx_val_x (n := 9) (e := (9, 0)) h0_ rfl, bx_val_x (n := 10) (e := (10, 0)) h0_ rfl, bx_val_x (n := 11) (e := (11, 0)) h0_ rfl, bx_val_x (n := 12) (e := (12, 0)) h0_ rfl, ← hr_ 8 (by decide), ← hr_ 9 (by decide), ← hr_ 10 (by decide), ← hr_ 11 (by decide), ← hr_ 12 (by decide)]
    exact g.2.2.2
theorem rxcDRU_0_9 {S0 : Nat → Int → Int} {ws : List Int} {S : Nat → Int → Int} {pa st cu wo ne : Int} (hP : rxPDRU S0 ws) (hin : bx_same rxL (bx_mdl rxC199.2.2.1) S0 S) (I0 : bx_Inv rxL S) (hinv : rxIDRU_0 S0 ws S pa st cu wo ne) (l8 : (-2147483648) ≤ pa) (u8 : pa ≤ 2147483647) (l9 : 0 ≤ st) (u9 : st ≤ 5) (l10 : 0 ≤ cu) (u10 : cu ≤ 5) (l11 : (-2147483648) ≤ wo) (u11 : wo ≤ (-1)) (l12 : (-2147483648) ≤ ne) (u12 : ne ≤ 2147483647) : (True) ∧ (True) ∧ rxIDRU_1 S0 ws S pa st cu wo ne ∧ rxmDRU_1 S0 ws S pa st cu wo ne < rxmDRU_0 S0 ws S pa st cu wo ne := by
  obtain ⟨rfl, hw⟩ := hinv
  exact ⟨trivial, trivial, ⟨rfl, by omega, hw⟩, by unfold rxmDRU_0 rxmDRU_1; omega⟩
theorem rxgDRU_0_9 {X : (Nat → Int → Int) → Prop} {S0 : Nat → Int → Int} {ws : List Int} (hP : rxPDRU S0 ws) : bx_obC rxL X S0 rxC199.2.2.1 (rxIDRU S0 ws) (rxmDRU S0 ws) 0 rxzDRU_0 rxoDRU_0_9 := by
  intro S S_p r r_p hinv hX hin hsm_ hseg
  obtain ⟨I0, I1, h0_, hr_, b_, f_, d_⟩ := bx_cl (evs := []) (fvs := []) hseg (by decide +kernel) (by decide +kernel)
  have hinv : rxIDRU_0 S0 ws S (r 8) (r 9) (r 10) (r 11) (r 12) := hinv
  rw [← hr_ 8 (by decide), ← hr_ 9 (by decide), ← hr_ 10 (by decide), ← hr_ 11 (by decide), ← hr_ 12 (by decide)] at hinv
  obtain ⟨⟨l8, u8⟩, ⟨l9, u9⟩, ⟨l10, u10⟩, ⟨l11, u11⟩, ⟨l12, u12⟩, -⟩ := b_
  have w_ := d_
  subst w_
  have g := rxcDRU_0_9 hP hin I0 hinv l8 u8 l9 u9 l10 u10 l11 u11 l12 u12
  refine ⟨bx_narP_ok (l := []) g.1, bx_nfP_ok h0_ (fvs := []) (by decide +kernel) g.2.1, ?_, ?_⟩
  · show rxIDRU_1 S0 ws S_p (bx_val [(0, 0), (0, 0), (0, 0), (0, 0), (0, 0), (0, 0), (0, 0), (0, 0), (8, 0), (9, 0), (10, 0), (11, 0), (12, 0)] r_p 8) (bx_val [(0, 0), (0, 0), (0, 0), (0, 0), (0, 0), (0, 0), (0, 0), (0, 0), (8, 0), (9, 0), (10, 0), (11, 0), (12, 0)] r_p 9) (bx_val [(0, 0), (0, 0), (0, 0), (0, 0), (0, 0), (0, 0), (0, 0), (0, 0), (8, 0), (9, 0), (10, 0), (11, 0), (12, 0)] r_p 10) (bx_val [(0, 0), (0, 0), (0, 0), (0, 0), (0, 0), (0, 0), (0, 0), (0, 0), (8, 0), (9, 0), (10, 0), (11, 0), (12, 0)] r_p 11) (bx_val [(0, 0), (0, 0), (0, 0), (0, 0), (0, 0), (0, 0), (0, 0), (0, 0), (8, 0), (9, 0), (10, 0), (11, 0), (12, 0)] r_p 12)
    rw [bx_val_x (n := 8) (e := (8, 0)) h0_ rfl, bx_val_x (n := 9) (e := (9, 0)) h0_ rfl, bx_val_x (n := 10) (e := (10, 0)) h0_ rfl, bx_val_x (n := 11) (e := (11, 0)) h0_ rfl, bx_val_x (n := 12) (e := (12, 0)) h0_ rfl]
    exact g.2.2.1
  · show rxmDRU_1 S0 ws S_p (bx_val [(0, 0), (0, 0), (0, 0), (0, 0), (0, 0), (0, 0), (0, 0), (0, 0), (8, 0), (9, 0), (10, 0), (11, 0), (12, 0)] r_p 8) (bx_val [(0, 0), (0, 0), (0, 0), (0, 0), (0, 0), (0, 0), (0, 0), (0, 0), (8, 0), (9, 0), (10, 0), (11, 0), (12, 0)] r_p 9) (bx_val [(0, 0), (0, 0), (0, 0), (0, 0), (0, 0), (0, 0), (0, 0), (0, 0), (8, 0), (9, 0), (10, 0), (11, 0), (12, 0)] r_p 10) (bx_val [(0, 0), (0, 0), (0, 0), (0, 0), (0, 0), (0, 0), (0, 0), (0, 0), (8, 0), (9, 0), (10, 0), (11, 0), (12, 0)] r_p 11) (bx_val [(0, 0), (0, 0), (0, 0), (0, 0), (0, 0), (0, 0), (0, 0), (0, 0), (8, 0), (9, 0), (10, 0), (11, 0), (12, 0)] r_p 12) < rxmDRU_0 S0 ws S_p (r 8) (r 9) (r 10) (r 11) (r 12)
    rw [bx_val_x (n := 8) (e := (8, 0)) h0_ rfl, bx_val_x (n := 9) (e := (9, 0)) h0_ rfl, bx_val_x (n := 10) (e := (10, 0)) h0_ rfl, bx_val_x (n := 11) (e := (11, 0)) h0_ rfl, bx_val_x (n := 12) (e := (12, 0)) h0_ rfl, ← hr_ 8 (by decide), ← hr_ 9 (by decide), ← hr_ 10 (by decide), ← hr_ 11 (by decide), ← hr_ 12 (by decide)]
    exact g.2.2.2
theorem rxdDRU_0_0 {S0 : Nat → Int → Int} {ws : List Int} {S : Nat → Int → Int} {pa st cu wo ne x13 x14 x15 x16 x17 x18 x19 x20 x21 x22 x23 : Int} (hP : rxPDRU S0 ws) (hin : bx_same rxL (bx_mdl rxC199.2.2.1) S0 S) (hin2 : bx_same rxL (bx_mdl rxC199.2.2.1) S (bx_up (bx_up (bx_up S (x15).toNat x20 wo) (x21).toNat x23 ne) 0 8 0)) (I0 : bx_Inv rxL S) (I1 : bx_Inv rxL (bx_up (bx_up (bx_up S (x15).toNat x20 wo) (x21).toNat x23 ne) 0 8 0)) (hinv : rxIDRU_0 S0 ws S pa st cu wo ne) (l8 : 0 ≤ pa) (u8 : pa ≤ 5) (l9 : 0 ≤ st) (u9 : st ≤ 5) (l10 : 0 ≤ cu) (u10 : cu ≤ 5) (l11 : 0 ≤ wo) (u11 : wo ≤ 9) (l12 : 0 ≤ ne) (u12 : ne ≤ 5) (l13 : 1 ≤ x13) (u13 : x13 ≤ 6) (l14 : 0 ≤ x14) (u14 : x14 ≤ 1522) (l15 : 0 ≤ x15) (u15 : x15 ≤ 1522) (l16 : 0 ≤ x16) (u16 : x16 ≤ 30) (l17 : 0 ≤ x17) (u17 : x17 ≤ 35) (l18 : (-1) ≤ x18) (u18 : x18 ≤ 9) (l19 : 0 ≤ x19) (u19 : x19 ≤ 30) (l20 : 0 ≤ x20) (u20 : x20 ≤ 35) (l21 : 0 ≤ x21) (u21 : x21 ≤ 1522) (l22 : 0 ≤ x22) (u22 : x22 ≤ 30) (l23 : 0 ≤ x23) (u23 : x23 ≤ 35) (f0 : x23 = x22 + cu) (f1 : x22 = 6 * (st)) (f2 : x20 = x19 + cu) (f3 : x19 = 6 * (st)) (f4 : x17 = x16 + cu) (f5 : x16 = 6 * (st)) (f6 : pa < x13) (e7 : S 1 0 = x13) (e6 : S 4 pa = x14) (e5 : S (x14).toNat 0 = x15) (e4 : S (x15).toNat x17 = x18) (e2 : (bx_up S (x15).toNat x20 wo) (x14).toNat 1 = x21) : (True) ∧ rxPSDRU S0 ws (bx_up (bx_up (bx_up S (x15).toNat x20 wo) (x21).toNat x23 ne) 0 8 0) (some x18) := by
  obtain ⟨rfl, hw⟩ := hinv
  have hpl : rkPl S := hP
  obtain ⟨z4, z0, z1⟩ := rjd_pl hpl (pa := pa) (by omega) (by omega)
  have a0 : x14 = 23 + 3 * pa := e6.symm.trans z4
  subst a0
  have ae5 : x15 = 24 + 3 * pa := e5.symm.trans z0
  subst ae5
  rw [bx_up_ne (by omega)] at e2
  have ae2 : x21 = 25 + 3 * pa := e2.symm.trans z1
  subst ae2
  have bx17 : x17 = 6 * st + cu := by omega
  subst bx17
  have bx20 : x20 = 6 * st + cu := by omega
  subst bx20
  have bx23 : x23 = 6 * st + cu := by omega
  subst bx23
  obtain ⟨g1, g2⟩ := rjd_w (r := 6 * wo + ne) (ix := 6 * st + cu) (rjdSm_r (S := S)) (pa := pa) (by omega) (rjdWo_6 (by omega) (by omega) (by omega)).1 (rjdWo_6 (by omega) (by omega) (by omega)).2
  refine ⟨trivial, pa, st, cu, wo, ne, hw, Or.inr (Or.inr ⟨by omega, by omega, by omega, by omega, by omega, by omega, by omega, by omega, ⟨by omega, by omega, by omega⟩, congrArg some e4.symm, ⟨⟨(bx_up_ne (by omega)).trans g1.1, (bx_up_ne (by omega)).trans g1.2⟩, fun p t a b c d => (bx_up_ne (by omega)).trans (g2 p t a b c d)⟩, fun p j a b c => (bx_up_ne (by omega)).trans ((bx_up_ne (by omega)).trans ((bx_up_ne (by omega))))⟩)⟩
theorem rxfDRU_0_0 {X : (Nat → Int → Int) → Prop} {S0 : Nat → Int → Int} {ws : List Int} (hP : rxPDRU S0 ws) : bx_obE rxL X S0 rxC199.2.2.1 (rxIDRU S0 ws) (rxPSDRU S0 ws) 0 rxzDRU_0 rxeDRU_0_0 := by
  intro S S_p r r_p hinv hX hin hsm_ hseg
  obtain ⟨I0, I1, h0_, hr_, b_, f_, d_⟩ := bx_cl (evs := [(1, (0, 0), (0, 8), .inr (0, (0, 0))), (1, (21, 0), (23, 0), .inr (0, (12, 0))), (0, (14, 0), (0, 1), .inr (3, (21, 0))), (1, (15, 0), (20, 0), .inr (0, (11, 0))), (0, (15, 0), (17, 0), .inr (0, (18, 0))), (0, (14, 0), (0, 0), .inr (3, (15, 0))), (0, (0, 4), (8, 0), .inr (3, (14, 0))), (0, (0, 1), (0, 0), .inr (0, (13, 0)))]) (fvs := [(5, (23, 0), (22, 0), (10, 0)), (4, (22, 0), (9, 0), (0, 6)), (5, (20, 0), (19, 0), (10, 0)), (4, (19, 0), (9, 0), (0, 6)), (5, (17, 0), (16, 0), (10, 0)), (4, (16, 0), (9, 0), (0, 6)), (0, (8, 0), (13, 0), (0, 0))]) hseg (by decide +kernel) (by decide +kernel)
  have hinv : rxIDRU_0 S0 ws S (r 8) (r 9) (r 10) (r 11) (r 12) := hinv
  rw [← hr_ 8 (by decide), ← hr_ 9 (by decide), ← hr_ 10 (by decide), ← hr_ 11 (by decide), ← hr_ 12 (by decide)] at hinv
  obtain ⟨⟨l8, u8⟩, ⟨l9, u9⟩, ⟨l10, u10⟩, ⟨l11, u11⟩, ⟨l12, u12⟩, ⟨l13, u13⟩, ⟨l14, u14⟩, ⟨l15, u15⟩, ⟨l16, u16⟩, ⟨l17, u17⟩, ⟨l18, u18⟩, ⟨l19, u19⟩, ⟨l20, u20⟩, ⟨l21, u21⟩, ⟨l22, u22⟩, ⟨l23, u23⟩, -⟩ := b_
  obtain ⟨f0, f1, f2, f3, f4, f5, f6, -⟩ := f_
  obtain ⟨T0, ⟨T1, ⟨e2, ⟨T3, ⟨e4, ⟨e5, ⟨e6, ⟨e7, w_⟩⟩⟩⟩, w3⟩⟩, w1⟩, w0⟩ := d_
  subst w0
  subst w1
  subst w3
  subst w_
  have g := rxdDRU_0_0 hP hin hsm_ I0 I1 hinv l8 u8 l9 u9 l10 u10 l11 u11 l12 u12 l13 u13 l14 u14 l15 u15 l16 u16 l17 u17 l18 u18 l19 u19 l20 u20 l21 u21 l22 u22 l23 u23 f0 f1 f2 f3 f4 f5 f6 e7 e6 e5 e4 e2
  refine ⟨bx_narP_ok (l := []) g.1, ?_⟩
  show rxPSDRU S0 ws (bx_up (bx_up (bx_up T3 (r_p 15).toNat (r_p 20) (r_p 11)) (r_p 21).toNat (r_p 23) (r_p 12)) 0 (8) (0)) (some (bx_num r_p (.inr (0, (18, 0)))))
  rw [bx_xv_ok h0_]
  exact g.2
theorem rxdDRU_2_0 {S0 : Nat → Int → Int} {ws : List Int} {S : Nat → Int → Int} {pa st cu wo ne res : Int} (hP : rxPDRU S0 ws) (hin : bx_same rxL (bx_mdl rxC199.2.2.1) S0 S) (hin2 : bx_same rxL (bx_mdl rxC199.2.2.1) S S) (I0 : bx_Inv rxL S) (I1 : bx_Inv rxL S) (hinv : rxIDRU_2 S0 ws S pa st cu wo ne res) (l8 : (-2147483648) ≤ pa) (u8 : pa ≤ 2147483647) (l9 : (-2147483648) ≤ st) (u9 : st ≤ 2147483647) (l10 : (-2147483648) ≤ cu) (u10 : cu ≤ 2147483647) (l11 : (-2147483648) ≤ wo) (u11 : wo ≤ 2147483647) (l12 : (-2147483648) ≤ ne) (u12 : ne ≤ 2147483647) (l13 : (-6) ≤ res) (u13 : res ≤ (-1)) : (True) ∧ rxPSDRU S0 ws S (some res) := by
  obtain ⟨h1, h2, hw, hs⟩ := hinv
  exact ⟨trivial, pa, st, cu, wo, ne, hw, Or.inl ⟨h2, congrArg some h1, hs⟩⟩
theorem rxfDRU_2_0 {X : (Nat → Int → Int) → Prop} {S0 : Nat → Int → Int} {ws : List Int} (hP : rxPDRU S0 ws) : bx_obE rxL X S0 rxC199.2.2.1 (rxIDRU S0 ws) (rxPSDRU S0 ws) 2 rxzDRU_2 rxeDRU_2_0 := by
  intro S S_p r r_p hinv hX hin hsm_ hseg
  obtain ⟨I0, I1, h0_, hr_, b_, f_, d_⟩ := bx_cl (evs := []) (fvs := []) hseg (by decide +kernel) (by decide +kernel)
  have hinv : rxIDRU_2 S0 ws S (r 8) (r 9) (r 10) (r 11) (r 12) (r 13) := hinv
  rw [← hr_ 8 (by decide), ← hr_ 9 (by decide), ← hr_ 10 (by decide), ← hr_ 11 (by decide), ← hr_ 12 (by decide), ← hr_ 13 (by decide)] at hinv
  obtain ⟨⟨l8, u8⟩, ⟨l9, u9⟩, ⟨l10, u10⟩, ⟨l11, u11⟩, ⟨l12, u12⟩, ⟨l13, u13⟩, -⟩ := b_
  have w_ := d_
  subst w_
  have g := rxdDRU_2_0 hP hin hsm_ I0 I1 hinv l8 u8 l9 u9 l10 u10 l11 u11 l12 u12 l13 u13
  refine ⟨bx_narP_ok (l := []) g.1, ?_⟩
  show rxPSDRU S0 ws S_p (some (bx_num r_p (.inr (0, (13, 0)))))
  rw [bx_xv_ok h0_]
  exact g.2
theorem rxdDRU_4_0 {S0 : Nat → Int → Int} {ws : List Int} {S : Nat → Int → Int} {pa st cu wo ne res : Int} (hP : rxPDRU S0 ws) (hin : bx_same rxL (bx_mdl rxC199.2.2.1) S0 S) (hin2 : bx_same rxL (bx_mdl rxC199.2.2.1) S S) (I0 : bx_Inv rxL S) (I1 : bx_Inv rxL S) (hinv : rxIDRU_4 S0 ws S pa st cu wo ne res) (l8 : (-2147483648) ≤ pa) (u8 : pa ≤ 2147483647) (l9 : 0 ≤ st) (u9 : st ≤ 5) (l10 : 0 ≤ cu) (u10 : cu ≤ 5) (l11 : 0 ≤ wo) (u11 : wo ≤ 9) (l12 : 0 ≤ ne) (u12 : ne ≤ 5) (l13 : (-6) ≤ res) (u13 : res ≤ (-1)) : (True) ∧ rxPSDRU S0 ws S (some res) := by
  obtain ⟨h1, ⟨i0, i1, i2, i3, i4, i5, i6, i7⟩, h3, hw, hs⟩ := hinv
  exact ⟨trivial, pa, st, cu, wo, ne, hw, Or.inr (Or.inl ⟨i0, i1, i2, i3, i4, i5, i6, i7, h3, congrArg some h1, hs⟩)⟩
theorem rxfDRU_4_0 {X : (Nat → Int → Int) → Prop} {S0 : Nat → Int → Int} {ws : List Int} (hP : rxPDRU S0 ws) : bx_obE rxL X S0 rxC199.2.2.1 (rxIDRU S0 ws) (rxPSDRU S0 ws) 4 rxzDRU_4 rxeDRU_4_0 := by
  intro S S_p r r_p hinv hX hin hsm_ hseg
  obtain ⟨I0, I1, h0_, hr_, b_, f_, d_⟩ := bx_cl (evs := []) (fvs := []) hseg (by decide +kernel) (by decide +kernel)
  have hinv : rxIDRU_4 S0 ws S (r 8) (r 9) (r 10) (r 11) (r 12) (r 13) := hinv
  rw [← hr_ 8 (by decide), ← hr_ 9 (by decide), ← hr_ 10 (by decide), ← hr_ 11 (by decide), ← hr_ 12 (by decide), ← hr_ 13 (by decide)] at hinv
  obtain ⟨⟨l8, u8⟩, ⟨l9, u9⟩, ⟨l10, u10⟩, ⟨l11, u11⟩, ⟨l12, u12⟩, ⟨l13, u13⟩, -⟩ := b_
  have w_ := d_
  subst w_
  have g := rxdDRU_4_0 hP hin hsm_ I0 I1 hinv l8 u8 l9 u9 l10 u10 l11 u11 l12 u12 l13 u13
  refine ⟨bx_narP_ok (l := []) g.1, ?_⟩
  show rxPSDRU S0 ws S_p (some (bx_num r_p (.inr (0, (13, 0)))))
  rw [bx_xv_ok h0_]
  exact g.2
theorem rxgCDRU {X : (Nat → Int → Int) → Prop} {S0 : Nat → Int → Int} {ws : List Int} (hP : rxPDRU S0 ws) : bx_allI (fun i q => rxUDRU q = true ∨ bx_allP (fun o => bx_obC rxL X S0 rxC199.2.2.1 (rxIDRU S0 ws) (rxmDRU S0 ws) i q.1 o) q.2.1) 0 rxYDRU := ⟨Or.inr ⟨rxgDRU_0_0 hP, rxgDRU_0_1 hP, rxgDRU_0_2 hP, rxgDRU_0_3 hP, rxgDRU_0_4 hP, rxgDRU_0_5 hP, rxgDRU_0_6 hP, rxgDRU_0_7 hP, rxgDRU_0_8 hP, rxgDRU_0_9 hP, trivial⟩, Or.inl rfl, Or.inr trivial, Or.inl rfl, Or.inr trivial, trivial⟩
theorem rxgEDRU {X : (Nat → Int → Int) → Prop} {S0 : Nat → Int → Int} {ws : List Int} (hP : rxPDRU S0 ws) : bx_allI (fun i q => rxUDRU q = true ∨ bx_allP (fun E => bx_obE rxL X S0 rxC199.2.2.1 (rxIDRU S0 ws) (rxPSDRU S0 ws) i q.1 E) q.2.2) 0 rxYDRU := ⟨Or.inr ⟨rxfDRU_0_0 hP, trivial⟩, Or.inl rfl, Or.inr ⟨rxfDRU_2_0 hP, trivial⟩, Or.inl rfl, Or.inr ⟨rxfDRU_4_0 hP, trivial⟩, trivial⟩
theorem rxuDRU {PX : State → Prop} {Dg : va_G} {A : Nat → Prop} {ad xa : Nat → Nat} {l : Launch} {X : (Nat → Int → Int) → Prop} (hPX : rx_PXOK rxNW A PX) (hX : ∀ S S1 : Nat → Int → Int, X S → bx_same rxL (bx_mdl rxC199.2.2.1) S S1 → X S1) (hQ110 : bx_ConP rxG rxNW rxAO PX Dg rxL X vwCl A ad l rxM110 rxC110 rxP110 rxPS110) {S0 : Nat → Int → Int} {ws : List Int} (hP : rxPDRU S0 ws) : ∀ (i : Nat) (q : bx_HE), rxYDRU[i]? = some q → rxUDRU q = true → ∀ {p : Program} {e : Env} {R : Room} {s : State} {m : MethodId} {args : Array Value} {below : List Frame} {meth : Method} {c : Code} {Q : State → Prop} {H0 : Heap}, rx_Fr rxG rxNW rxAO PX p s m args meth c rxM199 → (∀ q, H0.size ≤ q → A q) → H0 = s.heap → rxM199.2.2.2.2.2.2.1 ≤ R.cells → rxM199.2.2.2.2.2.2.2 ≤ R.slots → rxC199.2.2.2.1 ≤ R.frames → rxC199.2.2.2.1 * 40 ≤ R.locals → bx_Step p l e R s m args below meth c Q Dg rxL X vwCl A xa H0 ad rxM199 rxYDRU (rxIDRU S0 ws) (rxmDRU S0 ws) S0 rxC199.2.2.1 i q := by
  intro i q hq hus p e R s m args below meth c Q H0 hF hA hH0 hmc hms hd hdl
  match i, hq with
  | 0, hq =>
    cases hq
    exact absurd (show false = true from hus) Bool.false_ne_true
  | 1, hq =>
    cases hq
    exact rx_stepC (ins := .invokevirtual 110) (len := 3) (i_p := 2) (M_p := rxM110) (d := rxC199.2.2.2.1) (as := [.inr (3, (0, 0)), .inr (0, (0, (-1)))]) (t := []) (ct := rxC110) hPX hF rfl hA hH0 hmc hms hd hdl (by decide +kernel) rfl rfl (by decide +kernel) (by decide +kernel) hQ110 (by decide +kernel) rfl (Or.inr ⟨_, _, _, 1, rfl, rfl, by omega, rfl, rfl, rfl⟩) (rxsDRU_1 hP)
  | 2, hq =>
    cases hq
    exact absurd (show false = true from hus) Bool.false_ne_true
  | 3, hq =>
    cases hq
    exact rx_stepC (ins := .invokevirtual 110) (len := 3) (i_p := 4) (M_p := rxM110) (d := rxC199.2.2.2.1) (as := [.inr (3, (0, 0)), .inr (0, (0, (-2)))]) (t := []) (ct := rxC110) hPX hF rfl hA hH0 hmc hms hd hdl (by decide +kernel) rfl rfl (by decide +kernel) (by decide +kernel) hQ110 (by decide +kernel) rfl (Or.inr ⟨_, _, _, 1, rfl, rfl, by omega, rfl, rfl, rfl⟩) (rxsDRU_3 hP)
  | 4, hq =>
    cases hq
    exact absurd (show false = true from hus) Bool.false_ne_true
  | n + 5, hq => cases hq
theorem rxQDRU {PX : State → Prop} {Dg : va_G} {A : Nat → Prop} {ad xa : Nat → Nat} {l : Launch} {X : (Nat → Int → Int) → Prop} (hPX : rx_PXOK rxNW A PX) (hsl : ∀ s : State, PX s → ∀ o idx n : Nat, rxSl o idx = some n → ∃ tx : String, vk_R (rxNm o) idx tx (ad n) s)
    (hX : ∀ S S_p : Nat → Int → Int, X S → bx_same rxL (bx_mdl rxC199.2.2.1) S S_p → X S_p)
    (ih : ∀ (j2 : Nat) (ct2 : bx_Ct) (M2 : rx_Mt), ct2 ∈ rxCnE j2 → ct2.2.2.2.1 + 1 ≤ rxC199.2.2.2.1 → rxT.2.2.2.2.2 j2 = some M2 → bx_Con rxG rxNW rxAO PX Dg rxL X vwCl A ad l M2 ct2) (hQ110 : bx_ConP rxG rxNW rxAO PX Dg rxL X vwCl A ad l rxM110 rxC110 rxP110 rxPS110) : bx_ConP rxG rxNW rxAO PX Dg rxL X vwCl A ad l rxM199 rxC199 rxPDRU rxPSDRU :=
  rxQof (xa := xa) (Cn := rxCnE) (f := 30000) (j := 199) (tab := rxYDRU) (us := rxUDRU) hPX hsl hX ih rfl rxYcDRU rxIDRU rxmDRU
    (fun S0 ws r I0 I ht0 ht as he he1 hX0 hI0 hP hs ha => by
      have e := he.symm.trans (show bx_ent0 rxNP rxC199.1 bx_I0 [] = some ([(0, 0), (0, 0), (0, 0), (0, 0), (0, 0), (0, 0), (0, 0), (0, 0), ((-2147483648), 2147483647), ((-2147483648), 2147483647), ((-2147483648), 2147483647), ((-2147483648), 2147483647), ((-2147483648), 2147483647)], [], [.inr (3, (0, 0)), .inr (0, (8, 0)), .inr (0, (9, 0)), .inr (0, (10, 0)), .inr (0, (11, 0)), .inr (0, (12, 0))]) from rfl)
      cases e
      subst ha
      have h0 : r 0 = 0 := hs.1
      show rxIDRU_0 S0 _ S0 (r 8) (r 9) (r 10) (r 11) (r 12)
      refine ⟨rfl, ?_⟩
      simp only [List.map_cons, List.map_nil, bx_xv_ok h0]
      rfl)
    (fun S0 ws hP => rxuDRU (xa := xa) hPX hX hQ110 hP) (fun S0 ws hP => rxgCDRU hP) (fun S0 ws hP => rxgEDRU hP)
noncomputable def rxIDHU_0 (S0 : Nat → Int → Int) (ws : List Int) (S : Nat → Int → Int) (pa st cu : Int) : Prop := S = S0 ∧ ws = [0, pa, st, cu]
noncomputable def rxmDHU_0 (S0 : Nat → Int → Int) (ws : List Int) (S : Nat → Int → Int) (pa st cu : Int) : Nat := 100
noncomputable def rxzDHU_0 : rx_Z := ([(0, 0), (0, 0), (0, 0), (0, 0), (0, 0), (0, 0), (0, 0), (0, 0), ((-2147483648), 2147483647), ((-2147483648), 2147483647), ((-2147483648), 2147483647)], [], [], 0, 0, 0, [(0, .inr (3, (0, 0))), (1, .inr (0, (8, 0))), (2, .inr (0, (9, 0))), (3, .inr (0, (10, 0)))], [])
noncomputable def rxIDHU_1 (S0 : Nat → Int → Int) (ws : List Int) (S : Nat → Int → Int) (pa st cu : Int) : Prop := S = S0 ∧ (st < 0 ∨ 5 < st ∨ cu < 0 ∨ 5 < cu) ∧ ws = [0, pa, st, cu]
noncomputable def rxmDHU_1 (S0 : Nat → Int → Int) (ws : List Int) (S : Nat → Int → Int) (pa st cu : Int) : Nat := 50
noncomputable def rxzDHU_1 : rx_Z := ([(0, 0), (0, 0), (0, 0), (0, 0), (0, 0), (0, 0), (0, 0), (0, 0), ((-2147483648), 2147483647), ((-2147483648), 2147483647), ((-2147483648), 2147483647)], [], [], 0, 0, 10, [(0, .inr (3, (0, 0))), (1, .inr (0, (8, 0))), (2, .inr (0, (9, 0))), (3, .inr (0, (10, 0)))], [.inr (0, (0, (-1))), .inr (3, (0, 0))])
noncomputable def rxIDHU_2 (S0 : Nat → Int → Int) (ws : List Int) (S : Nat → Int → Int) (pa st cu res : Int) : Prop := res = -1 ∧ (st < 0 ∨ 5 < st ∨ cu < 0 ∨ 5 < cu) ∧ ws = [0, pa, st, cu] ∧ bx_same rxL (bx_mdl rxC110.2.2.1) S0 S
noncomputable def rxmDHU_2 (S0 : Nat → Int → Int) (ws : List Int) (S : Nat → Int → Int) (pa st cu res : Int) : Nat := 20
noncomputable def rxzDHU_2 : rx_Z := ([(0, 0), (0, 0), (0, 0), (0, 0), (0, 0), (0, 0), (0, 0), (0, 0), ((-2147483648), 2147483647), ((-2147483648), 2147483647), ((-2147483648), 2147483647), ((-6), (-1))], [], [], 0, 0, 13, [(0, .inr (3, (0, 0))), (1, .inr (0, (8, 0))), (2, .inr (0, (9, 0))), (3, .inr (0, (10, 0)))], [.inr (0, (11, 0))])
noncomputable def rxIDHU_3 (S0 : Nat → Int → Int) (ws : List Int) (S : Nat → Int → Int) (pa st cu : Int) : Prop := S = S0 ∧ (0 ≤ st ∧ st ≤ 5 ∧ 0 ≤ cu ∧ cu ≤ 5) ∧ (pa < 0 ∨ S0 1 0 ≤ pa) ∧ ws = [0, pa, st, cu]
noncomputable def rxmDHU_3 (S0 : Nat → Int → Int) (ws : List Int) (S : Nat → Int → Int) (pa st cu : Int) : Nat := 50
noncomputable def rxzDHU_3 : rx_Z := ([(0, 0), (0, 0), (0, 0), (0, 0), (0, 0), (0, 0), (0, 0), (0, 0), ((-2147483648), 2147483647), (0, 5), (0, 5)], [], [], 0, 0, 28, [(0, .inr (3, (0, 0))), (1, .inr (0, (8, 0))), (2, .inr (0, (9, 0))), (3, .inr (0, (10, 0)))], [.inr (0, (0, (-2))), .inr (3, (0, 0))])
noncomputable def rxIDHU_4 (S0 : Nat → Int → Int) (ws : List Int) (S : Nat → Int → Int) (pa st cu res : Int) : Prop := res = -2 ∧ (0 ≤ st ∧ st ≤ 5 ∧ 0 ≤ cu ∧ cu ≤ 5) ∧ (pa < 0 ∨ S0 1 0 ≤ pa) ∧ ws = [0, pa, st, cu] ∧ bx_same rxL (bx_mdl rxC110.2.2.1) S0 S
noncomputable def rxmDHU_4 (S0 : Nat → Int → Int) (ws : List Int) (S : Nat → Int → Int) (pa st cu res : Int) : Nat := 20
noncomputable def rxzDHU_4 : rx_Z := ([(0, 0), (0, 0), (0, 0), (0, 0), (0, 0), (0, 0), (0, 0), (0, 0), ((-2147483648), 2147483647), (0, 5), (0, 5), ((-6), (-1))], [], [], 0, 0, 31, [(0, .inr (3, (0, 0))), (1, .inr (0, (8, 0))), (2, .inr (0, (9, 0))), (3, .inr (0, (10, 0)))], [.inr (0, (11, 0))])
noncomputable def rxoDHU_0_0 : bx_HO := (([(0, 0), (0, 0), (0, 0), (0, 0), (0, 0), (0, 0), (0, 0), (0, 0), ((-2147483648), 2147483647), ((-2147483648), (-1)), ((-2147483648), 2147483647)], [], [], 0, 0, 10, [(0, .inr (3, (0, 0))), (1, .inr (0, (8, 0))), (2, .inr (0, (9, 0))), (3, .inr (0, (10, 0)))], [.inr (0, (0, (-1))), .inr (3, (0, 0))]), [], [], [(0, 0), (0, 0), (0, 0), (0, 0), (0, 0), (0, 0), (0, 0), (0, 0), (8, 0), (9, 0), (10, 0)], 1)
noncomputable def rxoDHU_0_1 : bx_HO := (([(0, 0), (0, 0), (0, 0), (0, 0), (0, 0), (0, 0), (0, 0), (0, 0), ((-2147483648), 2147483647), (6, 2147483647), ((-2147483648), 2147483647)], [], [], 0, 0, 10, [(0, .inr (3, (0, 0))), (1, .inr (0, (8, 0))), (2, .inr (0, (9, 0))), (3, .inr (0, (10, 0)))], [.inr (0, (0, (-1))), .inr (3, (0, 0))]), [], [], [(0, 0), (0, 0), (0, 0), (0, 0), (0, 0), (0, 0), (0, 0), (0, 0), (8, 0), (9, 0), (10, 0)], 1)
noncomputable def rxoDHU_0_2 : bx_HO := (([(0, 0), (0, 0), (0, 0), (0, 0), (0, 0), (0, 0), (0, 0), (0, 0), ((-2147483648), 2147483647), (0, 5), ((-2147483648), (-1))], [], [], 0, 0, 10, [(0, .inr (3, (0, 0))), (1, .inr (0, (8, 0))), (2, .inr (0, (9, 0))), (3, .inr (0, (10, 0)))], [.inr (0, (0, (-1))), .inr (3, (0, 0))]), [], [], [(0, 0), (0, 0), (0, 0), (0, 0), (0, 0), (0, 0), (0, 0), (0, 0), (8, 0), (9, 0), (10, 0)], 1)
noncomputable def rxoDHU_0_3 : bx_HO := (([(0, 0), (0, 0), (0, 0), (0, 0), (0, 0), (0, 0), (0, 0), (0, 0), ((-2147483648), 2147483647), (0, 5), (6, 2147483647)], [], [], 0, 0, 10, [(0, .inr (3, (0, 0))), (1, .inr (0, (8, 0))), (2, .inr (0, (9, 0))), (3, .inr (0, (10, 0)))], [.inr (0, (0, (-1))), .inr (3, (0, 0))]), [], [], [(0, 0), (0, 0), (0, 0), (0, 0), (0, 0), (0, 0), (0, 0), (0, 0), (8, 0), (9, 0), (10, 0)], 1)
noncomputable def rxoDHU_0_4 : bx_HO := (([(0, 0), (0, 0), (0, 0), (0, 0), (0, 0), (0, 0), (0, 0), (0, 0), ((-2147483648), (-1)), (0, 5), (0, 5)], [], [(((0, 0), 0), .inr (3, (0, 1)))], 0, 0, 28, [(0, .inr (3, (0, 0))), (1, .inr (0, (8, 0))), (2, .inr (0, (9, 0))), (3, .inr (0, (10, 0)))], [.inr (0, (0, (-2))), .inr (3, (0, 0))]), [], [], [(0, 0), (0, 0), (0, 0), (0, 0), (0, 0), (0, 0), (0, 0), (0, 0), (8, 0), (9, 0), (10, 0)], 3)
noncomputable def rxoDHU_0_5 : bx_HO := (([(0, 0), (0, 0), (0, 0), (0, 0), (0, 0), (0, 0), (0, 0), (0, 0), (0, 2147483647), (0, 5), (0, 5), (0, 6)], [(1, (11, 0), (8, 0))], [(((0, 0), 1851192626986356797424340330377019318111018015026043177553952768000000), .inr (0, (11, 0))), (((0, 1), 0), .inr (0, (11, 0))), (((0, 0), 0), .inr (3, (0, 1)))], 0, 0, 28, [(0, .inr (3, (0, 0))), (1, .inr (0, (8, 0))), (2, .inr (0, (9, 0))), (3, .inr (0, (10, 0)))], [.inr (0, (0, (-2))), .inr (3, (0, 0))]), [], [], [(0, 0), (0, 0), (0, 0), (0, 0), (0, 0), (0, 0), (0, 0), (0, 0), (8, 0), (9, 0), (10, 0)], 3)
noncomputable def rxeDHU_0_0 : rx_End × List (Nat × Int × Int) := (([(0, 0), (0, 0), (0, 0), (0, 0), (0, 0), (0, 0), (0, 0), (0, 0), (0, 5), (0, 5), (0, 5), (1, 6), (0, 1522), (0, 1522), (0, 30), (0, 35), ((-1), 9), (0, 30), (0, 35), (0, 1522), (0, 30), (0, 35)], [(604462909807314587353098000000, (21, 0), (20, 0)), (10, (20, 0), (9, 0)), (604462909807314587353098000000, (18, 0), (17, 0)), (10, (17, 0), (9, 0)), (604462909807314587353098000000, (15, 0), (14, 0)), (10, (14, 0), (9, 0)), (0, (8, 0), (11, 0))], [(((0, 0), 1851192626986356799029993984671224184301589730656725205983952899000000), .inr (0, (0, 0))), (((0, 0), 8), .inr (0, (0, 0))), (((0, 0), 1851192626986356797424404643744367375480612592826847781745328302000000), .inr (0, (0, (-1)))), (((0, 0), 1851192626986356797625047037163794926384839479479878431107186796000000), .inr (3, (19, 0))), (((12, 0), 1), .inr (3, (19, 0))), (((19, 0), 1000018), .inl none), (((0, 0), 1851192626986356797424395456120460510142099081712447124003618936000000), .inr (0, (0, (-1)))), (((0, 0), 1851192626986356797424386268496553644803585570598046466261909621000000), .inr (0, (16, 0))), (((0, 0), 1851192626986356797424340330377019318111018015026043177553363052000000), .inr (3, (13, 0))), (((12, 0), 0), .inr (3, (13, 0))), (((13, 0), 1000019), .inl none), (((0, 0), 1851192626986356797424364830707437625680387377997778264866947072000000), .inr (3, (12, 0))), (((12, 0), 1000010), .inl none), (((0, 1), 3), .inr (3, (0, 4))), (((0, 0), 1851192626986356797424340330377019318111018015026043177553952768000000), .inr (0, (11, 0))), (((0, 1), 0), .inr (0, (11, 0))), (((0, 0), 0), .inr (3, (0, 1)))], some (.inr (0, (16, 0)))), [])
noncomputable def rxeDHU_2_0 : rx_End × List (Nat × Int × Int) := (([(0, 0), (0, 0), (0, 0), (0, 0), (0, 0), (0, 0), (0, 0), (0, 0), ((-2147483648), 2147483647), ((-2147483648), 2147483647), ((-2147483648), 2147483647), ((-6), (-1))], [], [], some (.inr (0, (11, 0)))), [])
noncomputable def rxeDHU_4_0 : rx_End × List (Nat × Int × Int) := (([(0, 0), (0, 0), (0, 0), (0, 0), (0, 0), (0, 0), (0, 0), (0, 0), ((-2147483648), 2147483647), (0, 5), (0, 5), ((-6), (-1))], [], [], some (.inr (0, (11, 0)))), [])
noncomputable def rxYDHU : List bx_HE := [(rxzDHU_0, [rxoDHU_0_0, rxoDHU_0_1, rxoDHU_0_2, rxoDHU_0_3, rxoDHU_0_4, rxoDHU_0_5], [rxeDHU_0_0]), (rxzDHU_1, [], []), (rxzDHU_2, [], [rxeDHU_2_0]), (rxzDHU_3, [], []), (rxzDHU_4, [], [rxeDHU_4_0])]
noncomputable def rxUDHU (q : bx_HE) : Bool := Nat.beq (rx_zpc q.1) 10 || Nat.beq (rx_zpc q.1) 28
noncomputable def rxYBDHU : bx_B := (rxV, rxNP, rxDmf, bx_mdH rxC217.2.2.1)
set_option maxRecDepth 100000 in
theorem rxYcDHU : bx_chkH rxYBDHU rxM217 rxC217 rxYDHU (rxUDHU, fun cut z => rx_ex2 (rxCT rxYBDHU rxCnE) cut 30000 rxC217.2.2.2.1 217 z) = true := by decide +kernel
noncomputable def rxIDHU (S0 : Nat → Int → Int) (ws : List Int) (i : Nat) : bx_SP := fun S r => match i with | 0 => rxIDHU_0 S0 ws S (r 8) (r 9) (r 10) | 1 => rxIDHU_1 S0 ws S (r 8) (r 9) (r 10) | 2 => rxIDHU_2 S0 ws S (r 8) (r 9) (r 10) (r 11) | 3 => rxIDHU_3 S0 ws S (r 8) (r 9) (r 10) | 4 => rxIDHU_4 S0 ws S (r 8) (r 9) (r 10) (r 11) | _ => False
noncomputable def rxmDHU (S0 : Nat → Int → Int) (ws : List Int) (i : Nat) (S : Nat → Int → Int) (r : Nat → Int) : Nat := match i with | 0 => rxmDHU_0 S0 ws S (r 8) (r 9) (r 10) | 1 => rxmDHU_1 S0 ws S (r 8) (r 9) (r 10) | 2 => rxmDHU_2 S0 ws S (r 8) (r 9) (r 10) (r 11) | 3 => rxmDHU_3 S0 ws S (r 8) (r 9) (r 10) | 4 => rxmDHU_4 S0 ws S (r 8) (r 9) (r 10) (r 11) | _ => 0
noncomputable def rxPDHU (S0 : Nat → Int → Int) (ws : List Int) : Prop := rkPl S0
noncomputable def rxPSDHU (S0 : Nat → Int → Int) (ws : List Int) (S : Nat → Int → Int) (w : Option Int) : Prop := ∃ pa st cu : Int, ws = [0, pa, st, cu] ∧ (((st < 0 ∨ 5 < st ∨ cu < 0 ∨ 5 < cu) ∧ w = some (-1) ∧ bx_same rxL (bx_mdl rxC110.2.2.1) S0 S) ∨ (0 ≤ st ∧ st ≤ 5 ∧ 0 ≤ cu ∧ cu ≤ 5 ∧ (pa < 0 ∨ S0 1 0 ≤ pa) ∧ w = some (-2) ∧ bx_same rxL (bx_mdl rxC110.2.2.1) S0 S) ∨ (0 ≤ st ∧ st ≤ 5 ∧ 0 ≤ cu ∧ cu ≤ 5 ∧ (0 ≤ pa ∧ pa < S0 1 0 ∧ pa ≤ 5) ∧ w = some (S0 (24 + 3 * pa).toNat (6 * st + cu)) ∧ (rjdSl S pa (6 * st + cu) ((-1)) ∧ rjdOt S0 S pa (6 * st + cu)) ∧ (∀ (p : Nat) (j : Int), p ≠ 0 → p ≠ (24 + 3 * pa).toNat → p ≠ (25 + 3 * pa).toNat → S p j = S0 p j)))
theorem rxkDHU_1 {S0 : Nat → Int → Int} {ws : List Int} {S : Nat → Int → Int} {pa st cu : Int} (hP : rxPDHU S0 ws) (hin : bx_same rxL (bx_mdl rxC217.2.2.1) S0 S) (I0 : bx_Inv rxL S) (hinv : rxIDHU_1 S0 ws S pa st cu) (l8 : (-2147483648) ≤ pa) (u8 : pa ≤ 2147483647) (l9 : (-2147483648) ≤ st) (u9 : st ≤ 2147483647) (l10 : (-2147483648) ≤ cu) (u10 : cu ≤ 2147483647) : rxP110 S [0, (-1)] ∧ ∀ (S_p : Nat → Int → Int) (res : Int), (-6) ≤ res → res ≤ (-1) → rxPS110 S [0, (-1)] S_p (some res) → bx_Inv rxL S_p → bx_same rxL (bx_mdl rxC110.2.2.1) S S_p → rxIDHU_2 S0 ws S_p pa st cu res ∧ rxmDHU_2 S0 ws S_p pa st cu res < rxmDHU_1 S0 ws S pa st cu := by
  obtain ⟨rfl, h1, hw⟩ := hinv
  refine ⟨trivial, fun S_p res _ _ hq _ hsm => ⟨⟨?_, h1, hw, hsm⟩, by unfold rxmDHU_1 rxmDHU_2; omega⟩⟩
  obtain ⟨c, hc, hr⟩ := hq
  simp only [List.cons.injEq, and_true, true_and] at hc
  simp only [Option.some.injEq] at hr
  omega
theorem rxsDHU_1 {X : (Nat → Int → Int) → Prop} {S0 : Nat → Int → Int} {ws : List Int} (hP : rxPDHU S0 ws) : rx_obK X S0 rxC217.2.2.1 rxC110.2.2.1 (rxIDHU S0 ws) (rxmDHU S0 ws) 1 2 rxzDHU_1 rxzDHU_2 [.inr (3, (0, 0)), .inr (0, (0, (-1)))] (some 11) rxP110 rxPS110 := by
  intro S r hinv hXS I0 hin hs_ hf_
  have b_ := bx_bds_sat hs_
  have f_ := bx_fcl_ok hs_.1 hf_
  obtain ⟨⟨l8, u8⟩, ⟨l9, u9⟩, ⟨l10, u10⟩, -⟩ := b_
  have g := rxkDHU_1 hP hin I0 hinv l8 u8 l9 u9 l10 u10
  have ea : List.map (bx_num r) [.inr (3, (0, 0)), .inr (0, (0, (-1)))] = [0, -1] := by
    simp only [List.map_cons, List.map_nil, bx_xv_ok hs_.1]
    rfl
  rw [ea]
  refine ⟨g.1, fun S_p w r_p hPS hX_p I1 hsm hr hw hs_p => ?_⟩
  have hw := hw _ rfl
  subst hw
  have b_p := hs_p.2.2 11 _ _ rfl
  have g2 := g.2 S_p (r_p 11) b_p.1 b_p.2 hPS I1 hsm
  show rxIDHU_2 S0 ws S_p (r_p 8) (r_p 9) (r_p 10) (r_p 11) ∧ rxmDHU_2 S0 ws S_p (r_p 8) (r_p 9) (r_p 10) (r_p 11) < _
  rw [hr 8 (by decide), hr 9 (by decide), hr 10 (by decide)]
  exact g2
theorem rxkDHU_3 {S0 : Nat → Int → Int} {ws : List Int} {S : Nat → Int → Int} {pa st cu : Int} (hP : rxPDHU S0 ws) (hin : bx_same rxL (bx_mdl rxC217.2.2.1) S0 S) (I0 : bx_Inv rxL S) (hinv : rxIDHU_3 S0 ws S pa st cu) (l8 : (-2147483648) ≤ pa) (u8 : pa ≤ 2147483647) (l9 : 0 ≤ st) (u9 : st ≤ 5) (l10 : 0 ≤ cu) (u10 : cu ≤ 5) : rxP110 S [0, (-2)] ∧ ∀ (S_p : Nat → Int → Int) (res : Int), (-6) ≤ res → res ≤ (-1) → rxPS110 S [0, (-2)] S_p (some res) → bx_Inv rxL S_p → bx_same rxL (bx_mdl rxC110.2.2.1) S S_p → rxIDHU_4 S0 ws S_p pa st cu res ∧ rxmDHU_4 S0 ws S_p pa st cu res < rxmDHU_3 S0 ws S pa st cu := by
  obtain ⟨rfl, h1, h2, hw⟩ := hinv
  refine ⟨trivial, fun S_p res _ _ hq _ hsm => ⟨⟨?_, h1, h2, hw, hsm⟩, by unfold rxmDHU_3 rxmDHU_4; omega⟩⟩
  obtain ⟨c, hc, hr⟩ := hq
  simp only [List.cons.injEq, and_true, true_and] at hc
  simp only [Option.some.injEq] at hr
  omega
theorem rxsDHU_3 {X : (Nat → Int → Int) → Prop} {S0 : Nat → Int → Int} {ws : List Int} (hP : rxPDHU S0 ws) : rx_obK X S0 rxC217.2.2.1 rxC110.2.2.1 (rxIDHU S0 ws) (rxmDHU S0 ws) 3 4 rxzDHU_3 rxzDHU_4 [.inr (3, (0, 0)), .inr (0, (0, (-2)))] (some 11) rxP110 rxPS110 := by
  intro S r hinv hXS I0 hin hs_ hf_
  have b_ := bx_bds_sat hs_
  have f_ := bx_fcl_ok hs_.1 hf_
  obtain ⟨⟨l8, u8⟩, ⟨l9, u9⟩, ⟨l10, u10⟩, -⟩ := b_
  have g := rxkDHU_3 hP hin I0 hinv l8 u8 l9 u9 l10 u10
  have ea : List.map (bx_num r) [.inr (3, (0, 0)), .inr (0, (0, (-2)))] = [0, -2] := by
    simp only [List.map_cons, List.map_nil, bx_xv_ok hs_.1]
    rfl
  rw [ea]
  refine ⟨g.1, fun S_p w r_p hPS hX_p I1 hsm hr hw hs_p => ?_⟩
  have hw := hw _ rfl
  subst hw
  have b_p := hs_p.2.2 11 _ _ rfl
  have g2 := g.2 S_p (r_p 11) b_p.1 b_p.2 hPS I1 hsm
  show rxIDHU_4 S0 ws S_p (r_p 8) (r_p 9) (r_p 10) (r_p 11) ∧ rxmDHU_4 S0 ws S_p (r_p 8) (r_p 9) (r_p 10) (r_p 11) < _
  rw [hr 8 (by decide), hr 9 (by decide), hr 10 (by decide)]
  exact g2
theorem rxcDHU_0_0 {S0 : Nat → Int → Int} {ws : List Int} {S : Nat → Int → Int} {pa st cu : Int} (hP : rxPDHU S0 ws) (hin : bx_same rxL (bx_mdl rxC217.2.2.1) S0 S) (I0 : bx_Inv rxL S) (hinv : rxIDHU_0 S0 ws S pa st cu) (l8 : (-2147483648) ≤ pa) (u8 : pa ≤ 2147483647) (l9 : (-2147483648) ≤ st) (u9 : st ≤ (-1)) (l10 : (-2147483648) ≤ cu) (u10 : cu ≤ 2147483647) : (True) ∧ (True) ∧ rxIDHU_1 S0 ws S pa st cu ∧ rxmDHU_1 S0 ws S pa st cu < rxmDHU_0 S0 ws S pa st cu := by
  obtain ⟨rfl, hw⟩ := hinv
  exact ⟨trivial, trivial, ⟨rfl, by omega, hw⟩, by unfold rxmDHU_0 rxmDHU_1; omega⟩
theorem rxgDHU_0_0 {X : (Nat → Int → Int) → Prop} {S0 : Nat → Int → Int} {ws : List Int} (hP : rxPDHU S0 ws) : bx_obC rxL X S0 rxC217.2.2.1 (rxIDHU S0 ws) (rxmDHU S0 ws) 0 rxzDHU_0 rxoDHU_0_0 := by
  intro S S_p r r_p hinv hX hin hsm_ hseg
  obtain ⟨I0, I1, h0_, hr_, b_, f_, d_⟩ := bx_cl (evs := []) (fvs := []) hseg (by decide +kernel) (by decide +kernel)
  have hinv : rxIDHU_0 S0 ws S (r 8) (r 9) (r 10) := hinv
  rw [← hr_ 8 (by decide), ← hr_ 9 (by decide), ← hr_ 10 (by decide)] at hinv
  obtain ⟨⟨l8, u8⟩, ⟨l9, u9⟩, ⟨l10, u10⟩, -⟩ := b_
  have w_ := d_
  subst w_
  have g := rxcDHU_0_0 hP hin I0 hinv l8 u8 l9 u9 l10 u10
  refine ⟨bx_narP_ok (l := []) g.1, bx_nfP_ok h0_ (fvs := []) (by decide +kernel) g.2.1, ?_, ?_⟩
  · show rxIDHU_1 S0 ws S_p (bx_val [(0, 0), (0, 0), (0, 0), (0, 0), (0, 0), (0, 0), (0, 0), (0, 0), (8, 0), (9, 0), (10, 0)] r_p 8) (bx_val [(0, 0), (0, 0), (0, 0), (0, 0), (0, 0), (0, 0), (0, 0), (0, 0), (8, 0), (9, 0), (10, 0)] r_p 9) (bx_val [(0, 0), (0, 0), (0, 0), (0, 0), (0, 0), (0, 0), (0, 0), (0, 0), (8, 0), (9, 0), (10, 0)] r_p 10)
    rw [bx_val_x (n := 8) (e := (8, 0)) h0_ rfl, bx_val_x (n := 9) (e := (9, 0)) h0_ rfl, bx_val_x (n := 10) (e := (10, 0)) h0_ rfl]
    exact g.2.2.1
  · show rxmDHU_1 S0 ws S_p (bx_val [(0, 0), (0, 0), (0, 0), (0, 0), (0, 0), (0, 0), (0, 0), (0, 0), (8, 0), (9, 0), (10, 0)] r_p 8) (bx_val [(0, 0), (0, 0), (0, 0), (0, 0), (0, 0), (0, 0), (0, 0), (0, 0), (8, 0), (9, 0), (10, 0)] r_p 9) (bx_val [(0, 0), (0, 0), (0, 0), (0, 0), (0, 0), (0, 0), (0, 0), (0, 0), (8, 0), (9, 0), (10, 0)] r_p 10) < rxmDHU_0 S0 ws S_p (r 8) (r 9) (r 10)
    rw [bx_val_x (n := 8) (e := (8, 0)) h0_ rfl, bx_val_x (n := 9) (e := (9, 0)) h0_ rfl, bx_val_x (n := 10) (e := (10, 0)) h0_ rfl, ← hr_ 8 (by decide), ← hr_ 9 (by decide), ← hr_ 10 (by decide)]
    exact g.2.2.2
theorem rxcDHU_0_1 {S0 : Nat → Int → Int} {ws : List Int} {S : Nat → Int → Int} {pa st cu : Int} (hP : rxPDHU S0 ws) (hin : bx_same rxL (bx_mdl rxC217.2.2.1) S0 S) (I0 : bx_Inv rxL S) (hinv : rxIDHU_0 S0 ws S pa st cu) (l8 : (-2147483648) ≤ pa) (u8 : pa ≤ 2147483647) (l9 : 6 ≤ st) (u9 : st ≤ 2147483647) (l10 : (-2147483648) ≤ cu) (u10 : cu ≤ 2147483647) : (True) ∧ (True) ∧ rxIDHU_1 S0 ws S pa st cu ∧ rxmDHU_1 S0 ws S pa st cu < rxmDHU_0 S0 ws S pa st cu := by
  obtain ⟨rfl, hw⟩ := hinv
  exact ⟨trivial, trivial, ⟨rfl, by omega, hw⟩, by unfold rxmDHU_0 rxmDHU_1; omega⟩
theorem rxgDHU_0_1 {X : (Nat → Int → Int) → Prop} {S0 : Nat → Int → Int} {ws : List Int} (hP : rxPDHU S0 ws) : bx_obC rxL X S0 rxC217.2.2.1 (rxIDHU S0 ws) (rxmDHU S0 ws) 0 rxzDHU_0 rxoDHU_0_1 := by
  intro S S_p r r_p hinv hX hin hsm_ hseg
  obtain ⟨I0, I1, h0_, hr_, b_, f_, d_⟩ := bx_cl (evs := []) (fvs := []) hseg (by decide +kernel) (by decide +kernel)
  have hinv : rxIDHU_0 S0 ws S (r 8) (r 9) (r 10) := hinv
  rw [← hr_ 8 (by decide), ← hr_ 9 (by decide), ← hr_ 10 (by decide)] at hinv
  obtain ⟨⟨l8, u8⟩, ⟨l9, u9⟩, ⟨l10, u10⟩, -⟩ := b_
  have w_ := d_
  subst w_
  have g := rxcDHU_0_1 hP hin I0 hinv l8 u8 l9 u9 l10 u10
  refine ⟨bx_narP_ok (l := []) g.1, bx_nfP_ok h0_ (fvs := []) (by decide +kernel) g.2.1, ?_, ?_⟩
  · show rxIDHU_1 S0 ws S_p (bx_val [(0, 0), (0, 0), (0, 0), (0, 0), (0, 0), (0, 0), (0, 0), (0, 0), (8, 0), (9, 0), (10, 0)] r_p 8) (bx_val [(0, 0), (0, 0), (0, 0), (0, 0), (0, 0), (0, 0), (0, 0), (0, 0), (8, 0), (9, 0), (10, 0)] r_p 9) (bx_val [(0, 0), (0, 0), (0, 0), (0, 0), (0, 0), (0, 0), (0, 0), (0, 0), (8, 0), (9, 0), (10, 0)] r_p 10)
    rw [bx_val_x (n := 8) (e := (8, 0)) h0_ rfl, bx_val_x (n := 9) (e := (9, 0)) h0_ rfl, bx_val_x (n := 10) (e := (10, 0)) h0_ rfl]
    exact g.2.2.1
  · show rxmDHU_1 S0 ws S_p (bx_val [(0, 0), (0, 0), (0, 0), (0, 0), (0, 0), (0, 0), (0, 0), (0, 0), (8, 0), (9, 0), (10, 0)] r_p 8) (bx_val [(0, 0), (0, 0), (0, 0), (0, 0), (0, 0), (0, 0), (0, 0), (0, 0), (8, 0), (9, 0), (10, 0)] r_p 9) (bx_val [(0, 0), (0, 0), (0, 0), (0, 0), (0, 0), (0, 0), (0, 0), (0, 0), (8, 0), (9, 0), (10, 0)] r_p 10) < rxmDHU_0 S0 ws S_p (r 8) (r 9) (r 10)
    rw [bx_val_x (n := 8) (e := (8, 0)) h0_ rfl, bx_val_x (n := 9) (e := (9, 0)) h0_ rfl, bx_val_x (n := 10) (e := (10, 0)) h0_ rfl, ← hr_ 8 (by decide), ← hr_ 9 (by decide), ← hr_ 10 (by decide)]
    exact g.2.2.2
theorem rxcDHU_0_2 {S0 : Nat → Int → Int} {ws : List Int} {S : Nat → Int → Int} {pa st cu : Int} (hP : rxPDHU S0 ws) (hin : bx_same rxL (bx_mdl rxC217.2.2.1) S0 S) (I0 : bx_Inv rxL S) (hinv : rxIDHU_0 S0 ws S pa st cu) (l8 : (-2147483648) ≤ pa) (u8 : pa ≤ 2147483647) (l9 : 0 ≤ st) (u9 : st ≤ 5) (l10 : (-2147483648) ≤ cu) (u10 : cu ≤ (-1)) : (True) ∧ (True) ∧ rxIDHU_1 S0 ws S pa st cu ∧ rxmDHU_1 S0 ws S pa st cu < rxmDHU_0 S0 ws S pa st cu := by
  obtain ⟨rfl, hw⟩ := hinv
  exact ⟨trivial, trivial, ⟨rfl, by omega, hw⟩, by unfold rxmDHU_0 rxmDHU_1; omega⟩
theorem rxgDHU_0_2 {X : (Nat → Int → Int) → Prop} {S0 : Nat → Int → Int} {ws : List Int} (hP : rxPDHU S0 ws) : bx_obC rxL X S0 rxC217.2.2.1 (rxIDHU S0 ws) (rxmDHU S0 ws) 0 rxzDHU_0 rxoDHU_0_2 := by
  intro S S_p r r_p hinv hX hin hsm_ hseg
  obtain ⟨I0, I1, h0_, hr_, b_, f_, d_⟩ := bx_cl (evs := []) (fvs := []) hseg (by decide +kernel) (by decide +kernel)
  have hinv : rxIDHU_0 S0 ws S (r 8) (r 9) (r 10) := hinv
  rw [← hr_ 8 (by decide), ← hr_ 9 (by decide), ← hr_ 10 (by decide)] at hinv
  obtain ⟨⟨l8, u8⟩, ⟨l9, u9⟩, ⟨l10, u10⟩, -⟩ := b_
  have w_ := d_
  subst w_
  have g := rxcDHU_0_2 hP hin I0 hinv l8 u8 l9 u9 l10 u10
  refine ⟨bx_narP_ok (l := []) g.1, bx_nfP_ok h0_ (fvs := []) (by decide +kernel) g.2.1, ?_, ?_⟩
  · show rxIDHU_1 S0 ws S_p (bx_val [(0, 0), (0, 0), (0, 0), (0, 0), (0, 0), (0, 0), (0, 0), (0, 0), (8, 0), (9, 0), (10, 0)] r_p 8) (bx_val [(0, 0), (0, 0), (0, 0), (0, 0), (0, 0), (0, 0), (0, 0), (0, 0), (8, 0), (9, 0), (10, 0)] r_p 9) (bx_val [(0, 0), (0, 0), (0, 0), (0, 0), (0, 0), (0, 0), (0, 0), (0, 0), (8, 0), (9, 0), (10, 0)] r_p 10)
    rw [bx_val_x (n := 8) (e := (8, 0)) h0_ rfl, bx_val_x (n := 9) (e := (9, 0)) h0_ rfl, bx_val_x (n := 10) (e := (10, 0)) h0_ rfl]
    exact g.2.2.1
  · show rxmDHU_1 S0 ws S_p (bx_val [(0, 0), (0, 0), (0, 0), (0, 0), (0, 0), (0, 0), (0, 0), (0, 0), (8, 0), (9, 0), (10, 0)] r_p 8) (bx_val [(0, 0), (0, 0), (0, 0), (0, 0), (0, 0), (0, 0), (0, 0), (0, 0), (8, 0), (9, 0), (10, 0)] r_p 9) (bx_val [(0, 0), (0, 0), (0, 0), (0, 0), (0, 0), (0, 0), (0, 0), (0, 0), (8, 0), (9, 0), (10, 0)] r_p 10) < rxmDHU_0 S0 ws S_p (r 8) (r 9) (r 10)
    rw [bx_val_x (n := 8) (e := (8, 0)) h0_ rfl, bx_val_x (n := 9) (e := (9, 0)) h0_ rfl, bx_val_x (n := 10) (e := (10, 0)) h0_ rfl, ← hr_ 8 (by decide), ← hr_ 9 (by decide), ← hr_ 10 (by decide)]
    exact g.2.2.2
theorem rxcDHU_0_3 {S0 : Nat → Int → Int} {ws : List Int} {S : Nat → Int → Int} {pa st cu : Int} (hP : rxPDHU S0 ws) (hin : bx_same rxL (bx_mdl rxC217.2.2.1) S0 S) (I0 : bx_Inv rxL S) (hinv : rxIDHU_0 S0 ws S pa st cu) (l8 : (-2147483648) ≤ pa) (u8 : pa ≤ 2147483647) (l9 : 0 ≤ st) (u9 : st ≤ 5) (l10 : 6 ≤ cu) (u10 : cu ≤ 2147483647) : (True) ∧ (True) ∧ rxIDHU_1 S0 ws S pa st cu ∧ rxmDHU_1 S0 ws S pa st cu < rxmDHU_0 S0 ws S pa st cu := by
  obtain ⟨rfl, hw⟩ := hinv
  exact ⟨trivial, trivial, ⟨rfl, by omega, hw⟩, by unfold rxmDHU_0 rxmDHU_1; omega⟩
theorem rxgDHU_0_3 {X : (Nat → Int → Int) → Prop} {S0 : Nat → Int → Int} {ws : List Int} (hP : rxPDHU S0 ws) : bx_obC rxL X S0 rxC217.2.2.1 (rxIDHU S0 ws) (rxmDHU S0 ws) 0 rxzDHU_0 rxoDHU_0_3 := by
  intro S S_p r r_p hinv hX hin hsm_ hseg
  obtain ⟨I0, I1, h0_, hr_, b_, f_, d_⟩ := bx_cl (evs := []) (fvs := []) hseg (by decide +kernel) (by decide +kernel)
  have hinv : rxIDHU_0 S0 ws S (r 8) (r 9) (r 10) := hinv
  rw [← hr_ 8 (by decide), ← hr_ 9 (by decide), ← hr_ 10 (by decide)] at hinv
  obtain ⟨⟨l8, u8⟩, ⟨l9, u9⟩, ⟨l10, u10⟩, -⟩ := b_
  have w_ := d_
  subst w_
  have g := rxcDHU_0_3 hP hin I0 hinv l8 u8 l9 u9 l10 u10
  refine ⟨bx_narP_ok (l := []) g.1, bx_nfP_ok h0_ (fvs := []) (by decide +kernel) g.2.1, ?_, ?_⟩
  · show rxIDHU_1 S0 ws S_p (bx_val [(0, 0), (0, 0), (0, 0), (0, 0), (0, 0), (0, 0), (0, 0), (0, 0), (8, 0), (9, 0), (10, 0)] r_p 8) (bx_val [(0, 0), (0, 0), (0, 0), (0, 0), (0, 0), (0, 0), (0, 0), (0, 0), (8, 0), (9, 0), (10, 0)] r_p 9) (bx_val [(0, 0), (0, 0), (0, 0), (0, 0), (0, 0), (0, 0), (0, 0), (0, 0), (8, 0), (9, 0), (10, 0)] r_p 10)
    rw [bx_val_x (n := 8) (e := (8, 0)) h0_ rfl, bx_val_x (n := 9) (e := (9, 0)) h0_ rfl, bx_val_x (n := 10) (e := (10, 0)) h0_ rfl]
    exact g.2.2.1
  · show rxmDHU_1 S0 ws S_p (bx_val [(0, 0), (0, 0), (0, 0), (0, 0), (0, 0), (0, 0), (0, 0), (0, 0), (8, 0), (9, 0), (10, 0)] r_p 8) (bx_val [(0, 0), (0, 0), (0, 0), (0, 0), (0, 0), (0, 0), (0, 0), (0, 0), (8, 0), (9, 0), (10, 0)] r_p 9) (bx_val [(0, 0), (0, 0), (0, 0), (0, 0), (0, 0), (0, 0), (0, 0), (0, 0), (8, 0), (9, 0), (10, 0)] r_p 10) < rxmDHU_0 S0 ws S_p (r 8) (r 9) (r 10)
    rw [bx_val_x (n := 8) (e := (8, 0)) h0_ rfl, bx_val_x (n := 9) (e := (9, 0)) h0_ rfl, bx_val_x (n := 10) (e := (10, 0)) h0_ rfl, ← hr_ 8 (by decide), ← hr_ 9 (by decide), ← hr_ 10 (by decide)]
    exact g.2.2.2
theorem rxcDHU_0_4 {S0 : Nat → Int → Int} {ws : List Int} {S : Nat → Int → Int} {pa st cu : Int} (hP : rxPDHU S0 ws) (hin : bx_same rxL (bx_mdl rxC217.2.2.1) S0 S) (I0 : bx_Inv rxL S) (hinv : rxIDHU_0 S0 ws S pa st cu) (l8 : (-2147483648) ≤ pa) (u8 : pa ≤ (-1)) (l9 : 0 ≤ st) (u9 : st ≤ 5) (l10 : 0 ≤ cu) (u10 : cu ≤ 5) : (True) ∧ (True) ∧ rxIDHU_3 S0 ws S pa st cu ∧ rxmDHU_3 S0 ws S pa st cu < rxmDHU_0 S0 ws S pa st cu := by
  obtain ⟨rfl, hw⟩ := hinv
  exact ⟨trivial, trivial, ⟨rfl, ⟨by omega, by omega, by omega, by omega⟩, by omega, hw⟩, by unfold rxmDHU_0 rxmDHU_3; omega⟩
theorem rxgDHU_0_4 {X : (Nat → Int → Int) → Prop} {S0 : Nat → Int → Int} {ws : List Int} (hP : rxPDHU S0 ws) : bx_obC rxL X S0 rxC217.2.2.1 (rxIDHU S0 ws) (rxmDHU S0 ws) 0 rxzDHU_0 rxoDHU_0_4 := by
  intro S S_p r r_p hinv hX hin hsm_ hseg
  obtain ⟨I0, I1, h0_, hr_, b_, f_, d_⟩ := bx_cl (evs := []) (fvs := []) hseg (by decide +kernel) (by decide +kernel)
  have hinv : rxIDHU_0 S0 ws S (r 8) (r 9) (r 10) := hinv
  rw [← hr_ 8 (by decide), ← hr_ 9 (by decide), ← hr_ 10 (by decide)] at hinv
  obtain ⟨⟨l8, u8⟩, ⟨l9, u9⟩, ⟨l10, u10⟩, -⟩ := b_
  have w_ := d_
  subst w_
  have g := rxcDHU_0_4 hP hin I0 hinv l8 u8 l9 u9 l10 u10
  refine ⟨bx_narP_ok (l := []) g.1, bx_nfP_ok h0_ (fvs := []) (by decide +kernel) g.2.1, ?_, ?_⟩
  · show rxIDHU_3 S0 ws S_p (bx_val [(0, 0), (0, 0), (0, 0), (0, 0), (0, 0), (0, 0), (0, 0), (0, 0), (8, 0), (9, 0), (10, 0)] r_p 8) (bx_val [(0, 0), (0, 0), (0, 0), (0, 0), (0, 0), (0, 0), (0, 0), (0, 0), (8, 0), (9, 0), (10, 0)] r_p 9) (bx_val [(0, 0), (0, 0), (0, 0), (0, 0), (0, 0), (0, 0), (0, 0), (0, 0), (8, 0), (9, 0), (10, 0)] r_p 10)
    rw [bx_val_x (n := 8) (e := (8, 0)) h0_ rfl, bx_val_x (n := 9) (e := (9, 0)) h0_ rfl, bx_val_x (n := 10) (e := (10, 0)) h0_ rfl]
    exact g.2.2.1
  · show rxmDHU_3 S0 ws S_p (bx_val [(0, 0), (0, 0), (0, 0), (0, 0), (0, 0), (0, 0), (0, 0), (0, 0), (8, 0), (9, 0), (10, 0)] r_p 8) (bx_val [(0, 0), (0, 0), (0, 0), (0, 0), (0, 0), (0, 0), (0, 0), (0, 0), (8, 0), (9, 0), (10, 0)] r_p 9) (bx_val [(0, 0), (0, 0), (0, 0), (0, 0), (0, 0), (0, 0), (0, 0), (0, 0), (8, 0), (9, 0), (10, 0)] r_p 10) < rxmDHU_0 S0 ws S_p (r 8) (r 9) (r 10)
    rw [bx_val_x (n := 8) (e := (8, 0)) h0_ rfl, bx_val_x (n := 9) (e := (9, 0)) h0_ rfl, bx_val_x (n := 10) (e := (10, 0)) h0_ rfl, ← hr_ 8 (by decide), ← hr_ 9 (by decide), ← hr_ 10 (by decide)]
    exact g.2.2.2
theorem rxcDHU_0_5 {S0 : Nat → Int → Int} {ws : List Int} {S : Nat → Int → Int} {pa st cu x11 : Int} (hP : rxPDHU S0 ws) (hin : bx_same rxL (bx_mdl rxC217.2.2.1) S0 S) (I0 : bx_Inv rxL S) (hinv : rxIDHU_0 S0 ws S pa st cu) (l8 : 0 ≤ pa) (u8 : pa ≤ 2147483647) (l9 : 0 ≤ st) (u9 : st ≤ 5) (l10 : 0 ≤ cu) (u10 : cu ≤ 5) (l11 : 0 ≤ x11) (u11 : x11 ≤ 6) (f0 : x11 ≤ pa) (e0 : S 1 0 = x11) : (True) ∧ (True) ∧ rxIDHU_3 S0 ws S pa st cu ∧ rxmDHU_3 S0 ws S pa st cu < rxmDHU_0 S0 ws S pa st cu := by
  obtain ⟨rfl, hw⟩ := hinv
  exact ⟨trivial, trivial, ⟨rfl, ⟨by omega, by omega, by omega, by omega⟩, by omega, hw⟩, by unfold rxmDHU_0 rxmDHU_3; omega⟩
theorem rxgDHU_0_5 {X : (Nat → Int → Int) → Prop} {S0 : Nat → Int → Int} {ws : List Int} (hP : rxPDHU S0 ws) : bx_obC rxL X S0 rxC217.2.2.1 (rxIDHU S0 ws) (rxmDHU S0 ws) 0 rxzDHU_0 rxoDHU_0_5 := by
  intro S S_p r r_p hinv hX hin hsm_ hseg
  obtain ⟨I0, I1, h0_, hr_, b_, f_, d_⟩ := bx_cl (evs := [(0, (0, 1), (0, 0), .inr (0, (11, 0)))]) (fvs := [(1, (11, 0), (8, 0), (0, 0))]) hseg (by decide +kernel) (by decide +kernel)
  have hinv : rxIDHU_0 S0 ws S (r 8) (r 9) (r 10) := hinv
  rw [← hr_ 8 (by decide), ← hr_ 9 (by decide), ← hr_ 10 (by decide)] at hinv
  obtain ⟨⟨l8, u8⟩, ⟨l9, u9⟩, ⟨l10, u10⟩, ⟨l11, u11⟩, -⟩ := b_
  obtain ⟨f0, -⟩ := f_
  obtain ⟨e0, w_⟩ := d_
  subst w_
  have g := rxcDHU_0_5 hP hin I0 hinv l8 u8 l9 u9 l10 u10 l11 u11 f0 e0
  refine ⟨bx_narP_ok (l := []) g.1, bx_nfP_ok h0_ (fvs := []) (by decide +kernel) g.2.1, ?_, ?_⟩
  · show rxIDHU_3 S0 ws S_p (bx_val [(0, 0), (0, 0), (0, 0), (0, 0), (0, 0), (0, 0), (0, 0), (0, 0), (8, 0), (9, 0), (10, 0)] r_p 8) (bx_val [(0, 0), (0, 0), (0, 0), (0, 0), (0, 0), (0, 0), (0, 0), (0, 0), (8, 0), (9, 0), (10, 0)] r_p 9) (bx_val [(0, 0), (0, 0), (0, 0), (0, 0), (0, 0), (0, 0), (0, 0), (0, 0), (8, 0), (9, 0), (10, 0)] r_p 10)
    rw [bx_val_x (n := 8) (e := (8, 0)) h0_ rfl, bx_val_x (n := 9) (e := (9, 0)) h0_ rfl, bx_val_x (n := 10) (e := (10, 0)) h0_ rfl]
    exact g.2.2.1
  · show rxmDHU_3 S0 ws S_p (bx_val [(0, 0), (0, 0), (0, 0), (0, 0), (0, 0), (0, 0), (0, 0), (0, 0), (8, 0), (9, 0), (10, 0)] r_p 8) (bx_val [(0, 0), (0, 0), (0, 0), (0, 0), (0, 0), (0, 0), (0, 0), (0, 0), (8, 0), (9, 0), (10, 0)] r_p 9) (bx_val [(0, 0), (0, 0), (0, 0), (0, 0), (0, 0), (0, 0), (0, 0), (0, 0), (8, 0), (9, 0), (10, 0)] r_p 10) < rxmDHU_0 S0 ws S_p (r 8) (r 9) (r 10)
    rw [bx_val_x (n := 8) (e := (8, 0)) h0_ rfl, bx_val_x (n := 9) (e := (9, 0)) h0_ rfl, bx_val_x (n := 10) (e := (10, 0)) h0_ rfl, ← hr_ 8 (by decide), ← hr_ 9 (by decide), ← hr_ 10 (by decide)]
    exact g.2.2.2
theorem rxdDHU_0_0 {S0 : Nat → Int → Int} {ws : List Int} {S : Nat → Int → Int} {pa st cu x11 x12 x13 x14 x15 x16 x17 x18 x19 x20 x21 : Int} (hP : rxPDHU S0 ws) (hin : bx_same rxL (bx_mdl rxC217.2.2.1) S0 S) (hin2 : bx_same rxL (bx_mdl rxC217.2.2.1) S (bx_up (bx_up (bx_up S (x13).toNat x18 ((-1))) (x19).toNat x21 ((-1))) 0 8 0)) (I0 : bx_Inv rxL S) (I1 : bx_Inv rxL (bx_up (bx_up (bx_up S (x13).toNat x18 ((-1))) (x19).toNat x21 ((-1))) 0 8 0)) (hinv : rxIDHU_0 S0 ws S pa st cu) (l8 : 0 ≤ pa) (u8 : pa ≤ 5) (l9 : 0 ≤ st) (u9 : st ≤ 5) (l10 : 0 ≤ cu) (u10 : cu ≤ 5) (l11 : 1 ≤ x11) (u11 : x11 ≤ 6) (l12 : 0 ≤ x12) (u12 : x12 ≤ 1522) (l13 : 0 ≤ x13) (u13 : x13 ≤ 1522) (l14 : 0 ≤ x14) (u14 : x14 ≤ 30) (l15 : 0 ≤ x15) (u15 : x15 ≤ 35) (l16 : (-1) ≤ x16) (u16 : x16 ≤ 9) (l17 : 0 ≤ x17) (u17 : x17 ≤ 30) (l18 : 0 ≤ x18) (u18 : x18 ≤ 35) (l19 : 0 ≤ x19) (u19 : x19 ≤ 1522) (l20 : 0 ≤ x20) (u20 : x20 ≤ 30) (l21 : 0 ≤ x21) (u21 : x21 ≤ 35) (f0 : x21 = x20 + cu) (f1 : x20 = 6 * (st)) (f2 : x18 = x17 + cu) (f3 : x17 = 6 * (st)) (f4 : x15 = x14 + cu) (f5 : x14 = 6 * (st)) (f6 : pa < x11) (e7 : S 1 0 = x11) (e6 : S 4 pa = x12) (e5 : S (x12).toNat 0 = x13) (e4 : S (x13).toNat x15 = x16) (e2 : (bx_up S (x13).toNat x18 ((-1))) (x12).toNat 1 = x19) : (True) ∧ rxPSDHU S0 ws (bx_up (bx_up (bx_up S (x13).toNat x18 ((-1))) (x19).toNat x21 ((-1))) 0 8 0) (some x16) := by
  obtain ⟨rfl, hw⟩ := hinv
  have hpl : rkPl S := hP
  obtain ⟨z4, z0, z1⟩ := rjd_pl hpl (pa := pa) (by omega) (by omega)
  have a0 : x12 = 23 + 3 * pa := e6.symm.trans z4
  subst a0
  have ae5 : x13 = 24 + 3 * pa := e5.symm.trans z0
  subst ae5
  rw [bx_up_ne (by omega)] at e2
  have ae2 : x19 = 25 + 3 * pa := e2.symm.trans z1
  subst ae2
  have bx15 : x15 = 6 * st + cu := by omega
  subst bx15
  have bx18 : x18 = 6 * st + cu := by omega
  subst bx18
  have bx21 : x21 = 6 * st + cu := by omega
  subst bx21
  obtain ⟨g1, g2⟩ := rjd_w (r := (-1)) (ix := 6 * st + cu) (rjdSm_r (S := S)) (pa := pa) (by omega) (if_pos rfl) (if_pos rfl)
  refine ⟨trivial, pa, st, cu, hw, Or.inr (Or.inr ⟨by omega, by omega, by omega, by omega, ⟨by omega, by omega, by omega⟩, congrArg some e4.symm, ⟨⟨(bx_up_ne (by omega)).trans g1.1, (bx_up_ne (by omega)).trans g1.2⟩, fun p t a b c d => (bx_up_ne (by omega)).trans (g2 p t a b c d)⟩, fun p j a b c => (bx_up_ne (by omega)).trans ((bx_up_ne (by omega)).trans ((bx_up_ne (by omega))))⟩)⟩
theorem rxfDHU_0_0 {X : (Nat → Int → Int) → Prop} {S0 : Nat → Int → Int} {ws : List Int} (hP : rxPDHU S0 ws) : bx_obE rxL X S0 rxC217.2.2.1 (rxIDHU S0 ws) (rxPSDHU S0 ws) 0 rxzDHU_0 rxeDHU_0_0 := by
  intro S S_p r r_p hinv hX hin hsm_ hseg
  obtain ⟨I0, I1, h0_, hr_, b_, f_, d_⟩ := bx_cl (evs := [(1, (0, 0), (0, 8), .inr (0, (0, 0))), (1, (19, 0), (21, 0), .inr (0, (0, (-1)))), (0, (12, 0), (0, 1), .inr (3, (19, 0))), (1, (13, 0), (18, 0), .inr (0, (0, (-1)))), (0, (13, 0), (15, 0), .inr (0, (16, 0))), (0, (12, 0), (0, 0), .inr (3, (13, 0))), (0, (0, 4), (8, 0), .inr (3, (12, 0))), (0, (0, 1), (0, 0), .inr (0, (11, 0)))]) (fvs := [(5, (21, 0), (20, 0), (10, 0)), (4, (20, 0), (9, 0), (0, 6)), (5, (18, 0), (17, 0), (10, 0)), (4, (17, 0), (9, 0), (0, 6)), (5, (15, 0), (14, 0), (10, 0)), (4, (14, 0), (9, 0), (0, 6)), (0, (8, 0), (11, 0), (0, 0))]) hseg (by decide +kernel) (by decide +kernel)
  have hinv : rxIDHU_0 S0 ws S (r 8) (r 9) (r 10) := hinv
  rw [← hr_ 8 (by decide), ← hr_ 9 (by decide), ← hr_ 10 (by decide)] at hinv
  obtain ⟨⟨l8, u8⟩, ⟨l9, u9⟩, ⟨l10, u10⟩, ⟨l11, u11⟩, ⟨l12, u12⟩, ⟨l13, u13⟩, ⟨l14, u14⟩, ⟨l15, u15⟩, ⟨l16, u16⟩, ⟨l17, u17⟩, ⟨l18, u18⟩, ⟨l19, u19⟩, ⟨l20, u20⟩, ⟨l21, u21⟩, -⟩ := b_
  obtain ⟨f0, f1, f2, f3, f4, f5, f6, -⟩ := f_
  obtain ⟨T0, ⟨T1, ⟨e2, ⟨T3, ⟨e4, ⟨e5, ⟨e6, ⟨e7, w_⟩⟩⟩⟩, w3⟩⟩, w1⟩, w0⟩ := d_
  subst w0
  subst w1
  subst w3
  subst w_
  have g := rxdDHU_0_0 hP hin hsm_ I0 I1 hinv l8 u8 l9 u9 l10 u10 l11 u11 l12 u12 l13 u13 l14 u14 l15 u15 l16 u16 l17 u17 l18 u18 l19 u19 l20 u20 l21 u21 f0 f1 f2 f3 f4 f5 f6 e7 e6 e5 e4 e2
  refine ⟨bx_narP_ok (l := []) g.1, ?_⟩
  show rxPSDHU S0 ws (bx_up (bx_up (bx_up T3 (r_p 13).toNat (r_p 18) ((-1))) (r_p 19).toNat (r_p 21) ((-1))) 0 (8) (0)) (some (bx_num r_p (.inr (0, (16, 0)))))
  rw [bx_xv_ok h0_]
  exact g.2
theorem rxdDHU_2_0 {S0 : Nat → Int → Int} {ws : List Int} {S : Nat → Int → Int} {pa st cu res : Int} (hP : rxPDHU S0 ws) (hin : bx_same rxL (bx_mdl rxC217.2.2.1) S0 S) (hin2 : bx_same rxL (bx_mdl rxC217.2.2.1) S S) (I0 : bx_Inv rxL S) (I1 : bx_Inv rxL S) (hinv : rxIDHU_2 S0 ws S pa st cu res) (l8 : (-2147483648) ≤ pa) (u8 : pa ≤ 2147483647) (l9 : (-2147483648) ≤ st) (u9 : st ≤ 2147483647) (l10 : (-2147483648) ≤ cu) (u10 : cu ≤ 2147483647) (l11 : (-6) ≤ res) (u11 : res ≤ (-1)) : (True) ∧ rxPSDHU S0 ws S (some res) := by
  obtain ⟨h1, h2, hw, hs⟩ := hinv
  exact ⟨trivial, pa, st, cu, hw, Or.inl ⟨h2, congrArg some h1, hs⟩⟩
theorem rxfDHU_2_0 {X : (Nat → Int → Int) → Prop} {S0 : Nat → Int → Int} {ws : List Int} (hP : rxPDHU S0 ws) : bx_obE rxL X S0 rxC217.2.2.1 (rxIDHU S0 ws) (rxPSDHU S0 ws) 2 rxzDHU_2 rxeDHU_2_0 := by
  intro S S_p r r_p hinv hX hin hsm_ hseg
  obtain ⟨I0, I1, h0_, hr_, b_, f_, d_⟩ := bx_cl (evs := []) (fvs := []) hseg (by decide +kernel) (by decide +kernel)
  have hinv : rxIDHU_2 S0 ws S (r 8) (r 9) (r 10) (r 11) := hinv
  rw [← hr_ 8 (by decide), ← hr_ 9 (by decide), ← hr_ 10 (by decide), ← hr_ 11 (by decide)] at hinv
  obtain ⟨⟨l8, u8⟩, ⟨l9, u9⟩, ⟨l10, u10⟩, ⟨l11, u11⟩, -⟩ := b_
  have w_ := d_
  subst w_
  have g := rxdDHU_2_0 hP hin hsm_ I0 I1 hinv l8 u8 l9 u9 l10 u10 l11 u11
  refine ⟨bx_narP_ok (l := []) g.1, ?_⟩
  show rxPSDHU S0 ws S_p (some (bx_num r_p (.inr (0, (11, 0)))))
  rw [bx_xv_ok h0_]
  exact g.2
theorem rxdDHU_4_0 {S0 : Nat → Int → Int} {ws : List Int} {S : Nat → Int → Int} {pa st cu res : Int} (hP : rxPDHU S0 ws) (hin : bx_same rxL (bx_mdl rxC217.2.2.1) S0 S) (hin2 : bx_same rxL (bx_mdl rxC217.2.2.1) S S) (I0 : bx_Inv rxL S) (I1 : bx_Inv rxL S) (hinv : rxIDHU_4 S0 ws S pa st cu res) (l8 : (-2147483648) ≤ pa) (u8 : pa ≤ 2147483647) (l9 : 0 ≤ st) (u9 : st ≤ 5) (l10 : 0 ≤ cu) (u10 : cu ≤ 5) (l11 : (-6) ≤ res) (u11 : res ≤ (-1)) : (True) ∧ rxPSDHU S0 ws S (some res) := by
  obtain ⟨h1, ⟨i0, i1, i2, i3⟩, h3, hw, hs⟩ := hinv
  exact ⟨trivial, pa, st, cu, hw, Or.inr (Or.inl ⟨i0, i1, i2, i3, h3, congrArg some h1, hs⟩)⟩
theorem rxfDHU_4_0 {X : (Nat → Int → Int) → Prop} {S0 : Nat → Int → Int} {ws : List Int} (hP : rxPDHU S0 ws) : bx_obE rxL X S0 rxC217.2.2.1 (rxIDHU S0 ws) (rxPSDHU S0 ws) 4 rxzDHU_4 rxeDHU_4_0 := by
  intro S S_p r r_p hinv hX hin hsm_ hseg
  obtain ⟨I0, I1, h0_, hr_, b_, f_, d_⟩ := bx_cl (evs := []) (fvs := []) hseg (by decide +kernel) (by decide +kernel)
  have hinv : rxIDHU_4 S0 ws S (r 8) (r 9) (r 10) (r 11) := hinv
  rw [← hr_ 8 (by decide), ← hr_ 9 (by decide), ← hr_ 10 (by decide), ← hr_ 11 (by decide)] at hinv
  obtain ⟨⟨l8, u8⟩, ⟨l9, u9⟩, ⟨l10, u10⟩, ⟨l11, u11⟩, -⟩ := b_
  have w_ := d_
  subst w_
  have g := rxdDHU_4_0 hP hin hsm_ I0 I1 hinv l8 u8 l9 u9 l10 u10 l11 u11
  refine ⟨bx_narP_ok (l := []) g.1, ?_⟩
  show rxPSDHU S0 ws S_p (some (bx_num r_p (.inr (0, (11, 0)))))
  rw [bx_xv_ok h0_]
  exact g.2
theorem rxgCDHU {X : (Nat → Int → Int) → Prop} {S0 : Nat → Int → Int} {ws : List Int} (hP : rxPDHU S0 ws) : bx_allI (fun i q => rxUDHU q = true ∨ bx_allP (fun o => bx_obC rxL X S0 rxC217.2.2.1 (rxIDHU S0 ws) (rxmDHU S0 ws) i q.1 o) q.2.1) 0 rxYDHU := ⟨Or.inr ⟨rxgDHU_0_0 hP, rxgDHU_0_1 hP, rxgDHU_0_2 hP, rxgDHU_0_3 hP, rxgDHU_0_4 hP, rxgDHU_0_5 hP, trivial⟩, Or.inl rfl, Or.inr trivial, Or.inl rfl, Or.inr trivial, trivial⟩
theorem rxgEDHU {X : (Nat → Int → Int) → Prop} {S0 : Nat → Int → Int} {ws : List Int} (hP : rxPDHU S0 ws) : bx_allI (fun i q => rxUDHU q = true ∨ bx_allP (fun E => bx_obE rxL X S0 rxC217.2.2.1 (rxIDHU S0 ws) (rxPSDHU S0 ws) i q.1 E) q.2.2) 0 rxYDHU := ⟨Or.inr ⟨rxfDHU_0_0 hP, trivial⟩, Or.inl rfl, Or.inr ⟨rxfDHU_2_0 hP, trivial⟩, Or.inl rfl, Or.inr ⟨rxfDHU_4_0 hP, trivial⟩, trivial⟩
theorem rxuDHU {PX : State → Prop} {Dg : va_G} {A : Nat → Prop} {ad xa : Nat → Nat} {l : Launch} {X : (Nat → Int → Int) → Prop} (hPX : rx_PXOK rxNW A PX) (hX : ∀ S S1 : Nat → Int → Int, X S → bx_same rxL (bx_mdl rxC217.2.2.1) S S1 → X S1) (hQ110 : bx_ConP rxG rxNW rxAO PX Dg rxL X vwCl A ad l rxM110 rxC110 rxP110 rxPS110) {S0 : Nat → Int → Int} {ws : List Int} (hP : rxPDHU S0 ws) : ∀ (i : Nat) (q : bx_HE), rxYDHU[i]? = some q → rxUDHU q = true → ∀ {p : Program} {e : Env} {R : Room} {s : State} {m : MethodId} {args : Array Value} {below : List Frame} {meth : Method} {c : Code} {Q : State → Prop} {H0 : Heap}, rx_Fr rxG rxNW rxAO PX p s m args meth c rxM217 → (∀ q, H0.size ≤ q → A q) → H0 = s.heap → rxM217.2.2.2.2.2.2.1 ≤ R.cells → rxM217.2.2.2.2.2.2.2 ≤ R.slots → rxC217.2.2.2.1 ≤ R.frames → rxC217.2.2.2.1 * 40 ≤ R.locals → bx_Step p l e R s m args below meth c Q Dg rxL X vwCl A xa H0 ad rxM217 rxYDHU (rxIDHU S0 ws) (rxmDHU S0 ws) S0 rxC217.2.2.1 i q := by
  intro i q hq hus p e R s m args below meth c Q H0 hF hA hH0 hmc hms hd hdl
  match i, hq with
  | 0, hq =>
    cases hq
    exact absurd (show false = true from hus) Bool.false_ne_true
  | 1, hq =>
    cases hq
    exact rx_stepC (ins := .invokevirtual 110) (len := 3) (i_p := 2) (M_p := rxM110) (d := rxC217.2.2.2.1) (as := [.inr (3, (0, 0)), .inr (0, (0, (-1)))]) (t := []) (ct := rxC110) hPX hF rfl hA hH0 hmc hms hd hdl (by decide +kernel) rfl rfl (by decide +kernel) (by decide +kernel) hQ110 (by decide +kernel) rfl (Or.inr ⟨_, _, _, 1, rfl, rfl, by omega, rfl, rfl, rfl⟩) (rxsDHU_1 hP)
  | 2, hq =>
    cases hq
    exact absurd (show false = true from hus) Bool.false_ne_true
  | 3, hq =>
    cases hq
    exact rx_stepC (ins := .invokevirtual 110) (len := 3) (i_p := 4) (M_p := rxM110) (d := rxC217.2.2.2.1) (as := [.inr (3, (0, 0)), .inr (0, (0, (-2)))]) (t := []) (ct := rxC110) hPX hF rfl hA hH0 hmc hms hd hdl (by decide +kernel) rfl rfl (by decide +kernel) (by decide +kernel) hQ110 (by decide +kernel) rfl (Or.inr ⟨_, _, _, 1, rfl, rfl, by omega, rfl, rfl, rfl⟩) (rxsDHU_3 hP)
  | 4, hq =>
    cases hq
    exact absurd (show false = true from hus) Bool.false_ne_true
  | n + 5, hq => cases hq
theorem rxQDHU {PX : State → Prop} {Dg : va_G} {A : Nat → Prop} {ad xa : Nat → Nat} {l : Launch} {X : (Nat → Int → Int) → Prop} (hPX : rx_PXOK rxNW A PX) (hsl : ∀ s : State, PX s → ∀ o idx n : Nat, rxSl o idx = some n → ∃ tx : String, vk_R (rxNm o) idx tx (ad n) s)
    (hX : ∀ S S_p : Nat → Int → Int, X S → bx_same rxL (bx_mdl rxC217.2.2.1) S S_p → X S_p)
    (ih : ∀ (j2 : Nat) (ct2 : bx_Ct) (M2 : rx_Mt), ct2 ∈ rxCnE j2 → ct2.2.2.2.1 + 1 ≤ rxC217.2.2.2.1 → rxT.2.2.2.2.2 j2 = some M2 → bx_Con rxG rxNW rxAO PX Dg rxL X vwCl A ad l M2 ct2) (hQ110 : bx_ConP rxG rxNW rxAO PX Dg rxL X vwCl A ad l rxM110 rxC110 rxP110 rxPS110) : bx_ConP rxG rxNW rxAO PX Dg rxL X vwCl A ad l rxM217 rxC217 rxPDHU rxPSDHU :=
  rxQof (xa := xa) (Cn := rxCnE) (f := 30000) (j := 217) (tab := rxYDHU) (us := rxUDHU) hPX hsl hX ih rfl rxYcDHU rxIDHU rxmDHU
    (fun S0 ws r I0 I ht0 ht as he he1 hX0 hI0 hP hs ha => by
      have e := he.symm.trans (show bx_ent0 rxNP rxC217.1 bx_I0 [] = some ([(0, 0), (0, 0), (0, 0), (0, 0), (0, 0), (0, 0), (0, 0), (0, 0), ((-2147483648), 2147483647), ((-2147483648), 2147483647), ((-2147483648), 2147483647)], [], [.inr (3, (0, 0)), .inr (0, (8, 0)), .inr (0, (9, 0)), .inr (0, (10, 0))]) from rfl)
      cases e
      subst ha
      have h0 : r 0 = 0 := hs.1
      show rxIDHU_0 S0 _ S0 (r 8) (r 9) (r 10)
      refine ⟨rfl, ?_⟩
      simp only [List.map_cons, List.map_nil, bx_xv_ok h0]
      rfl)
    (fun S0 ws hP => rxuDHU (xa := xa) hPX hX hQ110 hP) (fun S0 ws hP => rxgCDHU hP) (fun S0 ws hP => rxgEDHU hP)
