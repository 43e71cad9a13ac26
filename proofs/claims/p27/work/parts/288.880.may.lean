noncomputable def rkAl (S : Nat → Int → Int) (p : Int) : Prop := S 6 p ≤ S 19 0 ∧ S 19 0 < S 7 p
noncomputable def rkYt (S : Nat → Int → Int) (a b : Int) : Int := min (S 7 a) (S 7 b) - max (S 6 a) (S 6 b)
noncomputable def rkMb (S : Nat → Int → Int) (pa ps : Int) : Prop := rkAl S ps ∧ ∃ z : rkH3, rkDs S ps pa (-1) (S 19 0) z ∧ z.2.2 = 0
noncomputable def rkMbn (S : Nat → Int → Int) (pa ps : Int) : Prop := ¬ rkAl S ps ∨ ∃ z : rkH3, rkDs S ps pa (-1) (S 19 0) z ∧ z.2.2 ≠ 0
noncomputable def rkTg (S : Nat → Int → Int) (pa ms pu yr : Int) : Prop := ∃ z : rkH3, rkDs S pu pa ms yr z ∧ z.2.2 = 0 ∧ z.2.1 ≤ rkYt S ms pu
noncomputable def rkTgn (S : Nat → Int → Int) (pa ms pu yr : Int) : Prop := ∃ z : rkH3, rkDs S pu pa ms yr z ∧ ¬ (z.2.2 = 0 ∧ z.2.1 ≤ rkYt S ms pu)
noncomputable def rkMl (S : Nat → Int → Int) (vs ps : Int) : Prop := S 10 vs ≠ ps ∧ rkAl S (S 10 vs) ∧ rkAl S ps ∧ rkTg S (S 9 vs) (S 10 vs) ps (S 19 0)
noncomputable def rkMln (S : Nat → Int → Int) (vs ps : Int) : Prop := S 10 vs = ps ∨ ¬ rkAl S (S 10 vs) ∨ ¬ rkAl S ps ∨ rkTgn S (S 9 vs) (S 10 vs) ps (S 19 0)
noncomputable def rxCMBD : bx_Ct := ([(3, (1, 1, 0)), (0, (0, 0, 5)), (0, (0, 0, 7))], some (0, (0, 0, 1)), [(1017, 0), (1018, 0), (1023, 0)], 4, [])
noncomputable def rxIMBD_0 (S0 : Nat → Int → Int) (ws : List Int) (S : Nat → Int → Int) (pa ps : Int) : Prop := S = S0 ∧ ws = [1, pa, ps]
noncomputable def rxmMBD_0 (S0 : Nat → Int → Int) (ws : List Int) (S : Nat → Int → Int) (pa ps : Int) : Nat := 100
noncomputable def rxzMBD_0 : rx_Z := ([(0, 0), (0, 0), (0, 0), (0, 0), (0, 0), (0, 0), (0, 0), (0, 0), (0, 5), (0, 7)], [], [], 0, 0, 0, [(0, .inr (3, (0, 1))), (1, .inr (0, (8, 0))), (2, .inr (0, (9, 0)))], [])
noncomputable def rxIMBD_1 (S0 : Nat → Int → Int) (ws : List Int) (S : Nat → Int → Int) (pa ps y : Int) : Prop := S = S0 ∧ ws = [1, pa, ps] ∧ y = S0 19 0 ∧ rkAl S0 ps
noncomputable def rxmMBD_1 (S0 : Nat → Int → Int) (ws : List Int) (S : Nat → Int → Int) (pa ps y : Int) : Nat := 50
noncomputable def rxzMBD_1 : rx_Z := ([(0, 0), (0, 0), (0, 0), (0, 0), (0, 0), (0, 0), (0, 0), (0, 0), (0, 5), (0, 7), (0, 300)], [], [], 0, 0, 20, [(0, .inr (3, (0, 1))), (1, .inr (0, (8, 0))), (2, .inr (0, (9, 0)))], [.inr (0, (10, 0)), .inr (0, (0, (-1))), .inr (0, (8, 0)), .inr (0, (9, 0)), .inr (3, (0, 1))])
noncomputable def rxIMBD_2 (S0 : Nat → Int → Int) (ws : List Int) (S : Nat → Int → Int) (pa ps y : Int) : Prop := ws = [1, pa, ps] ∧ rkAl S0 ps ∧ rkDs S0 ps pa (-1) (S0 19 0) (hd3 S)
noncomputable def rxmMBD_2 (S0 : Nat → Int → Int) (ws : List Int) (S : Nat → Int → Int) (pa ps y : Int) : Nat := 40
noncomputable def rxzMBD_2 : rx_Z := ([(0, 0), (0, 0), (0, 0), (0, 0), (0, 0), (0, 0), (0, 0), (0, 0), (0, 5), (0, 7), (0, 300)], [], [], 0, 0, 23, [(0, .inr (3, (0, 1))), (1, .inr (0, (8, 0))), (2, .inr (0, (9, 0)))], [])
noncomputable def rxoMBD_0_0 : bx_HO := (([(0, 0), (0, 0), (0, 0), (0, 0), (0, 0), (0, 0), (0, 0), (0, 0), (0, 5), (0, 7), (0, 299), (1, 8), (0, 200), (1, 300)], [(0, (10, 0), (13, 0)), (1, (12, 0), (10, 0)), (0, (9, 0), (11, 0))], [(((0, 0), 1851192626986356797424367893248739914126558548369245150782619648000000), .inr (0, (13, 0))), (((0, 5), 2), .inr (3, (0, 7))), (((0, 0), 1851192626986356797424367893248739914126558548369245150782029824000000), .inr (0, (12, 0))), (((0, 5), 1), .inr (3, (0, 6))), (((0, 0), 1851192626986356797424340330377019318111018015026043177556312064000000), .inr (0, (11, 0))), (((0, 5), 0), .inr (0, (11, 0))), (((0, 0), 1851192626986356797424340330377019318111018015026043177564569600000000), .inr (0, (10, 0))), (((0, 19), 0), .inr (0, (10, 0))), (((0, 1), 13), .inr (3, (0, 19))), (((0, 1), 4), .inr (3, (0, 5)))], 0, 0, 20, [(0, .inr (3, (0, 1))), (1, .inr (0, (8, 0))), (2, .inr (0, (9, 0)))], [.inr (0, (10, 0)), .inr (0, (0, (-1))), .inr (0, (8, 0)), .inr (0, (9, 0)), .inr (3, (0, 1))]), [], [], [(0, 0), (0, 0), (0, 0), (0, 0), (0, 0), (0, 0), (0, 0), (0, 0), (8, 0), (9, 0), (10, 0)], 1)
noncomputable def rxeMBD_0_0 : rx_End × List (Nat × Int × Int) := (([(0, 0), (0, 0), (0, 0), (0, 0), (0, 0), (0, 0), (0, 0), (0, 0), (0, 5), (0, 7), (0, 300), (0, 7)], [(1, (11, 0), (9, 0))], [(((0, 0), 1851192626986356797424340330377019318111018015026043177556312064000000), .inr (0, (11, 0))), (((0, 5), 0), .inr (0, (11, 0))), (((0, 0), 1851192626986356797424340330377019318111018015026043177564569600000000), .inr (0, (10, 0))), (((0, 19), 0), .inr (0, (10, 0))), (((0, 1), 13), .inr (3, (0, 19))), (((0, 1), 4), .inr (3, (0, 5)))], some (.inr (0, (0, 0)))), [])
noncomputable def rxeMBD_0_1 : rx_End × List (Nat × Int × Int) := (([(0, 0), (0, 0), (0, 0), (0, 0), (0, 0), (0, 0), (0, 0), (0, 0), (0, 5), (0, 7), (0, 300), (1, 8), (0, 200), (0, 300)], [(1, (13, 0), (10, 0)), (1, (12, 0), (10, 0)), (0, (9, 0), (11, 0))], [(((0, 0), 1851192626986356797424367893248739914126558548369245150782619648000000), .inr (0, (13, 0))), (((0, 5), 2), .inr (3, (0, 7))), (((0, 0), 1851192626986356797424367893248739914126558548369245150782029824000000), .inr (0, (12, 0))), (((0, 5), 1), .inr (3, (0, 6))), (((0, 0), 1851192626986356797424340330377019318111018015026043177556312064000000), .inr (0, (11, 0))), (((0, 5), 0), .inr (0, (11, 0))), (((0, 0), 1851192626986356797424340330377019318111018015026043177564569600000000), .inr (0, (10, 0))), (((0, 19), 0), .inr (0, (10, 0))), (((0, 1), 13), .inr (3, (0, 19))), (((0, 1), 4), .inr (3, (0, 5)))], some (.inr (0, (0, 0)))), [])
noncomputable def rxeMBD_0_2 : rx_End × List (Nat × Int × Int) := (([(0, 0), (0, 0), (0, 0), (0, 0), (0, 0), (0, 0), (0, 0), (0, 0), (0, 5), (0, 7), (0, 199), (1, 8), (1, 200)], [(0, (10, 0), (12, 0)), (0, (9, 0), (11, 0))], [(((0, 0), 1851192626986356797424367893248739914126558548369245150782029824000000), .inr (0, (12, 0))), (((0, 5), 1), .inr (3, (0, 6))), (((0, 0), 1851192626986356797424340330377019318111018015026043177556312064000000), .inr (0, (11, 0))), (((0, 5), 0), .inr (0, (11, 0))), (((0, 0), 1851192626986356797424340330377019318111018015026043177564569600000000), .inr (0, (10, 0))), (((0, 19), 0), .inr (0, (10, 0))), (((0, 1), 13), .inr (3, (0, 19))), (((0, 1), 4), .inr (3, (0, 5)))], some (.inr (0, (0, 0)))), [])
noncomputable def rxeMBD_2_0 : rx_End × List (Nat × Int × Int) := (([(0, 0), (0, 0), (0, 0), (0, 0), (0, 0), (0, 0), (0, 0), (0, 0), (0, 5), (0, 7), (0, 300), (0, 0)], [], [(((0, 0), 1851192626986356797825753743950570534658660943933713684673396736000000), .inr (0, (11, 0))), (((0, 21), 2), .inr (0, (11, 0))), (((0, 1), 17), .inr (3, (0, 21)))], some (.inr (0, (0, 1)))), [])
noncomputable def rxeMBD_2_1 : rx_End × List (Nat × Int × Int) := (([(0, 0), (0, 0), (0, 0), (0, 0), (0, 0), (0, 0), (0, 0), (0, 0), (0, 5), (0, 7), (0, 300), (1, 300)], [(3, (11, 0), (0, 0))], [(((0, 0), 1851192626986356797825753743950570534658660943933713684673396736000000), .inr (0, (11, 0))), (((0, 21), 2), .inr (0, (11, 0))), (((0, 1), 17), .inr (3, (0, 21)))], some (.inr (0, (0, 0)))), [])
noncomputable def rxYMBD : List bx_HE := [(rxzMBD_0, [rxoMBD_0_0], [rxeMBD_0_0, rxeMBD_0_1, rxeMBD_0_2]), (rxzMBD_1, [], []), (rxzMBD_2, [], [rxeMBD_2_0, rxeMBD_2_1])]
noncomputable def rxUMBD (q : bx_HE) : Bool := Nat.beq (rx_zpc q.1) 20
noncomputable def rxYBMBD : bx_B := (rxV, rxNP, rxDmf, bx_mdH rxCMBD.2.2.1)
set_option maxRecDepth 100000 in
theorem rxYcMBD : bx_chkH rxYBMBD rxM27 rxCMBD rxYMBD (rxUMBD, fun cut z => rx_ex2 (rxCT rxYBMBD rxCnE) cut 30000 rxCMBD.2.2.2.1 27 z) = true := by decide +kernel
noncomputable def rxIMBD (S0 : Nat → Int → Int) (ws : List Int) (i : Nat) : bx_SP := fun S r => match i with | 0 => rxIMBD_0 S0 ws S (r 8) (r 9) | 1 => rxIMBD_1 S0 ws S (r 8) (r 9) (r 10) | 2 => rxIMBD_2 S0 ws S (r 8) (r 9) (r 10) | _ => False
noncomputable def rxmMBD (S0 : Nat → Int → Int) (ws : List Int) (i : Nat) (S : Nat → Int → Int) (r : Nat → Int) : Nat := match i with | 0 => rxmMBD_0 S0 ws S (r 8) (r 9) | 1 => rxmMBD_1 S0 ws S (r 8) (r 9) (r 10) | 2 => rxmMBD_2 S0 ws S (r 8) (r 9) (r 10) | _ => 0
noncomputable def rxPMBD (S0 : Nat → Int → Int) (ws : List Int) : Prop := ∃ pa ps : Int, ws = [1, pa, ps] ∧ ps < S0 5 0 ∧ rkDp S0
noncomputable def rxPSMBD (S0 : Nat → Int → Int) (ws : List Int) (S : Nat → Int → Int) (w : Option Int) : Prop := ∃ pa ps : Int, ws = [1, pa, ps] ∧ ((w = some 1 ∧ rkMb S0 pa ps) ∨ (w = some 0 ∧ rkMbn S0 pa ps))
theorem rxkMBD_1 {S0 : Nat → Int → Int} {ws : List Int} {S : Nat → Int → Int} {pa ps y : Int} (hP : rxPMBD S0 ws) (hin : bx_same rxL (bx_mdl rxCMBD.2.2.1) S0 S) (I0 : bx_Inv rxL S) (hinv : rxIMBD_1 S0 ws S pa ps y) (l8 : 0 ≤ pa) (u8 : pa ≤ 5) (l9 : 0 ≤ ps) (u9 : ps ≤ 7) (l10 : 0 ≤ y) (u10 : y ≤ 300) : rxPHED S [1, ps, pa, (-1), y] ∧ ∀ (S_p : Nat → Int → Int), rxPSHED S [1, ps, pa, (-1), y] S_p none → bx_Inv rxL S_p → bx_same rxL (bx_mdl rxCHED.2.2.1) S S_p → rxIMBD_2 S0 ws S_p pa ps y ∧ rxmMBD_2 S0 ws S_p pa ps y < rxmMBD_1 S0 ws S pa ps y := by
  obtain ⟨hS, hw, hy, ha⟩ := hinv
  subst hS
  obtain ⟨pa9, ps9, hw2, hps, hdp⟩ := hP
  have w0_ : pa = pa9 := Option.some.inj (congrArg (fun l : List Int => l[1]?) (hw.symm.trans hw2))
  subst w0_
  have w1_ : ps = ps9 := Option.some.inj (congrArg (fun l : List Int => l[2]?) (hw.symm.trans hw2))
  subst w1_
  refine ⟨⟨ps, pa, -1, y, rfl, hps, hdp⟩, fun S_p hq _ hsm => ⟨⟨hw, ha, ?_⟩, by unfold rxmMBD_1 rxmMBD_2; omega⟩⟩
  obtain ⟨-, p2, pa2, t2, y2, hw3, h⟩ := hq
  have k0 : ps = p2 := Option.some.inj (congrArg (fun l : List Int => l[1]?) hw3)
  have k1 : pa = pa2 := Option.some.inj (congrArg (fun l : List Int => l[2]?) hw3)
  have k2 : (-1 : Int) = t2 := Option.some.inj (congrArg (fun l : List Int => l[3]?) hw3)
  have k3 : y = y2 := Option.some.inj (congrArg (fun l : List Int => l[4]?) hw3)
  subst k0
  subst k1
  subst k2
  subst k3
  rw [← hy]
  exact h
theorem rxsMBD_1 {X : (Nat → Int → Int) → Prop} {S0 : Nat → Int → Int} {ws : List Int} (hP : rxPMBD S0 ws) : rx_obK X S0 rxCMBD.2.2.1 rxCHED.2.2.1 (rxIMBD S0 ws) (rxmMBD S0 ws) 1 2 rxzMBD_1 rxzMBD_2 [.inr (3, (0, 1)), .inr (0, (9, 0)), .inr (0, (8, 0)), .inr (0, (0, (-1))), .inr (0, (10, 0))] none rxPHED rxPSHED := by
  intro S r hinv hXS I0 hin hs_ hf_
  have b_ := bx_bds_sat hs_
  have f_ := bx_fcl_ok hs_.1 hf_
  obtain ⟨⟨l8, u8⟩, ⟨l9, u9⟩, ⟨l10, u10⟩, -⟩ := b_
  have g := rxkMBD_1 hP hin I0 hinv l8 u8 l9 u9 l10 u10
  have ea : List.map (bx_num r) [.inr (3, (0, 1)), .inr (0, (9, 0)), .inr (0, (8, 0)), .inr (0, (0, (-1))), .inr (0, (10, 0))] = [1, (r 9), (r 8), -1, (r 10)] := by
    simp only [List.map_cons, List.map_nil, bx_xv_ok hs_.1]
    rfl
  rw [ea]
  refine ⟨g.1, fun S_p w r_p hPS hX_p I1 hsm hr hw hs_p => ?_⟩
  have hw : w = none := hPS.1
  subst hw
  have g2 := g.2 S_p hPS I1 hsm
  show rxIMBD_2 S0 ws S_p (r_p 8) (r_p 9) (r_p 10) ∧ rxmMBD_2 S0 ws S_p (r_p 8) (r_p 9) (r_p 10) < _
  rw [hr 8 (by decide), hr 9 (by decide), hr 10 (by decide)]
  exact g2
theorem rxcMBD_0_0 {S0 : Nat → Int → Int} {ws : List Int} {S : Nat → Int → Int} {pa ps x10 x11 x12 x13 : Int} (hP : rxPMBD S0 ws) (hin : bx_same rxL (bx_mdl rxCMBD.2.2.1) S0 S) (I0 : bx_Inv rxL S) (hinv : rxIMBD_0 S0 ws S pa ps) (l8 : 0 ≤ pa) (u8 : pa ≤ 5) (l9 : 0 ≤ ps) (u9 : ps ≤ 7) (l10 : 0 ≤ x10) (u10 : x10 ≤ 299) (l11 : 1 ≤ x11) (u11 : x11 ≤ 8) (l12 : 0 ≤ x12) (u12 : x12 ≤ 200) (l13 : 1 ≤ x13) (u13 : x13 ≤ 300) (f0 : x10 < x13) (f1 : x12 ≤ x10) (f2 : ps < x11) (e3 : S 19 0 = x10) (e2 : S 5 0 = x11) (e1 : S 6 ps = x12) (e0 : S 7 ps = x13) : (True) ∧ (True) ∧ rxIMBD_1 S0 ws S pa ps x10 ∧ rxmMBD_1 S0 ws S pa ps x10 < rxmMBD_0 S0 ws S pa ps := by
  obtain ⟨rfl, hw⟩ := hinv
  exact ⟨by first | trivial | exact ⟨by omega, trivial⟩, trivial, ⟨rfl, hw, e3.symm, by unfold rkAl; omega⟩, by unfold rxmMBD_0 rxmMBD_1; omega⟩
theorem rxgMBD_0_0 {X : (Nat → Int → Int) → Prop} {S0 : Nat → Int → Int} {ws : List Int} (hP : rxPMBD S0 ws) : bx_obC rxL X S0 rxCMBD.2.2.1 (rxIMBD S0 ws) (rxmMBD S0 ws) 0 rxzMBD_0 rxoMBD_0_0 := by
  intro S S_p r r_p hinv hX hin hsm_ hseg
  obtain ⟨I0, I1, h0_, hr_, b_, f_, d_⟩ := bx_cl (evs := [(0, (0, 7), (9, 0), .inr (0, (13, 0))), (0, (0, 6), (9, 0), .inr (0, (12, 0))), (0, (0, 5), (0, 0), .inr (0, (11, 0))), (0, (0, 19), (0, 0), .inr (0, (10, 0)))]) (fvs := [(0, (10, 0), (13, 0), (0, 0)), (1, (12, 0), (10, 0), (0, 0)), (0, (9, 0), (11, 0), (0, 0))]) hseg (by decide +kernel) (by decide +kernel)
  have hinv : rxIMBD_0 S0 ws S (r 8) (r 9) := hinv
  rw [← hr_ 8 (by decide), ← hr_ 9 (by decide)] at hinv
  obtain ⟨⟨l8, u8⟩, ⟨l9, u9⟩, ⟨l10, u10⟩, ⟨l11, u11⟩, ⟨l12, u12⟩, ⟨l13, u13⟩, -⟩ := b_
  obtain ⟨f0, f1, f2, -⟩ := f_
  obtain ⟨e0, ⟨e1, ⟨e2, ⟨e3, w_⟩⟩⟩⟩ := d_
  subst w_
  have g := rxcMBD_0_0 hP hin I0 hinv l8 u8 l9 u9 l10 u10 l11 u11 l12 u12 l13 u13 f0 f1 f2 e3 e2 e1 e0
  refine ⟨bx_narP_ok (l := []) g.1, bx_nfP_ok h0_ (fvs := []) (by decide +kernel) g.2.1, ?_, ?_⟩
  · show rxIMBD_1 S0 ws S_p (bx_val [(0, 0), (0, 0), (0, 0), (0, 0), (0, 0), (0, 0), (0, 0), (0, 0), (8, 0), (9, 0), (10, 0)] r_p 8) (bx_val [(0, 0), (0, 0), (0, 0), (0, 0), (0, 0), (0, 0), (0, 0), (0, 0), (8, 0), (9, 0), (10, 0)] r_p 9) (bx_val [(0, 0), (0, 0), (0, 0), (0, 0), (0, 0), (0, 0), (0, 0), (0, 0), (8, 0), (9, 0), (10, 0)] r_p 10)
    rw [bx_val_x (n := 8) (e := (8, 0)) h0_ rfl, bx_val_x (n := 9) (e := (9, 0)) h0_ rfl, bx_val_x (n := 10) (e := (10, 0)) h0_ rfl]
    exact g.2.2.1
  · show rxmMBD_1 S0 ws S_p (bx_val [(0, 0), (0, 0), (0, 0), (0, 0), (0, 0), (0, 0), (0, 0), (0, 0), (8, 0), (9, 0), (10, 0)] r_p 8) (bx_val [(0, 0), (0, 0), (0, 0), (0, 0), (0, 0), (0, 0), (0, 0), (0, 0), (8, 0), (9, 0), (10, 0)] r_p 9) (bx_val [(0, 0), (0, 0), (0, 0), (0, 0), (0, 0), (0, 0), (0, 0), (0, 0), (8, 0), (9, 0), (10, 0)] r_p 10) < rxmMBD_0 S0 ws S_p (r 8) (r 9)
    rw [bx_val_x (n := 8) (e := (8, 0)) h0_ rfl, bx_val_x (n := 9) (e := (9, 0)) h0_ rfl, bx_val_x (n := 10) (e := (10, 0)) h0_ rfl, ← hr_ 8 (by decide), ← hr_ 9 (by decide)]
    exact g.2.2.2
theorem rxdMBD_0_0 {S0 : Nat → Int → Int} {ws : List Int} {S : Nat → Int → Int} {pa ps x10 x11 : Int} (hP : rxPMBD S0 ws) (hin : bx_same rxL (bx_mdl rxCMBD.2.2.1) S0 S) (hin2 : bx_same rxL (bx_mdl rxCMBD.2.2.1) S S) (I0 : bx_Inv rxL S) (I1 : bx_Inv rxL S) (hinv : rxIMBD_0 S0 ws S pa ps) (l8 : 0 ≤ pa) (u8 : pa ≤ 5) (l9 : 0 ≤ ps) (u9 : ps ≤ 7) (l10 : 0 ≤ x10) (u10 : x10 ≤ 300) (l11 : 0 ≤ x11) (u11 : x11 ≤ 7) (f0 : x11 ≤ ps) (e1 : S 19 0 = x10) (e0 : S 5 0 = x11) : (True) ∧ rxPSMBD S0 ws S (some 0) := by
  obtain ⟨rfl, hw⟩ := hinv
  obtain ⟨pa9, ps9, hw2, hps, hdp⟩ := hP
  have w0_ : pa = pa9 := Option.some.inj (congrArg (fun l : List Int => l[1]?) (hw.symm.trans hw2))
  subst w0_
  have w1_ : ps = ps9 := Option.some.inj (congrArg (fun l : List Int => l[2]?) (hw.symm.trans hw2))
  subst w1_
  exact ⟨trivial, pa, ps, hw, Or.inr ⟨rfl, Or.inl (by unfold rkAl; omega)⟩⟩
theorem rxfMBD_0_0 {X : (Nat → Int → Int) → Prop} {S0 : Nat → Int → Int} {ws : List Int} (hP : rxPMBD S0 ws) : bx_obE rxL X S0 rxCMBD.2.2.1 (rxIMBD S0 ws) (rxPSMBD S0 ws) 0 rxzMBD_0 rxeMBD_0_0 := by
  intro S S_p r r_p hinv hX hin hsm_ hseg
  obtain ⟨I0, I1, h0_, hr_, b_, f_, d_⟩ := bx_cl (evs := [(0, (0, 5), (0, 0), .inr (0, (11, 0))), (0, (0, 19), (0, 0), .inr (0, (10, 0)))]) (fvs := [(1, (11, 0), (9, 0), (0, 0))]) hseg (by decide +kernel) (by decide +kernel)
  have hinv : rxIMBD_0 S0 ws S (r 8) (r 9) := hinv
  rw [← hr_ 8 (by decide), ← hr_ 9 (by decide)] at hinv
  obtain ⟨⟨l8, u8⟩, ⟨l9, u9⟩, ⟨l10, u10⟩, ⟨l11, u11⟩, -⟩ := b_
  obtain ⟨f0, -⟩ := f_
  obtain ⟨e0, ⟨e1, w_⟩⟩ := d_
  subst w_
  have g := rxdMBD_0_0 hP hin hsm_ I0 I1 hinv l8 u8 l9 u9 l10 u10 l11 u11 f0 e1 e0
  refine ⟨bx_narP_ok (l := []) g.1, ?_⟩
  show rxPSMBD S0 ws S_p (some (bx_num r_p (.inr (0, (0, 0)))))
  rw [bx_xv_ok h0_]
  exact g.2
theorem rxdMBD_0_1 {S0 : Nat → Int → Int} {ws : List Int} {S : Nat → Int → Int} {pa ps x10 x11 x12 x13 : Int} (hP : rxPMBD S0 ws) (hin : bx_same rxL (bx_mdl rxCMBD.2.2.1) S0 S) (hin2 : bx_same rxL (bx_mdl rxCMBD.2.2.1) S S) (I0 : bx_Inv rxL S) (I1 : bx_Inv rxL S) (hinv : rxIMBD_0 S0 ws S pa ps) (l8 : 0 ≤ pa) (u8 : pa ≤ 5) (l9 : 0 ≤ ps) (u9 : ps ≤ 7) (l10 : 0 ≤ x10) (u10 : x10 ≤ 300) (l11 : 1 ≤ x11) (u11 : x11 ≤ 8) (l12 : 0 ≤ x12) (u12 : x12 ≤ 200) (l13 : 0 ≤ x13) (u13 : x13 ≤ 300) (f0 : x13 ≤ x10) (f1 : x12 ≤ x10) (f2 : ps < x11) (e3 : S 19 0 = x10) (e2 : S 5 0 = x11) (e1 : S 6 ps = x12) (e0 : S 7 ps = x13) : (True) ∧ rxPSMBD S0 ws S (some 0) := by
  obtain ⟨rfl, hw⟩ := hinv
  obtain ⟨pa9, ps9, hw2, hps, hdp⟩ := hP
  have w0_ : pa = pa9 := Option.some.inj (congrArg (fun l : List Int => l[1]?) (hw.symm.trans hw2))
  subst w0_
  have w1_ : ps = ps9 := Option.some.inj (congrArg (fun l : List Int => l[2]?) (hw.symm.trans hw2))
  subst w1_
  exact ⟨trivial, pa, ps, hw, Or.inr ⟨rfl, Or.inl (by unfold rkAl; omega)⟩⟩
theorem rxfMBD_0_1 {X : (Nat → Int → Int) → Prop} {S0 : Nat → Int → Int} {ws : List Int} (hP : rxPMBD S0 ws) : bx_obE rxL X S0 rxCMBD.2.2.1 (rxIMBD S0 ws) (rxPSMBD S0 ws) 0 rxzMBD_0 rxeMBD_0_1 := by
  intro S S_p r r_p hinv hX hin hsm_ hseg
  obtain ⟨I0, I1, h0_, hr_, b_, f_, d_⟩ := bx_cl (evs := [(0, (0, 7), (9, 0), .inr (0, (13, 0))), (0, (0, 6), (9, 0), .inr (0, (12, 0))), (0, (0, 5), (0, 0), .inr (0, (11, 0))), (0, (0, 19), (0, 0), .inr (0, (10, 0)))]) (fvs := [(1, (13, 0), (10, 0), (0, 0)), (1, (12, 0), (10, 0), (0, 0)), (0, (9, 0), (11, 0), (0, 0))]) hseg (by decide +kernel) (by decide +kernel)
  have hinv : rxIMBD_0 S0 ws S (r 8) (r 9) := hinv
  rw [← hr_ 8 (by decide), ← hr_ 9 (by decide)] at hinv
  obtain ⟨⟨l8, u8⟩, ⟨l9, u9⟩, ⟨l10, u10⟩, ⟨l11, u11⟩, ⟨l12, u12⟩, ⟨l13, u13⟩, -⟩ := b_
  obtain ⟨f0, f1, f2, -⟩ := f_
  obtain ⟨e0, ⟨e1, ⟨e2, ⟨e3, w_⟩⟩⟩⟩ := d_
  subst w_
  have g := rxdMBD_0_1 hP hin hsm_ I0 I1 hinv l8 u8 l9 u9 l10 u10 l11 u11 l12 u12 l13 u13 f0 f1 f2 e3 e2 e1 e0
  refine ⟨bx_narP_ok (l := []) g.1, ?_⟩
  show rxPSMBD S0 ws S_p (some (bx_num r_p (.inr (0, (0, 0)))))
  rw [bx_xv_ok h0_]
  exact g.2
theorem rxdMBD_0_2 {S0 : Nat → Int → Int} {ws : List Int} {S : Nat → Int → Int} {pa ps x10 x11 x12 : Int} (hP : rxPMBD S0 ws) (hin : bx_same rxL (bx_mdl rxCMBD.2.2.1) S0 S) (hin2 : bx_same rxL (bx_mdl rxCMBD.2.2.1) S S) (I0 : bx_Inv rxL S) (I1 : bx_Inv rxL S) (hinv : rxIMBD_0 S0 ws S pa ps) (l8 : 0 ≤ pa) (u8 : pa ≤ 5) (l9 : 0 ≤ ps) (u9 : ps ≤ 7) (l10 : 0 ≤ x10) (u10 : x10 ≤ 199) (l11 : 1 ≤ x11) (u11 : x11 ≤ 8) (l12 : 1 ≤ x12) (u12 : x12 ≤ 200) (f0 : x10 < x12) (f1 : ps < x11) (e2 : S 19 0 = x10) (e1 : S 5 0 = x11) (e0 : S 6 ps = x12) : (True) ∧ rxPSMBD S0 ws S (some 0) := by
  obtain ⟨rfl, hw⟩ := hinv
  obtain ⟨pa9, ps9, hw2, hps, hdp⟩ := hP
  have w0_ : pa = pa9 := Option.some.inj (congrArg (fun l : List Int => l[1]?) (hw.symm.trans hw2))
  subst w0_
  have w1_ : ps = ps9 := Option.some.inj (congrArg (fun l : List Int => l[2]?) (hw.symm.trans hw2))
  subst w1_
  exact ⟨trivial, pa, ps, hw, Or.inr ⟨rfl, Or.inl (by unfold rkAl; omega)⟩⟩
theorem rxfMBD_0_2 {X : (Nat → Int → Int) → Prop} {S0 : Nat → Int → Int} {ws : List Int} (hP : rxPMBD S0 ws) : bx_obE rxL X S0 rxCMBD.2.2.1 (rxIMBD S0 ws) (rxPSMBD S0 ws) 0 rxzMBD_0 rxeMBD_0_2 := by
  intro S S_p r r_p hinv hX hin hsm_ hseg
  obtain ⟨I0, I1, h0_, hr_, b_, f_, d_⟩ := bx_cl (evs := [(0, (0, 6), (9, 0), .inr (0, (12, 0))), (0, (0, 5), (0, 0), .inr (0, (11, 0))), (0, (0, 19), (0, 0), .inr (0, (10, 0)))]) (fvs := [(0, (10, 0), (12, 0), (0, 0)), (0, (9, 0), (11, 0), (0, 0))]) hseg (by decide +kernel) (by decide +kernel)
  have hinv : rxIMBD_0 S0 ws S (r 8) (r 9) := hinv
  rw [← hr_ 8 (by decide), ← hr_ 9 (by decide)] at hinv
  obtain ⟨⟨l8, u8⟩, ⟨l9, u9⟩, ⟨l10, u10⟩, ⟨l11, u11⟩, ⟨l12, u12⟩, -⟩ := b_
  obtain ⟨f0, f1, -⟩ := f_
  obtain ⟨e0, ⟨e1, ⟨e2, w_⟩⟩⟩ := d_
  subst w_
  have g := rxdMBD_0_2 hP hin hsm_ I0 I1 hinv l8 u8 l9 u9 l10 u10 l11 u11 l12 u12 f0 f1 e2 e1 e0
  refine ⟨bx_narP_ok (l := []) g.1, ?_⟩
  show rxPSMBD S0 ws S_p (some (bx_num r_p (.inr (0, (0, 0)))))
  rw [bx_xv_ok h0_]
  exact g.2
theorem rxdMBD_2_0 {S0 : Nat → Int → Int} {ws : List Int} {S : Nat → Int → Int} {pa ps y x11 : Int} (hP : rxPMBD S0 ws) (hin : bx_same rxL (bx_mdl rxCMBD.2.2.1) S0 S) (hin2 : bx_same rxL (bx_mdl rxCMBD.2.2.1) S S) (I0 : bx_Inv rxL S) (I1 : bx_Inv rxL S) (hinv : rxIMBD_2 S0 ws S pa ps y) (l8 : 0 ≤ pa) (u8 : pa ≤ 5) (l9 : 0 ≤ ps) (u9 : ps ≤ 7) (l10 : 0 ≤ y) (u10 : y ≤ 300) (l11 : 0 ≤ x11) (u11 : x11 ≤ 0) (e0 : S 21 2 = x11) : (True) ∧ rxPSMBD S0 ws S (some 1) := by
  obtain ⟨hw, ha, hz⟩ := hinv
  exact ⟨trivial, pa, ps, hw, Or.inl ⟨rfl, ha, hd3 S, hz, show S 21 2 = 0 by omega⟩⟩
theorem rxfMBD_2_0 {X : (Nat → Int → Int) → Prop} {S0 : Nat → Int → Int} {ws : List Int} (hP : rxPMBD S0 ws) : bx_obE rxL X S0 rxCMBD.2.2.1 (rxIMBD S0 ws) (rxPSMBD S0 ws) 2 rxzMBD_2 rxeMBD_2_0 := by
  intro S S_p r r_p hinv hX hin hsm_ hseg
  obtain ⟨I0, I1, h0_, hr_, b_, f_, d_⟩ := bx_cl (evs := [(0, (0, 21), (0, 2), .inr (0, (11, 0)))]) (fvs := []) hseg (by decide +kernel) (by decide +kernel)
  have hinv : rxIMBD_2 S0 ws S (r 8) (r 9) (r 10) := hinv
  rw [← hr_ 8 (by decide), ← hr_ 9 (by decide), ← hr_ 10 (by decide)] at hinv
  obtain ⟨⟨l8, u8⟩, ⟨l9, u9⟩, ⟨l10, u10⟩, ⟨l11, u11⟩, -⟩ := b_
  obtain ⟨e0, w_⟩ := d_
  subst w_
  have g := rxdMBD_2_0 hP hin hsm_ I0 I1 hinv l8 u8 l9 u9 l10 u10 l11 u11 e0
  refine ⟨bx_narP_ok (l := []) g.1, ?_⟩
  show rxPSMBD S0 ws S_p (some (bx_num r_p (.inr (0, (0, 1)))))
  rw [bx_xv_ok h0_]
  exact g.2
theorem rxdMBD_2_1 {S0 : Nat → Int → Int} {ws : List Int} {S : Nat → Int → Int} {pa ps y x11 : Int} (hP : rxPMBD S0 ws) (hin : bx_same rxL (bx_mdl rxCMBD.2.2.1) S0 S) (hin2 : bx_same rxL (bx_mdl rxCMBD.2.2.1) S S) (I0 : bx_Inv rxL S) (I1 : bx_Inv rxL S) (hinv : rxIMBD_2 S0 ws S pa ps y) (l8 : 0 ≤ pa) (u8 : pa ≤ 5) (l9 : 0 ≤ ps) (u9 : ps ≤ 7) (l10 : 0 ≤ y) (u10 : y ≤ 300) (l11 : 1 ≤ x11) (u11 : x11 ≤ 300) (f0 : x11 ≠ 0) (e0 : S 21 2 = x11) : (True) ∧ rxPSMBD S0 ws S (some 0) := by
  obtain ⟨hw, ha, hz⟩ := hinv
  exact ⟨trivial, pa, ps, hw, Or.inr ⟨rfl, Or.inr ⟨hd3 S, hz, show S 21 2 ≠ 0 by omega⟩⟩⟩
theorem rxfMBD_2_1 {X : (Nat → Int → Int) → Prop} {S0 : Nat → Int → Int} {ws : List Int} (hP : rxPMBD S0 ws) : bx_obE rxL X S0 rxCMBD.2.2.1 (rxIMBD S0 ws) (rxPSMBD S0 ws) 2 rxzMBD_2 rxeMBD_2_1 := by
  intro S S_p r r_p hinv hX hin hsm_ hseg
  obtain ⟨I0, I1, h0_, hr_, b_, f_, d_⟩ := bx_cl (evs := [(0, (0, 21), (0, 2), .inr (0, (11, 0)))]) (fvs := [(3, (11, 0), (0, 0), (0, 0))]) hseg (by decide +kernel) (by decide +kernel)
  have hinv : rxIMBD_2 S0 ws S (r 8) (r 9) (r 10) := hinv
  rw [← hr_ 8 (by decide), ← hr_ 9 (by decide), ← hr_ 10 (by decide)] at hinv
  obtain ⟨⟨l8, u8⟩, ⟨l9, u9⟩, ⟨l10, u10⟩, ⟨l11, u11⟩, -⟩ := b_
  obtain ⟨f0, -⟩ := f_
  obtain ⟨e0, w_⟩ := d_
  subst w_
  have g := rxdMBD_2_1 hP hin hsm_ I0 I1 hinv l8 u8 l9 u9 l10 u10 l11 u11 f0 e0
  refine ⟨bx_narP_ok (l := []) g.1, ?_⟩
  show rxPSMBD S0 ws S_p (some (bx_num r_p (.inr (0, (0, 0)))))
  rw [bx_xv_ok h0_]
  exact g.2
theorem rxgCMBD {X : (Nat → Int → Int) → Prop} {S0 : Nat → Int → Int} {ws : List Int} (hP : rxPMBD S0 ws) : bx_allI (fun i q => rxUMBD q = true ∨ bx_allP (fun o => bx_obC rxL X S0 rxCMBD.2.2.1 (rxIMBD S0 ws) (rxmMBD S0 ws) i q.1 o) q.2.1) 0 rxYMBD := ⟨Or.inr ⟨rxgMBD_0_0 hP, trivial⟩, Or.inl rfl, Or.inr trivial, trivial⟩
theorem rxgEMBD {X : (Nat → Int → Int) → Prop} {S0 : Nat → Int → Int} {ws : List Int} (hP : rxPMBD S0 ws) : bx_allI (fun i q => rxUMBD q = true ∨ bx_allP (fun E => bx_obE rxL X S0 rxCMBD.2.2.1 (rxIMBD S0 ws) (rxPSMBD S0 ws) i q.1 E) q.2.2) 0 rxYMBD := ⟨Or.inr ⟨rxfMBD_0_0 hP, rxfMBD_0_1 hP, rxfMBD_0_2 hP, trivial⟩, Or.inl rfl, Or.inr ⟨rxfMBD_2_0 hP, rxfMBD_2_1 hP, trivial⟩, trivial⟩
theorem rxuMBD {PX : State → Prop} {Dg : va_G} {A : Nat → Prop} {ad xa : Nat → Nat} {l : Launch} {X : (Nat → Int → Int) → Prop} (hPX : rx_PXOK rxNW A PX) (hX : ∀ S S1 : Nat → Int → Int, X S → bx_same rxL (bx_mdl rxCMBD.2.2.1) S S1 → X S1) (hQHED : bx_ConP rxG rxNW rxAO PX Dg rxL X vwCl A ad l rxM98 rxCHED rxPHED rxPSHED) {S0 : Nat → Int → Int} {ws : List Int} (hP : rxPMBD S0 ws) : ∀ (i : Nat) (q : bx_HE), rxYMBD[i]? = some q → rxUMBD q = true → ∀ {p : Program} {e : Env} {R : Room} {s : State} {m : MethodId} {args : Array Value} {below : List Frame} {meth : Method} {c : Code} {Q : State → Prop} {H0 : Heap}, rx_Fr rxG rxNW rxAO PX p s m args meth c rxM27 → (∀ q, H0.size ≤ q → A q) → H0 = s.heap → rxM27.2.2.2.2.2.2.1 ≤ R.cells → rxM27.2.2.2.2.2.2.2 ≤ R.slots → rxCMBD.2.2.2.1 ≤ R.frames → rxCMBD.2.2.2.1 * 40 ≤ R.locals → bx_Step p l e R s m args below meth c Q Dg rxL X vwCl A xa H0 ad rxM27 rxYMBD (rxIMBD S0 ws) (rxmMBD S0 ws) S0 rxCMBD.2.2.1 i q := by
  intro i q hq hus p e R s m args below meth c Q H0 hF hA hH0 hmc hms hd hdl
  match i, hq with
  | 0, hq =>
    cases hq
    exact absurd (show false = true from hus) Bool.false_ne_true
  | 1, hq =>
    cases hq
    exact rx_stepC (ins := .invokevirtual 115) (len := 3) (i_p := 2) (M_p := rxM98) (d := rxCMBD.2.2.2.1) (as := [.inr (3, (0, 1)), .inr (0, (9, 0)), .inr (0, (8, 0)), .inr (0, (0, (-1))), .inr (0, (10, 0))]) (t := []) (ct := rxCHED) hPX hF rfl hA hH0 hmc hms hd hdl (by decide +kernel) rfl rfl (by decide +kernel) (by decide +kernel) hQHED (by decide +kernel) rfl (Or.inl ⟨rfl, rfl, rfl⟩) (rxsMBD_1 hP)
  | 2, hq =>
    cases hq
    exact absurd (show false = true from hus) Bool.false_ne_true
  | n + 3, hq => cases hq
theorem rxQMBD {PX : State → Prop} {Dg : va_G} {A : Nat → Prop} {ad xa : Nat → Nat} {l : Launch} {X : (Nat → Int → Int) → Prop} (hPX : rx_PXOK rxNW A PX) (hsl : ∀ s : State, PX s → ∀ o idx n : Nat, rxSl o idx = some n → ∃ tx : String, vk_R (rxNm o) idx tx (ad n) s)
    (hX : ∀ S S_p : Nat → Int → Int, X S → bx_same rxL (bx_mdl rxCMBD.2.2.1) S S_p → X S_p)
    (ih : ∀ (j2 : Nat) (ct2 : bx_Ct) (M2 : rx_Mt), ct2 ∈ rxCnE j2 → ct2.2.2.2.1 + 1 ≤ rxCMBD.2.2.2.1 → rxT.2.2.2.2.2 j2 = some M2 → bx_Con rxG rxNW rxAO PX Dg rxL X vwCl A ad l M2 ct2) (hQHED : bx_ConP rxG rxNW rxAO PX Dg rxL X vwCl A ad l rxM98 rxCHED rxPHED rxPSHED) : bx_ConP rxG rxNW rxAO PX Dg rxL X vwCl A ad l rxM27 rxCMBD rxPMBD rxPSMBD :=
  rxQof (xa := xa) (Cn := rxCnE) (f := 30000) (j := 27) (tab := rxYMBD) (us := rxUMBD) hPX hsl hX ih rfl rxYcMBD rxIMBD rxmMBD
    (fun S0 ws r I0 I ht0 ht as he he1 hX0 hI0 hP hs ha => by
      have e := he.symm.trans (show bx_ent0 rxNP rxCMBD.1 bx_I0 [] = some ([(0, 0), (0, 0), (0, 0), (0, 0), (0, 0), (0, 0), (0, 0), (0, 0), (0, 5), (0, 7)], [], [.inr (3, (0, 1)), .inr (0, (8, 0)), .inr (0, (9, 0))]) from rfl)
      cases e
      subst ha
      have h0 : r 0 = 0 := hs.1
      show rxIMBD_0 S0 _ S0 (r 8) (r 9)
      refine ⟨rfl, ?_⟩
      simp only [List.map_cons, List.map_nil, bx_xv_ok h0]
      rfl)
    (fun S0 ws hP => rxuMBD (xa := xa) hPX hX hQHED hP) (fun S0 ws hP => rxgCMBD hP) (fun S0 ws hP => rxgEMBD hP)
noncomputable def rxCITD : bx_Ct := ([(3, (1, 1, 0)), (0, (0, 0, 5)), (0, (0, 0, 7)), (0, (0, 0, 7)), (0, (0, 0, 299))], some (0, (0, 0, 1)), [(1017, 0), (1018, 0), (1023, 0)], 4, [])
noncomputable def rxIITD_0 (S0 : Nat → Int → Int) (ws : List Int) (S : Nat → Int → Int) (pa ms pu yr : Int) : Prop := S = S0 ∧ ws = [1, pa, ms, pu, yr]
noncomputable def rxmITD_0 (S0 : Nat → Int → Int) (ws : List Int) (S : Nat → Int → Int) (pa ms pu yr : Int) : Nat := 100
noncomputable def rxzITD_0 : rx_Z := ([(0, 0), (0, 0), (0, 0), (0, 0), (0, 0), (0, 0), (0, 0), (0, 0), (0, 5), (0, 7), (0, 7), (0, 299)], [], [], 0, 0, 0, [(0, .inr (3, (0, 1))), (1, .inr (0, (8, 0))), (2, .inr (0, (9, 0))), (3, .inr (0, (10, 0))), (4, .inr (0, (11, 0)))], [])
noncomputable def rxIITD_1 (S0 : Nat → Int → Int) (ws : List Int) (S : Nat → Int → Int) (pa ms pu yr : Int) : Prop := S = S0 ∧ ws = [1, pa, ms, pu, yr]
noncomputable def rxmITD_1 (S0 : Nat → Int → Int) (ws : List Int) (S : Nat → Int → Int) (pa ms pu yr : Int) : Nat := 50
noncomputable def rxzITD_1 : rx_Z := ([(0, 0), (0, 0), (0, 0), (0, 0), (0, 0), (0, 0), (0, 0), (0, 0), (0, 5), (0, 7), (0, 7), (0, 299)], [], [], 0, 0, 6, [(0, .inr (3, (0, 1))), (1, .inr (0, (8, 0))), (2, .inr (0, (9, 0))), (3, .inr (0, (10, 0))), (4, .inr (0, (11, 0)))], [.inr (0, (11, 0)), .inr (0, (9, 0)), .inr (0, (8, 0)), .inr (0, (10, 0)), .inr (3, (0, 1))])
noncomputable def rxIITD_2 (S0 : Nat → Int → Int) (ws : List Int) (S : Nat → Int → Int) (pa ms pu yr : Int) : Prop := ws = [1, pa, ms, pu, yr] ∧ rkDs S0 pu pa ms yr (hd3 S)
noncomputable def rxmITD_2 (S0 : Nat → Int → Int) (ws : List Int) (S : Nat → Int → Int) (pa ms pu yr : Int) : Nat := 40
noncomputable def rxzITD_2 : rx_Z := ([(0, 0), (0, 0), (0, 0), (0, 0), (0, 0), (0, 0), (0, 0), (0, 0), (0, 5), (0, 7), (0, 7), (0, 299)], [], [], 0, 0, 9, [(0, .inr (3, (0, 1))), (1, .inr (0, (8, 0))), (2, .inr (0, (9, 0))), (3, .inr (0, (10, 0))), (4, .inr (0, (11, 0)))], [])
noncomputable def rxoITD_0_0 : bx_HO := (([(0, 0), (0, 0), (0, 0), (0, 0), (0, 0), (0, 0), (0, 0), (0, 0), (0, 5), (0, 7), (0, 7), (0, 299)], [], [], 0, 0, 6, [(0, .inr (3, (0, 1))), (1, .inr (0, (8, 0))), (2, .inr (0, (9, 0))), (3, .inr (0, (10, 0))), (4, .inr (0, (11, 0)))], [.inr (0, (11, 0)), .inr (0, (9, 0)), .inr (0, (8, 0)), .inr (0, (10, 0)), .inr (3, (0, 1))]), [], [], [(0, 0), (0, 0), (0, 0), (0, 0), (0, 0), (0, 0), (0, 0), (0, 0), (8, 0), (9, 0), (10, 0), (11, 0)], 1)
noncomputable def rxeITD_2_0 : rx_End × List (Nat × Int × Int) := (([(0, 0), (0, 0), (0, 0), (0, 0), (0, 0), (0, 0), (0, 0), (0, 0), (0, 5), (0, 7), (0, 7), (0, 299), (0, 0), (1, 8), (1, 300), (0, 299), (0, 200), (0, 200), (0, 299), (0, 299)], [(1, (19, 0), (18, 0)), (604462909807314587353105000000, (15, 0), (18, 0)), (1, (16, 0), (17, 0)), (0, (10, 0), (13, 0)), (0, (9, 0), (13, 0)), (0, (15, 0), (14, 0)), (0, (10, 0), (13, 0)), (0, (9, 0), (13, 0))], [(((0, 0), 1851192626986356797625047037163794926384839479479878431119572992000000), .inr (0, (19, 0))), (((0, 21), 1), .inr (0, (19, 0))), (((0, 0), 1851192626986356797424370955790042202572729718740712036695932928000000), .inr (0, (17, 0))), (((0, 0), 1851192626986356797424367893248739914126558548369245150782029824000000), .inr (0, (16, 0))), (((0, 5), 1), .inr (3, (0, 6))), (((0, 0), 1851192626986356797424370955790042202572729718740712036696522752000000), .inr (0, (15, 0))), (((0, 0), 1851192626986356797424367893248739914126558548369245150782619648000000), .inr (0, (14, 0))), (((0, 5), 2), .inr (3, (0, 7))), (((0, 0), 1851192626986356797424340330377019318111018015026043177556312064000000), .inr (0, (13, 0))), (((0, 5), 0), .inr (0, (13, 0))), (((0, 1), 4), .inr (3, (0, 5))), (((0, 0), 1851192626986356797825753743950570534658660943933713684673396736000000), .inr (0, (12, 0))), (((0, 21), 2), .inr (0, (12, 0))), (((0, 1), 17), .inr (3, (0, 21)))], some (.inr (0, (0, 1)))), [])
noncomputable def rxeITD_2_1 : rx_End × List (Nat × Int × Int) := (([(0, 0), (0, 0), (0, 0), (0, 0), (0, 0), (0, 0), (0, 0), (0, 0), (0, 5), (0, 7), (0, 7), (0, 299), (0, 0), (1, 8), (1, 300), (0, 299), (0, 200), (0, 200), ((-200), 299), (0, 300)], [(0, (18, 0), (19, 0)), (604462909807314587353105000000, (15, 0), (18, 0)), (1, (16, 0), (17, 0)), (0, (10, 0), (13, 0)), (0, (9, 0), (13, 0)), (0, (15, 0), (14, 0)), (0, (10, 0), (13, 0)), (0, (9, 0), (13, 0))], [(((0, 0), 1851192626986356797625047037163794926384839479479878431119572992000000), .inr (0, (19, 0))), (((0, 21), 1), .inr (0, (19, 0))), (((0, 0), 1851192626986356797424370955790042202572729718740712036695932928000000), .inr (0, (17, 0))), (((0, 0), 1851192626986356797424367893248739914126558548369245150782029824000000), .inr (0, (16, 0))), (((0, 5), 1), .inr (3, (0, 6))), (((0, 0), 1851192626986356797424370955790042202572729718740712036696522752000000), .inr (0, (15, 0))), (((0, 0), 1851192626986356797424367893248739914126558548369245150782619648000000), .inr (0, (14, 0))), (((0, 5), 2), .inr (3, (0, 7))), (((0, 0), 1851192626986356797424340330377019318111018015026043177556312064000000), .inr (0, (13, 0))), (((0, 5), 0), .inr (0, (13, 0))), (((0, 1), 4), .inr (3, (0, 5))), (((0, 0), 1851192626986356797825753743950570534658660943933713684673396736000000), .inr (0, (12, 0))), (((0, 21), 2), .inr (0, (12, 0))), (((0, 1), 17), .inr (3, (0, 21)))], some (.inr (0, (0, 0)))), [])
noncomputable def rxeITD_2_2 : rx_End × List (Nat × Int × Int) := (([(0, 0), (0, 0), (0, 0), (0, 0), (0, 0), (0, 0), (0, 0), (0, 0), (0, 5), (0, 7), (0, 7), (0, 299), (0, 0), (1, 8), (1, 300), (0, 299), (1, 200), (0, 199), (0, 298), (0, 298)], [(1, (19, 0), (18, 0)), (604462909807314587353104000000, (15, 0), (18, 0)), (0, (17, 0), (16, 0)), (0, (10, 0), (13, 0)), (0, (9, 0), (13, 0)), (0, (15, 0), (14, 0)), (0, (10, 0), (13, 0)), (0, (9, 0), (13, 0))], [(((0, 0), 1851192626986356797625047037163794926384839479479878431119572992000000), .inr (0, (19, 0))), (((0, 21), 1), .inr (0, (19, 0))), (((0, 0), 1851192626986356797424370955790042202572729718740712036695932928000000), .inr (0, (17, 0))), (((0, 0), 1851192626986356797424367893248739914126558548369245150782029824000000), .inr (0, (16, 0))), (((0, 5), 1), .inr (3, (0, 6))), (((0, 0), 1851192626986356797424370955790042202572729718740712036696522752000000), .inr (0, (15, 0))), (((0, 0), 1851192626986356797424367893248739914126558548369245150782619648000000), .inr (0, (14, 0))), (((0, 5), 2), .inr (3, (0, 7))), (((0, 0), 1851192626986356797424340330377019318111018015026043177556312064000000), .inr (0, (13, 0))), (((0, 5), 0), .inr (0, (13, 0))), (((0, 1), 4), .inr (3, (0, 5))), (((0, 0), 1851192626986356797825753743950570534658660943933713684673396736000000), .inr (0, (12, 0))), (((0, 21), 2), .inr (0, (12, 0))), (((0, 1), 17), .inr (3, (0, 21)))], some (.inr (0, (0, 1)))), [])
noncomputable def rxeITD_2_3 : rx_End × List (Nat × Int × Int) := (([(0, 0), (0, 0), (0, 0), (0, 0), (0, 0), (0, 0), (0, 0), (0, 0), (0, 5), (0, 7), (0, 7), (0, 299), (0, 0), (1, 8), (1, 300), (0, 299), (1, 200), (0, 199), ((-200), 298), (0, 300)], [(0, (18, 0), (19, 0)), (604462909807314587353104000000, (15, 0), (18, 0)), (0, (17, 0), (16, 0)), (0, (10, 0), (13, 0)), (0, (9, 0), (13, 0)), (0, (15, 0), (14, 0)), (0, (10, 0), (13, 0)), (0, (9, 0), (13, 0))], [(((0, 0), 1851192626986356797625047037163794926384839479479878431119572992000000), .inr (0, (19, 0))), (((0, 21), 1), .inr (0, (19, 0))), (((0, 0), 1851192626986356797424370955790042202572729718740712036695932928000000), .inr (0, (17, 0))), (((0, 0), 1851192626986356797424367893248739914126558548369245150782029824000000), .inr (0, (16, 0))), (((0, 5), 1), .inr (3, (0, 6))), (((0, 0), 1851192626986356797424370955790042202572729718740712036696522752000000), .inr (0, (15, 0))), (((0, 0), 1851192626986356797424367893248739914126558548369245150782619648000000), .inr (0, (14, 0))), (((0, 5), 2), .inr (3, (0, 7))), (((0, 0), 1851192626986356797424340330377019318111018015026043177556312064000000), .inr (0, (13, 0))), (((0, 5), 0), .inr (0, (13, 0))), (((0, 1), 4), .inr (3, (0, 5))), (((0, 0), 1851192626986356797825753743950570534658660943933713684673396736000000), .inr (0, (12, 0))), (((0, 21), 2), .inr (0, (12, 0))), (((0, 1), 17), .inr (3, (0, 21)))], some (.inr (0, (0, 0)))), [])
noncomputable def rxeITD_2_4 : rx_End × List (Nat × Int × Int) := (([(0, 0), (0, 0), (0, 0), (0, 0), (0, 0), (0, 0), (0, 0), (0, 0), (0, 5), (0, 7), (0, 7), (0, 299), (0, 0), (1, 8), (0, 300), (0, 300), (0, 200), (0, 200), (0, 300), (0, 300)], [(1, (19, 0), (18, 0)), (604462909807314587353105000000, (14, 0), (18, 0)), (1, (16, 0), (17, 0)), (0, (10, 0), (13, 0)), (0, (9, 0), (13, 0)), (1, (14, 0), (15, 0)), (0, (10, 0), (13, 0)), (0, (9, 0), (13, 0))], [(((0, 0), 1851192626986356797625047037163794926384839479479878431119572992000000), .inr (0, (19, 0))), (((0, 21), 1), .inr (0, (19, 0))), (((0, 0), 1851192626986356797424370955790042202572729718740712036695932928000000), .inr (0, (17, 0))), (((0, 0), 1851192626986356797424367893248739914126558548369245150782029824000000), .inr (0, (16, 0))), (((0, 5), 1), .inr (3, (0, 6))), (((0, 0), 1851192626986356797424370955790042202572729718740712036696522752000000), .inr (0, (15, 0))), (((0, 0), 1851192626986356797424367893248739914126558548369245150782619648000000), .inr (0, (14, 0))), (((0, 5), 2), .inr (3, (0, 7))), (((0, 0), 1851192626986356797424340330377019318111018015026043177556312064000000), .inr (0, (13, 0))), (((0, 5), 0), .inr (0, (13, 0))), (((0, 1), 4), .inr (3, (0, 5))), (((0, 0), 1851192626986356797825753743950570534658660943933713684673396736000000), .inr (0, (12, 0))), (((0, 21), 2), .inr (0, (12, 0))), (((0, 1), 17), .inr (3, (0, 21)))], some (.inr (0, (0, 1)))), [])
noncomputable def rxeITD_2_5 : rx_End × List (Nat × Int × Int) := (([(0, 0), (0, 0), (0, 0), (0, 0), (0, 0), (0, 0), (0, 0), (0, 0), (0, 5), (0, 7), (0, 7), (0, 299), (0, 0), (1, 8), (0, 300), (0, 300), (0, 200), (0, 200), ((-200), 299), (0, 300)], [(0, (18, 0), (19, 0)), (604462909807314587353105000000, (14, 0), (18, 0)), (1, (16, 0), (17, 0)), (0, (10, 0), (13, 0)), (0, (9, 0), (13, 0)), (1, (14, 0), (15, 0)), (0, (10, 0), (13, 0)), (0, (9, 0), (13, 0))], [(((0, 0), 1851192626986356797625047037163794926384839479479878431119572992000000), .inr (0, (19, 0))), (((0, 21), 1), .inr (0, (19, 0))), (((0, 0), 1851192626986356797424370955790042202572729718740712036695932928000000), .inr (0, (17, 0))), (((0, 0), 1851192626986356797424367893248739914126558548369245150782029824000000), .inr (0, (16, 0))), (((0, 5), 1), .inr (3, (0, 6))), (((0, 0), 1851192626986356797424370955790042202572729718740712036696522752000000), .inr (0, (15, 0))), (((0, 0), 1851192626986356797424367893248739914126558548369245150782619648000000), .inr (0, (14, 0))), (((0, 5), 2), .inr (3, (0, 7))), (((0, 0), 1851192626986356797424340330377019318111018015026043177556312064000000), .inr (0, (13, 0))), (((0, 5), 0), .inr (0, (13, 0))), (((0, 1), 4), .inr (3, (0, 5))), (((0, 0), 1851192626986356797825753743950570534658660943933713684673396736000000), .inr (0, (12, 0))), (((0, 21), 2), .inr (0, (12, 0))), (((0, 1), 17), .inr (3, (0, 21)))], some (.inr (0, (0, 0)))), [])
noncomputable def rxeITD_2_6 : rx_End × List (Nat × Int × Int) := (([(0, 0), (0, 0), (0, 0), (0, 0), (0, 0), (0, 0), (0, 0), (0, 0), (0, 5), (0, 7), (0, 7), (0, 299), (0, 0), (1, 8), (0, 300), (0, 300), (1, 200), (0, 199), (0, 299), (0, 299)], [(1, (19, 0), (18, 0)), (604462909807314587353104000000, (14, 0), (18, 0)), (0, (17, 0), (16, 0)), (0, (10, 0), (13, 0)), (0, (9, 0), (13, 0)), (1, (14, 0), (15, 0)), (0, (10, 0), (13, 0)), (0, (9, 0), (13, 0))], [(((0, 0), 1851192626986356797625047037163794926384839479479878431119572992000000), .inr (0, (19, 0))), (((0, 21), 1), .inr (0, (19, 0))), (((0, 0), 1851192626986356797424370955790042202572729718740712036695932928000000), .inr (0, (17, 0))), (((0, 0), 1851192626986356797424367893248739914126558548369245150782029824000000), .inr (0, (16, 0))), (((0, 5), 1), .inr (3, (0, 6))), (((0, 0), 1851192626986356797424370955790042202572729718740712036696522752000000), .inr (0, (15, 0))), (((0, 0), 1851192626986356797424367893248739914126558548369245150782619648000000), .inr (0, (14, 0))), (((0, 5), 2), .inr (3, (0, 7))), (((0, 0), 1851192626986356797424340330377019318111018015026043177556312064000000), .inr (0, (13, 0))), (((0, 5), 0), .inr (0, (13, 0))), (((0, 1), 4), .inr (3, (0, 5))), (((0, 0), 1851192626986356797825753743950570534658660943933713684673396736000000), .inr (0, (12, 0))), (((0, 21), 2), .inr (0, (12, 0))), (((0, 1), 17), .inr (3, (0, 21)))], some (.inr (0, (0, 1)))), [])
noncomputable def rxeITD_2_7 : rx_End × List (Nat × Int × Int) := (([(0, 0), (0, 0), (0, 0), (0, 0), (0, 0), (0, 0), (0, 0), (0, 0), (0, 5), (0, 7), (0, 7), (0, 299), (0, 0), (1, 8), (0, 300), (0, 300), (1, 200), (0, 199), ((-200), 299), (0, 300)], [(0, (18, 0), (19, 0)), (604462909807314587353104000000, (14, 0), (18, 0)), (0, (17, 0), (16, 0)), (0, (10, 0), (13, 0)), (0, (9, 0), (13, 0)), (1, (14, 0), (15, 0)), (0, (10, 0), (13, 0)), (0, (9, 0), (13, 0))], [(((0, 0), 1851192626986356797625047037163794926384839479479878431119572992000000), .inr (0, (19, 0))), (((0, 21), 1), .inr (0, (19, 0))), (((0, 0), 1851192626986356797424370955790042202572729718740712036695932928000000), .inr (0, (17, 0))), (((0, 0), 1851192626986356797424367893248739914126558548369245150782029824000000), .inr (0, (16, 0))), (((0, 5), 1), .inr (3, (0, 6))), (((0, 0), 1851192626986356797424370955790042202572729718740712036696522752000000), .inr (0, (15, 0))), (((0, 0), 1851192626986356797424367893248739914126558548369245150782619648000000), .inr (0, (14, 0))), (((0, 5), 2), .inr (3, (0, 7))), (((0, 0), 1851192626986356797424340330377019318111018015026043177556312064000000), .inr (0, (13, 0))), (((0, 5), 0), .inr (0, (13, 0))), (((0, 1), 4), .inr (3, (0, 5))), (((0, 0), 1851192626986356797825753743950570534658660943933713684673396736000000), .inr (0, (12, 0))), (((0, 21), 2), .inr (0, (12, 0))), (((0, 1), 17), .inr (3, (0, 21)))], some (.inr (0, (0, 0)))), [])
noncomputable def rxeITD_2_8 : rx_End × List (Nat × Int × Int) := (([(0, 0), (0, 0), (0, 0), (0, 0), (0, 0), (0, 0), (0, 0), (0, 0), (0, 5), (0, 6), (1, 7), (0, 299), (0, 0), (1, 7), (0, 0)], [(1, (13, 0), (10, 0)), (0, (9, 0), (13, 0))], [(((0, 0), 1851192626986356797625047037163794926384839479479878431119572992000000), .inr (0, (14, 0))), (((0, 21), 1), .inr (0, (14, 0))), (((0, 0), 1851192626986356797424340330377019318111018015026043177556312064000000), .inr (0, (13, 0))), (((0, 5), 0), .inr (0, (13, 0))), (((0, 1), 4), .inr (3, (0, 5))), (((0, 0), 1851192626986356797825753743950570534658660943933713684673396736000000), .inr (0, (12, 0))), (((0, 21), 2), .inr (0, (12, 0))), (((0, 1), 17), .inr (3, (0, 21)))], some (.inr (0, (0, 1)))), [])
noncomputable def rxeITD_2_9 : rx_End × List (Nat × Int × Int) := (([(0, 0), (0, 0), (0, 0), (0, 0), (0, 0), (0, 0), (0, 0), (0, 0), (0, 5), (0, 6), (1, 7), (0, 299), (0, 0), (1, 7), (1, 300)], [(1, (13, 0), (10, 0)), (0, (9, 0), (13, 0))], [(((0, 0), 1851192626986356797625047037163794926384839479479878431119572992000000), .inr (0, (14, 0))), (((0, 21), 1), .inr (0, (14, 0))), (((0, 0), 1851192626986356797424340330377019318111018015026043177556312064000000), .inr (0, (13, 0))), (((0, 5), 0), .inr (0, (13, 0))), (((0, 1), 4), .inr (3, (0, 5))), (((0, 0), 1851192626986356797825753743950570534658660943933713684673396736000000), .inr (0, (12, 0))), (((0, 21), 2), .inr (0, (12, 0))), (((0, 1), 17), .inr (3, (0, 21)))], some (.inr (0, (0, 0)))), [])
noncomputable def rxeITD_2_10 : rx_End × List (Nat × Int × Int) := (([(0, 0), (0, 0), (0, 0), (0, 0), (0, 0), (0, 0), (0, 0), (0, 0), (0, 5), (0, 7), (0, 7), (0, 299), (0, 0), (0, 7), (0, 0)], [(1, (13, 0), (9, 0))], [(((0, 0), 1851192626986356797625047037163794926384839479479878431119572992000000), .inr (0, (14, 0))), (((0, 21), 1), .inr (0, (14, 0))), (((0, 0), 1851192626986356797424340330377019318111018015026043177556312064000000), .inr (0, (13, 0))), (((0, 5), 0), .inr (0, (13, 0))), (((0, 1), 4), .inr (3, (0, 5))), (((0, 0), 1851192626986356797825753743950570534658660943933713684673396736000000), .inr (0, (12, 0))), (((0, 21), 2), .inr (0, (12, 0))), (((0, 1), 17), .inr (3, (0, 21)))], some (.inr (0, (0, 1)))), [])
noncomputable def rxeITD_2_11 : rx_End × List (Nat × Int × Int) := (([(0, 0), (0, 0), (0, 0), (0, 0), (0, 0), (0, 0), (0, 0), (0, 0), (0, 5), (0, 7), (0, 7), (0, 299), (0, 0), (0, 7), (1, 300)], [(1, (13, 0), (9, 0))], [(((0, 0), 1851192626986356797625047037163794926384839479479878431119572992000000), .inr (0, (14, 0))), (((0, 21), 1), .inr (0, (14, 0))), (((0, 0), 1851192626986356797424340330377019318111018015026043177556312064000000), .inr (0, (13, 0))), (((0, 5), 0), .inr (0, (13, 0))), (((0, 1), 4), .inr (3, (0, 5))), (((0, 0), 1851192626986356797825753743950570534658660943933713684673396736000000), .inr (0, (12, 0))), (((0, 21), 2), .inr (0, (12, 0))), (((0, 1), 17), .inr (3, (0, 21)))], some (.inr (0, (0, 0)))), [])
noncomputable def rxeITD_2_12 : rx_End × List (Nat × Int × Int) := (([(0, 0), (0, 0), (0, 0), (0, 0), (0, 0), (0, 0), (0, 0), (0, 0), (0, 5), (0, 7), (0, 7), (0, 299), (1, 300)], [(3, (12, 0), (0, 0))], [(((0, 0), 1851192626986356797825753743950570534658660943933713684673396736000000), .inr (0, (12, 0))), (((0, 21), 2), .inr (0, (12, 0))), (((0, 1), 17), .inr (3, (0, 21)))], some (.inr (0, (0, 0)))), [])
noncomputable def rxYITD : List bx_HE := [(rxzITD_0, [rxoITD_0_0], []), (rxzITD_1, [], []), (rxzITD_2, [], [rxeITD_2_0, rxeITD_2_1, rxeITD_2_2, rxeITD_2_3, rxeITD_2_4, rxeITD_2_5, rxeITD_2_6, rxeITD_2_7, rxeITD_2_8, rxeITD_2_9, rxeITD_2_10, rxeITD_2_11, rxeITD_2_12])]
noncomputable def rxUITD (q : bx_HE) : Bool := Nat.beq (rx_zpc q.1) 6
noncomputable def rxYBITD : bx_B := (rxV, rxNP, rxDmf, bx_mdH rxCITD.2.2.1)
set_option maxRecDepth 100000 in
theorem rxYcITD : bx_chkH rxYBITD rxM35 rxCITD rxYITD (rxUITD, fun cut z => rx_ex2 (rxCT rxYBITD rxCnE) cut 30000 rxCITD.2.2.2.1 35 z) = true := by decide +kernel
noncomputable def rxIITD (S0 : Nat → Int → Int) (ws : List Int) (i : Nat) : bx_SP := fun S r => match i with | 0 => rxIITD_0 S0 ws S (r 8) (r 9) (r 10) (r 11) | 1 => rxIITD_1 S0 ws S (r 8) (r 9) (r 10) (r 11) | 2 => rxIITD_2 S0 ws S (r 8) (r 9) (r 10) (r 11) | _ => False
noncomputable def rxmITD (S0 : Nat → Int → Int) (ws : List Int) (i : Nat) (S : Nat → Int → Int) (r : Nat → Int) : Nat := match i with | 0 => rxmITD_0 S0 ws S (r 8) (r 9) (r 10) (r 11) | 1 => rxmITD_1 S0 ws S (r 8) (r 9) (r 10) (r 11) | 2 => rxmITD_2 S0 ws S (r 8) (r 9) (r 10) (r 11) | _ => 0
noncomputable def rxPITD (S0 : Nat → Int → Int) (ws : List Int) : Prop := ∃ pa ms pu yr : Int, ws = [1, pa, ms, pu, yr] ∧ ms < S0 5 0 ∧ pu < S0 5 0 ∧ rkDp S0
noncomputable def rxPSITD (S0 : Nat → Int → Int) (ws : List Int) (S : Nat → Int → Int) (w : Option Int) : Prop := ∃ pa ms pu yr : Int, ws = [1, pa, ms, pu, yr] ∧ ((w = some 1 ∧ rkTg S0 pa ms pu yr) ∨ (w = some 0 ∧ rkTgn S0 pa ms pu yr))
theorem rxkITD_1 {S0 : Nat → Int → Int} {ws : List Int} {S : Nat → Int → Int} {pa ms pu yr : Int} (hP : rxPITD S0 ws) (hin : bx_same rxL (bx_mdl rxCITD.2.2.1) S0 S) (I0 : bx_Inv rxL S) (hinv : rxIITD_1 S0 ws S pa ms pu yr) (l8 : 0 ≤ pa) (u8 : pa ≤ 5) (l9 : 0 ≤ ms) (u9 : ms ≤ 7) (l10 : 0 ≤ pu) (u10 : pu ≤ 7) (l11 : 0 ≤ yr) (u11 : yr ≤ 299) : rxPHED S [1, pu, pa, ms, yr] ∧ ∀ (S_p : Nat → Int → Int), rxPSHED S [1, pu, pa, ms, yr] S_p none → bx_Inv rxL S_p → bx_same rxL (bx_mdl rxCHED.2.2.1) S S_p → rxIITD_2 S0 ws S_p pa ms pu yr ∧ rxmITD_2 S0 ws S_p pa ms pu yr < rxmITD_1 S0 ws S pa ms pu yr := by
  obtain ⟨hS, hw⟩ := hinv
  subst hS
  obtain ⟨pa9, ms9, pu9, yr9, hw2, hms, hpu, hdp⟩ := hP
  have w0_ : pa = pa9 := Option.some.inj (congrArg (fun l : List Int => l[1]?) (hw.symm.trans hw2))
  subst w0_
  have w1_ : ms = ms9 := Option.some.inj (congrArg (fun l : List Int => l[2]?) (hw.symm.trans hw2))
  subst w1_
  have w2_ : pu = pu9 := Option.some.inj (congrArg (fun l : List Int => l[3]?) (hw.symm.trans hw2))
  subst w2_
  have w3_ : yr = yr9 := Option.some.inj (congrArg (fun l : List Int => l[4]?) (hw.symm.trans hw2))
  subst w3_
  refine ⟨⟨pu, pa, ms, yr, rfl, hpu, hdp⟩, fun S_p hq _ hsm => ⟨⟨hw, ?_⟩, by unfold rxmITD_1 rxmITD_2; omega⟩⟩
  obtain ⟨-, p2, pa2, t2, y2, hw3, h⟩ := hq
  have k0 : pu = p2 := Option.some.inj (congrArg (fun l : List Int => l[1]?) hw3)
  have k1 : pa = pa2 := Option.some.inj (congrArg (fun l : List Int => l[2]?) hw3)
  have k2 : ms = t2 := Option.some.inj (congrArg (fun l : List Int => l[3]?) hw3)
  have k3 : yr = y2 := Option.some.inj (congrArg (fun l : List Int => l[4]?) hw3)
  subst k0
  subst k1
  subst k2
  subst k3
  exact h
theorem rxsITD_1 {X : (Nat → Int → Int) → Prop} {S0 : Nat → Int → Int} {ws : List Int} (hP : rxPITD S0 ws) : rx_obK X S0 rxCITD.2.2.1 rxCHED.2.2.1 (rxIITD S0 ws) (rxmITD S0 ws) 1 2 rxzITD_1 rxzITD_2 [.inr (3, (0, 1)), .inr (0, (10, 0)), .inr (0, (8, 0)), .inr (0, (9, 0)), .inr (0, (11, 0))] none rxPHED rxPSHED := by
  intro S r hinv hXS I0 hin hs_ hf_
  have b_ := bx_bds_sat hs_
  have f_ := bx_fcl_ok hs_.1 hf_
  obtain ⟨⟨l8, u8⟩, ⟨l9, u9⟩, ⟨l10, u10⟩, ⟨l11, u11⟩, -⟩ := b_
  have g := rxkITD_1 hP hin I0 hinv l8 u8 l9 u9 l10 u10 l11 u11
  have ea : List.map (bx_num r) [.inr (3, (0, 1)), .inr (0, (10, 0)), .inr (0, (8, 0)), .inr (0, (9, 0)), .inr (0, (11, 0))] = [1, (r 10), (r 8), (r 9), (r 11)] := by
    simp only [List.map_cons, List.map_nil, bx_xv_ok hs_.1]
    rfl
  rw [ea]
  refine ⟨g.1, fun S_p w r_p hPS hX_p I1 hsm hr hw hs_p => ?_⟩
  have hw : w = none := hPS.1
  subst hw
  have g2 := g.2 S_p hPS I1 hsm
  show rxIITD_2 S0 ws S_p (r_p 8) (r_p 9) (r_p 10) (r_p 11) ∧ rxmITD_2 S0 ws S_p (r_p 8) (r_p 9) (r_p 10) (r_p 11) < _
  rw [hr 8 (by decide), hr 9 (by decide), hr 10 (by decide), hr 11 (by decide)]
  exact g2
theorem rxcITD_0_0 {S0 : Nat → Int → Int} {ws : List Int} {S : Nat → Int → Int} {pa ms pu yr : Int} (hP : rxPITD S0 ws) (hin : bx_same rxL (bx_mdl rxCITD.2.2.1) S0 S) (I0 : bx_Inv rxL S) (hinv : rxIITD_0 S0 ws S pa ms pu yr) (l8 : 0 ≤ pa) (u8 : pa ≤ 5) (l9 : 0 ≤ ms) (u9 : ms ≤ 7) (l10 : 0 ≤ pu) (u10 : pu ≤ 7) (l11 : 0 ≤ yr) (u11 : yr ≤ 299) : (True) ∧ (True) ∧ rxIITD_1 S0 ws S pa ms pu yr ∧ rxmITD_1 S0 ws S pa ms pu yr < rxmITD_0 S0 ws S pa ms pu yr := by
  obtain ⟨rfl, hw⟩ := hinv
  exact ⟨by first | trivial | exact ⟨by omega, trivial⟩, trivial, ⟨rfl, hw⟩, by unfold rxmITD_0 rxmITD_1; omega⟩
theorem rxgITD_0_0 {X : (Nat → Int → Int) → Prop} {S0 : Nat → Int → Int} {ws : List Int} (hP : rxPITD S0 ws) : bx_obC rxL X S0 rxCITD.2.2.1 (rxIITD S0 ws) (rxmITD S0 ws) 0 rxzITD_0 rxoITD_0_0 := by
  intro S S_p r r_p hinv hX hin hsm_ hseg
  obtain ⟨I0, I1, h0_, hr_, b_, f_, d_⟩ := bx_cl (evs := []) (fvs := []) hseg (by decide +kernel) (by decide +kernel)
  have hinv : rxIITD_0 S0 ws S (r 8) (r 9) (r 10) (r 11) := hinv
  rw [← hr_ 8 (by decide), ← hr_ 9 (by decide), ← hr_ 10 (by decide), ← hr_ 11 (by decide)] at hinv
  obtain ⟨⟨l8, u8⟩, ⟨l9, u9⟩, ⟨l10, u10⟩, ⟨l11, u11⟩, -⟩ := b_
  have w_ := d_
  subst w_
  have g := rxcITD_0_0 hP hin I0 hinv l8 u8 l9 u9 l10 u10 l11 u11
  refine ⟨bx_narP_ok (l := []) g.1, bx_nfP_ok h0_ (fvs := []) (by decide +kernel) g.2.1, ?_, ?_⟩
  · show rxIITD_1 S0 ws S_p (bx_val [(0, 0), (0, 0), (0, 0), (0, 0), (0, 0), (0, 0), (0, 0), (0, 0), (8, 0), (9, 0), (10, 0), (11, 0)] r_p 8) (bx_val [(0, 0), (0, 0), (0, 0), (0, 0), (0, 0), (0, 0), (0, 0), (0, 0), (8, 0), (9, 0), (10, 0), (11, 0)] r_p 9) (bx_val [(0, 0), (0, 0), (0, 0), (0, 0), (0, 0), (0, 0), (0, 0), (0, 0), (8, 0), (9, 0), (10, 0), (11, 0)] r_p 10) (bx_val [(0, 0), (0, 0), (0, 0), (0, 0), (0, 0), (0, 0), (0, 0), (0, 0), (8, 0), (9, 0), (10, 0), (11, 0)] r_p 11)
    rw [bx_val_x (n := 8) (e := (8, 0)) h0_ rfl, bx_val_x (n := 9) (e := (9, 0)) h0_ rfl, bx_val_x (n := 10) (e := (10, 0)) h0_ rfl, bx_val_x (n := 11) (e := (11, 0)) h0_ rfl]
    exact g.2.2.1
  · show rxmITD_1 S0 ws S_p (bx_val [(0, 0), (0, 0), (0, 0), (0, 0), (0, 0), (0, 0), (0, 0), (0, 0), (8, 0), (9, 0), (10, 0), (11, 0)] r_p 8) (bx_val [(0, 0), (0, 0), (0, 0), (0, 0), (0, 0), (0, 0), (0, 0), (0, 0), (8, 0), (9, 0), (10, 0), (11, 0)] r_p 9) (bx_val [(0, 0), (0, 0), (0, 0), (0, 0), (0, 0), (0, 0), (0, 0), (0, 0), (8, 0), (9, 0), (10, 0), (11, 0)] r_p 10) (bx_val [(0, 0), (0, 0), (0, 0), (0, 0), (0, 0), (0, 0), (0, 0), (0, 0), (8, 0), (9, 0), (10, 0), (11, 0)] r_p 11) < rxmITD_0 S0 ws S_p (r 8) (r 9) (r 10) (r 11)
    rw [bx_val_x (n := 8) (e := (8, 0)) h0_ rfl, bx_val_x (n := 9) (e := (9, 0)) h0_ rfl, bx_val_x (n := 10) (e := (10, 0)) h0_ rfl, bx_val_x (n := 11) (e := (11, 0)) h0_ rfl, ← hr_ 8 (by decide), ← hr_ 9 (by decide), ← hr_ 10 (by decide), ← hr_ 11 (by decide)]
    exact g.2.2.2
theorem rxdITD_2_0 {S0 : Nat → Int → Int} {ws : List Int} {S : Nat → Int → Int} {pa ms pu yr x12 x13 x14 x15 x16 x17 x18 x19 : Int} (hP : rxPITD S0 ws) (hin : bx_same rxL (bx_mdl rxCITD.2.2.1) S0 S) (hin2 : bx_same rxL (bx_mdl rxCITD.2.2.1) S S) (I0 : bx_Inv rxL S) (I1 : bx_Inv rxL S) (hinv : rxIITD_2 S0 ws S pa ms pu yr) (l8 : 0 ≤ pa) (u8 : pa ≤ 5) (l9 : 0 ≤ ms) (u9 : ms ≤ 7) (l10 : 0 ≤ pu) (u10 : pu ≤ 7) (l11 : 0 ≤ yr) (u11 : yr ≤ 299) (l12 : 0 ≤ x12) (u12 : x12 ≤ 0) (l13 : 1 ≤ x13) (u13 : x13 ≤ 8) (l14 : 1 ≤ x14) (u14 : x14 ≤ 300) (l15 : 0 ≤ x15) (u15 : x15 ≤ 299) (l16 : 0 ≤ x16) (u16 : x16 ≤ 200) (l17 : 0 ≤ x17) (u17 : x17 ≤ 200) (l18 : 0 ≤ x18) (u18 : x18 ≤ 299) (l19 : 0 ≤ x19) (u19 : x19 ≤ 299) (f0 : x19 ≤ x18) (f1 : x15 = x18 + x17) (f2 : x16 ≤ x17) (f3 : pu < x13) (f4 : ms < x13) (f5 : x15 < x14) (f6 : pu < x13) (f7 : ms < x13) (e6 : S 21 2 = x12) (e5 : S 5 0 = x13) (e4 : S 7 ms = x14) (e3 : S 7 pu = x15) (e2 : S 6 ms = x16) (e1 : S 6 pu = x17) (e0 : S 21 1 = x19) : (True) ∧ rxPSITD S0 ws S (some 1) := by
  obtain ⟨hw, hz⟩ := hinv
  obtain ⟨pa9, ms9, pu9, yr9, hw2, hms, hpu, hdp⟩ := hP
  have w0_ : pa = pa9 := Option.some.inj (congrArg (fun l : List Int => l[1]?) (hw.symm.trans hw2))
  subst w0_
  have w1_ : ms = ms9 := Option.some.inj (congrArg (fun l : List Int => l[2]?) (hw.symm.trans hw2))
  subst w1_
  have w2_ : pu = pu9 := Option.some.inj (congrArg (fun l : List Int => l[3]?) (hw.symm.trans hw2))
  subst w2_
  have w3_ : yr = yr9 := Option.some.inj (congrArg (fun l : List Int => l[4]?) (hw.symm.trans hw2))
  subst w3_
  have q5 : S 5 0 = S0 5 0 := hin 5 0 (by decide) (by decide) (by decide +kernel)
  have q6 : ∀ j : Int, 0 ≤ j → j < 8 → S 6 j = S0 6 j := fun j a b => rx_sameR2 hin (tc := 0) (n := 8) (g := 3) rfl (by omega) (by decide +kernel) (by decide +kernel) a b
  have q7 : ∀ j : Int, 0 ≤ j → j < 8 → S 7 j = S0 7 j := fun j a b => rx_sameR2 hin (tc := 0) (n := 8) (g := 4) rfl (by omega) (by decide +kernel) (by decide +kernel) a b
  rw [q5] at e5
  rw [q7 _ (by omega) (by omega)] at e4 e3
  rw [q6 _ (by omega) (by omega)] at e2 e1
  have hy : rkYt S0 ms pu = x18 := by
    unfold rkYt
    rw [e4, e3, e2, e1]
    first | omega | (simp only [Int.min_def, Int.max_def]; split <;> split <;> omega)
  exact ⟨trivial, pa, ms, pu, yr, hw, Or.inl ⟨rfl, hd3 S, hz, show S 21 2 = 0 by omega, by rw [hy]; show S 21 1 ≤ x18; omega⟩⟩
theorem rxfITD_2_0 {X : (Nat → Int → Int) → Prop} {S0 : Nat → Int → Int} {ws : List Int} (hP : rxPITD S0 ws) : bx_obE rxL X S0 rxCITD.2.2.1 (rxIITD S0 ws) (rxPSITD S0 ws) 2 rxzITD_2 rxeITD_2_0 := by
  intro S S_p r r_p hinv hX hin hsm_ hseg
  obtain ⟨I0, I1, h0_, hr_, b_, f_, d_⟩ := bx_cl (evs := [(0, (0, 21), (0, 1), .inr (0, (19, 0))), (0, (0, 6), (10, 0), .inr (0, (17, 0))), (0, (0, 6), (9, 0), .inr (0, (16, 0))), (0, (0, 7), (10, 0), .inr (0, (15, 0))), (0, (0, 7), (9, 0), .inr (0, (14, 0))), (0, (0, 5), (0, 0), .inr (0, (13, 0))), (0, (0, 21), (0, 2), .inr (0, (12, 0)))]) (fvs := [(1, (19, 0), (18, 0), (0, 0)), (5, (15, 0), (18, 0), (17, 0)), (1, (16, 0), (17, 0), (0, 0)), (0, (10, 0), (13, 0), (0, 0)), (0, (9, 0), (13, 0), (0, 0)), (0, (15, 0), (14, 0), (0, 0)), (0, (10, 0), (13, 0), (0, 0)), (0, (9, 0), (13, 0), (0, 0))]) hseg (by decide +kernel) (by decide +kernel)
  have hinv : rxIITD_2 S0 ws S (r 8) (r 9) (r 10) (r 11) := hinv
  rw [← hr_ 8 (by decide), ← hr_ 9 (by decide), ← hr_ 10 (by decide), ← hr_ 11 (by decide)] at hinv
  obtain ⟨⟨l8, u8⟩, ⟨l9, u9⟩, ⟨l10, u10⟩, ⟨l11, u11⟩, ⟨l12, u12⟩, ⟨l13, u13⟩, ⟨l14, u14⟩, ⟨l15, u15⟩, ⟨l16, u16⟩, ⟨l17, u17⟩, ⟨l18, u18⟩, ⟨l19, u19⟩, -⟩ := b_
  obtain ⟨f0, f1, f2, f3, f4, f5, f6, f7, -⟩ := f_
  obtain ⟨e0, ⟨e1, ⟨e2, ⟨e3, ⟨e4, ⟨e5, ⟨e6, w_⟩⟩⟩⟩⟩⟩⟩ := d_
  subst w_
  have g := rxdITD_2_0 hP hin hsm_ I0 I1 hinv l8 u8 l9 u9 l10 u10 l11 u11 l12 u12 l13 u13 l14 u14 l15 u15 l16 u16 l17 u17 l18 u18 l19 u19 f0 f1 f2 f3 f4 f5 f6 f7 e6 e5 e4 e3 e2 e1 e0
  refine ⟨bx_narP_ok (l := []) g.1, ?_⟩
  show rxPSITD S0 ws S_p (some (bx_num r_p (.inr (0, (0, 1)))))
  rw [bx_xv_ok h0_]
  exact g.2
theorem rxdITD_2_1 {S0 : Nat → Int → Int} {ws : List Int} {S : Nat → Int → Int} {pa ms pu yr x12 x13 x14 x15 x16 x17 x18 x19 : Int} (hP : rxPITD S0 ws) (hin : bx_same rxL (bx_mdl rxCITD.2.2.1) S0 S) (hin2 : bx_same rxL (bx_mdl rxCITD.2.2.1) S S) (I0 : bx_Inv rxL S) (I1 : bx_Inv rxL S) (hinv : rxIITD_2 S0 ws S pa ms pu yr) (l8 : 0 ≤ pa) (u8 : pa ≤ 5) (l9 : 0 ≤ ms) (u9 : ms ≤ 7) (l10 : 0 ≤ pu) (u10 : pu ≤ 7) (l11 : 0 ≤ yr) (u11 : yr ≤ 299) (l12 : 0 ≤ x12) (u12 : x12 ≤ 0) (l13 : 1 ≤ x13) (u13 : x13 ≤ 8) (l14 : 1 ≤ x14) (u14 : x14 ≤ 300) (l15 : 0 ≤ x15) (u15 : x15 ≤ 299) (l16 : 0 ≤ x16) (u16 : x16 ≤ 200) (l17 : 0 ≤ x17) (u17 : x17 ≤ 200) (l18 : (-200) ≤ x18) (u18 : x18 ≤ 299) (l19 : 0 ≤ x19) (u19 : x19 ≤ 300) (f0 : x18 < x19) (f1 : x15 = x18 + x17) (f2 : x16 ≤ x17) (f3 : pu < x13) (f4 : ms < x13) (f5 : x15 < x14) (f6 : pu < x13) (f7 : ms < x13) (e6 : S 21 2 = x12) (e5 : S 5 0 = x13) (e4 : S 7 ms = x14) (e3 : S 7 pu = x15) (e2 : S 6 ms = x16) (e1 : S 6 pu = x17) (e0 : S 21 1 = x19) : (True) ∧ rxPSITD S0 ws S (some 0) := by
  obtain ⟨hw, hz⟩ := hinv
  obtain ⟨pa9, ms9, pu9, yr9, hw2, hms, hpu, hdp⟩ := hP
  have w0_ : pa = pa9 := Option.some.inj (congrArg (fun l : List Int => l[1]?) (hw.symm.trans hw2))
  subst w0_
  have w1_ : ms = ms9 := Option.some.inj (congrArg (fun l : List Int => l[2]?) (hw.symm.trans hw2))
  subst w1_
  have w2_ : pu = pu9 := Option.some.inj (congrArg (fun l : List Int => l[3]?) (hw.symm.trans hw2))
  subst w2_
  have w3_ : yr = yr9 := Option.some.inj (congrArg (fun l : List Int => l[4]?) (hw.symm.trans hw2))
  subst w3_
  have q5 : S 5 0 = S0 5 0 := hin 5 0 (by decide) (by decide) (by decide +kernel)
  have q6 : ∀ j : Int, 0 ≤ j → j < 8 → S 6 j = S0 6 j := fun j a b => rx_sameR2 hin (tc := 0) (n := 8) (g := 3) rfl (by omega) (by decide +kernel) (by decide +kernel) a b
  have q7 : ∀ j : Int, 0 ≤ j → j < 8 → S 7 j = S0 7 j := fun j a b => rx_sameR2 hin (tc := 0) (n := 8) (g := 4) rfl (by omega) (by decide +kernel) (by decide +kernel) a b
  rw [q5] at e5
  rw [q7 _ (by omega) (by omega)] at e4 e3
  rw [q6 _ (by omega) (by omega)] at e2 e1
  have hy : rkYt S0 ms pu = x18 := by
    unfold rkYt
    rw [e4, e3, e2, e1]
    first | omega | (simp only [Int.min_def, Int.max_def]; split <;> split <;> omega)
  exact ⟨trivial, pa, ms, pu, yr, hw, Or.inr ⟨rfl, hd3 S, hz, fun c => by have c2 : S 21 1 ≤ rkYt S0 ms pu := c.2; omega⟩⟩
theorem rxfITD_2_1 {X : (Nat → Int → Int) → Prop} {S0 : Nat → Int → Int} {ws : List Int} (hP : rxPITD S0 ws) : bx_obE rxL X S0 rxCITD.2.2.1 (rxIITD S0 ws) (rxPSITD S0 ws) 2 rxzITD_2 rxeITD_2_1 := by
  intro S S_p r r_p hinv hX hin hsm_ hseg
  obtain ⟨I0, I1, h0_, hr_, b_, f_, d_⟩ := bx_cl (evs := [(0, (0, 21), (0, 1), .inr (0, (19, 0))), (0, (0, 6), (10, 0), .inr (0, (17, 0))), (0, (0, 6), (9, 0), .inr (0, (16, 0))), (0, (0, 7), (10, 0), .inr (0, (15, 0))), (0, (0, 7), (9, 0), .inr (0, (14, 0))), (0, (0, 5), (0, 0), .inr (0, (13, 0))), (0, (0, 21), (0, 2), .inr (0, (12, 0)))]) (fvs := [(0, (18, 0), (19, 0), (0, 0)), (5, (15, 0), (18, 0), (17, 0)), (1, (16, 0), (17, 0), (0, 0)), (0, (10, 0), (13, 0), (0, 0)), (0, (9, 0), (13, 0), (0, 0)), (0, (15, 0), (14, 0), (0, 0)), (0, (10, 0), (13, 0), (0, 0)), (0, (9, 0), (13, 0), (0, 0))]) hseg (by decide +kernel) (by decide +kernel)
  have hinv : rxIITD_2 S0 ws S (r 8) (r 9) (r 10) (r 11) := hinv
  rw [← hr_ 8 (by decide), ← hr_ 9 (by decide), ← hr_ 10 (by decide), ← hr_ 11 (by decide)] at hinv
  obtain ⟨⟨l8, u8⟩, ⟨l9, u9⟩, ⟨l10, u10⟩, ⟨l11, u11⟩, ⟨l12, u12⟩, ⟨l13, u13⟩, ⟨l14, u14⟩, ⟨l15, u15⟩, ⟨l16, u16⟩, ⟨l17, u17⟩, ⟨l18, u18⟩, ⟨l19, u19⟩, -⟩ := b_
  obtain ⟨f0, f1, f2, f3, f4, f5, f6, f7, -⟩ := f_
  obtain ⟨e0, ⟨e1, ⟨e2, ⟨e3, ⟨e4, ⟨e5, ⟨e6, w_⟩⟩⟩⟩⟩⟩⟩ := d_
  subst w_
  have g := rxdITD_2_1 hP hin hsm_ I0 I1 hinv l8 u8 l9 u9 l10 u10 l11 u11 l12 u12 l13 u13 l14 u14 l15 u15 l16 u16 l17 u17 l18 u18 l19 u19 f0 f1 f2 f3 f4 f5 f6 f7 e6 e5 e4 e3 e2 e1 e0
  refine ⟨bx_narP_ok (l := []) g.1, ?_⟩
  show rxPSITD S0 ws S_p (some (bx_num r_p (.inr (0, (0, 0)))))
  rw [bx_xv_ok h0_]
  exact g.2
theorem rxdITD_2_2 {S0 : Nat → Int → Int} {ws : List Int} {S : Nat → Int → Int} {pa ms pu yr x12 x13 x14 x15 x16 x17 x18 x19 : Int} (hP : rxPITD S0 ws) (hin : bx_same rxL (bx_mdl rxCITD.2.2.1) S0 S) (hin2 : bx_same rxL (bx_mdl rxCITD.2.2.1) S S) (I0 : bx_Inv rxL S) (I1 : bx_Inv rxL S) (hinv : rxIITD_2 S0 ws S pa ms pu yr) (l8 : 0 ≤ pa) (u8 : pa ≤ 5) (l9 : 0 ≤ ms) (u9 : ms ≤ 7) (l10 : 0 ≤ pu) (u10 : pu ≤ 7) (l11 : 0 ≤ yr) (u11 : yr ≤ 299) (l12 : 0 ≤ x12) (u12 : x12 ≤ 0) (l13 : 1 ≤ x13) (u13 : x13 ≤ 8) (l14 : 1 ≤ x14) (u14 : x14 ≤ 300) (l15 : 0 ≤ x15) (u15 : x15 ≤ 299) (l16 : 1 ≤ x16) (u16 : x16 ≤ 200) (l17 : 0 ≤ x17) (u17 : x17 ≤ 199) (l18 : 0 ≤ x18) (u18 : x18 ≤ 298) (l19 : 0 ≤ x19) (u19 : x19 ≤ 298) (f0 : x19 ≤ x18) (f1 : x15 = x18 + x16) (f2 : x17 < x16) (f3 : pu < x13) (f4 : ms < x13) (f5 : x15 < x14) (f6 : pu < x13) (f7 : ms < x13) (e6 : S 21 2 = x12) (e5 : S 5 0 = x13) (e4 : S 7 ms = x14) (e3 : S 7 pu = x15) (e2 : S 6 ms = x16) (e1 : S 6 pu = x17) (e0 : S 21 1 = x19) : (True) ∧ rxPSITD S0 ws S (some 1) := by
  obtain ⟨hw, hz⟩ := hinv
  obtain ⟨pa9, ms9, pu9, yr9, hw2, hms, hpu, hdp⟩ := hP
  have w0_ : pa = pa9 := Option.some.inj (congrArg (fun l : List Int => l[1]?) (hw.symm.trans hw2))
  subst w0_
  have w1_ : ms = ms9 := Option.some.inj (congrArg (fun l : List Int => l[2]?) (hw.symm.trans hw2))
  subst w1_
  have w2_ : pu = pu9 := Option.some.inj (congrArg (fun l : List Int => l[3]?) (hw.symm.trans hw2))
  subst w2_
  have w3_ : yr = yr9 := Option.some.inj (congrArg (fun l : List Int => l[4]?) (hw.symm.trans hw2))
  subst w3_
  have q5 : S 5 0 = S0 5 0 := hin 5 0 (by decide) (by decide) (by decide +kernel)
  have q6 : ∀ j : Int, 0 ≤ j → j < 8 → S 6 j = S0 6 j := fun j a b => rx_sameR2 hin (tc := 0) (n := 8) (g := 3) rfl (by omega) (by decide +kernel) (by decide +kernel) a b
  have q7 : ∀ j : Int, 0 ≤ j → j < 8 → S 7 j = S0 7 j := fun j a b => rx_sameR2 hin (tc := 0) (n := 8) (g := 4) rfl (by omega) (by decide +kernel) (by decide +kernel) a b
  rw [q5] at e5
  rw [q7 _ (by omega) (by omega)] at e4 e3
  rw [q6 _ (by omega) (by omega)] at e2 e1
  have hy : rkYt S0 ms pu = x18 := by
    unfold rkYt
    rw [e4, e3, e2, e1]
    first | omega | (simp only [Int.min_def, Int.max_def]; split <;> split <;> omega)
  exact ⟨trivial, pa, ms, pu, yr, hw, Or.inl ⟨rfl, hd3 S, hz, show S 21 2 = 0 by omega, by rw [hy]; show S 21 1 ≤ x18; omega⟩⟩
theorem rxfITD_2_2 {X : (Nat → Int → Int) → Prop} {S0 : Nat → Int → Int} {ws : List Int} (hP : rxPITD S0 ws) : bx_obE rxL X S0 rxCITD.2.2.1 (rxIITD S0 ws) (rxPSITD S0 ws) 2 rxzITD_2 rxeITD_2_2 := by
  intro S S_p r r_p hinv hX hin hsm_ hseg
  obtain ⟨I0, I1, h0_, hr_, b_, f_, d_⟩ := bx_cl (evs := [(0, (0, 21), (0, 1), .inr (0, (19, 0))), (0, (0, 6), (10, 0), .inr (0, (17, 0))), (0, (0, 6), (9, 0), .inr (0, (16, 0))), (0, (0, 7), (10, 0), .inr (0, (15, 0))), (0, (0, 7), (9, 0), .inr (0, (14, 0))), (0, (0, 5), (0, 0), .inr (0, (13, 0))), (0, (0, 21), (0, 2), .inr (0, (12, 0)))]) (fvs := [(1, (19, 0), (18, 0), (0, 0)), (5, (15, 0), (18, 0), (16, 0)), (0, (17, 0), (16, 0), (0, 0)), (0, (10, 0), (13, 0), (0, 0)), (0, (9, 0), (13, 0), (0, 0)), (0, (15, 0), (14, 0), (0, 0)), (0, (10, 0), (13, 0), (0, 0)), (0, (9, 0), (13, 0), (0, 0))]) hseg (by decide +kernel) (by decide +kernel)
  have hinv : rxIITD_2 S0 ws S (r 8) (r 9) (r 10) (r 11) := hinv
  rw [← hr_ 8 (by decide), ← hr_ 9 (by decide), ← hr_ 10 (by decide), ← hr_ 11 (by decide)] at hinv
  obtain ⟨⟨l8, u8⟩, ⟨l9, u9⟩, ⟨l10, u10⟩, ⟨l11, u11⟩, ⟨l12, u12⟩, ⟨l13, u13⟩, ⟨l14, u14⟩, ⟨l15, u15⟩, ⟨l16, u16⟩, ⟨l17, u17⟩, ⟨l18, u18⟩, ⟨l19, u19⟩, -⟩ := b_
  obtain ⟨f0, f1, f2, f3, f4, f5, f6, f7, -⟩ := f_
  obtain ⟨e0, ⟨e1, ⟨e2, ⟨e3, ⟨e4, ⟨e5, ⟨e6, w_⟩⟩⟩⟩⟩⟩⟩ := d_
  subst w_
  have g := rxdITD_2_2 hP hin hsm_ I0 I1 hinv l8 u8 l9 u9 l10 u10 l11 u11 l12 u12 l13 u13 l14 u14 l15 u15 l16 u16 l17 u17 l18 u18 l19 u19 f0 f1 f2 f3 f4 f5 f6 f7 e6 e5 e4 e3 e2 e1 e0
  refine ⟨bx_narP_ok (l := []) g.1, ?_⟩
  show rxPSITD S0 ws S_p (some (bx_num r_p (.inr (0, (0, 1)))))
  rw [bx_xv_ok h0_]
  exact g.2
theorem rxdITD_2_3 {S0 : Nat → Int → Int} {ws : List Int} {S : Nat → Int → Int} {pa ms pu yr x12 x13 x14 x15 x16 x17 x18 x19 : Int} (hP : rxPITD S0 ws) (hin : bx_same rxL (bx_mdl rxCITD.2.2.1) S0 S) (hin2 : bx_same rxL (bx_mdl rxCITD.2.2.1) S S) (I0 : bx_Inv rxL S) (I1 : bx_Inv rxL S) (hinv : rxIITD_2 S0 ws S pa ms pu yr) (l8 : 0 ≤ pa) (u8 : pa ≤ 5) (l9 : 0 ≤ ms) (u9 : ms ≤ 7) (l10 : 0 ≤ pu) (u10 : pu ≤ 7) (l11 : 0 ≤ yr) (u11 : yr ≤ 299) (l12 : 0 ≤ x12) (u12 : x12 ≤ 0) (l13 : 1 ≤ x13) (u13 : x13 ≤ 8) (l14 : 1 ≤ x14) (u14 : x14 ≤ 300) (l15 : 0 ≤ x15) (u15 : x15 ≤ 299) (l16 : 1 ≤ x16) (u16 : x16 ≤ 200) (l17 : 0 ≤ x17) (u17 : x17 ≤ 199) (l18 : (-200) ≤ x18) (u18 : x18 ≤ 298) (l19 : 0 ≤ x19) (u19 : x19 ≤ 300) (f0 : x18 < x19) (f1 : x15 = x18 + x16) (f2 : x17 < x16) (f3 : pu < x13) (f4 : ms < x13) (f5 : x15 < x14) (f6 : pu < x13) (f7 : ms < x13) (e6 : S 21 2 = x12) (e5 : S 5 0 = x13) (e4 : S 7 ms = x14) (e3 : S 7 pu = x15) (e2 : S 6 ms = x16) (e1 : S 6 pu = x17) (e0 : S 21 1 = x19) : (True) ∧ rxPSITD S0 ws S (some 0) := by
  obtain ⟨hw, hz⟩ := hinv
  obtain ⟨pa9, ms9, pu9, yr9, hw2, hms, hpu, hdp⟩ := hP
  have w0_ : pa = pa9 := Option.some.inj (congrArg (fun l : List Int => l[1]?) (hw.symm.trans hw2))
  subst w0_
  have w1_ : ms = ms9 := Option.some.inj (congrArg (fun l : List Int => l[2]?) (hw.symm.trans hw2))
  subst w1_
  have w2_ : pu = pu9 := Option.some.inj (congrArg (fun l : List Int => l[3]?) (hw.symm.trans hw2))
  subst w2_
  have w3_ : yr = yr9 := Option.some.inj (congrArg (fun l : List Int => l[4]?) (hw.symm.trans hw2))
  subst w3_
  have q5 : S 5 0 = S0 5 0 := hin 5 0 (by decide) (by decide) (by decide +kernel)
  have q6 : ∀ j : Int, 0 ≤ j → j < 8 → S 6 j = S0 6 j := fun j a b => rx_sameR2 hin (tc := 0) (n := 8) (g := 3) rfl (by omega) (by decide +kernel) (by decide +kernel) a b
  have q7 : ∀ j : Int, 0 ≤ j → j < 8 → S 7 j = S0 7 j := fun j a b => rx_sameR2 hin (tc := 0) (n := 8) (g := 4) rfl (by omega) (by decide +kernel) (by decide +kernel) a b
  rw [q5] at e5
  rw [q7 _ (by omega) (by omega)] at e4 e3
  rw [q6 _ (by omega) (by omega)] at e2 e1
  have hy : rkYt S0 ms pu = x18 := by
    unfold rkYt
    rw [e4, e3, e2, e1]
    first | omega | (simp only [Int.min_def, Int.max_def]; split <;> split <;> omega)
  exact ⟨trivial, pa, ms, pu, yr, hw, Or.inr ⟨rfl, hd3 S, hz, fun c => by have c2 : S 21 1 ≤ rkYt S0 ms pu := c.2; omega⟩⟩
theorem rxfITD_2_3 {X : (Nat → Int → Int) → Prop} {S0 : Nat → Int → Int} {ws : List Int} (hP : rxPITD S0 ws) : bx_obE rxL X S0 rxCITD.2.2.1 (rxIITD S0 ws) (rxPSITD S0 ws) 2 rxzITD_2 rxeITD_2_3 := by
  intro S S_p r r_p hinv hX hin hsm_ hseg
  obtain ⟨I0, I1, h0_, hr_, b_, f_, d_⟩ := bx_cl (evs := [(0, (0, 21), (0, 1), .inr (0, (19, 0))), (0, (0, 6), (10, 0), .inr (0, (17, 0))), (0, (0, 6), (9, 0), .inr (0, (16, 0))), (0, (0, 7), (10, 0), .inr (0, (15, 0))), (0, (0, 7), (9, 0), .inr (0, (14, 0))), (0, (0, 5), (0, 0), .inr (0, (13, 0))), (0, (0, 21), (0, 2), .inr (0, (12, 0)))]) (fvs := [(0, (18, 0), (19, 0), (0, 0)), (5, (15, 0), (18, 0), (16, 0)), (0, (17, 0), (16, 0), (0, 0)), (0, (10, 0), (13, 0), (0, 0)), (0, (9, 0), (13, 0), (0, 0)), (0, (15, 0), (14, 0), (0, 0)), (0, (10, 0), (13, 0), (0, 0)), (0, (9, 0), (13, 0), (0, 0))]) hseg (by decide +kernel) (by decide +kernel)
  have hinv : rxIITD_2 S0 ws S (r 8) (r 9) (r 10) (r 11) := hinv
  rw [← hr_ 8 (by decide), ← hr_ 9 (by decide), ← hr_ 10 (by decide), ← hr_ 11 (by decide)] at hinv
  obtain ⟨⟨l8, u8⟩, ⟨l9, u9⟩, ⟨l10, u10⟩, ⟨l11, u11⟩, ⟨l12, u12⟩, ⟨l13, u13⟩, ⟨l14, u14⟩, ⟨l15, u15⟩, ⟨l16, u16⟩, ⟨l17, u17⟩, ⟨l18, u18⟩, ⟨l19, u19⟩, -⟩ := b_
  obtain ⟨f0, f1, f2, f3, f4, f5, f6, f7, -⟩ := f_
  obtain ⟨e0, ⟨e1, ⟨e2, ⟨e3, ⟨e4, ⟨e5, ⟨e6, w_⟩⟩⟩⟩⟩⟩⟩ := d_
  subst w_
  have g := rxdITD_2_3 hP hin hsm_ I0 I1 hinv l8 u8 l9 u9 l10 u10 l11 u11 l12 u12 l13 u13 l14 u14 l15 u15 l16 u16 l17 u17 l18 u18 l19 u19 f0 f1 f2 f3 f4 f5 f6 f7 e6 e5 e4 e3 e2 e1 e0
  refine ⟨bx_narP_ok (l := []) g.1, ?_⟩
  show rxPSITD S0 ws S_p (some (bx_num r_p (.inr (0, (0, 0)))))
  rw [bx_xv_ok h0_]
  exact g.2
theorem rxdITD_2_4 {S0 : Nat → Int → Int} {ws : List Int} {S : Nat → Int → Int} {pa ms pu yr x12 x13 x14 x15 x16 x17 x18 x19 : Int} (hP : rxPITD S0 ws) (hin : bx_same rxL (bx_mdl rxCITD.2.2.1) S0 S) (hin2 : bx_same rxL (bx_mdl rxCITD.2.2.1) S S) (I0 : bx_Inv rxL S) (I1 : bx_Inv rxL S) (hinv : rxIITD_2 S0 ws S pa ms pu yr) (l8 : 0 ≤ pa) (u8 : pa ≤ 5) (l9 : 0 ≤ ms) (u9 : ms ≤ 7) (l10 : 0 ≤ pu) (u10 : pu ≤ 7) (l11 : 0 ≤ yr) (u11 : yr ≤ 299) (l12 : 0 ≤ x12) (u12 : x12 ≤ 0) (l13 : 1 ≤ x13) (u13 : x13 ≤ 8) (l14 : 0 ≤ x14) (u14 : x14 ≤ 300) (l15 : 0 ≤ x15) (u15 : x15 ≤ 300) (l16 : 0 ≤ x16) (u16 : x16 ≤ 200) (l17 : 0 ≤ x17) (u17 : x17 ≤ 200) (l18 : 0 ≤ x18) (u18 : x18 ≤ 300) (l19 : 0 ≤ x19) (u19 : x19 ≤ 300) (f0 : x19 ≤ x18) (f1 : x14 = x18 + x17) (f2 : x16 ≤ x17) (f3 : pu < x13) (f4 : ms < x13) (f5 : x14 ≤ x15) (f6 : pu < x13) (f7 : ms < x13) (e6 : S 21 2 = x12) (e5 : S 5 0 = x13) (e4 : S 7 ms = x14) (e3 : S 7 pu = x15) (e2 : S 6 ms = x16) (e1 : S 6 pu = x17) (e0 : S 21 1 = x19) : (True) ∧ rxPSITD S0 ws S (some 1) := by
  obtain ⟨hw, hz⟩ := hinv
  obtain ⟨pa9, ms9, pu9, yr9, hw2, hms, hpu, hdp⟩ := hP
  have w0_ : pa = pa9 := Option.some.inj (congrArg (fun l : List Int => l[1]?) (hw.symm.trans hw2))
  subst w0_
  have w1_ : ms = ms9 := Option.some.inj (congrArg (fun l : List Int => l[2]?) (hw.symm.trans hw2))
  subst w1_
  have w2_ : pu = pu9 := Option.some.inj (congrArg (fun l : List Int => l[3]?) (hw.symm.trans hw2))
  subst w2_
  have w3_ : yr = yr9 := Option.some.inj (congrArg (fun l : List Int => l[4]?) (hw.symm.trans hw2))
  subst w3_
  have q5 : S 5 0 = S0 5 0 := hin 5 0 (by decide) (by decide) (by decide +kernel)
  have q6 : ∀ j : Int, 0 ≤ j → j < 8 → S 6 j = S0 6 j := fun j a b => rx_sameR2 hin (tc := 0) (n := 8) (g := 3) rfl (by omega) (by decide +kernel) (by decide +kernel) a b
  have q7 : ∀ j : Int, 0 ≤ j → j < 8 → S 7 j = S0 7 j := fun j a b => rx_sameR2 hin (tc := 0) (n := 8) (g := 4) rfl (by omega) (by decide +kernel) (by decide +kernel) a b
  rw [q5] at e5
  rw [q7 _ (by omega) (by omega)] at e4 e3
  rw [q6 _ (by omega) (by omega)] at e2 e1
  have hy : rkYt S0 ms pu = x18 := by
    unfold rkYt
    rw [e4, e3, e2, e1]
    first | omega | (simp only [Int.min_def, Int.max_def]; split <;> split <;> omega)
  exact ⟨trivial, pa, ms, pu, yr, hw, Or.inl ⟨rfl, hd3 S, hz, show S 21 2 = 0 by omega, by rw [hy]; show S 21 1 ≤ x18; omega⟩⟩
theorem rxfITD_2_4 {X : (Nat → Int → Int) → Prop} {S0 : Nat → Int → Int} {ws : List Int} (hP : rxPITD S0 ws) : bx_obE rxL X S0 rxCITD.2.2.1 (rxIITD S0 ws) (rxPSITD S0 ws) 2 rxzITD_2 rxeITD_2_4 := by
  intro S S_p r r_p hinv hX hin hsm_ hseg
  obtain ⟨I0, I1, h0_, hr_, b_, f_, d_⟩ := bx_cl (evs := [(0, (0, 21), (0, 1), .inr (0, (19, 0))), (0, (0, 6), (10, 0), .inr (0, (17, 0))), (0, (0, 6), (9, 0), .inr (0, (16, 0))), (0, (0, 7), (10, 0), .inr (0, (15, 0))), (0, (0, 7), (9, 0), .inr (0, (14, 0))), (0, (0, 5), (0, 0), .inr (0, (13, 0))), (0, (0, 21), (0, 2), .inr (0, (12, 0)))]) (fvs := [(1, (19, 0), (18, 0), (0, 0)), (5, (14, 0), (18, 0), (17, 0)), (1, (16, 0), (17, 0), (0, 0)), (0, (10, 0), (13, 0), (0, 0)), (0, (9, 0), (13, 0), (0, 0)), (1, (14, 0), (15, 0), (0, 0)), (0, (10, 0), (13, 0), (0, 0)), (0, (9, 0), (13, 0), (0, 0))]) hseg (by decide +kernel) (by decide +kernel)
  have hinv : rxIITD_2 S0 ws S (r 8) (r 9) (r 10) (r 11) := hinv
  rw [← hr_ 8 (by decide), ← hr_ 9 (by decide), ← hr_ 10 (by decide), ← hr_ 11 (by decide)] at hinv
  obtain ⟨⟨l8, u8⟩, ⟨l9, u9⟩, ⟨l10, u10⟩, ⟨l11, u11⟩, ⟨l12, u12⟩, ⟨l13, u13⟩, ⟨l14, u14⟩, ⟨l15, u15⟩, ⟨l16, u16⟩, ⟨l17, u17⟩, ⟨l18, u18⟩, ⟨l19, u19⟩, -⟩ := b_
  obtain ⟨f0, f1, f2, f3, f4, f5, f6, f7, -⟩ := f_
  obtain ⟨e0, ⟨e1, ⟨e2, ⟨e3, ⟨e4, ⟨e5, ⟨e6, w_⟩⟩⟩⟩⟩⟩⟩ := d_
  subst w_
  have g := rxdITD_2_4 hP hin hsm_ I0 I1 hinv l8 u8 l9 u9 l10 u10 l11 u11 l12 u12 l13 u13 l14 u14 l15 u15 l16 u16 l17 u17 l18 u18 l19 u19 f0 f1 f2 f3 f4 f5 f6 f7 e6 e5 e4 e3 e2 e1 e0
  refine ⟨bx_narP_ok (l := []) g.1, ?_⟩
  show rxPSITD S0 ws S_p (some (bx_num r_p (.inr (0, (0, 1)))))
  rw [bx_xv_ok h0_]
  exact g.2
theorem rxdITD_2_5 {S0 : Nat → Int → Int} {ws : List Int} {S : Nat → Int → Int} {pa ms pu yr x12 x13 x14 x15 x16 x17 x18 x19 : Int} (hP : rxPITD S0 ws) (hin : bx_same rxL (bx_mdl rxCITD.2.2.1) S0 S) (hin2 : bx_same rxL (bx_mdl rxCITD.2.2.1) S S) (I0 : bx_Inv rxL S) (I1 : bx_Inv rxL S) (hinv : rxIITD_2 S0 ws S pa ms pu yr) (l8 : 0 ≤ pa) (u8 : pa ≤ 5) (l9 : 0 ≤ ms) (u9 : ms ≤ 7) (l10 : 0 ≤ pu) (u10 : pu ≤ 7) (l11 : 0 ≤ yr) (u11 : yr ≤ 299) (l12 : 0 ≤ x12) (u12 : x12 ≤ 0) (l13 : 1 ≤ x13) (u13 : x13 ≤ 8) (l14 : 0 ≤ x14) (u14 : x14 ≤ 300) (l15 : 0 ≤ x15) (u15 : x15 ≤ 300) (l16 : 0 ≤ x16) (u16 : x16 ≤ 200) (l17 : 0 ≤ x17) (u17 : x17 ≤ 200) (l18 : (-200) ≤ x18) (u18 : x18 ≤ 299) (l19 : 0 ≤ x19) (u19 : x19 ≤ 300) (f0 : x18 < x19) (f1 : x14 = x18 + x17) (f2 : x16 ≤ x17) (f3 : pu < x13) (f4 : ms < x13) (f5 : x14 ≤ x15) (f6 : pu < x13) (f7 : ms < x13) (e6 : S 21 2 = x12) (e5 : S 5 0 = x13) (e4 : S 7 ms = x14) (e3 : S 7 pu = x15) (e2 : S 6 ms = x16) (e1 : S 6 pu = x17) (e0 : S 21 1 = x19) : (True) ∧ rxPSITD S0 ws S (some 0) := by
  obtain ⟨hw, hz⟩ := hinv
  obtain ⟨pa9, ms9, pu9, yr9, hw2, hms, hpu, hdp⟩ := hP
  have w0_ : pa = pa9 := Option.some.inj (congrArg (fun l : List Int => l[1]?) (hw.symm.trans hw2))
  subst w0_
  have w1_ : ms = ms9 := Option.some.inj (congrArg (fun l : List Int => l[2]?) (hw.symm.trans hw2))
  subst w1_
  have w2_ : pu = pu9 := Option.some.inj (congrArg (fun l : List Int => l[3]?) (hw.symm.trans hw2))
  subst w2_
  have w3_ : yr = yr9 := Option.some.inj (congrArg (fun l : List Int => l[4]?) (hw.symm.trans hw2))
  subst w3_
  have q5 : S 5 0 = S0 5 0 := hin 5 0 (by decide) (by decide) (by decide +kernel)
  have q6 : ∀ j : Int, 0 ≤ j → j < 8 → S 6 j = S0 6 j := fun j a b => rx_sameR2 hin (tc := 0) (n := 8) (g := 3) rfl (by omega) (by decide +kernel) (by decide +kernel) a b
  have q7 : ∀ j : Int, 0 ≤ j → j < 8 → S 7 j = S0 7 j := fun j a b => rx_sameR2 hin (tc := 0) (n := 8) (g := 4) rfl (by omega) (by decide +kernel) (by decide +kernel) a b
  rw [q5] at e5
  rw [q7 _ (by omega) (by omega)] at e4 e3
  rw [q6 _ (by omega) (by omega)] at e2 e1
  have hy : rkYt S0 ms pu = x18 := by
    unfold rkYt
    rw [e4, e3, e2, e1]
    first | omega | (simp only [Int.min_def, Int.max_def]; split <;> split <;> omega)
  exact ⟨trivial, pa, ms, pu, yr, hw, Or.inr ⟨rfl, hd3 S, hz, fun c => by have c2 : S 21 1 ≤ rkYt S0 ms pu := c.2; omega⟩⟩
theorem rxfITD_2_5 {X : (Nat → Int → Int) → Prop} {S0 : Nat → Int → Int} {ws : List Int} (hP : rxPITD S0 ws) : bx_obE rxL X S0 rxCITD.2.2.1 (rxIITD S0 ws) (rxPSITD S0 ws) 2 rxzITD_2 rxeITD_2_5 := by
  intro S S_p r r_p hinv hX hin hsm_ hseg
  obtain ⟨I0, I1, h0_, hr_, b_, f_, d_⟩ := bx_cl (evs := [(0, (0, 21), (0, 1), .inr (0, (19, 0))), (0, (0, 6), (10, 0), .inr (0, (17, 0))), (0, (0, 6), (9, 0), .inr (0, (16, 0))), (0, (0, 7), (10, 0), .inr (0, (15, 0))), (0, (0, 7), (9, 0), .inr (0, (14, 0))), (0, (0, 5), (0, 0), .inr (0, (13, 0))), (0, (0, 21), (0, 2), .inr (0, (12, 0)))]) (fvs := [(0, (18, 0), (19, 0), (0, 0)), (5, (14, 0), (18, 0), (17, 0)), (1, (16, 0), (17, 0), (0, 0)), (0, (10, 0), (13, 0), (0, 0)), (0, (9, 0), (13, 0), (0, 0)), (1, (14, 0), (15, 0), (0, 0)), (0, (10, 0), (13, 0), (0, 0)), (0, (9, 0), (13, 0), (0, 0))]) hseg (by decide +kernel) (by decide +kernel)
  have hinv : rxIITD_2 S0 ws S (r 8) (r 9) (r 10) (r 11) := hinv
  rw [← hr_ 8 (by decide), ← hr_ 9 (by decide), ← hr_ 10 (by decide), ← hr_ 11 (by decide)] at hinv
  obtain ⟨⟨l8, u8⟩, ⟨l9, u9⟩, ⟨l10, u10⟩, ⟨l11, u11⟩, ⟨l12, u12⟩, ⟨l13, u13⟩, ⟨l14, u14⟩, ⟨l15, u15⟩, ⟨l16, u16⟩, ⟨l17, u17⟩, ⟨l18, u18⟩, ⟨l19, u19⟩, -⟩ := b_
  obtain ⟨f0, f1, f2, f3, f4, f5, f6, f7, -⟩ := f_
  obtain ⟨e0, ⟨e1, ⟨e2, ⟨e3, ⟨e4, ⟨e5, ⟨e6, w_⟩⟩⟩⟩⟩⟩⟩ := d_
  subst w_
  have g := rxdITD_2_5 hP hin hsm_ I0 I1 hinv l8 u8 l9 u9 l10 u10 l11 u11 l12 u12 l13 u13 l14 u14 l15 u15 l16 u16 l17 u17 l18 u18 l19 u19 f0 f1 f2 f3 f4 f5 f6 f7 e6 e5 e4 e3 e2 e1 e0
  refine ⟨bx_narP_ok (l := []) g.1, ?_⟩
  show rxPSITD S0 ws S_p (some (bx_num r_p (.inr (0, (0, 0)))))
  rw [bx_xv_ok h0_]
  exact g.2
theorem rxdITD_2_6 {S0 : Nat → Int → Int} {ws : List Int} {S : Nat → Int → Int} {pa ms pu yr x12 x13 x14 x15 x16 x17 x18 x19 : Int} (hP : rxPITD S0 ws) (hin : bx_same rxL (bx_mdl rxCITD.2.2.1) S0 S) (hin2 : bx_same rxL (bx_mdl rxCITD.2.2.1) S S) (I0 : bx_Inv rxL S) (I1 : bx_Inv rxL S) (hinv : rxIITD_2 S0 ws S pa ms pu yr) (l8 : 0 ≤ pa) (u8 : pa ≤ 5) (l9 : 0 ≤ ms) (u9 : ms ≤ 7) (l10 : 0 ≤ pu) (u10 : pu ≤ 7) (l11 : 0 ≤ yr) (u11 : yr ≤ 299) (l12 : 0 ≤ x12) (u12 : x12 ≤ 0) (l13 : 1 ≤ x13) (u13 : x13 ≤ 8) (l14 : 0 ≤ x14) (u14 : x14 ≤ 300) (l15 : 0 ≤ x15) (u15 : x15 ≤ 300) (l16 : 1 ≤ x16) (u16 : x16 ≤ 200) (l17 : 0 ≤ x17) (u17 : x17 ≤ 199) (l18 : 0 ≤ x18) (u18 : x18 ≤ 299) (l19 : 0 ≤ x19) (u19 : x19 ≤ 299) (f0 : x19 ≤ x18) (f1 : x14 = x18 + x16) (f2 : x17 < x16) (f3 : pu < x13) (f4 : ms < x13) (f5 : x14 ≤ x15) (f6 : pu < x13) (f7 : ms < x13) (e6 : S 21 2 = x12) (e5 : S 5 0 = x13) (e4 : S 7 ms = x14) (e3 : S 7 pu = x15) (e2 : S 6 ms = x16) (e1 : S 6 pu = x17) (e0 : S 21 1 = x19) : (True) ∧ rxPSITD S0 ws S (some 1) := by
  obtain ⟨hw, hz⟩ := hinv
  obtain ⟨pa9, ms9, pu9, yr9, hw2, hms, hpu, hdp⟩ := hP
  have w0_ : pa = pa9 := Option.some.inj (congrArg (fun l : List Int => l[1]?) (hw.symm.trans hw2))
  subst w0_
  have w1_ : ms = ms9 := Option.some.inj (congrArg (fun l : List Int => l[2]?) (hw.symm.trans hw2))
  subst w1_
  have w2_ : pu = pu9 := Option.some.inj (congrArg (fun l : List Int => l[3]?) (hw.symm.trans hw2))
  subst w2_
  have w3_ : yr = yr9 := Option.some.inj (congrArg (fun l : List Int => l[4]?) (hw.symm.trans hw2))
  subst w3_
  have q5 : S 5 0 = S0 5 0 := hin 5 0 (by decide) (by decide) (by decide +kernel)
  have q6 : ∀ j : Int, 0 ≤ j → j < 8 → S 6 j = S0 6 j := fun j a b => rx_sameR2 hin (tc := 0) (n := 8) (g := 3) rfl (by omega) (by decide +kernel) (by decide +kernel) a b
  have q7 : ∀ j : Int, 0 ≤ j → j < 8 → S 7 j = S0 7 j := fun j a b => rx_sameR2 hin (tc := 0) (n := 8) (g := 4) rfl (by omega) (by decide +kernel) (by decide +kernel) a b
  rw [q5] at e5
  rw [q7 _ (by omega) (by omega)] at e4 e3
  rw [q6 _ (by omega) (by omega)] at e2 e1
  have hy : rkYt S0 ms pu = x18 := by
    unfold rkYt
    rw [e4, e3, e2, e1]
    first | omega | (simp only [Int.min_def, Int.max_def]; split <;> split <;> omega)
  exact ⟨trivial, pa, ms, pu, yr, hw, Or.inl ⟨rfl, hd3 S, hz, show S 21 2 = 0 by omega, by rw [hy]; show S 21 1 ≤ x18; omega⟩⟩
theorem rxfITD_2_6 {X : (Nat → Int → Int) → Prop} {S0 : Nat → Int → Int} {ws : List Int} (hP : rxPITD S0 ws) : bx_obE rxL X S0 rxCITD.2.2.1 (rxIITD S0 ws) (rxPSITD S0 ws) 2 rxzITD_2 rxeITD_2_6 := by
  intro S S_p r r_p hinv hX hin hsm_ hseg
  obtain ⟨I0, I1, h0_, hr_, b_, f_, d_⟩ := bx_cl (evs := [(0, (0, 21), (0, 1), .inr (0, (19, 0))), (0, (0, 6), (10, 0), .inr (0, (17, 0))), (0, (0, 6), (9, 0), .inr (0, (16, 0))), (0, (0, 7), (10, 0), .inr (0, (15, 0))), (0, (0, 7), (9, 0), .inr (0, (14, 0))), (0, (0, 5), (0, 0), .inr (0, (13, 0))), (0, (0, 21), (0, 2), .inr (0, (12, 0)))]) (fvs := [(1, (19, 0), (18, 0), (0, 0)), (5, (14, 0), (18, 0), (16, 0)), (0, (17, 0), (16, 0), (0, 0)), (0, (10, 0), (13, 0), (0, 0)), (0, (9, 0), (13, 0), (0, 0)), (1, (14, 0), (15, 0), (0, 0)), (0, (10, 0), (13, 0), (0, 0)), (0, (9, 0), (13, 0), (0, 0))]) hseg (by decide +kernel) (by decide +kernel)
  have hinv : rxIITD_2 S0 ws S (r 8) (r 9) (r 10) (r 11) := hinv
  rw [← hr_ 8 (by decide), ← hr_ 9 (by decide), ← hr_ 10 (by decide), ← hr_ 11 (by decide)] at hinv
  obtain ⟨⟨l8, u8⟩, ⟨l9, u9⟩, ⟨l10, u10⟩, ⟨l11, u11⟩, ⟨l12, u12⟩, ⟨l13, u13⟩, ⟨l14, u14⟩, ⟨l15, u15⟩, ⟨l16, u16⟩, ⟨l17, u17⟩, ⟨l18, u18⟩, ⟨l19, u19⟩, -⟩ := b_
  obtain ⟨f0, f1, f2, f3, f4, f5, f6, f7, -⟩ := f_
  obtain ⟨e0, ⟨e1, ⟨e2, ⟨e3, ⟨e4, ⟨e5, ⟨e6, w_⟩⟩⟩⟩⟩⟩⟩ := d_
  subst w_
  have g := rxdITD_2_6 hP hin hsm_ I0 I1 hinv l8 u8 l9 u9 l10 u10 l11 u11 l12 u12 l13 u13 l14 u14 l15 u15 l16 u16 l17 u17 l18 u18 l19 u19 f0 f1 f2 f3 f4 f5 f6 f7 e6 e5 e4 e3 e2 e1 e0
  refine ⟨bx_narP_ok (l := []) g.1, ?_⟩
  show rxPSITD S0 ws S_p (some (bx_num r_p (.inr (0, (0, 1)))))
  rw [bx_xv_ok h0_]
  exact g.2
theorem rxdITD_2_7 {S0 : Nat → Int → Int} {ws : List Int} {S : Nat → Int → Int} {pa ms pu yr x12 x13 x14 x15 x16 x17 x18 x19 : Int} (hP : rxPITD S0 ws) (hin : bx_same rxL (bx_mdl rxCITD.2.2.1) S0 S) (hin2 : bx_same rxL (bx_mdl rxCITD.2.2.1) S S) (I0 : bx_Inv rxL S) (I1 : bx_Inv rxL S) (hinv : rxIITD_2 S0 ws S pa ms pu yr) (l8 : 0 ≤ pa) (u8 : pa ≤ 5) (l9 : 0 ≤ ms) (u9 : ms ≤ 7) (l10 : 0 ≤ pu) (u10 : pu ≤ 7) (l11 : 0 ≤ yr) (u11 : yr ≤ 299) (l12 : 0 ≤ x12) (u12 : x12 ≤ 0) (l13 : 1 ≤ x13) (u13 : x13 ≤ 8) (l14 : 0 ≤ x14) (u14 : x14 ≤ 300) (l15 : 0 ≤ x15) (u15 : x15 ≤ 300) (l16 : 1 ≤ x16) (u16 : x16 ≤ 200) (l17 : 0 ≤ x17) (u17 : x17 ≤ 199) (l18 : (-200) ≤ x18) (u18 : x18 ≤ 299) (l19 : 0 ≤ x19) (u19 : x19 ≤ 300) (f0 : x18 < x19) (f1 : x14 = x18 + x16) (f2 : x17 < x16) (f3 : pu < x13) (f4 : ms < x13) (f5 : x14 ≤ x15) (f6 : pu < x13) (f7 : ms < x13) (e6 : S 21 2 = x12) (e5 : S 5 0 = x13) (e4 : S 7 ms = x14) (e3 : S 7 pu = x15) (e2 : S 6 ms = x16) (e1 : S 6 pu = x17) (e0 : S 21 1 = x19) : (True) ∧ rxPSITD S0 ws S (some 0) := by
  obtain ⟨hw, hz⟩ := hinv
  obtain ⟨pa9, ms9, pu9, yr9, hw2, hms, hpu, hdp⟩ := hP
  have w0_ : pa = pa9 := Option.some.inj (congrArg (fun l : List Int => l[1]?) (hw.symm.trans hw2))
  subst w0_
  have w1_ : ms = ms9 := Option.some.inj (congrArg (fun l : List Int => l[2]?) (hw.symm.trans hw2))
  subst w1_
  have w2_ : pu = pu9 := Option.some.inj (congrArg (fun l : List Int => l[3]?) (hw.symm.trans hw2))
  subst w2_
  have w3_ : yr = yr9 := Option.some.inj (congrArg (fun l : List Int => l[4]?) (hw.symm.trans hw2))
  subst w3_
  have q5 : S 5 0 = S0 5 0 := hin 5 0 (by decide) (by decide) (by decide +kernel)
  have q6 : ∀ j : Int, 0 ≤ j → j < 8 → S 6 j = S0 6 j := fun j a b => rx_sameR2 hin (tc := 0) (n := 8) (g := 3) rfl (by omega) (by decide +kernel) (by decide +kernel) a b
  have q7 : ∀ j : Int, 0 ≤ j → j < 8 → S 7 j = S0 7 j := fun j a b => rx_sameR2 hin (tc := 0) (n := 8) (g := 4) rfl (by omega) (by decide +kernel) (by decide +kernel) a b
  rw [q5] at e5
  rw [q7 _ (by omega) (by omega)] at e4 e3
  rw [q6 _ (by omega) (by omega)] at e2 e1
  have hy : rkYt S0 ms pu = x18 := by
    unfold rkYt
    rw [e4, e3, e2, e1]
    first | omega | (simp only [Int.min_def, Int.max_def]; split <;> split <;> omega)
  exact ⟨trivial, pa, ms, pu, yr, hw, Or.inr ⟨rfl, hd3 S, hz, fun c => by have c2 : S 21 1 ≤ rkYt S0 ms pu := c.2; omega⟩⟩
theorem rxfITD_2_7 {X : (Nat → Int → Int) → Prop} {S0 : Nat → Int → Int} {ws : List Int} (hP : rxPITD S0 ws) : bx_obE rxL X S0 rxCITD.2.2.1 (rxIITD S0 ws) (rxPSITD S0 ws) 2 rxzITD_2 rxeITD_2_7 := by
  intro S S_p r r_p hinv hX hin hsm_ hseg
  obtain ⟨I0, I1, h0_, hr_, b_, f_, d_⟩ := bx_cl (evs := [(0, (0, 21), (0, 1), .inr (0, (19, 0))), (0, (0, 6), (10, 0), .inr (0, (17, 0))), (0, (0, 6), (9, 0), .inr (0, (16, 0))), (0, (0, 7), (10, 0), .inr (0, (15, 0))), (0, (0, 7), (9, 0), .inr (0, (14, 0))), (0, (0, 5), (0, 0), .inr (0, (13, 0))), (0, (0, 21), (0, 2), .inr (0, (12, 0)))]) (fvs := [(0, (18, 0), (19, 0), (0, 0)), (5, (14, 0), (18, 0), (16, 0)), (0, (17, 0), (16, 0), (0, 0)), (0, (10, 0), (13, 0), (0, 0)), (0, (9, 0), (13, 0), (0, 0)), (1, (14, 0), (15, 0), (0, 0)), (0, (10, 0), (13, 0), (0, 0)), (0, (9, 0), (13, 0), (0, 0))]) hseg (by decide +kernel) (by decide +kernel)
  have hinv : rxIITD_2 S0 ws S (r 8) (r 9) (r 10) (r 11) := hinv
  rw [← hr_ 8 (by decide), ← hr_ 9 (by decide), ← hr_ 10 (by decide), ← hr_ 11 (by decide)] at hinv
  obtain ⟨⟨l8, u8⟩, ⟨l9, u9⟩, ⟨l10, u10⟩, ⟨l11, u11⟩, ⟨l12, u12⟩, ⟨l13, u13⟩, ⟨l14, u14⟩, ⟨l15, u15⟩, ⟨l16, u16⟩, ⟨l17, u17⟩, ⟨l18, u18⟩, ⟨l19, u19⟩, -⟩ := b_
  obtain ⟨f0, f1, f2, f3, f4, f5, f6, f7, -⟩ := f_
  obtain ⟨e0, ⟨e1, ⟨e2, ⟨e3, ⟨e4, ⟨e5, ⟨e6, w_⟩⟩⟩⟩⟩⟩⟩ := d_
  subst w_
  have g := rxdITD_2_7 hP hin hsm_ I0 I1 hinv l8 u8 l9 u9 l10 u10 l11 u11 l12 u12 l13 u13 l14 u14 l15 u15 l16 u16 l17 u17 l18 u18 l19 u19 f0 f1 f2 f3 f4 f5 f6 f7 e6 e5 e4 e3 e2 e1 e0
  refine ⟨bx_narP_ok (l := []) g.1, ?_⟩
  show rxPSITD S0 ws S_p (some (bx_num r_p (.inr (0, (0, 0)))))
  rw [bx_xv_ok h0_]
  exact g.2
theorem rxdITD_2_8 {S0 : Nat → Int → Int} {ws : List Int} {S : Nat → Int → Int} {pa ms pu yr x12 x13 x14 : Int} (hP : rxPITD S0 ws) (hin : bx_same rxL (bx_mdl rxCITD.2.2.1) S0 S) (hin2 : bx_same rxL (bx_mdl rxCITD.2.2.1) S S) (I0 : bx_Inv rxL S) (I1 : bx_Inv rxL S) (hinv : rxIITD_2 S0 ws S pa ms pu yr) (l8 : 0 ≤ pa) (u8 : pa ≤ 5) (l9 : 0 ≤ ms) (u9 : ms ≤ 6) (l10 : 1 ≤ pu) (u10 : pu ≤ 7) (l11 : 0 ≤ yr) (u11 : yr ≤ 299) (l12 : 0 ≤ x12) (u12 : x12 ≤ 0) (l13 : 1 ≤ x13) (u13 : x13 ≤ 7) (l14 : 0 ≤ x14) (u14 : x14 ≤ 0) (f0 : x13 ≤ pu) (f1 : ms < x13) (e2 : S 21 2 = x12) (e1 : S 5 0 = x13) (e0 : S 21 1 = x14) : (True) ∧ rxPSITD S0 ws S (some 1) := by
  obtain ⟨hw, hz⟩ := hinv
  obtain ⟨pa9, ms9, pu9, yr9, hw2, hms, hpu, hdp⟩ := hP
  have w0_ : pa = pa9 := Option.some.inj (congrArg (fun l : List Int => l[1]?) (hw.symm.trans hw2))
  subst w0_
  have w1_ : ms = ms9 := Option.some.inj (congrArg (fun l : List Int => l[2]?) (hw.symm.trans hw2))
  subst w1_
  have w2_ : pu = pu9 := Option.some.inj (congrArg (fun l : List Int => l[3]?) (hw.symm.trans hw2))
  subst w2_
  have w3_ : yr = yr9 := Option.some.inj (congrArg (fun l : List Int => l[4]?) (hw.symm.trans hw2))
  subst w3_
  have q5 : S 5 0 = S0 5 0 := hin 5 0 (by decide) (by decide) (by decide +kernel)
  have q6 : ∀ j : Int, 0 ≤ j → j < 8 → S 6 j = S0 6 j := fun j a b => rx_sameR2 hin (tc := 0) (n := 8) (g := 3) rfl (by omega) (by decide +kernel) (by decide +kernel) a b
  have q7 : ∀ j : Int, 0 ≤ j → j < 8 → S 7 j = S0 7 j := fun j a b => rx_sameR2 hin (tc := 0) (n := 8) (g := 4) rfl (by omega) (by decide +kernel) (by decide +kernel) a b
  exfalso
  omega
theorem rxfITD_2_8 {X : (Nat → Int → Int) → Prop} {S0 : Nat → Int → Int} {ws : List Int} (hP : rxPITD S0 ws) : bx_obE rxL X S0 rxCITD.2.2.1 (rxIITD S0 ws) (rxPSITD S0 ws) 2 rxzITD_2 rxeITD_2_8 := by
  intro S S_p r r_p hinv hX hin hsm_ hseg
  obtain ⟨I0, I1, h0_, hr_, b_, f_, d_⟩ := bx_cl (evs := [(0, (0, 21), (0, 1), .inr (0, (14, 0))), (0, (0, 5), (0, 0), .inr (0, (13, 0))), (0, (0, 21), (0, 2), .inr (0, (12, 0)))]) (fvs := [(1, (13, 0), (10, 0), (0, 0)), (0, (9, 0), (13, 0), (0, 0))]) hseg (by decide +kernel) (by decide +kernel)
  have hinv : rxIITD_2 S0 ws S (r 8) (r 9) (r 10) (r 11) := hinv
  rw [← hr_ 8 (by decide), ← hr_ 9 (by decide), ← hr_ 10 (by decide), ← hr_ 11 (by decide)] at hinv
  obtain ⟨⟨l8, u8⟩, ⟨l9, u9⟩, ⟨l10, u10⟩, ⟨l11, u11⟩, ⟨l12, u12⟩, ⟨l13, u13⟩, ⟨l14, u14⟩, -⟩ := b_
  obtain ⟨f0, f1, -⟩ := f_
  obtain ⟨e0, ⟨e1, ⟨e2, w_⟩⟩⟩ := d_
  subst w_
  have g := rxdITD_2_8 hP hin hsm_ I0 I1 hinv l8 u8 l9 u9 l10 u10 l11 u11 l12 u12 l13 u13 l14 u14 f0 f1 e2 e1 e0
  refine ⟨bx_narP_ok (l := []) g.1, ?_⟩
  show rxPSITD S0 ws S_p (some (bx_num r_p (.inr (0, (0, 1)))))
  rw [bx_xv_ok h0_]
  exact g.2
theorem rxdITD_2_9 {S0 : Nat → Int → Int} {ws : List Int} {S : Nat → Int → Int} {pa ms pu yr x12 x13 x14 : Int} (hP : rxPITD S0 ws) (hin : bx_same rxL (bx_mdl rxCITD.2.2.1) S0 S) (hin2 : bx_same rxL (bx_mdl rxCITD.2.2.1) S S) (I0 : bx_Inv rxL S) (I1 : bx_Inv rxL S) (hinv : rxIITD_2 S0 ws S pa ms pu yr) (l8 : 0 ≤ pa) (u8 : pa ≤ 5) (l9 : 0 ≤ ms) (u9 : ms ≤ 6) (l10 : 1 ≤ pu) (u10 : pu ≤ 7) (l11 : 0 ≤ yr) (u11 : yr ≤ 299) (l12 : 0 ≤ x12) (u12 : x12 ≤ 0) (l13 : 1 ≤ x13) (u13 : x13 ≤ 7) (l14 : 1 ≤ x14) (u14 : x14 ≤ 300) (f0 : x13 ≤ pu) (f1 : ms < x13) (e2 : S 21 2 = x12) (e1 : S 5 0 = x13) (e0 : S 21 1 = x14) : (True) ∧ rxPSITD S0 ws S (some 0) := by
  obtain ⟨hw, hz⟩ := hinv
  obtain ⟨pa9, ms9, pu9, yr9, hw2, hms, hpu, hdp⟩ := hP
  have w0_ : pa = pa9 := Option.some.inj (congrArg (fun l : List Int => l[1]?) (hw.symm.trans hw2))
  subst w0_
  have w1_ : ms = ms9 := Option.some.inj (congrArg (fun l : List Int => l[2]?) (hw.symm.trans hw2))
  subst w1_
  have w2_ : pu = pu9 := Option.some.inj (congrArg (fun l : List Int => l[3]?) (hw.symm.trans hw2))
  subst w2_
  have w3_ : yr = yr9 := Option.some.inj (congrArg (fun l : List Int => l[4]?) (hw.symm.trans hw2))
  subst w3_
  have q5 : S 5 0 = S0 5 0 := hin 5 0 (by decide) (by decide) (by decide +kernel)
  have q6 : ∀ j : Int, 0 ≤ j → j < 8 → S 6 j = S0 6 j := fun j a b => rx_sameR2 hin (tc := 0) (n := 8) (g := 3) rfl (by omega) (by decide +kernel) (by decide +kernel) a b
  have q7 : ∀ j : Int, 0 ≤ j → j < 8 → S 7 j = S0 7 j := fun j a b => rx_sameR2 hin (tc := 0) (n := 8) (g := 4) rfl (by omega) (by decide +kernel) (by decide +kernel) a b
  exfalso
  omega
theorem rxfITD_2_9 {X : (Nat → Int → Int) → Prop} {S0 : Nat → Int → Int} {ws : List Int} (hP : rxPITD S0 ws) : bx_obE rxL X S0 rxCITD.2.2.1 (rxIITD S0 ws) (rxPSITD S0 ws) 2 rxzITD_2 rxeITD_2_9 := by
  intro S S_p r r_p hinv hX hin hsm_ hseg
  obtain ⟨I0, I1, h0_, hr_, b_, f_, d_⟩ := bx_cl (evs := [(0, (0, 21), (0, 1), .inr (0, (14, 0))), (0, (0, 5), (0, 0), .inr (0, (13, 0))), (0, (0, 21), (0, 2), .inr (0, (12, 0)))]) (fvs := [(1, (13, 0), (10, 0), (0, 0)), (0, (9, 0), (13, 0), (0, 0))]) hseg (by decide +kernel) (by decide +kernel)
  have hinv : rxIITD_2 S0 ws S (r 8) (r 9) (r 10) (r 11) := hinv
  rw [← hr_ 8 (by decide), ← hr_ 9 (by decide), ← hr_ 10 (by decide), ← hr_ 11 (by decide)] at hinv
  obtain ⟨⟨l8, u8⟩, ⟨l9, u9⟩, ⟨l10, u10⟩, ⟨l11, u11⟩, ⟨l12, u12⟩, ⟨l13, u13⟩, ⟨l14, u14⟩, -⟩ := b_
  obtain ⟨f0, f1, -⟩ := f_
  obtain ⟨e0, ⟨e1, ⟨e2, w_⟩⟩⟩ := d_
  subst w_
  have g := rxdITD_2_9 hP hin hsm_ I0 I1 hinv l8 u8 l9 u9 l10 u10 l11 u11 l12 u12 l13 u13 l14 u14 f0 f1 e2 e1 e0
  refine ⟨bx_narP_ok (l := []) g.1, ?_⟩
  show rxPSITD S0 ws S_p (some (bx_num r_p (.inr (0, (0, 0)))))
  rw [bx_xv_ok h0_]
  exact g.2
theorem rxdITD_2_10 {S0 : Nat → Int → Int} {ws : List Int} {S : Nat → Int → Int} {pa ms pu yr x12 x13 x14 : Int} (hP : rxPITD S0 ws) (hin : bx_same rxL (bx_mdl rxCITD.2.2.1) S0 S) (hin2 : bx_same rxL (bx_mdl rxCITD.2.2.1) S S) (I0 : bx_Inv rxL S) (I1 : bx_Inv rxL S) (hinv : rxIITD_2 S0 ws S pa ms pu yr) (l8 : 0 ≤ pa) (u8 : pa ≤ 5) (l9 : 0 ≤ ms) (u9 : ms ≤ 7) (l10 : 0 ≤ pu) (u10 : pu ≤ 7) (l11 : 0 ≤ yr) (u11 : yr ≤ 299) (l12 : 0 ≤ x12) (u12 : x12 ≤ 0) (l13 : 0 ≤ x13) (u13 : x13 ≤ 7) (l14 : 0 ≤ x14) (u14 : x14 ≤ 0) (f0 : x13 ≤ ms) (e2 : S 21 2 = x12) (e1 : S 5 0 = x13) (e0 : S 21 1 = x14) : (True) ∧ rxPSITD S0 ws S (some 1) := by
  obtain ⟨hw, hz⟩ := hinv
  obtain ⟨pa9, ms9, pu9, yr9, hw2, hms, hpu, hdp⟩ := hP
  have w0_ : pa = pa9 := Option.some.inj (congrArg (fun l : List Int => l[1]?) (hw.symm.trans hw2))
  subst w0_
  have w1_ : ms = ms9 := Option.some.inj (congrArg (fun l : List Int => l[2]?) (hw.symm.trans hw2))
  subst w1_
  have w2_ : pu = pu9 := Option.some.inj (congrArg (fun l : List Int => l[3]?) (hw.symm.trans hw2))
  subst w2_
  have w3_ : yr = yr9 := Option.some.inj (congrArg (fun l : List Int => l[4]?) (hw.symm.trans hw2))
  subst w3_
  have q5 : S 5 0 = S0 5 0 := hin 5 0 (by decide) (by decide) (by decide +kernel)
  have q6 : ∀ j : Int, 0 ≤ j → j < 8 → S 6 j = S0 6 j := fun j a b => rx_sameR2 hin (tc := 0) (n := 8) (g := 3) rfl (by omega) (by decide +kernel) (by decide +kernel) a b
  have q7 : ∀ j : Int, 0 ≤ j → j < 8 → S 7 j = S0 7 j := fun j a b => rx_sameR2 hin (tc := 0) (n := 8) (g := 4) rfl (by omega) (by decide +kernel) (by decide +kernel) a b
  exfalso
  omega
theorem rxfITD_2_10 {X : (Nat → Int → Int) → Prop} {S0 : Nat → Int → Int} {ws : List Int} (hP : rxPITD S0 ws) : bx_obE rxL X S0 rxCITD.2.2.1 (rxIITD S0 ws) (rxPSITD S0 ws) 2 rxzITD_2 rxeITD_2_10 := by
  intro S S_p r r_p hinv hX hin hsm_ hseg
  obtain ⟨I0, I1, h0_, hr_, b_, f_, d_⟩ := bx_cl (evs := [(0, (0, 21), (0, 1), .inr (0, (14, 0))), (0, (0, 5), (0, 0), .inr (0, (13, 0))), (0, (0, 21), (0, 2), .inr (0, (12, 0)))]) (fvs := [(1, (13, 0), (9, 0), (0, 0))]) hseg (by decide +kernel) (by decide +kernel)
  have hinv : rxIITD_2 S0 ws S (r 8) (r 9) (r 10) (r 11) := hinv
  rw [← hr_ 8 (by decide), ← hr_ 9 (by decide), ← hr_ 10 (by decide), ← hr_ 11 (by decide)] at hinv
  obtain ⟨⟨l8, u8⟩, ⟨l9, u9⟩, ⟨l10, u10⟩, ⟨l11, u11⟩, ⟨l12, u12⟩, ⟨l13, u13⟩, ⟨l14, u14⟩, -⟩ := b_
  obtain ⟨f0, -⟩ := f_
  obtain ⟨e0, ⟨e1, ⟨e2, w_⟩⟩⟩ := d_
  subst w_
  have g := rxdITD_2_10 hP hin hsm_ I0 I1 hinv l8 u8 l9 u9 l10 u10 l11 u11 l12 u12 l13 u13 l14 u14 f0 e2 e1 e0
  refine ⟨bx_narP_ok (l := []) g.1, ?_⟩
  show rxPSITD S0 ws S_p (some (bx_num r_p (.inr (0, (0, 1)))))
  rw [bx_xv_ok h0_]
  exact g.2
theorem rxdITD_2_11 {S0 : Nat → Int → Int} {ws : List Int} {S : Nat → Int → Int} {pa ms pu yr x12 x13 x14 : Int} (hP : rxPITD S0 ws) (hin : bx_same rxL (bx_mdl rxCITD.2.2.1) S0 S) (hin2 : bx_same rxL (bx_mdl rxCITD.2.2.1) S S) (I0 : bx_Inv rxL S) (I1 : bx_Inv rxL S) (hinv : rxIITD_2 S0 ws S pa ms pu yr) (l8 : 0 ≤ pa) (u8 : pa ≤ 5) (l9 : 0 ≤ ms) (u9 : ms ≤ 7) (l10 : 0 ≤ pu) (u10 : pu ≤ 7) (l11 : 0 ≤ yr) (u11 : yr ≤ 299) (l12 : 0 ≤ x12) (u12 : x12 ≤ 0) (l13 : 0 ≤ x13) (u13 : x13 ≤ 7) (l14 : 1 ≤ x14) (u14 : x14 ≤ 300) (f0 : x13 ≤ ms) (e2 : S 21 2 = x12) (e1 : S 5 0 = x13) (e0 : S 21 1 = x14) : (True) ∧ rxPSITD S0 ws S (some 0) := by
  obtain ⟨hw, hz⟩ := hinv
  obtain ⟨pa9, ms9, pu9, yr9, hw2, hms, hpu, hdp⟩ := hP
  have w0_ : pa = pa9 := Option.some.inj (congrArg (fun l : List Int => l[1]?) (hw.symm.trans hw2))
  subst w0_
  have w1_ : ms = ms9 := Option.some.inj (congrArg (fun l : List Int => l[2]?) (hw.symm.trans hw2))
  subst w1_
  have w2_ : pu = pu9 := Option.some.inj (congrArg (fun l : List Int => l[3]?) (hw.symm.trans hw2))
  subst w2_
  have w3_ : yr = yr9 := Option.some.inj (congrArg (fun l : List Int => l[4]?) (hw.symm.trans hw2))
  subst w3_
  have q5 : S 5 0 = S0 5 0 := hin 5 0 (by decide) (by decide) (by decide +kernel)
  have q6 : ∀ j : Int, 0 ≤ j → j < 8 → S 6 j = S0 6 j := fun j a b => rx_sameR2 hin (tc := 0) (n := 8) (g := 3) rfl (by omega) (by decide +kernel) (by decide +kernel) a b
  have q7 : ∀ j : Int, 0 ≤ j → j < 8 → S 7 j = S0 7 j := fun j a b => rx_sameR2 hin (tc := 0) (n := 8) (g := 4) rfl (by omega) (by decide +kernel) (by decide +kernel) a b
  exfalso
  omega
theorem rxfITD_2_11 {X : (Nat → Int → Int) → Prop} {S0 : Nat → Int → Int} {ws : List Int} (hP : rxPITD S0 ws) : bx_obE rxL X S0 rxCITD.2.2.1 (rxIITD S0 ws) (rxPSITD S0 ws) 2 rxzITD_2 rxeITD_2_11 := by
  intro S S_p r r_p hinv hX hin hsm_ hseg
  obtain ⟨I0, I1, h0_, hr_, b_, f_, d_⟩ := bx_cl (evs := [(0, (0, 21), (0, 1), .inr (0, (14, 0))), (0, (0, 5), (0, 0), .inr (0, (13, 0))), (0, (0, 21), (0, 2), .inr (0, (12, 0)))]) (fvs := [(1, (13, 0), (9, 0), (0, 0))]) hseg (by decide +kernel) (by decide +kernel)
  have hinv : rxIITD_2 S0 ws S (r 8) (r 9) (r 10) (r 11) := hinv
  rw [← hr_ 8 (by decide), ← hr_ 9 (by decide), ← hr_ 10 (by decide), ← hr_ 11 (by decide)] at hinv
  obtain ⟨⟨l8, u8⟩, ⟨l9, u9⟩, ⟨l10, u10⟩, ⟨l11, u11⟩, ⟨l12, u12⟩, ⟨l13, u13⟩, ⟨l14, u14⟩, -⟩ := b_
  obtain ⟨f0, -⟩ := f_
  obtain ⟨e0, ⟨e1, ⟨e2, w_⟩⟩⟩ := d_
  subst w_
  have g := rxdITD_2_11 hP hin hsm_ I0 I1 hinv l8 u8 l9 u9 l10 u10 l11 u11 l12 u12 l13 u13 l14 u14 f0 e2 e1 e0
  refine ⟨bx_narP_ok (l := []) g.1, ?_⟩
  show rxPSITD S0 ws S_p (some (bx_num r_p (.inr (0, (0, 0)))))
  rw [bx_xv_ok h0_]
  exact g.2
theorem rxdITD_2_12 {S0 : Nat → Int → Int} {ws : List Int} {S : Nat → Int → Int} {pa ms pu yr x12 : Int} (hP : rxPITD S0 ws) (hin : bx_same rxL (bx_mdl rxCITD.2.2.1) S0 S) (hin2 : bx_same rxL (bx_mdl rxCITD.2.2.1) S S) (I0 : bx_Inv rxL S) (I1 : bx_Inv rxL S) (hinv : rxIITD_2 S0 ws S pa ms pu yr) (l8 : 0 ≤ pa) (u8 : pa ≤ 5) (l9 : 0 ≤ ms) (u9 : ms ≤ 7) (l10 : 0 ≤ pu) (u10 : pu ≤ 7) (l11 : 0 ≤ yr) (u11 : yr ≤ 299) (l12 : 1 ≤ x12) (u12 : x12 ≤ 300) (f0 : x12 ≠ 0) (e0 : S 21 2 = x12) : (True) ∧ rxPSITD S0 ws S (some 0) := by
  obtain ⟨hw, hz⟩ := hinv
  obtain ⟨pa9, ms9, pu9, yr9, hw2, hms, hpu, hdp⟩ := hP
  have w0_ : pa = pa9 := Option.some.inj (congrArg (fun l : List Int => l[1]?) (hw.symm.trans hw2))
  subst w0_
  have w1_ : ms = ms9 := Option.some.inj (congrArg (fun l : List Int => l[2]?) (hw.symm.trans hw2))
  subst w1_
  have w2_ : pu = pu9 := Option.some.inj (congrArg (fun l : List Int => l[3]?) (hw.symm.trans hw2))
  subst w2_
  have w3_ : yr = yr9 := Option.some.inj (congrArg (fun l : List Int => l[4]?) (hw.symm.trans hw2))
  subst w3_
  have q5 : S 5 0 = S0 5 0 := hin 5 0 (by decide) (by decide) (by decide +kernel)
  have q6 : ∀ j : Int, 0 ≤ j → j < 8 → S 6 j = S0 6 j := fun j a b => rx_sameR2 hin (tc := 0) (n := 8) (g := 3) rfl (by omega) (by decide +kernel) (by decide +kernel) a b
  have q7 : ∀ j : Int, 0 ≤ j → j < 8 → S 7 j = S0 7 j := fun j a b => rx_sameR2 hin (tc := 0) (n := 8) (g := 4) rfl (by omega) (by decide +kernel) (by decide +kernel) a b
  exact ⟨trivial, pa, ms, pu, yr, hw, Or.inr ⟨rfl, hd3 S, hz, fun c => by have c1 : S 21 2 = 0 := c.1; omega⟩⟩
theorem rxfITD_2_12 {X : (Nat → Int → Int) → Prop} {S0 : Nat → Int → Int} {ws : List Int} (hP : rxPITD S0 ws) : bx_obE rxL X S0 rxCITD.2.2.1 (rxIITD S0 ws) (rxPSITD S0 ws) 2 rxzITD_2 rxeITD_2_12 := by
  intro S S_p r r_p hinv hX hin hsm_ hseg
  obtain ⟨I0, I1, h0_, hr_, b_, f_, d_⟩ := bx_cl (evs := [(0, (0, 21), (0, 2), .inr (0, (12, 0)))]) (fvs := [(3, (12, 0), (0, 0), (0, 0))]) hseg (by decide +kernel) (by decide +kernel)
  have hinv : rxIITD_2 S0 ws S (r 8) (r 9) (r 10) (r 11) := hinv
  rw [← hr_ 8 (by decide), ← hr_ 9 (by decide), ← hr_ 10 (by decide), ← hr_ 11 (by decide)] at hinv
  obtain ⟨⟨l8, u8⟩, ⟨l9, u9⟩, ⟨l10, u10⟩, ⟨l11, u11⟩, ⟨l12, u12⟩, -⟩ := b_
  obtain ⟨f0, -⟩ := f_
  obtain ⟨e0, w_⟩ := d_
  subst w_
  have g := rxdITD_2_12 hP hin hsm_ I0 I1 hinv l8 u8 l9 u9 l10 u10 l11 u11 l12 u12 f0 e0
  refine ⟨bx_narP_ok (l := []) g.1, ?_⟩
  show rxPSITD S0 ws S_p (some (bx_num r_p (.inr (0, (0, 0)))))
  rw [bx_xv_ok h0_]
  exact g.2
theorem rxgCITD {X : (Nat → Int → Int) → Prop} {S0 : Nat → Int → Int} {ws : List Int} (hP : rxPITD S0 ws) : bx_allI (fun i q => rxUITD q = true ∨ bx_allP (fun o => bx_obC rxL X S0 rxCITD.2.2.1 (rxIITD S0 ws) (rxmITD S0 ws) i q.1 o) q.2.1) 0 rxYITD := ⟨Or.inr ⟨rxgITD_0_0 hP, trivial⟩, Or.inl rfl, Or.inr trivial, trivial⟩
theorem rxgEITD {X : (Nat → Int → Int) → Prop} {S0 : Nat → Int → Int} {ws : List Int} (hP : rxPITD S0 ws) : bx_allI (fun i q => rxUITD q = true ∨ bx_allP (fun E => bx_obE rxL X S0 rxCITD.2.2.1 (rxIITD S0 ws) (rxPSITD S0 ws) i q.1 E) q.2.2) 0 rxYITD := ⟨Or.inr trivial, Or.inl rfl, Or.inr ⟨rxfITD_2_0 hP, rxfITD_2_1 hP, rxfITD_2_2 hP, rxfITD_2_3 hP, rxfITD_2_4 hP, rxfITD_2_5 hP, rxfITD_2_6 hP, rxfITD_2_7 hP, rxfITD_2_8 hP, rxfITD_2_9 hP, rxfITD_2_10 hP, rxfITD_2_11 hP, rxfITD_2_12 hP, trivial⟩, trivial⟩
theorem rxuITD {PX : State → Prop} {Dg : va_G} {A : Nat → Prop} {ad xa : Nat → Nat} {l : Launch} {X : (Nat → Int → Int) → Prop} (hPX : rx_PXOK rxNW A PX) (hX : ∀ S S1 : Nat → Int → Int, X S → bx_same rxL (bx_mdl rxCITD.2.2.1) S S1 → X S1) (hQHED : bx_ConP rxG rxNW rxAO PX Dg rxL X vwCl A ad l rxM98 rxCHED rxPHED rxPSHED) {S0 : Nat → Int → Int} {ws : List Int} (hP : rxPITD S0 ws) : ∀ (i : Nat) (q : bx_HE), rxYITD[i]? = some q → rxUITD q = true → ∀ {p : Program} {e : Env} {R : Room} {s : State} {m : MethodId} {args : Array Value} {below : List Frame} {meth : Method} {c : Code} {Q : State → Prop} {H0 : Heap}, rx_Fr rxG rxNW rxAO PX p s m args meth c rxM35 → (∀ q, H0.size ≤ q → A q) → H0 = s.heap → rxM35.2.2.2.2.2.2.1 ≤ R.cells → rxM35.2.2.2.2.2.2.2 ≤ R.slots → rxCITD.2.2.2.1 ≤ R.frames → rxCITD.2.2.2.1 * 40 ≤ R.locals → bx_Step p l e R s m args below meth c Q Dg rxL X vwCl A xa H0 ad rxM35 rxYITD (rxIITD S0 ws) (rxmITD S0 ws) S0 rxCITD.2.2.1 i q := by
  intro i q hq hus p e R s m args below meth c Q H0 hF hA hH0 hmc hms hd hdl
  match i, hq with
  | 0, hq =>
    cases hq
    exact absurd (show false = true from hus) Bool.false_ne_true
  | 1, hq =>
    cases hq
    exact rx_stepC (ins := .invokevirtual 115) (len := 3) (i_p := 2) (M_p := rxM98) (d := rxCITD.2.2.2.1) (as := [.inr (3, (0, 1)), .inr (0, (10, 0)), .inr (0, (8, 0)), .inr (0, (9, 0)), .inr (0, (11, 0))]) (t := []) (ct := rxCHED) hPX hF rfl hA hH0 hmc hms hd hdl (by decide +kernel) rfl rfl (by decide +kernel) (by decide +kernel) hQHED (by decide +kernel) rfl (Or.inl ⟨rfl, rfl, rfl⟩) (rxsITD_1 hP)
  | 2, hq =>
    cases hq
    exact absurd (show false = true from hus) Bool.false_ne_true
  | n + 3, hq => cases hq
theorem rxQITD {PX : State → Prop} {Dg : va_G} {A : Nat → Prop} {ad xa : Nat → Nat} {l : Launch} {X : (Nat → Int → Int) → Prop} (hPX : rx_PXOK rxNW A PX) (hsl : ∀ s : State, PX s → ∀ o idx n : Nat, rxSl o idx = some n → ∃ tx : String, vk_R (rxNm o) idx tx (ad n) s)
    (hX : ∀ S S_p : Nat → Int → Int, X S → bx_same rxL (bx_mdl rxCITD.2.2.1) S S_p → X S_p)
    (ih : ∀ (j2 : Nat) (ct2 : bx_Ct) (M2 : rx_Mt), ct2 ∈ rxCnE j2 → ct2.2.2.2.1 + 1 ≤ rxCITD.2.2.2.1 → rxT.2.2.2.2.2 j2 = some M2 → bx_Con rxG rxNW rxAO PX Dg rxL X vwCl A ad l M2 ct2) (hQHED : bx_ConP rxG rxNW rxAO PX Dg rxL X vwCl A ad l rxM98 rxCHED rxPHED rxPSHED) : bx_ConP rxG rxNW rxAO PX Dg rxL X vwCl A ad l rxM35 rxCITD rxPITD rxPSITD :=
  rxQof (xa := xa) (Cn := rxCnE) (f := 30000) (j := 35) (tab := rxYITD) (us := rxUITD) hPX hsl hX ih rfl rxYcITD rxIITD rxmITD
    (fun S0 ws r I0 I ht0 ht as he he1 hX0 hI0 hP hs ha => by
      have e := he.symm.trans (show bx_ent0 rxNP rxCITD.1 bx_I0 [] = some ([(0, 0), (0, 0), (0, 0), (0, 0), (0, 0), (0, 0), (0, 0), (0, 0), (0, 5), (0, 7), (0, 7), (0, 299)], [], [.inr (3, (0, 1)), .inr (0, (8, 0)), .inr (0, (9, 0)), .inr (0, (10, 0)), .inr (0, (11, 0))]) from rfl)
      cases e
      subst ha
      have h0 : r 0 = 0 := hs.1
      show rxIITD_0 S0 _ S0 (r 8) (r 9) (r 10) (r 11)
      refine ⟨rfl, ?_⟩
      simp only [List.map_cons, List.map_nil, bx_xv_ok h0]
      rfl)
    (fun S0 ws hP => rxuITD (xa := xa) hPX hX hQHED hP) (fun S0 ws hP => rxgCITD hP) (fun S0 ws hP => rxgEITD hP)
noncomputable def rxCMLD : bx_Ct := ([(3, (1, 1, 0)), (0, (0, 0, 11)), (0, (0, 0, 7))], some (0, (0, 0, 1)), [(1017, 0), (1018, 0), (1023, 0)], 5, [])
noncomputable def rxIMLD_0 (S0 : Nat → Int → Int) (ws : List Int) (S : Nat → Int → Int) (vs ps : Int) : Prop := S = S0 ∧ ws = [1, vs, ps]
noncomputable def rxmMLD_0 (S0 : Nat → Int → Int) (ws : List Int) (S : Nat → Int → Int) (vs ps : Int) : Nat := 100
noncomputable def rxzMLD_0 : rx_Z := ([(0, 0), (0, 0), (0, 0), (0, 0), (0, 0), (0, 0), (0, 0), (0, 0), (0, 11), (0, 7)], [], [], 0, 0, 0, [(0, .inr (3, (0, 1))), (1, .inr (0, (8, 0))), (2, .inr (0, (9, 0)))], [])
noncomputable def rxIMLD_1 (S0 : Nat → Int → Int) (ws : List Int) (S : Nat → Int → Int) (vs ps hd pa y : Int) : Prop := S = S0 ∧ ws = [1, vs, ps] ∧ hd = S0 10 vs ∧ pa = S0 9 vs ∧ y = S0 19 0 ∧ hd ≠ ps ∧ rkAl S0 hd ∧ rkAl S0 ps
noncomputable def rxmMLD_1 (S0 : Nat → Int → Int) (ws : List Int) (S : Nat → Int → Int) (vs ps hd pa y : Int) : Nat := 50
noncomputable def rxzMLD_1 : rx_Z := ([(0, 0), (0, 0), (0, 0), (0, 0), (0, 0), (0, 0), (0, 0), (0, 0), (0, 11), (0, 7), (0, 7), (0, 5), (0, 299)], [], [], 0, 0, 55, [(0, .inr (3, (0, 1))), (1, .inr (0, (8, 0))), (2, .inr (0, (9, 0))), (3, .inr (0, (10, 0)))], [.inr (0, (12, 0)), .inr (0, (9, 0)), .inr (0, (10, 0)), .inr (0, (11, 0)), .inr (3, (0, 1))])
noncomputable def rxIMLD_2 (S0 : Nat → Int → Int) (ws : List Int) (S : Nat → Int → Int) (vs ps hd pa y r : Int) : Prop := ws = [1, vs, ps] ∧ ((r = 1 ∧ rkMl S0 vs ps) ∨ (r = 0 ∧ rkMln S0 vs ps))
noncomputable def rxmMLD_2 (S0 : Nat → Int → Int) (ws : List Int) (S : Nat → Int → Int) (vs ps hd pa y r : Int) : Nat := 40
noncomputable def rxzMLD_2 : rx_Z := ([(0, 0), (0, 0), (0, 0), (0, 0), (0, 0), (0, 0), (0, 0), (0, 0), (0, 11), (0, 7), (0, 7), (0, 5), (0, 299), (0, 1)], [], [], 0, 0, 58, [(0, .inr (3, (0, 1))), (1, .inr (0, (8, 0))), (2, .inr (0, (9, 0))), (3, .inr (0, (10, 0)))], [.inr (0, (13, 0))])
noncomputable def rxoMLD_0_0 : bx_HO := (([(0, 0), (0, 0), (0, 0), (0, 0), (0, 0), (0, 0), (0, 0), (0, 0), (0, 11), (0, 7), (1, 12), (0, 7), (0, 299), (1, 8), (0, 200), (1, 300), (0, 200), (1, 300), (0, 5)], [(0, (12, 0), (17, 0)), (1, (16, 0), (12, 0)), (0, (9, 0), (13, 0)), (0, (12, 0), (15, 0)), (1, (14, 0), (12, 0)), (0, (11, 0), (13, 0)), (3, (11, 0), (9, 0)), (0, (8, 0), (10, 0))], [(((0, 0), 1851192626986356797424364830707437625680387377997778264869896192000000), .inr (0, (18, 0))), (((0, 1), 6), .inr (3, (0, 9))), (((0, 0), 1851192626986356797424367893248739914126558548369245150782619648000000), .inr (0, (17, 0))), (((0, 0), 1851192626986356797424367893248739914126558548369245150782029824000000), .inr (0, (16, 0))), (((0, 0), 1851192626986356797424374018331344491018900889112178922610425856000000), .inr (0, (15, 0))), (((0, 5), 2), .inr (3, (0, 7))), (((0, 0), 1851192626986356797424374018331344491018900889112178922609836032000000), .inr (0, (14, 0))), (((0, 5), 1), .inr (3, (0, 6))), (((0, 0), 1851192626986356797424340330377019318111018015026043177556312064000000), .inr (0, (13, 0))), (((0, 5), 0), .inr (0, (13, 0))), (((0, 0), 1851192626986356797424340330377019318111018015026043177564569600000000), .inr (0, (12, 0))), (((0, 19), 0), .inr (0, (12, 0))), (((0, 1), 13), .inr (3, (0, 19))), (((0, 1), 4), .inr (3, (0, 5))), (((0, 0), 1851192626986356797424364830707437625680387377997778264870486016000000), .inr (0, (11, 0))), (((0, 1), 7), .inr (3, (0, 10))), (((0, 0), 1851192626986356798427873864310897359480125337295219445323071488000000), .inr (0, (10, 0))), (((0, 1), 5), .inr (0, (10, 0)))], 0, 0, 55, [(3, .inr (0, (11, 0))), (0, .inr (3, (0, 1))), (1, .inr (0, (8, 0))), (2, .inr (0, (9, 0)))], [.inr (0, (12, 0)), .inr (0, (9, 0)), .inr (0, (11, 0)), .inr (0, (18, 0)), .inr (3, (0, 1))]), [], [], [(0, 0), (0, 0), (0, 0), (0, 0), (0, 0), (0, 0), (0, 0), (0, 0), (8, 0), (9, 0), (11, 0), (18, 0), (12, 0)], 1)
noncomputable def rxeMLD_0_0 : rx_End × List (Nat × Int × Int) := (([(0, 0), (0, 0), (0, 0), (0, 0), (0, 0), (0, 0), (0, 0), (0, 0), (0, 11), (0, 7), (0, 11)], [(1, (10, 0), (8, 0))], [(((0, 0), 1851192626986356798427873864310897359480125337295219445323071488000000), .inr (0, (10, 0))), (((0, 1), 5), .inr (0, (10, 0)))], some (.inr (0, (0, 0)))), [])
noncomputable def rxeMLD_0_1 : rx_End × List (Nat × Int × Int) := (([(0, 0), (0, 0), (0, 0), (0, 0), (0, 0), (0, 0), (0, 0), (0, 0), (0, 11), (0, 7), (1, 12), (0, 7), (0, 300), (0, 7)], [(1, (13, 0), (11, 0)), (3, (11, 0), (9, 0)), (0, (8, 0), (10, 0))], [(((0, 0), 1851192626986356797424340330377019318111018015026043177556312064000000), .inr (0, (13, 0))), (((0, 5), 0), .inr (0, (13, 0))), (((0, 0), 1851192626986356797424340330377019318111018015026043177564569600000000), .inr (0, (12, 0))), (((0, 19), 0), .inr (0, (12, 0))), (((0, 1), 13), .inr (3, (0, 19))), (((0, 1), 4), .inr (3, (0, 5))), (((0, 0), 1851192626986356797424364830707437625680387377997778264870486016000000), .inr (0, (11, 0))), (((0, 1), 7), .inr (3, (0, 10))), (((0, 0), 1851192626986356798427873864310897359480125337295219445323071488000000), .inr (0, (10, 0))), (((0, 1), 5), .inr (0, (10, 0)))], some (.inr (0, (0, 0)))), [])
noncomputable def rxeMLD_0_2 : rx_End × List (Nat × Int × Int) := (([(0, 0), (0, 0), (0, 0), (0, 0), (0, 0), (0, 0), (0, 0), (0, 0), (0, 11), (1, 7), (1, 12), (0, 6), (0, 299), (1, 7), (0, 200), (1, 300)], [(1, (13, 0), (9, 0)), (0, (12, 0), (15, 0)), (1, (14, 0), (12, 0)), (0, (11, 0), (13, 0)), (3, (11, 0), (9, 0)), (0, (8, 0), (10, 0))], [(((0, 0), 1851192626986356797424374018331344491018900889112178922610425856000000), .inr (0, (15, 0))), (((0, 5), 2), .inr (3, (0, 7))), (((0, 0), 1851192626986356797424374018331344491018900889112178922609836032000000), .inr (0, (14, 0))), (((0, 5), 1), .inr (3, (0, 6))), (((0, 0), 1851192626986356797424340330377019318111018015026043177556312064000000), .inr (0, (13, 0))), (((0, 5), 0), .inr (0, (13, 0))), (((0, 0), 1851192626986356797424340330377019318111018015026043177564569600000000), .inr (0, (12, 0))), (((0, 19), 0), .inr (0, (12, 0))), (((0, 1), 13), .inr (3, (0, 19))), (((0, 1), 4), .inr (3, (0, 5))), (((0, 0), 1851192626986356797424364830707437625680387377997778264870486016000000), .inr (0, (11, 0))), (((0, 1), 7), .inr (3, (0, 10))), (((0, 0), 1851192626986356798427873864310897359480125337295219445323071488000000), .inr (0, (10, 0))), (((0, 1), 5), .inr (0, (10, 0)))], some (.inr (0, (0, 0)))), [])
noncomputable def rxeMLD_0_3 : rx_End × List (Nat × Int × Int) := (([(0, 0), (0, 0), (0, 0), (0, 0), (0, 0), (0, 0), (0, 0), (0, 0), (0, 11), (0, 7), (1, 12), (0, 7), (0, 299), (1, 8), (0, 200), (1, 300), (0, 200), (0, 299)], [(1, (17, 0), (12, 0)), (1, (16, 0), (12, 0)), (0, (9, 0), (13, 0)), (0, (12, 0), (15, 0)), (1, (14, 0), (12, 0)), (0, (11, 0), (13, 0)), (3, (11, 0), (9, 0)), (0, (8, 0), (10, 0))], [(((0, 0), 1851192626986356797424367893248739914126558548369245150782619648000000), .inr (0, (17, 0))), (((0, 0), 1851192626986356797424367893248739914126558548369245150782029824000000), .inr (0, (16, 0))), (((0, 0), 1851192626986356797424374018331344491018900889112178922610425856000000), .inr (0, (15, 0))), (((0, 5), 2), .inr (3, (0, 7))), (((0, 0), 1851192626986356797424374018331344491018900889112178922609836032000000), .inr (0, (14, 0))), (((0, 5), 1), .inr (3, (0, 6))), (((0, 0), 1851192626986356797424340330377019318111018015026043177556312064000000), .inr (0, (13, 0))), (((0, 5), 0), .inr (0, (13, 0))), (((0, 0), 1851192626986356797424340330377019318111018015026043177564569600000000), .inr (0, (12, 0))), (((0, 19), 0), .inr (0, (12, 0))), (((0, 1), 13), .inr (3, (0, 19))), (((0, 1), 4), .inr (3, (0, 5))), (((0, 0), 1851192626986356797424364830707437625680387377997778264870486016000000), .inr (0, (11, 0))), (((0, 1), 7), .inr (3, (0, 10))), (((0, 0), 1851192626986356798427873864310897359480125337295219445323071488000000), .inr (0, (10, 0))), (((0, 1), 5), .inr (0, (10, 0)))], some (.inr (0, (0, 0)))), [])
noncomputable def rxeMLD_0_4 : rx_End × List (Nat × Int × Int) := (([(0, 0), (0, 0), (0, 0), (0, 0), (0, 0), (0, 0), (0, 0), (0, 0), (0, 11), (0, 7), (1, 12), (0, 7), (0, 199), (1, 8), (0, 199), (1, 300), (1, 200)], [(0, (12, 0), (16, 0)), (0, (9, 0), (13, 0)), (0, (12, 0), (15, 0)), (1, (14, 0), (12, 0)), (0, (11, 0), (13, 0)), (3, (11, 0), (9, 0)), (0, (8, 0), (10, 0))], [(((0, 0), 1851192626986356797424367893248739914126558548369245150782029824000000), .inr (0, (16, 0))), (((0, 0), 1851192626986356797424374018331344491018900889112178922610425856000000), .inr (0, (15, 0))), (((0, 5), 2), .inr (3, (0, 7))), (((0, 0), 1851192626986356797424374018331344491018900889112178922609836032000000), .inr (0, (14, 0))), (((0, 5), 1), .inr (3, (0, 6))), (((0, 0), 1851192626986356797424340330377019318111018015026043177556312064000000), .inr (0, (13, 0))), (((0, 5), 0), .inr (0, (13, 0))), (((0, 0), 1851192626986356797424340330377019318111018015026043177564569600000000), .inr (0, (12, 0))), (((0, 19), 0), .inr (0, (12, 0))), (((0, 1), 13), .inr (3, (0, 19))), (((0, 1), 4), .inr (3, (0, 5))), (((0, 0), 1851192626986356797424364830707437625680387377997778264870486016000000), .inr (0, (11, 0))), (((0, 1), 7), .inr (3, (0, 10))), (((0, 0), 1851192626986356798427873864310897359480125337295219445323071488000000), .inr (0, (10, 0))), (((0, 1), 5), .inr (0, (10, 0)))], some (.inr (0, (0, 0)))), [])
noncomputable def rxeMLD_0_5 : rx_End × List (Nat × Int × Int) := (([(0, 0), (0, 0), (0, 0), (0, 0), (0, 0), (0, 0), (0, 0), (0, 0), (0, 11), (0, 7), (1, 12), (0, 7), (0, 300), (1, 8), (0, 200), (0, 300)], [(1, (15, 0), (12, 0)), (1, (14, 0), (12, 0)), (0, (11, 0), (13, 0)), (3, (11, 0), (9, 0)), (0, (8, 0), (10, 0))], [(((0, 0), 1851192626986356797424374018331344491018900889112178922610425856000000), .inr (0, (15, 0))), (((0, 5), 2), .inr (3, (0, 7))), (((0, 0), 1851192626986356797424374018331344491018900889112178922609836032000000), .inr (0, (14, 0))), (((0, 5), 1), .inr (3, (0, 6))), (((0, 0), 1851192626986356797424340330377019318111018015026043177556312064000000), .inr (0, (13, 0))), (((0, 5), 0), .inr (0, (13, 0))), (((0, 0), 1851192626986356797424340330377019318111018015026043177564569600000000), .inr (0, (12, 0))), (((0, 19), 0), .inr (0, (12, 0))), (((0, 1), 13), .inr (3, (0, 19))), (((0, 1), 4), .inr (3, (0, 5))), (((0, 0), 1851192626986356797424364830707437625680387377997778264870486016000000), .inr (0, (11, 0))), (((0, 1), 7), .inr (3, (0, 10))), (((0, 0), 1851192626986356798427873864310897359480125337295219445323071488000000), .inr (0, (10, 0))), (((0, 1), 5), .inr (0, (10, 0)))], some (.inr (0, (0, 0)))), [])
noncomputable def rxeMLD_0_6 : rx_End × List (Nat × Int × Int) := (([(0, 0), (0, 0), (0, 0), (0, 0), (0, 0), (0, 0), (0, 0), (0, 0), (0, 11), (0, 7), (1, 12), (0, 7), (0, 199), (1, 8), (1, 200)], [(0, (12, 0), (14, 0)), (0, (11, 0), (13, 0)), (3, (11, 0), (9, 0)), (0, (8, 0), (10, 0))], [(((0, 0), 1851192626986356797424374018331344491018900889112178922609836032000000), .inr (0, (14, 0))), (((0, 5), 1), .inr (3, (0, 6))), (((0, 0), 1851192626986356797424340330377019318111018015026043177556312064000000), .inr (0, (13, 0))), (((0, 5), 0), .inr (0, (13, 0))), (((0, 0), 1851192626986356797424340330377019318111018015026043177564569600000000), .inr (0, (12, 0))), (((0, 19), 0), .inr (0, (12, 0))), (((0, 1), 13), .inr (3, (0, 19))), (((0, 1), 4), .inr (3, (0, 5))), (((0, 0), 1851192626986356797424364830707437625680387377997778264870486016000000), .inr (0, (11, 0))), (((0, 1), 7), .inr (3, (0, 10))), (((0, 0), 1851192626986356798427873864310897359480125337295219445323071488000000), .inr (0, (10, 0))), (((0, 1), 5), .inr (0, (10, 0)))], some (.inr (0, (0, 0)))), [])
noncomputable def rxeMLD_0_7 : rx_End × List (Nat × Int × Int) := (([(0, 0), (0, 0), (0, 0), (0, 0), (0, 0), (0, 0), (0, 0), (0, 0), (0, 11), (0, 7), (1, 12), (0, 7)], [(2, (11, 0), (9, 0)), (0, (8, 0), (10, 0))], [(((0, 0), 1851192626986356797424364830707437625680387377997778264870486016000000), .inr (0, (11, 0))), (((0, 1), 7), .inr (3, (0, 10))), (((0, 0), 1851192626986356798427873864310897359480125337295219445323071488000000), .inr (0, (10, 0))), (((0, 1), 5), .inr (0, (10, 0)))], some (.inr (0, (0, 0)))), [])
noncomputable def rxeMLD_2_0 : rx_End × List (Nat × Int × Int) := (([(0, 0), (0, 0), (0, 0), (0, 0), (0, 0), (0, 0), (0, 0), (0, 0), (0, 11), (0, 7), (0, 7), (0, 5), (0, 299), (0, 1)], [], [], some (.inr (0, (13, 0)))), [])
noncomputable def rxYMLD : List bx_HE := [(rxzMLD_0, [rxoMLD_0_0], [rxeMLD_0_0, rxeMLD_0_1, rxeMLD_0_2, rxeMLD_0_3, rxeMLD_0_4, rxeMLD_0_5, rxeMLD_0_6, rxeMLD_0_7]), (rxzMLD_1, [], []), (rxzMLD_2, [], [rxeMLD_2_0])]
noncomputable def rxUMLD (q : bx_HE) : Bool := Nat.beq (rx_zpc q.1) 55
noncomputable def rxYBMLD : bx_B := (rxV, rxNP, rxDmf, bx_mdH rxCMLD.2.2.1)
set_option maxRecDepth 100000 in
theorem rxYcMLD : bx_chkH rxYBMLD rxM125 rxCMLD rxYMLD (rxUMLD, fun cut z => rx_ex2 (rxCT rxYBMLD rxCnE) cut 30000 rxCMLD.2.2.2.1 125 z) = true := by decide +kernel
noncomputable def rxIMLD (S0 : Nat → Int → Int) (ws : List Int) (i : Nat) : bx_SP := fun S r => match i with | 0 => rxIMLD_0 S0 ws S (r 8) (r 9) | 1 => rxIMLD_1 S0 ws S (r 8) (r 9) (r 10) (r 11) (r 12) | 2 => rxIMLD_2 S0 ws S (r 8) (r 9) (r 10) (r 11) (r 12) (r 13) | _ => False
noncomputable def rxmMLD (S0 : Nat → Int → Int) (ws : List Int) (i : Nat) (S : Nat → Int → Int) (r : Nat → Int) : Nat := match i with | 0 => rxmMLD_0 S0 ws S (r 8) (r 9) | 1 => rxmMLD_1 S0 ws S (r 8) (r 9) (r 10) (r 11) (r 12) | 2 => rxmMLD_2 S0 ws S (r 8) (r 9) (r 10) (r 11) (r 12) (r 13) | _ => 0
noncomputable def rxPMLD (S0 : Nat → Int → Int) (ws : List Int) : Prop := ∃ vs ps : Int, ws = [1, vs, ps] ∧ vs < S0 1 5 ∧ ps < S0 5 0 ∧ S0 10 vs < S0 5 0 ∧ rkDp S0
noncomputable def rxPSMLD (S0 : Nat → Int → Int) (ws : List Int) (S : Nat → Int → Int) (w : Option Int) : Prop := ∃ vs ps : Int, ws = [1, vs, ps] ∧ ((w = some 1 ∧ rkMl S0 vs ps) ∨ (w = some 0 ∧ rkMln S0 vs ps))
theorem rxkMLD_1 {S0 : Nat → Int → Int} {ws : List Int} {S : Nat → Int → Int} {vs ps hd pa y : Int} (hP : rxPMLD S0 ws) (hin : bx_same rxL (bx_mdl rxCMLD.2.2.1) S0 S) (I0 : bx_Inv rxL S) (hinv : rxIMLD_1 S0 ws S vs ps hd pa y) (l8 : 0 ≤ vs) (u8 : vs ≤ 11) (l9 : 0 ≤ ps) (u9 : ps ≤ 7) (l10 : 0 ≤ hd) (u10 : hd ≤ 7) (l11 : 0 ≤ pa) (u11 : pa ≤ 5) (l12 : 0 ≤ y) (u12 : y ≤ 299) : rxPITD S [1, pa, hd, ps, y] ∧ ∀ (S_p : Nat → Int → Int) (r : Int), 0 ≤ r → r ≤ 1 → rxPSITD S [1, pa, hd, ps, y] S_p (some r) → bx_Inv rxL S_p → bx_same rxL (bx_mdl rxCITD.2.2.1) S S_p → rxIMLD_2 S0 ws S_p vs ps hd pa y r ∧ rxmMLD_2 S0 ws S_p vs ps hd pa y r < rxmMLD_1 S0 ws S vs ps hd pa y := by
  obtain ⟨hS, hw, hh, hpa, hy, hne, a1, a2⟩ := hinv
  subst hS
  obtain ⟨vs9, ps9, hw2, hvs, hps, hho, hdp⟩ := hP
  have w0_ : vs = vs9 := Option.some.inj (congrArg (fun l : List Int => l[1]?) (hw.symm.trans hw2))
  subst w0_
  have w1_ : ps = ps9 := Option.some.inj (congrArg (fun l : List Int => l[2]?) (hw.symm.trans hw2))
  subst w1_
  refine ⟨⟨pa, hd, ps, y, rfl, by omega, hps, hdp⟩, fun S_p r _ _ hq _ hsm => ⟨⟨hw, ?_⟩, by unfold rxmMLD_1 rxmMLD_2; omega⟩⟩
  obtain ⟨pa2, ms2, pu2, yr2, hw3, h⟩ := hq
  have k0 : pa = pa2 := Option.some.inj (congrArg (fun l : List Int => l[1]?) hw3)
  have k1 : hd = ms2 := Option.some.inj (congrArg (fun l : List Int => l[2]?) hw3)
  have k2 : ps = pu2 := Option.some.inj (congrArg (fun l : List Int => l[3]?) hw3)
  have k3 : y = yr2 := Option.some.inj (congrArg (fun l : List Int => l[4]?) hw3)
  rw [← k0, ← k1, ← k2, ← k3, hpa, hh, hy] at h
  rw [hh] at hne a1
  rcases h with ⟨g, h⟩ | ⟨g, h⟩
  · exact Or.inl ⟨Option.some.inj g, hne, a1, a2, h⟩
  · exact Or.inr ⟨Option.some.inj g, Or.inr (Or.inr (Or.inr h))⟩
theorem rxsMLD_1 {X : (Nat → Int → Int) → Prop} {S0 : Nat → Int → Int} {ws : List Int} (hP : rxPMLD S0 ws) : rx_obK X S0 rxCMLD.2.2.1 rxCITD.2.2.1 (rxIMLD S0 ws) (rxmMLD S0 ws) 1 2 rxzMLD_1 rxzMLD_2 [.inr (3, (0, 1)), .inr (0, (11, 0)), .inr (0, (10, 0)), .inr (0, (9, 0)), .inr (0, (12, 0))] (some 13) rxPITD rxPSITD := by
  intro S r hinv hXS I0 hin hs_ hf_
  have b_ := bx_bds_sat hs_
  have f_ := bx_fcl_ok hs_.1 hf_
  obtain ⟨⟨l8, u8⟩, ⟨l9, u9⟩, ⟨l10, u10⟩, ⟨l11, u11⟩, ⟨l12, u12⟩, -⟩ := b_
  have g := rxkMLD_1 hP hin I0 hinv l8 u8 l9 u9 l10 u10 l11 u11 l12 u12
  have ea : List.map (bx_num r) [.inr (3, (0, 1)), .inr (0, (11, 0)), .inr (0, (10, 0)), .inr (0, (9, 0)), .inr (0, (12, 0))] = [1, (r 11), (r 10), (r 9), (r 12)] := by
    simp only [List.map_cons, List.map_nil, bx_xv_ok hs_.1]
    rfl
  rw [ea]
  refine ⟨g.1, fun S_p w r_p hPS hX_p I1 hsm hr hw hs_p => ?_⟩
  have hw := hw _ rfl
  subst hw
  have b_p := hs_p.2.2 13 _ _ rfl
  have g2 := g.2 S_p (r_p 13) b_p.1 b_p.2 hPS I1 hsm
  show rxIMLD_2 S0 ws S_p (r_p 8) (r_p 9) (r_p 10) (r_p 11) (r_p 12) (r_p 13) ∧ rxmMLD_2 S0 ws S_p (r_p 8) (r_p 9) (r_p 10) (r_p 11) (r_p 12) (r_p 13) < _
  rw [hr 8 (by decide), hr 9 (by decide), hr 10 (by decide), hr 11 (by decide), hr 12 (by decide)]
  exact g2
theorem rxcMLD_0_0 {S0 : Nat → Int → Int} {ws : List Int} {S : Nat → Int → Int} {vs ps x10 x11 x12 x13 x14 x15 x16 x17 x18 : Int} (hP : rxPMLD S0 ws) (hin : bx_same rxL (bx_mdl rxCMLD.2.2.1) S0 S) (I0 : bx_Inv rxL S) (hinv : rxIMLD_0 S0 ws S vs ps) (l8 : 0 ≤ vs) (u8 : vs ≤ 11) (l9 : 0 ≤ ps) (u9 : ps ≤ 7) (l10 : 1 ≤ x10) (u10 : x10 ≤ 12) (l11 : 0 ≤ x11) (u11 : x11 ≤ 7) (l12 : 0 ≤ x12) (u12 : x12 ≤ 299) (l13 : 1 ≤ x13) (u13 : x13 ≤ 8) (l14 : 0 ≤ x14) (u14 : x14 ≤ 200) (l15 : 1 ≤ x15) (u15 : x15 ≤ 300) (l16 : 0 ≤ x16) (u16 : x16 ≤ 200) (l17 : 1 ≤ x17) (u17 : x17 ≤ 300) (l18 : 0 ≤ x18) (u18 : x18 ≤ 5) (f0 : x12 < x17) (f1 : x16 ≤ x12) (f2 : ps < x13) (f3 : x12 < x15) (f4 : x14 ≤ x12) (f5 : x11 < x13) (f6 : x11 ≠ ps) (f7 : vs < x10) (e8 : S 1 5 = x10) (e7 : S 10 vs = x11) (e6 : S 19 0 = x12) (e5 : S 5 0 = x13) (e4 : S 6 x11 = x14) (e3 : S 7 x11 = x15) (e2 : S 6 ps = x16) (e1 : S 7 ps = x17) (e0 : S 9 vs = x18) : (True) ∧ (True) ∧ rxIMLD_1 S0 ws S vs ps x11 x18 x12 ∧ rxmMLD_1 S0 ws S vs ps x11 x18 x12 < rxmMLD_0 S0 ws S vs ps := by
  obtain ⟨rfl, hw⟩ := hinv
  obtain ⟨vs9, ps9, hw2, hvs, hps, hho, hdp⟩ := hP
  have w0_ : vs = vs9 := Option.some.inj (congrArg (fun l : List Int => l[1]?) (hw.symm.trans hw2))
  subst w0_
  have w1_ : ps = ps9 := Option.some.inj (congrArg (fun l : List Int => l[2]?) (hw.symm.trans hw2))
  subst w1_
  exact ⟨trivial, trivial, ⟨rfl, hw, by omega, by omega, by omega, by omega, by unfold rkAl; omega, by unfold rkAl; omega⟩, by unfold rxmMLD_0 rxmMLD_1; omega⟩
theorem rxgMLD_0_0 {X : (Nat → Int → Int) → Prop} {S0 : Nat → Int → Int} {ws : List Int} (hP : rxPMLD S0 ws) : bx_obC rxL X S0 rxCMLD.2.2.1 (rxIMLD S0 ws) (rxmMLD S0 ws) 0 rxzMLD_0 rxoMLD_0_0 := by
  intro S S_p r r_p hinv hX hin hsm_ hseg
  obtain ⟨I0, I1, h0_, hr_, b_, f_, d_⟩ := bx_cl (evs := [(0, (0, 9), (8, 0), .inr (0, (18, 0))), (0, (0, 7), (9, 0), .inr (0, (17, 0))), (0, (0, 6), (9, 0), .inr (0, (16, 0))), (0, (0, 7), (11, 0), .inr (0, (15, 0))), (0, (0, 6), (11, 0), .inr (0, (14, 0))), (0, (0, 5), (0, 0), .inr (0, (13, 0))), (0, (0, 19), (0, 0), .inr (0, (12, 0))), (0, (0, 10), (8, 0), .inr (0, (11, 0))), (0, (0, 1), (0, 5), .inr (0, (10, 0)))]) (fvs := [(0, (12, 0), (17, 0), (0, 0)), (1, (16, 0), (12, 0), (0, 0)), (0, (9, 0), (13, 0), (0, 0)), (0, (12, 0), (15, 0), (0, 0)), (1, (14, 0), (12, 0), (0, 0)), (0, (11, 0), (13, 0), (0, 0)), (3, (11, 0), (9, 0), (0, 0)), (0, (8, 0), (10, 0), (0, 0))]) hseg (by decide +kernel) (by decide +kernel)
  have hinv : rxIMLD_0 S0 ws S (r 8) (r 9) := hinv
  rw [← hr_ 8 (by decide), ← hr_ 9 (by decide)] at hinv
  obtain ⟨⟨l8, u8⟩, ⟨l9, u9⟩, ⟨l10, u10⟩, ⟨l11, u11⟩, ⟨l12, u12⟩, ⟨l13, u13⟩, ⟨l14, u14⟩, ⟨l15, u15⟩, ⟨l16, u16⟩, ⟨l17, u17⟩, ⟨l18, u18⟩, -⟩ := b_
  obtain ⟨f0, f1, f2, f3, f4, f5, f6, f7, -⟩ := f_
  obtain ⟨e0, ⟨e1, ⟨e2, ⟨e3, ⟨e4, ⟨e5, ⟨e6, ⟨e7, ⟨e8, w_⟩⟩⟩⟩⟩⟩⟩⟩⟩ := d_
  subst w_
  have g := rxcMLD_0_0 hP hin I0 hinv l8 u8 l9 u9 l10 u10 l11 u11 l12 u12 l13 u13 l14 u14 l15 u15 l16 u16 l17 u17 l18 u18 f0 f1 f2 f3 f4 f5 f6 f7 e8 e7 e6 e5 e4 e3 e2 e1 e0
  refine ⟨bx_narP_ok (l := []) g.1, bx_nfP_ok h0_ (fvs := []) (by decide +kernel) g.2.1, ?_, ?_⟩
  · show rxIMLD_1 S0 ws S_p (bx_val [(0, 0), (0, 0), (0, 0), (0, 0), (0, 0), (0, 0), (0, 0), (0, 0), (8, 0), (9, 0), (11, 0), (18, 0), (12, 0)] r_p 8) (bx_val [(0, 0), (0, 0), (0, 0), (0, 0), (0, 0), (0, 0), (0, 0), (0, 0), (8, 0), (9, 0), (11, 0), (18, 0), (12, 0)] r_p 9) (bx_val [(0, 0), (0, 0), (0, 0), (0, 0), (0, 0), (0, 0), (0, 0), (0, 0), (8, 0), (9, 0), (11, 0), (18, 0), (12, 0)] r_p 10) (bx_val [(0, 0), (0, 0), (0, 0), (0, 0), (0, 0), (0, 0), (0, 0), (0, 0), (8, 0), (9, 0), (11, 0), (18, 0), (12, 0)] r_p 11) (bx_val [(0, 0), (0, 0), (0, 0), (0, 0), (0, 0), (0, 0), (0, 0), (0, 0), (8, 0), (9, 0), (11, 0), (18, 0), (12, 0)] r_p 12)
    rw [bx_val_x (n := 8) (e := (8, 0)) h0_ rfl, bx_val_x (n := 9) (e := (9, 0)) h0_ rfl, bx_val_x (n := 10) (e := (11, 0)) h0_ rfl, bx_val_x (n := 11) (e := (18, 0)) h0_ rfl, bx_val_x (n := 12) (e := (12, 0)) h0_ rfl]
    exact g.2.2.1
  · show rxmMLD_1 S0 ws S_p (bx_val [(0, 0), (0, 0), (0, 0), (0, 0), (0, 0), (0, 0), (0, 0), (0, 0), (8, 0), (9, 0), (11, 0), (18, 0), (12, 0)] r_p 8) (bx_val [(0, 0), (0, 0), (0, 0), (0, 0), (0, 0), (0, 0), (0, 0), (0, 0), (8, 0), (9, 0), (11, 0), (18, 0), (12, 0)] r_p 9) (bx_val [(0, 0), (0, 0), (0, 0), (0, 0), (0, 0), (0, 0), (0, 0), (0, 0), (8, 0), (9, 0), (11, 0), (18, 0), (12, 0)] r_p 10) (bx_val [(0, 0), (0, 0), (0, 0), (0, 0), (0, 0), (0, 0), (0, 0), (0, 0), (8, 0), (9, 0), (11, 0), (18, 0), (12, 0)] r_p 11) (bx_val [(0, 0), (0, 0), (0, 0), (0, 0), (0, 0), (0, 0), (0, 0), (0, 0), (8, 0), (9, 0), (11, 0), (18, 0), (12, 0)] r_p 12) < rxmMLD_0 S0 ws S_p (r 8) (r 9)
    rw [bx_val_x (n := 8) (e := (8, 0)) h0_ rfl, bx_val_x (n := 9) (e := (9, 0)) h0_ rfl, bx_val_x (n := 10) (e := (11, 0)) h0_ rfl, bx_val_x (n := 11) (e := (18, 0)) h0_ rfl, bx_val_x (n := 12) (e := (12, 0)) h0_ rfl, ← hr_ 8 (by decide), ← hr_ 9 (by decide)]
    exact g.2.2.2
theorem rxdMLD_0_0 {S0 : Nat → Int → Int} {ws : List Int} {S : Nat → Int → Int} {vs ps x10 : Int} (hP : rxPMLD S0 ws) (hin : bx_same rxL (bx_mdl rxCMLD.2.2.1) S0 S) (hin2 : bx_same rxL (bx_mdl rxCMLD.2.2.1) S S) (I0 : bx_Inv rxL S) (I1 : bx_Inv rxL S) (hinv : rxIMLD_0 S0 ws S vs ps) (l8 : 0 ≤ vs) (u8 : vs ≤ 11) (l9 : 0 ≤ ps) (u9 : ps ≤ 7) (l10 : 0 ≤ x10) (u10 : x10 ≤ 11) (f0 : x10 ≤ vs) (e0 : S 1 5 = x10) : (True) ∧ rxPSMLD S0 ws S (some 0) := by
  obtain ⟨rfl, hw⟩ := hinv
  obtain ⟨vs9, ps9, hw2, hvs, hps, hho, hdp⟩ := hP
  have w0_ : vs = vs9 := Option.some.inj (congrArg (fun l : List Int => l[1]?) (hw.symm.trans hw2))
  subst w0_
  have w1_ : ps = ps9 := Option.some.inj (congrArg (fun l : List Int => l[2]?) (hw.symm.trans hw2))
  subst w1_
  exfalso
  omega
theorem rxfMLD_0_0 {X : (Nat → Int → Int) → Prop} {S0 : Nat → Int → Int} {ws : List Int} (hP : rxPMLD S0 ws) : bx_obE rxL X S0 rxCMLD.2.2.1 (rxIMLD S0 ws) (rxPSMLD S0 ws) 0 rxzMLD_0 rxeMLD_0_0 := by
  intro S S_p r r_p hinv hX hin hsm_ hseg
  obtain ⟨I0, I1, h0_, hr_, b_, f_, d_⟩ := bx_cl (evs := [(0, (0, 1), (0, 5), .inr (0, (10, 0)))]) (fvs := [(1, (10, 0), (8, 0), (0, 0))]) hseg (by decide +kernel) (by decide +kernel)
  have hinv : rxIMLD_0 S0 ws S (r 8) (r 9) := hinv
  rw [← hr_ 8 (by decide), ← hr_ 9 (by decide)] at hinv
  obtain ⟨⟨l8, u8⟩, ⟨l9, u9⟩, ⟨l10, u10⟩, -⟩ := b_
  obtain ⟨f0, -⟩ := f_
  obtain ⟨e0, w_⟩ := d_
  subst w_
  have g := rxdMLD_0_0 hP hin hsm_ I0 I1 hinv l8 u8 l9 u9 l10 u10 f0 e0
  refine ⟨bx_narP_ok (l := []) g.1, ?_⟩
  show rxPSMLD S0 ws S_p (some (bx_num r_p (.inr (0, (0, 0)))))
  rw [bx_xv_ok h0_]
  exact g.2
theorem rxdMLD_0_1 {S0 : Nat → Int → Int} {ws : List Int} {S : Nat → Int → Int} {vs ps x10 x11 x12 x13 : Int} (hP : rxPMLD S0 ws) (hin : bx_same rxL (bx_mdl rxCMLD.2.2.1) S0 S) (hin2 : bx_same rxL (bx_mdl rxCMLD.2.2.1) S S) (I0 : bx_Inv rxL S) (I1 : bx_Inv rxL S) (hinv : rxIMLD_0 S0 ws S vs ps) (l8 : 0 ≤ vs) (u8 : vs ≤ 11) (l9 : 0 ≤ ps) (u9 : ps ≤ 7) (l10 : 1 ≤ x10) (u10 : x10 ≤ 12) (l11 : 0 ≤ x11) (u11 : x11 ≤ 7) (l12 : 0 ≤ x12) (u12 : x12 ≤ 300) (l13 : 0 ≤ x13) (u13 : x13 ≤ 7) (f0 : x13 ≤ x11) (f1 : x11 ≠ ps) (f2 : vs < x10) (e3 : S 1 5 = x10) (e2 : S 10 vs = x11) (e1 : S 19 0 = x12) (e0 : S 5 0 = x13) : (True) ∧ rxPSMLD S0 ws S (some 0) := by
  obtain ⟨rfl, hw⟩ := hinv
  obtain ⟨vs9, ps9, hw2, hvs, hps, hho, hdp⟩ := hP
  have w0_ : vs = vs9 := Option.some.inj (congrArg (fun l : List Int => l[1]?) (hw.symm.trans hw2))
  subst w0_
  have w1_ : ps = ps9 := Option.some.inj (congrArg (fun l : List Int => l[2]?) (hw.symm.trans hw2))
  subst w1_
  have hh : S 10 vs = x11 := e2
  refine ⟨trivial, vs, ps, hw, Or.inr ⟨rfl, ?_⟩⟩
  unfold rkMln
  rw [hh]
  unfold rkAl
  first | (exfalso; omega) | exact Or.inl (by omega) | exact Or.inr (Or.inl (by omega)) | exact Or.inr (Or.inr (Or.inl (by omega)))
theorem rxfMLD_0_1 {X : (Nat → Int → Int) → Prop} {S0 : Nat → Int → Int} {ws : List Int} (hP : rxPMLD S0 ws) : bx_obE rxL X S0 rxCMLD.2.2.1 (rxIMLD S0 ws) (rxPSMLD S0 ws) 0 rxzMLD_0 rxeMLD_0_1 := by
  intro S S_p r r_p hinv hX hin hsm_ hseg
  obtain ⟨I0, I1, h0_, hr_, b_, f_, d_⟩ := bx_cl (evs := [(0, (0, 5), (0, 0), .inr (0, (13, 0))), (0, (0, 19), (0, 0), .inr (0, (12, 0))), (0, (0, 10), (8, 0), .inr (0, (11, 0))), (0, (0, 1), (0, 5), .inr (0, (10, 0)))]) (fvs := [(1, (13, 0), (11, 0), (0, 0)), (3, (11, 0), (9, 0), (0, 0)), (0, (8, 0), (10, 0), (0, 0))]) hseg (by decide +kernel) (by decide +kernel)
  have hinv : rxIMLD_0 S0 ws S (r 8) (r 9) := hinv
  rw [← hr_ 8 (by decide), ← hr_ 9 (by decide)] at hinv
  obtain ⟨⟨l8, u8⟩, ⟨l9, u9⟩, ⟨l10, u10⟩, ⟨l11, u11⟩, ⟨l12, u12⟩, ⟨l13, u13⟩, -⟩ := b_
  obtain ⟨f0, f1, f2, -⟩ := f_
  obtain ⟨e0, ⟨e1, ⟨e2, ⟨e3, w_⟩⟩⟩⟩ := d_
  subst w_
  have g := rxdMLD_0_1 hP hin hsm_ I0 I1 hinv l8 u8 l9 u9 l10 u10 l11 u11 l12 u12 l13 u13 f0 f1 f2 e3 e2 e1 e0
  refine ⟨bx_narP_ok (l := []) g.1, ?_⟩
  show rxPSMLD S0 ws S_p (some (bx_num r_p (.inr (0, (0, 0)))))
  rw [bx_xv_ok h0_]
  exact g.2
theorem rxdMLD_0_2 {S0 : Nat → Int → Int} {ws : List Int} {S : Nat → Int → Int} {vs ps x10 x11 x12 x13 x14 x15 : Int} (hP : rxPMLD S0 ws) (hin : bx_same rxL (bx_mdl rxCMLD.2.2.1) S0 S) (hin2 : bx_same rxL (bx_mdl rxCMLD.2.2.1) S S) (I0 : bx_Inv rxL S) (I1 : bx_Inv rxL S) (hinv : rxIMLD_0 S0 ws S vs ps) (l8 : 0 ≤ vs) (u8 : vs ≤ 11) (l9 : 1 ≤ ps) (u9 : ps ≤ 7) (l10 : 1 ≤ x10) (u10 : x10 ≤ 12) (l11 : 0 ≤ x11) (u11 : x11 ≤ 6) (l12 : 0 ≤ x12) (u12 : x12 ≤ 299) (l13 : 1 ≤ x13) (u13 : x13 ≤ 7) (l14 : 0 ≤ x14) (u14 : x14 ≤ 200) (l15 : 1 ≤ x15) (u15 : x15 ≤ 300) (f0 : x13 ≤ ps) (f1 : x12 < x15) (f2 : x14 ≤ x12) (f3 : x11 < x13) (f4 : x11 ≠ ps) (f5 : vs < x10) (e5 : S 1 5 = x10) (e4 : S 10 vs = x11) (e3 : S 19 0 = x12) (e2 : S 5 0 = x13) (e1 : S 6 x11 = x14) (e0 : S 7 x11 = x15) : (True) ∧ rxPSMLD S0 ws S (some 0) := by
  obtain ⟨rfl, hw⟩ := hinv
  obtain ⟨vs9, ps9, hw2, hvs, hps, hho, hdp⟩ := hP
  have w0_ : vs = vs9 := Option.some.inj (congrArg (fun l : List Int => l[1]?) (hw.symm.trans hw2))
  subst w0_
  have w1_ : ps = ps9 := Option.some.inj (congrArg (fun l : List Int => l[2]?) (hw.symm.trans hw2))
  subst w1_
  have hh : S 10 vs = x11 := e4
  refine ⟨trivial, vs, ps, hw, Or.inr ⟨rfl, ?_⟩⟩
  unfold rkMln
  rw [hh]
  unfold rkAl
  first | (exfalso; omega) | exact Or.inl (by omega) | exact Or.inr (Or.inl (by omega)) | exact Or.inr (Or.inr (Or.inl (by omega)))
theorem rxfMLD_0_2 {X : (Nat → Int → Int) → Prop} {S0 : Nat → Int → Int} {ws : List Int} (hP : rxPMLD S0 ws) : bx_obE rxL X S0 rxCMLD.2.2.1 (rxIMLD S0 ws) (rxPSMLD S0 ws) 0 rxzMLD_0 rxeMLD_0_2 := by
  intro S S_p r r_p hinv hX hin hsm_ hseg
  obtain ⟨I0, I1, h0_, hr_, b_, f_, d_⟩ := bx_cl (evs := [(0, (0, 7), (11, 0), .inr (0, (15, 0))), (0, (0, 6), (11, 0), .inr (0, (14, 0))), (0, (0, 5), (0, 0), .inr (0, (13, 0))), (0, (0, 19), (0, 0), .inr (0, (12, 0))), (0, (0, 10), (8, 0), .inr (0, (11, 0))), (0, (0, 1), (0, 5), .inr (0, (10, 0)))]) (fvs := [(1, (13, 0), (9, 0), (0, 0)), (0, (12, 0), (15, 0), (0, 0)), (1, (14, 0), (12, 0), (0, 0)), (0, (11, 0), (13, 0), (0, 0)), (3, (11, 0), (9, 0), (0, 0)), (0, (8, 0), (10, 0), (0, 0))]) hseg (by decide +kernel) (by decide +kernel)
  have hinv : rxIMLD_0 S0 ws S (r 8) (r 9) := hinv
  rw [← hr_ 8 (by decide), ← hr_ 9 (by decide)] at hinv
  obtain ⟨⟨l8, u8⟩, ⟨l9, u9⟩, ⟨l10, u10⟩, ⟨l11, u11⟩, ⟨l12, u12⟩, ⟨l13, u13⟩, ⟨l14, u14⟩, ⟨l15, u15⟩, -⟩ := b_
  obtain ⟨f0, f1, f2, f3, f4, f5, -⟩ := f_
  obtain ⟨e0, ⟨e1, ⟨e2, ⟨e3, ⟨e4, ⟨e5, w_⟩⟩⟩⟩⟩⟩ := d_
  subst w_
  have g := rxdMLD_0_2 hP hin hsm_ I0 I1 hinv l8 u8 l9 u9 l10 u10 l11 u11 l12 u12 l13 u13 l14 u14 l15 u15 f0 f1 f2 f3 f4 f5 e5 e4 e3 e2 e1 e0
  refine ⟨bx_narP_ok (l := []) g.1, ?_⟩
  show rxPSMLD S0 ws S_p (some (bx_num r_p (.inr (0, (0, 0)))))
  rw [bx_xv_ok h0_]
  exact g.2
theorem rxdMLD_0_3 {S0 : Nat → Int → Int} {ws : List Int} {S : Nat → Int → Int} {vs ps x10 x11 x12 x13 x14 x15 x16 x17 : Int} (hP : rxPMLD S0 ws) (hin : bx_same rxL (bx_mdl rxCMLD.2.2.1) S0 S) (hin2 : bx_same rxL (bx_mdl rxCMLD.2.2.1) S S) (I0 : bx_Inv rxL S) (I1 : bx_Inv rxL S) (hinv : rxIMLD_0 S0 ws S vs ps) (l8 : 0 ≤ vs) (u8 : vs ≤ 11) (l9 : 0 ≤ ps) (u9 : ps ≤ 7) (l10 : 1 ≤ x10) (u10 : x10 ≤ 12) (l11 : 0 ≤ x11) (u11 : x11 ≤ 7) (l12 : 0 ≤ x12) (u12 : x12 ≤ 299) (l13 : 1 ≤ x13) (u13 : x13 ≤ 8) (l14 : 0 ≤ x14) (u14 : x14 ≤ 200) (l15 : 1 ≤ x15) (u15 : x15 ≤ 300) (l16 : 0 ≤ x16) (u16 : x16 ≤ 200) (l17 : 0 ≤ x17) (u17 : x17 ≤ 299) (f0 : x17 ≤ x12) (f1 : x16 ≤ x12) (f2 : ps < x13) (f3 : x12 < x15) (f4 : x14 ≤ x12) (f5 : x11 < x13) (f6 : x11 ≠ ps) (f7 : vs < x10) (e7 : S 1 5 = x10) (e6 : S 10 vs = x11) (e5 : S 19 0 = x12) (e4 : S 5 0 = x13) (e3 : S 6 x11 = x14) (e2 : S 7 x11 = x15) (e1 : S 6 ps = x16) (e0 : S 7 ps = x17) : (True) ∧ rxPSMLD S0 ws S (some 0) := by
  obtain ⟨rfl, hw⟩ := hinv
  obtain ⟨vs9, ps9, hw2, hvs, hps, hho, hdp⟩ := hP
  have w0_ : vs = vs9 := Option.some.inj (congrArg (fun l : List Int => l[1]?) (hw.symm.trans hw2))
  subst w0_
  have w1_ : ps = ps9 := Option.some.inj (congrArg (fun l : List Int => l[2]?) (hw.symm.trans hw2))
  subst w1_
  have hh : S 10 vs = x11 := e6
  refine ⟨trivial, vs, ps, hw, Or.inr ⟨rfl, ?_⟩⟩
  unfold rkMln
  rw [hh]
  unfold rkAl
  first | (exfalso; omega) | exact Or.inl (by omega) | exact Or.inr (Or.inl (by omega)) | exact Or.inr (Or.inr (Or.inl (by omega)))
theorem rxfMLD_0_3 {X : (Nat → Int → Int) → Prop} {S0 : Nat → Int → Int} {ws : List Int} (hP : rxPMLD S0 ws) : bx_obE rxL X S0 rxCMLD.2.2.1 (rxIMLD S0 ws) (rxPSMLD S0 ws) 0 rxzMLD_0 rxeMLD_0_3 := by
  intro S S_p r r_p hinv hX hin hsm_ hseg
  obtain ⟨I0, I1, h0_, hr_, b_, f_, d_⟩ := bx_cl (evs := [(0, (0, 7), (9, 0), .inr (0, (17, 0))), (0, (0, 6), (9, 0), .inr (0, (16, 0))), (0, (0, 7), (11, 0), .inr (0, (15, 0))), (0, (0, 6), (11, 0), .inr (0, (14, 0))), (0, (0, 5), (0, 0), .inr (0, (13, 0))), (0, (0, 19), (0, 0), .inr (0, (12, 0))), (0, (0, 10), (8, 0), .inr (0, (11, 0))), (0, (0, 1), (0, 5), .inr (0, (10, 0)))]) (fvs := [(1, (17, 0), (12, 0), (0, 0)), (1, (16, 0), (12, 0), (0, 0)), (0, (9, 0), (13, 0), (0, 0)), (0, (12, 0), (15, 0), (0, 0)), (1, (14, 0), (12, 0), (0, 0)), (0, (11, 0), (13, 0), (0, 0)), (3, (11, 0), (9, 0), (0, 0)), (0, (8, 0), (10, 0), (0, 0))]) hseg (by decide +kernel) (by decide +kernel)
  have hinv : rxIMLD_0 S0 ws S (r 8) (r 9) := hinv
  rw [← hr_ 8 (by decide), ← hr_ 9 (by decide)] at hinv
  obtain ⟨⟨l8, u8⟩, ⟨l9, u9⟩, ⟨l10, u10⟩, ⟨l11, u11⟩, ⟨l12, u12⟩, ⟨l13, u13⟩, ⟨l14, u14⟩, ⟨l15, u15⟩, ⟨l16, u16⟩, ⟨l17, u17⟩, -⟩ := b_
  obtain ⟨f0, f1, f2, f3, f4, f5, f6, f7, -⟩ := f_
  obtain ⟨e0, ⟨e1, ⟨e2, ⟨e3, ⟨e4, ⟨e5, ⟨e6, ⟨e7, w_⟩⟩⟩⟩⟩⟩⟩⟩ := d_
  subst w_
  have g := rxdMLD_0_3 hP hin hsm_ I0 I1 hinv l8 u8 l9 u9 l10 u10 l11 u11 l12 u12 l13 u13 l14 u14 l15 u15 l16 u16 l17 u17 f0 f1 f2 f3 f4 f5 f6 f7 e7 e6 e5 e4 e3 e2 e1 e0
  refine ⟨bx_narP_ok (l := []) g.1, ?_⟩
  show rxPSMLD S0 ws S_p (some (bx_num r_p (.inr (0, (0, 0)))))
  rw [bx_xv_ok h0_]
  exact g.2
theorem rxdMLD_0_4 {S0 : Nat → Int → Int} {ws : List Int} {S : Nat → Int → Int} {vs ps x10 x11 x12 x13 x14 x15 x16 : Int} (hP : rxPMLD S0 ws) (hin : bx_same rxL (bx_mdl rxCMLD.2.2.1) S0 S) (hin2 : bx_same rxL (bx_mdl rxCMLD.2.2.1) S S) (I0 : bx_Inv rxL S) (I1 : bx_Inv rxL S) (hinv : rxIMLD_0 S0 ws S vs ps) (l8 : 0 ≤ vs) (u8 : vs ≤ 11) (l9 : 0 ≤ ps) (u9 : ps ≤ 7) (l10 : 1 ≤ x10) (u10 : x10 ≤ 12) (l11 : 0 ≤ x11) (u11 : x11 ≤ 7) (l12 : 0 ≤ x12) (u12 : x12 ≤ 199) (l13 : 1 ≤ x13) (u13 : x13 ≤ 8) (l14 : 0 ≤ x14) (u14 : x14 ≤ 199) (l15 : 1 ≤ x15) (u15 : x15 ≤ 300) (l16 : 1 ≤ x16) (u16 : x16 ≤ 200) (f0 : x12 < x16) (f1 : ps < x13) (f2 : x12 < x15) (f3 : x14 ≤ x12) (f4 : x11 < x13) (f5 : x11 ≠ ps) (f6 : vs < x10) (e6 : S 1 5 = x10) (e5 : S 10 vs = x11) (e4 : S 19 0 = x12) (e3 : S 5 0 = x13) (e2 : S 6 x11 = x14) (e1 : S 7 x11 = x15) (e0 : S 6 ps = x16) : (True) ∧ rxPSMLD S0 ws S (some 0) := by
  obtain ⟨rfl, hw⟩ := hinv
  obtain ⟨vs9, ps9, hw2, hvs, hps, hho, hdp⟩ := hP
  have w0_ : vs = vs9 := Option.some.inj (congrArg (fun l : List Int => l[1]?) (hw.symm.trans hw2))
  subst w0_
  have w1_ : ps = ps9 := Option.some.inj (congrArg (fun l : List Int => l[2]?) (hw.symm.trans hw2))
  subst w1_
  have hh : S 10 vs = x11 := e5
  refine ⟨trivial, vs, ps, hw, Or.inr ⟨rfl, ?_⟩⟩
  unfold rkMln
  rw [hh]
  unfold rkAl
  first | (exfalso; omega) | exact Or.inl (by omega) | exact Or.inr (Or.inl (by omega)) | exact Or.inr (Or.inr (Or.inl (by omega)))
theorem rxfMLD_0_4 {X : (Nat → Int → Int) → Prop} {S0 : Nat → Int → Int} {ws : List Int} (hP : rxPMLD S0 ws) : bx_obE rxL X S0 rxCMLD.2.2.1 (rxIMLD S0 ws) (rxPSMLD S0 ws) 0 rxzMLD_0 rxeMLD_0_4 := by
  intro S S_p r r_p hinv hX hin hsm_ hseg
  obtain ⟨I0, I1, h0_, hr_, b_, f_, d_⟩ := bx_cl (evs := [(0, (0, 6), (9, 0), .inr (0, (16, 0))), (0, (0, 7), (11, 0), .inr (0, (15, 0))), (0, (0, 6), (11, 0), .inr (0, (14, 0))), (0, (0, 5), (0, 0), .inr (0, (13, 0))), (0, (0, 19), (0, 0), .inr (0, (12, 0))), (0, (0, 10), (8, 0), .inr (0, (11, 0))), (0, (0, 1), (0, 5), .inr (0, (10, 0)))]) (fvs := [(0, (12, 0), (16, 0), (0, 0)), (0, (9, 0), (13, 0), (0, 0)), (0, (12, 0), (15, 0), (0, 0)), (1, (14, 0), (12, 0), (0, 0)), (0, (11, 0), (13, 0), (0, 0)), (3, (11, 0), (9, 0), (0, 0)), (0, (8, 0), (10, 0), (0, 0))]) hseg (by decide +kernel) (by decide +kernel)
  have hinv : rxIMLD_0 S0 ws S (r 8) (r 9) := hinv
  rw [← hr_ 8 (by decide), ← hr_ 9 (by decide)] at hinv
  obtain ⟨⟨l8, u8⟩, ⟨l9, u9⟩, ⟨l10, u10⟩, ⟨l11, u11⟩, ⟨l12, u12⟩, ⟨l13, u13⟩, ⟨l14, u14⟩, ⟨l15, u15⟩, ⟨l16, u16⟩, -⟩ := b_
  obtain ⟨f0, f1, f2, f3, f4, f5, f6, -⟩ := f_
  obtain ⟨e0, ⟨e1, ⟨e2, ⟨e3, ⟨e4, ⟨e5, ⟨e6, w_⟩⟩⟩⟩⟩⟩⟩ := d_
  subst w_
  have g := rxdMLD_0_4 hP hin hsm_ I0 I1 hinv l8 u8 l9 u9 l10 u10 l11 u11 l12 u12 l13 u13 l14 u14 l15 u15 l16 u16 f0 f1 f2 f3 f4 f5 f6 e6 e5 e4 e3 e2 e1 e0
  refine ⟨bx_narP_ok (l := []) g.1, ?_⟩
  show rxPSMLD S0 ws S_p (some (bx_num r_p (.inr (0, (0, 0)))))
  rw [bx_xv_ok h0_]
  exact g.2
theorem rxdMLD_0_5 {S0 : Nat → Int → Int} {ws : List Int} {S : Nat → Int → Int} {vs ps x10 x11 x12 x13 x14 x15 : Int} (hP : rxPMLD S0 ws) (hin : bx_same rxL (bx_mdl rxCMLD.2.2.1) S0 S) (hin2 : bx_same rxL (bx_mdl rxCMLD.2.2.1) S S) (I0 : bx_Inv rxL S) (I1 : bx_Inv rxL S) (hinv : rxIMLD_0 S0 ws S vs ps) (l8 : 0 ≤ vs) (u8 : vs ≤ 11) (l9 : 0 ≤ ps) (u9 : ps ≤ 7) (l10 : 1 ≤ x10) (u10 : x10 ≤ 12) (l11 : 0 ≤ x11) (u11 : x11 ≤ 7) (l12 : 0 ≤ x12) (u12 : x12 ≤ 300) (l13 : 1 ≤ x13) (u13 : x13 ≤ 8) (l14 : 0 ≤ x14) (u14 : x14 ≤ 200) (l15 : 0 ≤ x15) (u15 : x15 ≤ 300) (f0 : x15 ≤ x12) (f1 : x14 ≤ x12) (f2 : x11 < x13) (f3 : x11 ≠ ps) (f4 : vs < x10) (e5 : S 1 5 = x10) (e4 : S 10 vs = x11) (e3 : S 19 0 = x12) (e2 : S 5 0 = x13) (e1 : S 6 x11 = x14) (e0 : S 7 x11 = x15) : (True) ∧ rxPSMLD S0 ws S (some 0) := by
  obtain ⟨rfl, hw⟩ := hinv
  obtain ⟨vs9, ps9, hw2, hvs, hps, hho, hdp⟩ := hP
  have w0_ : vs = vs9 := Option.some.inj (congrArg (fun l : List Int => l[1]?) (hw.symm.trans hw2))
  subst w0_
  have w1_ : ps = ps9 := Option.some.inj (congrArg (fun l : List Int => l[2]?) (hw.symm.trans hw2))
  subst w1_
  have hh : S 10 vs = x11 := e4
  refine ⟨trivial, vs, ps, hw, Or.inr ⟨rfl, ?_⟩⟩
  unfold rkMln
  rw [hh]
  unfold rkAl
  first | (exfalso; omega) | exact Or.inl (by omega) | exact Or.inr (Or.inl (by omega)) | exact Or.inr (Or.inr (Or.inl (by omega)))
theorem rxfMLD_0_5 {X : (Nat → Int → Int) → Prop} {S0 : Nat → Int → Int} {ws : List Int} (hP : rxPMLD S0 ws) : bx_obE rxL X S0 rxCMLD.2.2.1 (rxIMLD S0 ws) (rxPSMLD S0 ws) 0 rxzMLD_0 rxeMLD_0_5 := by
  intro S S_p r r_p hinv hX hin hsm_ hseg
  obtain ⟨I0, I1, h0_, hr_, b_, f_, d_⟩ := bx_cl (evs := [(0, (0, 7), (11, 0), .inr (0, (15, 0))), (0, (0, 6), (11, 0), .inr (0, (14, 0))), (0, (0, 5), (0, 0), .inr (0, (13, 0))), (0, (0, 19), (0, 0), .inr (0, (12, 0))), (0, (0, 10), (8, 0), .inr (0, (11, 0))), (0, (0, 1), (0, 5), .inr (0, (10, 0)))]) (fvs := [(1, (15, 0), (12, 0), (0, 0)), (1, (14, 0), (12, 0), (0, 0)), (0, (11, 0), (13, 0), (0, 0)), (3, (11, 0), (9, 0), (0, 0)), (0, (8, 0), (10, 0), (0, 0))]) hseg (by decide +kernel) (by decide +kernel)
  have hinv : rxIMLD_0 S0 ws S (r 8) (r 9) := hinv
  rw [← hr_ 8 (by decide), ← hr_ 9 (by decide)] at hinv
  obtain ⟨⟨l8, u8⟩, ⟨l9, u9⟩, ⟨l10, u10⟩, ⟨l11, u11⟩, ⟨l12, u12⟩, ⟨l13, u13⟩, ⟨l14, u14⟩, ⟨l15, u15⟩, -⟩ := b_
  obtain ⟨f0, f1, f2, f3, f4, -⟩ := f_
  obtain ⟨e0, ⟨e1, ⟨e2, ⟨e3, ⟨e4, ⟨e5, w_⟩⟩⟩⟩⟩⟩ := d_
  subst w_
  have g := rxdMLD_0_5 hP hin hsm_ I0 I1 hinv l8 u8 l9 u9 l10 u10 l11 u11 l12 u12 l13 u13 l14 u14 l15 u15 f0 f1 f2 f3 f4 e5 e4 e3 e2 e1 e0
  refine ⟨bx_narP_ok (l := []) g.1, ?_⟩
  show rxPSMLD S0 ws S_p (some (bx_num r_p (.inr (0, (0, 0)))))
  rw [bx_xv_ok h0_]
  exact g.2
theorem rxdMLD_0_6 {S0 : Nat → Int → Int} {ws : List Int} {S : Nat → Int → Int} {vs ps x10 x11 x12 x13 x14 : Int} (hP : rxPMLD S0 ws) (hin : bx_same rxL (bx_mdl rxCMLD.2.2.1) S0 S) (hin2 : bx_same rxL (bx_mdl rxCMLD.2.2.1) S S) (I0 : bx_Inv rxL S) (I1 : bx_Inv rxL S) (hinv : rxIMLD_0 S0 ws S vs ps) (l8 : 0 ≤ vs) (u8 : vs ≤ 11) (l9 : 0 ≤ ps) (u9 : ps ≤ 7) (l10 : 1 ≤ x10) (u10 : x10 ≤ 12) (l11 : 0 ≤ x11) (u11 : x11 ≤ 7) (l12 : 0 ≤ x12) (u12 : x12 ≤ 199) (l13 : 1 ≤ x13) (u13 : x13 ≤ 8) (l14 : 1 ≤ x14) (u14 : x14 ≤ 200) (f0 : x12 < x14) (f1 : x11 < x13) (f2 : x11 ≠ ps) (f3 : vs < x10) (e4 : S 1 5 = x10) (e3 : S 10 vs = x11) (e2 : S 19 0 = x12) (e1 : S 5 0 = x13) (e0 : S 6 x11 = x14) : (True) ∧ rxPSMLD S0 ws S (some 0) := by
  obtain ⟨rfl, hw⟩ := hinv
  obtain ⟨vs9, ps9, hw2, hvs, hps, hho, hdp⟩ := hP
  have w0_ : vs = vs9 := Option.some.inj (congrArg (fun l : List Int => l[1]?) (hw.symm.trans hw2))
  subst w0_
  have w1_ : ps = ps9 := Option.some.inj (congrArg (fun l : List Int => l[2]?) (hw.symm.trans hw2))
  subst w1_
  have hh : S 10 vs = x11 := e3
  refine ⟨trivial, vs, ps, hw, Or.inr ⟨rfl, ?_⟩⟩
  unfold rkMln
  rw [hh]
  unfold rkAl
  first | (exfalso; omega) | exact Or.inl (by omega) | exact Or.inr (Or.inl (by omega)) | exact Or.inr (Or.inr (Or.inl (by omega)))
theorem rxfMLD_0_6 {X : (Nat → Int → Int) → Prop} {S0 : Nat → Int → Int} {ws : List Int} (hP : rxPMLD S0 ws) : bx_obE rxL X S0 rxCMLD.2.2.1 (rxIMLD S0 ws) (rxPSMLD S0 ws) 0 rxzMLD_0 rxeMLD_0_6 := by
  intro S S_p r r_p hinv hX hin hsm_ hseg
  obtain ⟨I0, I1, h0_, hr_, b_, f_, d_⟩ := bx_cl (evs := [(0, (0, 6), (11, 0), .inr (0, (14, 0))), (0, (0, 5), (0, 0), .inr (0, (13, 0))), (0, (0, 19), (0, 0), .inr (0, (12, 0))), (0, (0, 10), (8, 0), .inr (0, (11, 0))), (0, (0, 1), (0, 5), .inr (0, (10, 0)))]) (fvs := [(0, (12, 0), (14, 0), (0, 0)), (0, (11, 0), (13, 0), (0, 0)), (3, (11, 0), (9, 0), (0, 0)), (0, (8, 0), (10, 0), (0, 0))]) hseg (by decide +kernel) (by decide +kernel)
  have hinv : rxIMLD_0 S0 ws S (r 8) (r 9) := hinv
  rw [← hr_ 8 (by decide), ← hr_ 9 (by decide)] at hinv
  obtain ⟨⟨l8, u8⟩, ⟨l9, u9⟩, ⟨l10, u10⟩, ⟨l11, u11⟩, ⟨l12, u12⟩, ⟨l13, u13⟩, ⟨l14, u14⟩, -⟩ := b_
  obtain ⟨f0, f1, f2, f3, -⟩ := f_
  obtain ⟨e0, ⟨e1, ⟨e2, ⟨e3, ⟨e4, w_⟩⟩⟩⟩⟩ := d_
  subst w_
  have g := rxdMLD_0_6 hP hin hsm_ I0 I1 hinv l8 u8 l9 u9 l10 u10 l11 u11 l12 u12 l13 u13 l14 u14 f0 f1 f2 f3 e4 e3 e2 e1 e0
  refine ⟨bx_narP_ok (l := []) g.1, ?_⟩
  show rxPSMLD S0 ws S_p (some (bx_num r_p (.inr (0, (0, 0)))))
  rw [bx_xv_ok h0_]
  exact g.2
theorem rxdMLD_0_7 {S0 : Nat → Int → Int} {ws : List Int} {S : Nat → Int → Int} {vs ps x10 x11 : Int} (hP : rxPMLD S0 ws) (hin : bx_same rxL (bx_mdl rxCMLD.2.2.1) S0 S) (hin2 : bx_same rxL (bx_mdl rxCMLD.2.2.1) S S) (I0 : bx_Inv rxL S) (I1 : bx_Inv rxL S) (hinv : rxIMLD_0 S0 ws S vs ps) (l8 : 0 ≤ vs) (u8 : vs ≤ 11) (l9 : 0 ≤ ps) (u9 : ps ≤ 7) (l10 : 1 ≤ x10) (u10 : x10 ≤ 12) (l11 : 0 ≤ x11) (u11 : x11 ≤ 7) (f0 : x11 = ps) (f1 : vs < x10) (e1 : S 1 5 = x10) (e0 : S 10 vs = x11) : (True) ∧ rxPSMLD S0 ws S (some 0) := by
  obtain ⟨rfl, hw⟩ := hinv
  obtain ⟨vs9, ps9, hw2, hvs, hps, hho, hdp⟩ := hP
  have w0_ : vs = vs9 := Option.some.inj (congrArg (fun l : List Int => l[1]?) (hw.symm.trans hw2))
  subst w0_
  have w1_ : ps = ps9 := Option.some.inj (congrArg (fun l : List Int => l[2]?) (hw.symm.trans hw2))
  subst w1_
  have hh : S 10 vs = x11 := e0
  refine ⟨trivial, vs, ps, hw, Or.inr ⟨rfl, ?_⟩⟩
  unfold rkMln
  rw [hh]
  unfold rkAl
  first | (exfalso; omega) | exact Or.inl (by omega) | exact Or.inr (Or.inl (by omega)) | exact Or.inr (Or.inr (Or.inl (by omega)))
theorem rxfMLD_0_7 {X : (Nat → Int → Int) → Prop} {S0 : Nat → Int → Int} {ws : List Int} (hP : rxPMLD S0 ws) : bx_obE rxL X S0 rxCMLD.2.2.1 (rxIMLD S0 ws) (rxPSMLD S0 ws) 0 rxzMLD_0 rxeMLD_0_7 := by
  intro S S_p r r_p hinv hX hin hsm_ hseg
  obtain ⟨I0, I1, h0_, hr_, b_, f_, d_⟩ := bx_cl (evs := [(0, (0, 10), (8, 0), .inr (0, (11, 0))), (0, (0, 1), (0, 5), .inr (0, (10, 0)))]) (fvs := [(2, (11, 0), (9, 0), (0, 0)), (0, (8, 0), (10, 0), (0, 0))]) hseg (by decide +kernel) (by decide +kernel)
  have hinv : rxIMLD_0 S0 ws S (r 8) (r 9) := hinv
  rw [← hr_ 8 (by decide), ← hr_ 9 (by decide)] at hinv
  obtain ⟨⟨l8, u8⟩, ⟨l9, u9⟩, ⟨l10, u10⟩, ⟨l11, u11⟩, -⟩ := b_
  obtain ⟨f0, f1, -⟩ := f_
  obtain ⟨e0, ⟨e1, w_⟩⟩ := d_
  subst w_
  have g := rxdMLD_0_7 hP hin hsm_ I0 I1 hinv l8 u8 l9 u9 l10 u10 l11 u11 f0 f1 e1 e0
  refine ⟨bx_narP_ok (l := []) g.1, ?_⟩
  show rxPSMLD S0 ws S_p (some (bx_num r_p (.inr (0, (0, 0)))))
  rw [bx_xv_ok h0_]
  exact g.2
theorem rxdMLD_2_0 {S0 : Nat → Int → Int} {ws : List Int} {S : Nat → Int → Int} {vs ps hd pa y r : Int} (hP : rxPMLD S0 ws) (hin : bx_same rxL (bx_mdl rxCMLD.2.2.1) S0 S) (hin2 : bx_same rxL (bx_mdl rxCMLD.2.2.1) S S) (I0 : bx_Inv rxL S) (I1 : bx_Inv rxL S) (hinv : rxIMLD_2 S0 ws S vs ps hd pa y r) (l8 : 0 ≤ vs) (u8 : vs ≤ 11) (l9 : 0 ≤ ps) (u9 : ps ≤ 7) (l10 : 0 ≤ hd) (u10 : hd ≤ 7) (l11 : 0 ≤ pa) (u11 : pa ≤ 5) (l12 : 0 ≤ y) (u12 : y ≤ 299) (l13 : 0 ≤ r) (u13 : r ≤ 1) : (True) ∧ rxPSMLD S0 ws S (some r) := by
  obtain ⟨hw, h⟩ := hinv
  exact ⟨trivial, vs, ps, hw, h.imp (fun q => ⟨congrArg some q.1, q.2⟩) (fun q => ⟨congrArg some q.1, q.2⟩)⟩
theorem rxfMLD_2_0 {X : (Nat → Int → Int) → Prop} {S0 : Nat → Int → Int} {ws : List Int} (hP : rxPMLD S0 ws) : bx_obE rxL X S0 rxCMLD.2.2.1 (rxIMLD S0 ws) (rxPSMLD S0 ws) 2 rxzMLD_2 rxeMLD_2_0 := by
  intro S S_p r r_p hinv hX hin hsm_ hseg
  obtain ⟨I0, I1, h0_, hr_, b_, f_, d_⟩ := bx_cl (evs := []) (fvs := []) hseg (by decide +kernel) (by decide +kernel)
  have hinv : rxIMLD_2 S0 ws S (r 8) (r 9) (r 10) (r 11) (r 12) (r 13) := hinv
  rw [← hr_ 8 (by decide), ← hr_ 9 (by decide), ← hr_ 10 (by decide), ← hr_ 11 (by decide), ← hr_ 12 (by decide), ← hr_ 13 (by decide)] at hinv
  obtain ⟨⟨l8, u8⟩, ⟨l9, u9⟩, ⟨l10, u10⟩, ⟨l11, u11⟩, ⟨l12, u12⟩, ⟨l13, u13⟩, -⟩ := b_
  have w_ := d_
  subst w_
  have g := rxdMLD_2_0 hP hin hsm_ I0 I1 hinv l8 u8 l9 u9 l10 u10 l11 u11 l12 u12 l13 u13
  refine ⟨bx_narP_ok (l := []) g.1, ?_⟩
  show rxPSMLD S0 ws S_p (some (bx_num r_p (.inr (0, (13, 0)))))
  rw [bx_xv_ok h0_]
  exact g.2
theorem rxgCMLD {X : (Nat → Int → Int) → Prop} {S0 : Nat → Int → Int} {ws : List Int} (hP : rxPMLD S0 ws) : bx_allI (fun i q => rxUMLD q = true ∨ bx_allP (fun o => bx_obC rxL X S0 rxCMLD.2.2.1 (rxIMLD S0 ws) (rxmMLD S0 ws) i q.1 o) q.2.1) 0 rxYMLD := ⟨Or.inr ⟨rxgMLD_0_0 hP, trivial⟩, Or.inl rfl, Or.inr trivial, trivial⟩
theorem rxgEMLD {X : (Nat → Int → Int) → Prop} {S0 : Nat → Int → Int} {ws : List Int} (hP : rxPMLD S0 ws) : bx_allI (fun i q => rxUMLD q = true ∨ bx_allP (fun E => bx_obE rxL X S0 rxCMLD.2.2.1 (rxIMLD S0 ws) (rxPSMLD S0 ws) i q.1 E) q.2.2) 0 rxYMLD := ⟨Or.inr ⟨rxfMLD_0_0 hP, rxfMLD_0_1 hP, rxfMLD_0_2 hP, rxfMLD_0_3 hP, rxfMLD_0_4 hP, rxfMLD_0_5 hP, rxfMLD_0_6 hP, rxfMLD_0_7 hP, trivial⟩, Or.inl rfl, Or.inr ⟨rxfMLD_2_0 hP, trivial⟩, trivial⟩
theorem rxuMLD {PX : State → Prop} {Dg : va_G} {A : Nat → Prop} {ad xa : Nat → Nat} {l : Launch} {X : (Nat → Int → Int) → Prop} (hPX : rx_PXOK rxNW A PX) (hX : ∀ S S1 : Nat → Int → Int, X S → bx_same rxL (bx_mdl rxCMLD.2.2.1) S S1 → X S1) (hQITD : bx_ConP rxG rxNW rxAO PX Dg rxL X vwCl A ad l rxM35 rxCITD rxPITD rxPSITD) {S0 : Nat → Int → Int} {ws : List Int} (hP : rxPMLD S0 ws) : ∀ (i : Nat) (q : bx_HE), rxYMLD[i]? = some q → rxUMLD q = true → ∀ {p : Program} {e : Env} {R : Room} {s : State} {m : MethodId} {args : Array Value} {below : List Frame} {meth : Method} {c : Code} {Q : State → Prop} {H0 : Heap}, rx_Fr rxG rxNW rxAO PX p s m args meth c rxM125 → (∀ q, H0.size ≤ q → A q) → H0 = s.heap → rxM125.2.2.2.2.2.2.1 ≤ R.cells → rxM125.2.2.2.2.2.2.2 ≤ R.slots → rxCMLD.2.2.2.1 ≤ R.frames → rxCMLD.2.2.2.1 * 40 ≤ R.locals → bx_Step p l e R s m args below meth c Q Dg rxL X vwCl A xa H0 ad rxM125 rxYMLD (rxIMLD S0 ws) (rxmMLD S0 ws) S0 rxCMLD.2.2.1 i q := by
  intro i q hq hus p e R s m args below meth c Q H0 hF hA hH0 hmc hms hd hdl
  match i, hq with
  | 0, hq =>
    cases hq
    exact absurd (show false = true from hus) Bool.false_ne_true
  | 1, hq =>
    cases hq
    exact rx_stepC (ins := .invokevirtual 122) (len := 3) (i_p := 2) (M_p := rxM35) (d := rxCMLD.2.2.2.1) (as := [.inr (3, (0, 1)), .inr (0, (11, 0)), .inr (0, (10, 0)), .inr (0, (9, 0)), .inr (0, (12, 0))]) (t := []) (ct := rxCITD) hPX hF rfl hA hH0 hmc hms hd hdl (by decide +kernel) rfl rfl (by decide +kernel) (by decide +kernel) hQITD (by decide +kernel) rfl (Or.inr ⟨_, _, _, 1, rfl, rfl, by omega, rfl, rfl, rfl⟩) (rxsMLD_1 hP)
  | 2, hq =>
    cases hq
    exact absurd (show false = true from hus) Bool.false_ne_true
  | n + 3, hq => cases hq
theorem rxQMLD {PX : State → Prop} {Dg : va_G} {A : Nat → Prop} {ad xa : Nat → Nat} {l : Launch} {X : (Nat → Int → Int) → Prop} (hPX : rx_PXOK rxNW A PX) (hsl : ∀ s : State, PX s → ∀ o idx n : Nat, rxSl o idx = some n → ∃ tx : String, vk_R (rxNm o) idx tx (ad n) s)
    (hX : ∀ S S_p : Nat → Int → Int, X S → bx_same rxL (bx_mdl rxCMLD.2.2.1) S S_p → X S_p)
    (ih : ∀ (j2 : Nat) (ct2 : bx_Ct) (M2 : rx_Mt), ct2 ∈ rxCnE j2 → ct2.2.2.2.1 + 1 ≤ rxCMLD.2.2.2.1 → rxT.2.2.2.2.2 j2 = some M2 → bx_Con rxG rxNW rxAO PX Dg rxL X vwCl A ad l M2 ct2) (hQITD : bx_ConP rxG rxNW rxAO PX Dg rxL X vwCl A ad l rxM35 rxCITD rxPITD rxPSITD) : bx_ConP rxG rxNW rxAO PX Dg rxL X vwCl A ad l rxM125 rxCMLD rxPMLD rxPSMLD :=
  rxQof (xa := xa) (Cn := rxCnE) (f := 30000) (j := 125) (tab := rxYMLD) (us := rxUMLD) hPX hsl hX ih rfl rxYcMLD rxIMLD rxmMLD
    (fun S0 ws r I0 I ht0 ht as he he1 hX0 hI0 hP hs ha => by
      have e := he.symm.trans (show bx_ent0 rxNP rxCMLD.1 bx_I0 [] = some ([(0, 0), (0, 0), (0, 0), (0, 0), (0, 0), (0, 0), (0, 0), (0, 0), (0, 11), (0, 7)], [], [.inr (3, (0, 1)), .inr (0, (8, 0)), .inr (0, (9, 0))]) from rfl)
      cases e
      subst ha
      have h0 : r 0 = 0 := hs.1
      show rxIMLD_0 S0 _ S0 (r 8) (r 9)
      refine ⟨rfl, ?_⟩
      simp only [List.map_cons, List.map_nil, bx_xv_ok h0]
      rfl)
    (fun S0 ws hP => rxuMLD (xa := xa) hPX hX hQITD hP) (fun S0 ws hP => rxgCMLD hP) (fun S0 ws hP => rxgEMLD hP)
