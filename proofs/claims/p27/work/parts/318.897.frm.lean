noncomputable def rxCSEAT : bx_Ct := ([(3, (1, 443, 0)), (3, (2, 10, 0)), (3, (2, 10, 0)), (0, (0, 0, 1))], none, [(3, 2), (1019, 0), (1020, 0)], 2, [])
noncomputable def rxISEAT_0 (S0 : Nat → Int → Int) (ws : List Int) (S : Nat → Int → Int) (on ot al : Int) : Prop := S = S0 ∧ ws = [443, on, ot, al]
noncomputable def rxmSEAT_0 (S0 : Nat → Int → Int) (ws : List Int) (S : Nat → Int → Int) (on ot al : Int) : Nat := 100
noncomputable def rxzSEAT_0 : rx_Z := ([(0, 0), (0, 0), (0, 0), (0, 0), (0, 0), (0, 0), (0, 0), (0, 0), (0, 1522), (0, 1522), (0, 1)], [], [(((9, 0), 1000010), .inl none), (((8, 0), 1000010), .inl none)], 0, 0, 0, [(0, .inr (3, (0, 443))), (1, .inr (3, (8, 0))), (2, .inr (3, (9, 0))), (3, .inr (0, (10, 0)))], [])
noncomputable def rxISEAT_1 (S0 : Nat → Int → Int) (ws : List Int) (S : Nat → Int → Int) (on ot al : Int) : Prop := S = S0 ∧ ws = [443, on, ot, al]
noncomputable def rxmSEAT_1 (S0 : Nat → Int → Int) (ws : List Int) (S : Nat → Int → Int) (on ot al : Int) : Nat := 90
noncomputable def rxzSEAT_1 : rx_Z := ([(0, 0), (0, 0), (0, 0), (0, 0), (0, 0), (0, 0), (0, 0), (0, 0), (0, 1522), (0, 1522), (0, 1)], [], [(((8, 0), 1000010), .inl none), (((9, 0), 1000010), .inl none)], 0, 0, 5, [(0, .inr (3, (0, 443))), (1, .inr (3, (8, 0))), (2, .inr (3, (9, 0))), (3, .inr (0, (10, 0)))], [.inr (3, (8, 0)), .inr (3, (0, 444))])
noncomputable def rxISEAT_2 (S0 : Nat → Int → Int) (ws : List Int) (S : Nat → Int → Int) (on ot al : Int) : Prop := ws = [443, on, ot, al] ∧ (∀ a : Int, 0 ≤ a → on = 23 + 3 * a → (∀ j : Int, 0 ≤ j → j < 36 → S 445 j = S0 (24 + 3 * a).toNat j ∧ S 446 j = S0 (25 + 3 * a).toNat j)) ∧ (∀ (p : Nat) (j : Int), p ≠ 445 → p ≠ 446 → S p j = S0 p j)
noncomputable def rxmSEAT_2 (S0 : Nat → Int → Int) (ws : List Int) (S : Nat → Int → Int) (on ot al : Int) : Nat := 80
noncomputable def rxzSEAT_2 : rx_Z := ([(0, 0), (0, 0), (0, 0), (0, 0), (0, 0), (0, 0), (0, 0), (0, 0), (0, 1522), (0, 1522), (0, 1)], [], [(((8, 0), 1000010), .inl none), (((9, 0), 1000010), .inl none)], 0, 0, 8, [(0, .inr (3, (0, 443))), (1, .inr (3, (8, 0))), (2, .inr (3, (9, 0))), (3, .inr (0, (10, 0)))], [])
noncomputable def rxISEAT_3 (S0 : Nat → Int → Int) (ws : List Int) (S : Nat → Int → Int) (on ot al : Int) : Prop := ws = [443, on, ot, al] ∧ (∀ a : Int, 0 ≤ a → on = 23 + 3 * a → (∀ j : Int, 0 ≤ j → j < 36 → S 445 j = S0 (24 + 3 * a).toNat j ∧ S 446 j = S0 (25 + 3 * a).toNat j)) ∧ (∀ (p : Nat) (j : Int), p ≠ 445 → p ≠ 446 → S p j = S0 p j)
noncomputable def rxmSEAT_3 (S0 : Nat → Int → Int) (ws : List Int) (S : Nat → Int → Int) (on ot al : Int) : Nat := 70
noncomputable def rxzSEAT_3 : rx_Z := ([(0, 0), (0, 0), (0, 0), (0, 0), (0, 0), (0, 0), (0, 0), (0, 0), (0, 1522), (0, 1522), (0, 1)], [], [(((8, 0), 1000010), .inl none), (((9, 0), 1000010), .inl none)], 0, 0, 13, [(0, .inr (3, (0, 443))), (1, .inr (3, (8, 0))), (2, .inr (3, (9, 0))), (3, .inr (0, (10, 0)))], [.inr (3, (9, 0)), .inr (3, (0, 447))])
noncomputable def rxISEAT_4 (S0 : Nat → Int → Int) (ws : List Int) (S : Nat → Int → Int) (on ot al : Int) : Prop := ws = [443, on, ot, al] ∧ (∀ a : Int, 0 ≤ a → on = 23 + 3 * a → (∀ j : Int, 0 ≤ j → j < 36 → S 445 j = S0 (24 + 3 * a).toNat j ∧ S 446 j = S0 (25 + 3 * a).toNat j)) ∧ (∀ b : Int, 0 ≤ b → b ≤ 17 → ot = 23 + 3 * b → (∀ j : Int, 0 ≤ j → j < 36 → S 448 j = S0 (24 + 3 * b).toNat j ∧ S 449 j = S0 (25 + 3 * b).toNat j)) ∧ (∀ (p : Nat) (j : Int), p ≠ 445 → p ≠ 446 → p ≠ 448 → p ≠ 449 → S p j = S0 p j)
noncomputable def rxmSEAT_4 (S0 : Nat → Int → Int) (ws : List Int) (S : Nat → Int → Int) (on ot al : Int) : Nat := 60
noncomputable def rxzSEAT_4 : rx_Z := ([(0, 0), (0, 0), (0, 0), (0, 0), (0, 0), (0, 0), (0, 0), (0, 0), (0, 1522), (0, 1522), (0, 1)], [], [(((8, 0), 1000010), .inl none), (((9, 0), 1000010), .inl none)], 0, 0, 16, [(0, .inr (3, (0, 443))), (1, .inr (3, (8, 0))), (2, .inr (3, (9, 0))), (3, .inr (0, (10, 0)))], [])
noncomputable def rxoSEAT_0_0 : bx_HO := (([(0, 0), (0, 0), (0, 0), (0, 0), (0, 0), (0, 0), (0, 0), (0, 0), (0, 1522), (0, 1522), (0, 1)], [], [(((0, 443), 0), .inr (3, (0, 444))), (((9, 0), 1000010), .inl none), (((8, 0), 1000010), .inl none)], 0, 0, 5, [(0, .inr (3, (0, 443))), (1, .inr (3, (8, 0))), (2, .inr (3, (9, 0))), (3, .inr (0, (10, 0)))], [.inr (3, (8, 0)), .inr (3, (0, 444))]), [], [], [(0, 0), (0, 0), (0, 0), (0, 0), (0, 0), (0, 0), (0, 0), (0, 0), (8, 0), (9, 0), (10, 0)], 1)
noncomputable def rxoSEAT_2_0 : bx_HO := (([(0, 0), (0, 0), (0, 0), (0, 0), (0, 0), (0, 0), (0, 0), (0, 0), (0, 1522), (0, 1522), (0, 1)], [], [(((0, 443), 1), .inr (3, (0, 447))), (((8, 0), 1000010), .inl none), (((9, 0), 1000010), .inl none)], 0, 0, 13, [(0, .inr (3, (0, 443))), (1, .inr (3, (8, 0))), (2, .inr (3, (9, 0))), (3, .inr (0, (10, 0)))], [.inr (3, (9, 0)), .inr (3, (0, 447))]), [], [], [(0, 0), (0, 0), (0, 0), (0, 0), (0, 0), (0, 0), (0, 0), (0, 0), (8, 0), (9, 0), (10, 0)], 3)
noncomputable def rxeSEAT_4_0 : rx_End × List (Nat × Int × Int) := (([(0, 0), (0, 0), (0, 0), (0, 0), (0, 0), (0, 0), (0, 0), (0, 0), (0, 1522), (0, 1522), (0, 1)], [], [(((0, 0), 1851192626986356797825753743950570534658660943933713684922302467000000), .inr (0, (10, 0))), (((0, 443), 2), .inr (0, (10, 0))), (((8, 0), 1000010), .inl none), (((9, 0), 1000010), .inl none)], none), [])
noncomputable def rxYSEAT : List bx_HE := [(rxzSEAT_0, [rxoSEAT_0_0], []), (rxzSEAT_1, [], []), (rxzSEAT_2, [rxoSEAT_2_0], []), (rxzSEAT_3, [], []), (rxzSEAT_4, [], [rxeSEAT_4_0])]
noncomputable def rxUSEAT (q : bx_HE) : Bool := Nat.beq (rx_zpc q.1) 5 || Nat.beq (rx_zpc q.1) 13
noncomputable def rxYBSEAT : bx_B := (rxV, rxNP, rxDmf, bx_mdH rxCSEAT.2.2.1)
set_option maxRecDepth 100000 in
theorem rxYcSEAT : bx_chkH rxYBSEAT rxM155 rxCSEAT rxYSEAT (rxUSEAT, fun cut z => rx_ex2 (rxCT rxYBSEAT rxCnE) cut 30000 rxCSEAT.2.2.2.1 155 z) = true := by decide +kernel
noncomputable def rxISEAT (S0 : Nat → Int → Int) (ws : List Int) (i : Nat) : bx_SP := fun S r => match i with | 0 => rxISEAT_0 S0 ws S (r 8) (r 9) (r 10) | 1 => rxISEAT_1 S0 ws S (r 8) (r 9) (r 10) | 2 => rxISEAT_2 S0 ws S (r 8) (r 9) (r 10) | 3 => rxISEAT_3 S0 ws S (r 8) (r 9) (r 10) | 4 => rxISEAT_4 S0 ws S (r 8) (r 9) (r 10) | _ => False
noncomputable def rxmSEAT (S0 : Nat → Int → Int) (ws : List Int) (i : Nat) (S : Nat → Int → Int) (r : Nat → Int) : Nat := match i with | 0 => rxmSEAT_0 S0 ws S (r 8) (r 9) (r 10) | 1 => rxmSEAT_1 S0 ws S (r 8) (r 9) (r 10) | 2 => rxmSEAT_2 S0 ws S (r 8) (r 9) (r 10) | 3 => rxmSEAT_3 S0 ws S (r 8) (r 9) (r 10) | 4 => rxmSEAT_4 S0 ws S (r 8) (r 9) (r 10) | _ => 0
noncomputable def rxPSEAT (S0 : Nat → Int → Int) (ws : List Int) : Prop := rkPl S0 ∧ rkDu S0 ∧ ∃ on ot al a b : Int, ws = [443, on, ot, al] ∧ on = 23 + 3 * a ∧ ot = 23 + 3 * b ∧ (0 ≤ a ∧ a ≤ 17) ∧ (0 ≤ b ∧ b ≤ 17)
noncomputable def rxPSSEAT (S0 : Nat → Int → Int) (ws : List Int) (S : Nat → Int → Int) (w : Option Int) : Prop := w = none ∧ ∃ on ot al : Int, ws = [443, on, ot, al] ∧ (∀ a : Int, 0 ≤ a → on = 23 + 3 * a → (∀ j : Int, 0 ≤ j → j < 36 → S 445 j = S0 (24 + 3 * a).toNat j ∧ S 446 j = S0 (25 + 3 * a).toNat j)) ∧ (∀ b : Int, 0 ≤ b → b ≤ 17 → ot = 23 + 3 * b → (∀ j : Int, 0 ≤ j → j < 36 → S 448 j = S0 (24 + 3 * b).toNat j ∧ S 449 j = S0 (25 + 3 * b).toNat j)) ∧ S 443 2 = al ∧ (∀ (p : Nat) (j : Int), p ≠ 445 → p ≠ 446 → p ≠ 448 → p ≠ 449 → ¬ (p = 443 ∧ j = 2) → S p j = S0 p j)
theorem rxkSEAT_1 {S0 : Nat → Int → Int} {ws : List Int} {S : Nat → Int → Int} {on ot al : Int} (hP : rxPSEAT S0 ws) (hin : bx_same rxL (bx_mdl rxCSEAT.2.2.1) S0 S) (I0 : bx_Inv rxL S) (hinv : rxISEAT_1 S0 ws S on ot al) (l8 : 0 ≤ on) (u8 : on ≤ 1522) (l9 : 0 ≤ ot) (u9 : ot ≤ 1522) (l10 : 0 ≤ al) (u10 : al ≤ 1) : rxPSCZ S [444, on] ∧ ∀ (S_p : Nat → Int → Int), rxPSSCZ S [444, on] S_p none → bx_Inv rxL S_p → bx_same rxL (bx_mdl rxCSCZ.2.2.1) S S_p → rxISEAT_2 S0 ws S_p on ot al ∧ rxmSEAT_2 S0 ws S_p on ot al < rxmSEAT_1 S0 ws S on ot al := by
  obtain ⟨rfl, hw⟩ := hinv
  obtain ⟨hpl, hdu, on2, ot2, al2, a0_, b0_, hw2, ha, hb, ⟨a0, a17⟩, b0, b17⟩ := hP
  have k1_ : on = on2 := Option.some.inj (congrArg (fun l : List Int => l[1]?) (hw.symm.trans hw2))
  have k2_ : ot = ot2 := Option.some.inj (congrArg (fun l : List Int => l[2]?) (hw.symm.trans hw2))
  subst k1_
  subst k2_
  subst ha
  refine ⟨rjd_cd (t := 444) hpl (by decide) hdu.1 (by decide) a0 a17, fun S_p hq _ hsm => ⟨⟨hw, fun a x y => ?_, ?_⟩, by unfold rxmSEAT_1 rxmSEAT_2; omega⟩⟩
  · have e : a0_ = a := by omega
    subst e
    exact (rjd_sd (t := 444) x hq.2).1
  · exact (rjd_sd (t := 444) a0 hq.2).2
theorem rxsSEAT_1 {X : (Nat → Int → Int) → Prop} {S0 : Nat → Int → Int} {ws : List Int} (hP : rxPSEAT S0 ws) : rx_obK X S0 rxCSEAT.2.2.1 rxCSCZ.2.2.1 (rxISEAT S0 ws) (rxmSEAT S0 ws) 1 2 rxzSEAT_1 rxzSEAT_2 [.inr (3, (0, 444)), .inr (3, (8, 0))] none rxPSCZ rxPSSCZ := by
  intro S r hinv hXS I0 hin hs_ hf_
  have b_ := bx_bds_sat hs_
  have f_ := bx_fcl_ok hs_.1 hf_
  obtain ⟨⟨l8, u8⟩, ⟨l9, u9⟩, ⟨l10, u10⟩, -⟩ := b_
  have g := rxkSEAT_1 hP hin I0 hinv l8 u8 l9 u9 l10 u10
  have ea : List.map (bx_num r) [.inr (3, (0, 444)), .inr (3, (8, 0))] = [444, (r 8)] := by
    simp only [List.map_cons, List.map_nil, bx_xv_ok hs_.1]
    rfl
  rw [ea]
  refine ⟨g.1, fun S_p w r_p hPS hX_p I1 hsm hr hw hs_p => ?_⟩
  have hw : w = none := hPS.1
  subst hw
  have g2 := g.2 S_p hPS I1 hsm
  show rxISEAT_2 S0 ws S_p (r_p 8) (r_p 9) (r_p 10) ∧ rxmSEAT_2 S0 ws S_p (r_p 8) (r_p 9) (r_p 10) < _
  rw [hr 8 (by decide), hr 9 (by decide), hr 10 (by decide)]
  exact g2
theorem rxkSEAT_3 {S0 : Nat → Int → Int} {ws : List Int} {S : Nat → Int → Int} {on ot al : Int} (hP : rxPSEAT S0 ws) (hin : bx_same rxL (bx_mdl rxCSEAT.2.2.1) S0 S) (I0 : bx_Inv rxL S) (hinv : rxISEAT_3 S0 ws S on ot al) (l8 : 0 ≤ on) (u8 : on ≤ 1522) (l9 : 0 ≤ ot) (u9 : ot ≤ 1522) (l10 : 0 ≤ al) (u10 : al ≤ 1) : rxPSCZ S [447, ot] ∧ ∀ (S_p : Nat → Int → Int), rxPSSCZ S [447, ot] S_p none → bx_Inv rxL S_p → bx_same rxL (bx_mdl rxCSCZ.2.2.1) S S_p → rxISEAT_4 S0 ws S_p on ot al ∧ rxmSEAT_4 S0 ws S_p on ot al < rxmSEAT_3 S0 ws S on ot al := by
  obtain ⟨hw, h5, hf⟩ := hinv
  obtain ⟨hpl, hdu, on2, ot2, al2, a0_, b0_, hw2, ha, hb, ⟨a0, a17⟩, b0, b17⟩ := hP
  have k1_ : on = on2 := Option.some.inj (congrArg (fun l : List Int => l[1]?) (hw.symm.trans hw2))
  have k2_ : ot = ot2 := Option.some.inj (congrArg (fun l : List Int => l[2]?) (hw.symm.trans hw2))
  subst k1_
  subst k2_
  subst hb
  have hpl_p := rkPl_sm hin (by decide +kernel) hpl
  have hdu_p := rkDu_sm hin (by decide +kernel) hdu
  refine ⟨rjd_cd (t := 447) hpl_p (by decide) hdu_p.2.1 (by decide) b0 b17, fun S_p hq _ hsm => ?_⟩
  obtain ⟨hc, hfr⟩ := rjd_sd (t := 447) b0 hq.2
  refine ⟨⟨hw, fun a x y j j0 j1 => ⟨(hfr 445 j (by decide) (by decide)).trans (h5 a x y j j0 j1).1, (hfr 446 j (by decide) (by decide)).trans (h5 a x y j j0 j1).2⟩, fun b x x7 y j j0 j1 => ?_, fun p j n1 n2 n3 n4 => (hfr p j n3 n4).trans (hf p j n1 n2)⟩, by unfold rxmSEAT_3 rxmSEAT_4; omega⟩
  have e : b0_ = b := by omega
  subst e
  exact ⟨(hc j j0 j1).1.trans (hf _ j (by omega) (by omega)), (hc j j0 j1).2.trans (hf _ j (by omega) (by omega))⟩
theorem rxsSEAT_3 {X : (Nat → Int → Int) → Prop} {S0 : Nat → Int → Int} {ws : List Int} (hP : rxPSEAT S0 ws) : rx_obK X S0 rxCSEAT.2.2.1 rxCSCZ.2.2.1 (rxISEAT S0 ws) (rxmSEAT S0 ws) 3 4 rxzSEAT_3 rxzSEAT_4 [.inr (3, (0, 447)), .inr (3, (9, 0))] none rxPSCZ rxPSSCZ := by
  intro S r hinv hXS I0 hin hs_ hf_
  have b_ := bx_bds_sat hs_
  have f_ := bx_fcl_ok hs_.1 hf_
  obtain ⟨⟨l8, u8⟩, ⟨l9, u9⟩, ⟨l10, u10⟩, -⟩ := b_
  have g := rxkSEAT_3 hP hin I0 hinv l8 u8 l9 u9 l10 u10
  have ea : List.map (bx_num r) [.inr (3, (0, 447)), .inr (3, (9, 0))] = [447, (r 9)] := by
    simp only [List.map_cons, List.map_nil, bx_xv_ok hs_.1]
    rfl
  rw [ea]
  refine ⟨g.1, fun S_p w r_p hPS hX_p I1 hsm hr hw hs_p => ?_⟩
  have hw : w = none := hPS.1
  subst hw
  have g2 := g.2 S_p hPS I1 hsm
  show rxISEAT_4 S0 ws S_p (r_p 8) (r_p 9) (r_p 10) ∧ rxmSEAT_4 S0 ws S_p (r_p 8) (r_p 9) (r_p 10) < _
  rw [hr 8 (by decide), hr 9 (by decide), hr 10 (by decide)]
  exact g2
theorem rxcSEAT_0_0 {S0 : Nat → Int → Int} {ws : List Int} {S : Nat → Int → Int} {on ot al : Int} (hP : rxPSEAT S0 ws) (hin : bx_same rxL (bx_mdl rxCSEAT.2.2.1) S0 S) (I0 : bx_Inv rxL S) (hinv : rxISEAT_0 S0 ws S on ot al) (l8 : 0 ≤ on) (u8 : on ≤ 1522) (l9 : 0 ≤ ot) (u9 : ot ≤ 1522) (l10 : 0 ≤ al) (u10 : al ≤ 1) : (True) ∧ (True) ∧ rxISEAT_1 S0 ws S on ot al ∧ rxmSEAT_1 S0 ws S on ot al < rxmSEAT_0 S0 ws S on ot al := by
  obtain ⟨rfl, hw⟩ := hinv
  exact ⟨trivial, trivial, ⟨rfl, hw⟩, by unfold rxmSEAT_0 rxmSEAT_1; omega⟩
theorem rxgSEAT_0_0 {X : (Nat → Int → Int) → Prop} {S0 : Nat → Int → Int} {ws : List Int} (hP : rxPSEAT S0 ws) : bx_obC rxL X S0 rxCSEAT.2.2.1 (rxISEAT S0 ws) (rxmSEAT S0 ws) 0 rxzSEAT_0 rxoSEAT_0_0 := by
  intro S S_p r r_p hinv hX hin hsm_ hseg
  obtain ⟨I0, I1, h0_, hr_, b_, f_, d_⟩ := bx_cl (evs := []) (fvs := []) hseg (by decide +kernel) (by decide +kernel)
  have hinv : rxISEAT_0 S0 ws S (r 8) (r 9) (r 10) := hinv
  rw [← hr_ 8 (by decide), ← hr_ 9 (by decide), ← hr_ 10 (by decide)] at hinv
  obtain ⟨⟨l8, u8⟩, ⟨l9, u9⟩, ⟨l10, u10⟩, -⟩ := b_
  have w_ := d_
  subst w_
  have g := rxcSEAT_0_0 hP hin I0 hinv l8 u8 l9 u9 l10 u10
  refine ⟨bx_narP_ok (l := []) g.1, bx_nfP_ok h0_ (fvs := []) (by decide +kernel) g.2.1, ?_, ?_⟩
  · show rxISEAT_1 S0 ws S_p (bx_val [(0, 0), (0, 0), (0, 0), (0, 0), (0, 0), (0, 0), (0, 0), (0, 0), (8, 0), (9, 0), (10, 0)] r_p 8) (bx_val [(0, 0), (0, 0), (0, 0), (0, 0), (0, 0), (0, 0), (0, 0), (0, 0), (8, 0), (9, 0), (10, 0)] r_p 9) (bx_val [(0, 0), (0, 0), (0, 0), (0, 0), (0, 0), (0, 0), (0, 0), (0, 0), (8, 0), (9, 0), (10, 0)] r_p 10)
    rw [bx_val_x (n := 8) (e := (8, 0)) h0_ rfl, bx_val_x (n := 9) (e := (9, 0)) h0_ rfl, bx_val_x (n := 10) (e := (10, 0)) h0_ rfl]
    exact g.2.2.1
  · show rxmSEAT_1 S0 ws S_p (bx_val [(0, 0), (0, 0), (0, 0), (0, 0), (0, 0), (0, 0), (0, 0), (0, 0), (8, 0), (9, 0), (10, 0)] r_p 8) (bx_val [(0, 0), (0, 0), (0, 0), (0, 0), (0, 0), (0, 0), (0, 0), (0, 0), (8, 0), (9, 0), (10, 0)] r_p 9) (bx_val [(0, 0), (0, 0), (0, 0), (0, 0), (0, 0), (0, 0), (0, 0), (0, 0), (8, 0), (9, 0), (10, 0)] r_p 10) < rxmSEAT_0 S0 ws S_p (r 8) (r 9) (r 10)
    rw [bx_val_x (n := 8) (e := (8, 0)) h0_ rfl, bx_val_x (n := 9) (e := (9, 0)) h0_ rfl, bx_val_x (n := 10) (e := (10, 0)) h0_ rfl, ← hr_ 8 (by decide), ← hr_ 9 (by decide), ← hr_ 10 (by decide)]
    exact g.2.2.2
theorem rxcSEAT_2_0 {S0 : Nat → Int → Int} {ws : List Int} {S : Nat → Int → Int} {on ot al : Int} (hP : rxPSEAT S0 ws) (hin : bx_same rxL (bx_mdl rxCSEAT.2.2.1) S0 S) (I0 : bx_Inv rxL S) (hinv : rxISEAT_2 S0 ws S on ot al) (l8 : 0 ≤ on) (u8 : on ≤ 1522) (l9 : 0 ≤ ot) (u9 : ot ≤ 1522) (l10 : 0 ≤ al) (u10 : al ≤ 1) : (True) ∧ (True) ∧ rxISEAT_3 S0 ws S on ot al ∧ rxmSEAT_3 S0 ws S on ot al < rxmSEAT_2 S0 ws S on ot al := by
  exact ⟨trivial, trivial, hinv, by unfold rxmSEAT_2 rxmSEAT_3; omega⟩
theorem rxgSEAT_2_0 {X : (Nat → Int → Int) → Prop} {S0 : Nat → Int → Int} {ws : List Int} (hP : rxPSEAT S0 ws) : bx_obC rxL X S0 rxCSEAT.2.2.1 (rxISEAT S0 ws) (rxmSEAT S0 ws) 2 rxzSEAT_2 rxoSEAT_2_0 := by
  intro S S_p r r_p hinv hX hin hsm_ hseg
  obtain ⟨I0, I1, h0_, hr_, b_, f_, d_⟩ := bx_cl (evs := []) (fvs := []) hseg (by decide +kernel) (by decide +kernel)
  have hinv : rxISEAT_2 S0 ws S (r 8) (r 9) (r 10) := hinv
  rw [← hr_ 8 (by decide), ← hr_ 9 (by decide), ← hr_ 10 (by decide)] at hinv
  obtain ⟨⟨l8, u8⟩, ⟨l9, u9⟩, ⟨l10, u10⟩, -⟩ := b_
  have w_ := d_
  subst w_
  have g := rxcSEAT_2_0 hP hin I0 hinv l8 u8 l9 u9 l10 u10
  refine ⟨bx_narP_ok (l := []) g.1, bx_nfP_ok h0_ (fvs := []) (by decide +kernel) g.2.1, ?_, ?_⟩
  · show rxISEAT_3 S0 ws S_p (bx_val [(0, 0), (0, 0), (0, 0), (0, 0), (0, 0), (0, 0), (0, 0), (0, 0), (8, 0), (9, 0), (10, 0)] r_p 8) (bx_val [(0, 0), (0, 0), (0, 0), (0, 0), (0, 0), (0, 0), (0, 0), (0, 0), (8, 0), (9, 0), (10, 0)] r_p 9) (bx_val [(0, 0), (0, 0), (0, 0), (0, 0), (0, 0), (0, 0), (0, 0), (0, 0), (8, 0), (9, 0), (10, 0)] r_p 10)
    rw [bx_val_x (n := 8) (e := (8, 0)) h0_ rfl, bx_val_x (n := 9) (e := (9, 0)) h0_ rfl, bx_val_x (n := 10) (e := (10, 0)) h0_ rfl]
    exact g.2.2.1
  · show rxmSEAT_3 S0 ws S_p (bx_val [(0, 0), (0, 0), (0, 0), (0, 0), (0, 0), (0, 0), (0, 0), (0, 0), (8, 0), (9, 0), (10, 0)] r_p 8) (bx_val [(0, 0), (0, 0), (0, 0), (0, 0), (0, 0), (0, 0), (0, 0), (0, 0), (8, 0), (9, 0), (10, 0)] r_p 9) (bx_val [(0, 0), (0, 0), (0, 0), (0, 0), (0, 0), (0, 0), (0, 0), (0, 0), (8, 0), (9, 0), (10, 0)] r_p 10) < rxmSEAT_2 S0 ws S_p (r 8) (r 9) (r 10)
    rw [bx_val_x (n := 8) (e := (8, 0)) h0_ rfl, bx_val_x (n := 9) (e := (9, 0)) h0_ rfl, bx_val_x (n := 10) (e := (10, 0)) h0_ rfl, ← hr_ 8 (by decide), ← hr_ 9 (by decide), ← hr_ 10 (by decide)]
    exact g.2.2.2
theorem rxdSEAT_4_0 {S0 : Nat → Int → Int} {ws : List Int} {S : Nat → Int → Int} {on ot al : Int} (hP : rxPSEAT S0 ws) (hin : bx_same rxL (bx_mdl rxCSEAT.2.2.1) S0 S) (hin2 : bx_same rxL (bx_mdl rxCSEAT.2.2.1) S (bx_up S 443 2 al)) (I0 : bx_Inv rxL S) (I1 : bx_Inv rxL (bx_up S 443 2 al)) (hinv : rxISEAT_4 S0 ws S on ot al) (l8 : 0 ≤ on) (u8 : on ≤ 1522) (l9 : 0 ≤ ot) (u9 : ot ≤ 1522) (l10 : 0 ≤ al) (u10 : al ≤ 1) : (True) ∧ rxPSSEAT S0 ws (bx_up S 443 2 al) none := by
  obtain ⟨hw, h5, h8, hf⟩ := hinv
  exact ⟨trivial, rfl, on, ot, al, hw, fun a x y j j0 j1 => ⟨(bx_up_ne (by omega)).trans (h5 a x y j j0 j1).1, (bx_up_ne (by omega)).trans (h5 a x y j j0 j1).2⟩, fun b x x7 y j j0 j1 => ⟨(bx_up_ne (by omega)).trans (h8 b x x7 y j j0 j1).1, (bx_up_ne (by omega)).trans (h8 b x x7 y j j0 j1).2⟩, bx_up_at, fun p j n1 n2 n3 n4 n5 => (bx_up_ne n5).trans (hf p j n1 n2 n3 n4)⟩
theorem rxfSEAT_4_0 {X : (Nat → Int → Int) → Prop} {S0 : Nat → Int → Int} {ws : List Int} (hP : rxPSEAT S0 ws) : bx_obE rxL X S0 rxCSEAT.2.2.1 (rxISEAT S0 ws) (rxPSSEAT S0 ws) 4 rxzSEAT_4 rxeSEAT_4_0 := by
  intro S S_p r r_p hinv hX hin hsm_ hseg
  obtain ⟨I0, I1, h0_, hr_, b_, f_, d_⟩ := bx_cl (evs := [(1, (0, 443), (0, 2), .inr (0, (10, 0)))]) (fvs := []) hseg (by decide +kernel) (by decide +kernel)
  have hinv : rxISEAT_4 S0 ws S (r 8) (r 9) (r 10) := hinv
  rw [← hr_ 8 (by decide), ← hr_ 9 (by decide), ← hr_ 10 (by decide)] at hinv
  obtain ⟨⟨l8, u8⟩, ⟨l9, u9⟩, ⟨l10, u10⟩, -⟩ := b_
  obtain ⟨T0, w_, w0⟩ := d_
  subst w0
  subst w_
  have g := rxdSEAT_4_0 hP hin hsm_ I0 I1 hinv l8 u8 l9 u9 l10 u10
  refine ⟨bx_narP_ok (l := []) g.1, ?_⟩
  exact g.2
theorem rxgCSEAT {X : (Nat → Int → Int) → Prop} {S0 : Nat → Int → Int} {ws : List Int} (hP : rxPSEAT S0 ws) : bx_allI (fun i q => rxUSEAT q = true ∨ bx_allP (fun o => bx_obC rxL X S0 rxCSEAT.2.2.1 (rxISEAT S0 ws) (rxmSEAT S0 ws) i q.1 o) q.2.1) 0 rxYSEAT := ⟨Or.inr ⟨rxgSEAT_0_0 hP, trivial⟩, Or.inl rfl, Or.inr ⟨rxgSEAT_2_0 hP, trivial⟩, Or.inl rfl, Or.inr trivial, trivial⟩
theorem rxgESEAT {X : (Nat → Int → Int) → Prop} {S0 : Nat → Int → Int} {ws : List Int} (hP : rxPSEAT S0 ws) : bx_allI (fun i q => rxUSEAT q = true ∨ bx_allP (fun E => bx_obE rxL X S0 rxCSEAT.2.2.1 (rxISEAT S0 ws) (rxPSSEAT S0 ws) i q.1 E) q.2.2) 0 rxYSEAT := ⟨Or.inr trivial, Or.inl rfl, Or.inr trivial, Or.inl rfl, Or.inr ⟨rxfSEAT_4_0 hP, trivial⟩, trivial⟩
theorem rxuSEAT {PX : State → Prop} {Dg : va_G} {A : Nat → Prop} {ad xa : Nat → Nat} {l : Launch} {X : (Nat → Int → Int) → Prop} (hPX : rx_PXOK rxNW A PX) (hX : ∀ S S1 : Nat → Int → Int, X S → bx_same rxL (bx_mdl rxCSEAT.2.2.1) S S1 → X S1) (hQSCZ : bx_ConP rxG rxNW rxAO PX Dg rxL X vwCl A ad l rxM42 rxCSCZ rxPSCZ rxPSSCZ) {S0 : Nat → Int → Int} {ws : List Int} (hP : rxPSEAT S0 ws) : ∀ (i : Nat) (q : bx_HE), rxYSEAT[i]? = some q → rxUSEAT q = true → ∀ {p : Program} {e : Env} {R : Room} {s : State} {m : MethodId} {args : Array Value} {below : List Frame} {meth : Method} {c : Code} {Q : State → Prop} {H0 : Heap}, rx_Fr rxG rxNW rxAO PX p s m args meth c rxM155 → (∀ q, H0.size ≤ q → A q) → H0 = s.heap → rxM155.2.2.2.2.2.2.1 ≤ R.cells → rxM155.2.2.2.2.2.2.2 ≤ R.slots → rxCSEAT.2.2.2.1 ≤ R.frames → rxCSEAT.2.2.2.1 * 40 ≤ R.locals → bx_Step p l e R s m args below meth c Q Dg rxL X vwCl A xa H0 ad rxM155 rxYSEAT (rxISEAT S0 ws) (rxmSEAT S0 ws) S0 rxCSEAT.2.2.1 i q := by
  intro i q hq hus p e R s m args below meth c Q H0 hF hA hH0 hmc hms hd hdl
  match i, hq with
  | 0, hq =>
    cases hq
    exact absurd (show false = true from hus) Bool.false_ne_true
  | 1, hq =>
    cases hq
    exact rx_stepC (ins := .invokevirtual 63) (len := 3) (i_p := 2) (M_p := rxM42) (d := rxCSEAT.2.2.2.1) (as := [.inr (3, (0, 444)), .inr (3, (8, 0))]) (t := []) (ct := rxCSCZ) hPX hF rfl hA hH0 hmc hms hd hdl (by decide +kernel) rfl rfl (by decide +kernel) (by decide +kernel) hQSCZ (by decide +kernel) rfl (Or.inl ⟨rfl, rfl, rfl⟩) (rxsSEAT_1 hP)
  | 2, hq =>
    cases hq
    exact absurd (show false = true from hus) Bool.false_ne_true
  | 3, hq =>
    cases hq
    exact rx_stepC (ins := .invokevirtual 63) (len := 3) (i_p := 4) (M_p := rxM42) (d := rxCSEAT.2.2.2.1) (as := [.inr (3, (0, 447)), .inr (3, (9, 0))]) (t := []) (ct := rxCSCZ) hPX hF rfl hA hH0 hmc hms hd hdl (by decide +kernel) rfl rfl (by decide +kernel) (by decide +kernel) hQSCZ (by decide +kernel) rfl (Or.inl ⟨rfl, rfl, rfl⟩) (rxsSEAT_3 hP)
  | 4, hq =>
    cases hq
    exact absurd (show false = true from hus) Bool.false_ne_true
  | n + 5, hq => cases hq
theorem rxQSEAT {PX : State → Prop} {Dg : va_G} {A : Nat → Prop} {ad xa : Nat → Nat} {l : Launch} {X : (Nat → Int → Int) → Prop} (hPX : rx_PXOK rxNW A PX) (hsl : ∀ s : State, PX s → ∀ o idx n : Nat, rxSl o idx = some n → ∃ tx : String, vk_R (rxNm o) idx tx (ad n) s)
    (hX : ∀ S S_p : Nat → Int → Int, X S → bx_same rxL (bx_mdl rxCSEAT.2.2.1) S S_p → X S_p)
    (ih : ∀ (j2 : Nat) (ct2 : bx_Ct) (M2 : rx_Mt), ct2 ∈ rxCnE j2 → ct2.2.2.2.1 + 1 ≤ rxCSEAT.2.2.2.1 → rxT.2.2.2.2.2 j2 = some M2 → bx_Con rxG rxNW rxAO PX Dg rxL X vwCl A ad l M2 ct2) (hQSCZ : bx_ConP rxG rxNW rxAO PX Dg rxL X vwCl A ad l rxM42 rxCSCZ rxPSCZ rxPSSCZ) : bx_ConP rxG rxNW rxAO PX Dg rxL X vwCl A ad l rxM155 rxCSEAT rxPSEAT rxPSSEAT :=
  rxQof (xa := xa) (Cn := rxCnE) (f := 30000) (j := 155) (tab := rxYSEAT) (us := rxUSEAT) hPX hsl hX ih rfl rxYcSEAT rxISEAT rxmSEAT
    (fun S0 ws r I0 I ht0 ht as he he1 hX0 hI0 hP hs ha => by
      have e := he.symm.trans (show bx_ent0 rxNP rxCSEAT.1 bx_I0 [] = some ([(0, 0), (0, 0), (0, 0), (0, 0), (0, 0), (0, 0), (0, 0), (0, 0), (0, 1522), (0, 1522), (0, 1)], [(((9, 0), 1000010), .inl none), (((8, 0), 1000010), .inl none)], [.inr (3, (0, 443)), .inr (3, (8, 0)), .inr (3, (9, 0)), .inr (0, (10, 0))]) from rfl)
      cases e
      subst ha
      have h0 : r 0 = 0 := hs.1
      show rxISEAT_0 S0 _ S0 (r 8) (r 9) (r 10)
      refine ⟨rfl, ?_⟩
      simp only [List.map_cons, List.map_nil, bx_xv_ok h0]
      rfl)
    (fun S0 ws hP => rxuSEAT (xa := xa) hPX hX hQSCZ hP) (fun S0 ws hP => rxgCSEAT hP) (fun S0 ws hP => rxgESEAT hP)
