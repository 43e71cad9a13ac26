noncomputable def rxCRDDK : bx_Ct := ([(3, (1, 412, 0)), (0, (0, 0, 6))], none, [(6, 0), (7, 10), (1021, 0), (1022, 0)], 1, [(412, 0, 3, (1, 411, 0)), (412, 6, 3, (1, 427, 0))])
noncomputable def rxIRDDK_0 (S0 : Nat → Int → Int) (ws : List Int) (S : Nat → Int → Int) (least : Int) : Prop := S = S0 ∧ ws = [412, least]
noncomputable def rxmRDDK_0 (S0 : Nat → Int → Int) (ws : List Int) (S : Nat → Int → Int) (least : Int) : Nat := 1000000
noncomputable def rxIRDDK_1 (S0 : Nat → Int → Int) (ws : List Int) (S : Nat → Int → Int) (least : Int) : Prop := ws = [412, least] ∧ rkRl S0 S least
noncomputable def rxmRDDK_1 (S0 : Nat → Int → Int) (ws : List Int) (S : Nat → Int → Int) (least : Int) : Nat := 10 * (S 412 10).toNat + 5
noncomputable def rxIRDDK_2 (S0 : Nat → Int → Int) (ws : List Int) (S : Nat → Int → Int) (least op : Int) : Prop := ws = [412, least] ∧ rkRl S0 S least ∧ 0 < S 412 10 ∧ op = S 425 (S 412 10 - 1)
noncomputable def rxmRDDK_2 (S0 : Nat → Int → Int) (ws : List Int) (S : Nat → Int → Int) (least op : Int) : Nat := 10 * (S 412 10).toNat + 4
noncomputable def rxIRDDK_3 (S0 : Nat → Int → Int) (ws : List Int) (S : Nat → Int → Int) (least op s : Int) : Prop := ws = [412, least] ∧ rkRl S0 S least ∧ 0 < S 412 10 ∧ s = rzStr (S 425 (S 412 10 - 1))
noncomputable def rxmRDDK_3 (S0 : Nat → Int → Int) (ws : List Int) (S : Nat → Int → Int) (least op s : Int) : Nat := 10 * (S 412 10).toNat + 3
noncomputable def rxIRDDK_4 (S0 : Nat → Int → Int) (ws : List Int) (S : Nat → Int → Int) (least x : Int) : Prop := ws = [412, least] ∧ rkRl S0 S least ∧ 0 < S 412 10 ∧ x = S 412 10 ∧ least ≤ rzStr (S 425 (S 412 10 - 1))
noncomputable def rxmRDDK_4 (S0 : Nat → Int → Int) (ws : List Int) (S : Nat → Int → Int) (least x : Int) : Nat := 10 * (S 412 10).toNat + 2
noncomputable def rxIRDDK_5 (S0 : Nat → Int → Int) (ws : List Int) (S : Nat → Int → Int) (least x y : Int) : Prop := ws = [412, least] ∧ rkRl S0 S least ∧ 0 < S 412 10 ∧ y = S 412 10 - 1 ∧ least ≤ rzStr (S 425 (S 412 10 - 1))
noncomputable def rxmRDDK_5 (S0 : Nat → Int → Int) (ws : List Int) (S : Nat → Int → Int) (least x y : Int) : Nat := 10 * (S 412 10).toNat + 1
noncomputable def rxPRDDK (S0 : Nat → Int → Int) (ws : List Int) : Prop := True
noncomputable def rxPSRDDK (S0 : Nat → Int → Int) (ws : List Int) (S : Nat → Int → Int) (w : Option Int) : Prop := w = none ∧ rxPSRDD S0 ws S w ∧ ∃ least : Int, ws = [412, least] ∧ (1 ≤ least → ∀ (b : Int) (c : rkC), rkD S0 b c → rkW c → b + (c.1 : Int) + rkM c ≤ 399 → rkD S b (rkRed least c) ∧ rkFr S0 S b)
theorem rxkRDDK_2 {S0 : Nat → Int → Int} {ws : List Int} {S : Nat → Int → Int} {least op : Int} (hP : rxPRDDK S0 ws) (hin : bx_same rxL (bx_mdl rxCRDDK.2.2.1) S0 S) (I0 : bx_Inv rxL S) (hinv : rxIRDDK_2 S0 ws S least op) (l8 : 0 ≤ least) (u8 : least ≤ 6) (l9 : 0 ≤ op) (u9 : op ≤ 13) : rxPSTD S [op] ∧ ∀ (S_p : Nat → Int → Int) (s : Int), 0 ≤ s → s ≤ 6 → rxPSSTD S [op] S_p (some s) → bx_Inv rxL S_p → bx_same rxL (bx_mdl rxC4.2.2.1) S S_p → rxIRDDK_3 S0 ws S_p least op s ∧ rxmRDDK_3 S0 ws S_p least op s < rxmRDDK_2 S0 ws S least op := by
  obtain ⟨hw, hr, h0, ho⟩ := hinv
  refine ⟨trivial, fun S_p s _ _ hq _ _ => ?_⟩
  obtain ⟨rfl, st, h1, h2⟩ := hq
  have h1 : op = st := Option.some.inj (congrArg (fun l : List Int => l[0]?) h1)
  have h2 := Option.some.inj h2
  exact ⟨⟨hw, hr, h0, by rw [h2, ← h1, ho]⟩, by unfold rxmRDDK_2 rxmRDDK_3; omega⟩
theorem rxbRDDK_4 {S0 : Nat → Int → Int} {ws : List Int} {S : Nat → Int → Int} {least x : Int} (hP : rxPRDDK S0 ws) (hin : bx_same rxL (bx_mdl rxCRDDK.2.2.1) S0 S) (I0 : bx_Inv rxL S) (hinv : rxIRDDK_4 S0 ws S least x) (l8 : 0 ≤ least) (u8 : least ≤ 6) (l9 : 0 ≤ x) (u9 : x ≤ 400) : bx_opcB 34 x 1 ∧ ∀ y : Int, y = bx_opvB 34 x 1 → (0 ≤ y ∧ y ≤ 399) ∧ rxIRDDK_5 S0 ws S least x y ∧ rxmRDDK_5 S0 ws S least x y < rxmRDDK_4 S0 ws S least x := by
  obtain ⟨hw, hr, h0, hx, hs⟩ := hinv
  refine ⟨⟨⟨by omega, by omega⟩, show (-2147483648 : Int) ≤ 1 ∧ (1 : Int) ≤ 2147483647 ∧ -2147483648 ≤ x - 1 ∧ x - 1 ≤ 2147483647 by omega⟩, fun y hv => ?_⟩
  have hv : y = x - 1 := hv
  exact ⟨by omega, ⟨hw, hr, h0, by omega, hs⟩, by unfold rxmRDDK_4 rxmRDDK_5; omega⟩
theorem rxcRDDK_0_0 {S0 : Nat → Int → Int} {ws : List Int} {S : Nat → Int → Int} {least x9 x10 : Int} (hP : rxPRDDK S0 ws) (hin : bx_same rxL (bx_mdl rxCRDDK.2.2.1) S0 S) (I0 : bx_Inv rxL S) (hinv : rxIRDDK_0 S0 ws S least) (l8 : 0 ≤ least) (u8 : least ≤ 6) (l9 : 1 ≤ x9) (u9 : x9 ≤ 400) (l10 : 0 ≤ x10) (u10 : x10 ≤ 13) (e1 : S 412 10 = x9) (e0 : S 425 (x9 + (-1)) = x10) : (True) ∧ (True) ∧ rxIRDDK_2 S0 ws S least x10 ∧ rxmRDDK_2 S0 ws S least x10 < rxmRDDK_0 S0 ws S least := by
  obtain ⟨rfl, hw⟩ := hinv
  have hr := rkRl_0 (S := S) (least := least)
  have b : 0 ≤ S 412 10 ∧ S 412 10 ≤ 400 := I0 412 10 (by decide) (by decide)
  exact ⟨trivial, trivial, ⟨hw, hr, by omega, by rw [show S 412 10 - 1 = x9 + -1 by omega]; exact e0.symm⟩, by unfold rxmRDDK_0 rxmRDDK_2; omega⟩
theorem rxdRDDK_0_0 {S0 : Nat → Int → Int} {ws : List Int} {S : Nat → Int → Int} {least x9 : Int} (hP : rxPRDDK S0 ws) (hin : bx_same rxL (bx_mdl rxCRDDK.2.2.1) S0 S) (hin2 : bx_same rxL (bx_mdl rxCRDDK.2.2.1) S S) (I0 : bx_Inv rxL S) (I1 : bx_Inv rxL S) (hinv : rxIRDDK_0 S0 ws S least) (l8 : 0 ≤ least) (u8 : least ≤ 6) (l9 : 0 ≤ x9) (u9 : x9 ≤ 0) (e0 : S 412 10 = x9) : (True) ∧ rxPSRDDK S0 ws S none := by
  obtain ⟨rfl, hw⟩ := hinv
  have hr := rkRl_0 (S := S) (least := least)
  exact ⟨trivial, rfl, ⟨rfl, trivial⟩, least, hw, rkRl_end hr rfl (Or.inl (by omega))⟩
theorem rxcRDDK_1_0 {S0 : Nat → Int → Int} {ws : List Int} {S : Nat → Int → Int} {least x9 x10 : Int} (hP : rxPRDDK S0 ws) (hin : bx_same rxL (bx_mdl rxCRDDK.2.2.1) S0 S) (I0 : bx_Inv rxL S) (hinv : rxIRDDK_1 S0 ws S least) (l8 : 0 ≤ least) (u8 : least ≤ 6) (l9 : 1 ≤ x9) (u9 : x9 ≤ 400) (l10 : 0 ≤ x10) (u10 : x10 ≤ 13) (e1 : S 412 10 = x9) (e0 : S 425 (x9 + (-1)) = x10) : (True) ∧ (True) ∧ rxIRDDK_2 S0 ws S least x10 ∧ rxmRDDK_2 S0 ws S least x10 < rxmRDDK_1 S0 ws S least := by
  obtain ⟨hw, hr⟩ := hinv
  have b : 0 ≤ S 412 10 ∧ S 412 10 ≤ 400 := I0 412 10 (by decide) (by decide)
  exact ⟨trivial, trivial, ⟨hw, hr, by omega, by rw [show S 412 10 - 1 = x9 + -1 by omega]; exact e0.symm⟩, by unfold rxmRDDK_1 rxmRDDK_2; omega⟩
theorem rxdRDDK_1_0 {S0 : Nat → Int → Int} {ws : List Int} {S : Nat → Int → Int} {least x9 : Int} (hP : rxPRDDK S0 ws) (hin : bx_same rxL (bx_mdl rxCRDDK.2.2.1) S0 S) (hin2 : bx_same rxL (bx_mdl rxCRDDK.2.2.1) S S) (I0 : bx_Inv rxL S) (I1 : bx_Inv rxL S) (hinv : rxIRDDK_1 S0 ws S least) (l8 : 0 ≤ least) (u8 : least ≤ 6) (l9 : 0 ≤ x9) (u9 : x9 ≤ 0) (e0 : S 412 10 = x9) : (True) ∧ rxPSRDDK S0 ws S none := by
  obtain ⟨hw, hr⟩ := hinv
  exact ⟨trivial, rfl, ⟨rfl, trivial⟩, least, hw, rkRl_end hr rfl (Or.inl (by omega))⟩
theorem rxcRDDK_3_0 {S0 : Nat → Int → Int} {ws : List Int} {S : Nat → Int → Int} {least op s x11 : Int} (hP : rxPRDDK S0 ws) (hin : bx_same rxL (bx_mdl rxCRDDK.2.2.1) S0 S) (I0 : bx_Inv rxL S) (hinv : rxIRDDK_3 S0 ws S least op s) (l8 : 0 ≤ least) (u8 : least ≤ 6) (l9 : 0 ≤ op) (u9 : op ≤ 13) (l10 : 0 ≤ s) (u10 : s ≤ 6) (l11 : 0 ≤ x11) (u11 : x11 ≤ 400) (f0 : least ≤ s) (e0 : S 412 10 = x11) : (True) ∧ (True) ∧ rxIRDDK_4 S0 ws S least x11 ∧ rxmRDDK_4 S0 ws S least x11 < rxmRDDK_3 S0 ws S least op s := by
  obtain ⟨hw, hr, h0, hs⟩ := hinv
  have b : 0 ≤ S 412 10 ∧ S 412 10 ≤ 400 := I0 412 10 (by decide) (by decide)
  exact ⟨trivial, trivial, ⟨hw, hr, h0, e0.symm, by omega⟩, by unfold rxmRDDK_3 rxmRDDK_4; omega⟩
theorem rxdRDDK_3_0 {S0 : Nat → Int → Int} {ws : List Int} {S : Nat → Int → Int} {least op s : Int} (hP : rxPRDDK S0 ws) (hin : bx_same rxL (bx_mdl rxCRDDK.2.2.1) S0 S) (hin2 : bx_same rxL (bx_mdl rxCRDDK.2.2.1) S S) (I0 : bx_Inv rxL S) (I1 : bx_Inv rxL S) (hinv : rxIRDDK_3 S0 ws S least op s) (l8 : 1 ≤ least) (u8 : least ≤ 6) (l9 : 0 ≤ op) (u9 : op ≤ 13) (l10 : 0 ≤ s) (u10 : s ≤ 5) (f0 : s < least) : (True) ∧ rxPSRDDK S0 ws S none := by
  obtain ⟨hw, hr, h0, hs⟩ := hinv
  exact ⟨trivial, rfl, ⟨rfl, trivial⟩, least, hw, rkRl_end hr rfl (Or.inr (by omega))⟩
theorem rxcRDDK_5_0 {S0 : Nat → Int → Int} {ws : List Int} {S : Nat → Int → Int} {least x y x11 x12 : Int} (hP : rxPRDDK S0 ws) (hin : bx_same rxL (bx_mdl rxCRDDK.2.2.1) S0 S) (I0 : bx_Inv rxL S) (hinv : rxIRDDK_5 S0 ws S least x y) (l8 : 0 ≤ least) (u8 : least ≤ 6) (l9 : 0 ≤ x) (u9 : x ≤ 400) (l10 : 0 ≤ y) (u10 : y ≤ 399) (l11 : 5 ≤ x11) (u11 : x11 ≤ 5) (l12 : (-1) ≤ x12) (u12 : x12 ≤ (-1)) (f0 : x11 ≠ 4) (e1 : (bx_up S 412 10 y) 425 y = x11) (e0 : (bx_up S 412 10 y) 426 y = x12) : (True) ∧ (True) ∧ rxIRDDK_1 S0 ws (bx_up S 412 10 y) least ∧ rxmRDDK_1 S0 ws (bx_up S 412 10 y) least < rxmRDDK_5 S0 ws S least x y := by
  obtain ⟨hw, hr, h0, hy, hs⟩ := hinv
  have b : 0 ≤ S 412 10 ∧ S 412 10 ≤ 400 := I0 412 10 (by decide) (by decide)
  have hm : (bx_up S 412 10 y) 412 10 = S 412 10 - 1 := (bx_up_at).trans (by omega)
  have h5 : S 425 (S 412 10 - 1) = x11 := by
    rw [show S 412 10 - 1 = y by omega]
    exact (((bx_up_ne (by omega))).symm.trans e1)
  refine ⟨trivial, trivial, ⟨hw, rkRl_step hr h0 (by omega) fun b c hD hW hn hb => ?_⟩, by unfold rxmRDDK_5 rxmRDDK_1; rw [hm]; omega⟩
  have h6 : S 426 (S 412 10 - 1) = x12 := by
    rw [show S 412 10 - 1 = y by omega]
    exact (((bx_up_ne (by omega))).symm.trans e0)
  exfalso
  have z1 := hD.2.2.1
  have q := hW.2.1 ((c.1 : Int) - 1) (by omega) (by omega)
  have r := hD.2.2.2.2.1 ((c.1 : Int) - 1) (by omega) (by omega)
  have z2 := hD.2.2.2.1
  have z0 := hD.1
  rw [← z1] at q r
  have hj : rkPo c (S 412 10 - 1) = 29 ∨ rkPo c (S 412 10 - 1) = 30 := (rkEn_j q.1 q.2.1).mp (by rw [← r.1, h5]; omega)
  have q3 := q.2.2 hj
  have r2 := r.2 hj
  omega
theorem rxcRDDK_5_1 {S0 : Nat → Int → Int} {ws : List Int} {S : Nat → Int → Int} {least x y x11 x12 x13 : Int} (hP : rxPRDDK S0 ws) (hin : bx_same rxL (bx_mdl rxCRDDK.2.2.1) S0 S) (I0 : bx_Inv rxL S) (hinv : rxIRDDK_5 S0 ws S least x y) (l8 : 0 ≤ least) (u8 : least ≤ 6) (l9 : 0 ≤ x) (u9 : x ≤ 400) (l10 : 0 ≤ y) (u10 : y ≤ 399) (l11 : 5 ≤ x11) (u11 : x11 ≤ 5) (l12 : 0 ≤ x12) (u12 : x12 ≤ 400) (l13 : 0 ≤ x13) (u13 : x13 ≤ 400) (f0 : x13 ≤ x12) (f1 : x11 ≠ 4) (e2 : (bx_up S 412 10 y) 425 y = x11) (e1 : (bx_up S 412 10 y) 426 y = x12) (e0 : (bx_up S 412 10 y) 427 0 = x13) : (True) ∧ (True) ∧ rxIRDDK_1 S0 ws (bx_up S 412 10 y) least ∧ rxmRDDK_1 S0 ws (bx_up S 412 10 y) least < rxmRDDK_5 S0 ws S least x y := by
  obtain ⟨hw, hr, h0, hy, hs⟩ := hinv
  have b : 0 ≤ S 412 10 ∧ S 412 10 ≤ 400 := I0 412 10 (by decide) (by decide)
  have hm : (bx_up S 412 10 y) 412 10 = S 412 10 - 1 := (bx_up_at).trans (by omega)
  have h5 : S 425 (S 412 10 - 1) = x11 := by
    rw [show S 412 10 - 1 = y by omega]
    exact (((bx_up_ne (by omega))).symm.trans e2)
  refine ⟨trivial, trivial, ⟨hw, rkRl_step hr h0 (by omega) fun b c hD hW hn hb => ?_⟩, by unfold rxmRDDK_5 rxmRDDK_1; rw [hm]; omega⟩
  have h6 : S 426 (S 412 10 - 1) = x12 := by
    rw [show S 412 10 - 1 = y by omega]
    exact (((bx_up_ne (by omega))).symm.trans e1)
  exfalso
  have z1 := hD.2.2.1
  have q := hW.2.1 ((c.1 : Int) - 1) (by omega) (by omega)
  have r := hD.2.2.2.2.1 ((c.1 : Int) - 1) (by omega) (by omega)
  have z2 := hD.2.2.2.1
  have z0 := hD.1
  rw [← z1] at q r
  have hj : rkPo c (S 412 10 - 1) = 29 ∨ rkPo c (S 412 10 - 1) = 30 := (rkEn_j q.1 q.2.1).mp (by rw [← r.1, h5]; omega)
  have q3 := q.2.2 hj
  have r2 := r.2 hj
  have hz : S 427 0 = x13 := (((bx_up_ne (by omega))).symm.trans e0)
  omega
theorem rxcRDDK_5_2 {S0 : Nat → Int → Int} {ws : List Int} {S : Nat → Int → Int} {least x y x11 x12 x13 : Int} (hP : rxPRDDK S0 ws) (hin : bx_same rxL (bx_mdl rxCRDDK.2.2.1) S0 S) (I0 : bx_Inv rxL S) (hinv : rxIRDDK_5 S0 ws S least x y) (l8 : 0 ≤ least) (u8 : least ≤ 6) (l9 : 0 ≤ x) (u9 : x ≤ 400) (l10 : 0 ≤ y) (u10 : y ≤ 399) (l11 : 5 ≤ x11) (u11 : x11 ≤ 5) (l12 : 0 ≤ x12) (u12 : x12 ≤ 399) (l13 : 1 ≤ x13) (u13 : x13 ≤ 400) (f0 : x12 < x13) (f1 : x11 ≠ 4) (e3 : (bx_up S 412 10 y) 425 y = x11) (e2 : (bx_up S 412 10 y) 426 y = x12) (e1 : (bx_up S 412 10 y) 427 0 = x13) : (True) ∧ (True) ∧ rxIRDDK_1 S0 ws (bx_up (bx_up S 412 10 y) 429 x12 x13) least ∧ rxmRDDK_1 S0 ws (bx_up (bx_up S 412 10 y) 429 x12 x13) least < rxmRDDK_5 S0 ws S least x y := by
  obtain ⟨hw, hr, h0, hy, hs⟩ := hinv
  have b : 0 ≤ S 412 10 ∧ S 412 10 ≤ 400 := I0 412 10 (by decide) (by decide)
  have hm : (bx_up (bx_up S 412 10 y) 429 x12 x13) 412 10 = S 412 10 - 1 := ((bx_up_ne (by omega)).trans (bx_up_at)).trans (by omega)
  have h5 : S 425 (S 412 10 - 1) = x11 := by
    rw [show S 412 10 - 1 = y by omega]
    exact (((bx_up_ne (by omega))).symm.trans e3)
  refine ⟨trivial, trivial, ⟨hw, rkRl_step hr h0 (by omega) fun b c hD hW hn hb => ?_⟩, by unfold rxmRDDK_5 rxmRDDK_1; rw [hm]; omega⟩
  have h6 : S 426 (S 412 10 - 1) = x12 := by
    rw [show S 412 10 - 1 = y by omega]
    exact (((bx_up_ne (by omega))).symm.trans e2)
  have hz : S 427 0 = x13 := (((bx_up_ne (by omega))).symm.trans e1)
  exact rkD_tj hD hW hn (by omega) hm ((bx_up_ne (by omega)).trans ((bx_up_ne (by omega)))) (fun j => ⟨(bx_up_ne (by omega)).trans ((bx_up_ne (by omega))), (bx_up_ne (by omega)).trans ((bx_up_ne (by omega)))⟩) (fun j => (bx_up_ne (by omega)).trans ((bx_up_ne (by omega)))) (fun j hj => (bx_up_ne (by omega)).trans ((bx_up_ne (by omega)))) (by rw [h6, hz]; exact bx_up_at)
theorem rxcRDDK_5_3 {S0 : Nat → Int → Int} {ws : List Int} {S : Nat → Int → Int} {least x y x11 x12 : Int} (hP : rxPRDDK S0 ws) (hin : bx_same rxL (bx_mdl rxCRDDK.2.2.1) S0 S) (I0 : bx_Inv rxL S) (hinv : rxIRDDK_5 S0 ws S least x y) (l8 : 0 ≤ least) (u8 : least ≤ 6) (l9 : 0 ≤ x) (u9 : x ≤ 400) (l10 : 0 ≤ y) (u10 : y ≤ 399) (l11 : 0 ≤ x11) (u11 : x11 ≤ 13) (l12 : 0 ≤ x12) (u12 : x12 ≤ 399) (f0 : x11 ≠ 5) (f1 : x11 ≠ 4) (e4 : (bx_up S 412 10 y) 425 y = x11) (e3 : (bx_up S 412 10 y) 427 0 = x12) : (True) ∧ (True) ∧ rxIRDDK_1 S0 ws (bx_up (bx_up (bx_up (bx_up S 412 10 y) 428 x12 x11) 429 x12 0) 427 0 (x12 + 1)) least ∧ rxmRDDK_1 S0 ws (bx_up (bx_up (bx_up (bx_up S 412 10 y) 428 x12 x11) 429 x12 0) 427 0 (x12 + 1)) least < rxmRDDK_5 S0 ws S least x y := by
  obtain ⟨hw, hr, h0, hy, hs⟩ := hinv
  have b : 0 ≤ S 412 10 ∧ S 412 10 ≤ 400 := I0 412 10 (by decide) (by decide)
  have hm : (bx_up (bx_up (bx_up (bx_up S 412 10 y) 428 x12 x11) 429 x12 0) 427 0 (x12 + 1)) 412 10 = S 412 10 - 1 := ((bx_up_ne (by omega)).trans ((bx_up_ne (by omega)).trans ((bx_up_ne (by omega)).trans (bx_up_at)))).trans (by omega)
  have h5 : S 425 (S 412 10 - 1) = x11 := by
    rw [show S 412 10 - 1 = y by omega]
    exact (((bx_up_ne (by omega))).symm.trans e4)
  refine ⟨trivial, trivial, ⟨hw, rkRl_step hr h0 (by omega) fun b c hD hW hn hb => ?_⟩, by unfold rxmRDDK_5 rxmRDDK_1; rw [hm]; omega⟩
  have hz : S 427 0 = x12 := (((bx_up_ne (by omega))).symm.trans e3)
  exact rkD_te hD hW hn (by omega) hm ((bx_up_at).trans (by omega)) (fun j => ⟨(bx_up_ne (by omega)).trans ((bx_up_ne (by omega)).trans ((bx_up_ne (by omega)).trans ((bx_up_ne (by omega))))), (bx_up_ne (by omega)).trans ((bx_up_ne (by omega)).trans ((bx_up_ne (by omega)).trans ((bx_up_ne (by omega)))))⟩) (fun j hj => (bx_up_ne (by omega)).trans ((bx_up_ne (by omega)).trans ((bx_up_ne (by omega)).trans ((bx_up_ne (by omega)))))) (fun j hj => (bx_up_ne (by omega)).trans ((bx_up_ne (by omega)).trans ((bx_up_ne (by omega)).trans ((bx_up_ne (by omega)))))) (by rw [hz, h5]; exact ((bx_up_ne (by omega)).trans ((bx_up_ne (by omega)))).trans bx_up_at) (by rw [hz]; exact ((bx_up_ne (by omega))).trans bx_up_at)
theorem rxcRDDK_5_4 {S0 : Nat → Int → Int} {ws : List Int} {S : Nat → Int → Int} {least x y x11 x12 : Int} (hP : rxPRDDK S0 ws) (hin : bx_same rxL (bx_mdl rxCRDDK.2.2.1) S0 S) (I0 : bx_Inv rxL S) (hinv : rxIRDDK_5 S0 ws S least x y) (l8 : 0 ≤ least) (u8 : least ≤ 6) (l9 : 0 ≤ x) (u9 : x ≤ 400) (l10 : 0 ≤ y) (u10 : y ≤ 399) (l11 : 0 ≤ x11) (u11 : x11 ≤ 13) (l12 : 400 ≤ x12) (u12 : x12 ≤ 400) (f0 : x11 ≠ 5) (f1 : x11 ≠ 4) (e1 : (bx_up S 412 10 y) 425 y = x11) (e0 : (bx_up S 412 10 y) 427 0 = x12) : (True) ∧ (True) ∧ rxIRDDK_1 S0 ws (bx_up S 412 10 y) least ∧ rxmRDDK_1 S0 ws (bx_up S 412 10 y) least < rxmRDDK_5 S0 ws S least x y := by
  obtain ⟨hw, hr, h0, hy, hs⟩ := hinv
  have b : 0 ≤ S 412 10 ∧ S 412 10 ≤ 400 := I0 412 10 (by decide) (by decide)
  have hm : (bx_up S 412 10 y) 412 10 = S 412 10 - 1 := (bx_up_at).trans (by omega)
  have h5 : S 425 (S 412 10 - 1) = x11 := by
    rw [show S 412 10 - 1 = y by omega]
    exact (((bx_up_ne (by omega))).symm.trans e1)
  refine ⟨trivial, trivial, ⟨hw, rkRl_step hr h0 (by omega) fun b c hD hW hn hb => ?_⟩, by unfold rxmRDDK_5 rxmRDDK_1; rw [hm]; omega⟩
  have hz : S 427 0 = x12 := (((bx_up_ne (by omega))).symm.trans e0)
  exfalso
  have z2 := hD.2.2.2.1
  omega
theorem rxcRDDK_5_5 {S0 : Nat → Int → Int} {ws : List Int} {S : Nat → Int → Int} {least x y x11 x12 : Int} (hP : rxPRDDK S0 ws) (hin : bx_same rxL (bx_mdl rxCRDDK.2.2.1) S0 S) (I0 : bx_Inv rxL S) (hinv : rxIRDDK_5 S0 ws S least x y) (l8 : 0 ≤ least) (u8 : least ≤ 6) (l9 : 0 ≤ x) (u9 : x ≤ 400) (l10 : 0 ≤ y) (u10 : y ≤ 399) (l11 : 4 ≤ x11) (u11 : x11 ≤ 4) (l12 : (-1) ≤ x12) (u12 : x12 ≤ (-1)) (e1 : (bx_up S 412 10 y) 425 y = x11) (e0 : (bx_up S 412 10 y) 426 y = x12) : (True) ∧ (True) ∧ rxIRDDK_1 S0 ws (bx_up S 412 10 y) least ∧ rxmRDDK_1 S0 ws (bx_up S 412 10 y) least < rxmRDDK_5 S0 ws S least x y := by
  obtain ⟨hw, hr, h0, hy, hs⟩ := hinv
  have b : 0 ≤ S 412 10 ∧ S 412 10 ≤ 400 := I0 412 10 (by decide) (by decide)
  have hm : (bx_up S 412 10 y) 412 10 = S 412 10 - 1 := (bx_up_at).trans (by omega)
  have h5 : S 425 (S 412 10 - 1) = x11 := by
    rw [show S 412 10 - 1 = y by omega]
    exact (((bx_up_ne (by omega))).symm.trans e1)
  refine ⟨trivial, trivial, ⟨hw, rkRl_step hr h0 (by omega) fun b c hD hW hn hb => ?_⟩, by unfold rxmRDDK_5 rxmRDDK_1; rw [hm]; omega⟩
  have h6 : S 426 (S 412 10 - 1) = x12 := by
    rw [show S 412 10 - 1 = y by omega]
    exact (((bx_up_ne (by omega))).symm.trans e0)
  exfalso
  have z1 := hD.2.2.1
  have q := hW.2.1 ((c.1 : Int) - 1) (by omega) (by omega)
  have r := hD.2.2.2.2.1 ((c.1 : Int) - 1) (by omega) (by omega)
  have z2 := hD.2.2.2.1
  have z0 := hD.1
  rw [← z1] at q r
  have hj : rkPo c (S 412 10 - 1) = 29 ∨ rkPo c (S 412 10 - 1) = 30 := (rkEn_j q.1 q.2.1).mp (by rw [← r.1, h5]; omega)
  have q3 := q.2.2 hj
  have r2 := r.2 hj
  omega
theorem rxcRDDK_5_6 {S0 : Nat → Int → Int} {ws : List Int} {S : Nat → Int → Int} {least x y x11 x12 x13 : Int} (hP : rxPRDDK S0 ws) (hin : bx_same rxL (bx_mdl rxCRDDK.2.2.1) S0 S) (I0 : bx_Inv rxL S) (hinv : rxIRDDK_5 S0 ws S least x y) (l8 : 0 ≤ least) (u8 : least ≤ 6) (l9 : 0 ≤ x) (u9 : x ≤ 400) (l10 : 0 ≤ y) (u10 : y ≤ 399) (l11 : 4 ≤ x11) (u11 : x11 ≤ 4) (l12 : 0 ≤ x12) (u12 : x12 ≤ 400) (l13 : 0 ≤ x13) (u13 : x13 ≤ 400) (f0 : x13 ≤ x12) (e2 : (bx_up S 412 10 y) 425 y = x11) (e1 : (bx_up S 412 10 y) 426 y = x12) (e0 : (bx_up S 412 10 y) 427 0 = x13) : (True) ∧ (True) ∧ rxIRDDK_1 S0 ws (bx_up S 412 10 y) least ∧ rxmRDDK_1 S0 ws (bx_up S 412 10 y) least < rxmRDDK_5 S0 ws S least x y := by
  obtain ⟨hw, hr, h0, hy, hs⟩ := hinv
  have b : 0 ≤ S 412 10 ∧ S 412 10 ≤ 400 := I0 412 10 (by decide) (by decide)
  have hm : (bx_up S 412 10 y) 412 10 = S 412 10 - 1 := (bx_up_at).trans (by omega)
  have h5 : S 425 (S 412 10 - 1) = x11 := by
    rw [show S 412 10 - 1 = y by omega]
    exact (((bx_up_ne (by omega))).symm.trans e2)
  refine ⟨trivial, trivial, ⟨hw, rkRl_step hr h0 (by omega) fun b c hD hW hn hb => ?_⟩, by unfold rxmRDDK_5 rxmRDDK_1; rw [hm]; omega⟩
  have h6 : S 426 (S 412 10 - 1) = x12 := by
    rw [show S 412 10 - 1 = y by omega]
    exact (((bx_up_ne (by omega))).symm.trans e1)
  exfalso
  have z1 := hD.2.2.1
  have q := hW.2.1 ((c.1 : Int) - 1) (by omega) (by omega)
  have r := hD.2.2.2.2.1 ((c.1 : Int) - 1) (by omega) (by omega)
  have z2 := hD.2.2.2.1
  have z0 := hD.1
  rw [← z1] at q r
  have hj : rkPo c (S 412 10 - 1) = 29 ∨ rkPo c (S 412 10 - 1) = 30 := (rkEn_j q.1 q.2.1).mp (by rw [← r.1, h5]; omega)
  have q3 := q.2.2 hj
  have r2 := r.2 hj
  have hz : S 427 0 = x13 := (((bx_up_ne (by omega))).symm.trans e0)
  omega
theorem rxcRDDK_5_7 {S0 : Nat → Int → Int} {ws : List Int} {S : Nat → Int → Int} {least x y x11 x12 x13 : Int} (hP : rxPRDDK S0 ws) (hin : bx_same rxL (bx_mdl rxCRDDK.2.2.1) S0 S) (I0 : bx_Inv rxL S) (hinv : rxIRDDK_5 S0 ws S least x y) (l8 : 0 ≤ least) (u8 : least ≤ 6) (l9 : 0 ≤ x) (u9 : x ≤ 400) (l10 : 0 ≤ y) (u10 : y ≤ 399) (l11 : 4 ≤ x11) (u11 : x11 ≤ 4) (l12 : 0 ≤ x12) (u12 : x12 ≤ 399) (l13 : 1 ≤ x13) (u13 : x13 ≤ 400) (f0 : x12 < x13) (e3 : (bx_up S 412 10 y) 425 y = x11) (e2 : (bx_up S 412 10 y) 426 y = x12) (e1 : (bx_up S 412 10 y) 427 0 = x13) : (True) ∧ (True) ∧ rxIRDDK_1 S0 ws (bx_up (bx_up S 412 10 y) 429 x12 x13) least ∧ rxmRDDK_1 S0 ws (bx_up (bx_up S 412 10 y) 429 x12 x13) least < rxmRDDK_5 S0 ws S least x y := by
  obtain ⟨hw, hr, h0, hy, hs⟩ := hinv
  have b : 0 ≤ S 412 10 ∧ S 412 10 ≤ 400 := I0 412 10 (by decide) (by decide)
  have hm : (bx_up (bx_up S 412 10 y) 429 x12 x13) 412 10 = S 412 10 - 1 := ((bx_up_ne (by omega)).trans (bx_up_at)).trans (by omega)
  have h5 : S 425 (S 412 10 - 1) = x11 := by
    rw [show S 412 10 - 1 = y by omega]
    exact (((bx_up_ne (by omega))).symm.trans e3)
  refine ⟨trivial, trivial, ⟨hw, rkRl_step hr h0 (by omega) fun b c hD hW hn hb => ?_⟩, by unfold rxmRDDK_5 rxmRDDK_1; rw [hm]; omega⟩
  have h6 : S 426 (S 412 10 - 1) = x12 := by
    rw [show S 412 10 - 1 = y by omega]
    exact (((bx_up_ne (by omega))).symm.trans e2)
  have hz : S 427 0 = x13 := (((bx_up_ne (by omega))).symm.trans e1)
  exact rkD_tj hD hW hn (by omega) hm ((bx_up_ne (by omega)).trans ((bx_up_ne (by omega)))) (fun j => ⟨(bx_up_ne (by omega)).trans ((bx_up_ne (by omega))), (bx_up_ne (by omega)).trans ((bx_up_ne (by omega)))⟩) (fun j => (bx_up_ne (by omega)).trans ((bx_up_ne (by omega)))) (fun j hj => (bx_up_ne (by omega)).trans ((bx_up_ne (by omega)))) (by rw [h6, hz]; exact bx_up_at)