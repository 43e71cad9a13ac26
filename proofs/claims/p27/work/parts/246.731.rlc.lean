noncomputable def rxCRLCK : bx_Ct := ([(3, (1, 412, 0))], some (0, (0, 0, 1)), [(6, 0), (6, 4), (7, 2), (7, 3), (7, 4), (7, 7), (7, 8), (7, 10), (1021, 0), (1022, 0), (1024, 0), (1025, 0), (1026, 0), (1027, 0), (1034, 0), (1035, 0), (1036, 0)], 8, [(412, 0, 3, (1, 411, 0)), (412, 6, 3, (1, 427, 0))])
noncomputable def rxIRLCK_0 (S0 : Nat → Int → Int) (ws : List Int) (S : Nat → Int → Int) : Prop := rxIRLC_0 S0 ws S ∧ True
noncomputable def rxmRLCK_0 (S0 : Nat → Int → Int) (ws : List Int) (S : Nat → Int → Int) : Nat := rxmRLC_0 S0 ws S
noncomputable def rxIRLCK_1 (S0 : Nat → Int → Int) (ws : List Int) (S : Nat → Int → Int) : Prop := rxIRLC_1 S0 ws S ∧ rkTa S0 S (S0 412 2)
noncomputable def rxmRLCK_1 (S0 : Nat → Int → Int) (ws : List Int) (S : Nat → Int → Int) : Nat := rxmRLC_1 S0 ws S
noncomputable def rxIRLCK_2 (S0 : Nat → Int → Int) (ws : List Int) (S : Nat → Int → Int) (r : Int) : Prop := rxIRLC_2 S0 ws S r ∧ rkTa S0 S (S0 412 2)
noncomputable def rxmRLCK_2 (S0 : Nat → Int → Int) (ws : List Int) (S : Nat → Int → Int) (r : Int) : Nat := rxmRLC_2 S0 ws S r
noncomputable def rxIRLCK_3 (S0 : Nat → Int → Int) (ws : List Int) (S : Nat → Int → Int) (ba : Int) : Prop := rxIRLC_3 S0 ws S ba ∧ rkTa S0 S (S0 412 2)
noncomputable def rxmRLCK_3 (S0 : Nat → Int → Int) (ws : List Int) (S : Nat → Int → Int) (ba : Int) : Nat := rxmRLC_3 S0 ws S ba
noncomputable def rxIRLCK_4 (S0 : Nat → Int → Int) (ws : List Int) (S : Nat → Int → Int) (ba r : Int) : Prop := rxIRLC_4 S0 ws S ba r ∧ rkTa S0 S (S0 412 2)
noncomputable def rxmRLCK_4 (S0 : Nat → Int → Int) (ws : List Int) (S : Nat → Int → Int) (ba r : Int) : Nat := rxmRLC_4 S0 ws S ba r
noncomputable def rxIRLCK_5 (S0 : Nat → Int → Int) (ws : List Int) (S : Nat → Int → Int) (ba sl : Int) : Prop := rxIRLC_5 S0 ws S ba sl ∧ rkTa S0 S (S0 412 2)
noncomputable def rxmRLCK_5 (S0 : Nat → Int → Int) (ws : List Int) (S : Nat → Int → Int) (ba sl : Int) : Nat := rxmRLC_5 S0 ws S ba sl
noncomputable def rxIRLCK_6 (S0 : Nat → Int → Int) (ws : List Int) (S : Nat → Int → Int) (ba sl r : Int) : Prop := rxIRLC_6 S0 ws S ba sl r ∧ rkTa S0 S (S0 412 2)
noncomputable def rxmRLCK_6 (S0 : Nat → Int → Int) (ws : List Int) (S : Nat → Int → Int) (ba sl r : Int) : Nat := rxmRLC_6 S0 ws S ba sl r
noncomputable def rxIRLCK_7 (S0 : Nat → Int → Int) (ws : List Int) (S : Nat → Int → Int) (ba sl : Int) : Prop := rxIRLC_7 S0 ws S ba sl ∧ rkTa S0 S (S0 412 2) ∧ ((ba = 1 ∧ rzIs (rzCut (S0 411)) (S0 412 1) rzW_bars (S0 412 2) = true) ∨ (ba = 0 ∧ rzIs (rzCut (S0 411)) (S0 412 1) rzW_bars (S0 412 2) = false ∧ sl = (if rzIs (rzCut (S0 411)) (S0 412 1) rzW_slips (S0 412 2) = true then 1 else 0))) ∧ (S0 412 2) < (rzN (rzCut (S0 411)) (S0 412 1) (S0 412 2))
noncomputable def rxmRLCK_7 (S0 : Nat → Int → Int) (ws : List Int) (S : Nat → Int → Int) (ba sl : Int) : Nat := rxmRLC_7 S0 ws S ba sl
noncomputable def rxIRLCK_8 (S0 : Nat → Int → Int) (ws : List Int) (S : Nat → Int → Int) (ba sl : Int) : Prop := rxIRLC_8 S0 ws S ba sl ∧ rkTa S0 S (rzN (rzCut (S0 411)) (S0 412 1) (S0 412 2)) ∧ ((ba = 1 ∧ rzIs (rzCut (S0 411)) (S0 412 1) rzW_bars (S0 412 2) = true) ∨ (ba = 0 ∧ rzIs (rzCut (S0 411)) (S0 412 1) rzW_bars (S0 412 2) = false ∧ sl = (if rzIs (rzCut (S0 411)) (S0 412 1) rzW_slips (S0 412 2) = true then 1 else 0))) ∧ (S0 412 2) < (rzN (rzCut (S0 411)) (S0 412 1) (S0 412 2))
noncomputable def rxmRLCK_8 (S0 : Nat → Int → Int) (ws : List Int) (S : Nat → Int → Int) (ba sl : Int) : Nat := rxmRLC_8 S0 ws S ba sl
noncomputable def rxIRLCK_9 (S0 : Nat → Int → Int) (ws : List Int) (S : Nat → Int → Int) (ba sl ki : Int) : Prop := rxIRLC_9 S0 ws S ba sl ki ∧ rkTa S0 S (rzN (rzCut (S0 411)) (S0 412 1) (S0 412 2)) ∧ ((ba = 1 ∧ rzIs (rzCut (S0 411)) (S0 412 1) rzW_bars (S0 412 2) = true) ∨ (ba = 0 ∧ rzIs (rzCut (S0 411)) (S0 412 1) rzW_bars (S0 412 2) = false ∧ sl = (if rzIs (rzCut (S0 411)) (S0 412 1) rzW_slips (S0 412 2) = true then 1 else 0))) ∧ (S0 412 2) < (rzN (rzCut (S0 411)) (S0 412 1) (S0 412 2)) ∧ ki = (if ba = 1 then 2 else if sl = 1 then 0 else 1)
noncomputable def rxmRLCK_9 (S0 : Nat → Int → Int) (ws : List Int) (S : Nat → Int → Int) (ba sl ki : Int) : Nat := rxmRLC_9 S0 ws S ba sl ki
noncomputable def rxIRLCK_10 (S0 : Nat → Int → Int) (ws : List Int) (S : Nat → Int → Int) (ba sl ki : Int) : Prop := rxIRLC_10 S0 ws S ba sl ki ∧ (rkPr S0 → rkCw S0 S (ki, -1, -1, none, none, none) ∧ S 412 2 = (rzN (rzCut (S0 411)) (S0 412 1) (S0 412 2)) ∧ S 412 7 = S0 412 7 ∧ S 427 0 = S0 427 0 ∧ rkPp S) ∧ ((ba = 1 ∧ rzIs (rzCut (S0 411)) (S0 412 1) rzW_bars (S0 412 2) = true) ∨ (ba = 0 ∧ rzIs (rzCut (S0 411)) (S0 412 1) rzW_bars (S0 412 2) = false ∧ sl = (if rzIs (rzCut (S0 411)) (S0 412 1) rzW_slips (S0 412 2) = true then 1 else 0))) ∧ (S0 412 2) < (rzN (rzCut (S0 411)) (S0 412 1) (S0 412 2)) ∧ ki = (if ba = 1 then 2 else if sl = 1 then 0 else 1)
noncomputable def rxmRLCK_10 (S0 : Nat → Int → Int) (ws : List Int) (S : Nat → Int → Int) (ba sl ki : Int) : Nat := rxmRLC_10 S0 ws S ba sl ki
noncomputable def rxIRLCK_11 (S0 : Nat → Int → Int) (ws : List Int) (S : Nat → Int → Int) (ba sl sa : Int) : Prop := rxIRLC_11 S0 ws S ba sl sa ∧ (rkPr S0 → (rkCw S0 S ((if ba = 1 then 2 else if sl = 1 then 0 else 1), -1, -1, none, none, none) ∧ S 412 2 = (rzN (rzCut (S0 411)) (S0 412 1) (S0 412 2)) ∧ S 412 7 = S0 412 7 ∧ S 427 0 = S0 427 0 ∧ rkPp S) ∧ sa = 434) ∧ ((ba = 1 ∧ rzIs (rzCut (S0 411)) (S0 412 1) rzW_bars (S0 412 2) = true) ∨ (ba = 0 ∧ rzIs (rzCut (S0 411)) (S0 412 1) rzW_bars (S0 412 2) = false ∧ sl = (if rzIs (rzCut (S0 411)) (S0 412 1) rzW_slips (S0 412 2) = true then 1 else 0))) ∧ (S0 412 2) < (rzN (rzCut (S0 411)) (S0 412 1) (S0 412 2)) ∧ ba = 0
noncomputable def rxmRLCK_11 (S0 : Nat → Int → Int) (ws : List Int) (S : Nat → Int → Int) (ba sl sa : Int) : Nat := rxmRLC_11 S0 ws S ba sl sa
noncomputable def rxIRLCK_12 (S0 : Nat → Int → Int) (ws : List Int) (S : Nat → Int → Int) (ba sl sa res : Int) : Prop := rxIRLC_12 S0 ws S ba sl sa res ∧ (res = 1 → rkHo (rkLH (rzCut (S0 411)) (S0 412 1) (rzWs S0) (S0 412 2) (S0 412 7)) S0 S)
noncomputable def rxmRLCK_12 (S0 : Nat → Int → Int) (ws : List Int) (S : Nat → Int → Int) (ba sl sa res : Int) : Nat := rxmRLC_12 S0 ws S ba sl sa res
noncomputable def rxPRLCK (S0 : Nat → Int → Int) (ws : List Int) : Prop := rxPRLC S0 ws
noncomputable def rxPSRLCK (S0 : Nat → Int → Int) (ws : List Int) (S : Nat → Int → Int) (w : Option Int) : Prop := rxPSRLC S0 ws S w ∧ (w = some 1 → rkHo (rkLH (rzCut (S0 411)) (S0 412 1) (rzWs S0) (S0 412 2) (S0 412 7)) S0 S)
theorem rxkRLCK_1 {S0 : Nat → Int → Int} {ws : List Int} {S : Nat → Int → Int} (hP : rxPRLCK S0 ws) (hin : bx_same rxL (bx_mdl rxCRLCK.2.2.1) S0 S) (I0 : bx_Inv rxL S) (hinv : rxIRLCK_1 S0 ws S)  : rxPIWX S [412, 525] ∧ ∀ (S_p : Nat → Int → Int) (r : Int), 0 ≤ r → r ≤ 1 → rxPSIWX S [412, 525] S_p (some r) → bx_Inv rxL S_p → bx_same rxL (bx_mdl rxC59.2.2.1) S S_p → rxIRLCK_2 S0 ws S_p r ∧ rxmRLCK_2 S0 ws S_p r < rxmRLCK_1 S0 ws S := by
  obtain ⟨hI, hx⟩ := hinv
  have g_ := rxkRLC_1 hP hin I0 hI
  exact ⟨g_.1, fun S_p r l_ u_ hq I1 hsm => ⟨⟨(g_.2 S_p r l_ u_ hq I1 hsm).1, (by
    have e_ := hq.1
    subst e_
    exact hx)⟩, (g_.2 S_p r l_ u_ hq I1 hsm).2⟩⟩
theorem rxkRLCK_3 {S0 : Nat → Int → Int} {ws : List Int} {S : Nat → Int → Int} {ba : Int} (hP : rxPRLCK S0 ws) (hin : bx_same rxL (bx_mdl rxCRLCK.2.2.1) S0 S) (I0 : bx_Inv rxL S) (hinv : rxIRLCK_3 S0 ws S ba) (l8 : 0 ≤ ba) (u8 : ba ≤ 1) : rxPIWX S [412, 542] ∧ ∀ (S_p : Nat → Int → Int) (r : Int), 0 ≤ r → r ≤ 1 → rxPSIWX S [412, 542] S_p (some r) → bx_Inv rxL S_p → bx_same rxL (bx_mdl rxC59.2.2.1) S S_p → rxIRLCK_4 S0 ws S_p ba r ∧ rxmRLCK_4 S0 ws S_p ba r < rxmRLCK_3 S0 ws S ba := by
  obtain ⟨hI, hx⟩ := hinv
  have g_ := rxkRLC_3 hP hin I0 hI l8 u8
  exact ⟨g_.1, fun S_p r l_ u_ hq I1 hsm => ⟨⟨(g_.2 S_p r l_ u_ hq I1 hsm).1, (by
    have e_ := hq.1
    subst e_
    exact hx)⟩, (g_.2 S_p r l_ u_ hq I1 hsm).2⟩⟩
theorem rxkRLCK_5 {S0 : Nat → Int → Int} {ws : List Int} {S : Nat → Int → Int} {ba sl : Int} (hP : rxPRLCK S0 ws) (hin : bx_same rxL (bx_mdl rxCRLCK.2.2.1) S0 S) (I0 : bx_Inv rxL S) (hinv : rxIRLCK_5 S0 ws S ba sl) (l8 : 0 ≤ ba) (u8 : ba ≤ 1) (l9 : 0 ≤ sl) (u9 : sl ≤ 1) : rxPIWX S [412, 530] ∧ ∀ (S_p : Nat → Int → Int) (r : Int), 0 ≤ r → r ≤ 1 → rxPSIWX S [412, 530] S_p (some r) → bx_Inv rxL S_p → bx_same rxL (bx_mdl rxC59.2.2.1) S S_p → rxIRLCK_6 S0 ws S_p ba sl r ∧ rxmRLCK_6 S0 ws S_p ba sl r < rxmRLCK_5 S0 ws S ba sl := by
  obtain ⟨hI, hx⟩ := hinv
  have g_ := rxkRLC_5 hP hin I0 hI l8 u8 l9 u9
  exact ⟨g_.1, fun S_p r l_ u_ hq I1 hsm => ⟨⟨(g_.2 S_p r l_ u_ hq I1 hsm).1, (by
    have e_ := hq.1
    subst e_
    exact hx)⟩, (g_.2 S_p r l_ u_ hq I1 hsm).2⟩⟩
theorem rxkRLCK_7 {S0 : Nat → Int → Int} {ws : List Int} {S : Nat → Int → Int} {ba sl : Int} (hP : rxPRLCK S0 ws) (hin : bx_same rxL (bx_mdl rxCRLCK.2.2.1) S0 S) (I0 : bx_Inv rxL S) (hinv : rxIRLCK_7 S0 ws S ba sl) (l8 : 0 ≤ ba) (u8 : ba ≤ 1) (l9 : 0 ≤ sl) (u9 : sl ≤ 1) : rxPAD S [412] ∧ ∀ (S_p : Nat → Int → Int), rxPSAD S [412] S_p none → bx_Inv rxL S_p → bx_same rxL (bx_mdl rxC84.2.2.1) S S_p → rxIRLCK_8 S0 ws S_p ba sl ∧ rxmRLCK_8 S0 ws S_p ba sl < rxmRLCK_7 S0 ws S ba sl := by
  obtain ⟨hI, hx⟩ := hinv
  have g_ := rxkRLC_7 hP hin I0 hI l8 u8 l9 u9
  exact ⟨g_.1, fun S_p hq I1 hsm => ⟨⟨(g_.2 S_p hq I1 hsm).1, (by
    exact ⟨rkTa_ad hx.1 hI.1.1 hI.1.2.1 hsm (by decide +kernel) (by decide +kernel) hq.2.1, hx.2⟩)⟩, (g_.2 S_p hq I1 hsm).2⟩⟩
theorem rxkRLCK_9 {S0 : Nat → Int → Int} {ws : List Int} {S : Nat → Int → Int} {ba sl ki : Int} (hP : rxPRLCK S0 ws) (hin : bx_same rxL (bx_mdl rxCRLCK.2.2.1) S0 S) (I0 : bx_Inv rxL S) (hinv : rxIRLCK_9 S0 ws S ba sl ki) (l8 : 0 ≤ ba) (u8 : ba ≤ 1) (l9 : 0 ≤ sl) (u9 : sl ≤ 1) (l10 : 0 ≤ ki) (u10 : ki ≤ 4) : rxPOCDK S [427, ki, (-1), (-1)] ∧ ∀ (S_p : Nat → Int → Int), rxPSOCDK S [427, ki, (-1), (-1)] S_p none → bx_Inv rxL S_p → bx_same rxL (bx_mdl rxCOCDK.2.2.1) S S_p → rxIRLCK_10 S0 ws S_p ba sl ki ∧ rxmRLCK_10 S0 ws S_p ba sl ki < rxmRLCK_9 S0 ws S ba sl ki := by
  obtain ⟨hI, hx⟩ := hinv
  have g_ := rxkRLC_9 hP hin I0 hI l8 u8 l9 u9 l10 u10
  exact ⟨g_.1, fun S_p hq I1 hsm => ⟨⟨(g_.2 S_p hq.2.1 I1 hsm).1, (by
    refine ⟨fun hp => ?_, hx.2.1, hx.2.2.1, hx.2.2.2⟩
    obtain ⟨-, -, pg, ki2, st2, cu2, hw2, h⟩ := hq
    have e0 : (427 : Int) = pg := Option.some.inj (congrArg (fun l : List Int => l[0]?) hw2)
    have e1 : ki = ki2 := Option.some.inj (congrArg (fun l : List Int => l[1]?) hw2)
    have e2 : (-1 : Int) = st2 := Option.some.inj (congrArg (fun l : List Int => l[2]?) hw2)
    have e3 : (-1 : Int) = cu2 := Option.some.inj (congrArg (fun l : List Int => l[3]?) hw2)
    subst e0
    subst e1
    subst e2
    subst e3
    exact rkCw_oc hp hx.1 (rzN_b (T := (rzCut (S0 411))) (n := (S0 412 1)) (f := S0 412 2)).1 (h rfl))⟩, (g_.2 S_p hq.2.1 I1 hsm).2⟩⟩
theorem rxkRLCK_11 {S0 : Nat → Int → Int} {ws : List Int} {S : Nat → Int → Int} {ba sl sa : Int} (hP : rxPRLCK S0 ws) (hin : bx_same rxL (bx_mdl rxCRLCK.2.2.1) S0 S) (I0 : bx_Inv rxL S) (hinv : rxIRLCK_11 S0 ws S ba sl sa) (l8 : 0 ≤ ba) (u8 : ba ≤ 1) (l9 : 0 ≤ sl) (u9 : sl ≤ 1) (l10 : 0 ≤ sa) (u10 : sa ≤ 1522) : rxPREDK S [412, sa, 0] ∧ ∀ (S_p : Nat → Int → Int) (res : Int), 0 ≤ res → res ≤ 1 → rxPSREDK S [412, sa, 0] S_p (some res) → bx_Inv rxL S_p → bx_same rxL (bx_mdl rxCREDK.2.2.1) S S_p → rxIRLCK_12 S0 ws S_p ba sl sa res ∧ rxmRLCK_12 S0 ws S_p ba sl sa res < rxmRLCK_11 S0 ws S ba sl sa := by
  obtain ⟨hI, hx⟩ := hinv
  have g_ := rxkRLC_11 hP hin I0 hI l8 u8 l9 u9 l10 u10
  exact ⟨g_.1, fun S_p res l_ u_ hq I1 hsm => ⟨⟨(g_.2 S_p res l_ u_ hq.1 I1 hsm).1, (by
    intro g_ hp
    obtain ⟨-, sa2, sg2, hw2, h⟩ := hq
    have e1 : sa = sa2 := Option.some.inj (congrArg (fun l : List Int => l[1]?) hw2)
    have e2 : (0 : Int) = sg2 := Option.some.inj (congrArg (fun l : List Int => l[2]?) hw2)
    subst e1
    subst e2
    obtain ⟨⟨hc, h2, h7, h0, hpp⟩, hsa⟩ := hx.1 hp
    have hA : rzAt (rzLH (rzCut (S0 411)) (S0 412 1) (rzWs S0) (S0 412 2) (S0 412 7)) S0 S (rzEx (rzCut (S0 411)) (S0 412 1) (rzWs S0) 0) := hI
    have p6 := hp.2.2.2.2.2
    obtain ⟨-, hkd, hlt, hb0⟩ := hx
    obtain ⟨d, d1, d2, -⟩ := rkCw_e hp hc hsm (by decide +kernel) (Or.inl hsa) (by omega) (h (by rw [g_]))
    rw [hA.1.1, hA.1.2.1, hA.1.ws, h2, h7] at d1
    have d2 := d2 hsa
    rcases hkd with ⟨z, -⟩ | ⟨z, y1, y2⟩
    · exfalso
      omega
    · refine ⟨_, rzAlt_n y1 ⟨d, d1, rfl⟩, ?_⟩
      rw [if_neg (show ¬ ba = 1 by omega), y2] at d2
      by_cases ys : rzIs (rzCut (S0 411)) (S0 412 1) rzW_slips (S0 412 2) = true
      · rw [if_pos ys] at d2 ⊢
        exact d2
      · rw [if_neg ys] at d2 ⊢
        exact d2)⟩, (g_.2 S_p res l_ u_ hq.1 I1 hsm).2⟩⟩
theorem rxcRLCK_0_0 {S0 : Nat → Int → Int} {ws : List Int} {S : Nat → Int → Int} (hP : rxPRLCK S0 ws) (hin : bx_same rxL (bx_mdl rxCRLCK.2.2.1) S0 S) (I0 : bx_Inv rxL S) (hinv : rxIRLCK_0 S0 ws S)  : (True) ∧ (True) ∧ rxIRLCK_1 S0 ws S ∧ rxmRLCK_1 S0 ws S < rxmRLCK_0 S0 ws S := by
  obtain ⟨hI, hx⟩ := hinv
  obtain ⟨a_, b_, c_, d_⟩ := rxcRLC_0_0 hP hin I0 hI
  exact ⟨a_, b_, ⟨c_, (by
    obtain ⟨e, -⟩ := hI
    subst e
    exact rkTa_rf)⟩, d_⟩
theorem rxcRLCK_2_0 {S0 : Nat → Int → Int} {ws : List Int} {S : Nat → Int → Int} {r : Int} (hP : rxPRLCK S0 ws) (hin : bx_same rxL (bx_mdl rxCRLCK.2.2.1) S0 S) (I0 : bx_Inv rxL S) (hinv : rxIRLCK_2 S0 ws S r) (l8 : 0 ≤ r) (u8 : r ≤ 1) : (True) ∧ (True) ∧ rxIRLCK_3 S0 ws S r ∧ rxmRLCK_3 S0 ws S r < rxmRLCK_2 S0 ws S r := by
  obtain ⟨hI, hx⟩ := hinv
  obtain ⟨a_, b_, c_, d_⟩ := rxcRLC_2_0 hP hin I0 hI l8 u8
  exact ⟨a_, b_, ⟨c_, hx⟩, d_⟩
theorem rxcRLCK_4_0 {S0 : Nat → Int → Int} {ws : List Int} {S : Nat → Int → Int} {ba r : Int} (hP : rxPRLCK S0 ws) (hin : bx_same rxL (bx_mdl rxCRLCK.2.2.1) S0 S) (I0 : bx_Inv rxL S) (hinv : rxIRLCK_4 S0 ws S ba r) (l8 : 0 ≤ ba) (u8 : ba ≤ 0) (l9 : 0 ≤ r) (u9 : r ≤ 0) : (True) ∧ (True) ∧ rxIRLCK_5 S0 ws S ba r ∧ rxmRLCK_5 S0 ws S ba r < rxmRLCK_4 S0 ws S ba r := by
  obtain ⟨hI, hx⟩ := hinv
  obtain ⟨a_, b_, c_, d_⟩ := rxcRLC_4_0 hP hin I0 hI l8 u8 l9 u9
  exact ⟨a_, b_, ⟨c_, hx⟩, d_⟩
theorem rxcRLCK_4_1 {S0 : Nat → Int → Int} {ws : List Int} {S : Nat → Int → Int} {ba r : Int} (hP : rxPRLCK S0 ws) (hin : bx_same rxL (bx_mdl rxCRLCK.2.2.1) S0 S) (I0 : bx_Inv rxL S) (hinv : rxIRLCK_4 S0 ws S ba r) (l8 : 0 ≤ ba) (u8 : ba ≤ 0) (l9 : 1 ≤ r) (u9 : r ≤ 1) (f0 : r ≠ 0) : (True) ∧ (True) ∧ rxIRLCK_7 S0 ws S ba r ∧ rxmRLCK_7 S0 ws S ba r < rxmRLCK_4 S0 ws S ba r := by
  obtain ⟨hI, hx⟩ := hinv
  obtain ⟨a_, b_, c_, d_⟩ := rxcRLC_4_1 hP hin I0 hI l8 u8 l9 u9 f0
  exact ⟨a_, b_, ⟨c_, (by
    obtain ⟨hA, h1, hr⟩ := hI
    have hf := hx.1
    rw [hA.1.1, hA.1.2.1] at hr
    have b1 : rzIs (rzCut (S0 411)) (S0 412 1) rzW_bars (S 412 2) = false := by
      cases hb : rzIs (rzCut (S0 411)) (S0 412 1) rzW_bars (S 412 2) with
      | false => rfl
      | true =>
        rw [hb, if_pos rfl] at h1
        omega
    have b2 : rzIs (rzCut (S0 411)) (S0 412 1) rzW_slips (S 412 2) = true := by
      cases hb : rzIs (rzCut (S0 411)) (S0 412 1) rzW_slips (S 412 2) with
      | true => rfl
      | false =>
        rw [hb, if_neg (by decide)] at hr
        omega
    rw [hf] at b1 b2
    exact ⟨hx, Or.inr ⟨by omega, b1, by rw [if_pos b2]; omega⟩, (rzN_b (T := (rzCut (S0 411))) (n := (S0 412 1)) (f := (S0 412 2))).2.2 (rzIs_lt (by decide) b2)⟩)⟩, d_⟩
theorem rxcRLCK_4_2 {S0 : Nat → Int → Int} {ws : List Int} {S : Nat → Int → Int} {ba r : Int} (hP : rxPRLCK S0 ws) (hin : bx_same rxL (bx_mdl rxCRLCK.2.2.1) S0 S) (I0 : bx_Inv rxL S) (hinv : rxIRLCK_4 S0 ws S ba r) (l8 : 1 ≤ ba) (u8 : ba ≤ 1) (l9 : 0 ≤ r) (u9 : r ≤ 1) (f0 : ba ≠ 0) : (True) ∧ (True) ∧ rxIRLCK_7 S0 ws S ba r ∧ rxmRLCK_7 S0 ws S ba r < rxmRLCK_4 S0 ws S ba r := by
  obtain ⟨hI, hx⟩ := hinv
  obtain ⟨a_, b_, c_, d_⟩ := rxcRLC_4_2 hP hin I0 hI l8 u8 l9 u9 f0
  exact ⟨a_, b_, ⟨c_, (by
    obtain ⟨hA, h1, hr⟩ := hI
    have hf := hx.1
    rw [hA.1.1, hA.1.2.1] at hr
    have b1 : rzIs (rzCut (S0 411)) (S0 412 1) rzW_bars (S 412 2) = true := by
      cases hb : rzIs (rzCut (S0 411)) (S0 412 1) rzW_bars (S 412 2) with
      | true => rfl
      | false =>
        rw [hb, if_neg (by decide)] at h1
        omega
    rw [hf] at b1
    exact ⟨hx, Or.inl ⟨by omega, b1⟩, (rzN_b (T := (rzCut (S0 411))) (n := (S0 412 1)) (f := (S0 412 2))).2.2 (rzIs_lt (by decide) b1)⟩)⟩, d_⟩
theorem rxcRLCK_6_0 {S0 : Nat → Int → Int} {ws : List Int} {S : Nat → Int → Int} {ba sl r : Int} (hP : rxPRLCK S0 ws) (hin : bx_same rxL (bx_mdl rxCRLCK.2.2.1) S0 S) (I0 : bx_Inv rxL S) (hinv : rxIRLCK_6 S0 ws S ba sl r) (l8 : 0 ≤ ba) (u8 : ba ≤ 1) (l9 : 0 ≤ sl) (u9 : sl ≤ 1) (l10 : 1 ≤ r) (u10 : r ≤ 1) (f0 : r ≠ 0) : (True) ∧ (True) ∧ rxIRLCK_7 S0 ws S ba sl ∧ rxmRLCK_7 S0 ws S ba sl < rxmRLCK_6 S0 ws S ba sl r := by
  obtain ⟨hI, hx⟩ := hinv
  obtain ⟨a_, b_, c_, d_⟩ := rxcRLC_6_0 hP hin I0 hI l8 u8 l9 u9 l10 u10 f0
  exact ⟨a_, b_, ⟨c_, (by
    obtain ⟨hA, z1, z2, h1, h2, hr⟩ := hI
    have hf := hx.1
    rw [hA.1.1, hA.1.2.1] at hr
    have b1 : rzIs (rzCut (S0 411)) (S0 412 1) rzW_bars (S 412 2) = false := by
      cases hb : rzIs (rzCut (S0 411)) (S0 412 1) rzW_bars (S 412 2) with
      | false => rfl
      | true =>
        rw [hb, if_pos rfl] at h1
        omega
    have b2 : rzIs (rzCut (S0 411)) (S0 412 1) rzW_slips (S 412 2) = false := by
      cases hb : rzIs (rzCut (S0 411)) (S0 412 1) rzW_slips (S 412 2) with
      | false => rfl
      | true =>
        rw [hb, if_pos rfl] at h2
        omega
    have b3 : rzIs (rzCut (S0 411)) (S0 412 1) rzW_hours (S 412 2) = true := by
      cases hb : rzIs (rzCut (S0 411)) (S0 412 1) rzW_hours (S 412 2) with
      | true => rfl
      | false =>
        rw [hb, if_neg (by decide)] at hr
        omega
    rw [hf] at b1 b2 b3
    exact ⟨hx, Or.inr ⟨z1, b1, by rw [b2, if_neg (by decide)]; exact z2⟩, (rzN_b (T := (rzCut (S0 411))) (n := (S0 412 1)) (f := (S0 412 2))).2.2 (rzIs_lt (by decide) b3)⟩)⟩, d_⟩
theorem rxdRLCK_6_0 {S0 : Nat → Int → Int} {ws : List Int} {S : Nat → Int → Int} {ba sl r x11 : Int} (hP : rxPRLCK S0 ws) (hin : bx_same rxL (bx_mdl rxCRLCK.2.2.1) S0 S) (hin2 : bx_same rxL (bx_mdl rxCRLCK.2.2.1) S (bx_up S 412 4 x11)) (I0 : bx_Inv rxL S) (I1 : bx_Inv rxL (bx_up S 412 4 x11)) (hinv : rxIRLCK_6 S0 ws S ba sl r) (l8 : 0 ≤ ba) (u8 : ba ≤ 1) (l9 : 0 ≤ sl) (u9 : sl ≤ 1) (l10 : 0 ≤ r) (u10 : r ≤ 0) (l11 : 0 ≤ x11) (u11 : x11 ≤ 400) (e1 : S 412 2 = x11) : (True) ∧ rxPSRLCK S0 ws (bx_up S 412 4 x11) (some 0) := by
  obtain ⟨hI, hx⟩ := hinv
  obtain ⟨a_, c_⟩ := rxdRLC_6_0 hP hin hin2 I0 I1 hI l8 u8 l9 u9 l10 u10 l11 u11 e1
  exact ⟨a_, c_, (fun g => absurd (Option.some.inj g) (by decide))⟩
theorem rxcRLCK_8_0 {S0 : Nat → Int → Int} {ws : List Int} {S : Nat → Int → Int} {ba sl : Int} (hP : rxPRLCK S0 ws) (hin : bx_same rxL (bx_mdl rxCRLCK.2.2.1) S0 S) (I0 : bx_Inv rxL S) (hinv : rxIRLCK_8 S0 ws S ba sl) (l8 : 1 ≤ ba) (u8 : ba ≤ 1) (l9 : 0 ≤ sl) (u9 : sl ≤ 1) (f0 : ba ≠ 0) : (True) ∧ (True) ∧ rxIRLCK_9 S0 ws S ba sl 2 ∧ rxmRLCK_9 S0 ws S ba sl 2 < rxmRLCK_8 S0 ws S ba sl := by
  obtain ⟨hI, hx⟩ := hinv
  obtain ⟨a_, b_, c_, d_⟩ := rxcRLC_8_0 hP hin I0 hI l8 u8 l9 u9 f0
  exact ⟨a_, b_, ⟨c_, (by
    refine ⟨hx.1, hx.2.1, hx.2.2, ?_⟩
    (repeat' split) <;> omega)⟩, d_⟩
theorem rxcRLCK_8_1 {S0 : Nat → Int → Int} {ws : List Int} {S : Nat → Int → Int} {ba sl : Int} (hP : rxPRLCK S0 ws) (hin : bx_same rxL (bx_mdl rxCRLCK.2.2.1) S0 S) (I0 : bx_Inv rxL S) (hinv : rxIRLCK_8 S0 ws S ba sl) (l8 : 0 ≤ ba) (u8 : ba ≤ 0) (l9 : 1 ≤ sl) (u9 : sl ≤ 1) (f0 : sl ≠ 0) : (True) ∧ (True) ∧ rxIRLCK_9 S0 ws S ba sl 0 ∧ rxmRLCK_9 S0 ws S ba sl 0 < rxmRLCK_8 S0 ws S ba sl := by
  obtain ⟨hI, hx⟩ := hinv
  obtain ⟨a_, b_, c_, d_⟩ := rxcRLC_8_1 hP hin I0 hI l8 u8 l9 u9 f0
  exact ⟨a_, b_, ⟨c_, (by
    refine ⟨hx.1, hx.2.1, hx.2.2, ?_⟩
    (repeat' split) <;> omega)⟩, d_⟩
theorem rxcRLCK_8_2 {S0 : Nat → Int → Int} {ws : List Int} {S : Nat → Int → Int} {ba sl : Int} (hP : rxPRLCK S0 ws) (hin : bx_same rxL (bx_mdl rxCRLCK.2.2.1) S0 S) (I0 : bx_Inv rxL S) (hinv : rxIRLCK_8 S0 ws S ba sl) (l8 : 0 ≤ ba) (u8 : ba ≤ 0) (l9 : 0 ≤ sl) (u9 : sl ≤ 0) : (True) ∧ (True) ∧ rxIRLCK_9 S0 ws S ba sl 1 ∧ rxmRLCK_9 S0 ws S ba sl 1 < rxmRLCK_8 S0 ws S ba sl := by
  obtain ⟨hI, hx⟩ := hinv
  obtain ⟨a_, b_, c_, d_⟩ := rxcRLC_8_2 hP hin I0 hI l8 u8 l9 u9
  exact ⟨a_, b_, ⟨c_, (by
    refine ⟨hx.1, hx.2.1, hx.2.2, ?_⟩
    (repeat' split) <;> omega)⟩, d_⟩
theorem rxcRLCK_10_0 {S0 : Nat → Int → Int} {ws : List Int} {S : Nat → Int → Int} {ba sl ki x11 : Int} (hP : rxPRLCK S0 ws) (hin : bx_same rxL (bx_mdl rxCRLCK.2.2.1) S0 S) (I0 : bx_Inv rxL S) (hinv : rxIRLCK_10 S0 ws S ba sl ki) (l8 : 0 ≤ ba) (u8 : ba ≤ 0) (l9 : 0 ≤ sl) (u9 : sl ≤ 1) (l10 : 0 ≤ ki) (u10 : ki ≤ 4) (l11 : 0 ≤ x11) (u11 : x11 ≤ 1522) (e0 : S 427 8 = x11) : (True) ∧ (True) ∧ rxIRLCK_11 S0 ws S ba sl x11 ∧ rxmRLCK_11 S0 ws S ba sl x11 < rxmRLCK_10 S0 ws S ba sl ki := by
  obtain ⟨hI, hx⟩ := hinv
  obtain ⟨a_, b_, c_, d_⟩ := rxcRLC_10_0 hP hin I0 hI l8 u8 l9 u9 l10 u10 l11 u11 e0
  exact ⟨a_, b_, ⟨c_, (by
    have hb : ba = 0 := by omega
    obtain ⟨h1_, h2_, h3_, h4_⟩ := hx
    subst h4_
    exact ⟨fun hp => ⟨h1_ hp, e0.symm.trans (h1_ hp).2.2.2.2.1⟩, h2_, h3_, hb⟩)⟩, d_⟩
theorem rxdRLCK_10_0 {S0 : Nat → Int → Int} {ws : List Int} {S : Nat → Int → Int} {ba sl ki : Int} (hP : rxPRLCK S0 ws) (hin : bx_same rxL (bx_mdl rxCRLCK.2.2.1) S0 S) (hin2 : bx_same rxL (bx_mdl rxCRLCK.2.2.1) S S) (I0 : bx_Inv rxL S) (I1 : bx_Inv rxL S) (hinv : rxIRLCK_10 S0 ws S ba sl ki) (l8 : 1 ≤ ba) (u8 : ba ≤ 1) (l9 : 0 ≤ sl) (u9 : sl ≤ 1) (l10 : 0 ≤ ki) (u10 : ki ≤ 4) (f0 : ba ≠ 0) : (True) ∧ rxPSRLCK S0 ws S (some 1) := by
  obtain ⟨hI, hx⟩ := hinv
  obtain ⟨a_, c_⟩ := rxdRLC_10_0 hP hin hin2 I0 I1 hI l8 u8 l9 u9 l10 u10 f0
  exact ⟨a_, c_, (by
    intro g_ hp
    obtain ⟨hc, h2, h7, h0, hpp⟩ := hx.1 hp
    obtain ⟨-, hkd, hlt, hki⟩ := hx
    rcases hkd with ⟨z, y1⟩ | ⟨z, y1, y2⟩
    · refine ⟨_, rzAlt_y y1 rfl, ?_⟩
      rw [hki, if_pos z] at hc
      exact hc
    · exfalso
      omega)⟩
theorem rxdRLCK_12_0 {S0 : Nat → Int → Int} {ws : List Int} {S : Nat → Int → Int} {ba sl sa res : Int} (hP : rxPRLCK S0 ws) (hin : bx_same rxL (bx_mdl rxCRLCK.2.2.1) S0 S) (hin2 : bx_same rxL (bx_mdl rxCRLCK.2.2.1) S S) (I0 : bx_Inv rxL S) (I1 : bx_Inv rxL S) (hinv : rxIRLCK_12 S0 ws S ba sl sa res) (l8 : 0 ≤ ba) (u8 : ba ≤ 1) (l9 : 0 ≤ sl) (u9 : sl ≤ 1) (l10 : 0 ≤ sa) (u10 : sa ≤ 1522) (l11 : 1 ≤ res) (u11 : res ≤ 1) (f0 : res ≠ 0) : (True) ∧ rxPSRLCK S0 ws S (some 1) := by
  obtain ⟨hI, hx⟩ := hinv
  obtain ⟨a_, c_⟩ := rxdRLC_12_0 hP hin hin2 I0 I1 hI l8 u8 l9 u9 l10 u10 l11 u11 f0
  exact ⟨a_, c_, (by
    first
    | exact fun g => hx (Option.some.inj g)
    | exact fun _ => hx (by omega)
    | exact fun g => absurd (Option.some.inj g) (by decide))⟩
theorem rxdRLCK_12_1 {S0 : Nat → Int → Int} {ws : List Int} {S : Nat → Int → Int} {ba sl sa res : Int} (hP : rxPRLCK S0 ws) (hin : bx_same rxL (bx_mdl rxCRLCK.2.2.1) S0 S) (hin2 : bx_same rxL (bx_mdl rxCRLCK.2.2.1) S S) (I0 : bx_Inv rxL S) (I1 : bx_Inv rxL S) (hinv : rxIRLCK_12 S0 ws S ba sl sa res) (l8 : 0 ≤ ba) (u8 : ba ≤ 1) (l9 : 0 ≤ sl) (u9 : sl ≤ 1) (l10 : 0 ≤ sa) (u10 : sa ≤ 1522) (l11 : 0 ≤ res) (u11 : res ≤ 0) : (True) ∧ rxPSRLCK S0 ws S (some 0) := by
  obtain ⟨hI, hx⟩ := hinv
  obtain ⟨a_, c_⟩ := rxdRLC_12_1 hP hin hin2 I0 I1 hI l8 u8 l9 u9 l10 u10 l11 u11
  exact ⟨a_, c_, (by
    first
    | exact fun g => hx (Option.some.inj g)
    | exact fun _ => hx (by omega)
    | exact fun g => absurd (Option.some.inj g) (by decide))⟩