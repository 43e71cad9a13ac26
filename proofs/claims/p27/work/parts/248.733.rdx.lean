noncomputable def rxCRDXK : bx_Ct := ([(3, (1, 412, 0)), (3, (1, 411, 0)), (0, (0, 0, 400)), (0, (0, 0, 1)), (3, (1, 427, 0))], some (0, (0, 0, 1)), [(6, 0), (6, 4), (7, 0), (7, 1), (7, 2), (7, 3), (7, 4), (7, 5), (7, 6), (7, 7), (7, 8), (7, 10), (1021, 0), (1022, 0), (1024, 0), (1025, 0), (1026, 0), (1027, 0), (1034, 0), (1035, 0), (1036, 0)], 9, [])
noncomputable def rxIRDXK_0 (S0 : Nat → Int → Int) (ws : List Int) (S : Nat → Int → Int) (nb ap : Int) : Prop := rxIRDX_0 S0 ws S nb ap ∧ True
noncomputable def rxmRDXK_0 (S0 : Nat → Int → Int) (ws : List Int) (S : Nat → Int → Int) (nb ap : Int) : Nat := rxmRDX_0 S0 ws S nb ap
noncomputable def rxIRDXK_1 (S0 : Nat → Int → Int) (ws : List Int) (S : Nat → Int → Int) (nb ap : Int) : Prop := rxIRDX_1 S0 ws S nb ap ∧ (rkPp S0 → S 427 0 = 0 ∧ S 427 4 = 0 ∧ rkPp S)
noncomputable def rxmRDXK_1 (S0 : Nat → Int → Int) (ws : List Int) (S : Nat → Int → Int) (nb ap : Int) : Nat := rxmRDX_1 S0 ws S nb ap
noncomputable def rxIRDXK_2 (S0 : Nat → Int → Int) (ws : List Int) (S : Nat → Int → Int) (nb ap : Int) : Prop := rxIRDX_2 S0 ws S nb ap ∧ (rkPp S0 → S 427 0 = 0 ∧ S 427 4 = 0 ∧ rkPp S) ∧ S 412 2 = rzF (rzCut (S0 411)) nb 0 ∧ S 412 7 = 0
noncomputable def rxmRDXK_2 (S0 : Nat → Int → Int) (ws : List Int) (S : Nat → Int → Int) (nb ap : Int) : Nat := rxmRDX_2 S0 ws S nb ap
noncomputable def rxIRDXK_3 (S0 : Nat → Int → Int) (ws : List Int) (S : Nat → Int → Int) (nb ap cl : Int) : Prop := rxIRDX_3 S0 ws S nb ap cl ∧ rkLp S0 S nb ap cl
noncomputable def rxmRDXK_3 (S0 : Nat → Int → Int) (ws : List Int) (S : Nat → Int → Int) (nb ap cl : Int) : Nat := rxmRDX_3 S0 ws S nb ap cl
noncomputable def rxIRDXK_4 (S0 : Nat → Int → Int) (ws : List Int) (S : Nat → Int → Int) (nb ap cl : Int) : Prop := rxIRDX_4 S0 ws S nb ap cl ∧ rkLp S0 S nb ap cl
noncomputable def rxmRDXK_4 (S0 : Nat → Int → Int) (ws : List Int) (S : Nat → Int → Int) (nb ap cl : Int) : Nat := rxmRDX_4 S0 ws S nb ap cl
noncomputable def rxIRDXK_5 (S0 : Nat → Int → Int) (ws : List Int) (S : Nat → Int → Int) (nb ap cl res : Int) : Prop := rxIRDX_5 S0 ws S nb ap cl res ∧ (res = 1 → rkLq S0 S nb ap cl)
noncomputable def rxmRDXK_5 (S0 : Nat → Int → Int) (ws : List Int) (S : Nat → Int → Int) (nb ap cl res : Int) : Nat := rxmRDX_5 S0 ws S nb ap cl res
noncomputable def rxIRDXK_6 (S0 : Nat → Int → Int) (ws : List Int) (S : Nat → Int → Int) (nb ap cl : Int) : Prop := rxIRDX_6 S0 ws S nb ap cl ∧ rkLp S0 S nb ap cl
noncomputable def rxmRDXK_6 (S0 : Nat → Int → Int) (ws : List Int) (S : Nat → Int → Int) (nb ap cl : Int) : Nat := rxmRDX_6 S0 ws S nb ap cl
noncomputable def rxIRDXK_7 (S0 : Nat → Int → Int) (ws : List Int) (S : Nat → Int → Int) (nb ap cl res : Int) : Prop := rxIRDX_7 S0 ws S nb ap cl res ∧ (res = 1 → rkLq S0 S nb ap cl)
noncomputable def rxmRDXK_7 (S0 : Nat → Int → Int) (ws : List Int) (S : Nat → Int → Int) (nb ap cl res : Int) : Nat := rxmRDX_7 S0 ws S nb ap cl res
noncomputable def rxIRDXK_8 (S0 : Nat → Int → Int) (ws : List Int) (S : Nat → Int → Int) (nb ap cl : Int) : Prop := rxIRDX_8 S0 ws S nb ap cl ∧ rkLq S0 S nb ap cl
noncomputable def rxmRDXK_8 (S0 : Nat → Int → Int) (ws : List Int) (S : Nat → Int → Int) (nb ap cl : Int) : Nat := rxmRDX_8 S0 ws S nb ap cl
noncomputable def rxIRDXK_9 (S0 : Nat → Int → Int) (ws : List Int) (S : Nat → Int → Int) (nb ap cl res : Int) : Prop := rxIRDX_9 S0 ws S nb ap cl res ∧ (res = 1 → rkLr S0 S nb ap cl)
noncomputable def rxmRDXK_9 (S0 : Nat → Int → Int) (ws : List Int) (S : Nat → Int → Int) (nb ap cl res : Int) : Nat := rxmRDX_9 S0 ws S nb ap cl res
noncomputable def rxIRDXK_10 (S0 : Nat → Int → Int) (ws : List Int) (S : Nat → Int → Int) (nb ap cl : Int) : Prop := rxIRDX_10 S0 ws S nb ap cl ∧ rkLr S0 S nb ap cl
noncomputable def rxmRDXK_10 (S0 : Nat → Int → Int) (ws : List Int) (S : Nat → Int → Int) (nb ap cl : Int) : Nat := rxmRDX_10 S0 ws S nb ap cl
noncomputable def rxIRDXK_11 (S0 : Nat → Int → Int) (ws : List Int) (S : Nat → Int → Int) (nb ap cl : Int) : Prop := rxIRDX_11 S0 ws S nb ap cl ∧ rkLp S0 S nb ap (cl + 1)
noncomputable def rxmRDXK_11 (S0 : Nat → Int → Int) (ws : List Int) (S : Nat → Int → Int) (nb ap cl : Int) : Nat := rxmRDX_11 S0 ws S nb ap cl
noncomputable def rxPRDXK (S0 : Nat → Int → Int) (ws : List Int) : Prop := rxPRDX S0 ws
noncomputable def rxPSRDXK (S0 : Nat → Int → Int) (ws : List Int) (S : Nat → Int → Int) (w : Option Int) : Prop := rxPSRDX S0 ws S w ∧ (∃ nb ap : Int, ws = [412, 411, nb, ap, 427] ∧ (w = some 1 → rkPp S0 → ∃ L : List rkQ, rkText (decide (ap = 1)) (rzCut (S0 411)) nb L ∧ S 427 4 = (L.length : Int) ∧ L.length ≤ 12 ∧ rkPd S 0 L ∧ rkPp S))
theorem rxkRDXK_1 {S0 : Nat → Int → Int} {ws : List Int} {S : Nat → Int → Int} {nb ap : Int} (hP : rxPRDXK S0 ws) (hin : bx_same rxL (bx_mdl rxCRDXK.2.2.1) S0 S) (I0 : bx_Inv rxL S) (hinv : rxIRDXK_1 S0 ws S nb ap) (l8 : 0 ≤ nb) (u8 : nb ≤ 400) (l9 : 0 ≤ ap) (u9 : ap ≤ 1) : rxPAD S [412] ∧ ∀ (S_p : Nat → Int → Int), rxPSAD S [412] S_p none → bx_Inv rxL S_p → bx_same rxL (bx_mdl rxC84.2.2.1) S S_p → rxIRDXK_2 S0 ws S_p nb ap ∧ rxmRDXK_2 S0 ws S_p nb ap < rxmRDXK_1 S0 ws S nb ap := by
  obtain ⟨hI, hx⟩ := hinv
  have g_ := rxkRDX_1 hP hin I0 hI l8 u8 l9 u9
  exact ⟨g_.1, fun S_p hq I1 hsm => ⟨⟨(g_.2 S_p hq I1 hsm).1, (by
    obtain ⟨hw, hR, h3, h7⟩ := hI
    refine ⟨fun hp => ?_, ?_, (hsm 412 7 (by decide) (by decide) (by decide +kernel)).trans h7⟩
    · obtain ⟨g1, g2, g3⟩ := hx hp
      obtain ⟨a1, a2, a3, a4, a5, a6, a7⟩ := rkPs_sm (S0 := S) rkPs_rf hsm (by decide +kernel)
      exact ⟨a1.trans g1, a2.trans g2, a5.trans g3.1, a6.trans g3.2.1, a7.trans g3.2.2⟩
    · rw [hq.2.1, hR.1, hR.2.1, h3])⟩, (g_.2 S_p hq I1 hsm).2⟩⟩
theorem rxkRDXK_4 {S0 : Nat → Int → Int} {ws : List Int} {S : Nat → Int → Int} {nb ap cl : Int} (hP : rxPRDXK S0 ws) (hin : bx_same rxL (bx_mdl rxCRDXK.2.2.1) S0 S) (I0 : bx_Inv rxL S) (hinv : rxIRDXK_4 S0 ws S nb ap cl) (l8 : 0 ≤ nb) (u8 : nb ≤ 400) (l9 : 0 ≤ ap) (u9 : ap ≤ 1) (l10 : 0 ≤ cl) (u10 : cl ≤ 11) : rxPRPCK S [412] ∧ ∀ (S_p : Nat → Int → Int) (res : Int), 0 ≤ res → res ≤ 1 → rxPSRPCK S [412] S_p (some res) → bx_Inv rxL S_p → bx_same rxL (bx_mdl rxCRPCK.2.2.1) S S_p → rxIRDXK_5 S0 ws S_p nb ap cl res ∧ rxmRDXK_5 S0 ws S_p nb ap cl res < rxmRDXK_4 S0 ws S nb ap cl := by
  obtain ⟨hI, hx⟩ := hinv
  have g_ := rxkRDX_4 hP hin I0 hI l8 u8 l9 u9 l10 u10
  exact ⟨g_.1, fun S_p res l_ u_ hq I1 hsm => ⟨⟨(g_.2 S_p res l_ u_ hq.1 I1 hsm).1, (by
    obtain ⟨ha, hw, S1, hR, hA⟩ := hI
    intro g_
    have eT : rzCut (S 411) = rzCut (S0 411) := hA.1.1.trans hR.1
    have e1 : S 412 1 = nb := hA.1.2.1.trans hR.2.1
    have e5 : S 412 5 = ap := hA.1.2.2.1.trans hR.2.2.1
    have hW : rzWs S = rzPn := by
      unfold rzWs
      rw [e5, if_pos (by omega)]
    have hd : decide (ap = 1) = true := decide_eq_true (by omega)
    obtain ⟨hq0, hq1⟩ := hq
    obtain ⟨r, r1, r2⟩ := hq0
    rw [eT, e1, hW] at r1
    have hq1 := hq1 (by rw [g_])
    rw [eT, e1, hW] at hq1
    rcases r2 with ⟨-, -, -, -, p2, p7⟩ | ⟨z, -⟩
    · refine rkLq_of hx (by omega) (by omega) I0 (r := r) ?_ p2 p7 ?_
      · rw [hd]
        exact r1
      · rw [hd]
        exact hq1
    · exfalso
      have := Option.some.inj z
      omega)⟩, (g_.2 S_p res l_ u_ hq.1 I1 hsm).2⟩⟩
theorem rxkRDXK_6 {S0 : Nat → Int → Int} {ws : List Int} {S : Nat → Int → Int} {nb ap cl : Int} (hP : rxPRDXK S0 ws) (hin : bx_same rxL (bx_mdl rxCRDXK.2.2.1) S0 S) (I0 : bx_Inv rxL S) (hinv : rxIRDXK_6 S0 ws S nb ap cl) (l8 : 0 ≤ nb) (u8 : nb ≤ 400) (l9 : 0 ≤ ap) (u9 : ap ≤ 1) (l10 : 0 ≤ cl) (u10 : cl ≤ 11) : rxPRLCK S [412] ∧ ∀ (S_p : Nat → Int → Int) (res : Int), 0 ≤ res → res ≤ 1 → rxPSRLCK S [412] S_p (some res) → bx_Inv rxL S_p → bx_same rxL (bx_mdl rxCRLCK.2.2.1) S S_p → rxIRDXK_7 S0 ws S_p nb ap cl res ∧ rxmRDXK_7 S0 ws S_p nb ap cl res < rxmRDXK_6 S0 ws S nb ap cl := by
  obtain ⟨hI, hx⟩ := hinv
  have g_ := rxkRDX_6 hP hin I0 hI l8 u8 l9 u9 l10 u10
  exact ⟨g_.1, fun S_p res l_ u_ hq I1 hsm => ⟨⟨(g_.2 S_p res l_ u_ hq.1 I1 hsm).1, (by
    obtain ⟨ha, hw, S1, hR, hA⟩ := hI
    intro g_
    have eT : rzCut (S 411) = rzCut (S0 411) := hA.1.1.trans hR.1
    have e1 : S 412 1 = nb := hA.1.2.1.trans hR.2.1
    have e5 : S 412 5 = ap := hA.1.2.2.1.trans hR.2.2.1
    have hW : rzWs S = rzLn_ := by
      unfold rzWs
      rw [e5, if_neg (by omega)]
    have hd : decide (ap = 1) = false := decide_eq_false (by omega)
    obtain ⟨hq0, hq1⟩ := hq
    obtain ⟨r, r1, r2⟩ := hq0
    rw [eT, e1, hW] at r1
    have hq1 := hq1 (by rw [g_])
    rw [eT, e1, hW] at hq1
    rcases r2 with ⟨-, -, -, -, p2, p7⟩ | ⟨z, -⟩
    · refine rkLq_of hx (by omega) (by omega) I0 (r := r) ?_ p2 p7 ?_
      · rw [hd]
        exact r1
      · rw [hd]
        exact hq1
    · exfalso
      have := Option.some.inj z
      omega)⟩, (g_.2 S_p res l_ u_ hq.1 I1 hsm).2⟩⟩
theorem rxkRDXK_8 {S0 : Nat → Int → Int} {ws : List Int} {S : Nat → Int → Int} {nb ap cl : Int} (hP : rxPRDXK S0 ws) (hin : bx_same rxL (bx_mdl rxCRDXK.2.2.1) S0 S) (I0 : bx_Inv rxL S) (hinv : rxIRDXK_8 S0 ws S nb ap cl) (l8 : 0 ≤ nb) (u8 : nb ≤ 400) (l9 : 0 ≤ ap) (u9 : ap ≤ 1) (l10 : 0 ≤ cl) (u10 : cl ≤ 11) : rxPRIFK S [412] ∧ ∀ (S_p : Nat → Int → Int) (res : Int), 0 ≤ res → res ≤ 1 → rxPSRIFK S [412] S_p (some res) → bx_Inv rxL S_p → bx_same rxL (bx_mdl rxCRIFK.2.2.1) S S_p → rxIRDXK_9 S0 ws S_p nb ap cl res ∧ rxmRDXK_9 S0 ws S_p nb ap cl res < rxmRDXK_8 S0 ws S nb ap cl := by
  obtain ⟨hI, hx⟩ := hinv
  have g_ := rxkRDX_8 hP hin I0 hI l8 u8 l9 u9 l10 u10
  exact ⟨g_.1, fun S_p res l_ u_ hq I1 hsm => ⟨⟨(g_.2 S_p res l_ u_ hq.1 I1 hsm).1, (by
    obtain ⟨hw, S1, hR, hA⟩ := hI
    intro g_
    have eT : rzCut (S 411) = rzCut (S0 411) := hA.1.1.trans hR.1
    have e1 : S 412 1 = nb := hA.1.2.1.trans hR.2.1
    have e5 : S 412 5 = ap := hA.1.2.2.1.trans hR.2.2.1
    have hW : rzWs S = rkWs (decide (ap = 1)) := by
      unfold rzWs rkWs
      rw [e5]
      by_cases c : ap = 1
      · rw [if_pos c, if_pos (decide_eq_true c)]
      · rw [if_neg c, if_neg (by rw [decide_eq_false c]; decide)]
    obtain ⟨hq0, hq1⟩ := hq
    obtain ⟨r, r1, r2⟩ := hq0
    rw [eT, e1, hW] at r1
    rcases r2 with ⟨-, -, -, -, p2, p7⟩ | ⟨z, -⟩
    · exact rkLr_of hx (by omega) (by omega) I0 eT e1 hW r1 p2 p7 (hq1 (by rw [g_]))
    · exfalso
      have := Option.some.inj z
      omega)⟩, (g_.2 S_p res l_ u_ hq.1 I1 hsm).2⟩⟩
theorem rxkRDXK_10 {S0 : Nat → Int → Int} {ws : List Int} {S : Nat → Int → Int} {nb ap cl : Int} (hP : rxPRDXK S0 ws) (hin : bx_same rxL (bx_mdl rxCRDXK.2.2.1) S0 S) (I0 : bx_Inv rxL S) (hinv : rxIRDXK_10 S0 ws S nb ap cl) (l8 : 0 ≤ nb) (u8 : nb ≤ 400) (l9 : 0 ≤ ap) (u9 : ap ≤ 1) (l10 : 0 ≤ cl) (u10 : cl ≤ 11) : rxPAD S [412] ∧ ∀ (S_p : Nat → Int → Int), rxPSAD S [412] S_p none → bx_Inv rxL S_p → bx_same rxL (bx_mdl rxC84.2.2.1) S S_p → rxIRDXK_11 S0 ws S_p nb ap cl ∧ rxmRDXK_11 S0 ws S_p nb ap cl < rxmRDXK_10 S0 ws S nb ap cl := by
  obtain ⟨hI, hx⟩ := hinv
  have g_ := rxkRDX_10 hP hin I0 hI l8 u8 l9 u9 l10 u10
  exact ⟨g_.1, fun S_p hq I1 hsm => ⟨⟨(g_.2 S_p hq I1 hsm).1, (by
    obtain ⟨hw, S1, hR, hA, hb⟩ := hI
    intro hp
    obtain ⟨L, h1, h2, h3, h4, h5, h6⟩ := hx hp
    have eT : rzCut (S 411) = rzCut (S0 411) := hA.1.1.trans hR.1
    have e1 : S 412 1 = nb := hA.1.2.1.trans hR.2.1
    obtain ⟨a1, a2, a3, a4, a5, a6, a7⟩ := rkPs_sm (S0 := S) rkPs_rf hsm (by decide +kernel)
    have bz : 0 ≤ S 427 0 ∧ S 427 0 ≤ 400 := I0 427 0 (by decide) (by decide)
    have e2 : S_p 412 2 = rzN (rzCut (S0 411)) nb (S 412 2) := by
      rw [hq.2.1, hA.2.1.1, eT, e1]
      rfl
    have b2 := (rzN_b (T := rzCut (S0 411)) (n := nb) (f := S 412 2)).1
    refine ⟨L, a2.trans h1, h2, ⟨a5.trans h3.1, a6.trans h3.2.1, a7.trans h3.2.2⟩, by omega, rkPd_fr (c := 12) (fun i u v => a3 i u (by omega)) (by omega) a4 (Int.le_refl 0) (by omega) h5, fun L_p hL => h6 L_p (rzAlt_y hb ?_)⟩
    rw [e2, show S_p 412 7 = S 412 7 from hsm 412 7 (by decide) (by decide) (by decide +kernel), show (12 - (cl + 1)).toNat = (11 - cl).toNat by omega] at hL
    exact hL)⟩, (g_.2 S_p hq I1 hsm).2⟩⟩
theorem rxcRDXK_0_0 {S0 : Nat → Int → Int} {ws : List Int} {S : Nat → Int → Int} {nb ap : Int} (hP : rxPRDXK S0 ws) (hin : bx_same rxL (bx_mdl rxCRDXK.2.2.1) S0 S) (I0 : bx_Inv rxL S) (hinv : rxIRDXK_0 S0 ws S nb ap) (l8 : 0 ≤ nb) (u8 : nb ≤ 400) (l9 : 0 ≤ ap) (u9 : ap ≤ 1) : (True) ∧ (True) ∧ rxIRDXK_1 S0 ws (bx_up (bx_up (bx_up (bx_up (bx_up (bx_up (bx_up (bx_up (bx_up S 412 0 411) 412 1 nb) 412 3 0) 412 4 ((-1))) 412 5 ap) 412 6 427) 427 0 0) 427 4 0) 412 7 0) nb ap ∧ rxmRDXK_1 S0 ws (bx_up (bx_up (bx_up (bx_up (bx_up (bx_up (bx_up (bx_up (bx_up S 412 0 411) 412 1 nb) 412 3 0) 412 4 ((-1))) 412 5 ap) 412 6 427) 427 0 0) 427 4 0) 412 7 0) nb ap < rxmRDXK_0 S0 ws S nb ap := by
  obtain ⟨hI, hx⟩ := hinv
  obtain ⟨a_, b_, c_, d_⟩ := rxcRDX_0_0 hP hin I0 hI l8 u8 l9 u9
  exact ⟨a_, b_, ⟨c_, (by
    obtain ⟨e, -⟩ := hI
    subst e
    exact fun hp => ⟨((bx_up_ne (by omega)).trans ((bx_up_ne (by omega)).trans (bx_up_at))), ((bx_up_ne (by omega)).trans (bx_up_at)), ((bx_up_ne (by omega)).trans ((bx_up_ne (by omega)).trans ((bx_up_ne (by omega)).trans ((bx_up_ne (by omega)).trans ((bx_up_ne (by omega)).trans ((bx_up_ne (by omega)).trans ((bx_up_ne (by omega)).trans ((bx_up_ne (by omega)).trans ((bx_up_ne (by omega))))))))))).trans hp.1, ((bx_up_ne (by omega)).trans ((bx_up_ne (by omega)).trans ((bx_up_ne (by omega)).trans ((bx_up_ne (by omega)).trans ((bx_up_ne (by omega)).trans ((bx_up_ne (by omega)).trans ((bx_up_ne (by omega)).trans ((bx_up_ne (by omega)).trans ((bx_up_ne (by omega))))))))))).trans hp.2.1, ((bx_up_ne (by omega)).trans ((bx_up_ne (by omega)).trans ((bx_up_ne (by omega)).trans ((bx_up_ne (by omega)).trans ((bx_up_ne (by omega)).trans ((bx_up_ne (by omega)).trans ((bx_up_ne (by omega)).trans ((bx_up_ne (by omega)).trans ((bx_up_ne (by omega))))))))))).trans hp.2.2⟩)⟩, d_⟩
theorem rxcRDXK_2_0 {S0 : Nat → Int → Int} {ws : List Int} {S : Nat → Int → Int} {nb ap : Int} (hP : rxPRDXK S0 ws) (hin : bx_same rxL (bx_mdl rxCRDXK.2.2.1) S0 S) (I0 : bx_Inv rxL S) (hinv : rxIRDXK_2 S0 ws S nb ap) (l8 : 0 ≤ nb) (u8 : nb ≤ 400) (l9 : 0 ≤ ap) (u9 : ap ≤ 1) : (True) ∧ (True) ∧ rxIRDXK_3 S0 ws S nb ap 0 ∧ rxmRDXK_3 S0 ws S nb ap 0 < rxmRDXK_2 S0 ws S nb ap := by
  obtain ⟨hI, hx⟩ := hinv
  obtain ⟨a_, b_, c_, d_⟩ := rxcRDX_2_0 hP hin I0 hI l8 u8 l9 u9
  exact ⟨a_, b_, ⟨c_, (by
    refine fun hp => ⟨[], ?_, ?_, (hx.1 hp).2.2, ?_, trivial, fun L_p hL => ?_⟩
    · exact (hx.1 hp).2.1
    · rfl
    · rw [(hx.1 hp).1, hx.2.1]
      exact rzF_b.1
    · rw [hx.2.1, hx.2.2] at hL
      exact hL)⟩, d_⟩
theorem rxcRDXK_3_0 {S0 : Nat → Int → Int} {ws : List Int} {S : Nat → Int → Int} {nb ap cl x11 : Int} (hP : rxPRDXK S0 ws) (hin : bx_same rxL (bx_mdl rxCRDXK.2.2.1) S0 S) (I0 : bx_Inv rxL S) (hinv : rxIRDXK_3 S0 ws S nb ap cl) (l8 : 0 ≤ nb) (u8 : nb ≤ 400) (l9 : 0 ≤ ap) (u9 : ap ≤ 1) (l10 : 0 ≤ cl) (u10 : cl ≤ 11) (l11 : 1 ≤ x11) (u11 : x11 ≤ 1) (f0 : x11 ≠ 0) (e0 : S 412 5 = x11) : (True) ∧ (True) ∧ rxIRDXK_4 S0 ws S nb ap cl ∧ rxmRDXK_4 S0 ws S nb ap cl < rxmRDXK_3 S0 ws S nb ap cl := by
  obtain ⟨hI, hx⟩ := hinv
  obtain ⟨a_, b_, c_, d_⟩ := rxcRDX_3_0 hP hin I0 hI l8 u8 l9 u9 l10 u10 l11 u11 f0 e0
  exact ⟨a_, b_, ⟨c_, hx⟩, d_⟩
theorem rxcRDXK_3_1 {S0 : Nat → Int → Int} {ws : List Int} {S : Nat → Int → Int} {nb ap cl x11 : Int} (hP : rxPRDXK S0 ws) (hin : bx_same rxL (bx_mdl rxCRDXK.2.2.1) S0 S) (I0 : bx_Inv rxL S) (hinv : rxIRDXK_3 S0 ws S nb ap cl) (l8 : 0 ≤ nb) (u8 : nb ≤ 400) (l9 : 0 ≤ ap) (u9 : ap ≤ 1) (l10 : 0 ≤ cl) (u10 : cl ≤ 11) (l11 : 0 ≤ x11) (u11 : x11 ≤ 0) (e0 : S 412 5 = x11) : (True) ∧ (True) ∧ rxIRDXK_6 S0 ws S nb ap cl ∧ rxmRDXK_6 S0 ws S nb ap cl < rxmRDXK_3 S0 ws S nb ap cl := by
  obtain ⟨hI, hx⟩ := hinv
  obtain ⟨a_, b_, c_, d_⟩ := rxcRDX_3_1 hP hin I0 hI l8 u8 l9 u9 l10 u10 l11 u11 e0
  exact ⟨a_, b_, ⟨c_, hx⟩, d_⟩
theorem rxdRDXK_3_0 {S0 : Nat → Int → Int} {ws : List Int} {S : Nat → Int → Int} {nb ap cl x11 : Int} (hP : rxPRDXK S0 ws) (hin : bx_same rxL (bx_mdl rxCRDXK.2.2.1) S0 S) (hin2 : bx_same rxL (bx_mdl rxCRDXK.2.2.1) S (bx_up S 412 4 x11)) (I0 : bx_Inv rxL S) (I1 : bx_Inv rxL (bx_up S 412 4 x11)) (hinv : rxIRDXK_3 S0 ws S nb ap cl) (l8 : 0 ≤ nb) (u8 : nb ≤ 400) (l9 : 0 ≤ ap) (u9 : ap ≤ 1) (l10 : 12 ≤ cl) (u10 : cl ≤ 12) (l11 : 0 ≤ x11) (u11 : x11 ≤ 400) (e1 : S 412 2 = x11) : (True) ∧ rxPSRDXK S0 ws (bx_up S 412 4 x11) (some 0) := by
  obtain ⟨hI, hx⟩ := hinv
  obtain ⟨a_, c_⟩ := rxdRDX_3_0 hP hin hin2 I0 I1 hI l8 u8 l9 u9 l10 u10 l11 u11 e1
  exact ⟨a_, c_, (by
    have hw := hI.1
    exact ⟨nb, ap, hw, fun g => by
      have := Option.some.inj g
      omega⟩)⟩
theorem rxcRDXK_5_0 {S0 : Nat → Int → Int} {ws : List Int} {S : Nat → Int → Int} {nb ap cl res : Int} (hP : rxPRDXK S0 ws) (hin : bx_same rxL (bx_mdl rxCRDXK.2.2.1) S0 S) (I0 : bx_Inv rxL S) (hinv : rxIRDXK_5 S0 ws S nb ap cl res) (l8 : 0 ≤ nb) (u8 : nb ≤ 400) (l9 : 0 ≤ ap) (u9 : ap ≤ 1) (l10 : 0 ≤ cl) (u10 : cl ≤ 11) (l11 : 1 ≤ res) (u11 : res ≤ 1) (f0 : res ≠ 0) : (True) ∧ (True) ∧ rxIRDXK_8 S0 ws S nb ap cl ∧ rxmRDXK_8 S0 ws S nb ap cl < rxmRDXK_5 S0 ws S nb ap cl res := by
  obtain ⟨hI, hx⟩ := hinv
  obtain ⟨a_, b_, c_, d_⟩ := rxcRDX_5_0 hP hin I0 hI l8 u8 l9 u9 l10 u10 l11 u11 f0
  exact ⟨a_, b_, ⟨c_, (by
    exact hx (by omega))⟩, d_⟩
theorem rxdRDXK_5_0 {S0 : Nat → Int → Int} {ws : List Int} {S : Nat → Int → Int} {nb ap cl res : Int} (hP : rxPRDXK S0 ws) (hin : bx_same rxL (bx_mdl rxCRDXK.2.2.1) S0 S) (hin2 : bx_same rxL (bx_mdl rxCRDXK.2.2.1) S S) (I0 : bx_Inv rxL S) (I1 : bx_Inv rxL S) (hinv : rxIRDXK_5 S0 ws S nb ap cl res) (l8 : 0 ≤ nb) (u8 : nb ≤ 400) (l9 : 0 ≤ ap) (u9 : ap ≤ 1) (l10 : 0 ≤ cl) (u10 : cl ≤ 11) (l11 : 0 ≤ res) (u11 : res ≤ 0) : (True) ∧ rxPSRDXK S0 ws S (some 0) := by
  obtain ⟨hI, hx⟩ := hinv
  obtain ⟨a_, c_⟩ := rxdRDX_5_0 hP hin hin2 I0 I1 hI l8 u8 l9 u9 l10 u10 l11 u11
  exact ⟨a_, c_, (by
    have hw := hI.1
    exact ⟨nb, ap, hw, fun g => by
      have := Option.some.inj g
      omega⟩)⟩
theorem rxcRDXK_7_0 {S0 : Nat → Int → Int} {ws : List Int} {S : Nat → Int → Int} {nb ap cl res : Int} (hP : rxPRDXK S0 ws) (hin : bx_same rxL (bx_mdl rxCRDXK.2.2.1) S0 S) (I0 : bx_Inv rxL S) (hinv : rxIRDXK_7 S0 ws S nb ap cl res) (l8 : 0 ≤ nb) (u8 : nb ≤ 400) (l9 : 0 ≤ ap) (u9 : ap ≤ 1) (l10 : 0 ≤ cl) (u10 : cl ≤ 11) (l11 : 1 ≤ res) (u11 : res ≤ 1) (f0 : res ≠ 0) : (True) ∧ (True) ∧ rxIRDXK_8 S0 ws S nb ap cl ∧ rxmRDXK_8 S0 ws S nb ap cl < rxmRDXK_7 S0 ws S nb ap cl res := by
  obtain ⟨hI, hx⟩ := hinv
  obtain ⟨a_, b_, c_, d_⟩ := rxcRDX_7_0 hP hin I0 hI l8 u8 l9 u9 l10 u10 l11 u11 f0
  exact ⟨a_, b_, ⟨c_, (by
    exact hx (by omega))⟩, d_⟩
theorem rxdRDXK_7_0 {S0 : Nat → Int → Int} {ws : List Int} {S : Nat → Int → Int} {nb ap cl res : Int} (hP : rxPRDXK S0 ws) (hin : bx_same rxL (bx_mdl rxCRDXK.2.2.1) S0 S) (hin2 : bx_same rxL (bx_mdl rxCRDXK.2.2.1) S S) (I0 : bx_Inv rxL S) (I1 : bx_Inv rxL S) (hinv : rxIRDXK_7 S0 ws S nb ap cl res) (l8 : 0 ≤ nb) (u8 : nb ≤ 400) (l9 : 0 ≤ ap) (u9 : ap ≤ 1) (l10 : 0 ≤ cl) (u10 : cl ≤ 11) (l11 : 0 ≤ res) (u11 : res ≤ 0) : (True) ∧ rxPSRDXK S0 ws S (some 0) := by
  obtain ⟨hI, hx⟩ := hinv
  obtain ⟨a_, c_⟩ := rxdRDX_7_0 hP hin hin2 I0 I1 hI l8 u8 l9 u9 l10 u10 l11 u11
  exact ⟨a_, c_, (by
    have hw := hI.1
    exact ⟨nb, ap, hw, fun g => by
      have := Option.some.inj g
      omega⟩)⟩
theorem rxcRDXK_9_0 {S0 : Nat → Int → Int} {ws : List Int} {S : Nat → Int → Int} {nb ap cl res x12 x13 x14 : Int} (hP : rxPRDXK S0 ws) (hin : bx_same rxL (bx_mdl rxCRDXK.2.2.1) S0 S) (I0 : bx_Inv rxL S) (hinv : rxIRDXK_9 S0 ws S nb ap cl res) (l8 : 0 ≤ nb) (u8 : nb ≤ 400) (l9 : 0 ≤ ap) (u9 : ap ≤ 1) (l10 : 0 ≤ cl) (u10 : cl ≤ 11) (l11 : 1 ≤ res) (u11 : res ≤ 1) (l12 : 0 ≤ x12) (u12 : x12 ≤ 399) (l13 : 1 ≤ x13) (u13 : x13 ≤ 400) (l14 : 59 ≤ x14) (u14 : x14 ≤ 59) (f0 : x12 < x13) (f1 : x12 < x13) (f2 : res ≠ 0) (e2 : S 412 2 = x12) (e1 : S 412 1 = x13) (e0 : S 411 x12 = x14) : (True) ∧ (True) ∧ rxIRDXK_10 S0 ws S nb ap cl ∧ rxmRDXK_10 S0 ws S nb ap cl < rxmRDXK_9 S0 ws S nb ap cl res := by
  obtain ⟨hI, hx⟩ := hinv
  obtain ⟨a_, b_, c_, d_⟩ := rxcRDX_9_0 hP hin I0 hI l8 u8 l9 u9 l10 u10 l11 u11 l12 u12 l13 u13 l14 u14 f0 f1 f2 e2 e1 e0
  exact ⟨a_, b_, ⟨c_, (by
    exact hx (by omega))⟩, d_⟩
theorem rxdRDXK_9_0 {S0 : Nat → Int → Int} {ws : List Int} {S : Nat → Int → Int} {nb ap cl res : Int} (hP : rxPRDXK S0 ws) (hin : bx_same rxL (bx_mdl rxCRDXK.2.2.1) S0 S) (hin2 : bx_same rxL (bx_mdl rxCRDXK.2.2.1) S S) (I0 : bx_Inv rxL S) (I1 : bx_Inv rxL S) (hinv : rxIRDXK_9 S0 ws S nb ap cl res) (l8 : 0 ≤ nb) (u8 : nb ≤ 400) (l9 : 0 ≤ ap) (u9 : ap ≤ 1) (l10 : 0 ≤ cl) (u10 : cl ≤ 11) (l11 : 0 ≤ res) (u11 : res ≤ 0) : (True) ∧ rxPSRDXK S0 ws S (some 0) := by
  obtain ⟨hI, hx⟩ := hinv
  obtain ⟨a_, c_⟩ := rxdRDX_9_0 hP hin hin2 I0 I1 hI l8 u8 l9 u9 l10 u10 l11 u11
  exact ⟨a_, c_, (by
    have hw := hI.1
    exact ⟨nb, ap, hw, fun g => by
      have := Option.some.inj g
      omega⟩)⟩
theorem rxdRDXK_9_1 {S0 : Nat → Int → Int} {ws : List Int} {S : Nat → Int → Int} {nb ap cl res x12 x13 : Int} (hP : rxPRDXK S0 ws) (hin : bx_same rxL (bx_mdl rxCRDXK.2.2.1) S0 S) (hin2 : bx_same rxL (bx_mdl rxCRDXK.2.2.1) S S) (I0 : bx_Inv rxL S) (I1 : bx_Inv rxL S) (hinv : rxIRDXK_9 S0 ws S nb ap cl res) (l8 : 0 ≤ nb) (u8 : nb ≤ 400) (l9 : 0 ≤ ap) (u9 : ap ≤ 1) (l10 : 0 ≤ cl) (u10 : cl ≤ 11) (l11 : 1 ≤ res) (u11 : res ≤ 1) (l12 : 0 ≤ x12) (u12 : x12 ≤ 400) (l13 : 0 ≤ x13) (u13 : x13 ≤ 400) (f0 : x13 ≤ x12) (f1 : res ≠ 0) (e1 : S 412 2 = x12) (e0 : S 412 1 = x13) : (True) ∧ rxPSRDXK S0 ws S (some 1) := by
  obtain ⟨hI, hx⟩ := hinv
  obtain ⟨a_, c_⟩ := rxdRDX_9_1 hP hin hin2 I0 I1 hI l8 u8 l9 u9 l10 u10 l11 u11 l12 u12 l13 u13 f0 f1 e1 e0
  exact ⟨a_, c_, (by
    obtain ⟨hw, hc⟩ := hI
    refine ⟨nb, ap, hw, fun _ hp => ?_⟩
    rcases hc with ⟨z, S1, hR, hA⟩ | ⟨z, -⟩
    · have a1 : S 412 1 = nb := hA.1.2.1.trans hR.2.1
      have a2 : S 412 2 = x12 := e1
      have a3 : S 412 1 = x13 := e0
      obtain ⟨L, h1, h2, h3, h4, h5, h6⟩ := hx z hp
      have q := h6 [] (rzAlt_n (decide_eq_false fun g => by have := g.1; omega) rfl)
      rw [List.append_nil] at q
      exact ⟨L, q, h1, by omega, h5, h3⟩
    · exfalso
      omega)⟩
theorem rxdRDXK_9_2 {S0 : Nat → Int → Int} {ws : List Int} {S : Nat → Int → Int} {nb ap cl res x12 x13 x14 : Int} (hP : rxPRDXK S0 ws) (hin : bx_same rxL (bx_mdl rxCRDXK.2.2.1) S0 S) (hin2 : bx_same rxL (bx_mdl rxCRDXK.2.2.1) S (bx_up S 412 4 x12)) (I0 : bx_Inv rxL S) (I1 : bx_Inv rxL (bx_up S 412 4 x12)) (hinv : rxIRDXK_9 S0 ws S nb ap cl res) (l8 : 0 ≤ nb) (u8 : nb ≤ 400) (l9 : 0 ≤ ap) (u9 : ap ≤ 1) (l10 : 0 ≤ cl) (u10 : cl ≤ 11) (l11 : 1 ≤ res) (u11 : res ≤ 1) (l12 : 0 ≤ x12) (u12 : x12 ≤ 399) (l13 : 1 ≤ x13) (u13 : x13 ≤ 400) (l14 : 0 ≤ x14) (u14 : x14 ≤ 255) (f0 : x14 ≠ 59) (f1 : x12 < x13) (f2 : x12 < x13) (f3 : res ≠ 0) (e3 : S 412 2 = x12) (e2 : S 412 1 = x13) (e1 : S 411 x12 = x14) : (True) ∧ rxPSRDXK S0 ws (bx_up S 412 4 x12) (some 0) := by
  obtain ⟨hI, hx⟩ := hinv
  obtain ⟨a_, c_⟩ := rxdRDX_9_2 hP hin hin2 I0 I1 hI l8 u8 l9 u9 l10 u10 l11 u11 l12 u12 l13 u13 l14 u14 f0 f1 f2 f3 e3 e2 e1
  exact ⟨a_, c_, (by
    have hw := hI.1
    exact ⟨nb, ap, hw, fun g => by
      have := Option.some.inj g
      omega⟩)⟩
theorem rxcRDXK_11_0 {S0 : Nat → Int → Int} {ws : List Int} {S : Nat → Int → Int} {nb ap cl : Int} (hP : rxPRDXK S0 ws) (hin : bx_same rxL (bx_mdl rxCRDXK.2.2.1) S0 S) (I0 : bx_Inv rxL S) (hinv : rxIRDXK_11 S0 ws S nb ap cl) (l8 : 0 ≤ nb) (u8 : nb ≤ 400) (l9 : 0 ≤ ap) (u9 : ap ≤ 1) (l10 : 0 ≤ cl) (u10 : cl ≤ 11) : (True) ∧ (True) ∧ rxIRDXK_3 S0 ws S nb ap (cl + 1) ∧ rxmRDXK_3 S0 ws S nb ap (cl + 1) < rxmRDXK_11 S0 ws S nb ap cl := by
  obtain ⟨hI, hx⟩ := hinv
  obtain ⟨a_, b_, c_, d_⟩ := rxcRDX_11_0 hP hin I0 hI l8 u8 l9 u9 l10 u10
  exact ⟨a_, b_, ⟨c_, hx⟩, d_⟩