noncomputable def rxIPLAYK_0 (S0 : Nat → Int → Int) (ws : List Int) (S : Nat → Int → Int) (part : Int) : Prop := rxIPLAYX_0 S0 ws S part ∧ True
noncomputable def rxmPLAYK_0 (S0 : Nat → Int → Int) (ws : List Int) (S : Nat → Int → Int) (part : Int) : Nat := rxmPLAYX_0 S0 ws S part
noncomputable def rxIPLAYK_1 (S0 : Nat → Int → Int) (ws : List Int) (S : Nat → Int → Int) (part : Int) : Prop := rxIPLAYX_1 S0 ws S part ∧ ((∀ j : Int, 0 ≤ j → j < 6180 → S 482 j = S0 482 j) ∧ S 494 7 = S0 494 7 ∧ S 494 8 = S0 494 8)
noncomputable def rxmPLAYK_1 (S0 : Nat → Int → Int) (ws : List Int) (S : Nat → Int → Int) (part : Int) : Nat := rxmPLAYX_1 S0 ws S part
noncomputable def rxIPLAYK_2 (S0 : Nat → Int → Int) (ws : List Int) (S : Nat → Int → Int) (part : Int) : Prop := rxIPLAYX_2 S0 ws S part ∧ (((∀ j : Int, 0 ≤ j → j < 6180 → S 482 j = S0 482 j) ∧ S 494 7 = S0 494 7 ∧ S 494 8 = S0 494 8) ∧ (S 480 14 = 0 → rjMp S0 S))
noncomputable def rxmPLAYK_2 (S0 : Nat → Int → Int) (ws : List Int) (S : Nat → Int → Int) (part : Int) : Nat := rxmPLAYX_2 S0 ws S part
noncomputable def rxIPLAYK_3 (S0 : Nat → Int → Int) (ws : List Int) (S : Nat → Int → Int) (part : Int) : Prop := rxIPLAYX_3 S0 ws S part ∧ (((∀ j : Int, 0 ≤ j → j < 6180 → S 482 j = S0 482 j) ∧ S 494 7 = S0 494 7 ∧ S 494 8 = S0 494 8) ∧ (S 480 14 = 0 → rjMp S0 S))
noncomputable def rxmPLAYK_3 (S0 : Nat → Int → Int) (ws : List Int) (S : Nat → Int → Int) (part : Int) : Nat := rxmPLAYX_3 S0 ws S part
noncomputable def rxIPLAYK_4 (S0 : Nat → Int → Int) (ws : List Int) (S : Nat → Int → Int) (part : Int) : Prop := rxIPLAYX_4 S0 ws S part ∧ (((∀ j : Int, 0 ≤ j → j < 6180 → S 482 j = S0 482 j) ∧ S 494 7 = S0 494 7 ∧ S 494 8 = S0 494 8) ∧ (S 480 14 = 0 → rjMq S0 S))
noncomputable def rxmPLAYK_4 (S0 : Nat → Int → Int) (ws : List Int) (S : Nat → Int → Int) (part : Int) : Nat := rxmPLAYX_4 S0 ws S part
noncomputable def rxIPLAYK_5 (S0 : Nat → Int → Int) (ws : List Int) (S : Nat → Int → Int) (part : Int) : Prop := rxIPLAYX_5 S0 ws S part ∧ (((∀ j : Int, 0 ≤ j → j < 6180 → S 482 j = S0 482 j) ∧ S 494 7 = S0 494 7 ∧ S 494 8 = S0 494 8) ∧ (S 480 14 = 0 → rjMq S0 S))
noncomputable def rxmPLAYK_5 (S0 : Nat → Int → Int) (ws : List Int) (S : Nat → Int → Int) (part : Int) : Nat := rxmPLAYX_5 S0 ws S part
noncomputable def rxIPLAYK_6 (S0 : Nat → Int → Int) (ws : List Int) (S : Nat → Int → Int) (part : Int) : Prop := rxIPLAYX_6 S0 ws S part ∧ (((∀ j : Int, 0 ≤ j → j < 6180 → S 482 j = S0 482 j) ∧ S 494 7 = S0 494 7 ∧ S 494 8 = S0 494 8) ∧ (S 480 14 = 0 → rjMq S0 S))
noncomputable def rxmPLAYK_6 (S0 : Nat → Int → Int) (ws : List Int) (S : Nat → Int → Int) (part : Int) : Nat := rxmPLAYX_6 S0 ws S part
noncomputable def rxIPLAYK_7 (S0 : Nat → Int → Int) (ws : List Int) (S : Nat → Int → Int) (part : Int) : Prop := rxIPLAYX_7 S0 ws S part ∧ (((∀ j : Int, 0 ≤ j → j < 6180 → S 482 j = S0 482 j) ∧ S 494 7 = S0 494 7 ∧ S 494 8 = S0 494 8) ∧ (S 480 14 = 0 → rjMp S0 S))
noncomputable def rxmPLAYK_7 (S0 : Nat → Int → Int) (ws : List Int) (S : Nat → Int → Int) (part : Int) : Nat := rxmPLAYX_7 S0 ws S part
noncomputable def rxIPLAYK_8 (S0 : Nat → Int → Int) (ws : List Int) (S : Nat → Int → Int) (part : Int) : Prop := rxIPLAYX_8 S0 ws S part ∧ (((∀ j : Int, 0 ≤ j → j < 6180 → S 482 j = S0 482 j) ∧ S 494 7 = S0 494 7 ∧ S 494 8 = S0 494 8) ∧ (S 480 14 = 0 → rjMp S0 S))
noncomputable def rxmPLAYK_8 (S0 : Nat → Int → Int) (ws : List Int) (S : Nat → Int → Int) (part : Int) : Nat := rxmPLAYX_8 S0 ws S part
noncomputable def rxIPLAYK_9 (S0 : Nat → Int → Int) (ws : List Int) (S : Nat → Int → Int) (part : Int) : Prop := rxIPLAYX_9 S0 ws S part ∧ (((∀ j : Int, 0 ≤ j → j < 6180 → S 482 j = S0 482 j) ∧ S 494 7 = S0 494 7 ∧ S 494 8 = S0 494 8) ∧ (S 480 14 = 0 → rjMq S0 S))
noncomputable def rxmPLAYK_9 (S0 : Nat → Int → Int) (ws : List Int) (S : Nat → Int → Int) (part : Int) : Nat := rxmPLAYX_9 S0 ws S part
noncomputable def rxIPLAYK_10 (S0 : Nat → Int → Int) (ws : List Int) (S : Nat → Int → Int) (part : Int) : Prop := rxIPLAYX_10 S0 ws S part ∧ (((∀ j : Int, 0 ≤ j → j < 6180 → S 482 j = S0 482 j) ∧ S 494 7 = S0 494 7 ∧ S 494 8 = S0 494 8) ∧ (S 480 14 = 0 → rjMq S0 S))
noncomputable def rxmPLAYK_10 (S0 : Nat → Int → Int) (ws : List Int) (S : Nat → Int → Int) (part : Int) : Nat := rxmPLAYX_10 S0 ws S part
noncomputable def rxIPLAYK_11 (S0 : Nat → Int → Int) (ws : List Int) (S : Nat → Int → Int) (part : Int) : Prop := rxIPLAYX_11 S0 ws S part ∧ (((∀ j : Int, 0 ≤ j → j < 6180 → S 482 j = S0 482 j) ∧ S 494 7 = S0 494 7 ∧ S 494 8 = S0 494 8) ∧ (S 480 14 = 0 → rjMz S0 S))
noncomputable def rxmPLAYK_11 (S0 : Nat → Int → Int) (ws : List Int) (S : Nat → Int → Int) (part : Int) : Nat := rxmPLAYX_11 S0 ws S part
noncomputable def rxPPLAYK (S0 : Nat → Int → Int) (ws : List Int) : Prop := rxPPLAYX S0 ws ∧ (rzCk S0 ∧ S0 494 7 = 0 ∧ S0 494 8 = 0)
theorem rxkPLAYK_1 {S0 : Nat → Int → Int} {ws : List Int} {S : Nat → Int → Int} {part : Int} (hP : rxPPLAYK S0 ws) (hin : bx_same rxL (bx_mdl rxC240.2.2.1) S0 S) (I0 : bx_Inv rxL S) (hinv : rxIPLAYK_1 S0 ws S part) (l8 : 0 ≤ part) (u8 : part ≤ 5) : rxPBXW S [480, 1] ∧ ∀ (S_p : Nat → Int → Int), rxPSBXW S [480, 1] S_p none → bx_Inv rxL S_p → bx_same rxL (bx_mdl rxCBXW.2.2.1) S S_p → rxIPLAYK_2 S0 ws S_p part ∧ rxmPLAYK_2 S0 ws S_p part < rxmPLAYK_1 S0 ws S part := by
  obtain ⟨hI, hx⟩ := hinv
  have g_ := rxkPLAYX_1 hP.1 hin I0 hI l8 u8
  exact ⟨g_.1, fun S_p hq I1 hsm => ⟨⟨(g_.2 S_p hq I1 hsm).1, (by
    have k0 := hx
    refine ⟨⟨fun j a b => (rx_sameR hsm (p := 482) (tc := 0) (n := 6180) (g := 63) rfl (by omega) (by decide +kernel) (by decide +kernel) a b).trans (k0.1 j a b), (hsm 494 7 (by decide) (by decide) (by decide +kernel)).trans k0.2.1, (hsm 494 8 (by decide) (by decide) (by decide +kernel)).trans k0.2.2⟩, fun z => ?_⟩
    obtain ⟨g1, g13, gd, ge, g21⟩ := hq.2.2
    have b := hI.2.2
    rw [b.1, b.2.1] at ge
    obtain ⟨-, -, o14, o16, -⟩ := hq.2.1
    exact rjMp_0 o16 ge g21)⟩, (g_.2 S_p hq I1 hsm).2⟩⟩
theorem rxkPLAYK_3 {S0 : Nat → Int → Int} {ws : List Int} {S : Nat → Int → Int} {part : Int} (hP : rxPPLAYK S0 ws) (hin : bx_same rxL (bx_mdl rxC240.2.2.1) S0 S) (I0 : bx_Inv rxL S) (hinv : rxIPLAYK_3 S0 ws S part) (l8 : 0 ≤ part) (u8 : part ≤ 5) : rxPRYK S [480] ∧ ∀ (S_p : Nat → Int → Int), rxPSRYK S [480] S_p none → bx_Inv rxL S_p → bx_same rxL (bx_mdl rxCRYK.2.2.1) S S_p → rxIPLAYK_4 S0 ws S_p part ∧ rxmPLAYK_4 S0 ws S_p part < rxmPLAYK_3 S0 ws S part := by
  obtain ⟨hI, hx⟩ := hinv
  have g_ := rxkPLAYX_3 hP.1 hin I0 hI l8 u8
  exact ⟨g_.1, fun S_p hq I1 hsm => ⟨⟨(g_.2 S_p hq.2.1 I1 hsm).1, (by
    have c := hP.2.1
    obtain ⟨k0, hx⟩ := hx
    refine ⟨⟨fun j a b => (rx_sameR hsm (p := 482) (tc := 0) (n := 6180) (g := 63) rfl (by omega) (by decide +kernel) (by decide +kernel) a b).trans (k0.1 j a b), (hsm 494 7 (by decide) (by decide) (by decide +kernel)).trans k0.2.1, (hsm 494 8 (by decide) (by decide) (by decide +kernel)).trans k0.2.2⟩, fun z => ?_⟩
    have z0 : S 480 14 = 0 := hI.1.2.1
    have h := hI.2.2 c
    obtain ⟨q1, q2, q3, q4, q5, q6⟩ := rzRj_q h z0
    have x := hq.2.1.2.2 q1 q2 (by unfold rzWr; rw [q3]; exact if_pos rfl)
    exact rjMq_of (hx z0) (fun k k0 k1 => absurd k1 (by have := hI.1.2.2.1; omega)) q4 q5 (rxBox16 I0).1 (hq.2.2 q1 q2 (by unfold rzWr; rw [q3]; exact if_pos rfl) z) x z (hq.2.1.2.1.2.2 z) fun r p pr => by
      rcases p with p | p
      · exact ⟨of_decide_eq_true p.1, p.2⟩
      · rw [p.2] at pr
        cases pr)⟩, (g_.2 S_p hq.2.1 I1 hsm).2⟩⟩
theorem rxkPLAYK_6 {S0 : Nat → Int → Int} {ws : List Int} {S : Nat → Int → Int} {part : Int} (hP : rxPPLAYK S0 ws) (hin : bx_same rxL (bx_mdl rxC240.2.2.1) S0 S) (I0 : bx_Inv rxL S) (hinv : rxIPLAYK_6 S0 ws S part) (l8 : 0 ≤ part) (u8 : part ≤ 5) : rxPNXX S [480] ∧ ∀ (S_p : Nat → Int → Int), rxPSNXX S [480] S_p none → bx_Inv rxL S_p → bx_same rxL (bx_mdl rxCNXX.2.2.1) S S_p → rxIPLAYK_7 S0 ws S_p part ∧ rxmPLAYK_7 S0 ws S_p part < rxmPLAYK_6 S0 ws S part := by
  obtain ⟨hI, hx⟩ := hinv
  have g_ := rxkPLAYX_6 hP.1 hin I0 hI l8 u8
  exact ⟨g_.1, fun S_p hq I1 hsm => ⟨⟨(g_.2 S_p hq I1 hsm).1, (by
    have c := hP.2.1
    obtain ⟨k0, hx⟩ := hx
    refine ⟨⟨fun j a b => (rx_sameR hsm (p := 482) (tc := 0) (n := 6180) (g := 63) rfl (by omega) (by decide +kernel) (by decide +kernel) a b).trans (k0.1 j a b), (hsm 494 7 (by decide) (by decide) (by decide +kernel)).trans k0.2.1, (hsm 494 8 (by decide) (by decide) (by decide +kernel)).trans k0.2.2⟩, fun z => ?_⟩
    have z0 : S 480 14 = 0 := hI.1.2
    have h := hI.2.2.1 c
    obtain ⟨q1, q2, q3, q4, q5, q6⟩ := rzRj_q h z0
    have hs := hI.2.2.2 z0 q2
    rw [q4, q5] at hs
    have n9 := (rzNw_nx q2 (rzKr_of hsm (by decide +kernel)) hq.2.2.1 hq.2.2.2).2.2
    rw [q4, q5] at n9
    exact rjMp_of (hx z0) hs n9 (hsm 480 21 (by decide) (by decide) (by decide +kernel)) (hsm 480 16 (by decide) (by decide) (by decide +kernel)) (rjPm_sm hsm (by decide +kernel) (fun j x y => (rx_sameR hsm (p := 496) (tc := 0) (n := 120) (g := 77) (j := j) rfl (by omega) (by decide +kernel) (by decide +kernel) x y)) (hI.1.1.2 z0).2 (rxBox16 I0).2 (rxBox18 I0).2))⟩, (g_.2 S_p hq I1 hsm).2⟩⟩
theorem rxkPLAYK_8 {S0 : Nat → Int → Int} {ws : List Int} {S : Nat → Int → Int} {part : Int} (hP : rxPPLAYK S0 ws) (hin : bx_same rxL (bx_mdl rxC240.2.2.1) S0 S) (I0 : bx_Inv rxL S) (hinv : rxIPLAYK_8 S0 ws S part) (l8 : 0 ≤ part) (u8 : part ≤ 5) : rxPRYK S [480] ∧ ∀ (S_p : Nat → Int → Int), rxPSRYK S [480] S_p none → bx_Inv rxL S_p → bx_same rxL (bx_mdl rxCRYK.2.2.1) S S_p → rxIPLAYK_9 S0 ws S_p part ∧ rxmPLAYK_9 S0 ws S_p part < rxmPLAYK_8 S0 ws S part := by
  obtain ⟨hI, hx⟩ := hinv
  have g_ := rxkPLAYX_8 hP.1 hin I0 hI l8 u8
  exact ⟨g_.1, fun S_p hq I1 hsm => ⟨⟨(g_.2 S_p hq.2.1 I1 hsm).1, (by
    have c := hP.2.1
    obtain ⟨k0, hx⟩ := hx
    refine ⟨⟨fun j a b => (rx_sameR hsm (p := 482) (tc := 0) (n := 6180) (g := 63) rfl (by omega) (by decide +kernel) (by decide +kernel) a b).trans (k0.1 j a b), (hsm 494 7 (by decide) (by decide) (by decide +kernel)).trans k0.2.1, (hsm 494 8 (by decide) (by decide) (by decide +kernel)).trans k0.2.2⟩, fun z => ?_⟩
    have z0 : S 480 14 = 0 := hI.1.2
    have h := hI.2.2 c
    obtain ⟨q1, q2, q3, q4, q5, q6⟩ := rzRj_q h z0
    have x := hq.2.1.2.2 q1 q2 (by unfold rzWr; rw [q3]; exact if_pos rfl)
    exact rjMq_of (hx z0) (hI.1.1.2 z0).2 q4 q5 (rxBox16 I0).1 (hq.2.2 q1 q2 (by unfold rzWr; rw [q3]; exact if_pos rfl) z) x z (hq.2.1.2.1.2.2 z) fun r p pr => by
      rcases p with p | p
      · exact ⟨of_decide_eq_true p.1, p.2⟩
      · rw [p.2] at pr
        cases pr)⟩, (g_.2 S_p hq.2.1 I1 hsm).2⟩⟩
theorem rxkPLAYK_10 {S0 : Nat → Int → Int} {ws : List Int} {S : Nat → Int → Int} {part : Int} (hP : rxPPLAYK S0 ws) (hin : bx_same rxL (bx_mdl rxC240.2.2.1) S0 S) (I0 : bx_Inv rxL S) (hinv : rxIPLAYK_10 S0 ws S part) (l8 : 0 ≤ part) (u8 : part ≤ 5) : rxPETW S [480] ∧ ∀ (S_p : Nat → Int → Int), rxPSETW S [480] S_p none → bx_Inv rxL S_p → bx_same rxL (bx_mdl rxCETW.2.2.1) S S_p → rxIPLAYK_11 S0 ws S_p part ∧ rxmPLAYK_11 S0 ws S_p part < rxmPLAYK_10 S0 ws S part := by
  obtain ⟨hI, hx⟩ := hinv
  have g_ := rxkPLAYX_10 hP.1 hin I0 hI l8 u8
  exact ⟨g_.1, fun S_p hq I1 hsm => ⟨⟨(g_.2 S_p hq I1 hsm).1, (by
    have c := hP.2.1
    obtain ⟨k0, hx⟩ := hx
    refine ⟨⟨fun j a b => (rx_sameR hsm (p := 482) (tc := 0) (n := 6180) (g := 63) rfl (by omega) (by decide +kernel) (by decide +kernel) a b).trans (k0.1 j a b), (hsm 494 7 (by decide) (by decide) (by decide +kernel)).trans k0.2.1, (hsm 494 8 (by decide) (by decide) (by decide +kernel)).trans k0.2.2⟩, fun z => ?_⟩
    by_cases z0 : S 480 14 = 0
    · have h := hI.2.2.1 c
      obtain ⟨q1, q2, q3, q4, q5, q6⟩ := rzRj_q h z0
      have hs := hI.2.2.2 z0 q2
      rw [q4, q5] at hs
      exact rjMz_of (hx z0) hs (hsm 480 16 (by decide) (by decide) (by decide +kernel)) (rjPm_sm hsm (by decide +kernel) (fun j x y => (rx_sameR hsm (p := 496) (tc := 0) (n := 120) (g := 77) (j := j) rfl (by omega) (by decide +kernel) (by decide +kernel) x y)) (hI.1.2 z0).2 (rxBox16 I0).2 (rxBox18 I0).2)
    · exact absurd z (hq.2.2.1.2 z0).1)⟩, (g_.2 S_p hq I1 hsm).2⟩⟩
theorem rxcPLAYK_0_0 {S0 : Nat → Int → Int} {ws : List Int} {S : Nat → Int → Int} {part x9 : Int} (hP : rxPPLAYK S0 ws) (hin : bx_same rxL (bx_mdl rxC240.2.2.1) S0 S) (I0 : bx_Inv rxL S) (hinv : rxIPLAYK_0 S0 ws S part) (l8 : 0 ≤ part) (u8 : part ≤ 5) (l9 : 1 ≤ x9) (u9 : x9 ≤ 6) (f0 : part ≤ x9 + (-1)) (e0 : (bx_up S 480 0 0) 482 0 = x9) : (True) ∧ (True) ∧ rxIPLAYK_1 S0 ws (bx_up S 480 0 0) part ∧ rxmPLAYK_1 S0 ws (bx_up S 480 0 0) part < rxmPLAYK_0 S0 ws S part := by
  obtain ⟨hI, hx⟩ := hinv
  obtain ⟨a_, b_, c_, d_⟩ := rxcPLAYX_0_0 hP.1 hin I0 hI l8 u8 l9 u9 f0 e0
  exact ⟨a_, b_, ⟨c_, (by
    have e := hI.1.1
    subst e
    exact ⟨fun j _ _ => (bx_up_ne (by omega)), (bx_up_ne (by omega)), (bx_up_ne (by omega))⟩)⟩, d_⟩
theorem rxcPLAYK_2_0 {S0 : Nat → Int → Int} {ws : List Int} {S : Nat → Int → Int} {part : Int} (hP : rxPPLAYK S0 ws) (hin : bx_same rxL (bx_mdl rxC240.2.2.1) S0 S) (I0 : bx_Inv rxL S) (hinv : rxIPLAYK_2 S0 ws S part) (l8 : 0 ≤ part) (u8 : part ≤ 5) : (True) ∧ (True) ∧ rxIPLAYK_3 S0 ws S part ∧ rxmPLAYK_3 S0 ws S part < rxmPLAYK_2 S0 ws S part := by
  obtain ⟨hI, hx⟩ := hinv
  obtain ⟨a_, b_, c_, d_⟩ := rxcPLAYX_2_0 hP.1 hin I0 hI l8 u8
  exact ⟨a_, b_, ⟨c_, hx⟩, d_⟩
theorem rxcPLAYK_4_0 {S0 : Nat → Int → Int} {ws : List Int} {S : Nat → Int → Int} {part x9 x10 : Int} (hP : rxPPLAYK S0 ws) (hin : bx_same rxL (bx_mdl rxC240.2.2.1) S0 S) (I0 : bx_Inv rxL S) (hinv : rxIPLAYK_4 S0 ws S part) (l8 : 0 ≤ part) (u8 : part ≤ 5) (l9 : 0 ≤ x9) (u9 : x9 ≤ 0) (l10 : 0 ≤ x10) (u10 : x10 ≤ 2) (f0 : x10 ≠ 3) (e1 : S 480 14 = x9) (e0 : S 480 11 = x10) : (True) ∧ (True) ∧ rxIPLAYK_10 S0 ws S part ∧ rxmPLAYK_10 S0 ws S part < rxmPLAYK_4 S0 ws S part := by
  obtain ⟨hI, hx⟩ := hinv
  obtain ⟨a_, b_, c_, d_⟩ := rxcPLAYX_4_0 hP.1 hin I0 hI l8 u8 l9 u9 l10 u10 f0 e1 e0
  exact ⟨a_, b_, ⟨c_, hx⟩, d_⟩
theorem rxcPLAYK_4_1 {S0 : Nat → Int → Int} {ws : List Int} {S : Nat → Int → Int} {part x9 x10 x11 : Int} (hP : rxPPLAYK S0 ws) (hin : bx_same rxL (bx_mdl rxC240.2.2.1) S0 S) (I0 : bx_Inv rxL S) (hinv : rxIPLAYK_4 S0 ws S part) (l8 : 0 ≤ part) (u8 : part ≤ 5) (l9 : 0 ≤ x9) (u9 : x9 ≤ 0) (l10 : 3 ≤ x10) (u10 : x10 ≤ 3) (l11 : (-9223372036854775808) ≤ x11) (u11 : x11 ≤ 9223372036854775807) (f0 : x11 ≠ 59) (e2 : S 480 14 = x9) (e1 : S 480 11 = x10) (e0 : S 480 12 = x11) : (True) ∧ (True) ∧ rxIPLAYK_10 S0 ws S part ∧ rxmPLAYK_10 S0 ws S part < rxmPLAYK_4 S0 ws S part := by
  obtain ⟨hI, hx⟩ := hinv
  obtain ⟨a_, b_, c_, d_⟩ := rxcPLAYX_4_1 hP.1 hin I0 hI l8 u8 l9 u9 l10 u10 l11 u11 f0 e2 e1 e0
  exact ⟨a_, b_, ⟨c_, hx⟩, d_⟩
theorem rxcPLAYK_4_2 {S0 : Nat → Int → Int} {ws : List Int} {S : Nat → Int → Int} {part x9 x10 x11 : Int} (hP : rxPPLAYK S0 ws) (hin : bx_same rxL (bx_mdl rxC240.2.2.1) S0 S) (I0 : bx_Inv rxL S) (hinv : rxIPLAYK_4 S0 ws S part) (l8 : 0 ≤ part) (u8 : part ≤ 5) (l9 : 0 ≤ x9) (u9 : x9 ≤ 0) (l10 : 3 ≤ x10) (u10 : x10 ≤ 3) (l11 : 59 ≤ x11) (u11 : x11 ≤ 59) (e2 : S 480 14 = x9) (e1 : S 480 11 = x10) (e0 : S 480 12 = x11) : (True) ∧ (True) ∧ rxIPLAYK_6 S0 ws S part ∧ rxmPLAYK_6 S0 ws S part < rxmPLAYK_4 S0 ws S part := by
  obtain ⟨hI, hx⟩ := hinv
  obtain ⟨a_, b_, c_, d_⟩ := rxcPLAYX_4_2 hP.1 hin I0 hI l8 u8 l9 u9 l10 u10 l11 u11 e2 e1 e0
  exact ⟨a_, b_, ⟨c_, hx⟩, d_⟩
theorem rxcPLAYK_4_3 {S0 : Nat → Int → Int} {ws : List Int} {S : Nat → Int → Int} {part x9 : Int} (hP : rxPPLAYK S0 ws) (hin : bx_same rxL (bx_mdl rxC240.2.2.1) S0 S) (I0 : bx_Inv rxL S) (hinv : rxIPLAYK_4 S0 ws S part) (l8 : 0 ≤ part) (u8 : part ≤ 5) (l9 : 1 ≤ x9) (u9 : x9 ≤ 1) (f0 : x9 ≠ 0) (e0 : S 480 14 = x9) : (True) ∧ (True) ∧ rxIPLAYK_10 S0 ws S part ∧ rxmPLAYK_10 S0 ws S part < rxmPLAYK_4 S0 ws S part := by
  obtain ⟨hI, hx⟩ := hinv
  obtain ⟨a_, b_, c_, d_⟩ := rxcPLAYX_4_3 hP.1 hin I0 hI l8 u8 l9 u9 f0 e0
  exact ⟨a_, b_, ⟨c_, hx⟩, d_⟩
theorem rxcPLAYK_5_0 {S0 : Nat → Int → Int} {ws : List Int} {S : Nat → Int → Int} {part x9 x10 : Int} (hP : rxPPLAYK S0 ws) (hin : bx_same rxL (bx_mdl rxC240.2.2.1) S0 S) (I0 : bx_Inv rxL S) (hinv : rxIPLAYK_5 S0 ws S part) (l8 : 0 ≤ part) (u8 : part ≤ 5) (l9 : 0 ≤ x9) (u9 : x9 ≤ 0) (l10 : 0 ≤ x10) (u10 : x10 ≤ 2) (f0 : x10 ≠ 3) (e1 : S 480 14 = x9) (e0 : S 480 11 = x10) : (True) ∧ (True) ∧ rxIPLAYK_10 S0 ws S part ∧ rxmPLAYK_10 S0 ws S part < rxmPLAYK_5 S0 ws S part := by
  obtain ⟨hI, hx⟩ := hinv
  obtain ⟨a_, b_, c_, d_⟩ := rxcPLAYX_5_0 hP.1 hin I0 hI l8 u8 l9 u9 l10 u10 f0 e1 e0
  exact ⟨a_, b_, ⟨c_, hx⟩, d_⟩
theorem rxcPLAYK_5_1 {S0 : Nat → Int → Int} {ws : List Int} {S : Nat → Int → Int} {part x9 x10 x11 : Int} (hP : rxPPLAYK S0 ws) (hin : bx_same rxL (bx_mdl rxC240.2.2.1) S0 S) (I0 : bx_Inv rxL S) (hinv : rxIPLAYK_5 S0 ws S part) (l8 : 0 ≤ part) (u8 : part ≤ 5) (l9 : 0 ≤ x9) (u9 : x9 ≤ 0) (l10 : 3 ≤ x10) (u10 : x10 ≤ 3) (l11 : (-9223372036854775808) ≤ x11) (u11 : x11 ≤ 9223372036854775807) (f0 : x11 ≠ 59) (e2 : S 480 14 = x9) (e1 : S 480 11 = x10) (e0 : S 480 12 = x11) : (True) ∧ (True) ∧ rxIPLAYK_10 S0 ws S part ∧ rxmPLAYK_10 S0 ws S part < rxmPLAYK_5 S0 ws S part := by
  obtain ⟨hI, hx⟩ := hinv
  obtain ⟨a_, b_, c_, d_⟩ := rxcPLAYX_5_1 hP.1 hin I0 hI l8 u8 l9 u9 l10 u10 l11 u11 f0 e2 e1 e0
  exact ⟨a_, b_, ⟨c_, hx⟩, d_⟩
theorem rxcPLAYK_5_2 {S0 : Nat → Int → Int} {ws : List Int} {S : Nat → Int → Int} {part x9 x10 x11 : Int} (hP : rxPPLAYK S0 ws) (hin : bx_same rxL (bx_mdl rxC240.2.2.1) S0 S) (I0 : bx_Inv rxL S) (hinv : rxIPLAYK_5 S0 ws S part) (l8 : 0 ≤ part) (u8 : part ≤ 5) (l9 : 0 ≤ x9) (u9 : x9 ≤ 0) (l10 : 3 ≤ x10) (u10 : x10 ≤ 3) (l11 : 59 ≤ x11) (u11 : x11 ≤ 59) (e2 : S 480 14 = x9) (e1 : S 480 11 = x10) (e0 : S 480 12 = x11) : (True) ∧ (True) ∧ rxIPLAYK_6 S0 ws S part ∧ rxmPLAYK_6 S0 ws S part < rxmPLAYK_5 S0 ws S part := by
  obtain ⟨hI, hx⟩ := hinv
  obtain ⟨a_, b_, c_, d_⟩ := rxcPLAYX_5_2 hP.1 hin I0 hI l8 u8 l9 u9 l10 u10 l11 u11 e2 e1 e0
  exact ⟨a_, b_, ⟨c_, hx⟩, d_⟩
theorem rxcPLAYK_5_3 {S0 : Nat → Int → Int} {ws : List Int} {S : Nat → Int → Int} {part x9 : Int} (hP : rxPPLAYK S0 ws) (hin : bx_same rxL (bx_mdl rxC240.2.2.1) S0 S) (I0 : bx_Inv rxL S) (hinv : rxIPLAYK_5 S0 ws S part) (l8 : 0 ≤ part) (u8 : part ≤ 5) (l9 : 1 ≤ x9) (u9 : x9 ≤ 1) (f0 : x9 ≠ 0) (e0 : S 480 14 = x9) : (True) ∧ (True) ∧ rxIPLAYK_10 S0 ws S part ∧ rxmPLAYK_10 S0 ws S part < rxmPLAYK_5 S0 ws S part := by
  obtain ⟨hI, hx⟩ := hinv
  obtain ⟨a_, b_, c_, d_⟩ := rxcPLAYX_5_3 hP.1 hin I0 hI l8 u8 l9 u9 f0 e0
  exact ⟨a_, b_, ⟨c_, hx⟩, d_⟩
theorem rxcPLAYK_7_0 {S0 : Nat → Int → Int} {ws : List Int} {S : Nat → Int → Int} {part : Int} (hP : rxPPLAYK S0 ws) (hin : bx_same rxL (bx_mdl rxC240.2.2.1) S0 S) (I0 : bx_Inv rxL S) (hinv : rxIPLAYK_7 S0 ws S part) (l8 : 0 ≤ part) (u8 : part ≤ 5) : (True) ∧ (True) ∧ rxIPLAYK_8 S0 ws S part ∧ rxmPLAYK_8 S0 ws S part < rxmPLAYK_7 S0 ws S part := by
  obtain ⟨hI, hx⟩ := hinv
  obtain ⟨a_, b_, c_, d_⟩ := rxcPLAYX_7_0 hP.1 hin I0 hI l8 u8
  exact ⟨a_, b_, ⟨c_, hx⟩, d_⟩
theorem rxcPLAYK_9_0 {S0 : Nat → Int → Int} {ws : List Int} {S : Nat → Int → Int} {part : Int} (hP : rxPPLAYK S0 ws) (hin : bx_same rxL (bx_mdl rxC240.2.2.1) S0 S) (I0 : bx_Inv rxL S) (hinv : rxIPLAYK_9 S0 ws S part) (l8 : 0 ≤ part) (u8 : part ≤ 5) : (True) ∧ (True) ∧ rxIPLAYK_5 S0 ws S part ∧ rxmPLAYK_5 S0 ws S part < rxmPLAYK_9 S0 ws S part := by
  obtain ⟨hI, hx⟩ := hinv
  obtain ⟨a_, b_, c_, d_⟩ := rxcPLAYX_9_0 hP.1 hin I0 hI l8 u8
  exact ⟨a_, b_, ⟨c_, hx⟩, d_⟩