noncomputable def rxCRDD : bx_Ct := ([(3, (1, 412, 0)), (0, (0, 0, 6))], none, [(6, 0), (7, 10), (1021, 0), (1022, 0)], 1, [(412, 0, 3, (1, 411, 0)), (412, 6, 3, (1, 427, 0))])
noncomputable def rxPRDD (S0 : Nat → Int → Int) (ws : List Int) : Prop := True
noncomputable def rxPSRDD (S0 : Nat → Int → Int) (ws : List Int) (S : Nat → Int → Int) (w : Option Int) : Prop := w = none ∧ True
noncomputable def rxCRPD : bx_Ct := ([(3, (1, 412, 0))], some (0, (0, 0, 1)), [(6, 0), (7, 2), (7, 3), (7, 4), (7, 7), (1021, 0), (1022, 0), (1034, 0)], 6, [(412, 0, 3, (1, 411, 0)), (412, 6, 3, (1, 427, 0))])
noncomputable def rxIRPD_0 (S0 : Nat → Int → Int) (ws : List Int) (S : Nat → Int → Int) : Prop := S = S0 ∧ ws = [412]
noncomputable def rxmRPD_0 (S0 : Nat → Int → Int) (ws : List Int) (S : Nat → Int → Int) : Nat := 100
noncomputable def rxIRPD_1 (S0 : Nat → Int → Int) (ws : List Int) (S : Nat → Int → Int) : Prop := S = S0
noncomputable def rxmRPD_1 (S0 : Nat → Int → Int) (ws : List Int) (S : Nat → Int → Int) : Nat := 90
noncomputable def rxIRPD_2 (S0 : Nat → Int → Int) (ws : List Int) (S : Nat → Int → Int) (nm : Int) : Prop := S = S0 ∧ nm = rzNo (rzCut (S0 411)) (S0 412 1) (S0 412 2)
noncomputable def rxmRPD_2 (S0 : Nat → Int → Int) (ws : List Int) (S : Nat → Int → Int) (nm : Int) : Nat := 80
noncomputable def rxIRPD_3 (S0 : Nat → Int → Int) (ws : List Int) (S : Nat → Int → Int) (nm : Int) : Prop := S = bx_up S0 412 7 (S0 412 7 + 1) ∧ nm = rzNo (rzCut (S0 411)) (S0 412 1) (S0 412 2) ∧ nm ≤ 1000 ∧ S0 412 7 < 50
noncomputable def rxmRPD_3 (S0 : Nat → Int → Int) (ws : List Int) (S : Nat → Int → Int) (nm : Int) : Nat := 70
noncomputable def rxIRPD_4 (S0 : Nat → Int → Int) (ws : List Int) (S : Nat → Int → Int) (nm ix : Int) : Prop := S = bx_up S0 412 7 (S0 412 7 + 1) ∧ nm = rzNo (rzCut (S0 411)) (S0 412 1) (S0 412 2) ∧ nm ≤ 1000 ∧ S0 412 7 < 50
noncomputable def rxmRPD_4 (S0 : Nat → Int → Int) (ws : List Int) (S : Nat → Int → Int) (nm ix : Int) : Nat := 60
noncomputable def rxIRPD_5 (S0 : Nat → Int → Int) (ws : List Int) (S : Nat → Int → Int) (nm : Int) : Prop := rzKp S0 S ∧ S 412 2 = S0 412 2 ∧ S 412 3 = S0 412 3 ∧ S 412 7 = S0 412 7 + 1 ∧ S 412 8 = S0 412 8 ∧ (∀ i : Int, 0 ≤ i → i ≤ 8 → S 424 i = (if i = S0 412 8 ∧ S0 424 i = 1 then 2 else S0 424 i)) ∧ ¬(1000 < rzNo (rzCut (S0 411)) (S0 412 1) (S0 412 2) ∨ 50 ≤ S0 412 7)
noncomputable def rxmRPD_5 (S0 : Nat → Int → Int) (ws : List Int) (S : Nat → Int → Int) (nm : Int) : Nat := 50
noncomputable def rxIRPD_6 (S0 : Nat → Int → Int) (ws : List Int) (S : Nat → Int → Int) (nm : Int) : Prop := rzDt S ∧ rzStep (rzCut (S0 411)) (S0 412 1) (rzWs S0) (S0 412 2) (rzLv S0) false (S0 412 7) = (0, S 412 2, rzLv S, true, S 412 7) ∧ S 412 8 = S0 412 8 ∧ rzKp S0 S
noncomputable def rxmRPD_6 (S0 : Nat → Int → Int) (ws : List Int) (S : Nat → Int → Int) (nm : Int) : Nat := 40
noncomputable def rxPRPD (S0 : Nat → Int → Int) (ws : List Int) : Prop := rzDt S0 ∧ 0 ≤ S0 412 8 ∧ S0 412 8 ≤ 8 ∧ (rzDg (rzCut (S0 411)) (S0 412 1) (S0 412 2) = true ∨ 0 ≤ rzIxn (rzCut (S0 411)) (S0 412 1) (S0 412 2) (rzWs S0) 0)
noncomputable def rxPSRPD (S0 : Nat → Int → Int) (ws : List Int) (S : Nat → Int → Int) (w : Option Int) : Prop := (w = some 1 ∧ rzDt S ∧ rzStep (rzCut (S0 411)) (S0 412 1) (rzWs S0) (S0 412 2) (rzLv S0) false (S0 412 7) = (0, S 412 2, rzLv S, true, S 412 7) ∧ S 412 8 = S0 412 8 ∧ rzKp S0 S) ∨ (w = some 0 ∧ rzStep (rzCut (S0 411)) (S0 412 1) (rzWs S0) (S0 412 2) (rzLv S0) false (S0 412 7) = (2, (S0 412 2), rzLv S0, false, S0 412 7) ∧ S 412 4 = (S0 412 2))
theorem rxkRPD_1 {S0 : Nat → Int → Int} {ws : List Int} {S : Nat → Int → Int} (hP : rxPRPD S0 ws) (hin : bx_same rxL (bx_mdl rxCRPD.2.2.1) S0 S) (I0 : bx_Inv rxL S) (hinv : rxIRPD_1 S0 ws S)  : rxPNUM S [412] ∧ ∀ (S_p : Nat → Int → Int) (nm : Int), (-2147483648) ≤ nm → nm ≤ 1001 → rxPSNUM S [412] S_p (some nm) → bx_Inv rxL S_p → bx_same rxL (bx_mdl rxC74.2.2.1) S S_p → rxIRPD_2 S0 ws S_p nm ∧ rxmRPD_2 S0 ws S_p nm < rxmRPD_1 S0 ws S := by
  have hinv : S = S0 := hinv
  subst hinv
  refine ⟨hP.1, fun S_p nm _ _ hq _ _ => ?_⟩
  obtain ⟨rfl, hr⟩ := hq
  exact ⟨⟨rfl, Option.some.inj hr⟩, by unfold rxmRPD_1 rxmRPD_2; omega⟩
theorem rxkRPD_3 {S0 : Nat → Int → Int} {ws : List Int} {S : Nat → Int → Int} {nm : Int} (hP : rxPRPD S0 ws) (hin : bx_same rxL (bx_mdl rxCRPD.2.2.1) S0 S) (I0 : bx_Inv rxL S) (hinv : rxIRPD_3 S0 ws S nm) (l8 : (-2147483648) ≤ nm) (u8 : nm ≤ 1000) : rxPNMH S [412] ∧ ∀ (S_p : Nat → Int → Int) (ix : Int), (-1) ≤ ix → ix ≤ 7 → rxPSNMH S [412] S_p (some ix) → bx_Inv rxL S_p → bx_same rxL (bx_mdl rxC73.2.2.1) S S_p → rxIRPD_4 S0 ws S_p nm ix ∧ rxmRPD_4 S0 ws S_p nm ix < rxmRPD_3 S0 ws S nm := by
  obtain ⟨hS, h1, h2, h3⟩ := hinv
  subst hS
  refine ⟨rzDt_kp hP.1 ⟨congrArg rzCut (funext fun _ => (bx_up_ne (by omega))), ((bx_up_ne (by omega))), ((bx_up_ne (by omega))), ((bx_up_ne (by omega)))⟩ (bx_up_ne (by omega)) (bx_up_ne (by omega)), fun S_p ix _ _ hq _ _ => ?_⟩
  obtain ⟨rfl, hr⟩ := hq
  exact ⟨⟨rfl, h1, h2, h3⟩, by unfold rxmRPD_3 rxmRPD_4; omega⟩
theorem rxkRPD_5 {S0 : Nat → Int → Int} {ws : List Int} {S : Nat → Int → Int} {nm : Int} (hP : rxPRPD S0 ws) (hin : bx_same rxL (bx_mdl rxCRPD.2.2.1) S0 S) (I0 : bx_Inv rxL S) (hinv : rxIRPD_5 S0 ws S nm) (l8 : (-2147483648) ≤ nm) (u8 : nm ≤ 1000) : rxPAD S [412] ∧ ∀ (S_p : Nat → Int → Int), rxPSAD S [412] S_p none → bx_Inv rxL S_p → bx_same rxL (bx_mdl rxC84.2.2.1) S S_p → rxIRPD_6 S0 ws S_p nm ∧ rxmRPD_6 S0 ws S_p nm < rxmRPD_5 S0 ws S nm := by
  obtain ⟨hk, h2, h3, h7, h8, ho, hn⟩ := hinv
  obtain ⟨hD, b0, b8, hp⟩ := hP
  refine ⟨trivial, fun S_p hq _ hsm => ⟨?_, by unfold rxmRPD_5 rxmRPD_6; omega⟩⟩
  obtain ⟨-, q2, q3⟩ := hq
  have hD1 := rzDt_kp hD hk h2 h3
  have h := rzDt_ad hD1 (rzKp_of hsm (by decide +kernel) (by decide +kernel) (by decide +kernel) (by decide +kernel)) q2 q3
  have f7 : S_p 412 7 = S 412 7 := hsm 412 7 (by decide) (by decide) (by decide +kernel)
  have f8 : S_p 412 8 = S 412 8 := hsm 412 8 (by decide) (by decide) (by decide +kernel)
  have ft := rz_fd hsm (p := 424) (n := 9) (c := 1034) (k := 0) (by decide +kernel) (by decide) (by decide +kernel)
  have hl : rzLv S_p = (if S0 424 (S0 412 8) = 1 then 2 else S0 424 (S0 412 8)) :: rzLq S0 := rzLv_set b0 (f8.trans h8) (by
    rw [ft _ b0 (by omega), ho _ b0 b8]
    by_cases e : S0 424 (S0 412 8) = 1
    · rw [if_pos ⟨rfl, e⟩, if_pos e]
    · rw [if_neg fun g => e g.2, if_neg e]) fun i a c => by
    rw [ft i a (by omega), ho i a (by omega), if_neg (by omega)]
  refine ⟨h.1, ?_, f8.trans h8, hk.tr (rzKp_of hsm (by decide +kernel) (by decide +kernel) (by decide +kernel) (by decide +kernel))⟩
  rw [rzLv_eq b0, rzStep_0, if_pos hp, if_neg hn, hl, f7, h7, h.2, hk.1, hk.2.1, h2]
theorem rxcRPD_0_0 {S0 : Nat → Int → Int} {ws : List Int} {S : Nat → Int → Int} (hP : rxPRPD S0 ws) (hin : bx_same rxL (bx_mdl rxCRPD.2.2.1) S0 S) (I0 : bx_Inv rxL S) (hinv : rxIRPD_0 S0 ws S)  : (True) ∧ (True) ∧ rxIRPD_1 S0 ws S ∧ rxmRPD_1 S0 ws S < rxmRPD_0 S0 ws S := by
  obtain ⟨rfl, hw⟩ := hinv
  exact ⟨trivial, trivial, rfl, by unfold rxmRPD_0 rxmRPD_1; omega⟩
theorem rxcRPD_2_0 {S0 : Nat → Int → Int} {ws : List Int} {S : Nat → Int → Int} {nm x9 x10 x11 x12 : Int} (hP : rxPRPD S0 ws) (hin : bx_same rxL (bx_mdl rxCRPD.2.2.1) S0 S) (I0 : bx_Inv rxL S) (hinv : rxIRPD_2 S0 ws S nm) (l8 : 0 ≤ nm) (u8 : nm ≤ 1000) (l9 : 0 ≤ x9) (u9 : x9 ≤ 49) (l10 : 0 ≤ x10) (u10 : x10 ≤ 399) (l11 : 0 ≤ x11) (u11 : x11 ≤ 8) (l12 : 0 ≤ x12) (u12 : x12 ≤ 4) (f0 : x12 ≠ 1) (e7 : S 412 7 = x9) (e5 : (bx_up S 412 7 (x9 + 1)) 427 0 = x10) (e1 : (bx_up (bx_up (bx_up (bx_up S 412 7 (x9 + 1)) 428 x10 1) 429 x10 nm) 427 0 (x10 + 1)) 412 8 = x11) (e0 : (bx_up (bx_up (bx_up (bx_up S 412 7 (x9 + 1)) 428 x10 1) 429 x10 nm) 427 0 (x10 + 1)) 424 x11 = x12) : (True) ∧ (True) ∧ rxIRPD_5 S0 ws (bx_up (bx_up (bx_up (bx_up S 412 7 (x9 + 1)) 428 x10 1) 429 x10 nm) 427 0 (x10 + 1)) nm ∧ rxmRPD_5 S0 ws (bx_up (bx_up (bx_up (bx_up S 412 7 (x9 + 1)) 428 x10 1) 429 x10 nm) 427 0 (x10 + 1)) nm < rxmRPD_2 S0 ws S nm := by
  obtain ⟨rfl, hn⟩ := hinv
  obtain ⟨hD, b0, b8, hp⟩ := (show rzDt S ∧ 0 ≤ S 412 8 ∧ S 412 8 ≤ 8 ∧ _ from hP)
  have hb : S 412 8 = x11 := (((bx_up_ne (by omega)).trans ((bx_up_ne (by omega)).trans ((bx_up_ne (by omega)).trans ((bx_up_ne (by omega)))))).symm.trans e1)
  have hs : S 424 x11 = x12 := (((bx_up_ne (by omega)).trans ((bx_up_ne (by omega)).trans ((bx_up_ne (by omega)).trans ((bx_up_ne (by omega)))))).symm.trans e0)
  refine ⟨trivial, trivial, ⟨⟨congrArg rzCut (funext fun _ => (bx_up_ne (by omega)).trans ((bx_up_ne (by omega)).trans ((bx_up_ne (by omega)).trans ((bx_up_ne (by omega)))))), ((bx_up_ne (by omega)).trans ((bx_up_ne (by omega)).trans ((bx_up_ne (by omega)).trans ((bx_up_ne (by omega)))))), ((bx_up_ne (by omega)).trans ((bx_up_ne (by omega)).trans ((bx_up_ne (by omega)).trans ((bx_up_ne (by omega)))))), ((bx_up_ne (by omega)).trans ((bx_up_ne (by omega)).trans ((bx_up_ne (by omega)).trans ((bx_up_ne (by omega))))))⟩, (bx_up_ne (by omega)).trans ((bx_up_ne (by omega)).trans ((bx_up_ne (by omega)).trans ((bx_up_ne (by omega))))), (bx_up_ne (by omega)).trans ((bx_up_ne (by omega)).trans ((bx_up_ne (by omega)).trans ((bx_up_ne (by omega))))), ((bx_up_ne (by omega)).trans ((bx_up_ne (by omega)).trans ((bx_up_ne (by omega)).trans (bx_up_at)))).trans (by omega), (bx_up_ne (by omega)).trans ((bx_up_ne (by omega)).trans ((bx_up_ne (by omega)).trans ((bx_up_ne (by omega))))), ?_, by omega⟩, by unfold rxmRPD_2 rxmRPD_5; omega⟩
  exact fun i i0 i1 => by
    rw [if_neg fun g => by
      obtain ⟨g1, g2⟩ := g
      rw [g1, hb, hs] at g2
      omega]
    exact (bx_up_ne (by omega)).trans ((bx_up_ne (by omega)).trans ((bx_up_ne (by omega)).trans ((bx_up_ne (by omega)))))
theorem rxcRPD_2_1 {S0 : Nat → Int → Int} {ws : List Int} {S : Nat → Int → Int} {nm x9 x10 x11 x12 : Int} (hP : rxPRPD S0 ws) (hin : bx_same rxL (bx_mdl rxCRPD.2.2.1) S0 S) (I0 : bx_Inv rxL S) (hinv : rxIRPD_2 S0 ws S nm) (l8 : 0 ≤ nm) (u8 : nm ≤ 1000) (l9 : 0 ≤ x9) (u9 : x9 ≤ 49) (l10 : 0 ≤ x10) (u10 : x10 ≤ 399) (l11 : 0 ≤ x11) (u11 : x11 ≤ 8) (l12 : 1 ≤ x12) (u12 : x12 ≤ 1) (e8 : S 412 7 = x9) (e6 : (bx_up S 412 7 (x9 + 1)) 427 0 = x10) (e2 : (bx_up (bx_up (bx_up (bx_up S 412 7 (x9 + 1)) 428 x10 1) 429 x10 nm) 427 0 (x10 + 1)) 412 8 = x11) (e1 : (bx_up (bx_up (bx_up (bx_up S 412 7 (x9 + 1)) 428 x10 1) 429 x10 nm) 427 0 (x10 + 1)) 424 x11 = x12) : (True) ∧ (True) ∧ rxIRPD_5 S0 ws (bx_up (bx_up (bx_up (bx_up (bx_up S 412 7 (x9 + 1)) 428 x10 1) 429 x10 nm) 427 0 (x10 + 1)) 424 x11 2) nm ∧ rxmRPD_5 S0 ws (bx_up (bx_up (bx_up (bx_up (bx_up S 412 7 (x9 + 1)) 428 x10 1) 429 x10 nm) 427 0 (x10 + 1)) 424 x11 2) nm < rxmRPD_2 S0 ws S nm := by
  obtain ⟨rfl, hn⟩ := hinv
  obtain ⟨hD, b0, b8, hp⟩ := (show rzDt S ∧ 0 ≤ S 412 8 ∧ S 412 8 ≤ 8 ∧ _ from hP)
  have hb : S 412 8 = x11 := (((bx_up_ne (by omega)).trans ((bx_up_ne (by omega)).trans ((bx_up_ne (by omega)).trans ((bx_up_ne (by omega)))))).symm.trans e2)
  have hs : S 424 x11 = x12 := (((bx_up_ne (by omega)).trans ((bx_up_ne (by omega)).trans ((bx_up_ne (by omega)).trans ((bx_up_ne (by omega)))))).symm.trans e1)
  refine ⟨trivial, trivial, ⟨⟨congrArg rzCut (funext fun _ => (bx_up_ne (by omega)).trans ((bx_up_ne (by omega)).trans ((bx_up_ne (by omega)).trans ((bx_up_ne (by omega)).trans ((bx_up_ne (by omega))))))), ((bx_up_ne (by omega)).trans ((bx_up_ne (by omega)).trans ((bx_up_ne (by omega)).trans ((bx_up_ne (by omega)).trans ((bx_up_ne (by omega))))))), ((bx_up_ne (by omega)).trans ((bx_up_ne (by omega)).trans ((bx_up_ne (by omega)).trans ((bx_up_ne (by omega)).trans ((bx_up_ne (by omega))))))), ((bx_up_ne (by omega)).trans ((bx_up_ne (by omega)).trans ((bx_up_ne (by omega)).trans ((bx_up_ne (by omega)).trans ((bx_up_ne (by omega)))))))⟩, (bx_up_ne (by omega)).trans ((bx_up_ne (by omega)).trans ((bx_up_ne (by omega)).trans ((bx_up_ne (by omega)).trans ((bx_up_ne (by omega)))))), (bx_up_ne (by omega)).trans ((bx_up_ne (by omega)).trans ((bx_up_ne (by omega)).trans ((bx_up_ne (by omega)).trans ((bx_up_ne (by omega)))))), ((bx_up_ne (by omega)).trans ((bx_up_ne (by omega)).trans ((bx_up_ne (by omega)).trans ((bx_up_ne (by omega)).trans (bx_up_at))))).trans (by omega), (bx_up_ne (by omega)).trans ((bx_up_ne (by omega)).trans ((bx_up_ne (by omega)).trans ((bx_up_ne (by omega)).trans ((bx_up_ne (by omega)))))), ?_, by omega⟩, by unfold rxmRPD_2 rxmRPD_5; omega⟩
  exact fun i i0 i1 => by
    by_cases hi : i = x11
    · subst hi
      rw [if_pos ⟨by omega, by omega⟩]
      exact bx_up_at
    · rw [if_neg (by omega)]
      exact (bx_up_ne (by omega)).trans ((bx_up_ne (by omega)).trans ((bx_up_ne (by omega)).trans ((bx_up_ne (by omega)).trans ((bx_up_ne (by omega))))))
theorem rxcRPD_2_2 {S0 : Nat → Int → Int} {ws : List Int} {S : Nat → Int → Int} {nm x9 x10 x11 : Int} (hP : rxPRPD S0 ws) (hin : bx_same rxL (bx_mdl rxCRPD.2.2.1) S0 S) (I0 : bx_Inv rxL S) (hinv : rxIRPD_2 S0 ws S nm) (l8 : 0 ≤ nm) (u8 : nm ≤ 1000) (l9 : 0 ≤ x9) (u9 : x9 ≤ 49) (l10 : 0 ≤ x10) (u10 : x10 ≤ 399) (l11 : 9 ≤ x11) (u11 : x11 ≤ 2147483647) (e6 : S 412 7 = x9) (e4 : (bx_up S 412 7 (x9 + 1)) 427 0 = x10) (e0 : (bx_up (bx_up (bx_up (bx_up S 412 7 (x9 + 1)) 428 x10 1) 429 x10 nm) 427 0 (x10 + 1)) 412 8 = x11) : (True) ∧ (True) ∧ rxIRPD_5 S0 ws (bx_up (bx_up (bx_up (bx_up S 412 7 (x9 + 1)) 428 x10 1) 429 x10 nm) 427 0 (x10 + 1)) nm ∧ rxmRPD_5 S0 ws (bx_up (bx_up (bx_up (bx_up S 412 7 (x9 + 1)) 428 x10 1) 429 x10 nm) 427 0 (x10 + 1)) nm < rxmRPD_2 S0 ws S nm := by
  obtain ⟨rfl, hn⟩ := hinv
  obtain ⟨hD, b0, b8, hp⟩ := (show rzDt S ∧ 0 ≤ S 412 8 ∧ S 412 8 ≤ 8 ∧ _ from hP)
  have hb : S 412 8 = x11 := (((bx_up_ne (by omega)).trans ((bx_up_ne (by omega)).trans ((bx_up_ne (by omega)).trans ((bx_up_ne (by omega)))))).symm.trans e0)
  refine ⟨trivial, trivial, ⟨⟨congrArg rzCut (funext fun _ => (bx_up_ne (by omega)).trans ((bx_up_ne (by omega)).trans ((bx_up_ne (by omega)).trans ((bx_up_ne (by omega)))))), ((bx_up_ne (by omega)).trans ((bx_up_ne (by omega)).trans ((bx_up_ne (by omega)).trans ((bx_up_ne (by omega)))))), ((bx_up_ne (by omega)).trans ((bx_up_ne (by omega)).trans ((bx_up_ne (by omega)).trans ((bx_up_ne (by omega)))))), ((bx_up_ne (by omega)).trans ((bx_up_ne (by omega)).trans ((bx_up_ne (by omega)).trans ((bx_up_ne (by omega))))))⟩, (bx_up_ne (by omega)).trans ((bx_up_ne (by omega)).trans ((bx_up_ne (by omega)).trans ((bx_up_ne (by omega))))), (bx_up_ne (by omega)).trans ((bx_up_ne (by omega)).trans ((bx_up_ne (by omega)).trans ((bx_up_ne (by omega))))), ((bx_up_ne (by omega)).trans ((bx_up_ne (by omega)).trans ((bx_up_ne (by omega)).trans (bx_up_at)))).trans (by omega), (bx_up_ne (by omega)).trans ((bx_up_ne (by omega)).trans ((bx_up_ne (by omega)).trans ((bx_up_ne (by omega))))), ?_, by omega⟩, by unfold rxmRPD_2 rxmRPD_5; omega⟩
  exact fun i i0 i1 => by
    rw [if_neg fun g => by
      obtain ⟨g1, g2⟩ := g
      rw [g1] at g2
      omega]
    exact (bx_up_ne (by omega)).trans ((bx_up_ne (by omega)).trans ((bx_up_ne (by omega)).trans ((bx_up_ne (by omega)))))
theorem rxcRPD_2_3 {S0 : Nat → Int → Int} {ws : List Int} {S : Nat → Int → Int} {nm x9 x10 x11 : Int} (hP : rxPRPD S0 ws) (hin : bx_same rxL (bx_mdl rxCRPD.2.2.1) S0 S) (I0 : bx_Inv rxL S) (hinv : rxIRPD_2 S0 ws S nm) (l8 : 0 ≤ nm) (u8 : nm ≤ 1000) (l9 : 0 ≤ x9) (u9 : x9 ≤ 49) (l10 : 0 ≤ x10) (u10 : x10 ≤ 399) (l11 : (-2147483648) ≤ x11) (u11 : x11 ≤ (-1)) (e6 : S 412 7 = x9) (e4 : (bx_up S 412 7 (x9 + 1)) 427 0 = x10) (e0 : (bx_up (bx_up (bx_up (bx_up S 412 7 (x9 + 1)) 428 x10 1) 429 x10 nm) 427 0 (x10 + 1)) 412 8 = x11) : (True) ∧ (True) ∧ rxIRPD_5 S0 ws (bx_up (bx_up (bx_up (bx_up S 412 7 (x9 + 1)) 428 x10 1) 429 x10 nm) 427 0 (x10 + 1)) nm ∧ rxmRPD_5 S0 ws (bx_up (bx_up (bx_up (bx_up S 412 7 (x9 + 1)) 428 x10 1) 429 x10 nm) 427 0 (x10 + 1)) nm < rxmRPD_2 S0 ws S nm := by
  obtain ⟨rfl, hn⟩ := hinv
  obtain ⟨hD, b0, b8, hp⟩ := (show rzDt S ∧ 0 ≤ S 412 8 ∧ S 412 8 ≤ 8 ∧ _ from hP)
  have hb : S 412 8 = x11 := (((bx_up_ne (by omega)).trans ((bx_up_ne (by omega)).trans ((bx_up_ne (by omega)).trans ((bx_up_ne (by omega)))))).symm.trans e0)
  refine ⟨trivial, trivial, ⟨⟨congrArg rzCut (funext fun _ => (bx_up_ne (by omega)).trans ((bx_up_ne (by omega)).trans ((bx_up_ne (by omega)).trans ((bx_up_ne (by omega)))))), ((bx_up_ne (by omega)).trans ((bx_up_ne (by omega)).trans ((bx_up_ne (by omega)).trans ((bx_up_ne (by omega)))))), ((bx_up_ne (by omega)).trans ((bx_up_ne (by omega)).trans ((bx_up_ne (by omega)).trans ((bx_up_ne (by omega)))))), ((bx_up_ne (by omega)).trans ((bx_up_ne (by omega)).trans ((bx_up_ne (by omega)).trans ((bx_up_ne (by omega))))))⟩, (bx_up_ne (by omega)).trans ((bx_up_ne (by omega)).trans ((bx_up_ne (by omega)).trans ((bx_up_ne (by omega))))), (bx_up_ne (by omega)).trans ((bx_up_ne (by omega)).trans ((bx_up_ne (by omega)).trans ((bx_up_ne (by omega))))), ((bx_up_ne (by omega)).trans ((bx_up_ne (by omega)).trans ((bx_up_ne (by omega)).trans (bx_up_at)))).trans (by omega), (bx_up_ne (by omega)).trans ((bx_up_ne (by omega)).trans ((bx_up_ne (by omega)).trans ((bx_up_ne (by omega))))), ?_, by omega⟩, by unfold rxmRPD_2 rxmRPD_5; omega⟩
  exact fun i i0 i1 => by
    rw [if_neg fun g => by
      obtain ⟨g1, g2⟩ := g
      rw [g1] at g2
      omega]
    exact (bx_up_ne (by omega)).trans ((bx_up_ne (by omega)).trans ((bx_up_ne (by omega)).trans ((bx_up_ne (by omega)))))
theorem rxcRPD_2_4 {S0 : Nat → Int → Int} {ws : List Int} {S : Nat → Int → Int} {nm x9 x10 x11 x12 : Int} (hP : rxPRPD S0 ws) (hin : bx_same rxL (bx_mdl rxCRPD.2.2.1) S0 S) (I0 : bx_Inv rxL S) (hinv : rxIRPD_2 S0 ws S nm) (l8 : 0 ≤ nm) (u8 : nm ≤ 1000) (l9 : 0 ≤ x9) (u9 : x9 ≤ 49) (l10 : 400 ≤ x10) (u10 : x10 ≤ 400) (l11 : 0 ≤ x11) (u11 : x11 ≤ 8) (l12 : 0 ≤ x12) (u12 : x12 ≤ 4) (f0 : x12 ≠ 1) (e4 : S 412 7 = x9) (e2 : (bx_up S 412 7 (x9 + 1)) 427 0 = x10) (e1 : (bx_up S 412 7 (x9 + 1)) 412 8 = x11) (e0 : (bx_up S 412 7 (x9 + 1)) 424 x11 = x12) : (True) ∧ (True) ∧ rxIRPD_5 S0 ws (bx_up S 412 7 (x9 + 1)) nm ∧ rxmRPD_5 S0 ws (bx_up S 412 7 (x9 + 1)) nm < rxmRPD_2 S0 ws S nm := by
  obtain ⟨rfl, hn⟩ := hinv
  obtain ⟨hD, b0, b8, hp⟩ := (show rzDt S ∧ 0 ≤ S 412 8 ∧ S 412 8 ≤ 8 ∧ _ from hP)
  have hb : S 412 8 = x11 := (((bx_up_ne (by omega))).symm.trans e1)
  have hs : S 424 x11 = x12 := (((bx_up_ne (by omega))).symm.trans e0)
  refine ⟨trivial, trivial, ⟨⟨congrArg rzCut (funext fun _ => (bx_up_ne (by omega))), ((bx_up_ne (by omega))), ((bx_up_ne (by omega))), ((bx_up_ne (by omega)))⟩, (bx_up_ne (by omega)), (bx_up_ne (by omega)), (bx_up_at).trans (by omega), (bx_up_ne (by omega)), ?_, by omega⟩, by unfold rxmRPD_2 rxmRPD_5; omega⟩
  exact fun i i0 i1 => by
    rw [if_neg fun g => by
      obtain ⟨g1, g2⟩ := g
      rw [g1, hb, hs] at g2
      omega]
    exact (bx_up_ne (by omega))
theorem rxcRPD_2_5 {S0 : Nat → Int → Int} {ws : List Int} {S : Nat → Int → Int} {nm x9 x10 x11 x12 : Int} (hP : rxPRPD S0 ws) (hin : bx_same rxL (bx_mdl rxCRPD.2.2.1) S0 S) (I0 : bx_Inv rxL S) (hinv : rxIRPD_2 S0 ws S nm) (l8 : 0 ≤ nm) (u8 : nm ≤ 1000) (l9 : 0 ≤ x9) (u9 : x9 ≤ 49) (l10 : 400 ≤ x10) (u10 : x10 ≤ 400) (l11 : 0 ≤ x11) (u11 : x11 ≤ 8) (l12 : 1 ≤ x12) (u12 : x12 ≤ 1) (e5 : S 412 7 = x9) (e3 : (bx_up S 412 7 (x9 + 1)) 427 0 = x10) (e2 : (bx_up S 412 7 (x9 + 1)) 412 8 = x11) (e1 : (bx_up S 412 7 (x9 + 1)) 424 x11 = x12) : (True) ∧ (True) ∧ rxIRPD_5 S0 ws (bx_up (bx_up S 412 7 (x9 + 1)) 424 x11 2) nm ∧ rxmRPD_5 S0 ws (bx_up (bx_up S 412 7 (x9 + 1)) 424 x11 2) nm < rxmRPD_2 S0 ws S nm := by
  obtain ⟨rfl, hn⟩ := hinv
  obtain ⟨hD, b0, b8, hp⟩ := (show rzDt S ∧ 0 ≤ S 412 8 ∧ S 412 8 ≤ 8 ∧ _ from hP)
  have hb : S 412 8 = x11 := (((bx_up_ne (by omega))).symm.trans e2)
  have hs : S 424 x11 = x12 := (((bx_up_ne (by omega))).symm.trans e1)
  refine ⟨trivial, trivial, ⟨⟨congrArg rzCut (funext fun _ => (bx_up_ne (by omega)).trans ((bx_up_ne (by omega)))), ((bx_up_ne (by omega)).trans ((bx_up_ne (by omega)))), ((bx_up_ne (by omega)).trans ((bx_up_ne (by omega)))), ((bx_up_ne (by omega)).trans ((bx_up_ne (by omega))))⟩, (bx_up_ne (by omega)).trans ((bx_up_ne (by omega))), (bx_up_ne (by omega)).trans ((bx_up_ne (by omega))), ((bx_up_ne (by omega)).trans (bx_up_at)).trans (by omega), (bx_up_ne (by omega)).trans ((bx_up_ne (by omega))), ?_, by omega⟩, by unfold rxmRPD_2 rxmRPD_5; omega⟩
  exact fun i i0 i1 => by
    by_cases hi : i = x11
    · subst hi
      rw [if_pos ⟨by omega, by omega⟩]
      exact bx_up_at
    · rw [if_neg (by omega)]
      exact (bx_up_ne (by omega)).trans ((bx_up_ne (by omega)))
theorem rxcRPD_2_6 {S0 : Nat → Int → Int} {ws : List Int} {S : Nat → Int → Int} {nm x9 x10 x11 : Int} (hP : rxPRPD S0 ws) (hin : bx_same rxL (bx_mdl rxCRPD.2.2.1) S0 S) (I0 : bx_Inv rxL S) (hinv : rxIRPD_2 S0 ws S nm) (l8 : 0 ≤ nm) (u8 : nm ≤ 1000) (l9 : 0 ≤ x9) (u9 : x9 ≤ 49) (l10 : 400 ≤ x10) (u10 : x10 ≤ 400) (l11 : 9 ≤ x11) (u11 : x11 ≤ 2147483647) (e3 : S 412 7 = x9) (e1 : (bx_up S 412 7 (x9 + 1)) 427 0 = x10) (e0 : (bx_up S 412 7 (x9 + 1)) 412 8 = x11) : (True) ∧ (True) ∧ rxIRPD_5 S0 ws (bx_up S 412 7 (x9 + 1)) nm ∧ rxmRPD_5 S0 ws (bx_up S 412 7 (x9 + 1)) nm < rxmRPD_2 S0 ws S nm := by
  obtain ⟨rfl, hn⟩ := hinv
  obtain ⟨hD, b0, b8, hp⟩ := (show rzDt S ∧ 0 ≤ S 412 8 ∧ S 412 8 ≤ 8 ∧ _ from hP)
  have hb : S 412 8 = x11 := (((bx_up_ne (by omega))).symm.trans e0)
  refine ⟨trivial, trivial, ⟨⟨congrArg rzCut (funext fun _ => (bx_up_ne (by omega))), ((bx_up_ne (by omega))), ((bx_up_ne (by omega))), ((bx_up_ne (by omega)))⟩, (bx_up_ne (by omega)), (bx_up_ne (by omega)), (bx_up_at).trans (by omega), (bx_up_ne (by omega)), ?_, by omega⟩, by unfold rxmRPD_2 rxmRPD_5; omega⟩
  exact fun i i0 i1 => by
    rw [if_neg fun g => by
      obtain ⟨g1, g2⟩ := g
      rw [g1] at g2
      omega]
    exact (bx_up_ne (by omega))
theorem rxcRPD_2_7 {S0 : Nat → Int → Int} {ws : List Int} {S : Nat → Int → Int} {nm x9 x10 x11 : Int} (hP : rxPRPD S0 ws) (hin : bx_same rxL (bx_mdl rxCRPD.2.2.1) S0 S) (I0 : bx_Inv rxL S) (hinv : rxIRPD_2 S0 ws S nm) (l8 : 0 ≤ nm) (u8 : nm ≤ 1000) (l9 : 0 ≤ x9) (u9 : x9 ≤ 49) (l10 : 400 ≤ x10) (u10 : x10 ≤ 400) (l11 : (-2147483648) ≤ x11) (u11 : x11 ≤ (-1)) (e3 : S 412 7 = x9) (e1 : (bx_up S 412 7 (x9 + 1)) 427 0 = x10) (e0 : (bx_up S 412 7 (x9 + 1)) 412 8 = x11) : (True) ∧ (True) ∧ rxIRPD_5 S0 ws (bx_up S 412 7 (x9 + 1)) nm ∧ rxmRPD_5 S0 ws (bx_up S 412 7 (x9 + 1)) nm < rxmRPD_2 S0 ws S nm := by
  obtain ⟨rfl, hn⟩ := hinv
  obtain ⟨hD, b0, b8, hp⟩ := (show rzDt S ∧ 0 ≤ S 412 8 ∧ S 412 8 ≤ 8 ∧ _ from hP)
  have hb : S 412 8 = x11 := (((bx_up_ne (by omega))).symm.trans e0)
  refine ⟨trivial, trivial, ⟨⟨congrArg rzCut (funext fun _ => (bx_up_ne (by omega))), ((bx_up_ne (by omega))), ((bx_up_ne (by omega))), ((bx_up_ne (by omega)))⟩, (bx_up_ne (by omega)), (bx_up_ne (by omega)), (bx_up_at).trans (by omega), (bx_up_ne (by omega)), ?_, by omega⟩, by unfold rxmRPD_2 rxmRPD_5; omega⟩
  exact fun i i0 i1 => by
    rw [if_neg fun g => by
      obtain ⟨g1, g2⟩ := g
      rw [g1] at g2
      omega]
    exact (bx_up_ne (by omega))
theorem rxcRPD_2_8 {S0 : Nat → Int → Int} {ws : List Int} {S : Nat → Int → Int} {nm x9 : Int} (hP : rxPRPD S0 ws) (hin : bx_same rxL (bx_mdl rxCRPD.2.2.1) S0 S) (I0 : bx_Inv rxL S) (hinv : rxIRPD_2 S0 ws S nm) (l8 : (-2147483648) ≤ nm) (u8 : nm ≤ (-1)) (l9 : 0 ≤ x9) (u9 : x9 ≤ 49) (e1 : S 412 7 = x9) : (True) ∧ (True) ∧ rxIRPD_3 S0 ws (bx_up S 412 7 (x9 + 1)) nm ∧ rxmRPD_3 S0 ws (bx_up S 412 7 (x9 + 1)) nm < rxmRPD_2 S0 ws S nm := by
  obtain ⟨rfl, hn⟩ := hinv
  exact ⟨trivial, trivial, ⟨by rw [e1], hn, by omega, by omega⟩, by unfold rxmRPD_2 rxmRPD_3; omega⟩
theorem rxdRPD_2_0 {S0 : Nat → Int → Int} {ws : List Int} {S : Nat → Int → Int} {nm x9 x10 : Int} (hP : rxPRPD S0 ws) (hin : bx_same rxL (bx_mdl rxCRPD.2.2.1) S0 S) (hin2 : bx_same rxL (bx_mdl rxCRPD.2.2.1) S (bx_up S 412 4 x10)) (I0 : bx_Inv rxL S) (I1 : bx_Inv rxL (bx_up S 412 4 x10)) (hinv : rxIRPD_2 S0 ws S nm) (l8 : (-2147483648) ≤ nm) (u8 : nm ≤ 1000) (l9 : 50 ≤ x9) (u9 : x9 ≤ 50) (l10 : 0 ≤ x10) (u10 : x10 ≤ 400) (e2 : S 412 7 = x9) (e1 : S 412 2 = x10) : (True) ∧ rxPSRPD S0 ws (bx_up S 412 4 x10) (some 0) := by
  obtain ⟨rfl, hn⟩ := hinv
  obtain ⟨hD, b0, b8, hp⟩ := (show rzDt S ∧ 0 ≤ S 412 8 ∧ S 412 8 ≤ 8 ∧ _ from hP)
  refine ⟨trivial, Or.inr ⟨rfl, ?_, bx_up_at.trans e1.symm⟩⟩
  rw [rzLv_eq b0, rzStep_0, if_pos hp, if_pos (by omega)]
theorem rxdRPD_2_1 {S0 : Nat → Int → Int} {ws : List Int} {S : Nat → Int → Int} {nm x9 : Int} (hP : rxPRPD S0 ws) (hin : bx_same rxL (bx_mdl rxCRPD.2.2.1) S0 S) (hin2 : bx_same rxL (bx_mdl rxCRPD.2.2.1) S (bx_up S 412 4 x9)) (I0 : bx_Inv rxL S) (I1 : bx_Inv rxL (bx_up S 412 4 x9)) (hinv : rxIRPD_2 S0 ws S nm) (l8 : 1001 ≤ nm) (u8 : nm ≤ 1001) (l9 : 0 ≤ x9) (u9 : x9 ≤ 400) (e1 : S 412 2 = x9) : (True) ∧ rxPSRPD S0 ws (bx_up S 412 4 x9) (some 0) := by
  obtain ⟨rfl, hn⟩ := hinv
  obtain ⟨hD, b0, b8, hp⟩ := (show rzDt S ∧ 0 ≤ S 412 8 ∧ S 412 8 ≤ 8 ∧ _ from hP)
  refine ⟨trivial, Or.inr ⟨rfl, ?_, bx_up_at.trans e1.symm⟩⟩
  rw [rzLv_eq b0, rzStep_0, if_pos hp, if_pos (by omega)]
theorem rxcRPD_4_0 {S0 : Nat → Int → Int} {ws : List Int} {S : Nat → Int → Int} {nm ix x10 x11 x12 : Int} (hP : rxPRPD S0 ws) (hin : bx_same rxL (bx_mdl rxCRPD.2.2.1) S0 S) (I0 : bx_Inv rxL S) (hinv : rxIRPD_4 S0 ws S nm ix) (l8 : (-2147483648) ≤ nm) (u8 : nm ≤ 1000) (l9 : (-1) ≤ ix) (u9 : ix ≤ 7) (l10 : 0 ≤ x10) (u10 : x10 ≤ 399) (l11 : 0 ≤ x11) (u11 : x11 ≤ 8) (l12 : 0 ≤ x12) (u12 : x12 ≤ 4) (f0 : x12 ≠ 1) (e5 : S 427 0 = x10) (e1 : (bx_up (bx_up (bx_up S 428 x10 2) 429 x10 ix) 427 0 (x10 + 1)) 412 8 = x11) (e0 : (bx_up (bx_up (bx_up S 428 x10 2) 429 x10 ix) 427 0 (x10 + 1)) 424 x11 = x12) : (True) ∧ (True) ∧ rxIRPD_5 S0 ws (bx_up (bx_up (bx_up S 428 x10 2) 429 x10 ix) 427 0 (x10 + 1)) nm ∧ rxmRPD_5 S0 ws (bx_up (bx_up (bx_up S 428 x10 2) 429 x10 ix) 427 0 (x10 + 1)) nm < rxmRPD_4 S0 ws S nm ix := by
  obtain ⟨rfl, hn, hn1, hn2⟩ := hinv
  obtain ⟨hD, b0, b8, hp⟩ := hP
  have hb : S0 412 8 = x11 := (((bx_up_ne (by omega)).trans ((bx_up_ne (by omega)).trans ((bx_up_ne (by omega)).trans ((bx_up_ne (by omega)))))).symm.trans e1)
  have hs : S0 424 x11 = x12 := (((bx_up_ne (by omega)).trans ((bx_up_ne (by omega)).trans ((bx_up_ne (by omega)).trans ((bx_up_ne (by omega)))))).symm.trans e0)
  refine ⟨trivial, trivial, ⟨⟨congrArg rzCut (funext fun _ => (bx_up_ne (by omega)).trans ((bx_up_ne (by omega)).trans ((bx_up_ne (by omega)).trans ((bx_up_ne (by omega)))))), ((bx_up_ne (by omega)).trans ((bx_up_ne (by omega)).trans ((bx_up_ne (by omega)).trans ((bx_up_ne (by omega)))))), ((bx_up_ne (by omega)).trans ((bx_up_ne (by omega)).trans ((bx_up_ne (by omega)).trans ((bx_up_ne (by omega)))))), ((bx_up_ne (by omega)).trans ((bx_up_ne (by omega)).trans ((bx_up_ne (by omega)).trans ((bx_up_ne (by omega))))))⟩, (bx_up_ne (by omega)).trans ((bx_up_ne (by omega)).trans ((bx_up_ne (by omega)).trans ((bx_up_ne (by omega))))), (bx_up_ne (by omega)).trans ((bx_up_ne (by omega)).trans ((bx_up_ne (by omega)).trans ((bx_up_ne (by omega))))), ((bx_up_ne (by omega)).trans ((bx_up_ne (by omega)).trans ((bx_up_ne (by omega)).trans (bx_up_at)))).trans (by omega), (bx_up_ne (by omega)).trans ((bx_up_ne (by omega)).trans ((bx_up_ne (by omega)).trans ((bx_up_ne (by omega))))), ?_, by omega⟩, by unfold rxmRPD_4 rxmRPD_5; omega⟩
  exact fun i i0 i1 => by
    rw [if_neg fun g => by
      obtain ⟨g1, g2⟩ := g
      rw [g1, hb, hs] at g2
      omega]
    exact (bx_up_ne (by omega)).trans ((bx_up_ne (by omega)).trans ((bx_up_ne (by omega)).trans ((bx_up_ne (by omega)))))
theorem rxcRPD_4_1 {S0 : Nat → Int → Int} {ws : List Int} {S : Nat → Int → Int} {nm ix x10 x11 x12 : Int} (hP : rxPRPD S0 ws) (hin : bx_same rxL (bx_mdl rxCRPD.2.2.1) S0 S) (I0 : bx_Inv rxL S) (hinv : rxIRPD_4 S0 ws S nm ix) (l8 : (-2147483648) ≤ nm) (u8 : nm ≤ 1000) (l9 : (-1) ≤ ix) (u9 : ix ≤ 7) (l10 : 0 ≤ x10) (u10 : x10 ≤ 399) (l11 : 0 ≤ x11) (u11 : x11 ≤ 8) (l12 : 1 ≤ x12) (u12 : x12 ≤ 1) (e6 : S 427 0 = x10) (e2 : (bx_up (bx_up (bx_up S 428 x10 2) 429 x10 ix) 427 0 (x10 + 1)) 412 8 = x11) (e1 : (bx_up (bx_up (bx_up S 428 x10 2) 429 x10 ix) 427 0 (x10 + 1)) 424 x11 = x12) : (True) ∧ (True) ∧ rxIRPD_5 S0 ws (bx_up (bx_up (bx_up (bx_up S 428 x10 2) 429 x10 ix) 427 0 (x10 + 1)) 424 x11 2) nm ∧ rxmRPD_5 S0 ws (bx_up (bx_up (bx_up (bx_up S 428 x10 2) 429 x10 ix) 427 0 (x10 + 1)) 424 x11 2) nm < rxmRPD_4 S0 ws S nm ix := by
  obtain ⟨rfl, hn, hn1, hn2⟩ := hinv
  obtain ⟨hD, b0, b8, hp⟩ := hP
  have hb : S0 412 8 = x11 := (((bx_up_ne (by omega)).trans ((bx_up_ne (by omega)).trans ((bx_up_ne (by omega)).trans ((bx_up_ne (by omega)))))).symm.trans e2)
  have hs : S0 424 x11 = x12 := (((bx_up_ne (by omega)).trans ((bx_up_ne (by omega)).trans ((bx_up_ne (by omega)).trans ((bx_up_ne (by omega)))))).symm.trans e1)
  refine ⟨trivial, trivial, ⟨⟨congrArg rzCut (funext fun _ => (bx_up_ne (by omega)).trans ((bx_up_ne (by omega)).trans ((bx_up_ne (by omega)).trans ((bx_up_ne (by omega)).trans ((bx_up_ne (by omega))))))), ((bx_up_ne (by omega)).trans ((bx_up_ne (by omega)).trans ((bx_up_ne (by omega)).trans ((bx_up_ne (by omega)).trans ((bx_up_ne (by omega))))))), ((bx_up_ne (by omega)).trans ((bx_up_ne (by omega)).trans ((bx_up_ne (by omega)).trans ((bx_up_ne (by omega)).trans ((bx_up_ne (by omega))))))), ((bx_up_ne (by omega)).trans ((bx_up_ne (by omega)).trans ((bx_up_ne (by omega)).trans ((bx_up_ne (by omega)).trans ((bx_up_ne (by omega)))))))⟩, (bx_up_ne (by omega)).trans ((bx_up_ne (by omega)).trans ((bx_up_ne (by omega)).trans ((bx_up_ne (by omega)).trans ((bx_up_ne (by omega)))))), (bx_up_ne (by omega)).trans ((bx_up_ne (by omega)).trans ((bx_up_ne (by omega)).trans ((bx_up_ne (by omega)).trans ((bx_up_ne (by omega)))))), ((bx_up_ne (by omega)).trans ((bx_up_ne (by omega)).trans ((bx_up_ne (by omega)).trans ((bx_up_ne (by omega)).trans (bx_up_at))))).trans (by omega), (bx_up_ne (by omega)).trans ((bx_up_ne (by omega)).trans ((bx_up_ne (by omega)).trans ((bx_up_ne (by omega)).trans ((bx_up_ne (by omega)))))), ?_, by omega⟩, by unfold rxmRPD_4 rxmRPD_5; omega⟩
  exact fun i i0 i1 => by
    by_cases hi : i = x11
    · subst hi
      rw [if_pos ⟨by omega, by omega⟩]
      exact bx_up_at
    · rw [if_neg (by omega)]
      exact (bx_up_ne (by omega)).trans ((bx_up_ne (by omega)).trans ((bx_up_ne (by omega)).trans ((bx_up_ne (by omega)).trans ((bx_up_ne (by omega))))))
theorem rxcRPD_4_2 {S0 : Nat → Int → Int} {ws : List Int} {S : Nat → Int → Int} {nm ix x10 x11 : Int} (hP : rxPRPD S0 ws) (hin : bx_same rxL (bx_mdl rxCRPD.2.2.1) S0 S) (I0 : bx_Inv rxL S) (hinv : rxIRPD_4 S0 ws S nm ix) (l8 : (-2147483648) ≤ nm) (u8 : nm ≤ 1000) (l9 : (-1) ≤ ix) (u9 : ix ≤ 7) (l10 : 0 ≤ x10) (u10 : x10 ≤ 399) (l11 : 9 ≤ x11) (u11 : x11 ≤ 2147483647) (e4 : S 427 0 = x10) (e0 : (bx_up (bx_up (bx_up S 428 x10 2) 429 x10 ix) 427 0 (x10 + 1)) 412 8 = x11) : (True) ∧ (True) ∧ rxIRPD_5 S0 ws (bx_up (bx_up (bx_up S 428 x10 2) 429 x10 ix) 427 0 (x10 + 1)) nm ∧ rxmRPD_5 S0 ws (bx_up (bx_up (bx_up S 428 x10 2) 429 x10 ix) 427 0 (x10 + 1)) nm < rxmRPD_4 S0 ws S nm ix := by
  obtain ⟨rfl, hn, hn1, hn2⟩ := hinv
  obtain ⟨hD, b0, b8, hp⟩ := hP
  have hb : S0 412 8 = x11 := (((bx_up_ne (by omega)).trans ((bx_up_ne (by omega)).trans ((bx_up_ne (by omega)).trans ((bx_up_ne (by omega)))))).symm.trans e0)
  refine ⟨trivial, trivial, ⟨⟨congrArg rzCut (funext fun _ => (bx_up_ne (by omega)).trans ((bx_up_ne (by omega)).trans ((bx_up_ne (by omega)).trans ((bx_up_ne (by omega)))))), ((bx_up_ne (by omega)).trans ((bx_up_ne (by omega)).trans ((bx_up_ne (by omega)).trans ((bx_up_ne (by omega)))))), ((bx_up_ne (by omega)).trans ((bx_up_ne (by omega)).trans ((bx_up_ne (by omega)).trans ((bx_up_ne (by omega)))))), ((bx_up_ne (by omega)).trans ((bx_up_ne (by omega)).trans ((bx_up_ne (by omega)).trans ((bx_up_ne (by omega))))))⟩, (bx_up_ne (by omega)).trans ((bx_up_ne (by omega)).trans ((bx_up_ne (by omega)).trans ((bx_up_ne (by omega))))), (bx_up_ne (by omega)).trans ((bx_up_ne (by omega)).trans ((bx_up_ne (by omega)).trans ((bx_up_ne (by omega))))), ((bx_up_ne (by omega)).trans ((bx_up_ne (by omega)).trans ((bx_up_ne (by omega)).trans (bx_up_at)))).trans (by omega), (bx_up_ne (by omega)).trans ((bx_up_ne (by omega)).trans ((bx_up_ne (by omega)).trans ((bx_up_ne (by omega))))), ?_, by omega⟩, by unfold rxmRPD_4 rxmRPD_5; omega⟩
  exact fun i i0 i1 => by
    rw [if_neg fun g => by
      obtain ⟨g1, g2⟩ := g
      rw [g1] at g2
      omega]
    exact (bx_up_ne (by omega)).trans ((bx_up_ne (by omega)).trans ((bx_up_ne (by omega)).trans ((bx_up_ne (by omega)))))
theorem rxcRPD_4_3 {S0 : Nat → Int → Int} {ws : List Int} {S : Nat → Int → Int} {nm ix x10 x11 : Int} (hP : rxPRPD S0 ws) (hin : bx_same rxL (bx_mdl rxCRPD.2.2.1) S0 S) (I0 : bx_Inv rxL S) (hinv : rxIRPD_4 S0 ws S nm ix) (l8 : (-2147483648) ≤ nm) (u8 : nm ≤ 1000) (l9 : (-1) ≤ ix) (u9 : ix ≤ 7) (l10 : 0 ≤ x10) (u10 : x10 ≤ 399) (l11 : (-2147483648) ≤ x11) (u11 : x11 ≤ (-1)) (e4 : S 427 0 = x10) (e0 : (bx_up (bx_up (bx_up S 428 x10 2) 429 x10 ix) 427 0 (x10 + 1)) 412 8 = x11) : (True) ∧ (True) ∧ rxIRPD_5 S0 ws (bx_up (bx_up (bx_up S 428 x10 2) 429 x10 ix) 427 0 (x10 + 1)) nm ∧ rxmRPD_5 S0 ws (bx_up (bx_up (bx_up S 428 x10 2) 429 x10 ix) 427 0 (x10 + 1)) nm < rxmRPD_4 S0 ws S nm ix := by
  obtain ⟨rfl, hn, hn1, hn2⟩ := hinv
  obtain ⟨hD, b0, b8, hp⟩ := hP
  have hb : S0 412 8 = x11 := (((bx_up_ne (by omega)).trans ((bx_up_ne (by omega)).trans ((bx_up_ne (by omega)).trans ((bx_up_ne (by omega)))))).symm.trans e0)
  refine ⟨trivial, trivial, ⟨⟨congrArg rzCut (funext fun _ => (bx_up_ne (by omega)).trans ((bx_up_ne (by omega)).trans ((bx_up_ne (by omega)).trans ((bx_up_ne (by omega)))))), ((bx_up_ne (by omega)).trans ((bx_up_ne (by omega)).trans ((bx_up_ne (by omega)).trans ((bx_up_ne (by omega)))))), ((bx_up_ne (by omega)).trans ((bx_up_ne (by omega)).trans ((bx_up_ne (by omega)).trans ((bx_up_ne (by omega)))))), ((bx_up_ne (by omega)).trans ((bx_up_ne (by omega)).trans ((bx_up_ne (by omega)).trans ((bx_up_ne (by omega))))))⟩, (bx_up_ne (by omega)).trans ((bx_up_ne (by omega)).trans ((bx_up_ne (by omega)).trans ((bx_up_ne (by omega))))), (bx_up_ne (by omega)).trans ((bx_up_ne (by omega)).trans ((bx_up_ne (by omega)).trans ((bx_up_ne (by omega))))), ((bx_up_ne (by omega)).trans ((bx_up_ne (by omega)).trans ((bx_up_ne (by omega)).trans (bx_up_at)))).trans (by omega), (bx_up_ne (by omega)).trans ((bx_up_ne (by omega)).trans ((bx_up_ne (by omega)).trans ((bx_up_ne (by omega))))), ?_, by omega⟩, by unfold rxmRPD_4 rxmRPD_5; omega⟩
  exact fun i i0 i1 => by
    rw [if_neg fun g => by
      obtain ⟨g1, g2⟩ := g
      rw [g1] at g2
      omega]
    exact (bx_up_ne (by omega)).trans ((bx_up_ne (by omega)).trans ((bx_up_ne (by omega)).trans ((bx_up_ne (by omega)))))
theorem rxcRPD_4_4 {S0 : Nat → Int → Int} {ws : List Int} {S : Nat → Int → Int} {nm ix x10 x11 x12 : Int} (hP : rxPRPD S0 ws) (hin : bx_same rxL (bx_mdl rxCRPD.2.2.1) S0 S) (I0 : bx_Inv rxL S) (hinv : rxIRPD_4 S0 ws S nm ix) (l8 : (-2147483648) ≤ nm) (u8 : nm ≤ 1000) (l9 : (-1) ≤ ix) (u9 : ix ≤ 7) (l10 : 400 ≤ x10) (u10 : x10 ≤ 400) (l11 : 0 ≤ x11) (u11 : x11 ≤ 8) (l12 : 0 ≤ x12) (u12 : x12 ≤ 4) (f0 : x12 ≠ 1) (e2 : S 427 0 = x10) (e1 : S 412 8 = x11) (e0 : S 424 x11 = x12) : (True) ∧ (True) ∧ rxIRPD_5 S0 ws S nm ∧ rxmRPD_5 S0 ws S nm < rxmRPD_4 S0 ws S nm ix := by
  obtain ⟨rfl, hn, hn1, hn2⟩ := hinv
  obtain ⟨hD, b0, b8, hp⟩ := hP
  have hb : S0 412 8 = x11 := (((bx_up_ne (by omega))).symm.trans e1)
  have hs : S0 424 x11 = x12 := (((bx_up_ne (by omega))).symm.trans e0)
  refine ⟨trivial, trivial, ⟨⟨congrArg rzCut (funext fun _ => (bx_up_ne (by omega))), ((bx_up_ne (by omega))), ((bx_up_ne (by omega))), ((bx_up_ne (by omega)))⟩, (bx_up_ne (by omega)), (bx_up_ne (by omega)), (bx_up_at).trans (by omega), (bx_up_ne (by omega)), ?_, by omega⟩, by unfold rxmRPD_4 rxmRPD_5; omega⟩
  exact fun i i0 i1 => by
    rw [if_neg fun g => by
      obtain ⟨g1, g2⟩ := g
      rw [g1, hb, hs] at g2
      omega]
    exact (bx_up_ne (by omega))
theorem rxcRPD_4_5 {S0 : Nat → Int → Int} {ws : List Int} {S : Nat → Int → Int} {nm ix x10 x11 x12 : Int} (hP : rxPRPD S0 ws) (hin : bx_same rxL (bx_mdl rxCRPD.2.2.1) S0 S) (I0 : bx_Inv rxL S) (hinv : rxIRPD_4 S0 ws S nm ix) (l8 : (-2147483648) ≤ nm) (u8 : nm ≤ 1000) (l9 : (-1) ≤ ix) (u9 : ix ≤ 7) (l10 : 400 ≤ x10) (u10 : x10 ≤ 400) (l11 : 0 ≤ x11) (u11 : x11 ≤ 8) (l12 : 1 ≤ x12) (u12 : x12 ≤ 1) (e3 : S 427 0 = x10) (e2 : S 412 8 = x11) (e1 : S 424 x11 = x12) : (True) ∧ (True) ∧ rxIRPD_5 S0 ws (bx_up S 424 x11 2) nm ∧ rxmRPD_5 S0 ws (bx_up S 424 x11 2) nm < rxmRPD_4 S0 ws S nm ix := by
  obtain ⟨rfl, hn, hn1, hn2⟩ := hinv
  obtain ⟨hD, b0, b8, hp⟩ := hP
  have hb : S0 412 8 = x11 := (((bx_up_ne (by omega))).symm.trans e2)
  have hs : S0 424 x11 = x12 := (((bx_up_ne (by omega))).symm.trans e1)
  refine ⟨trivial, trivial, ⟨⟨congrArg rzCut (funext fun _ => (bx_up_ne (by omega)).trans ((bx_up_ne (by omega)))), ((bx_up_ne (by omega)).trans ((bx_up_ne (by omega)))), ((bx_up_ne (by omega)).trans ((bx_up_ne (by omega)))), ((bx_up_ne (by omega)).trans ((bx_up_ne (by omega))))⟩, (bx_up_ne (by omega)).trans ((bx_up_ne (by omega))), (bx_up_ne (by omega)).trans ((bx_up_ne (by omega))), ((bx_up_ne (by omega)).trans (bx_up_at)).trans (by omega), (bx_up_ne (by omega)).trans ((bx_up_ne (by omega))), ?_, by omega⟩, by unfold rxmRPD_4 rxmRPD_5; omega⟩
  exact fun i i0 i1 => by
    by_cases hi : i = x11
    · subst hi
      rw [if_pos ⟨by omega, by omega⟩]
      exact bx_up_at
    · rw [if_neg (by omega)]
      exact (bx_up_ne (by omega)).trans ((bx_up_ne (by omega)))
theorem rxcRPD_4_6 {S0 : Nat → Int → Int} {ws : List Int} {S : Nat → Int → Int} {nm ix x10 x11 : Int} (hP : rxPRPD S0 ws) (hin : bx_same rxL (bx_mdl rxCRPD.2.2.1) S0 S) (I0 : bx_Inv rxL S) (hinv : rxIRPD_4 S0 ws S nm ix) (l8 : (-2147483648) ≤ nm) (u8 : nm ≤ 1000) (l9 : (-1) ≤ ix) (u9 : ix ≤ 7) (l10 : 400 ≤ x10) (u10 : x10 ≤ 400) (l11 : 9 ≤ x11) (u11 : x11 ≤ 2147483647) (e1 : S 427 0 = x10) (e0 : S 412 8 = x11) : (True) ∧ (True) ∧ rxIRPD_5 S0 ws S nm ∧ rxmRPD_5 S0 ws S nm < rxmRPD_4 S0 ws S nm ix := by
  obtain ⟨rfl, hn, hn1, hn2⟩ := hinv
  obtain ⟨hD, b0, b8, hp⟩ := hP
  have hb : S0 412 8 = x11 := (((bx_up_ne (by omega))).symm.trans e0)
  refine ⟨trivial, trivial, ⟨⟨congrArg rzCut (funext fun _ => (bx_up_ne (by omega))), ((bx_up_ne (by omega))), ((bx_up_ne (by omega))), ((bx_up_ne (by omega)))⟩, (bx_up_ne (by omega)), (bx_up_ne (by omega)), (bx_up_at).trans (by omega), (bx_up_ne (by omega)), ?_, by omega⟩, by unfold rxmRPD_4 rxmRPD_5; omega⟩
  exact fun i i0 i1 => by
    rw [if_neg fun g => by
      obtain ⟨g1, g2⟩ := g
      rw [g1] at g2
      omega]
    exact (bx_up_ne (by omega))
theorem rxcRPD_4_7 {S0 : Nat → Int → Int} {ws : List Int} {S : Nat → Int → Int} {nm ix x10 x11 : Int} (hP : rxPRPD S0 ws) (hin : bx_same rxL (bx_mdl rxCRPD.2.2.1) S0 S) (I0 : bx_Inv rxL S) (hinv : rxIRPD_4 S0 ws S nm ix) (l8 : (-2147483648) ≤ nm) (u8 : nm ≤ 1000) (l9 : (-1) ≤ ix) (u9 : ix ≤ 7) (l10 : 400 ≤ x10) (u10 : x10 ≤ 400) (l11 : (-2147483648) ≤ x11) (u11 : x11 ≤ (-1)) (e1 : S 427 0 = x10) (e0 : S 412 8 = x11) : (True) ∧ (True) ∧ rxIRPD_5 S0 ws S nm ∧ rxmRPD_5 S0 ws S nm < rxmRPD_4 S0 ws S nm ix := by
  obtain ⟨rfl, hn, hn1, hn2⟩ := hinv
  obtain ⟨hD, b0, b8, hp⟩ := hP
  have hb : S0 412 8 = x11 := (((bx_up_ne (by omega))).symm.trans e0)
  refine ⟨trivial, trivial, ⟨⟨congrArg rzCut (funext fun _ => (bx_up_ne (by omega))), ((bx_up_ne (by omega))), ((bx_up_ne (by omega))), ((bx_up_ne (by omega)))⟩, (bx_up_ne (by omega)), (bx_up_ne (by omega)), (bx_up_at).trans (by omega), (bx_up_ne (by omega)), ?_, by omega⟩, by unfold rxmRPD_4 rxmRPD_5; omega⟩
  exact fun i i0 i1 => by
    rw [if_neg fun g => by
      obtain ⟨g1, g2⟩ := g
      rw [g1] at g2
      omega]
    exact (bx_up_ne (by omega))
theorem rxdRPD_6_0 {S0 : Nat → Int → Int} {ws : List Int} {S : Nat → Int → Int} {nm : Int} (hP : rxPRPD S0 ws) (hin : bx_same rxL (bx_mdl rxCRPD.2.2.1) S0 S) (hin2 : bx_same rxL (bx_mdl rxCRPD.2.2.1) S S) (I0 : bx_Inv rxL S) (I1 : bx_Inv rxL S) (hinv : rxIRPD_6 S0 ws S nm) (l8 : (-2147483648) ≤ nm) (u8 : nm ≤ 1000) : (True) ∧ rxPSRPD S0 ws S (some 1) := by
  obtain ⟨h1, h2, h3, h4⟩ := hinv
  exact ⟨trivial, Or.inl ⟨rfl, h1, h2, h3, h4⟩⟩
noncomputable def rxCROD : bx_Ct := ([(3, (1, 412, 0))], some (0, (0, 0, 1)), [(7, 2), (7, 3), (7, 4), (7, 8), (7, 10), (1034, 0), (1035, 0), (1036, 0)], 5, [(412, 0, 3, (1, 411, 0)), (412, 6, 3, (1, 427, 0))])
noncomputable def rxIROD_0 (S0 : Nat → Int → Int) (ws : List Int) (S : Nat → Int → Int) : Prop := S = S0 ∧ ws = [412]
noncomputable def rxmROD_0 (S0 : Nat → Int → Int) (ws : List Int) (S : Nat → Int → Int) : Nat := 100
noncomputable def rxIROD_1 (S0 : Nat → Int → Int) (ws : List Int) (S : Nat → Int → Int) (ap ot : Int) : Prop := S = S0 ∧ ap = 1 ∧ S 424 (S 412 8) = 1 ∧ ot = (if rzSg (rzCut (S0 411)) (S0 412 1) 40 (S0 412 2) = true then 1 else 0)
noncomputable def rxmROD_1 (S0 : Nat → Int → Int) (ws : List Int) (S : Nat → Int → Int) (ap ot : Int) : Nat := 90
noncomputable def rxIROD_2 (S0 : Nat → Int → Int) (ws : List Int) (S : Nat → Int → Int) (ap ot r : Int) : Prop := S = S0 ∧ ap = 1 ∧ S 424 (S 412 8) = 1 ∧ ot = (if rzSg (rzCut (S0 411)) (S0 412 1) 40 (S0 412 2) = true then 1 else 0) ∧ r = (if rzIs (rzCut (S0 411)) (S0 412 1) rzW_not (S0 412 2) = true then 1 else 0)
noncomputable def rxmROD_2 (S0 : Nat → Int → Int) (ws : List Int) (S : Nat → Int → Int) (ap ot r : Int) : Nat := 80
noncomputable def rxIROD_3 (S0 : Nat → Int → Int) (ws : List Int) (S : Nat → Int → Int) (ap ot : Int) : Prop := rzKp S0 S ∧ S 412 2 = S0 412 2 ∧ S 412 3 = S0 412 3 ∧ S 412 7 = S0 412 7 ∧ 0 ≤ S 412 8 ∧ S 412 8 ≤ 8 ∧ rzStep (rzCut (S0 411)) (S0 412 1) (rzWs S0) (S0 412 2) (rzLv S0) false (S0 412 7) = (0, rzN (rzCut (S0 411)) (S0 412 1) (S0 412 2), rzLv S, false, S0 412 7)
noncomputable def rxmROD_3 (S0 : Nat → Int → Int) (ws : List Int) (S : Nat → Int → Int) (ap ot : Int) : Nat := 50
noncomputable def rxIROD_4 (S0 : Nat → Int → Int) (ws : List Int) (S : Nat → Int → Int) (ap ot : Int) : Prop := rzDt S ∧ rzStep (rzCut (S0 411)) (S0 412 1) (rzWs S0) (S0 412 2) (rzLv S0) false (S0 412 7) = (0, S 412 2, rzLv S, false, S 412 7) ∧ 0 ≤ S 412 8 ∧ S 412 8 ≤ 8 ∧ rzKp S0 S
noncomputable def rxmROD_4 (S0 : Nat → Int → Int) (ws : List Int) (S : Nat → Int → Int) (ap ot : Int) : Nat := 40
noncomputable def rxPROD (S0 : Nat → Int → Int) (ws : List Int) : Prop := rzDt S0 ∧ 0 ≤ S0 412 8 ∧ S0 412 8 ≤ 8 ∧ ¬ (rzDg (rzCut (S0 411)) (S0 412 1) (S0 412 2) = true ∨ 0 ≤ rzIxn (rzCut (S0 411)) (S0 412 1) (S0 412 2) (rzWs S0) 0)
noncomputable def rxPSROD (S0 : Nat → Int → Int) (ws : List Int) (S : Nat → Int → Int) (w : Option Int) : Prop := (w = some 1 ∧ rzDt S ∧ rzStep (rzCut (S0 411)) (S0 412 1) (rzWs S0) (S0 412 2) (rzLv S0) false (S0 412 7) = (0, S 412 2, rzLv S, false, S 412 7) ∧ 0 ≤ S 412 8 ∧ S 412 8 ≤ 8 ∧ rzKp S0 S) ∨ (w = some 0 ∧ rzStep (rzCut (S0 411)) (S0 412 1) (rzWs S0) (S0 412 2) (rzLv S0) false (S0 412 7) = (2, (S0 412 2), rzLv S0, false, S0 412 7) ∧ S 412 4 = (S0 412 2))
theorem rxkROD_1 {S0 : Nat → Int → Int} {ws : List Int} {S : Nat → Int → Int} {ap ot : Int} (hP : rxPROD S0 ws) (hin : bx_same rxL (bx_mdl rxCROD.2.2.1) S0 S) (I0 : bx_Inv rxL S) (hinv : rxIROD_1 S0 ws S ap ot) (l8 : 0 ≤ ap) (u8 : ap ≤ 1) (l9 : 0 ≤ ot) (u9 : ot ≤ 1) : rxPIWX S [412, 537] ∧ ∀ (S_p : Nat → Int → Int) (r : Int), 0 ≤ r → r ≤ 1 → rxPSIWX S [412, 537] S_p (some r) → bx_Inv rxL S_p → bx_same rxL (bx_mdl rxC59.2.2.1) S S_p → rxIROD_2 S0 ws S_p ap ot r ∧ rxmROD_2 S0 ws S_p ap ot r < rxmROD_1 S0 ws S ap ot := by
  obtain ⟨rfl, h1, h2, h3⟩ := hinv
  have hD := hP.1
  refine ⟨⟨rzDt.s3 hD, 537, rfl, by omega, by omega⟩, fun S_p r _ _ hq _ _ => ⟨?_, by unfold rxmROD_1 rxmROD_2; omega⟩⟩
  obtain ⟨rfl, k, hk, hr⟩ := hq
  have hk : (537 : Int) = k := Option.some.inj (congrArg (fun l : List Int => l[1]?) hk)
  subst hk
  have hr := Option.some.inj hr
  rw [hD.1] at hr
  exact ⟨rfl, h1, h2, h3, hr⟩
theorem rxkROD_3 {S0 : Nat → Int → Int} {ws : List Int} {S : Nat → Int → Int} {ap ot : Int} (hP : rxPROD S0 ws) (hin : bx_same rxL (bx_mdl rxCROD.2.2.1) S0 S) (I0 : bx_Inv rxL S) (hinv : rxIROD_3 S0 ws S ap ot) (l8 : 0 ≤ ap) (u8 : ap ≤ 1) (l9 : 0 ≤ ot) (u9 : ot ≤ 1) : rxPAD S [412] ∧ ∀ (S_p : Nat → Int → Int), rxPSAD S [412] S_p none → bx_Inv rxL S_p → bx_same rxL (bx_mdl rxC84.2.2.1) S S_p → rxIROD_4 S0 ws S_p ap ot ∧ rxmROD_4 S0 ws S_p ap ot < rxmROD_3 S0 ws S ap ot := by
  obtain ⟨hk, h2, h3, h7, c0, c8, hst⟩ := hinv
  have hD := hP.1
  refine ⟨trivial, fun S_p hq _ hsm => ⟨?_, by unfold rxmROD_3 rxmROD_4; omega⟩⟩
  obtain ⟨-, q2, q3⟩ := hq
  have h := rzDt_ad (rzDt_kp hD hk h2 h3) (rzKp_of hsm (by decide +kernel) (by decide +kernel) (by decide +kernel) (by decide +kernel)) q2 q3
  have f7 : S_p 412 7 = S 412 7 := hsm 412 7 (by decide) (by decide) (by decide +kernel)
  have f8 : S_p 412 8 = S 412 8 := hsm 412 8 (by decide) (by decide) (by decide +kernel)
  have ft := rz_fd hsm (p := 424) (n := 9) (c := 1034) (k := 0) (by decide +kernel) (by decide) (by decide +kernel)
  have hl : rzLv S_p = rzLv S := (rzLv_set c0 f8 (ft _ c0 (by omega)) fun j a c => ft j a (by omega)).trans (rzLv_eq c0).symm
  refine ⟨h.1, ?_, by omega, by omega, hk.tr (rzKp_of hsm (by decide +kernel) (by decide +kernel) (by decide +kernel) (by decide +kernel))⟩
  rw [hst, hl, f7, h7, h.2, hk.1, hk.2.1, h2]
theorem rxcROD_0_0 {S0 : Nat → Int → Int} {ws : List Int} {S : Nat → Int → Int} {x8 x9 x10 x11 x12 : Int} (hP : rxPROD S0 ws) (hin : bx_same rxL (bx_mdl rxCROD.2.2.1) S0 S) (I0 : bx_Inv rxL S) (hinv : rxIROD_0 S0 ws S) (l8 : (-2147483648) ≤ x8) (u8 : x8 ≤ (-2)) (l9 : 0 ≤ x9) (u9 : x9 ≤ 399) (l10 : 1 ≤ x10) (u10 : x10 ≤ 400) (l11 : 91 ≤ x11) (u11 : x11 ≤ 91) (l12 : 0 ≤ x12) (u12 : x12 ≤ 399) (f0 : x9 < x10) (e8 : S 412 8 = x8) (e7 : S 412 2 = x9) (e6 : S 412 1 = x10) (e5 : S 411 x9 = x11) (e4 : S 412 10 = x12) : (True) ∧ (True) ∧ rxIROD_3 S0 ws (bx_up (bx_up (bx_up (bx_up S 425 x12 0) 426 x12 ((-1))) 412 10 (x12 + 1)) 412 8 (x8 + 1)) 0 0 ∧ rxmROD_3 S0 ws (bx_up (bx_up (bx_up (bx_up S 425 x12 0) 426 x12 ((-1))) 412 10 (x12 + 1)) 412 8 (x8 + 1)) 0 0 < rxmROD_0 S0 ws S := by
  obtain ⟨rfl, hw⟩ := hinv
  obtain ⟨hD, b0, b8, hp⟩ := (show rzDt S ∧ 0 ≤ S 412 8 ∧ S 412 8 ≤ 8 ∧ _ from hP)
  have hb : S 412 8 = x8 := e8
  have qe5 : rzCut (S 411) (S 412 2) = x11 := by
    rw [e7]
    exact rzCut_at (e5) (by omega) (by omega)
  exfalso
  omega
theorem rxcROD_0_1 {S0 : Nat → Int → Int} {ws : List Int} {S : Nat → Int → Int} {x8 x9 x10 x11 x12 : Int} (hP : rxPROD S0 ws) (hin : bx_same rxL (bx_mdl rxCROD.2.2.1) S0 S) (I0 : bx_Inv rxL S) (hinv : rxIROD_0 S0 ws S) (l8 : (-1) ≤ x8) (u8 : x8 ≤ (-1)) (l9 : 0 ≤ x9) (u9 : x9 ≤ 399) (l10 : 1 ≤ x10) (u10 : x10 ≤ 400) (l11 : 91 ≤ x11) (u11 : x11 ≤ 91) (l12 : 0 ≤ x12) (u12 : x12 ≤ 399) (f0 : x9 < x10) (e9 : S 412 8 = x8) (e8 : S 412 2 = x9) (e7 : S 412 1 = x10) (e6 : S 411 x9 = x11) (e5 : S 412 10 = x12) : (True) ∧ (True) ∧ rxIROD_3 S0 ws (bx_up (bx_up (bx_up (bx_up (bx_up S 425 x12 0) 426 x12 ((-1))) 412 10 (x12 + 1)) 412 8 (x8 + 1)) 424 (x8 + 1) 0) 0 0 ∧ rxmROD_3 S0 ws (bx_up (bx_up (bx_up (bx_up (bx_up S 425 x12 0) 426 x12 ((-1))) 412 10 (x12 + 1)) 412 8 (x8 + 1)) 424 (x8 + 1) 0) 0 0 < rxmROD_0 S0 ws S := by
  obtain ⟨rfl, hw⟩ := hinv
  obtain ⟨hD, b0, b8, hp⟩ := (show rzDt S ∧ 0 ≤ S 412 8 ∧ S 412 8 ≤ 8 ∧ _ from hP)
  have hb : S 412 8 = x8 := e9
  have qe6 : rzCut (S 411) (S 412 2) = x11 := by
    rw [e8]
    exact rzCut_at (e6) (by omega) (by omega)
  exfalso
  omega
theorem rxcROD_0_2 {S0 : Nat → Int → Int} {ws : List Int} {S : Nat → Int → Int} {x8 x9 x10 x11 x12 : Int} (hP : rxPROD S0 ws) (hin : bx_same rxL (bx_mdl rxCROD.2.2.1) S0 S) (I0 : bx_Inv rxL S) (hinv : rxIROD_0 S0 ws S) (l8 : (-2147483648) ≤ x8) (u8 : x8 ≤ (-2)) (l9 : 0 ≤ x9) (u9 : x9 ≤ 399) (l10 : 1 ≤ x10) (u10 : x10 ≤ 400) (l11 : 91 ≤ x11) (u11 : x11 ≤ 91) (l12 : 400 ≤ x12) (u12 : x12 ≤ 400) (f0 : x9 < x10) (e5 : S 412 8 = x8) (e4 : S 412 2 = x9) (e3 : S 412 1 = x10) (e2 : S 411 x9 = x11) (e1 : S 412 10 = x12) : (True) ∧ (True) ∧ rxIROD_3 S0 ws (bx_up S 412 8 (x8 + 1)) 0 0 ∧ rxmROD_3 S0 ws (bx_up S 412 8 (x8 + 1)) 0 0 < rxmROD_0 S0 ws S := by
  obtain ⟨rfl, hw⟩ := hinv
  obtain ⟨hD, b0, b8, hp⟩ := (show rzDt S ∧ 0 ≤ S 412 8 ∧ S 412 8 ≤ 8 ∧ _ from hP)
  have hb : S 412 8 = x8 := e5
  have qe2 : rzCut (S 411) (S 412 2) = x11 := by
    rw [e4]
    exact rzCut_at (e2) (by omega) (by omega)
  exfalso
  omega
theorem rxcROD_0_3 {S0 : Nat → Int → Int} {ws : List Int} {S : Nat → Int → Int} {x8 x9 x10 x11 x12 : Int} (hP : rxPROD S0 ws) (hin : bx_same rxL (bx_mdl rxCROD.2.2.1) S0 S) (I0 : bx_Inv rxL S) (hinv : rxIROD_0 S0 ws S) (l8 : (-1) ≤ x8) (u8 : x8 ≤ (-1)) (l9 : 0 ≤ x9) (u9 : x9 ≤ 399) (l10 : 1 ≤ x10) (u10 : x10 ≤ 400) (l11 : 91 ≤ x11) (u11 : x11 ≤ 91) (l12 : 400 ≤ x12) (u12 : x12 ≤ 400) (f0 : x9 < x10) (e6 : S 412 8 = x8) (e5 : S 412 2 = x9) (e4 : S 412 1 = x10) (e3 : S 411 x9 = x11) (e2 : S 412 10 = x12) : (True) ∧ (True) ∧ rxIROD_3 S0 ws (bx_up (bx_up S 412 8 (x8 + 1)) 424 (x8 + 1) 0) 0 0 ∧ rxmROD_3 S0 ws (bx_up (bx_up S 412 8 (x8 + 1)) 424 (x8 + 1) 0) 0 0 < rxmROD_0 S0 ws S := by
  obtain ⟨rfl, hw⟩ := hinv
  obtain ⟨hD, b0, b8, hp⟩ := (show rzDt S ∧ 0 ≤ S 412 8 ∧ S 412 8 ≤ 8 ∧ _ from hP)
  have hb : S 412 8 = x8 := e6
  have qe3 : rzCut (S 411) (S 412 2) = x11 := by
    rw [e5]
    exact rzCut_at (e3) (by omega) (by omega)
  exfalso
  omega
theorem rxcROD_0_4 {S0 : Nat → Int → Int} {ws : List Int} {S : Nat → Int → Int} {x8 x9 x10 x11 : Int} (hP : rxPROD S0 ws) (hin : bx_same rxL (bx_mdl rxCROD.2.2.1) S0 S) (I0 : bx_Inv rxL S) (hinv : rxIROD_0 S0 ws S) (l8 : 0 ≤ x8) (u8 : x8 ≤ 8) (l9 : 1 ≤ x9) (u9 : x9 ≤ 1) (l10 : 0 ≤ x10) (u10 : x10 ≤ 400) (l11 : 0 ≤ x11) (u11 : x11 ≤ 400) (f0 : x11 ≤ x10) (e3 : S 412 8 = x8) (e2 : S 424 x8 = x9) (e1 : S 412 2 = x10) (e0 : S 412 1 = x11) : (True) ∧ (True) ∧ rxIROD_1 S0 ws S 1 0 ∧ rxmROD_1 S0 ws S 1 0 < rxmROD_0 S0 ws S := by
  obtain ⟨rfl, hw⟩ := hinv
  obtain ⟨hD, b0, b8, hp⟩ := (show rzDt S ∧ 0 ≤ S 412 8 ∧ S 412 8 ≤ 8 ∧ _ from hP)
  have hb : S 412 8 = x8 := e3
  have hs0 : S 424 (S 412 8) = x9 := by
    rw [hb]
    exact e2
  refine ⟨trivial, trivial, ⟨rfl, rfl, by omega, ?_⟩, by unfold rxmROD_0 rxmROD_1; omega⟩
  exact (if_neg (fun g => by obtain ⟨ga, gb⟩ := (show decide (_ ∧ _) = true from g) |> of_decide_eq_true; omega)).symm
theorem rxcROD_0_5 {S0 : Nat → Int → Int} {ws : List Int} {S : Nat → Int → Int} {x8 x9 x10 x11 x12 : Int} (hP : rxPROD S0 ws) (hin : bx_same rxL (bx_mdl rxCROD.2.2.1) S0 S) (I0 : bx_Inv rxL S) (hinv : rxIROD_0 S0 ws S) (l8 : 0 ≤ x8) (u8 : x8 ≤ 8) (l9 : 1 ≤ x9) (u9 : x9 ≤ 1) (l10 : 0 ≤ x10) (u10 : x10 ≤ 399) (l11 : 1 ≤ x11) (u11 : x11 ≤ 400) (l12 : 0 ≤ x12) (u12 : x12 ≤ 255) (f0 : x12 ≠ 40) (f1 : x10 < x11) (e4 : S 412 8 = x8) (e3 : S 424 x8 = x9) (e2 : S 412 2 = x10) (e1 : S 412 1 = x11) (e0 : S 411 x10 = x12) : (True) ∧ (True) ∧ rxIROD_1 S0 ws S 1 0 ∧ rxmROD_1 S0 ws S 1 0 < rxmROD_0 S0 ws S := by
  obtain ⟨rfl, hw⟩ := hinv
  obtain ⟨hD, b0, b8, hp⟩ := (show rzDt S ∧ 0 ≤ S 412 8 ∧ S 412 8 ≤ 8 ∧ _ from hP)
  have hb : S 412 8 = x8 := e4
  have hs0 : S 424 (S 412 8) = x9 := by
    rw [hb]
    exact e3
  have qe0 : rzCut (S 411) (S 412 2) = x12 := by
    rw [e2]
    exact rzCut_at (e0) (by omega) (by omega)
  refine ⟨trivial, trivial, ⟨rfl, rfl, by omega, ?_⟩, by unfold rxmROD_0 rxmROD_1; omega⟩
  exact (if_neg (fun g => by obtain ⟨ga, gb⟩ := (show decide (_ ∧ _) = true from g) |> of_decide_eq_true; omega)).symm
theorem rxcROD_0_6 {S0 : Nat → Int → Int} {ws : List Int} {S : Nat → Int → Int} {x8 x9 x10 x11 x12 : Int} (hP : rxPROD S0 ws) (hin : bx_same rxL (bx_mdl rxCROD.2.2.1) S0 S) (I0 : bx_Inv rxL S) (hinv : rxIROD_0 S0 ws S) (l8 : 0 ≤ x8) (u8 : x8 ≤ 8) (l9 : 1 ≤ x9) (u9 : x9 ≤ 1) (l10 : 0 ≤ x10) (u10 : x10 ≤ 399) (l11 : 1 ≤ x11) (u11 : x11 ≤ 400) (l12 : 40 ≤ x12) (u12 : x12 ≤ 40) (f0 : x10 < x11) (e4 : S 412 8 = x8) (e3 : S 424 x8 = x9) (e2 : S 412 2 = x10) (e1 : S 412 1 = x11) (e0 : S 411 x10 = x12) : (True) ∧ (True) ∧ rxIROD_1 S0 ws S 1 1 ∧ rxmROD_1 S0 ws S 1 1 < rxmROD_0 S0 ws S := by
  obtain ⟨rfl, hw⟩ := hinv
  obtain ⟨hD, b0, b8, hp⟩ := (show rzDt S ∧ 0 ≤ S 412 8 ∧ S 412 8 ≤ 8 ∧ _ from hP)
  have hb : S 412 8 = x8 := e4
  have hs0 : S 424 (S 412 8) = x9 := by
    rw [hb]
    exact e3
  have qe0 : rzCut (S 411) (S 412 2) = x12 := by
    rw [e2]
    exact rzCut_at (e0) (by omega) (by omega)
  refine ⟨trivial, trivial, ⟨rfl, rfl, by omega, ?_⟩, by unfold rxmROD_0 rxmROD_1; omega⟩
  exact (if_pos (decide_eq_true ⟨by omega, by omega⟩)).symm
theorem rxcROD_0_7 {S0 : Nat → Int → Int} {ws : List Int} {S : Nat → Int → Int} {x8 x9 x10 x11 x12 x13 x14 : Int} (hP : rxPROD S0 ws) (hin : bx_same rxL (bx_mdl rxCROD.2.2.1) S0 S) (I0 : bx_Inv rxL S) (hinv : rxIROD_0 S0 ws S) (l8 : 0 ≤ x8) (u8 : x8 ≤ 7) (l9 : 0 ≤ x9) (u9 : x9 ≤ 4) (l10 : 0 ≤ x10) (u10 : x10 ≤ 399) (l11 : 1 ≤ x11) (u11 : x11 ≤ 400) (l12 : 91 ≤ x12) (u12 : x12 ≤ 91) (l13 : 0 ≤ x13) (u13 : x13 ≤ 4) (l14 : 0 ≤ x14) (u14 : x14 ≤ 399) (f0 : x13 ≠ 1) (f1 : x10 < x11) (f2 : x9 ≠ 1) (e11 : S 412 8 = x8) (e10 : S 424 x8 = x9) (e9 : S 412 2 = x10) (e8 : S 412 1 = x11) (e7 : S 411 x10 = x12) (e6 : S 424 x8 = x13) (e5 : S 412 10 = x14) : (True) ∧ (True) ∧ rxIROD_3 S0 ws (bx_up (bx_up (bx_up (bx_up (bx_up S 425 x14 0) 426 x14 ((-1))) 412 10 (x14 + 1)) 412 8 (x8 + 1)) 424 (x8 + 1) 0) 0 0 ∧ rxmROD_3 S0 ws (bx_up (bx_up (bx_up (bx_up (bx_up S 425 x14 0) 426 x14 ((-1))) 412 10 (x14 + 1)) 412 8 (x8 + 1)) 424 (x8 + 1) 0) 0 0 < rxmROD_0 S0 ws S := by
  obtain ⟨rfl, hw⟩ := hinv
  obtain ⟨hD, b0, b8, hp⟩ := (show rzDt S ∧ 0 ≤ S 412 8 ∧ S 412 8 ≤ 8 ∧ _ from hP)
  have hb : S 412 8 = x8 := e11
  have hs0 : S 424 (S 412 8) = x9 := by
    rw [hb]
    exact e10
  have hs1 : S 424 (S 412 8) = x13 := by
    rw [hb]
    exact e6
  have qe7 : rzCut (S 411) (S 412 2) = x12 := by
    rw [e9]
    exact rzCut_at (e7) (by omega) (by omega)
  have e8 : (bx_up (bx_up (bx_up (bx_up (bx_up S 425 x14 0) 426 x14 (-1)) 412 10 (x14 + 1)) 412 8 (x8 + 1)) 424 (x8 + 1) 0) 412 8 = S 412 8 + 1 := ((bx_up_ne (by omega)).trans (bx_up_at)).trans (by omega)
  refine ⟨trivial, trivial, ⟨⟨congrArg rzCut (funext fun _ => (bx_up_ne (by omega)).trans ((bx_up_ne (by omega)).trans ((bx_up_ne (by omega)).trans ((bx_up_ne (by omega)).trans ((bx_up_ne (by omega))))))), ((bx_up_ne (by omega)).trans ((bx_up_ne (by omega)).trans ((bx_up_ne (by omega)).trans ((bx_up_ne (by omega)).trans ((bx_up_ne (by omega))))))), ((bx_up_ne (by omega)).trans ((bx_up_ne (by omega)).trans ((bx_up_ne (by omega)).trans ((bx_up_ne (by omega)).trans ((bx_up_ne (by omega))))))), ((bx_up_ne (by omega)).trans ((bx_up_ne (by omega)).trans ((bx_up_ne (by omega)).trans ((bx_up_ne (by omega)).trans ((bx_up_ne (by omega)))))))⟩, (bx_up_ne (by omega)).trans ((bx_up_ne (by omega)).trans ((bx_up_ne (by omega)).trans ((bx_up_ne (by omega)).trans ((bx_up_ne (by omega)))))), (bx_up_ne (by omega)).trans ((bx_up_ne (by omega)).trans ((bx_up_ne (by omega)).trans ((bx_up_ne (by omega)).trans ((bx_up_ne (by omega)))))), (bx_up_ne (by omega)).trans ((bx_up_ne (by omega)).trans ((bx_up_ne (by omega)).trans ((bx_up_ne (by omega)).trans ((bx_up_ne (by omega)))))), by omega, by omega, ?_⟩, by unfold rxmROD_0 rxmROD_3; omega⟩
  have g91 : rzSg (rzCut (S 411)) (S 412 1) 91 (S 412 2) = true := decide_eq_true ⟨by omega, by omega⟩
  have hl : rzLv (bx_up (bx_up (bx_up (bx_up (bx_up S 425 x14 0) 426 x14 (-1)) 412 10 (x14 + 1)) 412 8 (x8 + 1)) 424 (x8 + 1) 0) = 0 :: S 424 (S 412 8) :: rzLq S := rzLv_open b0 (((bx_up_ne (by omega)).trans (bx_up_at)).trans (by omega)) (show (bx_up (bx_up (bx_up (bx_up (bx_up S 425 x14 0) 426 x14 (-1)) 412 10 (x14 + 1)) 412 8 (x8 + 1)) 424 (x8 + 1) 0) 424 (S 412 8 + 1) = 0 from by rw [hb]; exact bx_up_at) ((bx_up_ne (by omega)).trans ((bx_up_ne (by omega)).trans ((bx_up_ne (by omega)).trans ((bx_up_ne (by omega)).trans ((bx_up_ne (by omega))))))) fun j a c => (bx_up_ne (by omega)).trans ((bx_up_ne (by omega)).trans ((bx_up_ne (by omega)).trans ((bx_up_ne (by omega)).trans ((bx_up_ne (by omega))))))
  rw [rzLv_eq b0, rzStep_0, if_neg hp, if_neg (fun g => by have := g.1; omega), if_neg (fun g => by have := g.1; omega), if_pos g91, if_pos (by rw [rzLq_len]; omega), hl, if_neg (by omega)]
theorem rxcROD_0_8 {S0 : Nat → Int → Int} {ws : List Int} {S : Nat → Int → Int} {x8 x9 x10 x11 x12 x13 x14 : Int} (hP : rxPROD S0 ws) (hin : bx_same rxL (bx_mdl rxCROD.2.2.1) S0 S) (I0 : bx_Inv rxL S) (hinv : rxIROD_0 S0 ws S) (l8 : 0 ≤ x8) (u8 : x8 ≤ 7) (l9 : 0 ≤ x9) (u9 : x9 ≤ 4) (l10 : 0 ≤ x10) (u10 : x10 ≤ 399) (l11 : 1 ≤ x11) (u11 : x11 ≤ 400) (l12 : 91 ≤ x12) (u12 : x12 ≤ 91) (l13 : 0 ≤ x13) (u13 : x13 ≤ 4) (l14 : 400 ≤ x14) (u14 : x14 ≤ 400) (f0 : x13 ≠ 1) (f1 : x10 < x11) (f2 : x9 ≠ 1) (e8 : S 412 8 = x8) (e7 : S 424 x8 = x9) (e6 : S 412 2 = x10) (e5 : S 412 1 = x11) (e4 : S 411 x10 = x12) (e3 : S 424 x8 = x13) (e2 : S 412 10 = x14) : (True) ∧ (True) ∧ rxIROD_3 S0 ws (bx_up (bx_up S 412 8 (x8 + 1)) 424 (x8 + 1) 0) 0 0 ∧ rxmROD_3 S0 ws (bx_up (bx_up S 412 8 (x8 + 1)) 424 (x8 + 1) 0) 0 0 < rxmROD_0 S0 ws S := by
  obtain ⟨rfl, hw⟩ := hinv
  obtain ⟨hD, b0, b8, hp⟩ := (show rzDt S ∧ 0 ≤ S 412 8 ∧ S 412 8 ≤ 8 ∧ _ from hP)
  have hb : S 412 8 = x8 := e8
  have hs0 : S 424 (S 412 8) = x9 := by
    rw [hb]
    exact e7
  have hs1 : S 424 (S 412 8) = x13 := by
    rw [hb]
    exact e3
  have qe4 : rzCut (S 411) (S 412 2) = x12 := by
    rw [e6]
    exact rzCut_at (e4) (by omega) (by omega)
  have e8 : (bx_up (bx_up S 412 8 (x8 + 1)) 424 (x8 + 1) 0) 412 8 = S 412 8 + 1 := ((bx_up_ne (by omega)).trans (bx_up_at)).trans (by omega)
  refine ⟨trivial, trivial, ⟨⟨congrArg rzCut (funext fun _ => (bx_up_ne (by omega)).trans ((bx_up_ne (by omega)))), ((bx_up_ne (by omega)).trans ((bx_up_ne (by omega)))), ((bx_up_ne (by omega)).trans ((bx_up_ne (by omega)))), ((bx_up_ne (by omega)).trans ((bx_up_ne (by omega))))⟩, (bx_up_ne (by omega)).trans ((bx_up_ne (by omega))), (bx_up_ne (by omega)).trans ((bx_up_ne (by omega))), (bx_up_ne (by omega)).trans ((bx_up_ne (by omega))), by omega, by omega, ?_⟩, by unfold rxmROD_0 rxmROD_3; omega⟩
  have g91 : rzSg (rzCut (S 411)) (S 412 1) 91 (S 412 2) = true := decide_eq_true ⟨by omega, by omega⟩
  have hl : rzLv (bx_up (bx_up S 412 8 (x8 + 1)) 424 (x8 + 1) 0) = 0 :: S 424 (S 412 8) :: rzLq S := rzLv_open b0 (((bx_up_ne (by omega)).trans (bx_up_at)).trans (by omega)) (show (bx_up (bx_up S 412 8 (x8 + 1)) 424 (x8 + 1) 0) 424 (S 412 8 + 1) = 0 from by rw [hb]; exact bx_up_at) ((bx_up_ne (by omega)).trans ((bx_up_ne (by omega)))) fun j a c => (bx_up_ne (by omega)).trans ((bx_up_ne (by omega)))
  rw [rzLv_eq b0, rzStep_0, if_neg hp, if_neg (fun g => by have := g.1; omega), if_neg (fun g => by have := g.1; omega), if_pos g91, if_pos (by rw [rzLq_len]; omega), hl, if_neg (by omega)]
theorem rxcROD_0_9 {S0 : Nat → Int → Int} {ws : List Int} {S : Nat → Int → Int} {x8 x9 x10 x11 x12 x13 x14 : Int} (hP : rxPROD S0 ws) (hin : bx_same rxL (bx_mdl rxCROD.2.2.1) S0 S) (I0 : bx_Inv rxL S) (hinv : rxIROD_0 S0 ws S) (l8 : 0 ≤ x8) (u8 : x8 ≤ 7) (l9 : 0 ≤ x9) (u9 : x9 ≤ 4) (l10 : 0 ≤ x10) (u10 : x10 ≤ 399) (l11 : 1 ≤ x11) (u11 : x11 ≤ 400) (l12 : 91 ≤ x12) (u12 : x12 ≤ 91) (l13 : 1 ≤ x13) (u13 : x13 ≤ 1) (l14 : 0 ≤ x14) (u14 : x14 ≤ 399) (f0 : x10 < x11) (f1 : x9 ≠ 1) (e12 : S 412 8 = x8) (e11 : S 424 x8 = x9) (e10 : S 412 2 = x10) (e9 : S 412 1 = x11) (e8 : S 411 x10 = x12) (e7 : S 424 x8 = x13) (e5 : (bx_up S 424 x8 2) 412 10 = x14) : (True) ∧ (True) ∧ rxIROD_3 S0 ws (bx_up (bx_up (bx_up (bx_up (bx_up (bx_up S 424 x8 2) 425 x14 0) 426 x14 ((-1))) 412 10 (x14 + 1)) 412 8 (x8 + 1)) 424 (x8 + 1) 0) 0 0 ∧ rxmROD_3 S0 ws (bx_up (bx_up (bx_up (bx_up (bx_up (bx_up S 424 x8 2) 425 x14 0) 426 x14 ((-1))) 412 10 (x14 + 1)) 412 8 (x8 + 1)) 424 (x8 + 1) 0) 0 0 < rxmROD_0 S0 ws S := by
  obtain ⟨rfl, hw⟩ := hinv
  obtain ⟨hD, b0, b8, hp⟩ := (show rzDt S ∧ 0 ≤ S 412 8 ∧ S 412 8 ≤ 8 ∧ _ from hP)
  have hb : S 412 8 = x8 := e12
  have hs0 : S 424 (S 412 8) = x9 := by
    rw [hb]
    exact e11
  have hs1 : S 424 (S 412 8) = x13 := by
    rw [hb]
    exact e7
  have qe8 : rzCut (S 411) (S 412 2) = x12 := by
    rw [e10]
    exact rzCut_at (e8) (by omega) (by omega)
  exfalso
  omega
theorem rxcROD_0_10 {S0 : Nat → Int → Int} {ws : List Int} {S : Nat → Int → Int} {x8 x9 x10 x11 x12 x13 x14 : Int} (hP : rxPROD S0 ws) (hin : bx_same rxL (bx_mdl rxCROD.2.2.1) S0 S) (I0 : bx_Inv rxL S) (hinv : rxIROD_0 S0 ws S) (l8 : 0 ≤ x8) (u8 : x8 ≤ 7) (l9 : 0 ≤ x9) (u9 : x9 ≤ 4) (l10 : 0 ≤ x10) (u10 : x10 ≤ 399) (l11 : 1 ≤ x11) (u11 : x11 ≤ 400) (l12 : 91 ≤ x12) (u12 : x12 ≤ 91) (l13 : 1 ≤ x13) (u13 : x13 ≤ 1) (l14 : 400 ≤ x14) (u14 : x14 ≤ 400) (f0 : x10 < x11) (f1 : x9 ≠ 1) (e9 : S 412 8 = x8) (e8 : S 424 x8 = x9) (e7 : S 412 2 = x10) (e6 : S 412 1 = x11) (e5 : S 411 x10 = x12) (e4 : S 424 x8 = x13) (e2 : (bx_up S 424 x8 2) 412 10 = x14) : (True) ∧ (True) ∧ rxIROD_3 S0 ws (bx_up (bx_up (bx_up S 424 x8 2) 412 8 (x8 + 1)) 424 (x8 + 1) 0) 0 0 ∧ rxmROD_3 S0 ws (bx_up (bx_up (bx_up S 424 x8 2) 412 8 (x8 + 1)) 424 (x8 + 1) 0) 0 0 < rxmROD_0 S0 ws S := by
  obtain ⟨rfl, hw⟩ := hinv
  obtain ⟨hD, b0, b8, hp⟩ := (show rzDt S ∧ 0 ≤ S 412 8 ∧ S 412 8 ≤ 8 ∧ _ from hP)
  have hb : S 412 8 = x8 := e9
  have hs0 : S 424 (S 412 8) = x9 := by
    rw [hb]
    exact e8
  have hs1 : S 424 (S 412 8) = x13 := by
    rw [hb]
    exact e4
  have qe5 : rzCut (S 411) (S 412 2) = x12 := by
    rw [e7]
    exact rzCut_at (e5) (by omega) (by omega)
  exfalso
  omega
theorem rxdROD_0_0 {S0 : Nat → Int → Int} {ws : List Int} {S : Nat → Int → Int} {x8 x9 x10 : Int} (hP : rxPROD S0 ws) (hin : bx_same rxL (bx_mdl rxCROD.2.2.1) S0 S) (hin2 : bx_same rxL (bx_mdl rxCROD.2.2.1) S (bx_up S 412 4 x9)) (I0 : bx_Inv rxL S) (I1 : bx_Inv rxL (bx_up S 412 4 x9)) (hinv : rxIROD_0 S0 ws S) (l8 : (-2147483648) ≤ x8) (u8 : x8 ≤ (-1)) (l9 : 0 ≤ x9) (u9 : x9 ≤ 400) (l10 : 0 ≤ x10) (u10 : x10 ≤ 400) (f0 : x10 ≤ x9) (e3 : S 412 8 = x8) (e2 : S 412 2 = x9) (e1 : S 412 1 = x10) : (True) ∧ rxPSROD S0 ws (bx_up S 412 4 x9) (some 0) := by
  obtain ⟨rfl, hw⟩ := hinv
  obtain ⟨hD, b0, b8, hp⟩ := (show rzDt S ∧ 0 ≤ S 412 8 ∧ S 412 8 ≤ 8 ∧ _ from hP)
  have hb : S 412 8 = x8 := e3
  exfalso
  omega
theorem rxdROD_0_1 {S0 : Nat → Int → Int} {ws : List Int} {S : Nat → Int → Int} {x8 x9 x10 x11 : Int} (hP : rxPROD S0 ws) (hin : bx_same rxL (bx_mdl rxCROD.2.2.1) S0 S) (hin2 : bx_same rxL (bx_mdl rxCROD.2.2.1) S (bx_up S 412 4 x9)) (I0 : bx_Inv rxL S) (I1 : bx_Inv rxL (bx_up S 412 4 x9)) (hinv : rxIROD_0 S0 ws S) (l8 : (-2147483648) ≤ x8) (u8 : x8 ≤ (-1)) (l9 : 0 ≤ x9) (u9 : x9 ≤ 399) (l10 : 1 ≤ x10) (u10 : x10 ≤ 400) (l11 : 0 ≤ x11) (u11 : x11 ≤ 255) (f0 : x11 ≠ 91) (f1 : x9 < x10) (e4 : S 412 8 = x8) (e3 : S 412 2 = x9) (e2 : S 412 1 = x10) (e1 : S 411 x9 = x11) : (True) ∧ rxPSROD S0 ws (bx_up S 412 4 x9) (some 0) := by
  obtain ⟨rfl, hw⟩ := hinv
  obtain ⟨hD, b0, b8, hp⟩ := (show rzDt S ∧ 0 ≤ S 412 8 ∧ S 412 8 ≤ 8 ∧ _ from hP)
  have hb : S 412 8 = x8 := e4
  have qe1 : rzCut (S 411) (S 412 2) = x11 := by
    rw [e3]
    exact rzCut_at (e1) (by omega) (by omega)
  exfalso
  omega
theorem rxdROD_0_2 {S0 : Nat → Int → Int} {ws : List Int} {S : Nat → Int → Int} {x8 x9 x10 : Int} (hP : rxPROD S0 ws) (hin : bx_same rxL (bx_mdl rxCROD.2.2.1) S0 S) (hin2 : bx_same rxL (bx_mdl rxCROD.2.2.1) S (bx_up S 412 4 x9)) (I0 : bx_Inv rxL S) (I1 : bx_Inv rxL (bx_up S 412 4 x9)) (hinv : rxIROD_0 S0 ws S) (l8 : 9 ≤ x8) (u8 : x8 ≤ 2147483647) (l9 : 0 ≤ x9) (u9 : x9 ≤ 400) (l10 : 0 ≤ x10) (u10 : x10 ≤ 400) (f0 : x10 ≤ x9) (e3 : S 412 8 = x8) (e2 : S 412 2 = x9) (e1 : S 412 1 = x10) : (True) ∧ rxPSROD S0 ws (bx_up S 412 4 x9) (some 0) := by
  obtain ⟨rfl, hw⟩ := hinv
  obtain ⟨hD, b0, b8, hp⟩ := (show rzDt S ∧ 0 ≤ S 412 8 ∧ S 412 8 ≤ 8 ∧ _ from hP)
  have hb : S 412 8 = x8 := e3
  exfalso
  omega
theorem rxdROD_0_3 {S0 : Nat → Int → Int} {ws : List Int} {S : Nat → Int → Int} {x8 x9 x10 x11 : Int} (hP : rxPROD S0 ws) (hin : bx_same rxL (bx_mdl rxCROD.2.2.1) S0 S) (hin2 : bx_same rxL (bx_mdl rxCROD.2.2.1) S (bx_up S 412 4 x9)) (I0 : bx_Inv rxL S) (I1 : bx_Inv rxL (bx_up S 412 4 x9)) (hinv : rxIROD_0 S0 ws S) (l8 : 9 ≤ x8) (u8 : x8 ≤ 2147483647) (l9 : 0 ≤ x9) (u9 : x9 ≤ 399) (l10 : 1 ≤ x10) (u10 : x10 ≤ 400) (l11 : 0 ≤ x11) (u11 : x11 ≤ 255) (f0 : x11 ≠ 91) (f1 : x9 < x10) (e4 : S 412 8 = x8) (e3 : S 412 2 = x9) (e2 : S 412 1 = x10) (e1 : S 411 x9 = x11) : (True) ∧ rxPSROD S0 ws (bx_up S 412 4 x9) (some 0) := by
  obtain ⟨rfl, hw⟩ := hinv
  obtain ⟨hD, b0, b8, hp⟩ := (show rzDt S ∧ 0 ≤ S 412 8 ∧ S 412 8 ≤ 8 ∧ _ from hP)
  have hb : S 412 8 = x8 := e4
  have qe1 : rzCut (S 411) (S 412 2) = x11 := by
    rw [e3]
    exact rzCut_at (e1) (by omega) (by omega)
  exfalso
  omega
theorem rxdROD_0_4 {S0 : Nat → Int → Int} {ws : List Int} {S : Nat → Int → Int} {x8 x9 x10 x11 : Int} (hP : rxPROD S0 ws) (hin : bx_same rxL (bx_mdl rxCROD.2.2.1) S0 S) (hin2 : bx_same rxL (bx_mdl rxCROD.2.2.1) S (bx_up S 412 4 x9)) (I0 : bx_Inv rxL S) (I1 : bx_Inv rxL (bx_up S 412 4 x9)) (hinv : rxIROD_0 S0 ws S) (l8 : 9 ≤ x8) (u8 : x8 ≤ 2147483647) (l9 : 0 ≤ x9) (u9 : x9 ≤ 399) (l10 : 1 ≤ x10) (u10 : x10 ≤ 400) (l11 : 91 ≤ x11) (u11 : x11 ≤ 91) (f0 : x9 < x10) (e4 : S 412 8 = x8) (e3 : S 412 2 = x9) (e2 : S 412 1 = x10) (e1 : S 411 x9 = x11) : (True) ∧ rxPSROD S0 ws (bx_up S 412 4 x9) (some 0) := by
  obtain ⟨rfl, hw⟩ := hinv
  obtain ⟨hD, b0, b8, hp⟩ := (show rzDt S ∧ 0 ≤ S 412 8 ∧ S 412 8 ≤ 8 ∧ _ from hP)
  have hb : S 412 8 = x8 := e4
  have qe1 : rzCut (S 411) (S 412 2) = x11 := by
    rw [e3]
    exact rzCut_at (e1) (by omega) (by omega)
  exfalso
  omega
theorem rxdROD_0_5 {S0 : Nat → Int → Int} {ws : List Int} {S : Nat → Int → Int} {x8 x9 x10 x11 : Int} (hP : rxPROD S0 ws) (hin : bx_same rxL (bx_mdl rxCROD.2.2.1) S0 S) (hin2 : bx_same rxL (bx_mdl rxCROD.2.2.1) S (bx_up S 412 4 x10)) (I0 : bx_Inv rxL S) (I1 : bx_Inv rxL (bx_up S 412 4 x10)) (hinv : rxIROD_0 S0 ws S) (l8 : 0 ≤ x8) (u8 : x8 ≤ 8) (l9 : 0 ≤ x9) (u9 : x9 ≤ 4) (l10 : 0 ≤ x10) (u10 : x10 ≤ 400) (l11 : 0 ≤ x11) (u11 : x11 ≤ 400) (f0 : x11 ≤ x10) (f1 : x9 ≠ 1) (e4 : S 412 8 = x8) (e3 : S 424 x8 = x9) (e2 : S 412 2 = x10) (e1 : S 412 1 = x11) : (True) ∧ rxPSROD S0 ws (bx_up S 412 4 x10) (some 0) := by
  obtain ⟨rfl, hw⟩ := hinv
  obtain ⟨hD, b0, b8, hp⟩ := (show rzDt S ∧ 0 ≤ S 412 8 ∧ S 412 8 ≤ 8 ∧ _ from hP)
  have hb : S 412 8 = x8 := e4
  have hs0 : S 424 (S 412 8) = x9 := by
    rw [hb]
    exact e3
  refine ⟨trivial, Or.inr ⟨rfl, ?_, bx_up_at.trans e2.symm⟩⟩
  rw [rzLv_eq b0, rzStep_0, if_neg hp, if_neg (fun g => by have := g.1; omega)]
  by_cases z1 : S 424 (S 412 8) = 1 ∧ rzSg (rzCut (S 411)) (S 412 1) 40 (S 412 2) = true
  · rw [if_pos z1]
    have z2 := of_decide_eq_true z1.2
    obtain ⟨za, zb⟩ := z2
    first | (exfalso; omega) | (exact if_neg (by rw [rzLq_len]; omega)) | (rw [if_pos z1.2] at h3; first | (exfalso; omega) | exact if_neg (by rw [rzLq_len]; omega))
  · rw [if_neg z1]
    by_cases z3 : rzSg (rzCut (S 411)) (S 412 1) 91 (S 412 2) = true
    · rw [if_pos z3]
      have z4 := of_decide_eq_true z3
      obtain ⟨za, zb⟩ := z4
      first | (exfalso; omega) | exact if_neg (by rw [rzLq_len]; omega)
    · rw [if_neg z3]
theorem rxdROD_0_6 {S0 : Nat → Int → Int} {ws : List Int} {S : Nat → Int → Int} {x8 x9 x10 x11 x12 : Int} (hP : rxPROD S0 ws) (hin : bx_same rxL (bx_mdl rxCROD.2.2.1) S0 S) (hin2 : bx_same rxL (bx_mdl rxCROD.2.2.1) S (bx_up S 412 4 x10)) (I0 : bx_Inv rxL S) (I1 : bx_Inv rxL (bx_up S 412 4 x10)) (hinv : rxIROD_0 S0 ws S) (l8 : 0 ≤ x8) (u8 : x8 ≤ 8) (l9 : 0 ≤ x9) (u9 : x9 ≤ 4) (l10 : 0 ≤ x10) (u10 : x10 ≤ 399) (l11 : 1 ≤ x11) (u11 : x11 ≤ 400) (l12 : 0 ≤ x12) (u12 : x12 ≤ 255) (f0 : x12 ≠ 91) (f1 : x10 < x11) (f2 : x9 ≠ 1) (e5 : S 412 8 = x8) (e4 : S 424 x8 = x9) (e3 : S 412 2 = x10) (e2 : S 412 1 = x11) (e1 : S 411 x10 = x12) : (True) ∧ rxPSROD S0 ws (bx_up S 412 4 x10) (some 0) := by
  obtain ⟨rfl, hw⟩ := hinv
  obtain ⟨hD, b0, b8, hp⟩ := (show rzDt S ∧ 0 ≤ S 412 8 ∧ S 412 8 ≤ 8 ∧ _ from hP)
  have hb : S 412 8 = x8 := e5
  have hs0 : S 424 (S 412 8) = x9 := by
    rw [hb]
    exact e4
  have qe1 : rzCut (S 411) (S 412 2) = x12 := by
    rw [e3]
    exact rzCut_at (e1) (by omega) (by omega)
  refine ⟨trivial, Or.inr ⟨rfl, ?_, bx_up_at.trans e3.symm⟩⟩
  rw [rzLv_eq b0, rzStep_0, if_neg hp, if_neg (fun g => by have := g.1; omega)]
  by_cases z1 : S 424 (S 412 8) = 1 ∧ rzSg (rzCut (S 411)) (S 412 1) 40 (S 412 2) = true
  · rw [if_pos z1]
    have z2 := of_decide_eq_true z1.2
    obtain ⟨za, zb⟩ := z2
    first | (exfalso; omega) | (exact if_neg (by rw [rzLq_len]; omega)) | (rw [if_pos z1.2] at h3; first | (exfalso; omega) | exact if_neg (by rw [rzLq_len]; omega))
  · rw [if_neg z1]
    by_cases z3 : rzSg (rzCut (S 411)) (S 412 1) 91 (S 412 2) = true
    · rw [if_pos z3]
      have z4 := of_decide_eq_true z3
      obtain ⟨za, zb⟩ := z4
      first | (exfalso; omega) | exact if_neg (by rw [rzLq_len]; omega)
    · rw [if_neg z3]
theorem rxdROD_0_7 {S0 : Nat → Int → Int} {ws : List Int} {S : Nat → Int → Int} {x8 x9 x10 x11 x12 : Int} (hP : rxPROD S0 ws) (hin : bx_same rxL (bx_mdl rxCROD.2.2.1) S0 S) (hin2 : bx_same rxL (bx_mdl rxCROD.2.2.1) S (bx_up S 412 4 x10)) (I0 : bx_Inv rxL S) (I1 : bx_Inv rxL (bx_up S 412 4 x10)) (hinv : rxIROD_0 S0 ws S) (l8 : 8 ≤ x8) (u8 : x8 ≤ 8) (l9 : 0 ≤ x9) (u9 : x9 ≤ 4) (l10 : 0 ≤ x10) (u10 : x10 ≤ 399) (l11 : 1 ≤ x11) (u11 : x11 ≤ 400) (l12 : 91 ≤ x12) (u12 : x12 ≤ 91) (f0 : x10 < x11) (f1 : x9 ≠ 1) (e5 : S 412 8 = x8) (e4 : S 424 x8 = x9) (e3 : S 412 2 = x10) (e2 : S 412 1 = x11) (e1 : S 411 x10 = x12) : (True) ∧ rxPSROD S0 ws (bx_up S 412 4 x10) (some 0) := by
  obtain ⟨rfl, hw⟩ := hinv
  obtain ⟨hD, b0, b8, hp⟩ := (show rzDt S ∧ 0 ≤ S 412 8 ∧ S 412 8 ≤ 8 ∧ _ from hP)
  have hb : S 412 8 = x8 := e5
  have hs0 : S 424 (S 412 8) = x9 := by
    rw [hb]
    exact e4
  have qe1 : rzCut (S 411) (S 412 2) = x12 := by
    rw [e3]
    exact rzCut_at (e1) (by omega) (by omega)
  refine ⟨trivial, Or.inr ⟨rfl, ?_, bx_up_at.trans e3.symm⟩⟩
  rw [rzLv_eq b0, rzStep_0, if_neg hp, if_neg (fun g => by have := g.1; omega)]
  by_cases z1 : S 424 (S 412 8) = 1 ∧ rzSg (rzCut (S 411)) (S 412 1) 40 (S 412 2) = true
  · rw [if_pos z1]
    have z2 := of_decide_eq_true z1.2
    obtain ⟨za, zb⟩ := z2
    first | (exfalso; omega) | (exact if_neg (by rw [rzLq_len]; omega)) | (rw [if_pos z1.2] at h3; first | (exfalso; omega) | exact if_neg (by rw [rzLq_len]; omega))
  · rw [if_neg z1]
    by_cases z3 : rzSg (rzCut (S 411)) (S 412 1) 91 (S 412 2) = true
    · rw [if_pos z3]
      have z4 := of_decide_eq_true z3
      obtain ⟨za, zb⟩ := z4
      first | (exfalso; omega) | exact if_neg (by rw [rzLq_len]; omega)
    · rw [if_neg z3]
theorem rxcROD_2_0 {S0 : Nat → Int → Int} {ws : List Int} {S : Nat → Int → Int} {ap ot r x11 : Int} (hP : rxPROD S0 ws) (hin : bx_same rxL (bx_mdl rxCROD.2.2.1) S0 S) (I0 : bx_Inv rxL S) (hinv : rxIROD_2 S0 ws S ap ot r) (l8 : 0 ≤ ap) (u8 : ap ≤ 1) (l9 : 0 ≤ ot) (u9 : ot ≤ 1) (l10 : 1 ≤ r) (u10 : r ≤ 1) (l11 : 0 ≤ x11) (u11 : x11 ≤ 399) (f0 : r ≠ 0) (e3 : S 412 10 = x11) : (True) ∧ (True) ∧ rxIROD_3 S0 ws (bx_up (bx_up (bx_up S 425 x11 3) 426 x11 ((-1))) 412 10 (x11 + 1)) ap ot ∧ rxmROD_3 S0 ws (bx_up (bx_up (bx_up S 425 x11 3) 426 x11 ((-1))) 412 10 (x11 + 1)) ap ot < rxmROD_2 S0 ws S ap ot r := by
  obtain ⟨rfl, h1, h2, h3, hr⟩ := hinv
  obtain ⟨hD, b0, b8, hp⟩ := (show rzDt S ∧ 0 ≤ S 412 8 ∧ S 412 8 ≤ 8 ∧ _ from hP)
  have bx : rzIs (rzCut (S 411)) (S 412 1) rzW_not (S 412 2) = true := by
    cases hb : rzIs (rzCut (S 411)) (S 412 1) rzW_not (S 412 2) with
    | true => rfl
    | false =>
      rw [hb, if_neg (by decide)] at hr
      omega
  have e8 : (bx_up (bx_up (bx_up S 425 x11 3) 426 x11 (-1)) 412 10 (x11 + 1)) 412 8 = S 412 8 := ((bx_up_ne (by omega)).trans ((bx_up_ne (by omega)).trans ((bx_up_ne (by omega))))).trans (by omega)
  refine ⟨trivial, trivial, ⟨⟨congrArg rzCut (funext fun _ => (bx_up_ne (by omega)).trans ((bx_up_ne (by omega)).trans ((bx_up_ne (by omega))))), ((bx_up_ne (by omega)).trans ((bx_up_ne (by omega)).trans ((bx_up_ne (by omega))))), ((bx_up_ne (by omega)).trans ((bx_up_ne (by omega)).trans ((bx_up_ne (by omega))))), ((bx_up_ne (by omega)).trans ((bx_up_ne (by omega)).trans ((bx_up_ne (by omega)))))⟩, (bx_up_ne (by omega)).trans ((bx_up_ne (by omega)).trans ((bx_up_ne (by omega)))), (bx_up_ne (by omega)).trans ((bx_up_ne (by omega)).trans ((bx_up_ne (by omega)))), (bx_up_ne (by omega)).trans ((bx_up_ne (by omega)).trans ((bx_up_ne (by omega)))), by omega, by omega, ?_⟩, by unfold rxmROD_2 rxmROD_3; omega⟩
  have hl : rzLv (bx_up (bx_up (bx_up S 425 x11 3) 426 x11 (-1)) 412 10 (x11 + 1)) = S 424 (S 412 8) :: rzLq S := rzLv_set b0 ((bx_up_ne (by omega)).trans ((bx_up_ne (by omega)).trans ((bx_up_ne (by omega))))) ((bx_up_ne (by omega)).trans ((bx_up_ne (by omega)).trans ((bx_up_ne (by omega))))) fun j a c => (bx_up_ne (by omega)).trans ((bx_up_ne (by omega)).trans ((bx_up_ne (by omega))))
  rw [rzLv_eq b0, rzStep_0, if_neg hp, if_pos ⟨h2, bx⟩, hl]
theorem rxcROD_2_1 {S0 : Nat → Int → Int} {ws : List Int} {S : Nat → Int → Int} {ap ot r x11 : Int} (hP : rxPROD S0 ws) (hin : bx_same rxL (bx_mdl rxCROD.2.2.1) S0 S) (I0 : bx_Inv rxL S) (hinv : rxIROD_2 S0 ws S ap ot r) (l8 : 0 ≤ ap) (u8 : ap ≤ 1) (l9 : 0 ≤ ot) (u9 : ot ≤ 1) (l10 : 1 ≤ r) (u10 : r ≤ 1) (l11 : 400 ≤ x11) (u11 : x11 ≤ 400) (f0 : r ≠ 0) (e0 : S 412 10 = x11) : (True) ∧ (True) ∧ rxIROD_3 S0 ws S ap ot ∧ rxmROD_3 S0 ws S ap ot < rxmROD_2 S0 ws S ap ot r := by
  obtain ⟨rfl, h1, h2, h3, hr⟩ := hinv
  obtain ⟨hD, b0, b8, hp⟩ := (show rzDt S ∧ 0 ≤ S 412 8 ∧ S 412 8 ≤ 8 ∧ _ from hP)
  have bx : rzIs (rzCut (S 411)) (S 412 1) rzW_not (S 412 2) = true := by
    cases hb : rzIs (rzCut (S 411)) (S 412 1) rzW_not (S 412 2) with
    | true => rfl
    | false =>
      rw [hb, if_neg (by decide)] at hr
      omega
  have e8 : S 412 8 = S 412 8 := (rfl).trans (by omega)
  refine ⟨trivial, trivial, ⟨rzKp_rf, rfl, rfl, rfl, by omega, by omega, ?_⟩, by unfold rxmROD_2 rxmROD_3; omega⟩
  have hl : rzLv S = S 424 (S 412 8) :: rzLq S := rzLv_set b0 (rfl) (rfl) fun j a c => rfl
  rw [rzLv_eq b0, rzStep_0, if_neg hp, if_pos ⟨h2, bx⟩]
theorem rxcROD_2_2 {S0 : Nat → Int → Int} {ws : List Int} {S : Nat → Int → Int} {ap ot r x11 x12 x13 x14 x15 x16 : Int} (hP : rxPROD S0 ws) (hin : bx_same rxL (bx_mdl rxCROD.2.2.1) S0 S) (I0 : bx_Inv rxL S) (hinv : rxIROD_2 S0 ws S ap ot r) (l8 : 0 ≤ ap) (u8 : ap ≤ 1) (l9 : 0 ≤ ot) (u9 : ot ≤ 0) (l10 : 0 ≤ r) (u10 : r ≤ 0) (l11 : 0 ≤ x11) (u11 : x11 ≤ 399) (l12 : 1 ≤ x12) (u12 : x12 ≤ 400) (l13 : 91 ≤ x13) (u13 : x13 ≤ 91) (l14 : 0 ≤ x14) (u14 : x14 ≤ 7) (l15 : 0 ≤ x15) (u15 : x15 ≤ 4) (l16 : 0 ≤ x16) (u16 : x16 ≤ 399) (f0 : x15 ≠ 1) (f1 : x11 < x12) (e10 : S 412 2 = x11) (e9 : S 412 1 = x12) (e8 : S 411 x11 = x13) (e7 : S 412 8 = x14) (e6 : S 424 x14 = x15) (e5 : S 412 10 = x16) : (True) ∧ (True) ∧ rxIROD_3 S0 ws (bx_up (bx_up (bx_up (bx_up (bx_up S 425 x16 0) 426 x16 ((-1))) 412 10 (x16 + 1)) 412 8 (x14 + 1)) 424 (x14 + 1) 0) ap ot ∧ rxmROD_3 S0 ws (bx_up (bx_up (bx_up (bx_up (bx_up S 425 x16 0) 426 x16 ((-1))) 412 10 (x16 + 1)) 412 8 (x14 + 1)) 424 (x14 + 1) 0) ap ot < rxmROD_2 S0 ws S ap ot r := by
  obtain ⟨rfl, h1, h2, h3, hr⟩ := hinv
  obtain ⟨hD, b0, b8, hp⟩ := (show rzDt S ∧ 0 ≤ S 412 8 ∧ S 412 8 ≤ 8 ∧ _ from hP)
  have hb : S 412 8 = x14 := e7
  have hs0 : S 424 (S 412 8) = x15 := by
    rw [hb]
    exact e6
  have qe8 : rzCut (S 411) (S 412 2) = x13 := by
    rw [e10]
    exact rzCut_at (e8) (by omega) (by omega)
  exfalso
  omega
theorem rxcROD_2_3 {S0 : Nat → Int → Int} {ws : List Int} {S : Nat → Int → Int} {ap ot r x11 x12 x13 x14 x15 x16 : Int} (hP : rxPROD S0 ws) (hin : bx_same rxL (bx_mdl rxCROD.2.2.1) S0 S) (I0 : bx_Inv rxL S) (hinv : rxIROD_2 S0 ws S ap ot r) (l8 : 0 ≤ ap) (u8 : ap ≤ 1) (l9 : 0 ≤ ot) (u9 : ot ≤ 0) (l10 : 0 ≤ r) (u10 : r ≤ 0) (l11 : 0 ≤ x11) (u11 : x11 ≤ 399) (l12 : 1 ≤ x12) (u12 : x12 ≤ 400) (l13 : 91 ≤ x13) (u13 : x13 ≤ 91) (l14 : 0 ≤ x14) (u14 : x14 ≤ 7) (l15 : 0 ≤ x15) (u15 : x15 ≤ 4) (l16 : 400 ≤ x16) (u16 : x16 ≤ 400) (f0 : x15 ≠ 1) (f1 : x11 < x12) (e7 : S 412 2 = x11) (e6 : S 412 1 = x12) (e5 : S 411 x11 = x13) (e4 : S 412 8 = x14) (e3 : S 424 x14 = x15) (e2 : S 412 10 = x16) : (True) ∧ (True) ∧ rxIROD_3 S0 ws (bx_up (bx_up S 412 8 (x14 + 1)) 424 (x14 + 1) 0) ap ot ∧ rxmROD_3 S0 ws (bx_up (bx_up S 412 8 (x14 + 1)) 424 (x14 + 1) 0) ap ot < rxmROD_2 S0 ws S ap ot r := by
  obtain ⟨rfl, h1, h2, h3, hr⟩ := hinv
  obtain ⟨hD, b0, b8, hp⟩ := (show rzDt S ∧ 0 ≤ S 412 8 ∧ S 412 8 ≤ 8 ∧ _ from hP)
  have hb : S 412 8 = x14 := e4
  have hs0 : S 424 (S 412 8) = x15 := by
    rw [hb]
    exact e3
  have qe5 : rzCut (S 411) (S 412 2) = x13 := by
    rw [e7]
    exact rzCut_at (e5) (by omega) (by omega)
  exfalso
  omega
theorem rxcROD_2_4 {S0 : Nat → Int → Int} {ws : List Int} {S : Nat → Int → Int} {ap ot r x11 x12 x13 x14 x15 x16 : Int} (hP : rxPROD S0 ws) (hin : bx_same rxL (bx_mdl rxCROD.2.2.1) S0 S) (I0 : bx_Inv rxL S) (hinv : rxIROD_2 S0 ws S ap ot r) (l8 : 0 ≤ ap) (u8 : ap ≤ 1) (l9 : 0 ≤ ot) (u9 : ot ≤ 0) (l10 : 0 ≤ r) (u10 : r ≤ 0) (l11 : 0 ≤ x11) (u11 : x11 ≤ 399) (l12 : 1 ≤ x12) (u12 : x12 ≤ 400) (l13 : 91 ≤ x13) (u13 : x13 ≤ 91) (l14 : 0 ≤ x14) (u14 : x14 ≤ 7) (l15 : 1 ≤ x15) (u15 : x15 ≤ 1) (l16 : 0 ≤ x16) (u16 : x16 ≤ 399) (f0 : x11 < x12) (e11 : S 412 2 = x11) (e10 : S 412 1 = x12) (e9 : S 411 x11 = x13) (e8 : S 412 8 = x14) (e7 : S 424 x14 = x15) (e5 : (bx_up S 424 x14 2) 412 10 = x16) : (True) ∧ (True) ∧ rxIROD_3 S0 ws (bx_up (bx_up (bx_up (bx_up (bx_up (bx_up S 424 x14 2) 425 x16 0) 426 x16 ((-1))) 412 10 (x16 + 1)) 412 8 (x14 + 1)) 424 (x14 + 1) 0) ap ot ∧ rxmROD_3 S0 ws (bx_up (bx_up (bx_up (bx_up (bx_up (bx_up S 424 x14 2) 425 x16 0) 426 x16 ((-1))) 412 10 (x16 + 1)) 412 8 (x14 + 1)) 424 (x14 + 1) 0) ap ot < rxmROD_2 S0 ws S ap ot r := by
  obtain ⟨rfl, h1, h2, h3, hr⟩ := hinv
  obtain ⟨hD, b0, b8, hp⟩ := (show rzDt S ∧ 0 ≤ S 412 8 ∧ S 412 8 ≤ 8 ∧ _ from hP)
  have hb : S 412 8 = x14 := e8
  have hs0 : S 424 (S 412 8) = x15 := by
    rw [hb]
    exact e7
  have qe9 : rzCut (S 411) (S 412 2) = x13 := by
    rw [e11]
    exact rzCut_at (e9) (by omega) (by omega)
  have bx : rzIs (rzCut (S 411)) (S 412 1) rzW_not (S 412 2) = false := by
    cases hb : rzIs (rzCut (S 411)) (S 412 1) rzW_not (S 412 2) with
    | false => rfl
    | true =>
      rw [hb, if_pos rfl] at hr
      omega
  have e8 : (bx_up (bx_up (bx_up (bx_up (bx_up (bx_up S 424 x14 2) 425 x16 0) 426 x16 (-1)) 412 10 (x16 + 1)) 412 8 (x14 + 1)) 424 (x14 + 1) 0) 412 8 = S 412 8 + 1 := ((bx_up_ne (by omega)).trans (bx_up_at)).trans (by omega)
  refine ⟨trivial, trivial, ⟨⟨congrArg rzCut (funext fun _ => (bx_up_ne (by omega)).trans ((bx_up_ne (by omega)).trans ((bx_up_ne (by omega)).trans ((bx_up_ne (by omega)).trans ((bx_up_ne (by omega)).trans ((bx_up_ne (by omega)))))))), ((bx_up_ne (by omega)).trans ((bx_up_ne (by omega)).trans ((bx_up_ne (by omega)).trans ((bx_up_ne (by omega)).trans ((bx_up_ne (by omega)).trans ((bx_up_ne (by omega)))))))), ((bx_up_ne (by omega)).trans ((bx_up_ne (by omega)).trans ((bx_up_ne (by omega)).trans ((bx_up_ne (by omega)).trans ((bx_up_ne (by omega)).trans ((bx_up_ne (by omega)))))))), ((bx_up_ne (by omega)).trans ((bx_up_ne (by omega)).trans ((bx_up_ne (by omega)).trans ((bx_up_ne (by omega)).trans ((bx_up_ne (by omega)).trans ((bx_up_ne (by omega))))))))⟩, (bx_up_ne (by omega)).trans ((bx_up_ne (by omega)).trans ((bx_up_ne (by omega)).trans ((bx_up_ne (by omega)).trans ((bx_up_ne (by omega)).trans ((bx_up_ne (by omega))))))), (bx_up_ne (by omega)).trans ((bx_up_ne (by omega)).trans ((bx_up_ne (by omega)).trans ((bx_up_ne (by omega)).trans ((bx_up_ne (by omega)).trans ((bx_up_ne (by omega))))))), (bx_up_ne (by omega)).trans ((bx_up_ne (by omega)).trans ((bx_up_ne (by omega)).trans ((bx_up_ne (by omega)).trans ((bx_up_ne (by omega)).trans ((bx_up_ne (by omega))))))), by omega, by omega, ?_⟩, by unfold rxmROD_2 rxmROD_3; omega⟩
  have g91 : rzSg (rzCut (S 411)) (S 412 1) 91 (S 412 2) = true := decide_eq_true ⟨by omega, by omega⟩
  have hl : rzLv (bx_up (bx_up (bx_up (bx_up (bx_up (bx_up S 424 x14 2) 425 x16 0) 426 x16 (-1)) 412 10 (x16 + 1)) 412 8 (x14 + 1)) 424 (x14 + 1) 0) = 0 :: 2 :: rzLq S := rzLv_open b0 (((bx_up_ne (by omega)).trans (bx_up_at)).trans (by omega)) (show (bx_up (bx_up (bx_up (bx_up (bx_up (bx_up S 424 x14 2) 425 x16 0) 426 x16 (-1)) 412 10 (x16 + 1)) 412 8 (x14 + 1)) 424 (x14 + 1) 0) 424 (S 412 8 + 1) = 0 from by rw [hb]; exact bx_up_at) (show (bx_up (bx_up (bx_up (bx_up (bx_up (bx_up S 424 x14 2) 425 x16 0) 426 x16 (-1)) 412 10 (x16 + 1)) 412 8 (x14 + 1)) 424 (x14 + 1) 0) 424 (S 412 8) = 2 from by rw [hb]; exact ((bx_up_ne (by omega)).trans ((bx_up_ne (by omega)).trans ((bx_up_ne (by omega)).trans ((bx_up_ne (by omega)).trans ((bx_up_ne (by omega))))))).trans bx_up_at) fun j a c => (bx_up_ne (by omega)).trans ((bx_up_ne (by omega)).trans ((bx_up_ne (by omega)).trans ((bx_up_ne (by omega)).trans ((bx_up_ne (by omega)).trans ((bx_up_ne (by omega)))))))
  rw [rzLv_eq b0, rzStep_0, if_neg hp, if_neg (fun g => by rw [bx] at g; exact absurd g.2 (by decide)), if_neg (fun g => by
    have g3 := of_decide_eq_true g.2
    obtain ⟨ga, gb⟩ := g3
    omega), if_pos g91, if_pos (by rw [rzLq_len]; omega), hl, if_pos h2]
theorem rxcROD_2_5 {S0 : Nat → Int → Int} {ws : List Int} {S : Nat → Int → Int} {ap ot r x11 x12 x13 x14 x15 x16 : Int} (hP : rxPROD S0 ws) (hin : bx_same rxL (bx_mdl rxCROD.2.2.1) S0 S) (I0 : bx_Inv rxL S) (hinv : rxIROD_2 S0 ws S ap ot r) (l8 : 0 ≤ ap) (u8 : ap ≤ 1) (l9 : 0 ≤ ot) (u9 : ot ≤ 0) (l10 : 0 ≤ r) (u10 : r ≤ 0) (l11 : 0 ≤ x11) (u11 : x11 ≤ 399) (l12 : 1 ≤ x12) (u12 : x12 ≤ 400) (l13 : 91 ≤ x13) (u13 : x13 ≤ 91) (l14 : 0 ≤ x14) (u14 : x14 ≤ 7) (l15 : 1 ≤ x15) (u15 : x15 ≤ 1) (l16 : 400 ≤ x16) (u16 : x16 ≤ 400) (f0 : x11 < x12) (e8 : S 412 2 = x11) (e7 : S 412 1 = x12) (e6 : S 411 x11 = x13) (e5 : S 412 8 = x14) (e4 : S 424 x14 = x15) (e2 : (bx_up S 424 x14 2) 412 10 = x16) : (True) ∧ (True) ∧ rxIROD_3 S0 ws (bx_up (bx_up (bx_up S 424 x14 2) 412 8 (x14 + 1)) 424 (x14 + 1) 0) ap ot ∧ rxmROD_3 S0 ws (bx_up (bx_up (bx_up S 424 x14 2) 412 8 (x14 + 1)) 424 (x14 + 1) 0) ap ot < rxmROD_2 S0 ws S ap ot r := by
  obtain ⟨rfl, h1, h2, h3, hr⟩ := hinv
  obtain ⟨hD, b0, b8, hp⟩ := (show rzDt S ∧ 0 ≤ S 412 8 ∧ S 412 8 ≤ 8 ∧ _ from hP)
  have hb : S 412 8 = x14 := e5
  have hs0 : S 424 (S 412 8) = x15 := by
    rw [hb]
    exact e4
  have qe6 : rzCut (S 411) (S 412 2) = x13 := by
    rw [e8]
    exact rzCut_at (e6) (by omega) (by omega)
  have bx : rzIs (rzCut (S 411)) (S 412 1) rzW_not (S 412 2) = false := by
    cases hb : rzIs (rzCut (S 411)) (S 412 1) rzW_not (S 412 2) with
    | false => rfl
    | true =>
      rw [hb, if_pos rfl] at hr
      omega
  have e8 : (bx_up (bx_up (bx_up S 424 x14 2) 412 8 (x14 + 1)) 424 (x14 + 1) 0) 412 8 = S 412 8 + 1 := ((bx_up_ne (by omega)).trans (bx_up_at)).trans (by omega)
  refine ⟨trivial, trivial, ⟨⟨congrArg rzCut (funext fun _ => (bx_up_ne (by omega)).trans ((bx_up_ne (by omega)).trans ((bx_up_ne (by omega))))), ((bx_up_ne (by omega)).trans ((bx_up_ne (by omega)).trans ((bx_up_ne (by omega))))), ((bx_up_ne (by omega)).trans ((bx_up_ne (by omega)).trans ((bx_up_ne (by omega))))), ((bx_up_ne (by omega)).trans ((bx_up_ne (by omega)).trans ((bx_up_ne (by omega)))))⟩, (bx_up_ne (by omega)).trans ((bx_up_ne (by omega)).trans ((bx_up_ne (by omega)))), (bx_up_ne (by omega)).trans ((bx_up_ne (by omega)).trans ((bx_up_ne (by omega)))), (bx_up_ne (by omega)).trans ((bx_up_ne (by omega)).trans ((bx_up_ne (by omega)))), by omega, by omega, ?_⟩, by unfold rxmROD_2 rxmROD_3; omega⟩
  have g91 : rzSg (rzCut (S 411)) (S 412 1) 91 (S 412 2) = true := decide_eq_true ⟨by omega, by omega⟩
  have hl : rzLv (bx_up (bx_up (bx_up S 424 x14 2) 412 8 (x14 + 1)) 424 (x14 + 1) 0) = 0 :: 2 :: rzLq S := rzLv_open b0 (((bx_up_ne (by omega)).trans (bx_up_at)).trans (by omega)) (show (bx_up (bx_up (bx_up S 424 x14 2) 412 8 (x14 + 1)) 424 (x14 + 1) 0) 424 (S 412 8 + 1) = 0 from by rw [hb]; exact bx_up_at) (show (bx_up (bx_up (bx_up S 424 x14 2) 412 8 (x14 + 1)) 424 (x14 + 1) 0) 424 (S 412 8) = 2 from by rw [hb]; exact ((bx_up_ne (by omega)).trans ((bx_up_ne (by omega)))).trans bx_up_at) fun j a c => (bx_up_ne (by omega)).trans ((bx_up_ne (by omega)).trans ((bx_up_ne (by omega))))
  rw [rzLv_eq b0, rzStep_0, if_neg hp, if_neg (fun g => by rw [bx] at g; exact absurd g.2 (by decide)), if_neg (fun g => by
    have g3 := of_decide_eq_true g.2
    obtain ⟨ga, gb⟩ := g3
    omega), if_pos g91, if_pos (by rw [rzLq_len]; omega), hl, if_pos h2]
theorem rxcROD_2_6 {S0 : Nat → Int → Int} {ws : List Int} {S : Nat → Int → Int} {ap ot r x11 x12 x13 x14 x15 : Int} (hP : rxPROD S0 ws) (hin : bx_same rxL (bx_mdl rxCROD.2.2.1) S0 S) (I0 : bx_Inv rxL S) (hinv : rxIROD_2 S0 ws S ap ot r) (l8 : 0 ≤ ap) (u8 : ap ≤ 1) (l9 : 0 ≤ ot) (u9 : ot ≤ 0) (l10 : 0 ≤ r) (u10 : r ≤ 0) (l11 : 0 ≤ x11) (u11 : x11 ≤ 399) (l12 : 1 ≤ x12) (u12 : x12 ≤ 400) (l13 : 91 ≤ x13) (u13 : x13 ≤ 91) (l14 : (-2147483648) ≤ x14) (u14 : x14 ≤ (-2)) (l15 : 0 ≤ x15) (u15 : x15 ≤ 399) (f0 : x11 < x12) (e8 : S 412 2 = x11) (e7 : S 412 1 = x12) (e6 : S 411 x11 = x13) (e5 : S 412 8 = x14) (e4 : S 412 10 = x15) : (True) ∧ (True) ∧ rxIROD_3 S0 ws (bx_up (bx_up (bx_up (bx_up S 425 x15 0) 426 x15 ((-1))) 412 10 (x15 + 1)) 412 8 (x14 + 1)) ap ot ∧ rxmROD_3 S0 ws (bx_up (bx_up (bx_up (bx_up S 425 x15 0) 426 x15 ((-1))) 412 10 (x15 + 1)) 412 8 (x14 + 1)) ap ot < rxmROD_2 S0 ws S ap ot r := by
  obtain ⟨rfl, h1, h2, h3, hr⟩ := hinv
  obtain ⟨hD, b0, b8, hp⟩ := (show rzDt S ∧ 0 ≤ S 412 8 ∧ S 412 8 ≤ 8 ∧ _ from hP)
  have hb : S 412 8 = x14 := e5
  have qe6 : rzCut (S 411) (S 412 2) = x13 := by
    rw [e8]
    exact rzCut_at (e6) (by omega) (by omega)
  exfalso
  omega
theorem rxcROD_2_7 {S0 : Nat → Int → Int} {ws : List Int} {S : Nat → Int → Int} {ap ot r x11 x12 x13 x14 x15 : Int} (hP : rxPROD S0 ws) (hin : bx_same rxL (bx_mdl rxCROD.2.2.1) S0 S) (I0 : bx_Inv rxL S) (hinv : rxIROD_2 S0 ws S ap ot r) (l8 : 0 ≤ ap) (u8 : ap ≤ 1) (l9 : 0 ≤ ot) (u9 : ot ≤ 0) (l10 : 0 ≤ r) (u10 : r ≤ 0) (l11 : 0 ≤ x11) (u11 : x11 ≤ 399) (l12 : 1 ≤ x12) (u12 : x12 ≤ 400) (l13 : 91 ≤ x13) (u13 : x13 ≤ 91) (l14 : (-1) ≤ x14) (u14 : x14 ≤ (-1)) (l15 : 0 ≤ x15) (u15 : x15 ≤ 399) (f0 : x11 < x12) (e9 : S 412 2 = x11) (e8 : S 412 1 = x12) (e7 : S 411 x11 = x13) (e6 : S 412 8 = x14) (e5 : S 412 10 = x15) : (True) ∧ (True) ∧ rxIROD_3 S0 ws (bx_up (bx_up (bx_up (bx_up (bx_up S 425 x15 0) 426 x15 ((-1))) 412 10 (x15 + 1)) 412 8 (x14 + 1)) 424 (x14 + 1) 0) ap ot ∧ rxmROD_3 S0 ws (bx_up (bx_up (bx_up (bx_up (bx_up S 425 x15 0) 426 x15 ((-1))) 412 10 (x15 + 1)) 412 8 (x14 + 1)) 424 (x14 + 1) 0) ap ot < rxmROD_2 S0 ws S ap ot r := by
  obtain ⟨rfl, h1, h2, h3, hr⟩ := hinv
  obtain ⟨hD, b0, b8, hp⟩ := (show rzDt S ∧ 0 ≤ S 412 8 ∧ S 412 8 ≤ 8 ∧ _ from hP)
  have hb : S 412 8 = x14 := e6
  have qe7 : rzCut (S 411) (S 412 2) = x13 := by
    rw [e9]
    exact rzCut_at (e7) (by omega) (by omega)
  exfalso
  omega
theorem rxcROD_2_8 {S0 : Nat → Int → Int} {ws : List Int} {S : Nat → Int → Int} {ap ot r x11 x12 x13 x14 x15 : Int} (hP : rxPROD S0 ws) (hin : bx_same rxL (bx_mdl rxCROD.2.2.1) S0 S) (I0 : bx_Inv rxL S) (hinv : rxIROD_2 S0 ws S ap ot r) (l8 : 0 ≤ ap) (u8 : ap ≤ 1) (l9 : 0 ≤ ot) (u9 : ot ≤ 0) (l10 : 0 ≤ r) (u10 : r ≤ 0) (l11 : 0 ≤ x11) (u11 : x11 ≤ 399) (l12 : 1 ≤ x12) (u12 : x12 ≤ 400) (l13 : 91 ≤ x13) (u13 : x13 ≤ 91) (l14 : (-2147483648) ≤ x14) (u14 : x14 ≤ (-2)) (l15 : 400 ≤ x15) (u15 : x15 ≤ 400) (f0 : x11 < x12) (e5 : S 412 2 = x11) (e4 : S 412 1 = x12) (e3 : S 411 x11 = x13) (e2 : S 412 8 = x14) (e1 : S 412 10 = x15) : (True) ∧ (True) ∧ rxIROD_3 S0 ws (bx_up S 412 8 (x14 + 1)) ap ot ∧ rxmROD_3 S0 ws (bx_up S 412 8 (x14 + 1)) ap ot < rxmROD_2 S0 ws S ap ot r := by
  obtain ⟨rfl, h1, h2, h3, hr⟩ := hinv
  obtain ⟨hD, b0, b8, hp⟩ := (show rzDt S ∧ 0 ≤ S 412 8 ∧ S 412 8 ≤ 8 ∧ _ from hP)
  have hb : S 412 8 = x14 := e2
  have qe3 : rzCut (S 411) (S 412 2) = x13 := by
    rw [e5]
    exact rzCut_at (e3) (by omega) (by omega)
  exfalso
  omega
theorem rxcROD_2_9 {S0 : Nat → Int → Int} {ws : List Int} {S : Nat → Int → Int} {ap ot r x11 x12 x13 x14 x15 : Int} (hP : rxPROD S0 ws) (hin : bx_same rxL (bx_mdl rxCROD.2.2.1) S0 S) (I0 : bx_Inv rxL S) (hinv : rxIROD_2 S0 ws S ap ot r) (l8 : 0 ≤ ap) (u8 : ap ≤ 1) (l9 : 0 ≤ ot) (u9 : ot ≤ 0) (l10 : 0 ≤ r) (u10 : r ≤ 0) (l11 : 0 ≤ x11) (u11 : x11 ≤ 399) (l12 : 1 ≤ x12) (u12 : x12 ≤ 400) (l13 : 91 ≤ x13) (u13 : x13 ≤ 91) (l14 : (-1) ≤ x14) (u14 : x14 ≤ (-1)) (l15 : 400 ≤ x15) (u15 : x15 ≤ 400) (f0 : x11 < x12) (e6 : S 412 2 = x11) (e5 : S 412 1 = x12) (e4 : S 411 x11 = x13) (e3 : S 412 8 = x14) (e2 : S 412 10 = x15) : (True) ∧ (True) ∧ rxIROD_3 S0 ws (bx_up (bx_up S 412 8 (x14 + 1)) 424 (x14 + 1) 0) ap ot ∧ rxmROD_3 S0 ws (bx_up (bx_up S 412 8 (x14 + 1)) 424 (x14 + 1) 0) ap ot < rxmROD_2 S0 ws S ap ot r := by
  obtain ⟨rfl, h1, h2, h3, hr⟩ := hinv
  obtain ⟨hD, b0, b8, hp⟩ := (show rzDt S ∧ 0 ≤ S 412 8 ∧ S 412 8 ≤ 8 ∧ _ from hP)
  have hb : S 412 8 = x14 := e3
  have qe4 : rzCut (S 411) (S 412 2) = x13 := by
    rw [e6]
    exact rzCut_at (e4) (by omega) (by omega)
  exfalso
  omega
theorem rxcROD_2_10 {S0 : Nat → Int → Int} {ws : List Int} {S : Nat → Int → Int} {ap ot r x11 x12 : Int} (hP : rxPROD S0 ws) (hin : bx_same rxL (bx_mdl rxCROD.2.2.1) S0 S) (I0 : bx_Inv rxL S) (hinv : rxIROD_2 S0 ws S ap ot r) (l8 : 0 ≤ ap) (u8 : ap ≤ 1) (l9 : 1 ≤ ot) (u9 : ot ≤ 1) (l10 : 0 ≤ r) (u10 : r ≤ 0) (l11 : (-2147483648) ≤ x11) (u11 : x11 ≤ (-2)) (l12 : 0 ≤ x12) (u12 : x12 ≤ 399) (f0 : ot ≠ 0) (e5 : S 412 8 = x11) (e4 : S 412 10 = x12) : (True) ∧ (True) ∧ rxIROD_3 S0 ws (bx_up (bx_up (bx_up (bx_up S 425 x12 0) 426 x12 ((-1))) 412 10 (x12 + 1)) 412 8 (x11 + 1)) ap ot ∧ rxmROD_3 S0 ws (bx_up (bx_up (bx_up (bx_up S 425 x12 0) 426 x12 ((-1))) 412 10 (x12 + 1)) 412 8 (x11 + 1)) ap ot < rxmROD_2 S0 ws S ap ot r := by
  obtain ⟨rfl, h1, h2, h3, hr⟩ := hinv
  obtain ⟨hD, b0, b8, hp⟩ := (show rzDt S ∧ 0 ≤ S 412 8 ∧ S 412 8 ≤ 8 ∧ _ from hP)
  have hb : S 412 8 = x11 := e5
  exfalso
  omega
theorem rxcROD_2_11 {S0 : Nat → Int → Int} {ws : List Int} {S : Nat → Int → Int} {ap ot r x11 x12 : Int} (hP : rxPROD S0 ws) (hin : bx_same rxL (bx_mdl rxCROD.2.2.1) S0 S) (I0 : bx_Inv rxL S) (hinv : rxIROD_2 S0 ws S ap ot r) (l8 : 0 ≤ ap) (u8 : ap ≤ 1) (l9 : 1 ≤ ot) (u9 : ot ≤ 1) (l10 : 0 ≤ r) (u10 : r ≤ 0) (l11 : (-1) ≤ x11) (u11 : x11 ≤ 7) (l12 : 0 ≤ x12) (u12 : x12 ≤ 399) (f0 : ot ≠ 0) (e6 : S 412 8 = x11) (e5 : S 412 10 = x12) : (True) ∧ (True) ∧ rxIROD_3 S0 ws (bx_up (bx_up (bx_up (bx_up (bx_up S 425 x12 0) 426 x12 ((-1))) 412 10 (x12 + 1)) 412 8 (x11 + 1)) 424 (x11 + 1) 1) ap ot ∧ rxmROD_3 S0 ws (bx_up (bx_up (bx_up (bx_up (bx_up S 425 x12 0) 426 x12 ((-1))) 412 10 (x12 + 1)) 412 8 (x11 + 1)) 424 (x11 + 1) 1) ap ot < rxmROD_2 S0 ws S ap ot r := by
  obtain ⟨rfl, h1, h2, h3, hr⟩ := hinv
  obtain ⟨hD, b0, b8, hp⟩ := (show rzDt S ∧ 0 ≤ S 412 8 ∧ S 412 8 ≤ 8 ∧ _ from hP)
  have hb : S 412 8 = x11 := e6
  have bx : rzIs (rzCut (S 411)) (S 412 1) rzW_not (S 412 2) = false := by
    cases hb : rzIs (rzCut (S 411)) (S 412 1) rzW_not (S 412 2) with
    | false => rfl
    | true =>
      rw [hb, if_pos rfl] at hr
      omega
  have e8 : (bx_up (bx_up (bx_up (bx_up (bx_up S 425 x12 0) 426 x12 (-1)) 412 10 (x12 + 1)) 412 8 (x11 + 1)) 424 (x11 + 1) 1) 412 8 = S 412 8 + 1 := ((bx_up_ne (by omega)).trans (bx_up_at)).trans (by omega)
  refine ⟨trivial, trivial, ⟨⟨congrArg rzCut (funext fun _ => (bx_up_ne (by omega)).trans ((bx_up_ne (by omega)).trans ((bx_up_ne (by omega)).trans ((bx_up_ne (by omega)).trans ((bx_up_ne (by omega))))))), ((bx_up_ne (by omega)).trans ((bx_up_ne (by omega)).trans ((bx_up_ne (by omega)).trans ((bx_up_ne (by omega)).trans ((bx_up_ne (by omega))))))), ((bx_up_ne (by omega)).trans ((bx_up_ne (by omega)).trans ((bx_up_ne (by omega)).trans ((bx_up_ne (by omega)).trans ((bx_up_ne (by omega))))))), ((bx_up_ne (by omega)).trans ((bx_up_ne (by omega)).trans ((bx_up_ne (by omega)).trans ((bx_up_ne (by omega)).trans ((bx_up_ne (by omega)))))))⟩, (bx_up_ne (by omega)).trans ((bx_up_ne (by omega)).trans ((bx_up_ne (by omega)).trans ((bx_up_ne (by omega)).trans ((bx_up_ne (by omega)))))), (bx_up_ne (by omega)).trans ((bx_up_ne (by omega)).trans ((bx_up_ne (by omega)).trans ((bx_up_ne (by omega)).trans ((bx_up_ne (by omega)))))), (bx_up_ne (by omega)).trans ((bx_up_ne (by omega)).trans ((bx_up_ne (by omega)).trans ((bx_up_ne (by omega)).trans ((bx_up_ne (by omega)))))), by omega, by omega, ?_⟩, by unfold rxmROD_2 rxmROD_3; omega⟩
  have g40 : rzSg (rzCut (S 411)) (S 412 1) 40 (S 412 2) = true := by
    by_cases g : rzSg (rzCut (S 411)) (S 412 1) 40 (S 412 2) = true
    · exact g
    · rw [if_neg g] at h3
      omega
  have hl : rzLv (bx_up (bx_up (bx_up (bx_up (bx_up S 425 x12 0) 426 x12 (-1)) 412 10 (x12 + 1)) 412 8 (x11 + 1)) 424 (x11 + 1) 1) = 1 :: S 424 (S 412 8) :: rzLq S := rzLv_open b0 (((bx_up_ne (by omega)).trans (bx_up_at)).trans (by omega)) (show (bx_up (bx_up (bx_up (bx_up (bx_up S 425 x12 0) 426 x12 (-1)) 412 10 (x12 + 1)) 412 8 (x11 + 1)) 424 (x11 + 1) 1) 424 (S 412 8 + 1) = 1 from by rw [hb]; exact bx_up_at) ((bx_up_ne (by omega)).trans ((bx_up_ne (by omega)).trans ((bx_up_ne (by omega)).trans ((bx_up_ne (by omega)).trans ((bx_up_ne (by omega))))))) fun j a c => (bx_up_ne (by omega)).trans ((bx_up_ne (by omega)).trans ((bx_up_ne (by omega)).trans ((bx_up_ne (by omega)).trans ((bx_up_ne (by omega))))))
  rw [rzLv_eq b0, rzStep_0, if_neg hp, if_neg (fun g => by rw [bx] at g; exact absurd g.2 (by decide)), if_pos ⟨h2, g40⟩, if_pos (by rw [rzLq_len]; omega), hl, h2]
theorem rxcROD_2_12 {S0 : Nat → Int → Int} {ws : List Int} {S : Nat → Int → Int} {ap ot r x11 x12 : Int} (hP : rxPROD S0 ws) (hin : bx_same rxL (bx_mdl rxCROD.2.2.1) S0 S) (I0 : bx_Inv rxL S) (hinv : rxIROD_2 S0 ws S ap ot r) (l8 : 0 ≤ ap) (u8 : ap ≤ 1) (l9 : 1 ≤ ot) (u9 : ot ≤ 1) (l10 : 0 ≤ r) (u10 : r ≤ 0) (l11 : (-2147483648) ≤ x11) (u11 : x11 ≤ (-2)) (l12 : 400 ≤ x12) (u12 : x12 ≤ 400) (f0 : ot ≠ 0) (e2 : S 412 8 = x11) (e1 : S 412 10 = x12) : (True) ∧ (True) ∧ rxIROD_3 S0 ws (bx_up S 412 8 (x11 + 1)) ap ot ∧ rxmROD_3 S0 ws (bx_up S 412 8 (x11 + 1)) ap ot < rxmROD_2 S0 ws S ap ot r := by
  obtain ⟨rfl, h1, h2, h3, hr⟩ := hinv
  obtain ⟨hD, b0, b8, hp⟩ := (show rzDt S ∧ 0 ≤ S 412 8 ∧ S 412 8 ≤ 8 ∧ _ from hP)
  have hb : S 412 8 = x11 := e2
  exfalso
  omega
theorem rxcROD_2_13 {S0 : Nat → Int → Int} {ws : List Int} {S : Nat → Int → Int} {ap ot r x11 x12 : Int} (hP : rxPROD S0 ws) (hin : bx_same rxL (bx_mdl rxCROD.2.2.1) S0 S) (I0 : bx_Inv rxL S) (hinv : rxIROD_2 S0 ws S ap ot r) (l8 : 0 ≤ ap) (u8 : ap ≤ 1) (l9 : 1 ≤ ot) (u9 : ot ≤ 1) (l10 : 0 ≤ r) (u10 : r ≤ 0) (l11 : (-1) ≤ x11) (u11 : x11 ≤ 7) (l12 : 400 ≤ x12) (u12 : x12 ≤ 400) (f0 : ot ≠ 0) (e3 : S 412 8 = x11) (e2 : S 412 10 = x12) : (True) ∧ (True) ∧ rxIROD_3 S0 ws (bx_up (bx_up S 412 8 (x11 + 1)) 424 (x11 + 1) 1) ap ot ∧ rxmROD_3 S0 ws (bx_up (bx_up S 412 8 (x11 + 1)) 424 (x11 + 1) 1) ap ot < rxmROD_2 S0 ws S ap ot r := by
  obtain ⟨rfl, h1, h2, h3, hr⟩ := hinv
  obtain ⟨hD, b0, b8, hp⟩ := (show rzDt S ∧ 0 ≤ S 412 8 ∧ S 412 8 ≤ 8 ∧ _ from hP)
  have hb : S 412 8 = x11 := e3
  have bx : rzIs (rzCut (S 411)) (S 412 1) rzW_not (S 412 2) = false := by
    cases hb : rzIs (rzCut (S 411)) (S 412 1) rzW_not (S 412 2) with
    | false => rfl
    | true =>
      rw [hb, if_pos rfl] at hr
      omega
  have e8 : (bx_up (bx_up S 412 8 (x11 + 1)) 424 (x11 + 1) 1) 412 8 = S 412 8 + 1 := ((bx_up_ne (by omega)).trans (bx_up_at)).trans (by omega)
  refine ⟨trivial, trivial, ⟨⟨congrArg rzCut (funext fun _ => (bx_up_ne (by omega)).trans ((bx_up_ne (by omega)))), ((bx_up_ne (by omega)).trans ((bx_up_ne (by omega)))), ((bx_up_ne (by omega)).trans ((bx_up_ne (by omega)))), ((bx_up_ne (by omega)).trans ((bx_up_ne (by omega))))⟩, (bx_up_ne (by omega)).trans ((bx_up_ne (by omega))), (bx_up_ne (by omega)).trans ((bx_up_ne (by omega))), (bx_up_ne (by omega)).trans ((bx_up_ne (by omega))), by omega, by omega, ?_⟩, by unfold rxmROD_2 rxmROD_3; omega⟩
  have g40 : rzSg (rzCut (S 411)) (S 412 1) 40 (S 412 2) = true := by
    by_cases g : rzSg (rzCut (S 411)) (S 412 1) 40 (S 412 2) = true
    · exact g
    · rw [if_neg g] at h3
      omega
  have hl : rzLv (bx_up (bx_up S 412 8 (x11 + 1)) 424 (x11 + 1) 1) = 1 :: S 424 (S 412 8) :: rzLq S := rzLv_open b0 (((bx_up_ne (by omega)).trans (bx_up_at)).trans (by omega)) (show (bx_up (bx_up S 412 8 (x11 + 1)) 424 (x11 + 1) 1) 424 (S 412 8 + 1) = 1 from by rw [hb]; exact bx_up_at) ((bx_up_ne (by omega)).trans ((bx_up_ne (by omega)))) fun j a c => (bx_up_ne (by omega)).trans ((bx_up_ne (by omega)))
  rw [rzLv_eq b0, rzStep_0, if_neg hp, if_neg (fun g => by rw [bx] at g; exact absurd g.2 (by decide)), if_pos ⟨h2, g40⟩, if_pos (by rw [rzLq_len]; omega), hl, h2]
theorem rxdROD_2_0 {S0 : Nat → Int → Int} {ws : List Int} {S : Nat → Int → Int} {ap ot r x11 x12 : Int} (hP : rxPROD S0 ws) (hin : bx_same rxL (bx_mdl rxCROD.2.2.1) S0 S) (hin2 : bx_same rxL (bx_mdl rxCROD.2.2.1) S (bx_up S 412 4 x11)) (I0 : bx_Inv rxL S) (I1 : bx_Inv rxL (bx_up S 412 4 x11)) (hinv : rxIROD_2 S0 ws S ap ot r) (l8 : 0 ≤ ap) (u8 : ap ≤ 1) (l9 : 0 ≤ ot) (u9 : ot ≤ 0) (l10 : 0 ≤ r) (u10 : r ≤ 0) (l11 : 0 ≤ x11) (u11 : x11 ≤ 400) (l12 : 0 ≤ x12) (u12 : x12 ≤ 400) (f0 : x12 ≤ x11) (e2 : S 412 2 = x11) (e1 : S 412 1 = x12) : (True) ∧ rxPSROD S0 ws (bx_up S 412 4 x11) (some 0) := by
  obtain ⟨rfl, h1, h2, h3, hr⟩ := hinv
  obtain ⟨hD, b0, b8, hp⟩ := (show rzDt S ∧ 0 ≤ S 412 8 ∧ S 412 8 ≤ 8 ∧ _ from hP)
  have bx : rzIs (rzCut (S 411)) (S 412 1) rzW_not (S 412 2) = false := by
    cases hb : rzIs (rzCut (S 411)) (S 412 1) rzW_not (S 412 2) with
    | false => rfl
    | true =>
      rw [hb, if_pos rfl] at hr
      omega
  refine ⟨trivial, Or.inr ⟨rfl, ?_, bx_up_at.trans e2.symm⟩⟩
  rw [rzLv_eq b0, rzStep_0, if_neg hp, if_neg (fun g => by rw [bx] at g; exact absurd g.2 (by decide))]
  by_cases z1 : S 424 (S 412 8) = 1 ∧ rzSg (rzCut (S 411)) (S 412 1) 40 (S 412 2) = true
  · rw [if_pos z1]
    have z2 := of_decide_eq_true z1.2
    obtain ⟨za, zb⟩ := z2
    first | (exfalso; omega) | (exact if_neg (by rw [rzLq_len]; omega)) | (rw [if_pos z1.2] at h3; first | (exfalso; omega) | exact if_neg (by rw [rzLq_len]; omega))
  · rw [if_neg z1]
    by_cases z3 : rzSg (rzCut (S 411)) (S 412 1) 91 (S 412 2) = true
    · rw [if_pos z3]
      have z4 := of_decide_eq_true z3
      obtain ⟨za, zb⟩ := z4
      first | (exfalso; omega) | exact if_neg (by rw [rzLq_len]; omega)
    · rw [if_neg z3]
theorem rxdROD_2_1 {S0 : Nat → Int → Int} {ws : List Int} {S : Nat → Int → Int} {ap ot r x11 x12 x13 : Int} (hP : rxPROD S0 ws) (hin : bx_same rxL (bx_mdl rxCROD.2.2.1) S0 S) (hin2 : bx_same rxL (bx_mdl rxCROD.2.2.1) S (bx_up S 412 4 x11)) (I0 : bx_Inv rxL S) (I1 : bx_Inv rxL (bx_up S 412 4 x11)) (hinv : rxIROD_2 S0 ws S ap ot r) (l8 : 0 ≤ ap) (u8 : ap ≤ 1) (l9 : 0 ≤ ot) (u9 : ot ≤ 0) (l10 : 0 ≤ r) (u10 : r ≤ 0) (l11 : 0 ≤ x11) (u11 : x11 ≤ 399) (l12 : 1 ≤ x12) (u12 : x12 ≤ 400) (l13 : 0 ≤ x13) (u13 : x13 ≤ 255) (f0 : x13 ≠ 91) (f1 : x11 < x12) (e3 : S 412 2 = x11) (e2 : S 412 1 = x12) (e1 : S 411 x11 = x13) : (True) ∧ rxPSROD S0 ws (bx_up S 412 4 x11) (some 0) := by
  obtain ⟨rfl, h1, h2, h3, hr⟩ := hinv
  obtain ⟨hD, b0, b8, hp⟩ := (show rzDt S ∧ 0 ≤ S 412 8 ∧ S 412 8 ≤ 8 ∧ _ from hP)
  have qe1 : rzCut (S 411) (S 412 2) = x13 := by
    rw [e3]
    exact rzCut_at (e1) (by omega) (by omega)
  have bx : rzIs (rzCut (S 411)) (S 412 1) rzW_not (S 412 2) = false := by
    cases hb : rzIs (rzCut (S 411)) (S 412 1) rzW_not (S 412 2) with
    | false => rfl
    | true =>
      rw [hb, if_pos rfl] at hr
      omega
  refine ⟨trivial, Or.inr ⟨rfl, ?_, bx_up_at.trans e3.symm⟩⟩
  rw [rzLv_eq b0, rzStep_0, if_neg hp, if_neg (fun g => by rw [bx] at g; exact absurd g.2 (by decide))]
  by_cases z1 : S 424 (S 412 8) = 1 ∧ rzSg (rzCut (S 411)) (S 412 1) 40 (S 412 2) = true
  · rw [if_pos z1]
    have z2 := of_decide_eq_true z1.2
    obtain ⟨za, zb⟩ := z2
    first | (exfalso; omega) | (exact if_neg (by rw [rzLq_len]; omega)) | (rw [if_pos z1.2] at h3; first | (exfalso; omega) | exact if_neg (by rw [rzLq_len]; omega))
  · rw [if_neg z1]
    by_cases z3 : rzSg (rzCut (S 411)) (S 412 1) 91 (S 412 2) = true
    · rw [if_pos z3]
      have z4 := of_decide_eq_true z3
      obtain ⟨za, zb⟩ := z4
      first | (exfalso; omega) | exact if_neg (by rw [rzLq_len]; omega)
    · rw [if_neg z3]
theorem rxdROD_2_2 {S0 : Nat → Int → Int} {ws : List Int} {S : Nat → Int → Int} {ap ot r x11 x12 x13 x14 : Int} (hP : rxPROD S0 ws) (hin : bx_same rxL (bx_mdl rxCROD.2.2.1) S0 S) (hin2 : bx_same rxL (bx_mdl rxCROD.2.2.1) S (bx_up S 412 4 x11)) (I0 : bx_Inv rxL S) (I1 : bx_Inv rxL (bx_up S 412 4 x11)) (hinv : rxIROD_2 S0 ws S ap ot r) (l8 : 0 ≤ ap) (u8 : ap ≤ 1) (l9 : 0 ≤ ot) (u9 : ot ≤ 0) (l10 : 0 ≤ r) (u10 : r ≤ 0) (l11 : 0 ≤ x11) (u11 : x11 ≤ 399) (l12 : 1 ≤ x12) (u12 : x12 ≤ 400) (l13 : 91 ≤ x13) (u13 : x13 ≤ 91) (l14 : 8 ≤ x14) (u14 : x14 ≤ 2147483647) (f0 : x11 < x12) (e4 : S 412 2 = x11) (e3 : S 412 1 = x12) (e2 : S 411 x11 = x13) (e1 : S 412 8 = x14) : (True) ∧ rxPSROD S0 ws (bx_up S 412 4 x11) (some 0) := by
  obtain ⟨rfl, h1, h2, h3, hr⟩ := hinv
  obtain ⟨hD, b0, b8, hp⟩ := (show rzDt S ∧ 0 ≤ S 412 8 ∧ S 412 8 ≤ 8 ∧ _ from hP)
  have hb : S 412 8 = x14 := e1
  have qe2 : rzCut (S 411) (S 412 2) = x13 := by
    rw [e4]
    exact rzCut_at (e2) (by omega) (by omega)
  have bx : rzIs (rzCut (S 411)) (S 412 1) rzW_not (S 412 2) = false := by
    cases hb : rzIs (rzCut (S 411)) (S 412 1) rzW_not (S 412 2) with
    | false => rfl
    | true =>
      rw [hb, if_pos rfl] at hr
      omega
  refine ⟨trivial, Or.inr ⟨rfl, ?_, bx_up_at.trans e4.symm⟩⟩
  rw [rzLv_eq b0, rzStep_0, if_neg hp, if_neg (fun g => by rw [bx] at g; exact absurd g.2 (by decide))]
  by_cases z1 : S 424 (S 412 8) = 1 ∧ rzSg (rzCut (S 411)) (S 412 1) 40 (S 412 2) = true
  · rw [if_pos z1]
    have z2 := of_decide_eq_true z1.2
    obtain ⟨za, zb⟩ := z2
    first | (exfalso; omega) | (exact if_neg (by rw [rzLq_len]; omega)) | (rw [if_pos z1.2] at h3; first | (exfalso; omega) | exact if_neg (by rw [rzLq_len]; omega))
  · rw [if_neg z1]
    by_cases z3 : rzSg (rzCut (S 411)) (S 412 1) 91 (S 412 2) = true
    · rw [if_pos z3]
      have z4 := of_decide_eq_true z3
      obtain ⟨za, zb⟩ := z4
      first | (exfalso; omega) | exact if_neg (by rw [rzLq_len]; omega)
    · rw [if_neg z3]
theorem rxdROD_2_3 {S0 : Nat → Int → Int} {ws : List Int} {S : Nat → Int → Int} {ap ot r x11 x12 : Int} (hP : rxPROD S0 ws) (hin : bx_same rxL (bx_mdl rxCROD.2.2.1) S0 S) (hin2 : bx_same rxL (bx_mdl rxCROD.2.2.1) S (bx_up S 412 4 x12)) (I0 : bx_Inv rxL S) (I1 : bx_Inv rxL (bx_up S 412 4 x12)) (hinv : rxIROD_2 S0 ws S ap ot r) (l8 : 0 ≤ ap) (u8 : ap ≤ 1) (l9 : 1 ≤ ot) (u9 : ot ≤ 1) (l10 : 0 ≤ r) (u10 : r ≤ 0) (l11 : 8 ≤ x11) (u11 : x11 ≤ 2147483647) (l12 : 0 ≤ x12) (u12 : x12 ≤ 400) (f0 : ot ≠ 0) (e2 : S 412 8 = x11) (e1 : S 412 2 = x12) : (True) ∧ rxPSROD S0 ws (bx_up S 412 4 x12) (some 0) := by
  obtain ⟨rfl, h1, h2, h3, hr⟩ := hinv
  obtain ⟨hD, b0, b8, hp⟩ := (show rzDt S ∧ 0 ≤ S 412 8 ∧ S 412 8 ≤ 8 ∧ _ from hP)
  have hb : S 412 8 = x11 := e2
  have bx : rzIs (rzCut (S 411)) (S 412 1) rzW_not (S 412 2) = false := by
    cases hb : rzIs (rzCut (S 411)) (S 412 1) rzW_not (S 412 2) with
    | false => rfl
    | true =>
      rw [hb, if_pos rfl] at hr
      omega
  refine ⟨trivial, Or.inr ⟨rfl, ?_, bx_up_at.trans e1.symm⟩⟩
  rw [rzLv_eq b0, rzStep_0, if_neg hp, if_neg (fun g => by rw [bx] at g; exact absurd g.2 (by decide))]
  by_cases z1 : S 424 (S 412 8) = 1 ∧ rzSg (rzCut (S 411)) (S 412 1) 40 (S 412 2) = true
  · rw [if_pos z1]
    have z2 := of_decide_eq_true z1.2
    obtain ⟨za, zb⟩ := z2
    first | (exfalso; omega) | (exact if_neg (by rw [rzLq_len]; omega)) | (rw [if_pos z1.2] at h3; first | (exfalso; omega) | exact if_neg (by rw [rzLq_len]; omega))
  · rw [if_neg z1]
    by_cases z3 : rzSg (rzCut (S 411)) (S 412 1) 91 (S 412 2) = true
    · rw [if_pos z3]
      have z4 := of_decide_eq_true z3
      obtain ⟨za, zb⟩ := z4
      first | (exfalso; omega) | exact if_neg (by rw [rzLq_len]; omega)
    · rw [if_neg z3]
theorem rxdROD_4_0 {S0 : Nat → Int → Int} {ws : List Int} {S : Nat → Int → Int} {ap ot : Int} (hP : rxPROD S0 ws) (hin : bx_same rxL (bx_mdl rxCROD.2.2.1) S0 S) (hin2 : bx_same rxL (bx_mdl rxCROD.2.2.1) S S) (I0 : bx_Inv rxL S) (I1 : bx_Inv rxL S) (hinv : rxIROD_4 S0 ws S ap ot) (l8 : 0 ≤ ap) (u8 : ap ≤ 1) (l9 : 0 ≤ ot) (u9 : ot ≤ 1) : (True) ∧ rxPSROD S0 ws S (some 1) := by
  obtain ⟨h1, h2, h3, h4, h5⟩ := hinv
  exact ⟨trivial, Or.inl ⟨rfl, h1, h2, h3, h4, h5⟩⟩
noncomputable def rxCRCD : bx_Ct := ([(3, (1, 412, 0))], none, [(6, 0), (7, 2), (7, 3), (7, 8), (7, 10), (1021, 0), (1022, 0), (1034, 0)], 2, [(412, 0, 3, (1, 411, 0)), (412, 6, 3, (1, 427, 0))])
noncomputable def rxIRCD_0 (S0 : Nat → Int → Int) (ws : List Int) (S : Nat → Int → Int) : Prop := S = S0 ∧ ws = [412]
noncomputable def rxmRCD_0 (S0 : Nat → Int → Int) (ws : List Int) (S : Nat → Int → Int) : Nat := 100
noncomputable def rxIRCD_1 (S0 : Nat → Int → Int) (ws : List Int) (S : Nat → Int → Int) : Prop := S = S0
noncomputable def rxmRCD_1 (S0 : Nat → Int → Int) (ws : List Int) (S : Nat → Int → Int) : Nat := 90
noncomputable def rxIRCD_2 (S0 : Nat → Int → Int) (ws : List Int) (S : Nat → Int → Int) : Prop := rzKp S0 S ∧ S 412 2 = S0 412 2 ∧ S 412 3 = S0 412 3 ∧ S 412 7 = S0 412 7 ∧ S 412 8 = S0 412 8 ∧ (∀ i : Int, 0 ≤ i → i < 9 → S 424 i = S0 424 i)
noncomputable def rxmRCD_2 (S0 : Nat → Int → Int) (ws : List Int) (S : Nat → Int → Int) : Nat := 80
noncomputable def rxIRCD_3 (S0 : Nat → Int → Int) (ws : List Int) (S : Nat → Int → Int) (x : Int) : Prop := x = S0 412 8 ∧ rzKp S0 S ∧ S 412 2 = S0 412 2 ∧ S 412 3 = S0 412 3 ∧ S 412 7 = S0 412 7 ∧ S 412 8 = S0 412 8 ∧ (∀ i : Int, 0 ≤ i → i < 9 → S 424 i = S0 424 i)
noncomputable def rxmRCD_3 (S0 : Nat → Int → Int) (ws : List Int) (S : Nat → Int → Int) (x : Int) : Nat := 75
noncomputable def rxIRCD_4 (S0 : Nat → Int → Int) (ws : List Int) (S : Nat → Int → Int) (x y : Int) : Prop := y = S0 412 8 - 1 ∧ rzKp S0 S ∧ S 412 2 = S0 412 2 ∧ S 412 3 = S0 412 3 ∧ S 412 7 = S0 412 7 ∧ S 412 8 = S0 412 8 ∧ (∀ i : Int, 0 ≤ i → i < 9 → S 424 i = S0 424 i)
noncomputable def rxmRCD_4 (S0 : Nat → Int → Int) (ws : List Int) (S : Nat → Int → Int) (x y : Int) : Nat := 70
noncomputable def rxIRCD_5 (S0 : Nat → Int → Int) (ws : List Int) (S : Nat → Int → Int) : Prop := rzKp S0 S ∧ S 412 2 = S0 412 2 ∧ S 412 3 = S0 412 3 ∧ S 412 7 = S0 412 7 ∧ 0 ≤ S 412 8 ∧ S 412 8 ≤ 8 ∧ rzStep (rzCut (S0 411)) (S0 412 1) (rzWs S0) (S0 412 2) (rzLv S0) true (S0 412 7) = (0, rzN (rzCut (S0 411)) (S0 412 1) (S0 412 2), rzLv S, true, S0 412 7)
noncomputable def rxmRCD_5 (S0 : Nat → Int → Int) (ws : List Int) (S : Nat → Int → Int) : Nat := 50
noncomputable def rxIRCD_6 (S0 : Nat → Int → Int) (ws : List Int) (S : Nat → Int → Int) : Prop := rzDt S ∧ rzStep (rzCut (S0 411)) (S0 412 1) (rzWs S0) (S0 412 2) (rzLv S0) true (S0 412 7) = (0, S 412 2, rzLv S, true, S 412 7) ∧ 0 ≤ S 412 8 ∧ S 412 8 ≤ 8
noncomputable def rxmRCD_6 (S0 : Nat → Int → Int) (ws : List Int) (S : Nat → Int → Int) : Nat := 40
noncomputable def rxPRCD (S0 : Nat → Int → Int) (ws : List Int) : Prop := rzDt S0 ∧ 1 ≤ S0 412 8 ∧ S0 412 8 ≤ 8 ∧ ((S0 424 (S0 412 8) = 0 ∧ rzSg (rzCut (S0 411)) (S0 412 1) 93 (S0 412 2) = true) ∨ ((S0 424 (S0 412 8) = 3 ∨ S0 424 (S0 412 8) = 4) ∧ rzSg (rzCut (S0 411)) (S0 412 1) 41 (S0 412 2) = true))
noncomputable def rxPSRCD (S0 : Nat → Int → Int) (ws : List Int) (S : Nat → Int → Int) (w : Option Int) : Prop := w = none ∧ rzDt S ∧ rzStep (rzCut (S0 411)) (S0 412 1) (rzWs S0) (S0 412 2) (rzLv S0) true (S0 412 7) = (0, S 412 2, rzLv S, true, S 412 7) ∧ 0 ≤ S 412 8 ∧ S 412 8 ≤ 8
theorem rxkRCD_1 {S0 : Nat → Int → Int} {ws : List Int} {S : Nat → Int → Int} (hP : rxPRCD S0 ws) (hin : bx_same rxL (bx_mdl rxCRCD.2.2.1) S0 S) (I0 : bx_Inv rxL S) (hinv : rxIRCD_1 S0 ws S)  : rxPRDD S [412, 1] ∧ ∀ (S_p : Nat → Int → Int), rxPSRDD S [412, 1] S_p none → bx_Inv rxL S_p → bx_same rxL (bx_mdl rxCRDD.2.2.1) S S_p → rxIRCD_2 S0 ws S_p ∧ rxmRCD_2 S0 ws S_p < rxmRCD_1 S0 ws S := by
  have hinv : S = S0 := hinv
  subst hinv
  refine ⟨trivial, fun S_p hq _ hsm => ⟨?_, by unfold rxmRCD_1 rxmRCD_2; omega⟩⟩
  exact ⟨rzKp_of hsm (by decide +kernel) (by decide +kernel) (by decide +kernel) (by decide +kernel), hsm 412 2 (by decide) (by decide) (by decide +kernel), hsm 412 3 (by decide) (by decide) (by decide +kernel), hsm 412 7 (by decide) (by decide) (by decide +kernel), hsm 412 8 (by decide) (by decide) (by decide +kernel), rz_fd hsm (p := 424) (n := 9) (c := 1034) (k := 0) (by decide +kernel) (by decide) (by decide +kernel)⟩
theorem rxbRCD_3 {S0 : Nat → Int → Int} {ws : List Int} {S : Nat → Int → Int} {x : Int} (hP : rxPRCD S0 ws) (hin : bx_same rxL (bx_mdl rxCRCD.2.2.1) S0 S) (I0 : bx_Inv rxL S) (hinv : rxIRCD_3 S0 ws S x) (l8 : (-2147483648) ≤ x) (u8 : x ≤ 2147483647) : bx_opcB 34 x 1 ∧ ∀ y : Int, y = bx_opvB 34 x 1 → ((-2147483648) ≤ y ∧ y ≤ 2147483647) ∧ rxIRCD_4 S0 ws S x y ∧ rxmRCD_4 S0 ws S x y < rxmRCD_3 S0 ws S x := by
  obtain ⟨hx, hh⟩ := hinv
  obtain ⟨hD, b1, b8, hc⟩ := hP
  refine ⟨⟨⟨by omega, by omega⟩, show (-2147483648 : Int) ≤ 1 ∧ (1 : Int) ≤ 2147483647 ∧ -2147483648 ≤ x - 1 ∧ x - 1 ≤ 2147483647 by omega⟩, fun y hv => ?_⟩
  have hv : y = x - 1 := hv
  exact ⟨by omega, ⟨by omega, hh⟩, by unfold rxmRCD_3 rxmRCD_4; omega⟩
theorem rxkRCD_5 {S0 : Nat → Int → Int} {ws : List Int} {S : Nat → Int → Int} (hP : rxPRCD S0 ws) (hin : bx_same rxL (bx_mdl rxCRCD.2.2.1) S0 S) (I0 : bx_Inv rxL S) (hinv : rxIRCD_5 S0 ws S)  : rxPAD S [412] ∧ ∀ (S_p : Nat → Int → Int), rxPSAD S [412] S_p none → bx_Inv rxL S_p → bx_same rxL (bx_mdl rxC84.2.2.1) S S_p → rxIRCD_6 S0 ws S_p ∧ rxmRCD_6 S0 ws S_p < rxmRCD_5 S0 ws S := by
  obtain ⟨hk, h2, h3, h7, c0, c8, hst⟩ := hinv
  have hD := hP.1
  refine ⟨trivial, fun S_p hq _ hsm => ⟨?_, by unfold rxmRCD_5 rxmRCD_6; omega⟩⟩
  obtain ⟨-, q2, q3⟩ := hq
  have h := rzDt_ad (rzDt_kp hD hk h2 h3) (rzKp_of hsm (by decide +kernel) (by decide +kernel) (by decide +kernel) (by decide +kernel)) q2 q3
  have f7 : S_p 412 7 = S 412 7 := hsm 412 7 (by decide) (by decide) (by decide +kernel)
  have f8 : S_p 412 8 = S 412 8 := hsm 412 8 (by decide) (by decide) (by decide +kernel)
  have ft := rz_fd hsm (p := 424) (n := 9) (c := 1034) (k := 0) (by decide +kernel) (by decide) (by decide +kernel)
  have hl : rzLv S_p = rzLv S := (rzLv_set c0 f8 (ft _ c0 (by omega)) fun j a c => ft j a (by omega)).trans (rzLv_eq c0).symm
  refine ⟨h.1, ?_, by omega, by omega⟩
  rw [hst, hl, f7, h7, h.2, hk.1, hk.2.1, h2]
theorem rxcRCD_0_0 {S0 : Nat → Int → Int} {ws : List Int} {S : Nat → Int → Int} (hP : rxPRCD S0 ws) (hin : bx_same rxL (bx_mdl rxCRCD.2.2.1) S0 S) (I0 : bx_Inv rxL S) (hinv : rxIRCD_0 S0 ws S)  : (True) ∧ (True) ∧ rxIRCD_1 S0 ws S ∧ rxmRCD_1 S0 ws S < rxmRCD_0 S0 ws S := by
  obtain ⟨rfl, hw⟩ := hinv
  exact ⟨trivial, trivial, rfl, by unfold rxmRCD_0 rxmRCD_1; omega⟩
theorem rxcRCD_2_0 {S0 : Nat → Int → Int} {ws : List Int} {S : Nat → Int → Int} {x8 x9 : Int} (hP : rxPRCD S0 ws) (hin : bx_same rxL (bx_mdl rxCRCD.2.2.1) S0 S) (I0 : bx_Inv rxL S) (hinv : rxIRCD_2 S0 ws S) (l8 : 1 ≤ x8) (u8 : x8 ≤ 400) (l9 : (-2147483648) ≤ x9) (u9 : x9 ≤ 2147483647) (e2 : S 412 10 = x8) (e0 : (bx_up S 412 10 (x8 + (-1))) 412 8 = x9) : (True) ∧ (True) ∧ rxIRCD_3 S0 ws (bx_up S 412 10 (x8 + (-1))) x9 ∧ rxmRCD_3 S0 ws (bx_up S 412 10 (x8 + (-1))) x9 < rxmRCD_2 S0 ws S := by
  obtain ⟨hk, h2, h3, h7, h8, ht⟩ := hinv
  exact ⟨trivial, trivial, ⟨(((bx_up_ne (by omega))).symm.trans e0).symm.trans h8, ⟨(congrArg rzCut (funext fun _ => (bx_up_ne (by omega)))).trans hk.1, ((bx_up_ne (by omega))).trans hk.2.1, ((bx_up_ne (by omega))).trans hk.2.2.1, ((bx_up_ne (by omega))).trans hk.2.2.2⟩, ((bx_up_ne (by omega))).trans h2, ((bx_up_ne (by omega))).trans h3, ((bx_up_ne (by omega))).trans h7, ((bx_up_ne (by omega))).trans h8, fun j a c => ((bx_up_ne (by omega))).trans (ht j a c)⟩, by unfold rxmRCD_2 rxmRCD_3; omega⟩
theorem rxcRCD_2_1 {S0 : Nat → Int → Int} {ws : List Int} {S : Nat → Int → Int} {x8 x9 : Int} (hP : rxPRCD S0 ws) (hin : bx_same rxL (bx_mdl rxCRCD.2.2.1) S0 S) (I0 : bx_Inv rxL S) (hinv : rxIRCD_2 S0 ws S) (l8 : 0 ≤ x8) (u8 : x8 ≤ 0) (l9 : (-2147483648) ≤ x9) (u9 : x9 ≤ 2147483647) (e1 : S 412 10 = x8) (e0 : S 412 8 = x9) : (True) ∧ (True) ∧ rxIRCD_3 S0 ws S x9 ∧ rxmRCD_3 S0 ws S x9 < rxmRCD_2 S0 ws S := by
  obtain ⟨hk, h2, h3, h7, h8, ht⟩ := hinv
  exact ⟨trivial, trivial, ⟨e0.symm.trans h8, hk, h2, h3, h7, h8, fun j a c => ht j a c⟩, by unfold rxmRCD_2 rxmRCD_3; omega⟩
theorem rxcRCD_4_0 {S0 : Nat → Int → Int} {ws : List Int} {S : Nat → Int → Int} {x y x10 x11 : Int} (hP : rxPRCD S0 ws) (hin : bx_same rxL (bx_mdl rxCRCD.2.2.1) S0 S) (I0 : bx_Inv rxL S) (hinv : rxIRCD_4 S0 ws S x y) (l8 : (-2147483648) ≤ x) (u8 : x ≤ 2147483647) (l9 : (-2147483648) ≤ y) (u9 : y ≤ 2147483647) (l10 : 0 ≤ x10) (u10 : x10 ≤ 400) (l11 : 0 ≤ x11) (u11 : x11 ≤ 400) (f0 : x11 ≤ x10) (e1 : (bx_up S 412 8 y) 412 2 = x10) (e0 : (bx_up S 412 8 y) 412 1 = x11) : (True) ∧ (True) ∧ rxIRCD_5 S0 ws (bx_up S 412 8 y) ∧ rxmRCD_5 S0 ws (bx_up S 412 8 y) < rxmRCD_4 S0 ws S x y := by
  obtain ⟨hy0, hk, h2, h3, h7, h8, ht⟩ := hinv
  obtain ⟨hD, b1, b8, hc⟩ := hP
  have hy : S 412 1 = x11 := (((bx_up_ne (by omega))).symm.trans e0)
  have hz : S 412 2 = x10 := (((bx_up_ne (by omega))).symm.trans e1)
  have hy1 := hk.2.1
  have d3 := hD.2.2.1
  have e8 : (bx_up S 412 8 y) 412 8 = S0 412 8 - 1 := (bx_up_at).trans (by omega)
  refine ⟨trivial, trivial, ⟨⟨(congrArg rzCut (funext fun _ => (bx_up_ne (by omega)))).trans hk.1, ((bx_up_ne (by omega))).trans hk.2.1, ((bx_up_ne (by omega))).trans hk.2.2.1, ((bx_up_ne (by omega))).trans hk.2.2.2⟩, ((bx_up_ne (by omega))).trans h2, ((bx_up_ne (by omega))).trans h3, ((bx_up_ne (by omega))).trans h7, by omega, by omega, ?_⟩, by unfold rxmRCD_4 rxmRCD_5; omega⟩
  rcases hc with ⟨c1, c2⟩ | ⟨c1, c2⟩
  · have hl : rzLv (bx_up S 412 8 y) = rzLq S0 := rzLv_close b1 e8 fun j a c => ((bx_up_ne (by omega))).trans (ht j a (by omega))
    rw [rzLv_eq (by omega), rzStep_1, if_pos ⟨rzLq_ne b1, c1, c2⟩, hl]
  · exfalso
    have c3 := of_decide_eq_true c2
    obtain ⟨ca, cb⟩ := c3
    omega
theorem rxcRCD_4_1 {S0 : Nat → Int → Int} {ws : List Int} {S : Nat → Int → Int} {x y x10 x11 x12 : Int} (hP : rxPRCD S0 ws) (hin : bx_same rxL (bx_mdl rxCRCD.2.2.1) S0 S) (I0 : bx_Inv rxL S) (hinv : rxIRCD_4 S0 ws S x y) (l8 : (-2147483648) ≤ x) (u8 : x ≤ 2147483647) (l9 : (-2147483648) ≤ y) (u9 : y ≤ 2147483647) (l10 : 0 ≤ x10) (u10 : x10 ≤ 399) (l11 : 1 ≤ x11) (u11 : x11 ≤ 400) (l12 : 0 ≤ x12) (u12 : x12 ≤ 255) (f0 : x12 ≠ 41) (f1 : x10 < x11) (e2 : (bx_up S 412 8 y) 412 2 = x10) (e1 : (bx_up S 412 8 y) 412 1 = x11) (e0 : (bx_up S 412 8 y) 411 x10 = x12) : (True) ∧ (True) ∧ rxIRCD_5 S0 ws (bx_up S 412 8 y) ∧ rxmRCD_5 S0 ws (bx_up S 412 8 y) < rxmRCD_4 S0 ws S x y := by
  obtain ⟨hy0, hk, h2, h3, h7, h8, ht⟩ := hinv
  obtain ⟨hD, b1, b8, hc⟩ := hP
  have hy : S 412 1 = x11 := (((bx_up_ne (by omega))).symm.trans e1)
  have qe0 : rzCut (S0 411) (S0 412 2) = x12 := by
    have z : S0 412 2 = x10 := h2.symm.trans (((bx_up_ne (by omega))).symm.trans e2)
    rw [z, ← hk.1]
    exact rzCut_at ((((bx_up_ne (by omega))).symm.trans e0)) (by omega) (by omega)
  have hz : S 412 2 = x10 := (((bx_up_ne (by omega))).symm.trans e2)
  have hy1 := hk.2.1
  have d3 := hD.2.2.1
  have e8 : (bx_up S 412 8 y) 412 8 = S0 412 8 - 1 := (bx_up_at).trans (by omega)
  refine ⟨trivial, trivial, ⟨⟨(congrArg rzCut (funext fun _ => (bx_up_ne (by omega)))).trans hk.1, ((bx_up_ne (by omega))).trans hk.2.1, ((bx_up_ne (by omega))).trans hk.2.2.1, ((bx_up_ne (by omega))).trans hk.2.2.2⟩, ((bx_up_ne (by omega))).trans h2, ((bx_up_ne (by omega))).trans h3, ((bx_up_ne (by omega))).trans h7, by omega, by omega, ?_⟩, by unfold rxmRCD_4 rxmRCD_5; omega⟩
  rcases hc with ⟨c1, c2⟩ | ⟨c1, c2⟩
  · have hl : rzLv (bx_up S 412 8 y) = rzLq S0 := rzLv_close b1 e8 fun j a c => ((bx_up_ne (by omega))).trans (ht j a (by omega))
    rw [rzLv_eq (by omega), rzStep_1, if_pos ⟨rzLq_ne b1, c1, c2⟩, hl]
  · exfalso
    have c3 := of_decide_eq_true c2
    obtain ⟨ca, cb⟩ := c3
    omega
theorem rxcRCD_4_2 {S0 : Nat → Int → Int} {ws : List Int} {S : Nat → Int → Int} {x y x10 x11 x12 : Int} (hP : rxPRCD S0 ws) (hin : bx_same rxL (bx_mdl rxCRCD.2.2.1) S0 S) (I0 : bx_Inv rxL S) (hinv : rxIRCD_4 S0 ws S x y) (l8 : (-2147483648) ≤ x) (u8 : x ≤ 2147483647) (l9 : (-2147483648) ≤ y) (u9 : y ≤ (-1)) (l10 : 0 ≤ x10) (u10 : x10 ≤ 399) (l11 : 1 ≤ x11) (u11 : x11 ≤ 400) (l12 : 41 ≤ x12) (u12 : x12 ≤ 41) (f0 : x10 < x11) (e2 : (bx_up S 412 8 y) 412 2 = x10) (e1 : (bx_up S 412 8 y) 412 1 = x11) (e0 : (bx_up S 412 8 y) 411 x10 = x12) : (True) ∧ (True) ∧ rxIRCD_5 S0 ws (bx_up S 412 8 y) ∧ rxmRCD_5 S0 ws (bx_up S 412 8 y) < rxmRCD_4 S0 ws S x y := by
  obtain ⟨hy0, hk, h2, h3, h7, h8, ht⟩ := hinv
  obtain ⟨hD, b1, b8, hc⟩ := hP
  have hy : S 412 1 = x11 := (((bx_up_ne (by omega))).symm.trans e1)
  have qe0 : rzCut (S0 411) (S0 412 2) = x12 := by
    have z : S0 412 2 = x10 := h2.symm.trans (((bx_up_ne (by omega))).symm.trans e2)
    rw [z, ← hk.1]
    exact rzCut_at ((((bx_up_ne (by omega))).symm.trans e0)) (by omega) (by omega)
  have hz : S 412 2 = x10 := (((bx_up_ne (by omega))).symm.trans e2)
  have hy1 := hk.2.1
  have d3 := hD.2.2.1
  exfalso
  omega
theorem rxcRCD_4_3 {S0 : Nat → Int → Int} {ws : List Int} {S : Nat → Int → Int} {x y x10 x11 x12 : Int} (hP : rxPRCD S0 ws) (hin : bx_same rxL (bx_mdl rxCRCD.2.2.1) S0 S) (I0 : bx_Inv rxL S) (hinv : rxIRCD_4 S0 ws S x y) (l8 : (-2147483648) ≤ x) (u8 : x ≤ 2147483647) (l9 : 9 ≤ y) (u9 : y ≤ 2147483647) (l10 : 0 ≤ x10) (u10 : x10 ≤ 399) (l11 : 1 ≤ x11) (u11 : x11 ≤ 400) (l12 : 41 ≤ x12) (u12 : x12 ≤ 41) (f0 : x10 < x11) (e2 : (bx_up S 412 8 y) 412 2 = x10) (e1 : (bx_up S 412 8 y) 412 1 = x11) (e0 : (bx_up S 412 8 y) 411 x10 = x12) : (True) ∧ (True) ∧ rxIRCD_5 S0 ws (bx_up S 412 8 y) ∧ rxmRCD_5 S0 ws (bx_up S 412 8 y) < rxmRCD_4 S0 ws S x y := by
  obtain ⟨hy0, hk, h2, h3, h7, h8, ht⟩ := hinv
  obtain ⟨hD, b1, b8, hc⟩ := hP
  have hy : S 412 1 = x11 := (((bx_up_ne (by omega))).symm.trans e1)
  have qe0 : rzCut (S0 411) (S0 412 2) = x12 := by
    have z : S0 412 2 = x10 := h2.symm.trans (((bx_up_ne (by omega))).symm.trans e2)
    rw [z, ← hk.1]
    exact rzCut_at ((((bx_up_ne (by omega))).symm.trans e0)) (by omega) (by omega)
  have hz : S 412 2 = x10 := (((bx_up_ne (by omega))).symm.trans e2)
  have hy1 := hk.2.1
  have d3 := hD.2.2.1
  exfalso
  omega
theorem rxcRCD_4_4 {S0 : Nat → Int → Int} {ws : List Int} {S : Nat → Int → Int} {x y x10 x11 x12 : Int} (hP : rxPRCD S0 ws) (hin : bx_same rxL (bx_mdl rxCRCD.2.2.1) S0 S) (I0 : bx_Inv rxL S) (hinv : rxIRCD_4 S0 ws S x y) (l8 : (-2147483648) ≤ x) (u8 : x ≤ 2147483647) (l9 : 0 ≤ y) (u9 : y ≤ 8) (l10 : 0 ≤ x10) (u10 : x10 ≤ 399) (l11 : 1 ≤ x11) (u11 : x11 ≤ 400) (l12 : 41 ≤ x12) (u12 : x12 ≤ 41) (f0 : x10 < x11) (e3 : (bx_up S 412 8 y) 412 2 = x10) (e2 : (bx_up S 412 8 y) 412 1 = x11) (e1 : (bx_up S 412 8 y) 411 x10 = x12) : (True) ∧ (True) ∧ rxIRCD_5 S0 ws (bx_up (bx_up S 412 8 y) 424 y 4) ∧ rxmRCD_5 S0 ws (bx_up (bx_up S 412 8 y) 424 y 4) < rxmRCD_4 S0 ws S x y := by
  obtain ⟨hy0, hk, h2, h3, h7, h8, ht⟩ := hinv
  obtain ⟨hD, b1, b8, hc⟩ := hP
  have hy : S 412 1 = x11 := (((bx_up_ne (by omega))).symm.trans e2)
  have qe1 : rzCut (S0 411) (S0 412 2) = x12 := by
    have z : S0 412 2 = x10 := h2.symm.trans (((bx_up_ne (by omega))).symm.trans e3)
    rw [z, ← hk.1]
    exact rzCut_at ((((bx_up_ne (by omega))).symm.trans e1)) (by omega) (by omega)
  have hz : S 412 2 = x10 := (((bx_up_ne (by omega))).symm.trans e3)
  have hy1 := hk.2.1
  have d3 := hD.2.2.1
  have e8 : (bx_up (bx_up S 412 8 y) 424 y 4) 412 8 = S0 412 8 - 1 := ((bx_up_ne (by omega)).trans (bx_up_at)).trans (by omega)
  refine ⟨trivial, trivial, ⟨⟨(congrArg rzCut (funext fun _ => (bx_up_ne (by omega)).trans ((bx_up_ne (by omega))))).trans hk.1, ((bx_up_ne (by omega)).trans ((bx_up_ne (by omega)))).trans hk.2.1, ((bx_up_ne (by omega)).trans ((bx_up_ne (by omega)))).trans hk.2.2.1, ((bx_up_ne (by omega)).trans ((bx_up_ne (by omega)))).trans hk.2.2.2⟩, ((bx_up_ne (by omega)).trans ((bx_up_ne (by omega)))).trans h2, ((bx_up_ne (by omega)).trans ((bx_up_ne (by omega)))).trans h3, ((bx_up_ne (by omega)).trans ((bx_up_ne (by omega)))).trans h7, by omega, by omega, ?_⟩, by unfold rxmRCD_4 rxmRCD_5; omega⟩
  rcases hc with ⟨c1, c2⟩ | ⟨c1, c2⟩
  · exfalso
    have c3 := of_decide_eq_true c2
    obtain ⟨ca, cb⟩ := c3
    omega
  · have hl : rzLv (bx_up (bx_up S 412 8 y) 424 y 4) = 4 :: (rzLq S0).tail := rzLv_close4 b1 e8 (show (bx_up (bx_up S 412 8 y) 424 y 4) 424 (S0 412 8 - 1) = 4 from by rw [show S0 412 8 - 1 = y by omega]; exact bx_up_at) fun j a c => ((bx_up_ne (by omega)).trans ((bx_up_ne (by omega)))).trans (ht j a (by omega))
    rw [rzLv_eq (by omega), rzStep_1, if_neg (fun g => by omega), if_pos ⟨rzLq_ne b1, c1, c2⟩, hl]
theorem rxdRCD_6_0 {S0 : Nat → Int → Int} {ws : List Int} {S : Nat → Int → Int} (hP : rxPRCD S0 ws) (hin : bx_same rxL (bx_mdl rxCRCD.2.2.1) S0 S) (hin2 : bx_same rxL (bx_mdl rxCRCD.2.2.1) S S) (I0 : bx_Inv rxL S) (I1 : bx_Inv rxL S) (hinv : rxIRCD_6 S0 ws S)  : (True) ∧ rxPSRCD S0 ws S none := by
  obtain ⟨h1, h2, h3, h4⟩ := hinv
  exact ⟨trivial, rfl, h1, h2, h3, h4⟩
noncomputable def rxISTD_0 (S0 : Nat → Int → Int) (ws : List Int) (S : Nat → Int → Int) (st : Int) : Prop := S = S0 ∧ ws = [st]
noncomputable def rxmSTD_0 (S0 : Nat → Int → Int) (ws : List Int) (S : Nat → Int → Int) (st : Int) : Nat := 10
noncomputable def rxzSTD_0 : rx_Z := ([(0, 0), (0, 0), (0, 0), (0, 0), (0, 0), (0, 0), (0, 0), (0, 0), (0, 13)], [], [(((0, 412), 0), .inr (3, (0, 411)))], 0, 0, 0, [(0, .inr (0, (8, 0)))], [])
noncomputable def rxeSTD_0_0 : rx_End × List (Nat × Int × Int) := (([(0, 0), (0, 0), (0, 0), (0, 0), (0, 0), (0, 0), (0, 0), (0, 0), (11, 13)], [], [(((0, 412), 0), .inr (3, (0, 411)))], some (.inr (0, (0, 4)))), [])
noncomputable def rxeSTD_0_1 : rx_End × List (Nat × Int × Int) := (([(0, 0), (0, 0), (0, 0), (0, 0), (0, 0), (0, 0), (0, 0), (0, 0), (10, 10)], [], [(((0, 412), 0), .inr (3, (0, 411)))], some (.inr (0, (0, 6)))), [])
noncomputable def rxeSTD_0_2 : rx_End × List (Nat × Int × Int) := (([(0, 0), (0, 0), (0, 0), (0, 0), (0, 0), (0, 0), (0, 0), (0, 0), (9, 9)], [], [(((0, 412), 0), .inr (3, (0, 411)))], some (.inr (0, (0, 6)))), [])
noncomputable def rxeSTD_0_3 : rx_End × List (Nat × Int × Int) := (([(0, 0), (0, 0), (0, 0), (0, 0), (0, 0), (0, 0), (0, 0), (0, 0), (8, 8)], [], [(((0, 412), 0), .inr (3, (0, 411)))], some (.inr (0, (0, 6)))), [])
noncomputable def rxeSTD_0_4 : rx_End × List (Nat × Int × Int) := (([(0, 0), (0, 0), (0, 0), (0, 0), (0, 0), (0, 0), (0, 0), (0, 0), (7, 7)], [], [(((0, 412), 0), .inr (3, (0, 411)))], some (.inr (0, (0, 5)))), [])
noncomputable def rxeSTD_0_5 : rx_End × List (Nat × Int × Int) := (([(0, 0), (0, 0), (0, 0), (0, 0), (0, 0), (0, 0), (0, 0), (0, 0), (6, 6)], [], [(((0, 412), 0), .inr (3, (0, 411)))], some (.inr (0, (0, 5)))), [])
noncomputable def rxeSTD_0_6 : rx_End × List (Nat × Int × Int) := (([(0, 0), (0, 0), (0, 0), (0, 0), (0, 0), (0, 0), (0, 0), (0, 0), (5, 5)], [], [(((0, 412), 0), .inr (3, (0, 411)))], some (.inr (0, (0, 1)))), [])
noncomputable def rxeSTD_0_7 : rx_End × List (Nat × Int × Int) := (([(0, 0), (0, 0), (0, 0), (0, 0), (0, 0), (0, 0), (0, 0), (0, 0), (4, 4)], [], [(((0, 412), 0), .inr (3, (0, 411)))], some (.inr (0, (0, 2)))), [])
noncomputable def rxeSTD_0_8 : rx_End × List (Nat × Int × Int) := (([(0, 0), (0, 0), (0, 0), (0, 0), (0, 0), (0, 0), (0, 0), (0, 0), (3, 3)], [], [(((0, 412), 0), .inr (3, (0, 411)))], some (.inr (0, (0, 3)))), [])
noncomputable def rxeSTD_0_9 : rx_End × List (Nat × Int × Int) := (([(0, 0), (0, 0), (0, 0), (0, 0), (0, 0), (0, 0), (0, 0), (0, 0), (2, 2)], [], [(((0, 412), 0), .inr (3, (0, 411)))], some (.inr (0, (0, 4)))), [])
noncomputable def rxeSTD_0_10 : rx_End × List (Nat × Int × Int) := (([(0, 0), (0, 0), (0, 0), (0, 0), (0, 0), (0, 0), (0, 0), (0, 0), (1, 1)], [], [(((0, 412), 0), .inr (3, (0, 411)))], some (.inr (0, (0, 4)))), [])
noncomputable def rxeSTD_0_11 : rx_End × List (Nat × Int × Int) := (([(0, 0), (0, 0), (0, 0), (0, 0), (0, 0), (0, 0), (0, 0), (0, 0), (0, 0)], [], [(((0, 412), 0), .inr (3, (0, 411)))], some (.inr (0, (0, 0)))), [])
noncomputable def rxYSTD : List bx_HE := [(rxzSTD_0, [], [rxeSTD_0_0, rxeSTD_0_1, rxeSTD_0_2, rxeSTD_0_3, rxeSTD_0_4, rxeSTD_0_5, rxeSTD_0_6, rxeSTD_0_7, rxeSTD_0_8, rxeSTD_0_9, rxeSTD_0_10, rxeSTD_0_11])]
noncomputable def rxUSTD (q : bx_HE) : Bool := false
noncomputable def rxYBSTD : bx_B := (rxV, rxNP, rxDmf, bx_mdH rxC4.2.2.1)
set_option maxRecDepth 100000 in
theorem rxYcSTD : bx_chkH rxYBSTD rxM4 rxC4 rxYSTD (rxUSTD, fun cut z => rx_ex2 (rxCT rxYBSTD rxCnE) cut 30000 rxC4.2.2.2.1 4 z) = true := by decide +kernel
noncomputable def rxISTD (S0 : Nat → Int → Int) (ws : List Int) (i : Nat) : bx_SP := fun S r => match i with | 0 => rxISTD_0 S0 ws S (r 8) | _ => False
noncomputable def rxmSTD (S0 : Nat → Int → Int) (ws : List Int) (i : Nat) (S : Nat → Int → Int) (r : Nat → Int) : Nat := match i with | 0 => rxmSTD_0 S0 ws S (r 8) | _ => 0
noncomputable def rxPSTD (S0 : Nat → Int → Int) (ws : List Int) : Prop := True
noncomputable def rxPSSTD (S0 : Nat → Int → Int) (ws : List Int) (S : Nat → Int → Int) (w : Option Int) : Prop := S = S0 ∧ ∃ st : Int, ws = [st] ∧ w = some (rzStr st)
theorem rxdSTD_0_0 {S0 : Nat → Int → Int} {ws : List Int} {S : Nat → Int → Int} {st : Int} (hP : rxPSTD S0 ws) (hin : bx_same rxL (bx_mdl rxC4.2.2.1) S0 S) (hin2 : bx_same rxL (bx_mdl rxC4.2.2.1) S S) (I0 : bx_Inv rxL S) (I1 : bx_Inv rxL S) (hinv : rxISTD_0 S0 ws S st) (l8 : 11 ≤ st) (u8 : st ≤ 13) : (True) ∧ rxPSSTD S0 ws S (some 4) := by
  obtain ⟨rfl, hw⟩ := hinv
  refine ⟨trivial, rfl, st, hw, congrArg some ?_⟩
  unfold rzStr
  ((repeat' split) <;> omega)
theorem rxfSTD_0_0 {X : (Nat → Int → Int) → Prop} {S0 : Nat → Int → Int} {ws : List Int} (hP : rxPSTD S0 ws) : bx_obE rxL X S0 rxC4.2.2.1 (rxISTD S0 ws) (rxPSSTD S0 ws) 0 rxzSTD_0 rxeSTD_0_0 := by
  intro S S_p r r_p hinv hX hin hsm_ hseg
  obtain ⟨I0, I1, h0_, hr_, b_, f_, d_⟩ := bx_cl (evs := []) (fvs := []) hseg (by decide +kernel) (by decide +kernel)
  have hinv : rxISTD_0 S0 ws S (r 8) := hinv
  rw [← hr_ 8 (by decide)] at hinv
  obtain ⟨⟨l8, u8⟩, -⟩ := b_
  have w_ := d_
  subst w_
  have g := rxdSTD_0_0 hP hin hsm_ I0 I1 hinv l8 u8
  refine ⟨bx_narP_ok (l := []) g.1, ?_⟩
  show rxPSSTD S0 ws S_p (some (bx_num r_p (.inr (0, (0, 4)))))
  rw [bx_xv_ok h0_]
  exact g.2
theorem rxdSTD_0_1 {S0 : Nat → Int → Int} {ws : List Int} {S : Nat → Int → Int} {st : Int} (hP : rxPSTD S0 ws) (hin : bx_same rxL (bx_mdl rxC4.2.2.1) S0 S) (hin2 : bx_same rxL (bx_mdl rxC4.2.2.1) S S) (I0 : bx_Inv rxL S) (I1 : bx_Inv rxL S) (hinv : rxISTD_0 S0 ws S st) (l8 : 10 ≤ st) (u8 : st ≤ 10) : (True) ∧ rxPSSTD S0 ws S (some 6) := by
  obtain ⟨rfl, hw⟩ := hinv
  refine ⟨trivial, rfl, st, hw, congrArg some ?_⟩
  unfold rzStr
  ((repeat' split) <;> omega)
theorem rxfSTD_0_1 {X : (Nat → Int → Int) → Prop} {S0 : Nat → Int → Int} {ws : List Int} (hP : rxPSTD S0 ws) : bx_obE rxL X S0 rxC4.2.2.1 (rxISTD S0 ws) (rxPSSTD S0 ws) 0 rxzSTD_0 rxeSTD_0_1 := by
  intro S S_p r r_p hinv hX hin hsm_ hseg
  obtain ⟨I0, I1, h0_, hr_, b_, f_, d_⟩ := bx_cl (evs := []) (fvs := []) hseg (by decide +kernel) (by decide +kernel)
  have hinv : rxISTD_0 S0 ws S (r 8) := hinv
  rw [← hr_ 8 (by decide)] at hinv
  obtain ⟨⟨l8, u8⟩, -⟩ := b_
  have w_ := d_
  subst w_
  have g := rxdSTD_0_1 hP hin hsm_ I0 I1 hinv l8 u8
  refine ⟨bx_narP_ok (l := []) g.1, ?_⟩
  show rxPSSTD S0 ws S_p (some (bx_num r_p (.inr (0, (0, 6)))))
  rw [bx_xv_ok h0_]
  exact g.2
theorem rxdSTD_0_2 {S0 : Nat → Int → Int} {ws : List Int} {S : Nat → Int → Int} {st : Int} (hP : rxPSTD S0 ws) (hin : bx_same rxL (bx_mdl rxC4.2.2.1) S0 S) (hin2 : bx_same rxL (bx_mdl rxC4.2.2.1) S S) (I0 : bx_Inv rxL S) (I1 : bx_Inv rxL S) (hinv : rxISTD_0 S0 ws S st) (l8 : 9 ≤ st) (u8 : st ≤ 9) : (True) ∧ rxPSSTD S0 ws S (some 6) := by
  obtain ⟨rfl, hw⟩ := hinv
  refine ⟨trivial, rfl, st, hw, congrArg some ?_⟩
  unfold rzStr
  ((repeat' split) <;> omega)
theorem rxfSTD_0_2 {X : (Nat → Int → Int) → Prop} {S0 : Nat → Int → Int} {ws : List Int} (hP : rxPSTD S0 ws) : bx_obE rxL X S0 rxC4.2.2.1 (rxISTD S0 ws) (rxPSSTD S0 ws) 0 rxzSTD_0 rxeSTD_0_2 := by
  intro S S_p r r_p hinv hX hin hsm_ hseg
  obtain ⟨I0, I1, h0_, hr_, b_, f_, d_⟩ := bx_cl (evs := []) (fvs := []) hseg (by decide +kernel) (by decide +kernel)
  have hinv : rxISTD_0 S0 ws S (r 8) := hinv
  rw [← hr_ 8 (by decide)] at hinv
  obtain ⟨⟨l8, u8⟩, -⟩ := b_
  have w_ := d_
  subst w_
  have g := rxdSTD_0_2 hP hin hsm_ I0 I1 hinv l8 u8
  refine ⟨bx_narP_ok (l := []) g.1, ?_⟩
  show rxPSSTD S0 ws S_p (some (bx_num r_p (.inr (0, (0, 6)))))
  rw [bx_xv_ok h0_]
  exact g.2
theorem rxdSTD_0_3 {S0 : Nat → Int → Int} {ws : List Int} {S : Nat → Int → Int} {st : Int} (hP : rxPSTD S0 ws) (hin : bx_same rxL (bx_mdl rxC4.2.2.1) S0 S) (hin2 : bx_same rxL (bx_mdl rxC4.2.2.1) S S) (I0 : bx_Inv rxL S) (I1 : bx_Inv rxL S) (hinv : rxISTD_0 S0 ws S st) (l8 : 8 ≤ st) (u8 : st ≤ 8) : (True) ∧ rxPSSTD S0 ws S (some 6) := by
  obtain ⟨rfl, hw⟩ := hinv
  refine ⟨trivial, rfl, st, hw, congrArg some ?_⟩
  unfold rzStr
  ((repeat' split) <;> omega)
theorem rxfSTD_0_3 {X : (Nat → Int → Int) → Prop} {S0 : Nat → Int → Int} {ws : List Int} (hP : rxPSTD S0 ws) : bx_obE rxL X S0 rxC4.2.2.1 (rxISTD S0 ws) (rxPSSTD S0 ws) 0 rxzSTD_0 rxeSTD_0_3 := by
  intro S S_p r r_p hinv hX hin hsm_ hseg
  obtain ⟨I0, I1, h0_, hr_, b_, f_, d_⟩ := bx_cl (evs := []) (fvs := []) hseg (by decide +kernel) (by decide +kernel)
  have hinv : rxISTD_0 S0 ws S (r 8) := hinv
  rw [← hr_ 8 (by decide)] at hinv
  obtain ⟨⟨l8, u8⟩, -⟩ := b_
  have w_ := d_
  subst w_
  have g := rxdSTD_0_3 hP hin hsm_ I0 I1 hinv l8 u8
  refine ⟨bx_narP_ok (l := []) g.1, ?_⟩
  show rxPSSTD S0 ws S_p (some (bx_num r_p (.inr (0, (0, 6)))))
  rw [bx_xv_ok h0_]
  exact g.2
theorem rxdSTD_0_4 {S0 : Nat → Int → Int} {ws : List Int} {S : Nat → Int → Int} {st : Int} (hP : rxPSTD S0 ws) (hin : bx_same rxL (bx_mdl rxC4.2.2.1) S0 S) (hin2 : bx_same rxL (bx_mdl rxC4.2.2.1) S S) (I0 : bx_Inv rxL S) (I1 : bx_Inv rxL S) (hinv : rxISTD_0 S0 ws S st) (l8 : 7 ≤ st) (u8 : st ≤ 7) : (True) ∧ rxPSSTD S0 ws S (some 5) := by
  obtain ⟨rfl, hw⟩ := hinv
  refine ⟨trivial, rfl, st, hw, congrArg some ?_⟩
  unfold rzStr
  ((repeat' split) <;> omega)
theorem rxfSTD_0_4 {X : (Nat → Int → Int) → Prop} {S0 : Nat → Int → Int} {ws : List Int} (hP : rxPSTD S0 ws) : bx_obE rxL X S0 rxC4.2.2.1 (rxISTD S0 ws) (rxPSSTD S0 ws) 0 rxzSTD_0 rxeSTD_0_4 := by
  intro S S_p r r_p hinv hX hin hsm_ hseg
  obtain ⟨I0, I1, h0_, hr_, b_, f_, d_⟩ := bx_cl (evs := []) (fvs := []) hseg (by decide +kernel) (by decide +kernel)
  have hinv : rxISTD_0 S0 ws S (r 8) := hinv
  rw [← hr_ 8 (by decide)] at hinv
  obtain ⟨⟨l8, u8⟩, -⟩ := b_
  have w_ := d_
  subst w_
  have g := rxdSTD_0_4 hP hin hsm_ I0 I1 hinv l8 u8
  refine ⟨bx_narP_ok (l := []) g.1, ?_⟩
  show rxPSSTD S0 ws S_p (some (bx_num r_p (.inr (0, (0, 5)))))
  rw [bx_xv_ok h0_]
  exact g.2
theorem rxdSTD_0_5 {S0 : Nat → Int → Int} {ws : List Int} {S : Nat → Int → Int} {st : Int} (hP : rxPSTD S0 ws) (hin : bx_same rxL (bx_mdl rxC4.2.2.1) S0 S) (hin2 : bx_same rxL (bx_mdl rxC4.2.2.1) S S) (I0 : bx_Inv rxL S) (I1 : bx_Inv rxL S) (hinv : rxISTD_0 S0 ws S st) (l8 : 6 ≤ st) (u8 : st ≤ 6) : (True) ∧ rxPSSTD S0 ws S (some 5) := by
  obtain ⟨rfl, hw⟩ := hinv
  refine ⟨trivial, rfl, st, hw, congrArg some ?_⟩
  unfold rzStr
  ((repeat' split) <;> omega)
theorem rxfSTD_0_5 {X : (Nat → Int → Int) → Prop} {S0 : Nat → Int → Int} {ws : List Int} (hP : rxPSTD S0 ws) : bx_obE rxL X S0 rxC4.2.2.1 (rxISTD S0 ws) (rxPSSTD S0 ws) 0 rxzSTD_0 rxeSTD_0_5 := by
  intro S S_p r r_p hinv hX hin hsm_ hseg
  obtain ⟨I0, I1, h0_, hr_, b_, f_, d_⟩ := bx_cl (evs := []) (fvs := []) hseg (by decide +kernel) (by decide +kernel)
  have hinv : rxISTD_0 S0 ws S (r 8) := hinv
  rw [← hr_ 8 (by decide)] at hinv
  obtain ⟨⟨l8, u8⟩, -⟩ := b_
  have w_ := d_
  subst w_
  have g := rxdSTD_0_5 hP hin hsm_ I0 I1 hinv l8 u8
  refine ⟨bx_narP_ok (l := []) g.1, ?_⟩
  show rxPSSTD S0 ws S_p (some (bx_num r_p (.inr (0, (0, 5)))))
  rw [bx_xv_ok h0_]
  exact g.2
theorem rxdSTD_0_6 {S0 : Nat → Int → Int} {ws : List Int} {S : Nat → Int → Int} {st : Int} (hP : rxPSTD S0 ws) (hin : bx_same rxL (bx_mdl rxC4.2.2.1) S0 S) (hin2 : bx_same rxL (bx_mdl rxC4.2.2.1) S S) (I0 : bx_Inv rxL S) (I1 : bx_Inv rxL S) (hinv : rxISTD_0 S0 ws S st) (l8 : 5 ≤ st) (u8 : st ≤ 5) : (True) ∧ rxPSSTD S0 ws S (some 1) := by
  obtain ⟨rfl, hw⟩ := hinv
  refine ⟨trivial, rfl, st, hw, congrArg some ?_⟩
  unfold rzStr
  ((repeat' split) <;> omega)
theorem rxfSTD_0_6 {X : (Nat → Int → Int) → Prop} {S0 : Nat → Int → Int} {ws : List Int} (hP : rxPSTD S0 ws) : bx_obE rxL X S0 rxC4.2.2.1 (rxISTD S0 ws) (rxPSSTD S0 ws) 0 rxzSTD_0 rxeSTD_0_6 := by
  intro S S_p r r_p hinv hX hin hsm_ hseg
  obtain ⟨I0, I1, h0_, hr_, b_, f_, d_⟩ := bx_cl (evs := []) (fvs := []) hseg (by decide +kernel) (by decide +kernel)
  have hinv : rxISTD_0 S0 ws S (r 8) := hinv
  rw [← hr_ 8 (by decide)] at hinv
  obtain ⟨⟨l8, u8⟩, -⟩ := b_
  have w_ := d_
  subst w_
  have g := rxdSTD_0_6 hP hin hsm_ I0 I1 hinv l8 u8
  refine ⟨bx_narP_ok (l := []) g.1, ?_⟩
  show rxPSSTD S0 ws S_p (some (bx_num r_p (.inr (0, (0, 1)))))
  rw [bx_xv_ok h0_]
  exact g.2
theorem rxdSTD_0_7 {S0 : Nat → Int → Int} {ws : List Int} {S : Nat → Int → Int} {st : Int} (hP : rxPSTD S0 ws) (hin : bx_same rxL (bx_mdl rxC4.2.2.1) S0 S) (hin2 : bx_same rxL (bx_mdl rxC4.2.2.1) S S) (I0 : bx_Inv rxL S) (I1 : bx_Inv rxL S) (hinv : rxISTD_0 S0 ws S st) (l8 : 4 ≤ st) (u8 : st ≤ 4) : (True) ∧ rxPSSTD S0 ws S (some 2) := by
  obtain ⟨rfl, hw⟩ := hinv
  refine ⟨trivial, rfl, st, hw, congrArg some ?_⟩
  unfold rzStr
  ((repeat' split) <;> omega)
theorem rxfSTD_0_7 {X : (Nat → Int → Int) → Prop} {S0 : Nat → Int → Int} {ws : List Int} (hP : rxPSTD S0 ws) : bx_obE rxL X S0 rxC4.2.2.1 (rxISTD S0 ws) (rxPSSTD S0 ws) 0 rxzSTD_0 rxeSTD_0_7 := by
  intro S S_p r r_p hinv hX hin hsm_ hseg
  obtain ⟨I0, I1, h0_, hr_, b_, f_, d_⟩ := bx_cl (evs := []) (fvs := []) hseg (by decide +kernel) (by decide +kernel)
  have hinv : rxISTD_0 S0 ws S (r 8) := hinv
  rw [← hr_ 8 (by decide)] at hinv
  obtain ⟨⟨l8, u8⟩, -⟩ := b_
  have w_ := d_
  subst w_
  have g := rxdSTD_0_7 hP hin hsm_ I0 I1 hinv l8 u8
  refine ⟨bx_narP_ok (l := []) g.1, ?_⟩
  show rxPSSTD S0 ws S_p (some (bx_num r_p (.inr (0, (0, 2)))))
  rw [bx_xv_ok h0_]
  exact g.2
theorem rxdSTD_0_8 {S0 : Nat → Int → Int} {ws : List Int} {S : Nat → Int → Int} {st : Int} (hP : rxPSTD S0 ws) (hin : bx_same rxL (bx_mdl rxC4.2.2.1) S0 S) (hin2 : bx_same rxL (bx_mdl rxC4.2.2.1) S S) (I0 : bx_Inv rxL S) (I1 : bx_Inv rxL S) (hinv : rxISTD_0 S0 ws S st) (l8 : 3 ≤ st) (u8 : st ≤ 3) : (True) ∧ rxPSSTD S0 ws S (some 3) := by
  obtain ⟨rfl, hw⟩ := hinv
  refine ⟨trivial, rfl, st, hw, congrArg some ?_⟩
  unfold rzStr
  ((repeat' split) <;> omega)
theorem rxfSTD_0_8 {X : (Nat → Int → Int) → Prop} {S0 : Nat → Int → Int} {ws : List Int} (hP : rxPSTD S0 ws) : bx_obE rxL X S0 rxC4.2.2.1 (rxISTD S0 ws) (rxPSSTD S0 ws) 0 rxzSTD_0 rxeSTD_0_8 := by
  intro S S_p r r_p hinv hX hin hsm_ hseg
  obtain ⟨I0, I1, h0_, hr_, b_, f_, d_⟩ := bx_cl (evs := []) (fvs := []) hseg (by decide +kernel) (by decide +kernel)
  have hinv : rxISTD_0 S0 ws S (r 8) := hinv
  rw [← hr_ 8 (by decide)] at hinv
  obtain ⟨⟨l8, u8⟩, -⟩ := b_
  have w_ := d_
  subst w_
  have g := rxdSTD_0_8 hP hin hsm_ I0 I1 hinv l8 u8
  refine ⟨bx_narP_ok (l := []) g.1, ?_⟩
  show rxPSSTD S0 ws S_p (some (bx_num r_p (.inr (0, (0, 3)))))
  rw [bx_xv_ok h0_]
  exact g.2
theorem rxdSTD_0_9 {S0 : Nat → Int → Int} {ws : List Int} {S : Nat → Int → Int} {st : Int} (hP : rxPSTD S0 ws) (hin : bx_same rxL (bx_mdl rxC4.2.2.1) S0 S) (hin2 : bx_same rxL (bx_mdl rxC4.2.2.1) S S) (I0 : bx_Inv rxL S) (I1 : bx_Inv rxL S) (hinv : rxISTD_0 S0 ws S st) (l8 : 2 ≤ st) (u8 : st ≤ 2) : (True) ∧ rxPSSTD S0 ws S (some 4) := by
  obtain ⟨rfl, hw⟩ := hinv
  refine ⟨trivial, rfl, st, hw, congrArg some ?_⟩
  unfold rzStr
  ((repeat' split) <;> omega)
theorem rxfSTD_0_9 {X : (Nat → Int → Int) → Prop} {S0 : Nat → Int → Int} {ws : List Int} (hP : rxPSTD S0 ws) : bx_obE rxL X S0 rxC4.2.2.1 (rxISTD S0 ws) (rxPSSTD S0 ws) 0 rxzSTD_0 rxeSTD_0_9 := by
  intro S S_p r r_p hinv hX hin hsm_ hseg
  obtain ⟨I0, I1, h0_, hr_, b_, f_, d_⟩ := bx_cl (evs := []) (fvs := []) hseg (by decide +kernel) (by decide +kernel)
  have hinv : rxISTD_0 S0 ws S (r 8) := hinv
  rw [← hr_ 8 (by decide)] at hinv
  obtain ⟨⟨l8, u8⟩, -⟩ := b_
  have w_ := d_
  subst w_
  have g := rxdSTD_0_9 hP hin hsm_ I0 I1 hinv l8 u8
  refine ⟨bx_narP_ok (l := []) g.1, ?_⟩
  show rxPSSTD S0 ws S_p (some (bx_num r_p (.inr (0, (0, 4)))))
  rw [bx_xv_ok h0_]
  exact g.2
theorem rxdSTD_0_10 {S0 : Nat → Int → Int} {ws : List Int} {S : Nat → Int → Int} {st : Int} (hP : rxPSTD S0 ws) (hin : bx_same rxL (bx_mdl rxC4.2.2.1) S0 S) (hin2 : bx_same rxL (bx_mdl rxC4.2.2.1) S S) (I0 : bx_Inv rxL S) (I1 : bx_Inv rxL S) (hinv : rxISTD_0 S0 ws S st) (l8 : 1 ≤ st) (u8 : st ≤ 1) : (True) ∧ rxPSSTD S0 ws S (some 4) := by
  obtain ⟨rfl, hw⟩ := hinv
  refine ⟨trivial, rfl, st, hw, congrArg some ?_⟩
  unfold rzStr
  ((repeat' split) <;> omega)
theorem rxfSTD_0_10 {X : (Nat → Int → Int) → Prop} {S0 : Nat → Int → Int} {ws : List Int} (hP : rxPSTD S0 ws) : bx_obE rxL X S0 rxC4.2.2.1 (rxISTD S0 ws) (rxPSSTD S0 ws) 0 rxzSTD_0 rxeSTD_0_10 := by
  intro S S_p r r_p hinv hX hin hsm_ hseg
  obtain ⟨I0, I1, h0_, hr_, b_, f_, d_⟩ := bx_cl (evs := []) (fvs := []) hseg (by decide +kernel) (by decide +kernel)
  have hinv : rxISTD_0 S0 ws S (r 8) := hinv
  rw [← hr_ 8 (by decide)] at hinv
  obtain ⟨⟨l8, u8⟩, -⟩ := b_
  have w_ := d_
  subst w_
  have g := rxdSTD_0_10 hP hin hsm_ I0 I1 hinv l8 u8
  refine ⟨bx_narP_ok (l := []) g.1, ?_⟩
  show rxPSSTD S0 ws S_p (some (bx_num r_p (.inr (0, (0, 4)))))
  rw [bx_xv_ok h0_]
  exact g.2
theorem rxdSTD_0_11 {S0 : Nat → Int → Int} {ws : List Int} {S : Nat → Int → Int} {st : Int} (hP : rxPSTD S0 ws) (hin : bx_same rxL (bx_mdl rxC4.2.2.1) S0 S) (hin2 : bx_same rxL (bx_mdl rxC4.2.2.1) S S) (I0 : bx_Inv rxL S) (I1 : bx_Inv rxL S) (hinv : rxISTD_0 S0 ws S st) (l8 : 0 ≤ st) (u8 : st ≤ 0) : (True) ∧ rxPSSTD S0 ws S (some 0) := by
  obtain ⟨rfl, hw⟩ := hinv
  refine ⟨trivial, rfl, st, hw, congrArg some ?_⟩
  unfold rzStr
  ((repeat' split) <;> omega)
theorem rxfSTD_0_11 {X : (Nat → Int → Int) → Prop} {S0 : Nat → Int → Int} {ws : List Int} (hP : rxPSTD S0 ws) : bx_obE rxL X S0 rxC4.2.2.1 (rxISTD S0 ws) (rxPSSTD S0 ws) 0 rxzSTD_0 rxeSTD_0_11 := by
  intro S S_p r r_p hinv hX hin hsm_ hseg
  obtain ⟨I0, I1, h0_, hr_, b_, f_, d_⟩ := bx_cl (evs := []) (fvs := []) hseg (by decide +kernel) (by decide +kernel)
  have hinv : rxISTD_0 S0 ws S (r 8) := hinv
  rw [← hr_ 8 (by decide)] at hinv
  obtain ⟨⟨l8, u8⟩, -⟩ := b_
  have w_ := d_
  subst w_
  have g := rxdSTD_0_11 hP hin hsm_ I0 I1 hinv l8 u8
  refine ⟨bx_narP_ok (l := []) g.1, ?_⟩
  show rxPSSTD S0 ws S_p (some (bx_num r_p (.inr (0, (0, 0)))))
  rw [bx_xv_ok h0_]
  exact g.2
theorem rxgCSTD {X : (Nat → Int → Int) → Prop} {S0 : Nat → Int → Int} {ws : List Int} (hP : rxPSTD S0 ws) : bx_allI (fun i q => rxUSTD q = true ∨ bx_allP (fun o => bx_obC rxL X S0 rxC4.2.2.1 (rxISTD S0 ws) (rxmSTD S0 ws) i q.1 o) q.2.1) 0 rxYSTD := ⟨Or.inr trivial, trivial⟩
theorem rxgESTD {X : (Nat → Int → Int) → Prop} {S0 : Nat → Int → Int} {ws : List Int} (hP : rxPSTD S0 ws) : bx_allI (fun i q => rxUSTD q = true ∨ bx_allP (fun E => bx_obE rxL X S0 rxC4.2.2.1 (rxISTD S0 ws) (rxPSSTD S0 ws) i q.1 E) q.2.2) 0 rxYSTD := ⟨Or.inr ⟨rxfSTD_0_0 hP, rxfSTD_0_1 hP, rxfSTD_0_2 hP, rxfSTD_0_3 hP, rxfSTD_0_4 hP, rxfSTD_0_5 hP, rxfSTD_0_6 hP, rxfSTD_0_7 hP, rxfSTD_0_8 hP, rxfSTD_0_9 hP, rxfSTD_0_10 hP, rxfSTD_0_11 hP, trivial⟩, trivial⟩
theorem rxQSTD {PX : State → Prop} {Dg : va_G} {A : Nat → Prop} {ad xa : Nat → Nat} {l : Launch} {X : (Nat → Int → Int) → Prop} (hPX : rx_PXOK rxNW A PX) (hsl : ∀ s : State, PX s → ∀ o idx n : Nat, rxSl o idx = some n → ∃ tx : String, vk_R (rxNm o) idx tx (ad n) s)
    (hX : ∀ S S_p : Nat → Int → Int, X S → bx_same rxL (bx_mdl rxC4.2.2.1) S S_p → X S_p)
    (ih : ∀ (j2 : Nat) (ct2 : bx_Ct) (M2 : rx_Mt), ct2 ∈ rxCnE j2 → ct2.2.2.2.1 + 1 ≤ rxC4.2.2.2.1 → rxT.2.2.2.2.2 j2 = some M2 → bx_Con rxG rxNW rxAO PX Dg rxL X vwCl A ad l M2 ct2) : bx_ConP rxG rxNW rxAO PX Dg rxL X vwCl A ad l rxM4 rxC4 rxPSTD rxPSSTD :=
  rxQof (xa := xa) (Cn := rxCnE) (f := 30000) (j := 4) (tab := rxYSTD) (us := rxUSTD) hPX hsl hX ih rfl rxYcSTD rxISTD rxmSTD
    (fun S0 ws r I0 I ht0 ht as he he1 hX0 hI0 hP hs ha => by
      have e := he.symm.trans (show bx_ent0 rxNP rxC4.1 bx_I0 [] = some ([(0, 0), (0, 0), (0, 0), (0, 0), (0, 0), (0, 0), (0, 0), (0, 0), (0, 13)], [], [.inr (0, (8, 0))]) from rfl)
      cases e
      subst ha
      have h0 : r 0 = 0 := hs.1
      show rxISTD_0 S0 _ S0 (r 8)
      refine ⟨rfl, ?_⟩
      simp only [List.map_cons, List.map_nil, bx_xv_ok h0]
      rfl)
    (fun S0 ws hP => fun i q hq hus => absurd (show false = true from hus) Bool.false_ne_true) (fun S0 ws hP => rxgCSTD hP) (fun S0 ws hP => rxgESTD hP)
