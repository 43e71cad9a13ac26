noncomputable def rxILAWX_0 (S0 : Nat → Int → Int) (ws : List Int) (S : Nat → Int → Int) : Prop := rxI242_0 S0 ws S ∧ True
noncomputable def rxmLAWX_0 (S0 : Nat → Int → Int) (ws : List Int) (S : Nat → Int → Int) : Nat := rxm242_0 S0 ws S
noncomputable def rxILAWX_1 (S0 : Nat → Int → Int) (ws : List Int) (S : Nat → Int → Int) : Prop := rxI242_1 S0 ws S ∧ (rzBg S0 S)
noncomputable def rxmLAWX_1 (S0 : Nat → Int → Int) (ws : List Int) (S : Nat → Int → Int) : Nat := rxm242_1 S0 ws S
noncomputable def rxILAWX_2 (S0 : Nat → Int → Int) (ws : List Int) (S : Nat → Int → Int) : Prop := rxI242_2 S0 ws S ∧ (rzCk S0 → rzRj S0 S 0 (rzTx (rzCl (decide ((0 : Int) = 1)) (rzCut (S0 485)) (S0 480 8)) (rzCut (S0 485)) (S0 480 8) (12 - S 480 16).toNat))
noncomputable def rxmLAWX_2 (S0 : Nat → Int → Int) (ws : List Int) (S : Nat → Int → Int) : Nat := rxm242_2 S0 ws S
noncomputable def rxILAWX_3 (S0 : Nat → Int → Int) (ws : List Int) (S : Nat → Int → Int) : Prop := rxI242_3 S0 ws S ∧ (rzCk S0 → rzRj S0 S 0 (rzTx (rzCl (decide ((0 : Int) = 1)) (rzCut (S0 485)) (S0 480 8)) (rzCut (S0 485)) (S0 480 8) (12 - S 480 16).toNat))
noncomputable def rxmLAWX_3 (S0 : Nat → Int → Int) (ws : List Int) (S : Nat → Int → Int) : Nat := rxm242_3 S0 ws S
noncomputable def rxILAWX_4 (S0 : Nat → Int → Int) (ws : List Int) (S : Nat → Int → Int) : Prop := rxI242_4 S0 ws S ∧ (rzCk S0 → rzRj S0 S 0 (rzNx (decide ((0 : Int) = 1)) (rzCut (S0 485)) (S0 480 8) (12 - S 480 16).toNat))
noncomputable def rxmLAWX_4 (S0 : Nat → Int → Int) (ws : List Int) (S : Nat → Int → Int) : Nat := rxm242_4 S0 ws S
noncomputable def rxILAWX_5 (S0 : Nat → Int → Int) (ws : List Int) (S : Nat → Int → Int) : Prop := rxI242_5 S0 ws S ∧ (rzCk S0 → rzRj S0 S 0 (rzNx (decide ((0 : Int) = 1)) (rzCut (S0 485)) (S0 480 8) (12 - S 480 16).toNat))
noncomputable def rxmLAWX_5 (S0 : Nat → Int → Int) (ws : List Int) (S : Nat → Int → Int) : Nat := rxm242_5 S0 ws S
noncomputable def rxILAWX_6 (S0 : Nat → Int → Int) (ws : List Int) (S : Nat → Int → Int) : Prop := rxI242_6 S0 ws S ∧ ((rzCk S0 → rzRj S0 S 0 (rzNx (decide ((0 : Int) = 1)) (rzCut (S0 485)) (S0 480 8) (12 - S 480 16).toNat)) ∧ (S 480 14 = 0 → rzDq S → rzSg (rzCut (S 485)) (S 480 8) 59 (S 480 9) = true))
noncomputable def rxmLAWX_6 (S0 : Nat → Int → Int) (ws : List Int) (S : Nat → Int → Int) : Nat := rxm242_6 S0 ws S
noncomputable def rxILAWX_7 (S0 : Nat → Int → Int) (ws : List Int) (S : Nat → Int → Int) : Prop := rxI242_7 S0 ws S ∧ (rzCk S0 → rzRj S0 S 0 (rzTx (rzCl (decide ((0 : Int) = 1)) (rzCut (S0 485)) (S0 480 8)) (rzCut (S0 485)) (S0 480 8) (12 - S 480 16).toNat))
noncomputable def rxmLAWX_7 (S0 : Nat → Int → Int) (ws : List Int) (S : Nat → Int → Int) : Nat := rxm242_7 S0 ws S
noncomputable def rxILAWX_8 (S0 : Nat → Int → Int) (ws : List Int) (S : Nat → Int → Int) : Prop := rxI242_8 S0 ws S ∧ (rzCk S0 → rzRj S0 S 0 (rzTx (rzCl (decide ((0 : Int) = 1)) (rzCut (S0 485)) (S0 480 8)) (rzCut (S0 485)) (S0 480 8) (12 - S 480 16).toNat))
noncomputable def rxmLAWX_8 (S0 : Nat → Int → Int) (ws : List Int) (S : Nat → Int → Int) : Nat := rxm242_8 S0 ws S
noncomputable def rxILAWX_9 (S0 : Nat → Int → Int) (ws : List Int) (S : Nat → Int → Int) : Prop := rxI242_9 S0 ws S ∧ (rzCk S0 → rzRj S0 S 0 (rzNx (decide ((0 : Int) = 1)) (rzCut (S0 485)) (S0 480 8) (12 - S 480 16).toNat))
noncomputable def rxmLAWX_9 (S0 : Nat → Int → Int) (ws : List Int) (S : Nat → Int → Int) : Nat := rxm242_9 S0 ws S
noncomputable def rxILAWX_10 (S0 : Nat → Int → Int) (ws : List Int) (S : Nat → Int → Int) : Prop := rxI242_10 S0 ws S ∧ ((rzCk S0 → rzRj S0 S 0 (rzNx (decide ((0 : Int) = 1)) (rzCut (S0 485)) (S0 480 8) (12 - S 480 16).toNat)) ∧ (S 480 14 = 0 → rzDq S → rzSg (rzCut (S 485)) (S 480 8) 59 (S 480 9) = false))
noncomputable def rxmLAWX_10 (S0 : Nat → Int → Int) (ws : List Int) (S : Nat → Int → Int) : Nat := rxm242_10 S0 ws S
noncomputable def rxILAWX_11 (S0 : Nat → Int → Int) (ws : List Int) (S : Nat → Int → Int) : Prop := rxI242_11 S0 ws S ∧ ((rzCk S0 → rzTz S0 S 0) ∧ S 480 8 = 0)
noncomputable def rxmLAWX_11 (S0 : Nat → Int → Int) (ws : List Int) (S : Nat → Int → Int) : Nat := rxm242_11 S0 ws S
noncomputable def rxILAWX_12 (S0 : Nat → Int → Int) (ws : List Int) (S : Nat → Int → Int) (n3 : Int) : Prop := rxI242_12 S0 ws S n3 ∧ ((rzCk S0 → ∃ r : rzR, rzText (decide ((0 : Int) = 1)) (rzCut (S0 485)) (S0 480 8) r ∧ r.1 = true ∧ S 480 13 = -1) ∧ S 480 8 = 0)
noncomputable def rxmLAWX_12 (S0 : Nat → Int → Int) (ws : List Int) (S : Nat → Int → Int) (n3 : Int) : Nat := rxm242_12 S0 ws S n3
noncomputable def rxILAWX_13 (S0 : Nat → Int → Int) (ws : List Int) (S : Nat → Int → Int) (base a v : Int) : Prop := rxI242_13 S0 ws S base a v ∧ ((rzCk S0 → ∃ r : rzR, rzText (decide ((0 : Int) = 1)) (rzCut (S0 485)) (S0 480 8) r ∧ r.1 = true ∧ S 480 13 = -1) ∧ S 480 8 = 0)
noncomputable def rxmLAWX_13 (S0 : Nat → Int → Int) (ws : List Int) (S : Nat → Int → Int) (base a v : Int) : Nat := rxm242_13 S0 ws S base a v
noncomputable def rxILAWX_14 (S0 : Nat → Int → Int) (ws : List Int) (S : Nat → Int → Int) (base a v : Int) : Prop := rxI242_14 S0 ws S base a v ∧ ((rzCk S0 → ∃ r : rzR, rzText (decide ((0 : Int) = 1)) (rzCut (S0 485)) (S0 480 8) r ∧ r.1 = true ∧ S 480 13 = -1) ∧ S 480 8 = 0)
noncomputable def rxmLAWX_14 (S0 : Nat → Int → Int) (ws : List Int) (S : Nat → Int → Int) (base a v : Int) : Nat := rxm242_14 S0 ws S base a v
noncomputable def rxILAWX_15 (S0 : Nat → Int → Int) (ws : List Int) (S : Nat → Int → Int) (base i : Int) : Prop := rxI242_15 S0 ws S base i ∧ ((rzCk S0 → ∃ r : rzR, rzText (decide ((0 : Int) = 1)) (rzCut (S0 485)) (S0 480 8) r ∧ r.1 = true ∧ S 480 13 = -1) ∧ S 480 8 = 0)
noncomputable def rxmLAWX_15 (S0 : Nat → Int → Int) (ws : List Int) (S : Nat → Int → Int) (base i : Int) : Nat := rxm242_15 S0 ws S base i
noncomputable def rxILAWX_16 (S0 : Nat → Int → Int) (ws : List Int) (S : Nat → Int → Int) (base i a v : Int) : Prop := rxI242_16 S0 ws S base i a v ∧ ((rzCk S0 → ∃ r : rzR, rzText (decide ((0 : Int) = 1)) (rzCut (S0 485)) (S0 480 8) r ∧ r.1 = true ∧ S 480 13 = -1) ∧ S 480 8 = 0)
noncomputable def rxmLAWX_16 (S0 : Nat → Int → Int) (ws : List Int) (S : Nat → Int → Int) (base i a v : Int) : Nat := rxm242_16 S0 ws S base i a v
noncomputable def rxILAWX_17 (S0 : Nat → Int → Int) (ws : List Int) (S : Nat → Int → Int) (base i a v : Int) : Prop := rxI242_17 S0 ws S base i a v ∧ ((rzCk S0 → ∃ r : rzR, rzText (decide ((0 : Int) = 1)) (rzCut (S0 485)) (S0 480 8) r ∧ r.1 = true ∧ S 480 13 = -1) ∧ S 480 8 = 0)
noncomputable def rxmLAWX_17 (S0 : Nat → Int → Int) (ws : List Int) (S : Nat → Int → Int) (base i a v : Int) : Nat := rxm242_17 S0 ws S base i a v
noncomputable def rxILAWX_18 (S0 : Nat → Int → Int) (ws : List Int) (S : Nat → Int → Int) (base i : Int) : Prop := rxI242_18 S0 ws S base i ∧ ((rzCk S0 → ∃ r : rzR, rzText (decide ((0 : Int) = 1)) (rzCut (S0 485)) (S0 480 8) r ∧ r.1 = true ∧ S 480 13 = -1) ∧ S 480 8 = 0)
noncomputable def rxmLAWX_18 (S0 : Nat → Int → Int) (ws : List Int) (S : Nat → Int → Int) (base i : Int) : Nat := rxm242_18 S0 ws S base i
noncomputable def rxILAWX_19 (S0 : Nat → Int → Int) (ws : List Int) (S : Nat → Int → Int) (base i a v : Int) : Prop := rxI242_19 S0 ws S base i a v ∧ ((rzCk S0 → ∃ r : rzR, rzText (decide ((0 : Int) = 1)) (rzCut (S0 485)) (S0 480 8) r ∧ r.1 = true ∧ S 480 13 = -1) ∧ S 480 8 = 0)
noncomputable def rxmLAWX_19 (S0 : Nat → Int → Int) (ws : List Int) (S : Nat → Int → Int) (base i a v : Int) : Nat := rxm242_19 S0 ws S base i a v
noncomputable def rxILAWX_20 (S0 : Nat → Int → Int) (ws : List Int) (S : Nat → Int → Int) (base i a v : Int) : Prop := rxI242_20 S0 ws S base i a v ∧ ((rzCk S0 → ∃ r : rzR, rzText (decide ((0 : Int) = 1)) (rzCut (S0 485)) (S0 480 8) r ∧ r.1 = true ∧ S 480 13 = -1) ∧ S 480 8 = 0)
noncomputable def rxmLAWX_20 (S0 : Nat → Int → Int) (ws : List Int) (S : Nat → Int → Int) (base i a v : Int) : Nat := rxm242_20 S0 ws S base i a v
noncomputable def rxILAWX_21 (S0 : Nat → Int → Int) (ws : List Int) (S : Nat → Int → Int) (base i a v : Int) : Prop := rxI242_21 S0 ws S base i a v ∧ ((rzCk S0 → ∃ r : rzR, rzText (decide ((0 : Int) = 1)) (rzCut (S0 485)) (S0 480 8) r ∧ r.1 = true ∧ S 480 13 = -1) ∧ S 480 8 = 0)
noncomputable def rxmLAWX_21 (S0 : Nat → Int → Int) (ws : List Int) (S : Nat → Int → Int) (base i a v : Int) : Nat := rxm242_21 S0 ws S base i a v
noncomputable def rxILAWX_22 (S0 : Nat → Int → Int) (ws : List Int) (S : Nat → Int → Int) (base i a v : Int) : Prop := rxI242_22 S0 ws S base i a v ∧ ((rzCk S0 → ∃ r : rzR, rzText (decide ((0 : Int) = 1)) (rzCut (S0 485)) (S0 480 8) r ∧ r.1 = true ∧ S 480 13 = -1) ∧ S 480 8 = 0)
noncomputable def rxmLAWX_22 (S0 : Nat → Int → Int) (ws : List Int) (S : Nat → Int → Int) (base i a v : Int) : Nat := rxm242_22 S0 ws S base i a v
noncomputable def rxILAWX_23 (S0 : Nat → Int → Int) (ws : List Int) (S : Nat → Int → Int) (n3 : Int) : Prop := rxI242_23 S0 ws S n3 ∧ ((rzCk S0 → ∃ r : rzR, rzText (decide ((0 : Int) = 1)) (rzCut (S0 485)) (S0 480 8) r ∧ r.1 = true ∧ S 480 13 = -1) ∧ S 480 8 = 0 ∧ n3 = S0 482 3 ∧ S0 482 3 ≠ 6)
noncomputable def rxmLAWX_23 (S0 : Nat → Int → Int) (ws : List Int) (S : Nat → Int → Int) (n3 : Int) : Nat := rxm242_23 S0 ws S n3
noncomputable def rxPLAWX (S0 : Nat → Int → Int) (ws : List Int) : Prop := rxP242 S0 ws
noncomputable def rxPSLAWX (S0 : Nat → Int → Int) (ws : List Int) (S : Nat → Int → Int) (w : Option Int) : Prop := rxPS242 S0 ws S w ∧ (rzCk S0 → (S0 482 3 = 6 ∧ w = some (-5) ∧ S 480 8 = 0 ∧ S 480 13 = S0 480 13 ∧ S 482 3 = S0 482 3) ∨ (S0 482 3 ≠ 6 ∧ S 480 8 = 0 ∧ ∃ r : rzR, rzText (decide ((0 : Int) = 1)) (rzCut (S0 485)) (S0 480 8) r ∧ ((r.1 = true ∧ w = some (S0 482 3) ∧ S 480 13 = -1 ∧ S 482 3 = S0 482 3 + 1) ∨ (r.1 = false ∧ w = some (-6) ∧ S 480 13 = r.2.1 ∧ S 482 3 = S0 482 3))))
theorem rxkLAWX_1 {S0 : Nat → Int → Int} {ws : List Int} {S : Nat → Int → Int} (hP : rxPLAWX S0 ws) (hin : bx_same rxL (bx_mdl rxC242.2.2.1) S0 S) (I0 : bx_Inv rxL S) (hinv : rxILAWX_1 S0 ws S)  : rxPBXW S [480, 0] ∧ ∀ (S_p : Nat → Int → Int), rxPSBXW S [480, 0] S_p none → bx_Inv rxL S_p → bx_same rxL (bx_mdl rxCBXW.2.2.1) S S_p → rxILAWX_2 S0 ws S_p ∧ rxmLAWX_2 S0 ws S_p < rxmLAWX_1 S0 ws S := by
  obtain ⟨hI, hx⟩ := hinv
  have g_ := rxk242_1 hP hin I0 hI
  exact ⟨g_.1, fun S_p hq I1 hsm => ⟨⟨(g_.2 S_p hq.2.1 I1 hsm).1, (fun c => by
    obtain ⟨g1, g13, gd, ge, g21⟩ := hq.2.2
    rw [hx.1, hx.2.1] at ge
    obtain ⟨-, -, o14, o16, -, z2, hz2, o15⟩ := hq.2.1
    have ez : (0 : Int) = z2 := Option.some.inj (congrArg (fun l : List Int => l[1]?) hz2)
    rw [show (12 - S_p 480 16).toNat = 12 by omega]
    exact rzRj_0 c ⟨g1.1.trans hx.1, g1.2.1.trans hx.2.1, fun c => g1.2.2 (hx.2.2 c)⟩ g13 (by omega) gd ge g21 o14)⟩, (g_.2 S_p hq.2.1 I1 hsm).2⟩⟩
theorem rxkLAWX_3 {S0 : Nat → Int → Int} {ws : List Int} {S : Nat → Int → Int} (hP : rxPLAWX S0 ws) (hin : bx_same rxL (bx_mdl rxC242.2.2.1) S0 S) (I0 : bx_Inv rxL S) (hinv : rxILAWX_3 S0 ws S)  : rxPRLW S [480] ∧ ∀ (S_p : Nat → Int → Int), rxPSRLW S [480] S_p none → bx_Inv rxL S_p → bx_same rxL (bx_mdl rxCRLW.2.2.1) S S_p → rxILAWX_4 S0 ws S_p ∧ rxmLAWX_4 S0 ws S_p < rxmLAWX_3 S0 ws S := by
  obtain ⟨hI, hx⟩ := hinv
  have g_ := rxk242_3 hP hin I0 hI
  exact ⟨g_.1, fun S_p hq I1 hsm => ⟨⟨(g_.2 S_p hq.2.1 I1 hsm).1, (fun c => by
    have z0 : S 480 14 = 0 := hI.2.2.1
    have h := hx c
    obtain ⟨q1, q2, q3, q4, q5, q6⟩ := rzRj_q h z0
    have x := hq.2.2 q1 q2 (by unfold rzWr; rw [q3]; exact if_neg (by decide))
    rw [q4, q5] at x
    refine rzRj_co h z0 x hq.2.1.2.2 (fun n12 r p => ?_) fun n12 r p => ?_
    · rw [rzCl_z0]
      rcases p with p | p
      · exact p.2
      · exact absurd n12 (of_decide_eq_false p.1)
    · rcases p with p | p
      · exact absurd (of_decide_eq_true p.1) n12
      · exact p.2)⟩, (g_.2 S_p hq.2.1 I1 hsm).2⟩⟩
theorem rxkLAWX_6 {S0 : Nat → Int → Int} {ws : List Int} {S : Nat → Int → Int} (hP : rxPLAWX S0 ws) (hin : bx_same rxL (bx_mdl rxC242.2.2.1) S0 S) (I0 : bx_Inv rxL S) (hinv : rxILAWX_6 S0 ws S)  : rxPNXX S [480] ∧ ∀ (S_p : Nat → Int → Int), rxPSNXX S [480] S_p none → bx_Inv rxL S_p → bx_same rxL (bx_mdl rxCNXX.2.2.1) S S_p → rxILAWX_7 S0 ws S_p ∧ rxmLAWX_7 S0 ws S_p < rxmLAWX_6 S0 ws S := by
  obtain ⟨hI, hx⟩ := hinv
  have g_ := rxk242_6 hP hin I0 hI
  exact ⟨g_.1, fun S_p hq I1 hsm => ⟨⟨(g_.2 S_p hq.2.1 I1 hsm).1, (fun c => by
    have z0 : S 480 14 = 0 := hI.2.2.2
    have h := hx.1 c
    obtain ⟨q1, q2, q3, q4, q5, q6⟩ := rzRj_q h z0
    have hs := hx.2 z0 q2
    rw [q4, q5] at hs
    have e16 : S_p 480 16 = S 480 16 := hsm 480 16 (by decide) (by decide) (by decide +kernel)
    rw [e16]
    exact rzRj_nx h z0 (show S_p 480 14 = S 480 14 from hsm 480 14 (by decide) (by decide) (by decide +kernel)) (show S_p 480 21 = S 480 21 from hsm 480 21 (by decide) (by decide) (by decide +kernel)) (rzKr_of hsm (by decide +kernel)) hq.2.2.1 hq.2.2.2 fun f lf r e1 e2 q => Or.inl ⟨by rw [e1]; exact hs, q⟩)⟩, (g_.2 S_p hq.2.1 I1 hsm).2⟩⟩
theorem rxkLAWX_8 {S0 : Nat → Int → Int} {ws : List Int} {S : Nat → Int → Int} (hP : rxPLAWX S0 ws) (hin : bx_same rxL (bx_mdl rxC242.2.2.1) S0 S) (I0 : bx_Inv rxL S) (hinv : rxILAWX_8 S0 ws S)  : rxPRLW S [480] ∧ ∀ (S_p : Nat → Int → Int), rxPSRLW S [480] S_p none → bx_Inv rxL S_p → bx_same rxL (bx_mdl rxCRLW.2.2.1) S S_p → rxILAWX_9 S0 ws S_p ∧ rxmLAWX_9 S0 ws S_p < rxmLAWX_8 S0 ws S := by
  obtain ⟨hI, hx⟩ := hinv
  have g_ := rxk242_8 hP hin I0 hI
  exact ⟨g_.1, fun S_p hq I1 hsm => ⟨⟨(g_.2 S_p hq.2.1 I1 hsm).1, (fun c => by
    have z0 : S 480 14 = 0 := hI.2.2.2
    have h := hx c
    obtain ⟨q1, q2, q3, q4, q5, q6⟩ := rzRj_q h z0
    have x := hq.2.2 q1 q2 (by unfold rzWr; rw [q3]; exact if_neg (by decide))
    rw [q4, q5] at x
    refine rzRj_co h z0 x hq.2.1.2.2 (fun n12 r p => ?_) fun n12 r p => ?_
    · rw [rzCl_z0]
      rcases p with p | p
      · exact p.2
      · exact absurd n12 (of_decide_eq_false p.1)
    · rcases p with p | p
      · exact absurd (of_decide_eq_true p.1) n12
      · exact p.2)⟩, (g_.2 S_p hq.2.1 I1 hsm).2⟩⟩
theorem rxkLAWX_10 {S0 : Nat → Int → Int} {ws : List Int} {S : Nat → Int → Int} (hP : rxPLAWX S0 ws) (hin : bx_same rxL (bx_mdl rxC242.2.2.1) S0 S) (I0 : bx_Inv rxL S) (hinv : rxILAWX_10 S0 ws S)  : rxPETW S [480] ∧ ∀ (S_p : Nat → Int → Int), rxPSETW S [480] S_p none → bx_Inv rxL S_p → bx_same rxL (bx_mdl rxCETW.2.2.1) S S_p → rxILAWX_11 S0 ws S_p ∧ rxmLAWX_11 S0 ws S_p < rxmLAWX_10 S0 ws S := by
  obtain ⟨hI, hx⟩ := hinv
  have g_ := rxk242_10 hP hin I0 hI
  exact ⟨g_.1, fun S_p hq I1 hsm => ⟨⟨(g_.2 S_p hq.2.1 I1 hsm).1, ⟨fun c => rzRj_et (hx.1 c) (fun z0 => hx.2 z0 (rzRj_q (hx.1 c) z0).2.1) hq.2.2.1, hq.2.2.2⟩⟩, (g_.2 S_p hq.2.1 I1 hsm).2⟩⟩
theorem rxtLAWX_13 {S0 : Nat → Int → Int} {ws : List Int} {S : Nat → Int → Int} {base a v : Int} (hP : rxPLAWX S0 ws) (hin : bx_same rxL (bx_mdl rxC242.2.2.1) S0 S) (I0 : bx_Inv rxL S) (hinv : rxILAWX_13 S0 ws S base a v) (l8 : 780 ≤ base) (u8 : base ≤ 5280) (l9 : 781 ≤ a) (u9 : a ≤ 5281) (l10 : 0 ≤ v) (u10 : v ≤ 12) : bx_okT rxL (rxL.2.2.1 482 a) v ∧ rxILAWX_14 S0 ws (bx_up S 482 a v) base a v ∧ rxmLAWX_14 S0 ws (bx_up S 482 a v) base a v < rxmLAWX_13 S0 ws S base a v := by
  obtain ⟨hI, hx⟩ := hinv
  obtain ⟨a_, c_, d_⟩ := rxt242_13 hP hin I0 hI l8 u8 l9 u9 l10 u10
  exact ⟨a_, ⟨c_, ⟨fun c => by
    obtain ⟨r, r1, r2, r3⟩ := hx.1 c
    exact ⟨r, r1, r2, ((bx_up_ne (by omega))).trans r3⟩, ((bx_up_ne (by omega))).trans hx.2⟩⟩, d_⟩
theorem rxtLAWX_16 {S0 : Nat → Int → Int} {ws : List Int} {S : Nat → Int → Int} {base i a v : Int} (hP : rxPLAWX S0 ws) (hin : bx_same rxL (bx_mdl rxC242.2.2.1) S0 S) (I0 : bx_Inv rxL S) (hinv : rxILAWX_16 S0 ws S base i a v) (l8 : 780 ≤ base) (u8 : base ≤ 5280) (l9 : 0 ≤ i) (u9 : i ≤ 95) (l10 : 782 ≤ a) (u10 : a ≤ 5377) (l11 : 0 ≤ v) (u11 : v ≤ 400) : bx_okT rxL (rxL.2.2.1 482 a) v ∧ rxILAWX_17 S0 ws (bx_up S 482 a v) base i a v ∧ rxmLAWX_17 S0 ws (bx_up S 482 a v) base i a v < rxmLAWX_16 S0 ws S base i a v := by
  obtain ⟨hI, hx⟩ := hinv
  obtain ⟨a_, c_, d_⟩ := rxt242_16 hP hin I0 hI l8 u8 l9 u9 l10 u10 l11 u11
  exact ⟨a_, ⟨c_, ⟨fun c => by
    obtain ⟨r, r1, r2, r3⟩ := hx.1 c
    exact ⟨r, r1, r2, ((bx_up_ne (by omega))).trans r3⟩, ((bx_up_ne (by omega))).trans hx.2⟩⟩, d_⟩
theorem rxtLAWX_19 {S0 : Nat → Int → Int} {ws : List Int} {S : Nat → Int → Int} {base i a v : Int} (hP : rxPLAWX S0 ws) (hin : bx_same rxL (bx_mdl rxC242.2.2.1) S0 S) (I0 : bx_Inv rxL S) (hinv : rxILAWX_19 S0 ws S base i a v) (l8 : 780 ≤ base) (u8 : base ≤ 5280) (l9 : 0 ≤ i) (u9 : i ≤ 399) (l10 : 878 ≤ a) (u10 : a ≤ 6176) (l11 : 0 ≤ v) (u11 : v ≤ 30) : bx_okT rxL (rxL.2.2.1 482 a) v ∧ rxILAWX_20 S0 ws (bx_up S 482 a v) base i a v ∧ rxmLAWX_20 S0 ws (bx_up S 482 a v) base i a v < rxmLAWX_19 S0 ws S base i a v := by
  obtain ⟨hI, hx⟩ := hinv
  obtain ⟨a_, c_, d_⟩ := rxt242_19 hP hin I0 hI l8 u8 l9 u9 l10 u10 l11 u11
  exact ⟨a_, ⟨c_, ⟨fun c => by
    obtain ⟨r, r1, r2, r3⟩ := hx.1 c
    exact ⟨r, r1, r2, ((bx_up_ne (by omega))).trans r3⟩, ((bx_up_ne (by omega))).trans hx.2⟩⟩, d_⟩
theorem rxtLAWX_21 {S0 : Nat → Int → Int} {ws : List Int} {S : Nat → Int → Int} {base i a v : Int} (hP : rxPLAWX S0 ws) (hin : bx_same rxL (bx_mdl rxC242.2.2.1) S0 S) (I0 : bx_Inv rxL S) (hinv : rxILAWX_21 S0 ws S base i a v) (l8 : 780 ≤ base) (u8 : base ≤ 5280) (l9 : 0 ≤ i) (u9 : i ≤ 399) (l10 : 879 ≤ a) (u10 : a ≤ 6177) (l11 : 0 ≤ v) (u11 : v ≤ 1000) : bx_okT rxL (rxL.2.2.1 482 a) v ∧ rxILAWX_22 S0 ws (bx_up S 482 a v) base i a v ∧ rxmLAWX_22 S0 ws (bx_up S 482 a v) base i a v < rxmLAWX_21 S0 ws S base i a v := by
  obtain ⟨hI, hx⟩ := hinv
  obtain ⟨a_, c_, d_⟩ := rxt242_21 hP hin I0 hI l8 u8 l9 u9 l10 u10 l11 u11
  exact ⟨a_, ⟨c_, ⟨fun c => by
    obtain ⟨r, r1, r2, r3⟩ := hx.1 c
    exact ⟨r, r1, r2, ((bx_up_ne (by omega))).trans r3⟩, ((bx_up_ne (by omega))).trans hx.2⟩⟩, d_⟩
theorem rxcLAWX_0_0 {S0 : Nat → Int → Int} {ws : List Int} {S : Nat → Int → Int} {x8 : Int} (hP : rxPLAWX S0 ws) (hin : bx_same rxL (bx_mdl rxC242.2.2.1) S0 S) (I0 : bx_Inv rxL S) (hinv : rxILAWX_0 S0 ws S) (l8 : 0 ≤ x8) (u8 : x8 ≤ 5) (f0 : x8 ≠ 6) (e0 : (bx_up S 480 0 0) 482 3 = x8) : (True) ∧ (True) ∧ rxILAWX_1 S0 ws (bx_up S 480 0 0) ∧ rxmLAWX_1 S0 ws (bx_up S 480 0 0) < rxmLAWX_0 S0 ws S := by
  obtain ⟨hI, hx⟩ := hinv
  obtain ⟨a_, b_, c_, d_⟩ := rxc242_0_0 hP hin I0 hI l8 u8 f0 e0
  exact ⟨a_, b_, ⟨c_, (by
    have e := hI.1
    subst e
    exact ⟨congrArg rzCut (funext fun _ => (bx_up_ne (by omega))), (bx_up_ne (by omega)), fun c => rzCk_c c (funext fun _ => (bx_up_ne (by omega))) (funext fun _ => (bx_up_ne (by omega)))⟩)⟩, d_⟩
theorem rxdLAWX_0_0 {S0 : Nat → Int → Int} {ws : List Int} {S : Nat → Int → Int} {x8 x9 x10 : Int} (hP : rxPLAWX S0 ws) (hin : bx_same rxL (bx_mdl rxC242.2.2.1) S0 S) (hin2 : bx_same rxL (bx_mdl rxC242.2.2.1) S (bx_up (bx_up (bx_up (bx_up S 480 0 0) 480 8 0) 480 1 ((-5))) 481 5 x10)) (I0 : bx_Inv rxL S) (I1 : bx_Inv rxL (bx_up (bx_up (bx_up (bx_up S 480 0 0) 480 8 0) 480 1 ((-5))) 481 5 x10)) (hinv : rxILAWX_0 S0 ws S) (l8 : 6 ≤ x8) (u8 : x8 ≤ 6) (l9 : (-2147483648) ≤ x9) (u9 : x9 ≤ 2147483647) (l10 : (-2147483648) ≤ x10) (u10 : x10 ≤ 2147483647) (e4 : (bx_up S 480 0 0) 482 3 = x8) (e1 : (bx_up (bx_up (bx_up S 480 0 0) 480 8 0) 480 1 ((-5))) 481 5 = x9) : (True) ∧ rxPSLAWX S0 ws (bx_up (bx_up (bx_up (bx_up S 480 0 0) 480 8 0) 480 1 ((-5))) 481 5 x10) (some ((-5))) := by
  obtain ⟨hI, hx⟩ := hinv
  obtain ⟨a_, c_⟩ := rxd242_0_0 hP hin hin2 I0 I1 hI l8 u8 l9 u9 l10 u10 e4 e1
  exact ⟨a_, c_, (fun c => by
    have e := hI.1
    subst e
    have q := e4
    rw [bx_up_ne (by omega)] at q
    exact Or.inl ⟨by omega, rfl, (bx_up_ne (by omega)).trans ((bx_up_ne (by omega)).trans (bx_up_at)), (bx_up_ne (by omega)).trans ((bx_up_ne (by omega)).trans ((bx_up_ne (by omega)).trans ((bx_up_ne (by omega))))), (bx_up_ne (by omega)).trans ((bx_up_ne (by omega)).trans ((bx_up_ne (by omega)).trans ((bx_up_ne (by omega)))))⟩)⟩
theorem rxcLAWX_2_0 {S0 : Nat → Int → Int} {ws : List Int} {S : Nat → Int → Int} (hP : rxPLAWX S0 ws) (hin : bx_same rxL (bx_mdl rxC242.2.2.1) S0 S) (I0 : bx_Inv rxL S) (hinv : rxILAWX_2 S0 ws S)  : (True) ∧ (True) ∧ rxILAWX_3 S0 ws S ∧ rxmLAWX_3 S0 ws S < rxmLAWX_2 S0 ws S := by
  obtain ⟨hI, hx⟩ := hinv
  obtain ⟨a_, b_, c_, d_⟩ := rxc242_2_0 hP hin I0 hI
  exact ⟨a_, b_, ⟨c_, hx⟩, d_⟩
theorem rxcLAWX_4_0 {S0 : Nat → Int → Int} {ws : List Int} {S : Nat → Int → Int} {x8 x9 : Int} (hP : rxPLAWX S0 ws) (hin : bx_same rxL (bx_mdl rxC242.2.2.1) S0 S) (I0 : bx_Inv rxL S) (hinv : rxILAWX_4 S0 ws S) (l8 : 0 ≤ x8) (u8 : x8 ≤ 0) (l9 : 0 ≤ x9) (u9 : x9 ≤ 2) (f0 : x9 ≠ 3) (e1 : S 480 14 = x8) (e0 : S 480 11 = x9) : (True) ∧ (True) ∧ rxILAWX_10 S0 ws S ∧ rxmLAWX_10 S0 ws S < rxmLAWX_4 S0 ws S := by
  obtain ⟨hI, hx⟩ := hinv
  obtain ⟨a_, b_, c_, d_⟩ := rxc242_4_0 hP hin I0 hI l8 u8 l9 u9 f0 e1 e0
  exact ⟨a_, b_, ⟨c_, ⟨hx, fun z b => rzDq_ns b (c := 59) (by decide) (by decide) (by omega)⟩⟩, d_⟩
theorem rxcLAWX_4_1 {S0 : Nat → Int → Int} {ws : List Int} {S : Nat → Int → Int} {x8 x9 x10 : Int} (hP : rxPLAWX S0 ws) (hin : bx_same rxL (bx_mdl rxC242.2.2.1) S0 S) (I0 : bx_Inv rxL S) (hinv : rxILAWX_4 S0 ws S) (l8 : 0 ≤ x8) (u8 : x8 ≤ 0) (l9 : 3 ≤ x9) (u9 : x9 ≤ 3) (l10 : (-9223372036854775808) ≤ x10) (u10 : x10 ≤ 9223372036854775807) (f0 : x10 ≠ 59) (e2 : S 480 14 = x8) (e1 : S 480 11 = x9) (e0 : S 480 12 = x10) : (True) ∧ (True) ∧ rxILAWX_10 S0 ws S ∧ rxmLAWX_10 S0 ws S < rxmLAWX_4 S0 ws S := by
  obtain ⟨hI, hx⟩ := hinv
  obtain ⟨a_, b_, c_, d_⟩ := rxc242_4_1 hP hin I0 hI l8 u8 l9 u9 l10 u10 f0 e2 e1 e0
  exact ⟨a_, b_, ⟨c_, ⟨hx, fun z b => rzDq_ns b (c := 59) (by decide) (by decide) (by omega)⟩⟩, d_⟩
theorem rxcLAWX_4_2 {S0 : Nat → Int → Int} {ws : List Int} {S : Nat → Int → Int} {x8 x9 x10 : Int} (hP : rxPLAWX S0 ws) (hin : bx_same rxL (bx_mdl rxC242.2.2.1) S0 S) (I0 : bx_Inv rxL S) (hinv : rxILAWX_4 S0 ws S) (l8 : 0 ≤ x8) (u8 : x8 ≤ 0) (l9 : 3 ≤ x9) (u9 : x9 ≤ 3) (l10 : 59 ≤ x10) (u10 : x10 ≤ 59) (e2 : S 480 14 = x8) (e1 : S 480 11 = x9) (e0 : S 480 12 = x10) : (True) ∧ (True) ∧ rxILAWX_6 S0 ws S ∧ rxmLAWX_6 S0 ws S < rxmLAWX_4 S0 ws S := by
  obtain ⟨hI, hx⟩ := hinv
  obtain ⟨a_, b_, c_, d_⟩ := rxc242_4_2 hP hin I0 hI l8 u8 l9 u9 l10 u10 e2 e1 e0
  exact ⟨a_, b_, ⟨c_, ⟨hx, fun z b => (rzDq_sg b (c := 59) (by decide) (by decide)).mp ⟨by omega, by omega⟩⟩⟩, d_⟩
theorem rxcLAWX_4_3 {S0 : Nat → Int → Int} {ws : List Int} {S : Nat → Int → Int} {x8 : Int} (hP : rxPLAWX S0 ws) (hin : bx_same rxL (bx_mdl rxC242.2.2.1) S0 S) (I0 : bx_Inv rxL S) (hinv : rxILAWX_4 S0 ws S) (l8 : 1 ≤ x8) (u8 : x8 ≤ 1) (f0 : x8 ≠ 0) (e0 : S 480 14 = x8) : (True) ∧ (True) ∧ rxILAWX_10 S0 ws S ∧ rxmLAWX_10 S0 ws S < rxmLAWX_4 S0 ws S := by
  obtain ⟨hI, hx⟩ := hinv
  obtain ⟨a_, b_, c_, d_⟩ := rxc242_4_3 hP hin I0 hI l8 u8 f0 e0
  exact ⟨a_, b_, ⟨c_, ⟨hx, fun z b => by omega⟩⟩, d_⟩
theorem rxcLAWX_5_0 {S0 : Nat → Int → Int} {ws : List Int} {S : Nat → Int → Int} {x8 x9 : Int} (hP : rxPLAWX S0 ws) (hin : bx_same rxL (bx_mdl rxC242.2.2.1) S0 S) (I0 : bx_Inv rxL S) (hinv : rxILAWX_5 S0 ws S) (l8 : 0 ≤ x8) (u8 : x8 ≤ 0) (l9 : 0 ≤ x9) (u9 : x9 ≤ 2) (f0 : x9 ≠ 3) (e1 : S 480 14 = x8) (e0 : S 480 11 = x9) : (True) ∧ (True) ∧ rxILAWX_10 S0 ws S ∧ rxmLAWX_10 S0 ws S < rxmLAWX_5 S0 ws S := by
  obtain ⟨hI, hx⟩ := hinv
  obtain ⟨a_, b_, c_, d_⟩ := rxc242_5_0 hP hin I0 hI l8 u8 l9 u9 f0 e1 e0
  exact ⟨a_, b_, ⟨c_, ⟨hx, fun z b => rzDq_ns b (c := 59) (by decide) (by decide) (by omega)⟩⟩, d_⟩
theorem rxcLAWX_5_1 {S0 : Nat → Int → Int} {ws : List Int} {S : Nat → Int → Int} {x8 x9 x10 : Int} (hP : rxPLAWX S0 ws) (hin : bx_same rxL (bx_mdl rxC242.2.2.1) S0 S) (I0 : bx_Inv rxL S) (hinv : rxILAWX_5 S0 ws S) (l8 : 0 ≤ x8) (u8 : x8 ≤ 0) (l9 : 3 ≤ x9) (u9 : x9 ≤ 3) (l10 : (-9223372036854775808) ≤ x10) (u10 : x10 ≤ 9223372036854775807) (f0 : x10 ≠ 59) (e2 : S 480 14 = x8) (e1 : S 480 11 = x9) (e0 : S 480 12 = x10) : (True) ∧ (True) ∧ rxILAWX_10 S0 ws S ∧ rxmLAWX_10 S0 ws S < rxmLAWX_5 S0 ws S := by
  obtain ⟨hI, hx⟩ := hinv
  obtain ⟨a_, b_, c_, d_⟩ := rxc242_5_1 hP hin I0 hI l8 u8 l9 u9 l10 u10 f0 e2 e1 e0
  exact ⟨a_, b_, ⟨c_, ⟨hx, fun z b => rzDq_ns b (c := 59) (by decide) (by decide) (by omega)⟩⟩, d_⟩
theorem rxcLAWX_5_2 {S0 : Nat → Int → Int} {ws : List Int} {S : Nat → Int → Int} {x8 x9 x10 : Int} (hP : rxPLAWX S0 ws) (hin : bx_same rxL (bx_mdl rxC242.2.2.1) S0 S) (I0 : bx_Inv rxL S) (hinv : rxILAWX_5 S0 ws S) (l8 : 0 ≤ x8) (u8 : x8 ≤ 0) (l9 : 3 ≤ x9) (u9 : x9 ≤ 3) (l10 : 59 ≤ x10) (u10 : x10 ≤ 59) (e2 : S 480 14 = x8) (e1 : S 480 11 = x9) (e0 : S 480 12 = x10) : (True) ∧ (True) ∧ rxILAWX_6 S0 ws S ∧ rxmLAWX_6 S0 ws S < rxmLAWX_5 S0 ws S := by
  obtain ⟨hI, hx⟩ := hinv
  obtain ⟨a_, b_, c_, d_⟩ := rxc242_5_2 hP hin I0 hI l8 u8 l9 u9 l10 u10 e2 e1 e0
  exact ⟨a_, b_, ⟨c_, ⟨hx, fun z b => (rzDq_sg b (c := 59) (by decide) (by decide)).mp ⟨by omega, by omega⟩⟩⟩, d_⟩
theorem rxcLAWX_5_3 {S0 : Nat → Int → Int} {ws : List Int} {S : Nat → Int → Int} {x8 : Int} (hP : rxPLAWX S0 ws) (hin : bx_same rxL (bx_mdl rxC242.2.2.1) S0 S) (I0 : bx_Inv rxL S) (hinv : rxILAWX_5 S0 ws S) (l8 : 1 ≤ x8) (u8 : x8 ≤ 1) (f0 : x8 ≠ 0) (e0 : S 480 14 = x8) : (True) ∧ (True) ∧ rxILAWX_10 S0 ws S ∧ rxmLAWX_10 S0 ws S < rxmLAWX_5 S0 ws S := by
  obtain ⟨hI, hx⟩ := hinv
  obtain ⟨a_, b_, c_, d_⟩ := rxc242_5_3 hP hin I0 hI l8 u8 f0 e0
  exact ⟨a_, b_, ⟨c_, ⟨hx, fun z b => by omega⟩⟩, d_⟩
theorem rxcLAWX_7_0 {S0 : Nat → Int → Int} {ws : List Int} {S : Nat → Int → Int} (hP : rxPLAWX S0 ws) (hin : bx_same rxL (bx_mdl rxC242.2.2.1) S0 S) (I0 : bx_Inv rxL S) (hinv : rxILAWX_7 S0 ws S)  : (True) ∧ (True) ∧ rxILAWX_8 S0 ws S ∧ rxmLAWX_8 S0 ws S < rxmLAWX_7 S0 ws S := by
  obtain ⟨hI, hx⟩ := hinv
  obtain ⟨a_, b_, c_, d_⟩ := rxc242_7_0 hP hin I0 hI
  exact ⟨a_, b_, ⟨c_, hx⟩, d_⟩
theorem rxcLAWX_9_0 {S0 : Nat → Int → Int} {ws : List Int} {S : Nat → Int → Int} (hP : rxPLAWX S0 ws) (hin : bx_same rxL (bx_mdl rxC242.2.2.1) S0 S) (I0 : bx_Inv rxL S) (hinv : rxILAWX_9 S0 ws S)  : (True) ∧ (True) ∧ rxILAWX_5 S0 ws S ∧ rxmLAWX_5 S0 ws S < rxmLAWX_9 S0 ws S := by
  obtain ⟨hI, hx⟩ := hinv
  obtain ⟨a_, b_, c_, d_⟩ := rxc242_9_0 hP hin I0 hI
  exact ⟨a_, b_, ⟨c_, hx⟩, d_⟩
theorem rxcLAWX_11_0 {S0 : Nat → Int → Int} {ws : List Int} {S : Nat → Int → Int} {x8 x9 : Int} (hP : rxPLAWX S0 ws) (hin : bx_same rxL (bx_mdl rxC242.2.2.1) S0 S) (I0 : bx_Inv rxL S) (hinv : rxILAWX_11 S0 ws S) (l8 : 0 ≤ x8) (u8 : x8 ≤ 0) (l9 : 0 ≤ x9) (u9 : x9 ≤ 6) (e1 : S 480 14 = x8) (e0 : S 482 3 = x9) : ((0 ≤ x9 ∧ x9 ≤ 5) ∧ True) ∧ (True) ∧ rxILAWX_12 S0 ws S x9 ∧ rxmLAWX_12 S0 ws S x9 < rxmLAWX_11 S0 ws S := by
  obtain ⟨hI, hx⟩ := hinv
  obtain ⟨a_, b_, c_, d_⟩ := rxc242_11_0 hP hin I0 hI l8 u8 l9 u9 e1 e0
  exact ⟨a_, b_, ⟨c_, ⟨fun c => by
    obtain ⟨r, r1, r2⟩ := hx.1 c
    rcases r2 with v | v
    · exact ⟨r, r1, v.2⟩
    · omega, hx.2⟩⟩, d_⟩
theorem rxdLAWX_11_0 {S0 : Nat → Int → Int} {ws : List Int} {S : Nat → Int → Int} {x8 x9 x10 : Int} (hP : rxPLAWX S0 ws) (hin : bx_same rxL (bx_mdl rxC242.2.2.1) S0 S) (hin2 : bx_same rxL (bx_mdl rxC242.2.2.1) S (bx_up (bx_up S 480 1 ((-6))) 481 6 x10)) (I0 : bx_Inv rxL S) (I1 : bx_Inv rxL (bx_up (bx_up S 480 1 ((-6))) 481 6 x10)) (hinv : rxILAWX_11 S0 ws S) (l8 : 1 ≤ x8) (u8 : x8 ≤ 1) (l9 : (-2147483648) ≤ x9) (u9 : x9 ≤ 2147483647) (l10 : (-2147483648) ≤ x10) (u10 : x10 ≤ 2147483647) (f0 : x8 ≠ 0) (e3 : S 480 14 = x8) (e1 : (bx_up S 480 1 ((-6))) 481 6 = x9) : (True) ∧ rxPSLAWX S0 ws (bx_up (bx_up S 480 1 ((-6))) 481 6 x10) (some ((-6))) := by
  obtain ⟨hI, hx⟩ := hinv
  obtain ⟨a_, c_⟩ := rxd242_11_0 hP hin hin2 I0 I1 hI l8 u8 l9 u9 l10 u10 f0 e3 e1
  exact ⟨a_, c_, (fun c => by
    obtain ⟨r, r1, r2⟩ := hx.1 c
    have q3 := hI.1.1 3 (by omega) (by omega)
    have q5 := hI.1.2.2
    refine Or.inr ⟨by omega, ((bx_up_ne (by omega)).trans ((bx_up_ne (by omega)))).trans hx.2, r, r1, ?_⟩
    rcases r2 with v | v
    · omega
    · exact Or.inr ⟨v.2.1, rfl, ((bx_up_ne (by omega)).trans ((bx_up_ne (by omega)))).trans v.2.2, ((bx_up_ne (by omega)).trans ((bx_up_ne (by omega)))).trans q3⟩)⟩
theorem rxcLAWX_12_0 {S0 : Nat → Int → Int} {ws : List Int} {S : Nat → Int → Int} {n3 x9 x10 : Int} (hP : rxPLAWX S0 ws) (hin : bx_same rxL (bx_mdl rxC242.2.2.1) S0 S) (I0 : bx_Inv rxL S) (hinv : rxILAWX_12 S0 ws S n3) (l8 : 0 ≤ n3) (u8 : n3 ≤ 5) (l9 : 0 ≤ x9) (u9 : x9 ≤ 4500) (l10 : 0 ≤ x10) (u10 : x10 ≤ 12) (f0 : x9 = 900 * (n3)) (e0 : S 480 16 = x10) : (True) ∧ (True) ∧ rxILAWX_13 S0 ws S (x9 + 780) (x9 + 781) x10 ∧ rxmLAWX_13 S0 ws S (x9 + 780) (x9 + 781) x10 < rxmLAWX_12 S0 ws S n3 := by
  obtain ⟨hI, hx⟩ := hinv
  obtain ⟨a_, b_, c_, d_⟩ := rxc242_12_0 hP hin I0 hI l8 u8 l9 u9 l10 u10 f0 e0
  exact ⟨a_, b_, ⟨c_, hx⟩, d_⟩
theorem rxcLAWX_14_0 {S0 : Nat → Int → Int} {ws : List Int} {S : Nat → Int → Int} {base a v : Int} (hP : rxPLAWX S0 ws) (hin : bx_same rxL (bx_mdl rxC242.2.2.1) S0 S) (I0 : bx_Inv rxL S) (hinv : rxILAWX_14 S0 ws S base a v) (l8 : 780 ≤ base) (u8 : base ≤ 5280) (l9 : 781 ≤ a) (u9 : a ≤ 5281) (l10 : 0 ≤ v) (u10 : v ≤ 12) : (True) ∧ (True) ∧ rxILAWX_15 S0 ws S base 0 ∧ rxmLAWX_15 S0 ws S base 0 < rxmLAWX_14 S0 ws S base a v := by
  obtain ⟨hI, hx⟩ := hinv
  obtain ⟨a_, b_, c_, d_⟩ := rxc242_14_0 hP hin I0 hI l8 u8 l9 u9 l10 u10
  exact ⟨a_, b_, ⟨c_, hx⟩, d_⟩
theorem rxcLAWX_15_0 {S0 : Nat → Int → Int} {ws : List Int} {S : Nat → Int → Int} {base i x10 x11 x12 x13 : Int} (hP : rxPLAWX S0 ws) (hin : bx_same rxL (bx_mdl rxC242.2.2.1) S0 S) (I0 : bx_Inv rxL S) (hinv : rxILAWX_15 S0 ws S base i) (l8 : 780 ≤ base) (u8 : base ≤ 5280) (l9 : 0 ≤ i) (u9 : i ≤ 95) (l10 : 0 ≤ x10) (u10 : x10 ≤ 12) (l11 : 1 ≤ x11) (u11 : x11 ≤ 96) (l12 : 782 ≤ x12) (u12 : x12 ≤ 5377) (l13 : 0 ≤ x13) (u13 : x13 ≤ 400) (f0 : x12 = base + 2 + i) (f1 : i < x11) (f2 : x11 = 8 * (x10)) (e1 : S 480 16 = x10) (e0 : S 486 i = x13) : (True) ∧ (True) ∧ rxILAWX_16 S0 ws S base i x12 x13 ∧ rxmLAWX_16 S0 ws S base i x12 x13 < rxmLAWX_15 S0 ws S base i := by
  obtain ⟨hI, hx⟩ := hinv
  obtain ⟨a_, b_, c_, d_⟩ := rxc242_15_0 hP hin I0 hI l8 u8 l9 u9 l10 u10 l11 u11 l12 u12 l13 u13 f0 f1 f2 e1 e0
  exact ⟨a_, b_, ⟨c_, hx⟩, d_⟩
theorem rxcLAWX_15_1 {S0 : Nat → Int → Int} {ws : List Int} {S : Nat → Int → Int} {base i x10 x11 : Int} (hP : rxPLAWX S0 ws) (hin : bx_same rxL (bx_mdl rxC242.2.2.1) S0 S) (I0 : bx_Inv rxL S) (hinv : rxILAWX_15 S0 ws S base i) (l8 : 780 ≤ base) (u8 : base ≤ 5280) (l9 : 0 ≤ i) (u9 : i ≤ 96) (l10 : 0 ≤ x10) (u10 : x10 ≤ 12) (l11 : 0 ≤ x11) (u11 : x11 ≤ 96) (f0 : x11 ≤ i) (f1 : x11 = 8 * (x10)) (e0 : S 480 16 = x10) : (True) ∧ (True) ∧ rxILAWX_18 S0 ws S base 0 ∧ rxmLAWX_18 S0 ws S base 0 < rxmLAWX_15 S0 ws S base i := by
  obtain ⟨hI, hx⟩ := hinv
  obtain ⟨a_, b_, c_, d_⟩ := rxc242_15_1 hP hin I0 hI l8 u8 l9 u9 l10 u10 l11 u11 f0 f1 e0
  exact ⟨a_, b_, ⟨c_, hx⟩, d_⟩
theorem rxcLAWX_17_0 {S0 : Nat → Int → Int} {ws : List Int} {S : Nat → Int → Int} {base i a v : Int} (hP : rxPLAWX S0 ws) (hin : bx_same rxL (bx_mdl rxC242.2.2.1) S0 S) (I0 : bx_Inv rxL S) (hinv : rxILAWX_17 S0 ws S base i a v) (l8 : 780 ≤ base) (u8 : base ≤ 5280) (l9 : 0 ≤ i) (u9 : i ≤ 95) (l10 : 782 ≤ a) (u10 : a ≤ 5377) (l11 : 0 ≤ v) (u11 : v ≤ 400) : (True) ∧ (True) ∧ rxILAWX_15 S0 ws S base (i + 1) ∧ rxmLAWX_15 S0 ws S base (i + 1) < rxmLAWX_17 S0 ws S base i a v := by
  obtain ⟨hI, hx⟩ := hinv
  obtain ⟨a_, b_, c_, d_⟩ := rxc242_17_0 hP hin I0 hI l8 u8 l9 u9 l10 u10 l11 u11
  exact ⟨a_, b_, ⟨c_, hx⟩, d_⟩
theorem rxcLAWX_18_0 {S0 : Nat → Int → Int} {ws : List Int} {S : Nat → Int → Int} {base i x10 x11 x12 x13 : Int} (hP : rxPLAWX S0 ws) (hin : bx_same rxL (bx_mdl rxC242.2.2.1) S0 S) (I0 : bx_Inv rxL S) (hinv : rxILAWX_18 S0 ws S base i) (l8 : 780 ≤ base) (u8 : base ≤ 5280) (l9 : 0 ≤ i) (u9 : i ≤ 399) (l10 : 1 ≤ x10) (u10 : x10 ≤ 400) (l11 : 0 ≤ x11) (u11 : x11 ≤ 798) (l12 : 878 ≤ x12) (u12 : x12 ≤ 6176) (l13 : 0 ≤ x13) (u13 : x13 ≤ 30) (f0 : x12 = base + 98 + x11) (f1 : x11 = 2 * (i)) (f2 : i < x10) (e1 : S 480 18 = x10) (e0 : S 487 i = x13) : (True) ∧ (True) ∧ rxILAWX_19 S0 ws S base i x12 x13 ∧ rxmLAWX_19 S0 ws S base i x12 x13 < rxmLAWX_18 S0 ws S base i := by
  obtain ⟨hI, hx⟩ := hinv
  obtain ⟨a_, b_, c_, d_⟩ := rxc242_18_0 hP hin I0 hI l8 u8 l9 u9 l10 u10 l11 u11 l12 u12 l13 u13 f0 f1 f2 e1 e0
  exact ⟨a_, b_, ⟨c_, hx⟩, d_⟩
theorem rxcLAWX_18_1 {S0 : Nat → Int → Int} {ws : List Int} {S : Nat → Int → Int} {base i x10 x11 : Int} (hP : rxPLAWX S0 ws) (hin : bx_same rxL (bx_mdl rxC242.2.2.1) S0 S) (I0 : bx_Inv rxL S) (hinv : rxILAWX_18 S0 ws S base i) (l8 : 780 ≤ base) (u8 : base ≤ 5280) (l9 : 0 ≤ i) (u9 : i ≤ 400) (l10 : 0 ≤ x10) (u10 : x10 ≤ 400) (l11 : 0 ≤ x11) (u11 : x11 ≤ 6) (f0 : x10 ≤ i) (e1 : S 480 18 = x10) (e0 : S 482 3 = x11) : ((0 ≤ x11 ∧ x11 ≤ 5) ∧ True) ∧ (True) ∧ rxILAWX_23 S0 ws S x11 ∧ rxmLAWX_23 S0 ws S x11 < rxmLAWX_18 S0 ws S base i := by
  obtain ⟨hI, hx⟩ := hinv
  obtain ⟨a_, b_, c_, d_⟩ := rxc242_18_1 hP hin I0 hI l8 u8 l9 u9 l10 u10 l11 u11 f0 e1 e0
  exact ⟨a_, b_, ⟨c_, ⟨hx.1, hx.2, by
    have hr := hI.2.1.1
    have h5 := hI.2.1.2.2.2.2.1
    have h6 := hI.2.1.2.2.2.2.2
    have q := hr 3 (by omega) (by omega) (Or.inl (by omega))
    exact ⟨by omega, by omega⟩⟩⟩, d_⟩
theorem rxcLAWX_20_0 {S0 : Nat → Int → Int} {ws : List Int} {S : Nat → Int → Int} {base i a v x12 x13 x14 : Int} (hP : rxPLAWX S0 ws) (hin : bx_same rxL (bx_mdl rxC242.2.2.1) S0 S) (I0 : bx_Inv rxL S) (hinv : rxILAWX_20 S0 ws S base i a v) (l8 : 780 ≤ base) (u8 : base ≤ 5280) (l9 : 0 ≤ i) (u9 : i ≤ 399) (l10 : 878 ≤ a) (u10 : a ≤ 6176) (l11 : 0 ≤ v) (u11 : v ≤ 30) (l12 : 0 ≤ x12) (u12 : x12 ≤ 798) (l13 : 878 ≤ x13) (u13 : x13 ≤ 6176) (l14 : 0 ≤ x14) (u14 : x14 ≤ 1000) (f0 : x13 = base + 98 + x12) (f1 : x12 = 2 * (i)) (e0 : S 488 i = x14) : (True) ∧ (True) ∧ rxILAWX_21 S0 ws S base i (x13 + 1) x14 ∧ rxmLAWX_21 S0 ws S base i (x13 + 1) x14 < rxmLAWX_20 S0 ws S base i a v := by
  obtain ⟨hI, hx⟩ := hinv
  obtain ⟨a_, b_, c_, d_⟩ := rxc242_20_0 hP hin I0 hI l8 u8 l9 u9 l10 u10 l11 u11 l12 u12 l13 u13 l14 u14 f0 f1 e0
  exact ⟨a_, b_, ⟨c_, hx⟩, d_⟩
theorem rxcLAWX_22_0 {S0 : Nat → Int → Int} {ws : List Int} {S : Nat → Int → Int} {base i a v : Int} (hP : rxPLAWX S0 ws) (hin : bx_same rxL (bx_mdl rxC242.2.2.1) S0 S) (I0 : bx_Inv rxL S) (hinv : rxILAWX_22 S0 ws S base i a v) (l8 : 780 ≤ base) (u8 : base ≤ 5280) (l9 : 0 ≤ i) (u9 : i ≤ 399) (l10 : 879 ≤ a) (u10 : a ≤ 6177) (l11 : 0 ≤ v) (u11 : v ≤ 1000) : (True) ∧ (True) ∧ rxILAWX_18 S0 ws S base (i + 1) ∧ rxmLAWX_18 S0 ws S base (i + 1) < rxmLAWX_22 S0 ws S base i a v := by
  obtain ⟨hI, hx⟩ := hinv
  obtain ⟨a_, b_, c_, d_⟩ := rxc242_22_0 hP hin I0 hI l8 u8 l9 u9 l10 u10 l11 u11
  exact ⟨a_, b_, ⟨c_, hx⟩, d_⟩
theorem rxdLAWX_23_0 {S0 : Nat → Int → Int} {ws : List Int} {S : Nat → Int → Int} {n3 : Int} (hP : rxPLAWX S0 ws) (hin : bx_same rxL (bx_mdl rxC242.2.2.1) S0 S) (hin2 : bx_same rxL (bx_mdl rxC242.2.2.1) S (bx_up (bx_up S 482 3 (n3 + 1)) 480 1 0)) (I0 : bx_Inv rxL S) (I1 : bx_Inv rxL (bx_up (bx_up S 482 3 (n3 + 1)) 480 1 0)) (hinv : rxILAWX_23 S0 ws S n3) (l8 : 0 ≤ n3) (u8 : n3 ≤ 5) : (True) ∧ rxPSLAWX S0 ws (bx_up (bx_up S 482 3 (n3 + 1)) 480 1 0) (some n3) := by
  obtain ⟨hI, hx⟩ := hinv
  obtain ⟨a_, c_⟩ := rxd242_23_0 hP hin hin2 I0 I1 hI l8 u8
  exact ⟨a_, c_, (fun c => by
    obtain ⟨r, r1, r2, r3⟩ := hx.1 c
    obtain ⟨h8, hn, h6⟩ := hx.2
    exact Or.inr ⟨h6, ((bx_up_ne (by omega)).trans ((bx_up_ne (by omega)))).trans h8, r, r1, Or.inl ⟨r2, congrArg some hn, ((bx_up_ne (by omega)).trans ((bx_up_ne (by omega)))).trans r3, ((bx_up_ne (by omega)).trans (bx_up_at)).trans (by omega)⟩⟩)⟩
noncomputable def rxIPLAYX_0 (S0 : Nat → Int → Int) (ws : List Int) (S : Nat → Int → Int) (part : Int) : Prop := rxI240_0 S0 ws S part ∧ True
noncomputable def rxmPLAYX_0 (S0 : Nat → Int → Int) (ws : List Int) (S : Nat → Int → Int) (part : Int) : Nat := rxm240_0 S0 ws S part
noncomputable def rxzPLAYX_0 : rx_Z := ([(0, 0), (0, 0), (0, 0), (0, 0), (0, 0), (0, 0), (0, 0), (0, 0), ((-2147483648), 2147483647)], [], [], 0, 0, 0, [(0, .inr (3, (0, 480))), (1, .inr (0, (8, 0)))], [])
noncomputable def rxIPLAYX_1 (S0 : Nat → Int → Int) (ws : List Int) (S : Nat → Int → Int) (part : Int) : Prop := rxI240_1 S0 ws S part ∧ ((ws = [480, part] ∧ 0 ≤ part ∧ part < S0 482 0) ∧ (rzBg S0 S))
noncomputable def rxmPLAYX_1 (S0 : Nat → Int → Int) (ws : List Int) (S : Nat → Int → Int) (part : Int) : Nat := rxm240_1 S0 ws S part
noncomputable def rxzPLAYX_1 : rx_Z := ([(0, 0), (0, 0), (0, 0), (0, 0), (0, 0), (0, 0), (0, 0), (0, 0), (0, 5)], [], [], 0, 0, 22, [(0, .inr (3, (0, 480))), (1, .inr (0, (8, 0)))], [.inr (0, (0, 1)), .inr (3, (0, 480))])
noncomputable def rxIPLAYX_2 (S0 : Nat → Int → Int) (ws : List Int) (S : Nat → Int → Int) (part : Int) : Prop := rxI240_2 S0 ws S part ∧ ((ws = [480, part] ∧ 0 ≤ part ∧ part < S0 482 0) ∧ (rzCk S0 → rzRj S0 S 1 (rzTx (rzCl (decide ((1 : Int) = 1)) (rzCut (S0 485)) (S0 480 8)) (rzCut (S0 485)) (S0 480 8) (12 - S 480 16).toNat)))
noncomputable def rxmPLAYX_2 (S0 : Nat → Int → Int) (ws : List Int) (S : Nat → Int → Int) (part : Int) : Nat := rxm240_2 S0 ws S part
noncomputable def rxzPLAYX_2 : rx_Z := ([(0, 0), (0, 0), (0, 0), (0, 0), (0, 0), (0, 0), (0, 0), (0, 0), (0, 5)], [], [], 0, 0, 25, [(0, .inr (3, (0, 480))), (1, .inr (0, (8, 0)))], [])
noncomputable def rxIPLAYX_3 (S0 : Nat → Int → Int) (ws : List Int) (S : Nat → Int → Int) (part : Int) : Prop := rxI240_3 S0 ws S part ∧ ((ws = [480, part] ∧ 0 ≤ part ∧ part < S0 482 0) ∧ (rzCk S0 → rzRj S0 S 1 (rzTx (rzCl (decide ((1 : Int) = 1)) (rzCut (S0 485)) (S0 480 8)) (rzCut (S0 485)) (S0 480 8) (12 - S 480 16).toNat)))
noncomputable def rxmPLAYX_3 (S0 : Nat → Int → Int) (ws : List Int) (S : Nat → Int → Int) (part : Int) : Nat := rxm240_3 S0 ws S part
noncomputable def rxzPLAYX_3 : rx_Z := ([(0, 0), (0, 0), (0, 0), (0, 0), (0, 0), (0, 0), (0, 0), (0, 0), (0, 5)], [], [], 0, 0, 26, [(0, .inr (3, (0, 480))), (1, .inr (0, (8, 0)))], [.inr (3, (0, 480))])
noncomputable def rxIPLAYX_4 (S0 : Nat → Int → Int) (ws : List Int) (S : Nat → Int → Int) (part : Int) : Prop := rxI240_4 S0 ws S part ∧ ((ws = [480, part] ∧ 0 ≤ part ∧ part < S0 482 0) ∧ (rzCk S0 → rzRj S0 S 1 (rzNx (decide ((1 : Int) = 1)) (rzCut (S0 485)) (S0 480 8) (12 - S 480 16).toNat)))
noncomputable def rxmPLAYX_4 (S0 : Nat → Int → Int) (ws : List Int) (S : Nat → Int → Int) (part : Int) : Nat := rxm240_4 S0 ws S part
noncomputable def rxzPLAYX_4 : rx_Z := ([(0, 0), (0, 0), (0, 0), (0, 0), (0, 0), (0, 0), (0, 0), (0, 0), (0, 5)], [], [], 0, 0, 29, [(0, .inr (3, (0, 480))), (1, .inr (0, (8, 0)))], [])
noncomputable def rxIPLAYX_5 (S0 : Nat → Int → Int) (ws : List Int) (S : Nat → Int → Int) (part : Int) : Prop := rxI240_5 S0 ws S part ∧ ((ws = [480, part] ∧ 0 ≤ part ∧ part < S0 482 0) ∧ (rzCk S0 → rzRj S0 S 1 (rzNx (decide ((1 : Int) = 1)) (rzCut (S0 485)) (S0 480 8) (12 - S 480 16).toNat)))
noncomputable def rxmPLAYX_5 (S0 : Nat → Int → Int) (ws : List Int) (S : Nat → Int → Int) (part : Int) : Nat := rxm240_5 S0 ws S part
noncomputable def rxzPLAYX_5 : rx_Z := ([(0, 0), (0, 0), (0, 0), (0, 0), (0, 0), (0, 0), (0, 0), (0, 0), (0, 5)], [], [], 0, 0, 29, [(0, .inr (3, (0, 480))), (1, .inr (0, (8, 0)))], [])
noncomputable def rxIPLAYX_6 (S0 : Nat → Int → Int) (ws : List Int) (S : Nat → Int → Int) (part : Int) : Prop := rxI240_6 S0 ws S part ∧ ((ws = [480, part] ∧ 0 ≤ part ∧ part < S0 482 0) ∧ ((rzCk S0 → rzRj S0 S 1 (rzNx (decide ((1 : Int) = 1)) (rzCut (S0 485)) (S0 480 8) (12 - S 480 16).toNat)) ∧ (S 480 14 = 0 → rzDq S → rzSg (rzCut (S 485)) (S 480 8) 59 (S 480 9) = true)))
noncomputable def rxmPLAYX_6 (S0 : Nat → Int → Int) (ws : List Int) (S : Nat → Int → Int) (part : Int) : Nat := rxm240_6 S0 ws S part
noncomputable def rxzPLAYX_6 : rx_Z := ([(0, 0), (0, 0), (0, 0), (0, 0), (0, 0), (0, 0), (0, 0), (0, 0), (0, 5)], [], [], 0, 0, 46, [(0, .inr (3, (0, 480))), (1, .inr (0, (8, 0)))], [.inr (3, (0, 480))])
noncomputable def rxIPLAYX_7 (S0 : Nat → Int → Int) (ws : List Int) (S : Nat → Int → Int) (part : Int) : Prop := rxI240_7 S0 ws S part ∧ ((ws = [480, part] ∧ 0 ≤ part ∧ part < S0 482 0) ∧ (rzCk S0 → rzRj S0 S 1 (rzTx (rzCl (decide ((1 : Int) = 1)) (rzCut (S0 485)) (S0 480 8)) (rzCut (S0 485)) (S0 480 8) (12 - S 480 16).toNat)))
noncomputable def rxmPLAYX_7 (S0 : Nat → Int → Int) (ws : List Int) (S : Nat → Int → Int) (part : Int) : Nat := rxm240_7 S0 ws S part
noncomputable def rxzPLAYX_7 : rx_Z := ([(0, 0), (0, 0), (0, 0), (0, 0), (0, 0), (0, 0), (0, 0), (0, 0), (0, 5)], [], [], 0, 0, 49, [(0, .inr (3, (0, 480))), (1, .inr (0, (8, 0)))], [])
noncomputable def rxIPLAYX_8 (S0 : Nat → Int → Int) (ws : List Int) (S : Nat → Int → Int) (part : Int) : Prop := rxI240_8 S0 ws S part ∧ ((ws = [480, part] ∧ 0 ≤ part ∧ part < S0 482 0) ∧ (rzCk S0 → rzRj S0 S 1 (rzTx (rzCl (decide ((1 : Int) = 1)) (rzCut (S0 485)) (S0 480 8)) (rzCut (S0 485)) (S0 480 8) (12 - S 480 16).toNat)))
noncomputable def rxmPLAYX_8 (S0 : Nat → Int → Int) (ws : List Int) (S : Nat → Int → Int) (part : Int) : Nat := rxm240_8 S0 ws S part
noncomputable def rxzPLAYX_8 : rx_Z := ([(0, 0), (0, 0), (0, 0), (0, 0), (0, 0), (0, 0), (0, 0), (0, 0), (0, 5)], [], [], 0, 0, 50, [(0, .inr (3, (0, 480))), (1, .inr (0, (8, 0)))], [.inr (3, (0, 480))])
noncomputable def rxIPLAYX_9 (S0 : Nat → Int → Int) (ws : List Int) (S : Nat → Int → Int) (part : Int) : Prop := rxI240_9 S0 ws S part ∧ ((ws = [480, part] ∧ 0 ≤ part ∧ part < S0 482 0) ∧ (rzCk S0 → rzRj S0 S 1 (rzNx (decide ((1 : Int) = 1)) (rzCut (S0 485)) (S0 480 8) (12 - S 480 16).toNat)))
noncomputable def rxmPLAYX_9 (S0 : Nat → Int → Int) (ws : List Int) (S : Nat → Int → Int) (part : Int) : Nat := rxm240_9 S0 ws S part
noncomputable def rxzPLAYX_9 : rx_Z := ([(0, 0), (0, 0), (0, 0), (0, 0), (0, 0), (0, 0), (0, 0), (0, 0), (0, 5)], [], [], 0, 0, 53, [(0, .inr (3, (0, 480))), (1, .inr (0, (8, 0)))], [])
noncomputable def rxIPLAYX_10 (S0 : Nat → Int → Int) (ws : List Int) (S : Nat → Int → Int) (part : Int) : Prop := rxI240_10 S0 ws S part ∧ ((ws = [480, part] ∧ 0 ≤ part ∧ part < S0 482 0) ∧ ((rzCk S0 → rzRj S0 S 1 (rzNx (decide ((1 : Int) = 1)) (rzCut (S0 485)) (S0 480 8) (12 - S 480 16).toNat)) ∧ (S 480 14 = 0 → rzDq S → rzSg (rzCut (S 485)) (S 480 8) 59 (S 480 9) = false)))
noncomputable def rxmPLAYX_10 (S0 : Nat → Int → Int) (ws : List Int) (S : Nat → Int → Int) (part : Int) : Nat := rxm240_10 S0 ws S part
noncomputable def rxzPLAYX_10 : rx_Z := ([(0, 0), (0, 0), (0, 0), (0, 0), (0, 0), (0, 0), (0, 0), (0, 0), (0, 5)], [], [], 0, 0, 57, [(0, .inr (3, (0, 480))), (1, .inr (0, (8, 0)))], [.inr (3, (0, 480))])
noncomputable def rxIPLAYX_11 (S0 : Nat → Int → Int) (ws : List Int) (S : Nat → Int → Int) (part : Int) : Prop := rxI240_11 S0 ws S part ∧ ((ws = [480, part] ∧ 0 ≤ part ∧ part < S0 482 0) ∧ ((rzCk S0 → rzTz S0 S 1) ∧ S 480 8 = 0))
noncomputable def rxmPLAYX_11 (S0 : Nat → Int → Int) (ws : List Int) (S : Nat → Int → Int) (part : Int) : Nat := rxm240_11 S0 ws S part
noncomputable def rxzPLAYX_11 : rx_Z := ([(0, 0), (0, 0), (0, 0), (0, 0), (0, 0), (0, 0), (0, 0), (0, 0), (0, 5)], [], [], 0, 0, 60, [(0, .inr (3, (0, 480))), (1, .inr (0, (8, 0)))], [])
noncomputable def rxIPLAYX_12 (S0 : Nat → Int → Int) (ws : List Int) (S : Nat → Int → Int) (part n at_ : Int) : Prop := rxI240_12 S0 ws S part n at_ ∧ (ws = [480, part] ∧ 0 ≤ part ∧ part < S0 482 0 ∧ (rzCk S0 → ∃ r : rzR, rzText (decide ((1 : Int) = 1)) (rzCut (S0 485)) (S0 480 8) r ∧ r.1 = true ∧ S 480 13 = -1) ∧ S 480 8 = 0)
noncomputable def rxmPLAYX_12 (S0 : Nat → Int → Int) (ws : List Int) (S : Nat → Int → Int) (part n at_ : Int) : Nat := rxm240_12 S0 ws S part n at_
noncomputable def rxzPLAYX_12 : rx_Z := ([(0, 0), (0, 0), (0, 0), (0, 0), (0, 0), (0, 0), (0, 0), (0, 0), (0, 5), (0, 432), (0, 120)], [], [], 0, 0, 83, [(0, .inr (3, (0, 480))), (1, .inr (0, (8, 0))), (2, .inr (0, (9, 0))), (3, .inr (0, (10, 0)))], [])
noncomputable def rxIPLAYX_13 (S0 : Nat → Int → Int) (ws : List Int) (S : Nat → Int → Int) (part n at_ c : Int) : Prop := rxI240_13 S0 ws S part n at_ c ∧ (ws = [480, part] ∧ 0 ≤ part ∧ part < S0 482 0 ∧ (rzCk S0 → ∃ r : rzR, rzText (decide ((1 : Int) = 1)) (rzCut (S0 485)) (S0 480 8) r ∧ r.1 = true ∧ S 480 13 = -1) ∧ S 480 8 = 0)
noncomputable def rxmPLAYX_13 (S0 : Nat → Int → Int) (ws : List Int) (S : Nat → Int → Int) (part n at_ c : Int) : Nat := rxm240_13 S0 ws S part n at_ c
noncomputable def rxzPLAYX_13 : rx_Z := ([(0, 0), (0, 0), (0, 0), (0, 0), (0, 0), (0, 0), (0, 0), (0, 0), (0, 5), (0, 432), (0, 110), (0, 36)], [], [], 0, 0, 97, [(0, .inr (3, (0, 480))), (1, .inr (0, (8, 0))), (2, .inr (0, (9, 0))), (3, .inr (0, (10, 0))), (4, .inr (0, (11, 0)))], [])
noncomputable def rxIPLAYX_14 (S0 : Nat → Int → Int) (ws : List Int) (S : Nat → Int → Int) (part at_ c n a_ pt d6 m6 : Int) : Prop := rxI240_14 S0 ws S part at_ c n a_ pt d6 m6 ∧ (ws = [480, part] ∧ 0 ≤ part ∧ part < S0 482 0 ∧ (rzCk S0 → ∃ r : rzR, rzText (decide ((1 : Int) = 1)) (rzCut (S0 485)) (S0 480 8) r ∧ r.1 = true ∧ S 480 13 = -1) ∧ S 480 8 = 0)
noncomputable def rxmPLAYX_14 (S0 : Nat → Int → Int) (ws : List Int) (S : Nat → Int → Int) (part at_ c n a_ pt d6 m6 : Int) : Nat := rxm240_14 S0 ws S part at_ c n a_ pt d6 m6
noncomputable def rxzPLAYX_14 : rx_Z := ([(0, 0), (0, 0), (0, 0), (0, 0), (0, 0), (0, 0), (0, 0), (0, 0), (0, 5), (0, 110), (0, 35), (0, 431), (0, 110), (0, 5), (0, 5), (0, 5)], [], [], 0, 0, 182, [(0, .inr (3, (0, 480))), (1, .inr (0, (8, 0))), (3, .inr (0, (9, 0))), (4, .inr (0, (10, 0)))], [.inr (0, (15, 0)), .inr (0, (14, 0)), .inr (0, (13, 0)), .inr (0, (12, 0)), .inr (3, (0, 480)), .inr (0, (11, 0))])
noncomputable def rxIPLAYX_15 (S0 : Nat → Int → Int) (ws : List Int) (S : Nat → Int → Int) (part at_ c n a_ pt d6 m6 so : Int) : Prop := rxI240_15 S0 ws S part at_ c n a_ pt d6 m6 so ∧ (ws = [480, part] ∧ 0 ≤ part ∧ part < S0 482 0 ∧ (rzCk S0 → ∃ r : rzR, rzText (decide ((1 : Int) = 1)) (rzCut (S0 485)) (S0 480 8) r ∧ r.1 = true ∧ S 480 13 = -1) ∧ S 480 8 = 0)
noncomputable def rxmPLAYX_15 (S0 : Nat → Int → Int) (ws : List Int) (S : Nat → Int → Int) (part at_ c n a_ pt d6 m6 so : Int) : Nat := rxm240_15 S0 ws S part at_ c n a_ pt d6 m6 so
noncomputable def rxzPLAYX_15 : rx_Z := ([(0, 0), (0, 0), (0, 0), (0, 0), (0, 0), (0, 0), (0, 0), (0, 0), (0, 5), (0, 110), (0, 35), (0, 431), (0, 110), (0, 5), (0, 5), (0, 5), (0, 1)], [], [], 0, 0, 185, [(0, .inr (3, (0, 480))), (1, .inr (0, (8, 0))), (3, .inr (0, (9, 0))), (4, .inr (0, (10, 0)))], [.inr (0, (16, 0)), .inr (0, (11, 0))])
noncomputable def rxoPLAYX_0_0 : bx_HO := (([(0, 0), (0, 0), (0, 0), (0, 0), (0, 0), (0, 0), (0, 0), (0, 0), (0, 5), (1, 6)], [(1, (8, 0), (9, (-1)))], [(((0, 0), 1851192626986356797424340330377019318111018015026043177837658112000000), .inr (0, (9, 0))), (((0, 482), 0), .inr (0, (9, 0))), (((0, 480), 3), .inr (3, (0, 482))), (((0, 0), 1851192626986356797424340330377019318111018015026043177836478467000000), .inr (0, (0, 0))), (((0, 480), 0), .inr (0, (0, 0)))], 0, 0, 22, [(0, .inr (3, (0, 480))), (1, .inr (0, (8, 0)))], [.inr (0, (0, 1)), .inr (3, (0, 480))]), [], [], [(0, 0), (0, 0), (0, 0), (0, 0), (0, 0), (0, 0), (0, 0), (0, 0), (8, 0)], 1)
noncomputable def rxePLAYX_0_0 : rx_End × List (Nat × Int × Int) := (([(0, 0), (0, 0), (0, 0), (0, 0), (0, 0), (0, 0), (0, 0), (0, 0), (0, 2147483647), (0, 6), ((-2147483648), 2147483647), ((-2147483648), 2147483647)], [(0, (9, (-1)), (8, 0))], [(((0, 0), 1851192626986356797825753743950570534658660943933713684944715779000000), .inr (0, (11, 0))), (((0, 481), 2), .inr (0, (11, 0))), (((0, 0), 1851192626986356797825753743950570534658660943933713684944715776000000), .inr (0, (10, 0))), (((0, 480), 2), .inr (3, (0, 481))), (((0, 0), 1851192626986356797625047037163794926384839479479878431390302211000000), .inr (0, (0, (-2)))), (((0, 480), 1), .inr (0, (0, (-2)))), (((0, 0), 1851192626986356797424340330377019318111018015026043177837658112000000), .inr (0, (9, 0))), (((0, 482), 0), .inr (0, (9, 0))), (((0, 480), 3), .inr (3, (0, 482))), (((0, 0), 1851192626986356797424340330377019318111018015026043177836478467000000), .inr (0, (0, 0))), (((0, 480), 0), .inr (0, (0, 0)))], some (.inr (0, (0, (-2))))), [])
noncomputable def rxePLAYX_0_1 : rx_End × List (Nat × Int × Int) := (([(0, 0), (0, 0), (0, 0), (0, 0), (0, 0), (0, 0), (0, 0), (0, 0), ((-2147483648), (-1)), (0, 6), ((-2147483648), 2147483647), ((-2147483648), 2147483647)], [], [(((0, 0), 1851192626986356797825753743950570534658660943933713684944715779000000), .inr (0, (11, 0))), (((0, 481), 2), .inr (0, (11, 0))), (((0, 0), 1851192626986356797825753743950570534658660943933713684944715776000000), .inr (0, (10, 0))), (((0, 480), 2), .inr (3, (0, 481))), (((0, 0), 1851192626986356797625047037163794926384839479479878431390302211000000), .inr (0, (0, (-2)))), (((0, 480), 1), .inr (0, (0, (-2)))), (((0, 0), 1851192626986356797424340330377019318111018015026043177837658112000000), .inr (0, (9, 0))), (((0, 482), 0), .inr (0, (9, 0))), (((0, 480), 3), .inr (3, (0, 482))), (((0, 0), 1851192626986356797424340330377019318111018015026043177836478467000000), .inr (0, (0, 0))), (((0, 480), 0), .inr (0, (0, 0)))], some (.inr (0, (0, (-2))))), [])
noncomputable def rxoPLAYX_2_0 : bx_HO := (([(0, 0), (0, 0), (0, 0), (0, 0), (0, 0), (0, 0), (0, 0), (0, 0), (0, 5)], [], [], 0, 0, 26, [(0, .inr (3, (0, 480))), (1, .inr (0, (8, 0)))], [.inr (3, (0, 480))]), [], [], [(0, 0), (0, 0), (0, 0), (0, 0), (0, 0), (0, 0), (0, 0), (0, 0), (8, 0)], 3)
noncomputable def rxoPLAYX_4_0 : bx_HO := (([(0, 0), (0, 0), (0, 0), (0, 0), (0, 0), (0, 0), (0, 0), (0, 0), (0, 5), (0, 0), (0, 2)], [(3, (10, 0), (0, 3))], [(((0, 0), 1851192626986356799632114105031551009123054124018230966928539648000000), .inr (0, (10, 0))), (((0, 480), 11), .inr (0, (10, 0))), (((0, 0), 1851192626986356800234234225391877833944518517379736727590010880000000), .inr (0, (9, 0))), (((0, 480), 14), .inr (0, (9, 0)))], 0, 0, 57, [(0, .inr (3, (0, 480))), (1, .inr (0, (8, 0)))], [.inr (3, (0, 480))]), [], [], [(0, 0), (0, 0), (0, 0), (0, 0), (0, 0), (0, 0), (0, 0), (0, 0), (8, 0)], 10)
noncomputable def rxoPLAYX_4_1 : bx_HO := (([(0, 0), (0, 0), (0, 0), (0, 0), (0, 0), (0, 0), (0, 0), (0, 0), (0, 5), (0, 0), (3, 3), ((-9223372036854775808), 9223372036854775807)], [(3, (11, 0), (0, 59))], [(((0, 0), 1851192626986356799832820811818326617396875588472066220482363392000000), .inr (1, (11, 0))), (((0, 480), 12), .inr (1, (11, 0))), (((0, 0), 1851192626986356799632114105031551009123054124018230966928539648000000), .inr (0, (10, 0))), (((0, 480), 11), .inr (0, (10, 0))), (((0, 0), 1851192626986356800234234225391877833944518517379736727590010880000000), .inr (0, (9, 0))), (((0, 480), 14), .inr (0, (9, 0)))], 0, 0, 57, [(0, .inr (3, (0, 480))), (1, .inr (0, (8, 0)))], [.inr (3, (0, 480))]), [], [], [(0, 0), (0, 0), (0, 0), (0, 0), (0, 0), (0, 0), (0, 0), (0, 0), (8, 0)], 10)
noncomputable def rxoPLAYX_4_2 : bx_HO := (([(0, 0), (0, 0), (0, 0), (0, 0), (0, 0), (0, 0), (0, 0), (0, 0), (0, 5), (0, 0), (3, 3), (59, 59)], [], [(((0, 0), 1851192626986356799832820811818326617396875588472066220482363392000000), .inr (1, (11, 0))), (((0, 480), 12), .inr (1, (11, 0))), (((0, 0), 1851192626986356799632114105031551009123054124018230966928539648000000), .inr (0, (10, 0))), (((0, 480), 11), .inr (0, (10, 0))), (((0, 0), 1851192626986356800234234225391877833944518517379736727590010880000000), .inr (0, (9, 0))), (((0, 480), 14), .inr (0, (9, 0)))], 0, 0, 46, [(0, .inr (3, (0, 480))), (1, .inr (0, (8, 0)))], [.inr (3, (0, 480))]), [], [], [(0, 0), (0, 0), (0, 0), (0, 0), (0, 0), (0, 0), (0, 0), (0, 0), (8, 0)], 6)
noncomputable def rxoPLAYX_4_3 : bx_HO := (([(0, 0), (0, 0), (0, 0), (0, 0), (0, 0), (0, 0), (0, 0), (0, 0), (0, 5), (1, 1)], [(3, (9, 0), (0, 0))], [(((0, 0), 1851192626986356800234234225391877833944518517379736727590010880000000), .inr (0, (9, 0))), (((0, 480), 14), .inr (0, (9, 0)))], 0, 0, 57, [(0, .inr (3, (0, 480))), (1, .inr (0, (8, 0)))], [.inr (3, (0, 480))]), [], [], [(0, 0), (0, 0), (0, 0), (0, 0), (0, 0), (0, 0), (0, 0), (0, 0), (8, 0)], 10)
noncomputable def rxoPLAYX_5_0 : bx_HO := (([(0, 0), (0, 0), (0, 0), (0, 0), (0, 0), (0, 0), (0, 0), (0, 0), (0, 5), (0, 0), (0, 2)], [(3, (10, 0), (0, 3))], [(((0, 0), 1851192626986356799632114105031551009123054124018230966928539648000000), .inr (0, (10, 0))), (((0, 480), 11), .inr (0, (10, 0))), (((0, 0), 1851192626986356800234234225391877833944518517379736727590010880000000), .inr (0, (9, 0))), (((0, 480), 14), .inr (0, (9, 0)))], 0, 0, 57, [(0, .inr (3, (0, 480))), (1, .inr (0, (8, 0)))], [.inr (3, (0, 480))]), [], [], [(0, 0), (0, 0), (0, 0), (0, 0), (0, 0), (0, 0), (0, 0), (0, 0), (8, 0)], 10)
noncomputable def rxoPLAYX_5_1 : bx_HO := (([(0, 0), (0, 0), (0, 0), (0, 0), (0, 0), (0, 0), (0, 0), (0, 0), (0, 5), (0, 0), (3, 3), ((-9223372036854775808), 9223372036854775807)], [(3, (11, 0), (0, 59))], [(((0, 0), 1851192626986356799832820811818326617396875588472066220482363392000000), .inr (1, (11, 0))), (((0, 480), 12), .inr (1, (11, 0))), (((0, 0), 1851192626986356799632114105031551009123054124018230966928539648000000), .inr (0, (10, 0))), (((0, 480), 11), .inr (0, (10, 0))), (((0, 0), 1851192626986356800234234225391877833944518517379736727590010880000000), .inr (0, (9, 0))), (((0, 480), 14), .inr (0, (9, 0)))], 0, 0, 57, [(0, .inr (3, (0, 480))), (1, .inr (0, (8, 0)))], [.inr (3, (0, 480))]), [], [], [(0, 0), (0, 0), (0, 0), (0, 0), (0, 0), (0, 0), (0, 0), (0, 0), (8, 0)], 10)
noncomputable def rxoPLAYX_5_2 : bx_HO := (([(0, 0), (0, 0), (0, 0), (0, 0), (0, 0), (0, 0), (0, 0), (0, 0), (0, 5), (0, 0), (3, 3), (59, 59)], [], [(((0, 0), 1851192626986356799832820811818326617396875588472066220482363392000000), .inr (1, (11, 0))), (((0, 480), 12), .inr (1, (11, 0))), (((0, 0), 1851192626986356799632114105031551009123054124018230966928539648000000), .inr (0, (10, 0))), (((0, 480), 11), .inr (0, (10, 0))), (((0, 0), 1851192626986356800234234225391877833944518517379736727590010880000000), .inr (0, (9, 0))), (((0, 480), 14), .inr (0, (9, 0)))], 0, 0, 46, [(0, .inr (3, (0, 480))), (1, .inr (0, (8, 0)))], [.inr (3, (0, 480))]), [], [], [(0, 0), (0, 0), (0, 0), (0, 0), (0, 0), (0, 0), (0, 0), (0, 0), (8, 0)], 6)
noncomputable def rxoPLAYX_5_3 : bx_HO := (([(0, 0), (0, 0), (0, 0), (0, 0), (0, 0), (0, 0), (0, 0), (0, 0), (0, 5), (1, 1)], [(3, (9, 0), (0, 0))], [(((0, 0), 1851192626986356800234234225391877833944518517379736727590010880000000), .inr (0, (9, 0))), (((0, 480), 14), .inr (0, (9, 0)))], 0, 0, 57, [(0, .inr (3, (0, 480))), (1, .inr (0, (8, 0)))], [.inr (3, (0, 480))]), [], [], [(0, 0), (0, 0), (0, 0), (0, 0), (0, 0), (0, 0), (0, 0), (0, 0), (8, 0)], 10)
noncomputable def rxoPLAYX_7_0 : bx_HO := (([(0, 0), (0, 0), (0, 0), (0, 0), (0, 0), (0, 0), (0, 0), (0, 0), (0, 5)], [], [], 0, 0, 50, [(0, .inr (3, (0, 480))), (1, .inr (0, (8, 0)))], [.inr (3, (0, 480))]), [], [], [(0, 0), (0, 0), (0, 0), (0, 0), (0, 0), (0, 0), (0, 0), (0, 0), (8, 0)], 8)
noncomputable def rxoPLAYX_9_0 : bx_HO := (([(0, 0), (0, 0), (0, 0), (0, 0), (0, 0), (0, 0), (0, 0), (0, 0), (0, 5)], [], [], 0, 0, 29, [(0, .inr (3, (0, 480))), (1, .inr (0, (8, 0)))], []), [], [], [(0, 0), (0, 0), (0, 0), (0, 0), (0, 0), (0, 0), (0, 0), (0, 0), (8, 0)], 5)
noncomputable def rxoPLAYX_11_0 : bx_HO := (([(0, 0), (0, 0), (0, 0), (0, 0), (0, 0), (0, 0), (0, 0), (0, 0), (0, 5), (0, 0)], [], [(((0, 0), 1851192626986356800434940932178653442218339981833571981143834627000000), .inr (0, (0, 1))), (((0, 480), 15), .inr (0, (0, 1))), (((0, 0), 1851192626986356800234234225391877833944518517379736727590010880000000), .inr (0, (9, 0))), (((0, 480), 14), .inr (0, (9, 0)))], 0, 0, 83, [(3, .inr (0, (0, 0))), (2, .inr (0, (0, 0))), (0, .inr (3, (0, 480))), (1, .inr (0, (8, 0)))], []), [], [], [(0, 0), (0, 0), (0, 0), (0, 0), (0, 0), (0, 0), (0, 0), (0, 0), (8, 0), (0, 0), (0, 0)], 12)
noncomputable def rxePLAYX_11_0 : rx_End × List (Nat × Int × Int) := (([(0, 0), (0, 0), (0, 0), (0, 0), (0, 0), (0, 0), (0, 0), (0, 0), (0, 5), (1, 1), ((-2147483648), 2147483647), ((-2147483648), 2147483647)], [(3, (9, 0), (0, 0))], [(((0, 0), 1851192626986356798628580571097672967753946801749054699160010755000000), .inr (0, (11, 0))), (((0, 481), 6), .inr (0, (11, 0))), (((0, 0), 1851192626986356798628580571097672967753946801749054699160010752000000), .inr (0, (10, 0))), (((0, 480), 2), .inr (3, (0, 481))), (((0, 0), 1851192626986356797625047037163794926384839479479878431390302211000000), .inr (0, (0, (-6)))), (((0, 480), 1), .inr (0, (0, (-6)))), (((0, 0), 1851192626986356800234234225391877833944518517379736727590010880000000), .inr (0, (9, 0))), (((0, 480), 14), .inr (0, (9, 0)))], some (.inr (0, (0, (-6))))), [])
noncomputable def rxoPLAYX_12_0 : bx_HO := (([(0, 0), (0, 0), (0, 0), (0, 0), (0, 0), (0, 0), (0, 0), (0, 0), (0, 5), (0, 432), (0, 119), (0, 12), (1, 120)], [(0, (10, 0), (12, 0)), (14, (12, 0), (11, 0))], [(((0, 0), 1851192626986356800635647638965429050492161446287407234697658368000000), .inr (0, (11, 0))), (((0, 480), 16), .inr (0, (11, 0)))], 0, 0, 97, [(4, .inr (0, (0, 0))), (0, .inr (3, (0, 480))), (1, .inr (0, (8, 0))), (2, .inr (0, (9, 0))), (3, .inr (0, (10, 0)))], []), [(10, 0, 110)], [], [(0, 0), (0, 0), (0, 0), (0, 0), (0, 0), (0, 0), (0, 0), (0, 0), (8, 0), (9, 0), (10, 0), (0, 0)], 13)
noncomputable def rxePLAYX_12_0 : rx_End × List (Nat × Int × Int) := (([(0, 0), (0, 0), (0, 0), (0, 0), (0, 0), (0, 0), (0, 0), (0, 0), (0, 5), (0, 432), (0, 120), (0, 12), (0, 120)], [(1, (12, 0), (10, 0)), (14, (12, 0), (11, 0))], [(((0, 0), 1851192626986356797625047037163794926384839479479878431390302211000000), .inr (0, (0, 0))), (((0, 480), 1), .inr (0, (0, 0))), (((0, 0), 1851192626986356800434940932178653442218339981833571981143834627000000), .inr (0, (0, 0))), (((0, 480), 15), .inr (0, (0, 0))), (((0, 0), 1851192626986356800635647638965429050492161446287407234697658368000000), .inr (0, (11, 0))), (((0, 480), 16), .inr (0, (11, 0)))], some (.inr (0, (9, 0)))), [])
noncomputable def rxoPLAYX_13_0 : bx_HO := (([(0, 0), (0, 0), (0, 0), (0, 0), (0, 0), (0, 0), (0, 0), (0, 0), (0, 5), (0, 432), (0, 110), (0, 35), ((-2147483648), 2147483647), (0, 5), (0, 5), ((-2147483648), 2147483647), (0, 5), (0, 5), (0, 5), (0, 5)], [(2, (16, 0), (17, 0)), (3, (15, 0), (0, (-1))), (2, (13, 0), (14, 0)), (3, (12, 0), (0, (-1)))], [(((0, 0), 1851192626986356797625077662576817810846551183194547290538770432000000), .inr (0, (16, 0))), (((0, 0), 1851192626986356797625077662576817810846551183194547290538770432000000), .inr (0, (15, 0))), (((0, 0), 1851192626986356797424370955790042202572729718740712036984946688000000), .inr (0, (13, 0))), (((0, 0), 1851192626986356797424370955790042202572729718740712036984946688000000), .inr (0, (12, 0))), (((0, 480), 35), .inr (3, (0, 496)))], 0, 0, 182, [(5, .inr (0, (0, 1))), (0, .inr (3, (0, 480))), (1, .inr (0, (8, 0))), (2, .inr (0, (9, 0))), (3, .inr (0, (10, 0))), (4, .inr (0, (11, 0)))], [.inr (0, (19, 0)), .inr (0, (18, 0)), .inr (0, (8, 0)), .inr (0, (10, 0)), .inr (3, (0, 480)), .inr (0, (9, 0))]), [(9, 0, 431)], [], [(0, 0), (0, 0), (0, 0), (0, 0), (0, 0), (0, 0), (0, 0), (0, 0), (8, 0), (10, 0), (11, 0), (9, 0), (10, 0), (8, 0), (18, 0), (19, 0)], 14)
noncomputable def rxoPLAYX_13_1 : bx_HO := (([(0, 0), (0, 0), (0, 0), (0, 0), (0, 0), (0, 0), (0, 0), (0, 0), (0, 5), (0, 432), (0, 110), (0, 35), ((-2147483648), 2147483647), (0, 5), (0, 5), ((-2147483648), 2147483647), ((-2147483648), 2147483647), (0, 5)], [(3, (16, 0), (17, 0)), (3, (15, 0), (0, (-1))), (2, (13, 0), (14, 0)), (3, (12, 0), (0, (-1)))], [(((0, 0), 1851192626986356797625077662576817810846551183194547290538770432000000), .inr (0, (16, 0))), (((0, 0), 1851192626986356797625077662576817810846551183194547290538770432000000), .inr (0, (15, 0))), (((0, 0), 1851192626986356797424370955790042202572729718740712036984946688000000), .inr (0, (13, 0))), (((0, 0), 1851192626986356797424370955790042202572729718740712036984946688000000), .inr (0, (12, 0))), (((0, 480), 35), .inr (3, (0, 496)))], 0, 0, 97, [(4, .inr (0, (11, 1))), (2, .inr (0, (9, 0))), (5, .inr (0, (0, 0))), (0, .inr (3, (0, 480))), (1, .inr (0, (8, 0))), (3, .inr (0, (10, 0)))], []), [], [], [(0, 0), (0, 0), (0, 0), (0, 0), (0, 0), (0, 0), (0, 0), (0, 0), (8, 0), (9, 0), (10, 0), (11, 1)], 13)
noncomputable def rxoPLAYX_13_2 : bx_HO := (([(0, 0), (0, 0), (0, 0), (0, 0), (0, 0), (0, 0), (0, 0), (0, 0), (0, 5), (0, 432), (0, 110), (0, 35), ((-2147483648), 2147483647), (0, 5), (0, 5), ((-1), (-1)), (0, 5), (0, 5)], [(2, (13, 0), (14, 0)), (3, (12, 0), (0, (-1)))], [(((0, 0), 1851192626986356797625077662576817810846551183194547290538770432000000), .inr (0, (15, 0))), (((0, 0), 1851192626986356797424370955790042202572729718740712036984946688000000), .inr (0, (13, 0))), (((0, 0), 1851192626986356797424370955790042202572729718740712036984946688000000), .inr (0, (12, 0))), (((0, 480), 35), .inr (3, (0, 496)))], 0, 0, 182, [(5, .inr (0, (0, 1))), (0, .inr (3, (0, 480))), (1, .inr (0, (8, 0))), (2, .inr (0, (9, 0))), (3, .inr (0, (10, 0))), (4, .inr (0, (11, 0)))], [.inr (0, (17, 0)), .inr (0, (16, 0)), .inr (0, (8, 0)), .inr (0, (10, 0)), .inr (3, (0, 480)), .inr (0, (9, 0))]), [(9, 0, 431)], [], [(0, 0), (0, 0), (0, 0), (0, 0), (0, 0), (0, 0), (0, 0), (0, 0), (8, 0), (10, 0), (11, 0), (9, 0), (10, 0), (8, 0), (16, 0), (17, 0)], 14)
noncomputable def rxoPLAYX_13_3 : bx_HO := (([(0, 0), (0, 0), (0, 0), (0, 0), (0, 0), (0, 0), (0, 0), (0, 0), (0, 5), (0, 432), (0, 110), (0, 35), ((-2147483648), 2147483647), ((-2147483648), 2147483647), (0, 5)], [(3, (13, 0), (14, 0)), (3, (12, 0), (0, (-1)))], [(((0, 0), 1851192626986356797424370955790042202572729718740712036984946688000000), .inr (0, (13, 0))), (((0, 0), 1851192626986356797424370955790042202572729718740712036984946688000000), .inr (0, (12, 0))), (((0, 480), 35), .inr (3, (0, 496)))], 0, 0, 97, [(4, .inr (0, (11, 1))), (2, .inr (0, (9, 0))), (5, .inr (0, (0, 0))), (0, .inr (3, (0, 480))), (1, .inr (0, (8, 0))), (3, .inr (0, (10, 0)))], []), [], [], [(0, 0), (0, 0), (0, 0), (0, 0), (0, 0), (0, 0), (0, 0), (0, 0), (8, 0), (9, 0), (10, 0), (11, 1)], 13)
noncomputable def rxoPLAYX_13_4 : bx_HO := (([(0, 0), (0, 0), (0, 0), (0, 0), (0, 0), (0, 0), (0, 0), (0, 0), (0, 5), (0, 432), (0, 110), (0, 35), ((-1), (-1)), ((-2147483648), 2147483647), (0, 5), (0, 5), (0, 5), (0, 5)], [(2, (14, 0), (15, 0)), (3, (13, 0), (0, (-1)))], [(((0, 0), 1851192626986356797625077662576817810846551183194547290538770432000000), .inr (0, (14, 0))), (((0, 0), 1851192626986356797625077662576817810846551183194547290538770432000000), .inr (0, (13, 0))), (((0, 0), 1851192626986356797424370955790042202572729718740712036984946688000000), .inr (0, (12, 0))), (((0, 480), 35), .inr (3, (0, 496)))], 0, 0, 182, [(5, .inr (0, (0, 1))), (0, .inr (3, (0, 480))), (1, .inr (0, (8, 0))), (2, .inr (0, (9, 0))), (3, .inr (0, (10, 0))), (4, .inr (0, (11, 0)))], [.inr (0, (17, 0)), .inr (0, (16, 0)), .inr (0, (8, 0)), .inr (0, (10, 0)), .inr (3, (0, 480)), .inr (0, (9, 0))]), [(9, 0, 431)], [], [(0, 0), (0, 0), (0, 0), (0, 0), (0, 0), (0, 0), (0, 0), (0, 0), (8, 0), (10, 0), (11, 0), (9, 0), (10, 0), (8, 0), (16, 0), (17, 0)], 14)
noncomputable def rxoPLAYX_13_5 : bx_HO := (([(0, 0), (0, 0), (0, 0), (0, 0), (0, 0), (0, 0), (0, 0), (0, 0), (0, 5), (0, 432), (0, 110), (0, 35), ((-1), (-1)), ((-2147483648), 2147483647), ((-2147483648), 2147483647), (0, 5)], [(3, (14, 0), (15, 0)), (3, (13, 0), (0, (-1)))], [(((0, 0), 1851192626986356797625077662576817810846551183194547290538770432000000), .inr (0, (14, 0))), (((0, 0), 1851192626986356797625077662576817810846551183194547290538770432000000), .inr (0, (13, 0))), (((0, 0), 1851192626986356797424370955790042202572729718740712036984946688000000), .inr (0, (12, 0))), (((0, 480), 35), .inr (3, (0, 496)))], 0, 0, 97, [(4, .inr (0, (11, 1))), (2, .inr (0, (9, 0))), (5, .inr (0, (0, 0))), (0, .inr (3, (0, 480))), (1, .inr (0, (8, 0))), (3, .inr (0, (10, 0)))], []), [], [], [(0, 0), (0, 0), (0, 0), (0, 0), (0, 0), (0, 0), (0, 0), (0, 0), (8, 0), (9, 0), (10, 0), (11, 1)], 13)
noncomputable def rxoPLAYX_13_6 : bx_HO := (([(0, 0), (0, 0), (0, 0), (0, 0), (0, 0), (0, 0), (0, 0), (0, 0), (0, 5), (0, 432), (0, 110), (0, 35), ((-1), (-1)), ((-1), (-1)), (0, 5), (0, 5)], [], [(((0, 0), 1851192626986356797625077662576817810846551183194547290538770432000000), .inr (0, (13, 0))), (((0, 0), 1851192626986356797424370955790042202572729718740712036984946688000000), .inr (0, (12, 0))), (((0, 480), 35), .inr (3, (0, 496)))], 0, 0, 182, [(5, .inr (0, (0, 1))), (0, .inr (3, (0, 480))), (1, .inr (0, (8, 0))), (2, .inr (0, (9, 0))), (3, .inr (0, (10, 0))), (4, .inr (0, (11, 0)))], [.inr (0, (15, 0)), .inr (0, (14, 0)), .inr (0, (8, 0)), .inr (0, (10, 0)), .inr (3, (0, 480)), .inr (0, (9, 0))]), [(9, 0, 431)], [], [(0, 0), (0, 0), (0, 0), (0, 0), (0, 0), (0, 0), (0, 0), (0, 0), (8, 0), (10, 0), (11, 0), (9, 0), (10, 0), (8, 0), (14, 0), (15, 0)], 14)
noncomputable def rxoPLAYX_13_7 : bx_HO := (([(0, 0), (0, 0), (0, 0), (0, 0), (0, 0), (0, 0), (0, 0), (0, 0), (0, 5), (0, 432), (0, 110), (36, 36)], [], [], 0, 0, 83, [(3, .inr (0, (10, 10))), (0, .inr (3, (0, 480))), (1, .inr (0, (8, 0))), (2, .inr (0, (9, 0))), (4, .inr (0, (11, 0)))], []), [], [], [(0, 0), (0, 0), (0, 0), (0, 0), (0, 0), (0, 0), (0, 0), (0, 0), (8, 0), (9, 0), (10, 10)], 12)
noncomputable def rxoPLAYX_15_0 : bx_HO := (([(0, 0), (0, 0), (0, 0), (0, 0), (0, 0), (0, 0), (0, 0), (0, 0), (0, 5), (0, 110), (0, 35), (0, 431), (0, 110), (0, 5), (0, 5), (0, 5), (1, 1)], [(3, (16, 0), (0, 0))], [], 0, 0, 97, [(4, .inr (0, (10, 1))), (2, .inr (0, (11, 1))), (0, .inr (3, (0, 480))), (1, .inr (0, (8, 0))), (3, .inr (0, (9, 0)))], []), [], [], [(0, 0), (0, 0), (0, 0), (0, 0), (0, 0), (0, 0), (0, 0), (0, 0), (8, 0), (11, 1), (9, 0), (10, 1)], 13)
noncomputable def rxoPLAYX_15_1 : bx_HO := (([(0, 0), (0, 0), (0, 0), (0, 0), (0, 0), (0, 0), (0, 0), (0, 0), (0, 5), (0, 110), (0, 35), (0, 431), (0, 110), (0, 5), (0, 5), (0, 5), (0, 0)], [], [], 0, 0, 97, [(4, .inr (0, (10, 1))), (2, .inr (0, (11, 0))), (0, .inr (3, (0, 480))), (1, .inr (0, (8, 0))), (3, .inr (0, (9, 0)))], []), [], [], [(0, 0), (0, 0), (0, 0), (0, 0), (0, 0), (0, 0), (0, 0), (0, 0), (8, 0), (11, 0), (9, 0), (10, 1)], 13)
noncomputable def rxYPLAYX : List bx_HE := [(rxzPLAYX_0, [rxoPLAYX_0_0], [rxePLAYX_0_0, rxePLAYX_0_1]), (rxzPLAYX_1, [], []), (rxzPLAYX_2, [rxoPLAYX_2_0], []), (rxzPLAYX_3, [], []), (rxzPLAYX_4, [rxoPLAYX_4_0, rxoPLAYX_4_1, rxoPLAYX_4_2, rxoPLAYX_4_3], []), (rxzPLAYX_5, [rxoPLAYX_5_0, rxoPLAYX_5_1, rxoPLAYX_5_2, rxoPLAYX_5_3], []), (rxzPLAYX_6, [], []), (rxzPLAYX_7, [rxoPLAYX_7_0], []), (rxzPLAYX_8, [], []), (rxzPLAYX_9, [rxoPLAYX_9_0], []), (rxzPLAYX_10, [], []), (rxzPLAYX_11, [rxoPLAYX_11_0], [rxePLAYX_11_0]), (rxzPLAYX_12, [rxoPLAYX_12_0], [rxePLAYX_12_0]), (rxzPLAYX_13, [rxoPLAYX_13_0, rxoPLAYX_13_1, rxoPLAYX_13_2, rxoPLAYX_13_3, rxoPLAYX_13_4, rxoPLAYX_13_5, rxoPLAYX_13_6, rxoPLAYX_13_7], []), (rxzPLAYX_14, [], []), (rxzPLAYX_15, [rxoPLAYX_15_0, rxoPLAYX_15_1], [])]
noncomputable def rxUPLAYX (q : bx_HE) : Bool := Nat.beq (rx_zpc q.1) 22 || Nat.beq (rx_zpc q.1) 26 || Nat.beq (rx_zpc q.1) 46 || Nat.beq (rx_zpc q.1) 50 || Nat.beq (rx_zpc q.1) 57 || Nat.beq (rx_zpc q.1) 182
noncomputable def rxYBPLAYX : bx_B := (rxV, rxNP, rxDmf, bx_mdH rxC240.2.2.1)
set_option maxRecDepth 100000 in
theorem rxYcPLAYX : bx_chkH rxYBPLAYX rxM240 rxC240 rxYPLAYX (rxUPLAYX, fun cut z => rx_ex2 (rxCT rxYBPLAYX rxCnE) cut 30000 rxC240.2.2.2.1 240 z) = true := by decide +kernel
noncomputable def rxIPLAYX (S0 : Nat → Int → Int) (ws : List Int) (i : Nat) : bx_SP := fun S r => match i with | 0 => rxIPLAYX_0 S0 ws S (r 8) | 1 => rxIPLAYX_1 S0 ws S (r 8) | 2 => rxIPLAYX_2 S0 ws S (r 8) | 3 => rxIPLAYX_3 S0 ws S (r 8) | 4 => rxIPLAYX_4 S0 ws S (r 8) | 5 => rxIPLAYX_5 S0 ws S (r 8) | 6 => rxIPLAYX_6 S0 ws S (r 8) | 7 => rxIPLAYX_7 S0 ws S (r 8) | 8 => rxIPLAYX_8 S0 ws S (r 8) | 9 => rxIPLAYX_9 S0 ws S (r 8) | 10 => rxIPLAYX_10 S0 ws S (r 8) | 11 => rxIPLAYX_11 S0 ws S (r 8) | 12 => rxIPLAYX_12 S0 ws S (r 8) (r 9) (r 10) | 13 => rxIPLAYX_13 S0 ws S (r 8) (r 9) (r 10) (r 11) | 14 => rxIPLAYX_14 S0 ws S (r 8) (r 9) (r 10) (r 11) (r 12) (r 13) (r 14) (r 15) | 15 => rxIPLAYX_15 S0 ws S (r 8) (r 9) (r 10) (r 11) (r 12) (r 13) (r 14) (r 15) (r 16) | _ => False
noncomputable def rxmPLAYX (S0 : Nat → Int → Int) (ws : List Int) (i : Nat) (S : Nat → Int → Int) (r : Nat → Int) : Nat := match i with | 0 => rxmPLAYX_0 S0 ws S (r 8) | 1 => rxmPLAYX_1 S0 ws S (r 8) | 2 => rxmPLAYX_2 S0 ws S (r 8) | 3 => rxmPLAYX_3 S0 ws S (r 8) | 4 => rxmPLAYX_4 S0 ws S (r 8) | 5 => rxmPLAYX_5 S0 ws S (r 8) | 6 => rxmPLAYX_6 S0 ws S (r 8) | 7 => rxmPLAYX_7 S0 ws S (r 8) | 8 => rxmPLAYX_8 S0 ws S (r 8) | 9 => rxmPLAYX_9 S0 ws S (r 8) | 10 => rxmPLAYX_10 S0 ws S (r 8) | 11 => rxmPLAYX_11 S0 ws S (r 8) | 12 => rxmPLAYX_12 S0 ws S (r 8) (r 9) (r 10) | 13 => rxmPLAYX_13 S0 ws S (r 8) (r 9) (r 10) (r 11) | 14 => rxmPLAYX_14 S0 ws S (r 8) (r 9) (r 10) (r 11) (r 12) (r 13) (r 14) (r 15) | 15 => rxmPLAYX_15 S0 ws S (r 8) (r 9) (r 10) (r 11) (r 12) (r 13) (r 14) (r 15) (r 16) | _ => 0
noncomputable def rxPPLAYX (S0 : Nat → Int → Int) (ws : List Int) : Prop := rxP240 S0 ws
noncomputable def rxPSPLAYX (S0 : Nat → Int → Int) (ws : List Int) (S : Nat → Int → Int) (w : Option Int) : Prop := rxPS240 S0 ws S w ∧ (rzCk S0 → ∃ part : Int, ws = [480, part] ∧ (((part < 0 ∨ S0 482 0 ≤ part) ∧ S 480 8 = S0 480 8 ∧ S 480 13 = S0 480 13) ∨ (0 ≤ part ∧ part < S0 482 0 ∧ S 480 8 = 0 ∧ ∃ r : rzR, rzText (decide ((1 : Int) = 1)) (rzCut (S0 485)) (S0 480 8) r ∧ ((r.1 = true ∧ S 480 13 = -1) ∨ (r.1 = false ∧ S 480 13 = r.2.1)))))
theorem rxkPLAYX_1 {S0 : Nat → Int → Int} {ws : List Int} {S : Nat → Int → Int} {part : Int} (hP : rxPPLAYX S0 ws) (hin : bx_same rxL (bx_mdl rxC240.2.2.1) S0 S) (I0 : bx_Inv rxL S) (hinv : rxIPLAYX_1 S0 ws S part) (l8 : 0 ≤ part) (u8 : part ≤ 5) : rxPBXW S [480, 1] ∧ ∀ (S_p : Nat → Int → Int), rxPSBXW S [480, 1] S_p none → bx_Inv rxL S_p → bx_same rxL (bx_mdl rxCBXW.2.2.1) S S_p → rxIPLAYX_2 S0 ws S_p part ∧ rxmPLAYX_2 S0 ws S_p part < rxmPLAYX_1 S0 ws S part := by
  obtain ⟨hI, hx⟩ := hinv
  have g_ := rxk240_1 hP hin I0 hI l8 u8
  exact ⟨g_.1, fun S_p hq I1 hsm => ⟨⟨(g_.2 S_p hq.2.1 I1 hsm).1, (by
    obtain ⟨hpt, hx⟩ := hx
    exact ⟨hpt, (fun c => by
      obtain ⟨g1, g13, gd, ge, g21⟩ := hq.2.2
      rw [hx.1, hx.2.1] at ge
      obtain ⟨-, -, o14, o16, -, z2, hz2, o15⟩ := hq.2.1
      have ez : (1 : Int) = z2 := Option.some.inj (congrArg (fun l : List Int => l[1]?) hz2)
      rw [show (12 - S_p 480 16).toNat = 12 by omega]
      exact rzRj_0 c ⟨g1.1.trans hx.1, g1.2.1.trans hx.2.1, fun c => g1.2.2 (hx.2.2 c)⟩ g13 (by omega) gd ge g21 o14)⟩)⟩, (g_.2 S_p hq.2.1 I1 hsm).2⟩⟩
theorem rxsPLAYX_1 {X : (Nat → Int → Int) → Prop} {S0 : Nat → Int → Int} {ws : List Int} (hP : rxPPLAYX S0 ws) : rx_obK X S0 rxC240.2.2.1 rxCBXW.2.2.1 (rxIPLAYX S0 ws) (rxmPLAYX S0 ws) 1 2 rxzPLAYX_1 rxzPLAYX_2 [.inr (3, (0, 480)), .inr (0, (0, 1))] none rxPBXW rxPSBXW := by
  intro S r hinv hXS I0 hin hs_ hf_
  have b_ := bx_bds_sat hs_
  have f_ := bx_fcl_ok hs_.1 hf_
  obtain ⟨⟨l8, u8⟩, -⟩ := b_
  have g := rxkPLAYX_1 hP hin I0 hinv l8 u8
  have ea : List.map (bx_num r) [.inr (3, (0, 480)), .inr (0, (0, 1))] = [480, 1] := by
    simp only [List.map_cons, List.map_nil, bx_xv_ok hs_.1]
    rfl
  rw [ea]
  refine ⟨g.1, fun S_p w r_p hPS hX_p I1 hsm hr hw hs_p => ?_⟩
  have hw : w = none := hPS.1
  subst hw
  have g2 := g.2 S_p hPS I1 hsm
  show rxIPLAYX_2 S0 ws S_p (r_p 8) ∧ rxmPLAYX_2 S0 ws S_p (r_p 8) < _
  rw [hr 8 (by decide)]
  exact g2
theorem rxkPLAYX_3 {S0 : Nat → Int → Int} {ws : List Int} {S : Nat → Int → Int} {part : Int} (hP : rxPPLAYX S0 ws) (hin : bx_same rxL (bx_mdl rxC240.2.2.1) S0 S) (I0 : bx_Inv rxL S) (hinv : rxIPLAYX_3 S0 ws S part) (l8 : 0 ≤ part) (u8 : part ≤ 5) : rxPRYW S [480] ∧ ∀ (S_p : Nat → Int → Int), rxPSRYW S [480] S_p none → bx_Inv rxL S_p → bx_same rxL (bx_mdl rxCRYW.2.2.1) S S_p → rxIPLAYX_4 S0 ws S_p part ∧ rxmPLAYX_4 S0 ws S_p part < rxmPLAYX_3 S0 ws S part := by
  obtain ⟨hI, hx⟩ := hinv
  have g_ := rxk240_3 hP hin I0 hI l8 u8
  exact ⟨g_.1, fun S_p hq I1 hsm => ⟨⟨(g_.2 S_p hq.2.1 I1 hsm).1, (by
    obtain ⟨hpt, hx⟩ := hx
    exact ⟨hpt, (fun c => by
      have z0 : S 480 14 = 0 := hI.2.1
      have h := hx c
      obtain ⟨q1, q2, q3, q4, q5, q6⟩ := rzRj_q h z0
      have x := hq.2.2 q1 q2 (by unfold rzWr; rw [q3]; exact if_pos rfl)
      rw [q4, q5] at x
      refine rzRj_co h z0 x hq.2.1.2.2 (fun n12 r p => ?_) fun n12 r p => ?_
      · rw [rzCl_z1]
        rcases p with p | p
        · exact p.2
        · exact absurd n12 (of_decide_eq_false p.1)
      · rcases p with p | p
        · exact absurd (of_decide_eq_true p.1) n12
        · exact p.2)⟩)⟩, (g_.2 S_p hq.2.1 I1 hsm).2⟩⟩
theorem rxsPLAYX_3 {X : (Nat → Int → Int) → Prop} {S0 : Nat → Int → Int} {ws : List Int} (hP : rxPPLAYX S0 ws) : rx_obK X S0 rxC240.2.2.1 rxCRYW.2.2.1 (rxIPLAYX S0 ws) (rxmPLAYX S0 ws) 3 4 rxzPLAYX_3 rxzPLAYX_4 [.inr (3, (0, 480))] none rxPRYW rxPSRYW := by
  intro S r hinv hXS I0 hin hs_ hf_
  have b_ := bx_bds_sat hs_
  have f_ := bx_fcl_ok hs_.1 hf_
  obtain ⟨⟨l8, u8⟩, -⟩ := b_
  have g := rxkPLAYX_3 hP hin I0 hinv l8 u8
  have ea : List.map (bx_num r) [.inr (3, (0, 480))] = [480] := by
    simp only [List.map_cons, List.map_nil, bx_xv_ok hs_.1]
    rfl
  rw [ea]
  refine ⟨g.1, fun S_p w r_p hPS hX_p I1 hsm hr hw hs_p => ?_⟩
  have hw : w = none := hPS.1
  subst hw
  have g2 := g.2 S_p hPS I1 hsm
  show rxIPLAYX_4 S0 ws S_p (r_p 8) ∧ rxmPLAYX_4 S0 ws S_p (r_p 8) < _
  rw [hr 8 (by decide)]
  exact g2
theorem rxkPLAYX_6 {S0 : Nat → Int → Int} {ws : List Int} {S : Nat → Int → Int} {part : Int} (hP : rxPPLAYX S0 ws) (hin : bx_same rxL (bx_mdl rxC240.2.2.1) S0 S) (I0 : bx_Inv rxL S) (hinv : rxIPLAYX_6 S0 ws S part) (l8 : 0 ≤ part) (u8 : part ≤ 5) : rxPNXX S [480] ∧ ∀ (S_p : Nat → Int → Int), rxPSNXX S [480] S_p none → bx_Inv rxL S_p → bx_same rxL (bx_mdl rxCNXX.2.2.1) S S_p → rxIPLAYX_7 S0 ws S_p part ∧ rxmPLAYX_7 S0 ws S_p part < rxmPLAYX_6 S0 ws S part := by
  obtain ⟨hI, hx⟩ := hinv
  have g_ := rxk240_6 hP hin I0 hI l8 u8
  exact ⟨g_.1, fun S_p hq I1 hsm => ⟨⟨(g_.2 S_p hq.2.1 I1 hsm).1, (by
    obtain ⟨hpt, hx⟩ := hx
    exact ⟨hpt, (fun c => by
      have z0 : S 480 14 = 0 := hI.2
      have h := hx.1 c
      obtain ⟨q1, q2, q3, q4, q5, q6⟩ := rzRj_q h z0
      have hs := hx.2 z0 q2
      rw [q4, q5] at hs
      have e16 : S_p 480 16 = S 480 16 := hsm 480 16 (by decide) (by decide) (by decide +kernel)
      rw [e16]
      exact rzRj_nx h z0 (show S_p 480 14 = S 480 14 from hsm 480 14 (by decide) (by decide) (by decide +kernel)) (show S_p 480 21 = S 480 21 from hsm 480 21 (by decide) (by decide) (by decide +kernel)) (rzKr_of hsm (by decide +kernel)) hq.2.2.1 hq.2.2.2 fun f lf r e1 e2 q => Or.inl ⟨by rw [e1]; exact hs, q⟩)⟩)⟩, (g_.2 S_p hq.2.1 I1 hsm).2⟩⟩
theorem rxsPLAYX_6 {X : (Nat → Int → Int) → Prop} {S0 : Nat → Int → Int} {ws : List Int} (hP : rxPPLAYX S0 ws) : rx_obK X S0 rxC240.2.2.1 rxCNXX.2.2.1 (rxIPLAYX S0 ws) (rxmPLAYX S0 ws) 6 7 rxzPLAYX_6 rxzPLAYX_7 [.inr (3, (0, 480))] none rxPNXX rxPSNXX := by
  intro S r hinv hXS I0 hin hs_ hf_
  have b_ := bx_bds_sat hs_
  have f_ := bx_fcl_ok hs_.1 hf_
  obtain ⟨⟨l8, u8⟩, -⟩ := b_
  have g := rxkPLAYX_6 hP hin I0 hinv l8 u8
  have ea : List.map (bx_num r) [.inr (3, (0, 480))] = [480] := by
    simp only [List.map_cons, List.map_nil, bx_xv_ok hs_.1]
    rfl
  rw [ea]
  refine ⟨g.1, fun S_p w r_p hPS hX_p I1 hsm hr hw hs_p => ?_⟩
  have hw : w = none := hPS.1
  subst hw
  have g2 := g.2 S_p hPS I1 hsm
  show rxIPLAYX_7 S0 ws S_p (r_p 8) ∧ rxmPLAYX_7 S0 ws S_p (r_p 8) < _
  rw [hr 8 (by decide)]
  exact g2
theorem rxkPLAYX_8 {S0 : Nat → Int → Int} {ws : List Int} {S : Nat → Int → Int} {part : Int} (hP : rxPPLAYX S0 ws) (hin : bx_same rxL (bx_mdl rxC240.2.2.1) S0 S) (I0 : bx_Inv rxL S) (hinv : rxIPLAYX_8 S0 ws S part) (l8 : 0 ≤ part) (u8 : part ≤ 5) : rxPRYW S [480] ∧ ∀ (S_p : Nat → Int → Int), rxPSRYW S [480] S_p none → bx_Inv rxL S_p → bx_same rxL (bx_mdl rxCRYW.2.2.1) S S_p → rxIPLAYX_9 S0 ws S_p part ∧ rxmPLAYX_9 S0 ws S_p part < rxmPLAYX_8 S0 ws S part := by
  obtain ⟨hI, hx⟩ := hinv
  have g_ := rxk240_8 hP hin I0 hI l8 u8
  exact ⟨g_.1, fun S_p hq I1 hsm => ⟨⟨(g_.2 S_p hq.2.1 I1 hsm).1, (by
    obtain ⟨hpt, hx⟩ := hx
    exact ⟨hpt, (fun c => by
      have z0 : S 480 14 = 0 := hI.2
      have h := hx c
      obtain ⟨q1, q2, q3, q4, q5, q6⟩ := rzRj_q h z0
      have x := hq.2.2 q1 q2 (by unfold rzWr; rw [q3]; exact if_pos rfl)
      rw [q4, q5] at x
      refine rzRj_co h z0 x hq.2.1.2.2 (fun n12 r p => ?_) fun n12 r p => ?_
      · rw [rzCl_z1]
        rcases p with p | p
        · exact p.2
        · exact absurd n12 (of_decide_eq_false p.1)
      · rcases p with p | p
        · exact absurd (of_decide_eq_true p.1) n12
        · exact p.2)⟩)⟩, (g_.2 S_p hq.2.1 I1 hsm).2⟩⟩
theorem rxsPLAYX_8 {X : (Nat → Int → Int) → Prop} {S0 : Nat → Int → Int} {ws : List Int} (hP : rxPPLAYX S0 ws) : rx_obK X S0 rxC240.2.2.1 rxCRYW.2.2.1 (rxIPLAYX S0 ws) (rxmPLAYX S0 ws) 8 9 rxzPLAYX_8 rxzPLAYX_9 [.inr (3, (0, 480))] none rxPRYW rxPSRYW := by
  intro S r hinv hXS I0 hin hs_ hf_
  have b_ := bx_bds_sat hs_
  have f_ := bx_fcl_ok hs_.1 hf_
  obtain ⟨⟨l8, u8⟩, -⟩ := b_
  have g := rxkPLAYX_8 hP hin I0 hinv l8 u8
  have ea : List.map (bx_num r) [.inr (3, (0, 480))] = [480] := by
    simp only [List.map_cons, List.map_nil, bx_xv_ok hs_.1]
    rfl
  rw [ea]
  refine ⟨g.1, fun S_p w r_p hPS hX_p I1 hsm hr hw hs_p => ?_⟩
  have hw : w = none := hPS.1
  subst hw
  have g2 := g.2 S_p hPS I1 hsm
  show rxIPLAYX_9 S0 ws S_p (r_p 8) ∧ rxmPLAYX_9 S0 ws S_p (r_p 8) < _
  rw [hr 8 (by decide)]
  exact g2
theorem rxkPLAYX_10 {S0 : Nat → Int → Int} {ws : List Int} {S : Nat → Int → Int} {part : Int} (hP : rxPPLAYX S0 ws) (hin : bx_same rxL (bx_mdl rxC240.2.2.1) S0 S) (I0 : bx_Inv rxL S) (hinv : rxIPLAYX_10 S0 ws S part) (l8 : 0 ≤ part) (u8 : part ≤ 5) : rxPETW S [480] ∧ ∀ (S_p : Nat → Int → Int), rxPSETW S [480] S_p none → bx_Inv rxL S_p → bx_same rxL (bx_mdl rxCETW.2.2.1) S S_p → rxIPLAYX_11 S0 ws S_p part ∧ rxmPLAYX_11 S0 ws S_p part < rxmPLAYX_10 S0 ws S part := by
  obtain ⟨hI, hx⟩ := hinv
  have g_ := rxk240_10 hP hin I0 hI l8 u8
  exact ⟨g_.1, fun S_p hq I1 hsm => ⟨⟨(g_.2 S_p hq.2.1 I1 hsm).1, (by
    obtain ⟨hpt, hx⟩ := hx
    exact ⟨hpt, ⟨fun c => rzRj_et (hx.1 c) (fun z0 => hx.2 z0 (rzRj_q (hx.1 c) z0).2.1) hq.2.2.1, hq.2.2.2⟩⟩)⟩, (g_.2 S_p hq.2.1 I1 hsm).2⟩⟩
theorem rxsPLAYX_10 {X : (Nat → Int → Int) → Prop} {S0 : Nat → Int → Int} {ws : List Int} (hP : rxPPLAYX S0 ws) : rx_obK X S0 rxC240.2.2.1 rxCETW.2.2.1 (rxIPLAYX S0 ws) (rxmPLAYX S0 ws) 10 11 rxzPLAYX_10 rxzPLAYX_11 [.inr (3, (0, 480))] none rxPETW rxPSETW := by
  intro S r hinv hXS I0 hin hs_ hf_
  have b_ := bx_bds_sat hs_
  have f_ := bx_fcl_ok hs_.1 hf_
  obtain ⟨⟨l8, u8⟩, -⟩ := b_
  have g := rxkPLAYX_10 hP hin I0 hinv l8 u8
  have ea : List.map (bx_num r) [.inr (3, (0, 480))] = [480] := by
    simp only [List.map_cons, List.map_nil, bx_xv_ok hs_.1]
    rfl
  rw [ea]
  refine ⟨g.1, fun S_p w r_p hPS hX_p I1 hsm hr hw hs_p => ?_⟩
  have hw : w = none := hPS.1
  subst hw
  have g2 := g.2 S_p hPS I1 hsm
  show rxIPLAYX_11 S0 ws S_p (r_p 8) ∧ rxmPLAYX_11 S0 ws S_p (r_p 8) < _
  rw [hr 8 (by decide)]
  exact g2
theorem rxkPLAYX_14 {S0 : Nat → Int → Int} {ws : List Int} {S : Nat → Int → Int} {part at_ c n a_ pt d6 m6 : Int} (hP : rxPPLAYX S0 ws) (hin : bx_same rxL (bx_mdl rxC240.2.2.1) S0 S) (I0 : bx_Inv rxL S) (hinv : rxIPLAYX_14 S0 ws S part at_ c n a_ pt d6 m6) (l8 : 0 ≤ part) (u8 : part ≤ 5) (l9 : 0 ≤ at_) (u9 : at_ ≤ 110) (l10 : 0 ≤ c) (u10 : c ≤ 35) (l11 : 0 ≤ n) (u11 : n ≤ 431) (l12 : 0 ≤ a_) (u12 : a_ ≤ 110) (l13 : 0 ≤ pt) (u13 : pt ≤ 5) (l14 : 0 ≤ d6) (u14 : d6 ≤ 5) (l15 : 0 ≤ m6) (u15 : m6 ≤ 5) : rxPIP S [480, a_, pt, d6, m6] ∧ ∀ (S_p : Nat → Int → Int) (so : Int), 0 ≤ so → so ≤ 1 → rxPSIP S [480, a_, pt, d6, m6] S_p (some so) → bx_Inv rxL S_p → bx_same rxL (bx_mdl rxCIP.2.2.1) S S_p → rxIPLAYX_15 S0 ws S_p part at_ c n a_ pt d6 m6 so ∧ rxmPLAYX_15 S0 ws S_p part at_ c n a_ pt d6 m6 so < rxmPLAYX_14 S0 ws S part at_ c n a_ pt d6 m6 := by
  obtain ⟨hI, hx⟩ := hinv
  have g_ := rxk240_14 hP hin I0 hI l8 u8 l9 u9 l10 u10 l11 u11 l12 u12 l13 u13 l14 u14 l15 u15
  exact ⟨g_.1, fun S_p so l_ u_ hq I1 hsm => ⟨⟨(g_.2 S_p so l_ u_ hq I1 hsm).1, (by
    obtain ⟨h1, h2, h3, hx, h8⟩ := hx
    refine ⟨h1, h2, h3, fun c => ?_, (hsm 480 8 (by decide) (by decide) (by decide +kernel)).trans h8⟩
    obtain ⟨r, r1, r2, r3⟩ := hx c
    exact ⟨r, r1, r2, (hsm 480 13 (by decide) (by decide) (by decide +kernel)).trans r3⟩)⟩, (g_.2 S_p so l_ u_ hq I1 hsm).2⟩⟩
theorem rxsPLAYX_14 {X : (Nat → Int → Int) → Prop} {S0 : Nat → Int → Int} {ws : List Int} (hP : rxPPLAYX S0 ws) : rx_obK X S0 rxC240.2.2.1 rxCIP.2.2.1 (rxIPLAYX S0 ws) (rxmPLAYX S0 ws) 14 15 rxzPLAYX_14 rxzPLAYX_15 [.inr (3, (0, 480)), .inr (0, (12, 0)), .inr (0, (13, 0)), .inr (0, (14, 0)), .inr (0, (15, 0))] (some 16) rxPIP rxPSIP := by
  intro S r hinv hXS I0 hin hs_ hf_
  have b_ := bx_bds_sat hs_
  have f_ := bx_fcl_ok hs_.1 hf_
  obtain ⟨⟨l8, u8⟩, ⟨l9, u9⟩, ⟨l10, u10⟩, ⟨l11, u11⟩, ⟨l12, u12⟩, ⟨l13, u13⟩, ⟨l14, u14⟩, ⟨l15, u15⟩, -⟩ := b_
  have g := rxkPLAYX_14 hP hin I0 hinv l8 u8 l9 u9 l10 u10 l11 u11 l12 u12 l13 u13 l14 u14 l15 u15
  have ea : List.map (bx_num r) [.inr (3, (0, 480)), .inr (0, (12, 0)), .inr (0, (13, 0)), .inr (0, (14, 0)), .inr (0, (15, 0))] = [480, (r 12), (r 13), (r 14), (r 15)] := by
    simp only [List.map_cons, List.map_nil, bx_xv_ok hs_.1]
    rfl
  rw [ea]
  refine ⟨g.1, fun S_p w r_p hPS hX_p I1 hsm hr hw hs_p => ?_⟩
  have hw := hw _ rfl
  subst hw
  have b_p := hs_p.2.2 16 _ _ rfl
  have g2 := g.2 S_p (r_p 16) b_p.1 b_p.2 hPS I1 hsm
  show rxIPLAYX_15 S0 ws S_p (r_p 8) (r_p 9) (r_p 10) (r_p 11) (r_p 12) (r_p 13) (r_p 14) (r_p 15) (r_p 16) ∧ rxmPLAYX_15 S0 ws S_p (r_p 8) (r_p 9) (r_p 10) (r_p 11) (r_p 12) (r_p 13) (r_p 14) (r_p 15) (r_p 16) < _
  rw [hr 8 (by decide), hr 9 (by decide), hr 10 (by decide), hr 11 (by decide), hr 12 (by decide), hr 13 (by decide), hr 14 (by decide), hr 15 (by decide)]
  exact g2
theorem rxcPLAYX_0_0 {S0 : Nat → Int → Int} {ws : List Int} {S : Nat → Int → Int} {part x9 : Int} (hP : rxPPLAYX S0 ws) (hin : bx_same rxL (bx_mdl rxC240.2.2.1) S0 S) (I0 : bx_Inv rxL S) (hinv : rxIPLAYX_0 S0 ws S part) (l8 : 0 ≤ part) (u8 : part ≤ 5) (l9 : 1 ≤ x9) (u9 : x9 ≤ 6) (f0 : part ≤ x9 + (-1)) (e0 : (bx_up S 480 0 0) 482 0 = x9) : (True) ∧ (True) ∧ rxIPLAYX_1 S0 ws (bx_up S 480 0 0) part ∧ rxmPLAYX_1 S0 ws (bx_up S 480 0 0) part < rxmPLAYX_0 S0 ws S part := by
  obtain ⟨hI, hx⟩ := hinv
  obtain ⟨a_, b_, c_, d_⟩ := rxc240_0_0 hP hin I0 hI l8 u8 l9 u9 f0 e0
  exact ⟨a_, b_, ⟨c_, (by
    have e := hI.1
    have hw := hI.2
    subst e
    have e0 := (show _ = S 482 0 from (bx_up_ne (by omega))).symm.trans e0
    exact ⟨⟨hw, by omega, by omega⟩, ⟨congrArg rzCut (funext fun _ => (bx_up_ne (by omega))), (bx_up_ne (by omega)), fun c => rzCk_c c (funext fun _ => (bx_up_ne (by omega))) (funext fun _ => (bx_up_ne (by omega)))⟩⟩)⟩, d_⟩
theorem rxgPLAYX_0_0 {X : (Nat → Int → Int) → Prop} {S0 : Nat → Int → Int} {ws : List Int} (hP : rxPPLAYX S0 ws) : bx_obC rxL X S0 rxC240.2.2.1 (rxIPLAYX S0 ws) (rxmPLAYX S0 ws) 0 rxzPLAYX_0 rxoPLAYX_0_0 := by
  intro S S_p r r_p hinv hX hin hsm_ hseg
  obtain ⟨I0, I1, h0_, hr_, b_, f_, d_⟩ := bx_cl (evs := [(0, (0, 482), (0, 0), .inr (0, (9, 0))), (1, (0, 480), (0, 0), .inr (0, (0, 0)))]) (fvs := [(1, (8, 0), (9, (-1)), (0, 0))]) hseg (by decide +kernel) (by decide +kernel)
  have hinv : rxIPLAYX_0 S0 ws S (r 8) := hinv
  rw [← hr_ 8 (by decide)] at hinv
  obtain ⟨⟨l8, u8⟩, ⟨l9, u9⟩, -⟩ := b_
  obtain ⟨f0, -⟩ := f_
  obtain ⟨e0, ⟨T1, w_, w1⟩⟩ := d_
  subst w1
  subst w_
  have g := rxcPLAYX_0_0 hP hin I0 hinv l8 u8 l9 u9 f0 e0
  refine ⟨bx_narP_ok (l := []) g.1, bx_nfP_ok h0_ (fvs := []) (by decide +kernel) g.2.1, ?_, ?_⟩
  · show rxIPLAYX_1 S0 ws (bx_up T1 480 (0) (0)) (bx_val [(0, 0), (0, 0), (0, 0), (0, 0), (0, 0), (0, 0), (0, 0), (0, 0), (8, 0)] r_p 8)
    rw [bx_val_x (n := 8) (e := (8, 0)) h0_ rfl]
    exact g.2.2.1
  · show rxmPLAYX_1 S0 ws (bx_up T1 480 (0) (0)) (bx_val [(0, 0), (0, 0), (0, 0), (0, 0), (0, 0), (0, 0), (0, 0), (0, 0), (8, 0)] r_p 8) < rxmPLAYX_0 S0 ws T1 (r 8)
    rw [bx_val_x (n := 8) (e := (8, 0)) h0_ rfl, ← hr_ 8 (by decide)]
    exact g.2.2.2
theorem rxdPLAYX_0_0 {S0 : Nat → Int → Int} {ws : List Int} {S : Nat → Int → Int} {part x9 x10 x11 : Int} (hP : rxPPLAYX S0 ws) (hin : bx_same rxL (bx_mdl rxC240.2.2.1) S0 S) (hin2 : bx_same rxL (bx_mdl rxC240.2.2.1) S (bx_up (bx_up (bx_up S 480 0 0) 480 1 ((-2))) 481 2 x11)) (I0 : bx_Inv rxL S) (I1 : bx_Inv rxL (bx_up (bx_up (bx_up S 480 0 0) 480 1 ((-2))) 481 2 x11)) (hinv : rxIPLAYX_0 S0 ws S part) (l8 : 0 ≤ part) (u8 : part ≤ 2147483647) (l9 : 0 ≤ x9) (u9 : x9 ≤ 6) (l10 : (-2147483648) ≤ x10) (u10 : x10 ≤ 2147483647) (l11 : (-2147483648) ≤ x11) (u11 : x11 ≤ 2147483647) (f0 : x9 + (-1) < part) (e3 : (bx_up S 480 0 0) 482 0 = x9) (e1 : (bx_up (bx_up S 480 0 0) 480 1 ((-2))) 481 2 = x10) : (True) ∧ rxPSPLAYX S0 ws (bx_up (bx_up (bx_up S 480 0 0) 480 1 ((-2))) 481 2 x11) (some ((-2))) := by
  obtain ⟨hI, hx⟩ := hinv
  obtain ⟨a_, c_⟩ := rxd240_0_0 hP hin hin2 I0 I1 hI l8 u8 l9 u9 l10 u10 l11 u11 f0 e3 e1
  exact ⟨a_, c_, (fun c => by
    have e := hI.1
    have hw := hI.2
    subst e
    have e3 := (show _ = S 482 0 from (bx_up_ne (by omega))).symm.trans e3
    have e1 := (show _ = S 481 2 from (bx_up_ne (by omega)).trans ((bx_up_ne (by omega)))).symm.trans e1
    exact ⟨part, hw, Or.inl ⟨by omega, (bx_up_ne (by omega)).trans ((bx_up_ne (by omega)).trans ((bx_up_ne (by omega)))), (bx_up_ne (by omega)).trans ((bx_up_ne (by omega)).trans ((bx_up_ne (by omega))))⟩⟩)⟩
theorem rxfPLAYX_0_0 {X : (Nat → Int → Int) → Prop} {S0 : Nat → Int → Int} {ws : List Int} (hP : rxPPLAYX S0 ws) : bx_obE rxL X S0 rxC240.2.2.1 (rxIPLAYX S0 ws) (rxPSPLAYX S0 ws) 0 rxzPLAYX_0 rxePLAYX_0_0 := by
  intro S S_p r r_p hinv hX hin hsm_ hseg
  obtain ⟨I0, I1, h0_, hr_, b_, f_, d_⟩ := bx_cl (evs := [(1, (0, 481), (0, 2), .inr (0, (11, 0))), (0, (0, 481), (0, 2), .inr (0, (10, 0))), (1, (0, 480), (0, 1), .inr (0, (0, (-2)))), (0, (0, 482), (0, 0), .inr (0, (9, 0))), (1, (0, 480), (0, 0), .inr (0, (0, 0)))]) (fvs := [(0, (9, (-1)), (8, 0), (0, 0))]) hseg (by decide +kernel) (by decide +kernel)
  have hinv : rxIPLAYX_0 S0 ws S (r 8) := hinv
  rw [← hr_ 8 (by decide)] at hinv
  obtain ⟨⟨l8, u8⟩, ⟨l9, u9⟩, ⟨l10, u10⟩, ⟨l11, u11⟩, -⟩ := b_
  obtain ⟨f0, -⟩ := f_
  obtain ⟨T0, ⟨e1, ⟨T2, ⟨e3, ⟨T4, w_, w4⟩⟩, w2⟩⟩, w0⟩ := d_
  subst w0
  subst w2
  subst w4
  subst w_
  have g := rxdPLAYX_0_0 hP hin hsm_ I0 I1 hinv l8 u8 l9 u9 l10 u10 l11 u11 f0 e3 e1
  refine ⟨bx_narP_ok (l := []) g.1, ?_⟩
  show rxPSPLAYX S0 ws (bx_up (bx_up (bx_up T4 480 (0) (0)) 480 (1) ((-2))) 481 (2) (r_p 11)) (some (bx_num r_p (.inr (0, (0, (-2))))))
  rw [bx_xv_ok h0_]
  exact g.2
theorem rxdPLAYX_0_1 {S0 : Nat → Int → Int} {ws : List Int} {S : Nat → Int → Int} {part x9 x10 x11 : Int} (hP : rxPPLAYX S0 ws) (hin : bx_same rxL (bx_mdl rxC240.2.2.1) S0 S) (hin2 : bx_same rxL (bx_mdl rxC240.2.2.1) S (bx_up (bx_up (bx_up S 480 0 0) 480 1 ((-2))) 481 2 x11)) (I0 : bx_Inv rxL S) (I1 : bx_Inv rxL (bx_up (bx_up (bx_up S 480 0 0) 480 1 ((-2))) 481 2 x11)) (hinv : rxIPLAYX_0 S0 ws S part) (l8 : (-2147483648) ≤ part) (u8 : part ≤ (-1)) (l9 : 0 ≤ x9) (u9 : x9 ≤ 6) (l10 : (-2147483648) ≤ x10) (u10 : x10 ≤ 2147483647) (l11 : (-2147483648) ≤ x11) (u11 : x11 ≤ 2147483647) (e3 : (bx_up S 480 0 0) 482 0 = x9) (e1 : (bx_up (bx_up S 480 0 0) 480 1 ((-2))) 481 2 = x10) : (True) ∧ rxPSPLAYX S0 ws (bx_up (bx_up (bx_up S 480 0 0) 480 1 ((-2))) 481 2 x11) (some ((-2))) := by
  obtain ⟨hI, hx⟩ := hinv
  obtain ⟨a_, c_⟩ := rxd240_0_1 hP hin hin2 I0 I1 hI l8 u8 l9 u9 l10 u10 l11 u11 e3 e1
  exact ⟨a_, c_, (fun c => by
    have e := hI.1
    have hw := hI.2
    subst e
    have e3 := (show _ = S 482 0 from (bx_up_ne (by omega))).symm.trans e3
    have e1 := (show _ = S 481 2 from (bx_up_ne (by omega)).trans ((bx_up_ne (by omega)))).symm.trans e1
    exact ⟨part, hw, Or.inl ⟨by omega, (bx_up_ne (by omega)).trans ((bx_up_ne (by omega)).trans ((bx_up_ne (by omega)))), (bx_up_ne (by omega)).trans ((bx_up_ne (by omega)).trans ((bx_up_ne (by omega))))⟩⟩)⟩
theorem rxfPLAYX_0_1 {X : (Nat → Int → Int) → Prop} {S0 : Nat → Int → Int} {ws : List Int} (hP : rxPPLAYX S0 ws) : bx_obE rxL X S0 rxC240.2.2.1 (rxIPLAYX S0 ws) (rxPSPLAYX S0 ws) 0 rxzPLAYX_0 rxePLAYX_0_1 := by
  intro S S_p r r_p hinv hX hin hsm_ hseg
  obtain ⟨I0, I1, h0_, hr_, b_, f_, d_⟩ := bx_cl (evs := [(1, (0, 481), (0, 2), .inr (0, (11, 0))), (0, (0, 481), (0, 2), .inr (0, (10, 0))), (1, (0, 480), (0, 1), .inr (0, (0, (-2)))), (0, (0, 482), (0, 0), .inr (0, (9, 0))), (1, (0, 480), (0, 0), .inr (0, (0, 0)))]) (fvs := []) hseg (by decide +kernel) (by decide +kernel)
  have hinv : rxIPLAYX_0 S0 ws S (r 8) := hinv
  rw [← hr_ 8 (by decide)] at hinv
  obtain ⟨⟨l8, u8⟩, ⟨l9, u9⟩, ⟨l10, u10⟩, ⟨l11, u11⟩, -⟩ := b_
  obtain ⟨T0, ⟨e1, ⟨T2, ⟨e3, ⟨T4, w_, w4⟩⟩, w2⟩⟩, w0⟩ := d_
  subst w0
  subst w2
  subst w4
  subst w_
  have g := rxdPLAYX_0_1 hP hin hsm_ I0 I1 hinv l8 u8 l9 u9 l10 u10 l11 u11 e3 e1
  refine ⟨bx_narP_ok (l := []) g.1, ?_⟩
  show rxPSPLAYX S0 ws (bx_up (bx_up (bx_up T4 480 (0) (0)) 480 (1) ((-2))) 481 (2) (r_p 11)) (some (bx_num r_p (.inr (0, (0, (-2))))))
  rw [bx_xv_ok h0_]
  exact g.2
theorem rxcPLAYX_2_0 {S0 : Nat → Int → Int} {ws : List Int} {S : Nat → Int → Int} {part : Int} (hP : rxPPLAYX S0 ws) (hin : bx_same rxL (bx_mdl rxC240.2.2.1) S0 S) (I0 : bx_Inv rxL S) (hinv : rxIPLAYX_2 S0 ws S part) (l8 : 0 ≤ part) (u8 : part ≤ 5) : (True) ∧ (True) ∧ rxIPLAYX_3 S0 ws S part ∧ rxmPLAYX_3 S0 ws S part < rxmPLAYX_2 S0 ws S part := by
  obtain ⟨hI, hx⟩ := hinv
  obtain ⟨a_, b_, c_, d_⟩ := rxc240_2_0 hP hin I0 hI l8 u8
  exact ⟨a_, b_, ⟨c_, (by
    obtain ⟨hpt, hx⟩ := hx
    exact ⟨hpt, hx⟩)⟩, d_⟩
theorem rxgPLAYX_2_0 {X : (Nat → Int → Int) → Prop} {S0 : Nat → Int → Int} {ws : List Int} (hP : rxPPLAYX S0 ws) : bx_obC rxL X S0 rxC240.2.2.1 (rxIPLAYX S0 ws) (rxmPLAYX S0 ws) 2 rxzPLAYX_2 rxoPLAYX_2_0 := by
  intro S S_p r r_p hinv hX hin hsm_ hseg
  obtain ⟨I0, I1, h0_, hr_, b_, f_, d_⟩ := bx_cl (evs := []) (fvs := []) hseg (by decide +kernel) (by decide +kernel)
  have hinv : rxIPLAYX_2 S0 ws S (r 8) := hinv
  rw [← hr_ 8 (by decide)] at hinv
  obtain ⟨⟨l8, u8⟩, -⟩ := b_
  have w_ := d_
  subst w_
  have g := rxcPLAYX_2_0 hP hin I0 hinv l8 u8
  refine ⟨bx_narP_ok (l := []) g.1, bx_nfP_ok h0_ (fvs := []) (by decide +kernel) g.2.1, ?_, ?_⟩
  · show rxIPLAYX_3 S0 ws S_p (bx_val [(0, 0), (0, 0), (0, 0), (0, 0), (0, 0), (0, 0), (0, 0), (0, 0), (8, 0)] r_p 8)
    rw [bx_val_x (n := 8) (e := (8, 0)) h0_ rfl]
    exact g.2.2.1
  · show rxmPLAYX_3 S0 ws S_p (bx_val [(0, 0), (0, 0), (0, 0), (0, 0), (0, 0), (0, 0), (0, 0), (0, 0), (8, 0)] r_p 8) < rxmPLAYX_2 S0 ws S_p (r 8)
    rw [bx_val_x (n := 8) (e := (8, 0)) h0_ rfl, ← hr_ 8 (by decide)]
    exact g.2.2.2
theorem rxcPLAYX_4_0 {S0 : Nat → Int → Int} {ws : List Int} {S : Nat → Int → Int} {part x9 x10 : Int} (hP : rxPPLAYX S0 ws) (hin : bx_same rxL (bx_mdl rxC240.2.2.1) S0 S) (I0 : bx_Inv rxL S) (hinv : rxIPLAYX_4 S0 ws S part) (l8 : 0 ≤ part) (u8 : part ≤ 5) (l9 : 0 ≤ x9) (u9 : x9 ≤ 0) (l10 : 0 ≤ x10) (u10 : x10 ≤ 2) (f0 : x10 ≠ 3) (e1 : S 480 14 = x9) (e0 : S 480 11 = x10) : (True) ∧ (True) ∧ rxIPLAYX_10 S0 ws S part ∧ rxmPLAYX_10 S0 ws S part < rxmPLAYX_4 S0 ws S part := by
  obtain ⟨hI, hx⟩ := hinv
  obtain ⟨a_, b_, c_, d_⟩ := rxc240_4_0 hP hin I0 hI l8 u8 l9 u9 l10 u10 f0 e1 e0
  exact ⟨a_, b_, ⟨c_, (by
    obtain ⟨hpt, hx⟩ := hx
    exact ⟨hpt, ⟨hx, fun z b => rzDq_ns b (c := 59) (by decide) (by decide) (by omega)⟩⟩)⟩, d_⟩
theorem rxgPLAYX_4_0 {X : (Nat → Int → Int) → Prop} {S0 : Nat → Int → Int} {ws : List Int} (hP : rxPPLAYX S0 ws) : bx_obC rxL X S0 rxC240.2.2.1 (rxIPLAYX S0 ws) (rxmPLAYX S0 ws) 4 rxzPLAYX_4 rxoPLAYX_4_0 := by
  intro S S_p r r_p hinv hX hin hsm_ hseg
  obtain ⟨I0, I1, h0_, hr_, b_, f_, d_⟩ := bx_cl (evs := [(0, (0, 480), (0, 11), .inr (0, (10, 0))), (0, (0, 480), (0, 14), .inr (0, (9, 0)))]) (fvs := [(3, (10, 0), (0, 3), (0, 0))]) hseg (by decide +kernel) (by decide +kernel)
  have hinv : rxIPLAYX_4 S0 ws S (r 8) := hinv
  rw [← hr_ 8 (by decide)] at hinv
  obtain ⟨⟨l8, u8⟩, ⟨l9, u9⟩, ⟨l10, u10⟩, -⟩ := b_
  obtain ⟨f0, -⟩ := f_
  obtain ⟨e0, ⟨e1, w_⟩⟩ := d_
  subst w_
  have g := rxcPLAYX_4_0 hP hin I0 hinv l8 u8 l9 u9 l10 u10 f0 e1 e0
  refine ⟨bx_narP_ok (l := []) g.1, bx_nfP_ok h0_ (fvs := []) (by decide +kernel) g.2.1, ?_, ?_⟩
  · show rxIPLAYX_10 S0 ws S_p (bx_val [(0, 0), (0, 0), (0, 0), (0, 0), (0, 0), (0, 0), (0, 0), (0, 0), (8, 0)] r_p 8)
    rw [bx_val_x (n := 8) (e := (8, 0)) h0_ rfl]
    exact g.2.2.1
  · show rxmPLAYX_10 S0 ws S_p (bx_val [(0, 0), (0, 0), (0, 0), (0, 0), (0, 0), (0, 0), (0, 0), (0, 0), (8, 0)] r_p 8) < rxmPLAYX_4 S0 ws S_p (r 8)
    rw [bx_val_x (n := 8) (e := (8, 0)) h0_ rfl, ← hr_ 8 (by decide)]
    exact g.2.2.2
theorem rxcPLAYX_4_1 {S0 : Nat → Int → Int} {ws : List Int} {S : Nat → Int → Int} {part x9 x10 x11 : Int} (hP : rxPPLAYX S0 ws) (hin : bx_same rxL (bx_mdl rxC240.2.2.1) S0 S) (I0 : bx_Inv rxL S) (hinv : rxIPLAYX_4 S0 ws S part) (l8 : 0 ≤ part) (u8 : part ≤ 5) (l9 : 0 ≤ x9) (u9 : x9 ≤ 0) (l10 : 3 ≤ x10) (u10 : x10 ≤ 3) (l11 : (-9223372036854775808) ≤ x11) (u11 : x11 ≤ 9223372036854775807) (f0 : x11 ≠ 59) (e2 : S 480 14 = x9) (e1 : S 480 11 = x10) (e0 : S 480 12 = x11) : (True) ∧ (True) ∧ rxIPLAYX_10 S0 ws S part ∧ rxmPLAYX_10 S0 ws S part < rxmPLAYX_4 S0 ws S part := by
  obtain ⟨hI, hx⟩ := hinv
  obtain ⟨a_, b_, c_, d_⟩ := rxc240_4_1 hP hin I0 hI l8 u8 l9 u9 l10 u10 l11 u11 f0 e2 e1 e0
  exact ⟨a_, b_, ⟨c_, (by
    obtain ⟨hpt, hx⟩ := hx
    exact ⟨hpt, ⟨hx, fun z b => rzDq_ns b (c := 59) (by decide) (by decide) (by omega)⟩⟩)⟩, d_⟩
theorem rxgPLAYX_4_1 {X : (Nat → Int → Int) → Prop} {S0 : Nat → Int → Int} {ws : List Int} (hP : rxPPLAYX S0 ws) : bx_obC rxL X S0 rxC240.2.2.1 (rxIPLAYX S0 ws) (rxmPLAYX S0 ws) 4 rxzPLAYX_4 rxoPLAYX_4_1 := by
  intro S S_p r r_p hinv hX hin hsm_ hseg
  obtain ⟨I0, I1, h0_, hr_, b_, f_, d_⟩ := bx_cl (evs := [(0, (0, 480), (0, 12), .inr (1, (11, 0))), (0, (0, 480), (0, 11), .inr (0, (10, 0))), (0, (0, 480), (0, 14), .inr (0, (9, 0)))]) (fvs := [(3, (11, 0), (0, 59), (0, 0))]) hseg (by decide +kernel) (by decide +kernel)
  have hinv : rxIPLAYX_4 S0 ws S (r 8) := hinv
  rw [← hr_ 8 (by decide)] at hinv
  obtain ⟨⟨l8, u8⟩, ⟨l9, u9⟩, ⟨l10, u10⟩, ⟨l11, u11⟩, -⟩ := b_
  obtain ⟨f0, -⟩ := f_
  obtain ⟨e0, ⟨e1, ⟨e2, w_⟩⟩⟩ := d_
  subst w_
  have g := rxcPLAYX_4_1 hP hin I0 hinv l8 u8 l9 u9 l10 u10 l11 u11 f0 e2 e1 e0
  refine ⟨bx_narP_ok (l := []) g.1, bx_nfP_ok h0_ (fvs := []) (by decide +kernel) g.2.1, ?_, ?_⟩
  · show rxIPLAYX_10 S0 ws S_p (bx_val [(0, 0), (0, 0), (0, 0), (0, 0), (0, 0), (0, 0), (0, 0), (0, 0), (8, 0)] r_p 8)
    rw [bx_val_x (n := 8) (e := (8, 0)) h0_ rfl]
    exact g.2.2.1
  · show rxmPLAYX_10 S0 ws S_p (bx_val [(0, 0), (0, 0), (0, 0), (0, 0), (0, 0), (0, 0), (0, 0), (0, 0), (8, 0)] r_p 8) < rxmPLAYX_4 S0 ws S_p (r 8)
    rw [bx_val_x (n := 8) (e := (8, 0)) h0_ rfl, ← hr_ 8 (by decide)]
    exact g.2.2.2
theorem rxcPLAYX_4_2 {S0 : Nat → Int → Int} {ws : List Int} {S : Nat → Int → Int} {part x9 x10 x11 : Int} (hP : rxPPLAYX S0 ws) (hin : bx_same rxL (bx_mdl rxC240.2.2.1) S0 S) (I0 : bx_Inv rxL S) (hinv : rxIPLAYX_4 S0 ws S part) (l8 : 0 ≤ part) (u8 : part ≤ 5) (l9 : 0 ≤ x9) (u9 : x9 ≤ 0) (l10 : 3 ≤ x10) (u10 : x10 ≤ 3) (l11 : 59 ≤ x11) (u11 : x11 ≤ 59) (e2 : S 480 14 = x9) (e1 : S 480 11 = x10) (e0 : S 480 12 = x11) : (True) ∧ (True) ∧ rxIPLAYX_6 S0 ws S part ∧ rxmPLAYX_6 S0 ws S part < rxmPLAYX_4 S0 ws S part := by
  obtain ⟨hI, hx⟩ := hinv
  obtain ⟨a_, b_, c_, d_⟩ := rxc240_4_2 hP hin I0 hI l8 u8 l9 u9 l10 u10 l11 u11 e2 e1 e0
  exact ⟨a_, b_, ⟨c_, (by
    obtain ⟨hpt, hx⟩ := hx
    exact ⟨hpt, ⟨hx, fun z b => (rzDq_sg b (c := 59) (by decide) (by decide)).mp ⟨by omega, by omega⟩⟩⟩)⟩, d_⟩
theorem rxgPLAYX_4_2 {X : (Nat → Int → Int) → Prop} {S0 : Nat → Int → Int} {ws : List Int} (hP : rxPPLAYX S0 ws) : bx_obC rxL X S0 rxC240.2.2.1 (rxIPLAYX S0 ws) (rxmPLAYX S0 ws) 4 rxzPLAYX_4 rxoPLAYX_4_2 := by
  intro S S_p r r_p hinv hX hin hsm_ hseg
  obtain ⟨I0, I1, h0_, hr_, b_, f_, d_⟩ := bx_cl (evs := [(0, (0, 480), (0, 12), .inr (1, (11, 0))), (0, (0, 480), (0, 11), .inr (0, (10, 0))), (0, (0, 480), (0, 14), .inr (0, (9, 0)))]) (fvs := []) hseg (by decide +kernel) (by decide +kernel)
  have hinv : rxIPLAYX_4 S0 ws S (r 8) := hinv
  rw [← hr_ 8 (by decide)] at hinv
  obtain ⟨⟨l8, u8⟩, ⟨l9, u9⟩, ⟨l10, u10⟩, ⟨l11, u11⟩, -⟩ := b_
  obtain ⟨e0, ⟨e1, ⟨e2, w_⟩⟩⟩ := d_
  subst w_
  have g := rxcPLAYX_4_2 hP hin I0 hinv l8 u8 l9 u9 l10 u10 l11 u11 e2 e1 e0
  refine ⟨bx_narP_ok (l := []) g.1, bx_nfP_ok h0_ (fvs := []) (by decide +kernel) g.2.1, ?_, ?_⟩
  · show rxIPLAYX_6 S0 ws S_p (bx_val [(0, 0), (0, 0), (0, 0), (0, 0), (0, 0), (0, 0), (0, 0), (0, 0), (8, 0)] r_p 8)
    rw [bx_val_x (n := 8) (e := (8, 0)) h0_ rfl]
    exact g.2.2.1
  · show rxmPLAYX_6 S0 ws S_p (bx_val [(0, 0), (0, 0), (0, 0), (0, 0), (0, 0), (0, 0), (0, 0), (0, 0), (8, 0)] r_p 8) < rxmPLAYX_4 S0 ws S_p (r 8)
    rw [bx_val_x (n := 8) (e := (8, 0)) h0_ rfl, ← hr_ 8 (by decide)]
    exact g.2.2.2
theorem rxcPLAYX_4_3 {S0 : Nat → Int → Int} {ws : List Int} {S : Nat → Int → Int} {part x9 : Int} (hP : rxPPLAYX S0 ws) (hin : bx_same rxL (bx_mdl rxC240.2.2.1) S0 S) (I0 : bx_Inv rxL S) (hinv : rxIPLAYX_4 S0 ws S part) (l8 : 0 ≤ part) (u8 : part ≤ 5) (l9 : 1 ≤ x9) (u9 : x9 ≤ 1) (f0 : x9 ≠ 0) (e0 : S 480 14 = x9) : (True) ∧ (True) ∧ rxIPLAYX_10 S0 ws S part ∧ rxmPLAYX_10 S0 ws S part < rxmPLAYX_4 S0 ws S part := by
  obtain ⟨hI, hx⟩ := hinv
  obtain ⟨a_, b_, c_, d_⟩ := rxc240_4_3 hP hin I0 hI l8 u8 l9 u9 f0 e0
  exact ⟨a_, b_, ⟨c_, (by
    obtain ⟨hpt, hx⟩ := hx
    exact ⟨hpt, ⟨hx, fun z b => by omega⟩⟩)⟩, d_⟩
theorem rxgPLAYX_4_3 {X : (Nat → Int → Int) → Prop} {S0 : Nat → Int → Int} {ws : List Int} (hP : rxPPLAYX S0 ws) : bx_obC rxL X S0 rxC240.2.2.1 (rxIPLAYX S0 ws) (rxmPLAYX S0 ws) 4 rxzPLAYX_4 rxoPLAYX_4_3 := by
  intro S S_p r r_p hinv hX hin hsm_ hseg
  obtain ⟨I0, I1, h0_, hr_, b_, f_, d_⟩ := bx_cl (evs := [(0, (0, 480), (0, 14), .inr (0, (9, 0)))]) (fvs := [(3, (9, 0), (0, 0), (0, 0))]) hseg (by decide +kernel) (by decide +kernel)
  have hinv : rxIPLAYX_4 S0 ws S (r 8) := hinv
  rw [← hr_ 8 (by decide)] at hinv
  obtain ⟨⟨l8, u8⟩, ⟨l9, u9⟩, -⟩ := b_
  obtain ⟨f0, -⟩ := f_
  obtain ⟨e0, w_⟩ := d_
  subst w_
  have g := rxcPLAYX_4_3 hP hin I0 hinv l8 u8 l9 u9 f0 e0
  refine ⟨bx_narP_ok (l := []) g.1, bx_nfP_ok h0_ (fvs := []) (by decide +kernel) g.2.1, ?_, ?_⟩
  · show rxIPLAYX_10 S0 ws S_p (bx_val [(0, 0), (0, 0), (0, 0), (0, 0), (0, 0), (0, 0), (0, 0), (0, 0), (8, 0)] r_p 8)
    rw [bx_val_x (n := 8) (e := (8, 0)) h0_ rfl]
    exact g.2.2.1
  · show rxmPLAYX_10 S0 ws S_p (bx_val [(0, 0), (0, 0), (0, 0), (0, 0), (0, 0), (0, 0), (0, 0), (0, 0), (8, 0)] r_p 8) < rxmPLAYX_4 S0 ws S_p (r 8)
    rw [bx_val_x (n := 8) (e := (8, 0)) h0_ rfl, ← hr_ 8 (by decide)]
    exact g.2.2.2
theorem rxcPLAYX_5_0 {S0 : Nat → Int → Int} {ws : List Int} {S : Nat → Int → Int} {part x9 x10 : Int} (hP : rxPPLAYX S0 ws) (hin : bx_same rxL (bx_mdl rxC240.2.2.1) S0 S) (I0 : bx_Inv rxL S) (hinv : rxIPLAYX_5 S0 ws S part) (l8 : 0 ≤ part) (u8 : part ≤ 5) (l9 : 0 ≤ x9) (u9 : x9 ≤ 0) (l10 : 0 ≤ x10) (u10 : x10 ≤ 2) (f0 : x10 ≠ 3) (e1 : S 480 14 = x9) (e0 : S 480 11 = x10) : (True) ∧ (True) ∧ rxIPLAYX_10 S0 ws S part ∧ rxmPLAYX_10 S0 ws S part < rxmPLAYX_5 S0 ws S part := by
  obtain ⟨hI, hx⟩ := hinv
  obtain ⟨a_, b_, c_, d_⟩ := rxc240_5_0 hP hin I0 hI l8 u8 l9 u9 l10 u10 f0 e1 e0
  exact ⟨a_, b_, ⟨c_, (by
    obtain ⟨hpt, hx⟩ := hx
    exact ⟨hpt, ⟨hx, fun z b => rzDq_ns b (c := 59) (by decide) (by decide) (by omega)⟩⟩)⟩, d_⟩
theorem rxgPLAYX_5_0 {X : (Nat → Int → Int) → Prop} {S0 : Nat → Int → Int} {ws : List Int} (hP : rxPPLAYX S0 ws) : bx_obC rxL X S0 rxC240.2.2.1 (rxIPLAYX S0 ws) (rxmPLAYX S0 ws) 5 rxzPLAYX_5 rxoPLAYX_5_0 := by
  intro S S_p r r_p hinv hX hin hsm_ hseg
  obtain ⟨I0, I1, h0_, hr_, b_, f_, d_⟩ := bx_cl (evs := [(0, (0, 480), (0, 11), .inr (0, (10, 0))), (0, (0, 480), (0, 14), .inr (0, (9, 0)))]) (fvs := [(3, (10, 0), (0, 3), (0, 0))]) hseg (by decide +kernel) (by decide +kernel)
  have hinv : rxIPLAYX_5 S0 ws S (r 8) := hinv
  rw [← hr_ 8 (by decide)] at hinv
  obtain ⟨⟨l8, u8⟩, ⟨l9, u9⟩, ⟨l10, u10⟩, -⟩ := b_
  obtain ⟨f0, -⟩ := f_
  obtain ⟨e0, ⟨e1, w_⟩⟩ := d_
  subst w_
  have g := rxcPLAYX_5_0 hP hin I0 hinv l8 u8 l9 u9 l10 u10 f0 e1 e0
  refine ⟨bx_narP_ok (l := []) g.1, bx_nfP_ok h0_ (fvs := []) (by decide +kernel) g.2.1, ?_, ?_⟩
  · show rxIPLAYX_10 S0 ws S_p (bx_val [(0, 0), (0, 0), (0, 0), (0, 0), (0, 0), (0, 0), (0, 0), (0, 0), (8, 0)] r_p 8)
    rw [bx_val_x (n := 8) (e := (8, 0)) h0_ rfl]
    exact g.2.2.1
  · show rxmPLAYX_10 S0 ws S_p (bx_val [(0, 0), (0, 0), (0, 0), (0, 0), (0, 0), (0, 0), (0, 0), (0, 0), (8, 0)] r_p 8) < rxmPLAYX_5 S0 ws S_p (r 8)
    rw [bx_val_x (n := 8) (e := (8, 0)) h0_ rfl, ← hr_ 8 (by decide)]
    exact g.2.2.2
theorem rxcPLAYX_5_1 {S0 : Nat → Int → Int} {ws : List Int} {S : Nat → Int → Int} {part x9 x10 x11 : Int} (hP : rxPPLAYX S0 ws) (hin : bx_same rxL (bx_mdl rxC240.2.2.1) S0 S) (I0 : bx_Inv rxL S) (hinv : rxIPLAYX_5 S0 ws S part) (l8 : 0 ≤ part) (u8 : part ≤ 5) (l9 : 0 ≤ x9) (u9 : x9 ≤ 0) (l10 : 3 ≤ x10) (u10 : x10 ≤ 3) (l11 : (-9223372036854775808) ≤ x11) (u11 : x11 ≤ 9223372036854775807) (f0 : x11 ≠ 59) (e2 : S 480 14 = x9) (e1 : S 480 11 = x10) (e0 : S 480 12 = x11) : (True) ∧ (True) ∧ rxIPLAYX_10 S0 ws S part ∧ rxmPLAYX_10 S0 ws S part < rxmPLAYX_5 S0 ws S part := by
  obtain ⟨hI, hx⟩ := hinv
  obtain ⟨a_, b_, c_, d_⟩ := rxc240_5_1 hP hin I0 hI l8 u8 l9 u9 l10 u10 l11 u11 f0 e2 e1 e0
  exact ⟨a_, b_, ⟨c_, (by
    obtain ⟨hpt, hx⟩ := hx
    exact ⟨hpt, ⟨hx, fun z b => rzDq_ns b (c := 59) (by decide) (by decide) (by omega)⟩⟩)⟩, d_⟩
theorem rxgPLAYX_5_1 {X : (Nat → Int → Int) → Prop} {S0 : Nat → Int → Int} {ws : List Int} (hP : rxPPLAYX S0 ws) : bx_obC rxL X S0 rxC240.2.2.1 (rxIPLAYX S0 ws) (rxmPLAYX S0 ws) 5 rxzPLAYX_5 rxoPLAYX_5_1 := by
  intro S S_p r r_p hinv hX hin hsm_ hseg
  obtain ⟨I0, I1, h0_, hr_, b_, f_, d_⟩ := bx_cl (evs := [(0, (0, 480), (0, 12), .inr (1, (11, 0))), (0, (0, 480), (0, 11), .inr (0, (10, 0))), (0, (0, 480), (0, 14), .inr (0, (9, 0)))]) (fvs := [(3, (11, 0), (0, 59), (0, 0))]) hseg (by decide +kernel) (by decide +kernel)
  have hinv : rxIPLAYX_5 S0 ws S (r 8) := hinv
  rw [← hr_ 8 (by decide)] at hinv
  obtain ⟨⟨l8, u8⟩, ⟨l9, u9⟩, ⟨l10, u10⟩, ⟨l11, u11⟩, -⟩ := b_
  obtain ⟨f0, -⟩ := f_
  obtain ⟨e0, ⟨e1, ⟨e2, w_⟩⟩⟩ := d_
  subst w_
  have g := rxcPLAYX_5_1 hP hin I0 hinv l8 u8 l9 u9 l10 u10 l11 u11 f0 e2 e1 e0
  refine ⟨bx_narP_ok (l := []) g.1, bx_nfP_ok h0_ (fvs := []) (by decide +kernel) g.2.1, ?_, ?_⟩
  · show rxIPLAYX_10 S0 ws S_p (bx_val [(0, 0), (0, 0), (0, 0), (0, 0), (0, 0), (0, 0), (0, 0), (0, 0), (8, 0)] r_p 8)
    rw [bx_val_x (n := 8) (e := (8, 0)) h0_ rfl]
    exact g.2.2.1
  · show rxmPLAYX_10 S0 ws S_p (bx_val [(0, 0), (0, 0), (0, 0), (0, 0), (0, 0), (0, 0), (0, 0), (0, 0), (8, 0)] r_p 8) < rxmPLAYX_5 S0 ws S_p (r 8)
    rw [bx_val_x (n := 8) (e := (8, 0)) h0_ rfl, ← hr_ 8 (by decide)]
    exact g.2.2.2
theorem rxcPLAYX_5_2 {S0 : Nat → Int → Int} {ws : List Int} {S : Nat → Int → Int} {part x9 x10 x11 : Int} (hP : rxPPLAYX S0 ws) (hin : bx_same rxL (bx_mdl rxC240.2.2.1) S0 S) (I0 : bx_Inv rxL S) (hinv : rxIPLAYX_5 S0 ws S part) (l8 : 0 ≤ part) (u8 : part ≤ 5) (l9 : 0 ≤ x9) (u9 : x9 ≤ 0) (l10 : 3 ≤ x10) (u10 : x10 ≤ 3) (l11 : 59 ≤ x11) (u11 : x11 ≤ 59) (e2 : S 480 14 = x9) (e1 : S 480 11 = x10) (e0 : S 480 12 = x11) : (True) ∧ (True) ∧ rxIPLAYX_6 S0 ws S part ∧ rxmPLAYX_6 S0 ws S part < rxmPLAYX_5 S0 ws S part := by
  obtain ⟨hI, hx⟩ := hinv
  obtain ⟨a_, b_, c_, d_⟩ := rxc240_5_2 hP hin I0 hI l8 u8 l9 u9 l10 u10 l11 u11 e2 e1 e0
  exact ⟨a_, b_, ⟨c_, (by
    obtain ⟨hpt, hx⟩ := hx
    exact ⟨hpt, ⟨hx, fun z b => (rzDq_sg b (c := 59) (by decide) (by decide)).mp ⟨by omega, by omega⟩⟩⟩)⟩, d_⟩
theorem rxgPLAYX_5_2 {X : (Nat → Int → Int) → Prop} {S0 : Nat → Int → Int} {ws : List Int} (hP : rxPPLAYX S0 ws) : bx_obC rxL X S0 rxC240.2.2.1 (rxIPLAYX S0 ws) (rxmPLAYX S0 ws) 5 rxzPLAYX_5 rxoPLAYX_5_2 := by
  intro S S_p r r_p hinv hX hin hsm_ hseg
  obtain ⟨I0, I1, h0_, hr_, b_, f_, d_⟩ := bx_cl (evs := [(0, (0, 480), (0, 12), .inr (1, (11, 0))), (0, (0, 480), (0, 11), .inr (0, (10, 0))), (0, (0, 480), (0, 14), .inr (0, (9, 0)))]) (fvs := []) hseg (by decide +kernel) (by decide +kernel)
  have hinv : rxIPLAYX_5 S0 ws S (r 8) := hinv
  rw [← hr_ 8 (by decide)] at hinv
  obtain ⟨⟨l8, u8⟩, ⟨l9, u9⟩, ⟨l10, u10⟩, ⟨l11, u11⟩, -⟩ := b_
  obtain ⟨e0, ⟨e1, ⟨e2, w_⟩⟩⟩ := d_
  subst w_
  have g := rxcPLAYX_5_2 hP hin I0 hinv l8 u8 l9 u9 l10 u10 l11 u11 e2 e1 e0
  refine ⟨bx_narP_ok (l := []) g.1, bx_nfP_ok h0_ (fvs := []) (by decide +kernel) g.2.1, ?_, ?_⟩
  · show rxIPLAYX_6 S0 ws S_p (bx_val [(0, 0), (0, 0), (0, 0), (0, 0), (0, 0), (0, 0), (0, 0), (0, 0), (8, 0)] r_p 8)
    rw [bx_val_x (n := 8) (e := (8, 0)) h0_ rfl]
    exact g.2.2.1
  · show rxmPLAYX_6 S0 ws S_p (bx_val [(0, 0), (0, 0), (0, 0), (0, 0), (0, 0), (0, 0), (0, 0), (0, 0), (8, 0)] r_p 8) < rxmPLAYX_5 S0 ws S_p (r 8)
    rw [bx_val_x (n := 8) (e := (8, 0)) h0_ rfl, ← hr_ 8 (by decide)]
    exact g.2.2.2
theorem rxcPLAYX_5_3 {S0 : Nat → Int → Int} {ws : List Int} {S : Nat → Int → Int} {part x9 : Int} (hP : rxPPLAYX S0 ws) (hin : bx_same rxL (bx_mdl rxC240.2.2.1) S0 S) (I0 : bx_Inv rxL S) (hinv : rxIPLAYX_5 S0 ws S part) (l8 : 0 ≤ part) (u8 : part ≤ 5) (l9 : 1 ≤ x9) (u9 : x9 ≤ 1) (f0 : x9 ≠ 0) (e0 : S 480 14 = x9) : (True) ∧ (True) ∧ rxIPLAYX_10 S0 ws S part ∧ rxmPLAYX_10 S0 ws S part < rxmPLAYX_5 S0 ws S part := by
  obtain ⟨hI, hx⟩ := hinv
  obtain ⟨a_, b_, c_, d_⟩ := rxc240_5_3 hP hin I0 hI l8 u8 l9 u9 f0 e0
  exact ⟨a_, b_, ⟨c_, (by
    obtain ⟨hpt, hx⟩ := hx
    exact ⟨hpt, ⟨hx, fun z b => by omega⟩⟩)⟩, d_⟩
theorem rxgPLAYX_5_3 {X : (Nat → Int → Int) → Prop} {S0 : Nat → Int → Int} {ws : List Int} (hP : rxPPLAYX S0 ws) : bx_obC rxL X S0 rxC240.2.2.1 (rxIPLAYX S0 ws) (rxmPLAYX S0 ws) 5 rxzPLAYX_5 rxoPLAYX_5_3 := by
  intro S S_p r r_p hinv hX hin hsm_ hseg
  obtain ⟨I0, I1, h0_, hr_, b_, f_, d_⟩ := bx_cl (evs := [(0, (0, 480), (0, 14), .inr (0, (9, 0)))]) (fvs := [(3, (9, 0), (0, 0), (0, 0))]) hseg (by decide +kernel) (by decide +kernel)
  have hinv : rxIPLAYX_5 S0 ws S (r 8) := hinv
  rw [← hr_ 8 (by decide)] at hinv
  obtain ⟨⟨l8, u8⟩, ⟨l9, u9⟩, -⟩ := b_
  obtain ⟨f0, -⟩ := f_
  obtain ⟨e0, w_⟩ := d_
  subst w_
  have g := rxcPLAYX_5_3 hP hin I0 hinv l8 u8 l9 u9 f0 e0
  refine ⟨bx_narP_ok (l := []) g.1, bx_nfP_ok h0_ (fvs := []) (by decide +kernel) g.2.1, ?_, ?_⟩
  · show rxIPLAYX_10 S0 ws S_p (bx_val [(0, 0), (0, 0), (0, 0), (0, 0), (0, 0), (0, 0), (0, 0), (0, 0), (8, 0)] r_p 8)
    rw [bx_val_x (n := 8) (e := (8, 0)) h0_ rfl]
    exact g.2.2.1
  · show rxmPLAYX_10 S0 ws S_p (bx_val [(0, 0), (0, 0), (0, 0), (0, 0), (0, 0), (0, 0), (0, 0), (0, 0), (8, 0)] r_p 8) < rxmPLAYX_5 S0 ws S_p (r 8)
    rw [bx_val_x (n := 8) (e := (8, 0)) h0_ rfl, ← hr_ 8 (by decide)]
    exact g.2.2.2
theorem rxcPLAYX_7_0 {S0 : Nat → Int → Int} {ws : List Int} {S : Nat → Int → Int} {part : Int} (hP : rxPPLAYX S0 ws) (hin : bx_same rxL (bx_mdl rxC240.2.2.1) S0 S) (I0 : bx_Inv rxL S) (hinv : rxIPLAYX_7 S0 ws S part) (l8 : 0 ≤ part) (u8 : part ≤ 5) : (True) ∧ (True) ∧ rxIPLAYX_8 S0 ws S part ∧ rxmPLAYX_8 S0 ws S part < rxmPLAYX_7 S0 ws S part := by
  obtain ⟨hI, hx⟩ := hinv
  obtain ⟨a_, b_, c_, d_⟩ := rxc240_7_0 hP hin I0 hI l8 u8
  exact ⟨a_, b_, ⟨c_, (by
    obtain ⟨hpt, hx⟩ := hx
    exact ⟨hpt, hx⟩)⟩, d_⟩
theorem rxgPLAYX_7_0 {X : (Nat → Int → Int) → Prop} {S0 : Nat → Int → Int} {ws : List Int} (hP : rxPPLAYX S0 ws) : bx_obC rxL X S0 rxC240.2.2.1 (rxIPLAYX S0 ws) (rxmPLAYX S0 ws) 7 rxzPLAYX_7 rxoPLAYX_7_0 := by
  intro S S_p r r_p hinv hX hin hsm_ hseg
  obtain ⟨I0, I1, h0_, hr_, b_, f_, d_⟩ := bx_cl (evs := []) (fvs := []) hseg (by decide +kernel) (by decide +kernel)
  have hinv : rxIPLAYX_7 S0 ws S (r 8) := hinv
  rw [← hr_ 8 (by decide)] at hinv
  obtain ⟨⟨l8, u8⟩, -⟩ := b_
  have w_ := d_
  subst w_
  have g := rxcPLAYX_7_0 hP hin I0 hinv l8 u8
  refine ⟨bx_narP_ok (l := []) g.1, bx_nfP_ok h0_ (fvs := []) (by decide +kernel) g.2.1, ?_, ?_⟩
  · show rxIPLAYX_8 S0 ws S_p (bx_val [(0, 0), (0, 0), (0, 0), (0, 0), (0, 0), (0, 0), (0, 0), (0, 0), (8, 0)] r_p 8)
    rw [bx_val_x (n := 8) (e := (8, 0)) h0_ rfl]
    exact g.2.2.1
  · show rxmPLAYX_8 S0 ws S_p (bx_val [(0, 0), (0, 0), (0, 0), (0, 0), (0, 0), (0, 0), (0, 0), (0, 0), (8, 0)] r_p 8) < rxmPLAYX_7 S0 ws S_p (r 8)
    rw [bx_val_x (n := 8) (e := (8, 0)) h0_ rfl, ← hr_ 8 (by decide)]
    exact g.2.2.2
theorem rxcPLAYX_9_0 {S0 : Nat → Int → Int} {ws : List Int} {S : Nat → Int → Int} {part : Int} (hP : rxPPLAYX S0 ws) (hin : bx_same rxL (bx_mdl rxC240.2.2.1) S0 S) (I0 : bx_Inv rxL S) (hinv : rxIPLAYX_9 S0 ws S part) (l8 : 0 ≤ part) (u8 : part ≤ 5) : (True) ∧ (True) ∧ rxIPLAYX_5 S0 ws S part ∧ rxmPLAYX_5 S0 ws S part < rxmPLAYX_9 S0 ws S part := by
  obtain ⟨hI, hx⟩ := hinv
  obtain ⟨a_, b_, c_, d_⟩ := rxc240_9_0 hP hin I0 hI l8 u8
  exact ⟨a_, b_, ⟨c_, (by
    obtain ⟨hpt, hx⟩ := hx
    exact ⟨hpt, hx⟩)⟩, d_⟩
theorem rxgPLAYX_9_0 {X : (Nat → Int → Int) → Prop} {S0 : Nat → Int → Int} {ws : List Int} (hP : rxPPLAYX S0 ws) : bx_obC rxL X S0 rxC240.2.2.1 (rxIPLAYX S0 ws) (rxmPLAYX S0 ws) 9 rxzPLAYX_9 rxoPLAYX_9_0 := by
  intro S S_p r r_p hinv hX hin hsm_ hseg
  obtain ⟨I0, I1, h0_, hr_, b_, f_, d_⟩ := bx_cl (evs := []) (fvs := []) hseg (by decide +kernel) (by decide +kernel)
  have hinv : rxIPLAYX_9 S0 ws S (r 8) := hinv
  rw [← hr_ 8 (by decide)] at hinv
  obtain ⟨⟨l8, u8⟩, -⟩ := b_
  have w_ := d_
  subst w_
  have g := rxcPLAYX_9_0 hP hin I0 hinv l8 u8
  refine ⟨bx_narP_ok (l := []) g.1, bx_nfP_ok h0_ (fvs := []) (by decide +kernel) g.2.1, ?_, ?_⟩
  · show rxIPLAYX_5 S0 ws S_p (bx_val [(0, 0), (0, 0), (0, 0), (0, 0), (0, 0), (0, 0), (0, 0), (0, 0), (8, 0)] r_p 8)
    rw [bx_val_x (n := 8) (e := (8, 0)) h0_ rfl]
    exact g.2.2.1
  · show rxmPLAYX_5 S0 ws S_p (bx_val [(0, 0), (0, 0), (0, 0), (0, 0), (0, 0), (0, 0), (0, 0), (0, 0), (8, 0)] r_p 8) < rxmPLAYX_9 S0 ws S_p (r 8)
    rw [bx_val_x (n := 8) (e := (8, 0)) h0_ rfl, ← hr_ 8 (by decide)]
    exact g.2.2.2
theorem rxcPLAYX_11_0 {S0 : Nat → Int → Int} {ws : List Int} {S : Nat → Int → Int} {part x9 : Int} (hP : rxPPLAYX S0 ws) (hin : bx_same rxL (bx_mdl rxC240.2.2.1) S0 S) (I0 : bx_Inv rxL S) (hinv : rxIPLAYX_11 S0 ws S part) (l8 : 0 ≤ part) (u8 : part ≤ 5) (l9 : 0 ≤ x9) (u9 : x9 ≤ 0) (e1 : S 480 14 = x9) : (True) ∧ (True) ∧ rxIPLAYX_12 S0 ws (bx_up S 480 15 1) part 0 0 ∧ rxmPLAYX_12 S0 ws (bx_up S 480 15 1) part 0 0 < rxmPLAYX_11 S0 ws S part := by
  obtain ⟨hI, hx⟩ := hinv
  obtain ⟨a_, b_, c_, d_⟩ := rxc240_11_0 hP hin I0 hI l8 u8 l9 u9 e1
  exact ⟨a_, b_, ⟨c_, (by
    obtain ⟨⟨h1, h2, h3⟩, hx, h8⟩ := hx
    refine ⟨h1, h2, h3, fun c => ?_, ((bx_up_ne (by omega))).trans h8⟩
    obtain ⟨r, r1, r2⟩ := hx c
    rcases r2 with v | v
    · exact ⟨r, r1, v.2.1, ((bx_up_ne (by omega))).trans v.2.2⟩
    · omega)⟩, d_⟩
theorem rxgPLAYX_11_0 {X : (Nat → Int → Int) → Prop} {S0 : Nat → Int → Int} {ws : List Int} (hP : rxPPLAYX S0 ws) : bx_obC rxL X S0 rxC240.2.2.1 (rxIPLAYX S0 ws) (rxmPLAYX S0 ws) 11 rxzPLAYX_11 rxoPLAYX_11_0 := by
  intro S S_p r r_p hinv hX hin hsm_ hseg
  obtain ⟨I0, I1, h0_, hr_, b_, f_, d_⟩ := bx_cl (evs := [(1, (0, 480), (0, 15), .inr (0, (0, 1))), (0, (0, 480), (0, 14), .inr (0, (9, 0)))]) (fvs := []) hseg (by decide +kernel) (by decide +kernel)
  have hinv : rxIPLAYX_11 S0 ws S (r 8) := hinv
  rw [← hr_ 8 (by decide)] at hinv
  obtain ⟨⟨l8, u8⟩, ⟨l9, u9⟩, -⟩ := b_
  obtain ⟨T0, ⟨e1, w_⟩, w0⟩ := d_
  subst w0
  subst w_
  have g := rxcPLAYX_11_0 hP hin I0 hinv l8 u8 l9 u9 e1
  refine ⟨bx_narP_ok (l := []) g.1, bx_nfP_ok h0_ (fvs := []) (by decide +kernel) g.2.1, ?_, ?_⟩
  · show rxIPLAYX_12 S0 ws (bx_up T0 480 (15) (1)) (bx_val [(0, 0), (0, 0), (0, 0), (0, 0), (0, 0), (0, 0), (0, 0), (0, 0), (8, 0), (0, 0), (0, 0)] r_p 8) (bx_val [(0, 0), (0, 0), (0, 0), (0, 0), (0, 0), (0, 0), (0, 0), (0, 0), (8, 0), (0, 0), (0, 0)] r_p 9) (bx_val [(0, 0), (0, 0), (0, 0), (0, 0), (0, 0), (0, 0), (0, 0), (0, 0), (8, 0), (0, 0), (0, 0)] r_p 10)
    rw [bx_val_x (n := 8) (e := (8, 0)) h0_ rfl, bx_val_x (n := 9) (e := (0, 0)) h0_ rfl, bx_val_x (n := 10) (e := (0, 0)) h0_ rfl]
    exact g.2.2.1
  · show rxmPLAYX_12 S0 ws (bx_up T0 480 (15) (1)) (bx_val [(0, 0), (0, 0), (0, 0), (0, 0), (0, 0), (0, 0), (0, 0), (0, 0), (8, 0), (0, 0), (0, 0)] r_p 8) (bx_val [(0, 0), (0, 0), (0, 0), (0, 0), (0, 0), (0, 0), (0, 0), (0, 0), (8, 0), (0, 0), (0, 0)] r_p 9) (bx_val [(0, 0), (0, 0), (0, 0), (0, 0), (0, 0), (0, 0), (0, 0), (0, 0), (8, 0), (0, 0), (0, 0)] r_p 10) < rxmPLAYX_11 S0 ws T0 (r 8)
    rw [bx_val_x (n := 8) (e := (8, 0)) h0_ rfl, bx_val_x (n := 9) (e := (0, 0)) h0_ rfl, bx_val_x (n := 10) (e := (0, 0)) h0_ rfl, ← hr_ 8 (by decide)]
    exact g.2.2.2
theorem rxdPLAYX_11_0 {S0 : Nat → Int → Int} {ws : List Int} {S : Nat → Int → Int} {part x9 x10 x11 : Int} (hP : rxPPLAYX S0 ws) (hin : bx_same rxL (bx_mdl rxC240.2.2.1) S0 S) (hin2 : bx_same rxL (bx_mdl rxC240.2.2.1) S (bx_up (bx_up S 480 1 ((-6))) 481 6 x11)) (I0 : bx_Inv rxL S) (I1 : bx_Inv rxL (bx_up (bx_up S 480 1 ((-6))) 481 6 x11)) (hinv : rxIPLAYX_11 S0 ws S part) (l8 : 0 ≤ part) (u8 : part ≤ 5) (l9 : 1 ≤ x9) (u9 : x9 ≤ 1) (l10 : (-2147483648) ≤ x10) (u10 : x10 ≤ 2147483647) (l11 : (-2147483648) ≤ x11) (u11 : x11 ≤ 2147483647) (f0 : x9 ≠ 0) (e3 : S 480 14 = x9) (e1 : (bx_up S 480 1 ((-6))) 481 6 = x10) : (True) ∧ rxPSPLAYX S0 ws (bx_up (bx_up S 480 1 ((-6))) 481 6 x11) (some ((-6))) := by
  obtain ⟨hI, hx⟩ := hinv
  obtain ⟨a_, c_⟩ := rxd240_11_0 hP hin hin2 I0 I1 hI l8 u8 l9 u9 l10 u10 l11 u11 f0 e3 e1
  exact ⟨a_, c_, (fun c => by
    obtain ⟨⟨h1, h2, h3⟩, hx, h8⟩ := hx
    obtain ⟨r, r1, r2⟩ := hx c
    refine ⟨part, h1, Or.inr ⟨h2, h3, ((bx_up_ne (by omega)).trans ((bx_up_ne (by omega)))).trans h8, r, r1, ?_⟩⟩
    rcases r2 with v | v
    · omega
    · exact Or.inr ⟨v.2.1, ((bx_up_ne (by omega)).trans ((bx_up_ne (by omega)))).trans v.2.2⟩)⟩
theorem rxfPLAYX_11_0 {X : (Nat → Int → Int) → Prop} {S0 : Nat → Int → Int} {ws : List Int} (hP : rxPPLAYX S0 ws) : bx_obE rxL X S0 rxC240.2.2.1 (rxIPLAYX S0 ws) (rxPSPLAYX S0 ws) 11 rxzPLAYX_11 rxePLAYX_11_0 := by
  intro S S_p r r_p hinv hX hin hsm_ hseg
  obtain ⟨I0, I1, h0_, hr_, b_, f_, d_⟩ := bx_cl (evs := [(1, (0, 481), (0, 6), .inr (0, (11, 0))), (0, (0, 481), (0, 6), .inr (0, (10, 0))), (1, (0, 480), (0, 1), .inr (0, (0, (-6)))), (0, (0, 480), (0, 14), .inr (0, (9, 0)))]) (fvs := [(3, (9, 0), (0, 0), (0, 0))]) hseg (by decide +kernel) (by decide +kernel)
  have hinv : rxIPLAYX_11 S0 ws S (r 8) := hinv
  rw [← hr_ 8 (by decide)] at hinv
  obtain ⟨⟨l8, u8⟩, ⟨l9, u9⟩, ⟨l10, u10⟩, ⟨l11, u11⟩, -⟩ := b_
  obtain ⟨f0, -⟩ := f_
  obtain ⟨T0, ⟨e1, ⟨T2, ⟨e3, w_⟩, w2⟩⟩, w0⟩ := d_
  subst w0
  subst w2
  subst w_
  have g := rxdPLAYX_11_0 hP hin hsm_ I0 I1 hinv l8 u8 l9 u9 l10 u10 l11 u11 f0 e3 e1
  refine ⟨bx_narP_ok (l := []) g.1, ?_⟩
  show rxPSPLAYX S0 ws (bx_up (bx_up T2 480 (1) ((-6))) 481 (6) (r_p 11)) (some (bx_num r_p (.inr (0, (0, (-6))))))
  rw [bx_xv_ok h0_]
  exact g.2
theorem rxcPLAYX_12_0 {S0 : Nat → Int → Int} {ws : List Int} {S : Nat → Int → Int} {part n at_ x11 x12 : Int} (hP : rxPPLAYX S0 ws) (hin : bx_same rxL (bx_mdl rxC240.2.2.1) S0 S) (I0 : bx_Inv rxL S) (hinv : rxIPLAYX_12 S0 ws S part n at_) (l8 : 0 ≤ part) (u8 : part ≤ 5) (l9 : 0 ≤ n) (u9 : n ≤ 432) (l10 : 0 ≤ at_) (u10 : at_ ≤ 119) (l11 : 0 ≤ x11) (u11 : x11 ≤ 12) (l12 : 1 ≤ x12) (u12 : x12 ≤ 120) (f0 : at_ < x12) (f1 : x12 = 10 * (x11)) (e0 : S 480 16 = x11) : ((0 ≤ at_ ∧ at_ ≤ 110) ∧ True) ∧ (True) ∧ rxIPLAYX_13 S0 ws S part n at_ 0 ∧ rxmPLAYX_13 S0 ws S part n at_ 0 < rxmPLAYX_12 S0 ws S part n at_ := by
  obtain ⟨hI, hx⟩ := hinv
  obtain ⟨a_, b_, c_, d_⟩ := rxc240_12_0 hP hin I0 hI l8 u8 l9 u9 l10 u10 l11 u11 l12 u12 f0 f1 e0
  exact ⟨a_, b_, ⟨c_, hx⟩, d_⟩
theorem rxgPLAYX_12_0 {X : (Nat → Int → Int) → Prop} {S0 : Nat → Int → Int} {ws : List Int} (hP : rxPPLAYX S0 ws) : bx_obC rxL X S0 rxC240.2.2.1 (rxIPLAYX S0 ws) (rxmPLAYX S0 ws) 12 rxzPLAYX_12 rxoPLAYX_12_0 := by
  intro S S_p r r_p hinv hX hin hsm_ hseg
  obtain ⟨I0, I1, h0_, hr_, b_, f_, d_⟩ := bx_cl (evs := [(0, (0, 480), (0, 16), .inr (0, (11, 0)))]) (fvs := [(0, (10, 0), (12, 0), (0, 0)), (4, (12, 0), (11, 0), (0, 10))]) hseg (by decide +kernel) (by decide +kernel)
  have hinv : rxIPLAYX_12 S0 ws S (r 8) (r 9) (r 10) := hinv
  rw [← hr_ 8 (by decide), ← hr_ 9 (by decide), ← hr_ 10 (by decide)] at hinv
  obtain ⟨⟨l8, u8⟩, ⟨l9, u9⟩, ⟨l10, u10⟩, ⟨l11, u11⟩, ⟨l12, u12⟩, -⟩ := b_
  obtain ⟨f0, f1, -⟩ := f_
  obtain ⟨e0, w_⟩ := d_
  subst w_
  have g := rxcPLAYX_12_0 hP hin I0 hinv l8 u8 l9 u9 l10 u10 l11 u11 l12 u12 f0 f1 e0
  refine ⟨bx_narP_ok (l := [(10, 0, 110)]) g.1, bx_nfP_ok h0_ (fvs := []) (by decide +kernel) g.2.1, ?_, ?_⟩
  · show rxIPLAYX_13 S0 ws S_p (bx_val [(0, 0), (0, 0), (0, 0), (0, 0), (0, 0), (0, 0), (0, 0), (0, 0), (8, 0), (9, 0), (10, 0), (0, 0)] r_p 8) (bx_val [(0, 0), (0, 0), (0, 0), (0, 0), (0, 0), (0, 0), (0, 0), (0, 0), (8, 0), (9, 0), (10, 0), (0, 0)] r_p 9) (bx_val [(0, 0), (0, 0), (0, 0), (0, 0), (0, 0), (0, 0), (0, 0), (0, 0), (8, 0), (9, 0), (10, 0), (0, 0)] r_p 10) (bx_val [(0, 0), (0, 0), (0, 0), (0, 0), (0, 0), (0, 0), (0, 0), (0, 0), (8, 0), (9, 0), (10, 0), (0, 0)] r_p 11)
    rw [bx_val_x (n := 8) (e := (8, 0)) h0_ rfl, bx_val_x (n := 9) (e := (9, 0)) h0_ rfl, bx_val_x (n := 10) (e := (10, 0)) h0_ rfl, bx_val_x (n := 11) (e := (0, 0)) h0_ rfl]
    exact g.2.2.1
  · show rxmPLAYX_13 S0 ws S_p (bx_val [(0, 0), (0, 0), (0, 0), (0, 0), (0, 0), (0, 0), (0, 0), (0, 0), (8, 0), (9, 0), (10, 0), (0, 0)] r_p 8) (bx_val [(0, 0), (0, 0), (0, 0), (0, 0), (0, 0), (0, 0), (0, 0), (0, 0), (8, 0), (9, 0), (10, 0), (0, 0)] r_p 9) (bx_val [(0, 0), (0, 0), (0, 0), (0, 0), (0, 0), (0, 0), (0, 0), (0, 0), (8, 0), (9, 0), (10, 0), (0, 0)] r_p 10) (bx_val [(0, 0), (0, 0), (0, 0), (0, 0), (0, 0), (0, 0), (0, 0), (0, 0), (8, 0), (9, 0), (10, 0), (0, 0)] r_p 11) < rxmPLAYX_12 S0 ws S_p (r 8) (r 9) (r 10)
    rw [bx_val_x (n := 8) (e := (8, 0)) h0_ rfl, bx_val_x (n := 9) (e := (9, 0)) h0_ rfl, bx_val_x (n := 10) (e := (10, 0)) h0_ rfl, bx_val_x (n := 11) (e := (0, 0)) h0_ rfl, ← hr_ 8 (by decide), ← hr_ 9 (by decide), ← hr_ 10 (by decide)]
    exact g.2.2.2
theorem rxdPLAYX_12_0 {S0 : Nat → Int → Int} {ws : List Int} {S : Nat → Int → Int} {part n at_ x11 x12 : Int} (hP : rxPPLAYX S0 ws) (hin : bx_same rxL (bx_mdl rxC240.2.2.1) S0 S) (hin2 : bx_same rxL (bx_mdl rxC240.2.2.1) S (bx_up (bx_up S 480 15 0) 480 1 0)) (I0 : bx_Inv rxL S) (I1 : bx_Inv rxL (bx_up (bx_up S 480 15 0) 480 1 0)) (hinv : rxIPLAYX_12 S0 ws S part n at_) (l8 : 0 ≤ part) (u8 : part ≤ 5) (l9 : 0 ≤ n) (u9 : n ≤ 432) (l10 : 0 ≤ at_) (u10 : at_ ≤ 120) (l11 : 0 ≤ x11) (u11 : x11 ≤ 12) (l12 : 0 ≤ x12) (u12 : x12 ≤ 120) (f0 : x12 ≤ at_) (f1 : x12 = 10 * (x11)) (e2 : S 480 16 = x11) : (True) ∧ rxPSPLAYX S0 ws (bx_up (bx_up S 480 15 0) 480 1 0) (some n) := by
  obtain ⟨hI, hx⟩ := hinv
  obtain ⟨a_, c_⟩ := rxd240_12_0 hP hin hin2 I0 I1 hI l8 u8 l9 u9 l10 u10 l11 u11 l12 u12 f0 f1 e2
  exact ⟨a_, c_, (fun c => by
    obtain ⟨h1, h2, h3, hx, h8⟩ := hx
    obtain ⟨r, r1, r2, r3⟩ := hx c
    exact ⟨part, h1, Or.inr ⟨h2, h3, ((bx_up_ne (by omega)).trans ((bx_up_ne (by omega)))).trans h8, r, r1, Or.inl ⟨r2, ((bx_up_ne (by omega)).trans ((bx_up_ne (by omega)))).trans r3⟩⟩⟩)⟩
theorem rxfPLAYX_12_0 {X : (Nat → Int → Int) → Prop} {S0 : Nat → Int → Int} {ws : List Int} (hP : rxPPLAYX S0 ws) : bx_obE rxL X S0 rxC240.2.2.1 (rxIPLAYX S0 ws) (rxPSPLAYX S0 ws) 12 rxzPLAYX_12 rxePLAYX_12_0 := by
  intro S S_p r r_p hinv hX hin hsm_ hseg
  obtain ⟨I0, I1, h0_, hr_, b_, f_, d_⟩ := bx_cl (evs := [(1, (0, 480), (0, 1), .inr (0, (0, 0))), (1, (0, 480), (0, 15), .inr (0, (0, 0))), (0, (0, 480), (0, 16), .inr (0, (11, 0)))]) (fvs := [(1, (12, 0), (10, 0), (0, 0)), (4, (12, 0), (11, 0), (0, 10))]) hseg (by decide +kernel) (by decide +kernel)
  have hinv : rxIPLAYX_12 S0 ws S (r 8) (r 9) (r 10) := hinv
  rw [← hr_ 8 (by decide), ← hr_ 9 (by decide), ← hr_ 10 (by decide)] at hinv
  obtain ⟨⟨l8, u8⟩, ⟨l9, u9⟩, ⟨l10, u10⟩, ⟨l11, u11⟩, ⟨l12, u12⟩, -⟩ := b_
  obtain ⟨f0, f1, -⟩ := f_
  obtain ⟨T0, ⟨T1, ⟨e2, w_⟩, w1⟩, w0⟩ := d_
  subst w0
  subst w1
  subst w_
  have g := rxdPLAYX_12_0 hP hin hsm_ I0 I1 hinv l8 u8 l9 u9 l10 u10 l11 u11 l12 u12 f0 f1 e2
  refine ⟨bx_narP_ok (l := []) g.1, ?_⟩
  show rxPSPLAYX S0 ws (bx_up (bx_up T1 480 (15) (0)) 480 (1) (0)) (some (bx_num r_p (.inr (0, (9, 0)))))
  rw [bx_xv_ok h0_]
  exact g.2
theorem rxcPLAYX_13_0 {S0 : Nat → Int → Int} {ws : List Int} {S : Nat → Int → Int} {part n at_ c x12 x13 x14 x15 x16 x17 x18 x19 : Int} (hP : rxPPLAYX S0 ws) (hin : bx_same rxL (bx_mdl rxC240.2.2.1) S0 S) (I0 : bx_Inv rxL S) (hinv : rxIPLAYX_13 S0 ws S part n at_ c) (l8 : 0 ≤ part) (u8 : part ≤ 5) (l9 : 0 ≤ n) (u9 : n ≤ 432) (l10 : 0 ≤ at_) (u10 : at_ ≤ 110) (l11 : 0 ≤ c) (u11 : c ≤ 35) (l12 : (-2147483648) ≤ x12) (u12 : x12 ≤ 2147483647) (l13 : 0 ≤ x13) (u13 : x13 ≤ 5) (l14 : 0 ≤ x14) (u14 : x14 ≤ 5) (l15 : (-2147483648) ≤ x15) (u15 : x15 ≤ 2147483647) (l16 : 0 ≤ x16) (u16 : x16 ≤ 5) (l17 : 0 ≤ x17) (u17 : x17 ≤ 5) (l18 : 0 ≤ x18) (u18 : x18 ≤ 5) (l19 : 0 ≤ x19) (u19 : x19 ≤ 5) (f0 : x16 = x17) (f1 : x15 ≠ (-1)) (f2 : x13 = x14) (f3 : x12 ≠ (-1)) (e3 : S 496 at_ = x12) (e2 : S 496 at_ = x13) (e1 : S 496 (at_ + 1) = x15) (e0 : S 496 (at_ + 1) = x16) : ((0 ≤ n ∧ n ≤ 431) ∧ True) ∧ (True) ∧ rxIPLAYX_14 S0 ws S part at_ c n at_ part x18 x19 ∧ rxmPLAYX_14 S0 ws S part at_ c n at_ part x18 x19 < rxmPLAYX_13 S0 ws S part n at_ c := by
  obtain ⟨hI, hx⟩ := hinv
  obtain ⟨a_, b_, c_, d_⟩ := rxc240_13_0 hP hin I0 hI l8 u8 l9 u9 l10 u10 l11 u11 l12 u12 l13 u13 l14 u14 l15 u15 l16 u16 l17 u17 l18 u18 l19 u19 f0 f1 f2 f3 e3 e2 e1 e0
  exact ⟨a_, b_, ⟨c_, hx⟩, d_⟩
theorem rxgPLAYX_13_0 {X : (Nat → Int → Int) → Prop} {S0 : Nat → Int → Int} {ws : List Int} (hP : rxPPLAYX S0 ws) : bx_obC rxL X S0 rxC240.2.2.1 (rxIPLAYX S0 ws) (rxmPLAYX S0 ws) 13 rxzPLAYX_13 rxoPLAYX_13_0 := by
  intro S S_p r r_p hinv hX hin hsm_ hseg
  obtain ⟨I0, I1, h0_, hr_, b_, f_, d_⟩ := bx_cl (evs := [(0, (0, 496), (10, 1), .inr (0, (16, 0))), (0, (0, 496), (10, 1), .inr (0, (15, 0))), (0, (0, 496), (10, 0), .inr (0, (13, 0))), (0, (0, 496), (10, 0), .inr (0, (12, 0)))]) (fvs := [(2, (16, 0), (17, 0), (0, 0)), (3, (15, 0), (0, (-1)), (0, 0)), (2, (13, 0), (14, 0), (0, 0)), (3, (12, 0), (0, (-1)), (0, 0))]) hseg (by decide +kernel) (by decide +kernel)
  have hinv : rxIPLAYX_13 S0 ws S (r 8) (r 9) (r 10) (r 11) := hinv
  rw [← hr_ 8 (by decide), ← hr_ 9 (by decide), ← hr_ 10 (by decide), ← hr_ 11 (by decide)] at hinv
  obtain ⟨⟨l8, u8⟩, ⟨l9, u9⟩, ⟨l10, u10⟩, ⟨l11, u11⟩, ⟨l12, u12⟩, ⟨l13, u13⟩, ⟨l14, u14⟩, ⟨l15, u15⟩, ⟨l16, u16⟩, ⟨l17, u17⟩, ⟨l18, u18⟩, ⟨l19, u19⟩, -⟩ := b_
  obtain ⟨f0, f1, f2, f3, -⟩ := f_
  obtain ⟨e0, ⟨e1, ⟨e2, ⟨e3, w_⟩⟩⟩⟩ := d_
  subst w_
  have g := rxcPLAYX_13_0 hP hin I0 hinv l8 u8 l9 u9 l10 u10 l11 u11 l12 u12 l13 u13 l14 u14 l15 u15 l16 u16 l17 u17 l18 u18 l19 u19 f0 f1 f2 f3 e3 e2 e1 e0
  refine ⟨bx_narP_ok (l := [(9, 0, 431)]) g.1, bx_nfP_ok h0_ (fvs := []) (by decide +kernel) g.2.1, ?_, ?_⟩
  · show rxIPLAYX_14 S0 ws S_p (bx_val [(0, 0), (0, 0), (0, 0), (0, 0), (0, 0), (0, 0), (0, 0), (0, 0), (8, 0), (10, 0), (11, 0), (9, 0), (10, 0), (8, 0), (18, 0), (19, 0)] r_p 8) (bx_val [(0, 0), (0, 0), (0, 0), (0, 0), (0, 0), (0, 0), (0, 0), (0, 0), (8, 0), (10, 0), (11, 0), (9, 0), (10, 0), (8, 0), (18, 0), (19, 0)] r_p 9) (bx_val [(0, 0), (0, 0), (0, 0), (0, 0), (0, 0), (0, 0), (0, 0), (0, 0), (8, 0), (10, 0), (11, 0), (9, 0), (10, 0), (8, 0), (18, 0), (19, 0)] r_p 10) (bx_val [(0, 0), (0, 0), (0, 0), (0, 0), (0, 0), (0, 0), (0, 0), (0, 0), (8, 0), (10, 0), (11, 0), (9, 0), (10, 0), (8, 0), (18, 0), (19, 0)] r_p 11) (bx_val [(0, 0), (0, 0), (0, 0), (0, 0), (0, 0), (0, 0), (0, 0), (0, 0), (8, 0), (10, 0), (11, 0), (9, 0), (10, 0), (8, 0), (18, 0), (19, 0)] r_p 12) (bx_val [(0, 0), (0, 0), (0, 0), (0, 0), (0, 0), (0, 0), (0, 0), (0, 0), (8, 0), (10, 0), (11, 0), (9, 0), (10, 0), (8, 0), (18, 0), (19, 0)] r_p 13) (bx_val [(0, 0), (0, 0), (0, 0), (0, 0), (0, 0), (0, 0), (0, 0), (0, 0), (8, 0), (10, 0), (11, 0), (9, 0), (10, 0), (8, 0), (18, 0), (19, 0)] r_p 14) (bx_val [(0, 0), (0, 0), (0, 0), (0, 0), (0, 0), (0, 0), (0, 0), (0, 0), (8, 0), (10, 0), (11, 0), (9, 0), (10, 0), (8, 0), (18, 0), (19, 0)] r_p 15)
    rw [bx_val_x (n := 8) (e := (8, 0)) h0_ rfl, bx_val_x (n := 9) (e := (10, 0)) h0_ rfl, bx_val_x (n := 10) (e := (11, 0)) h0_ rfl, bx_val_x (n := 11) (e := (9, 0)) h0_ rfl, bx_val_x (n := 12) (e := (10, 0)) h0_ rfl, bx_val_x (n := 13) (e := (8, 0)) h0_ rfl, bx_val_x (n := 14) (e := (18, 0)) h0_ rfl, bx_val_x (n := 15) (e := (19, 0)) h0_ rfl]
    exact g.2.2.1
  · show rxmPLAYX_14 S0 ws S_p (bx_val [(0, 0), (0, 0), (0, 0), (0, 0), (0, 0), (0, 0), (0, 0), (0, 0), (8, 0), (10, 0), (11, 0), (9, 0), (10, 0), (8, 0), (18, 0), (19, 0)] r_p 8) (bx_val [(0, 0), (0, 0), (0, 0), (0, 0), (0, 0), (0, 0), (0, 0), (0, 0), (8, 0), (10, 0), (11, 0), (9, 0), (10, 0), (8, 0), (18, 0), (19, 0)] r_p 9) (bx_val [(0, 0), (0, 0), (0, 0), (0, 0), (0, 0), (0, 0), (0, 0), (0, 0), (8, 0), (10, 0), (11, 0), (9, 0), (10, 0), (8, 0), (18, 0), (19, 0)] r_p 10) (bx_val [(0, 0), (0, 0), (0, 0), (0, 0), (0, 0), (0, 0), (0, 0), (0, 0), (8, 0), (10, 0), (11, 0), (9, 0), (10, 0), (8, 0), (18, 0), (19, 0)] r_p 11) (bx_val [(0, 0), (0, 0), (0, 0), (0, 0), (0, 0), (0, 0), (0, 0), (0, 0), (8, 0), (10, 0), (11, 0), (9, 0), (10, 0), (8, 0), (18, 0), (19, 0)] r_p 12) (bx_val [(0, 0), (0, 0), (0, 0), (0, 0), (0, 0), (0, 0), (0, 0), (0, 0), (8, 0), (10, 0), (11, 0), (9, 0), (10, 0), (8, 0), (18, 0), (19, 0)] r_p 13) (bx_val [(0, 0), (0, 0), (0, 0), (0, 0), (0, 0), (0, 0), (0, 0), (0, 0), (8, 0), (10, 0), (11, 0), (9, 0), (10, 0), (8, 0), (18, 0), (19, 0)] r_p 14) (bx_val [(0, 0), (0, 0), (0, 0), (0, 0), (0, 0), (0, 0), (0, 0), (0, 0), (8, 0), (10, 0), (11, 0), (9, 0), (10, 0), (8, 0), (18, 0), (19, 0)] r_p 15) < rxmPLAYX_13 S0 ws S_p (r 8) (r 9) (r 10) (r 11)
    rw [bx_val_x (n := 8) (e := (8, 0)) h0_ rfl, bx_val_x (n := 9) (e := (10, 0)) h0_ rfl, bx_val_x (n := 10) (e := (11, 0)) h0_ rfl, bx_val_x (n := 11) (e := (9, 0)) h0_ rfl, bx_val_x (n := 12) (e := (10, 0)) h0_ rfl, bx_val_x (n := 13) (e := (8, 0)) h0_ rfl, bx_val_x (n := 14) (e := (18, 0)) h0_ rfl, bx_val_x (n := 15) (e := (19, 0)) h0_ rfl, ← hr_ 8 (by decide), ← hr_ 9 (by decide), ← hr_ 10 (by decide), ← hr_ 11 (by decide)]
    exact g.2.2.2
theorem rxcPLAYX_13_1 {S0 : Nat → Int → Int} {ws : List Int} {S : Nat → Int → Int} {part n at_ c x12 x13 x14 x15 x16 x17 : Int} (hP : rxPPLAYX S0 ws) (hin : bx_same rxL (bx_mdl rxC240.2.2.1) S0 S) (I0 : bx_Inv rxL S) (hinv : rxIPLAYX_13 S0 ws S part n at_ c) (l8 : 0 ≤ part) (u8 : part ≤ 5) (l9 : 0 ≤ n) (u9 : n ≤ 432) (l10 : 0 ≤ at_) (u10 : at_ ≤ 110) (l11 : 0 ≤ c) (u11 : c ≤ 35) (l12 : (-2147483648) ≤ x12) (u12 : x12 ≤ 2147483647) (l13 : 0 ≤ x13) (u13 : x13 ≤ 5) (l14 : 0 ≤ x14) (u14 : x14 ≤ 5) (l15 : (-2147483648) ≤ x15) (u15 : x15 ≤ 2147483647) (l16 : (-2147483648) ≤ x16) (u16 : x16 ≤ 2147483647) (l17 : 0 ≤ x17) (u17 : x17 ≤ 5) (f0 : x16 ≠ x17) (f1 : x15 ≠ (-1)) (f2 : x13 = x14) (f3 : x12 ≠ (-1)) (e3 : S 496 at_ = x12) (e2 : S 496 at_ = x13) (e1 : S 496 (at_ + 1) = x15) (e0 : S 496 (at_ + 1) = x16) : (True) ∧ (True) ∧ rxIPLAYX_13 S0 ws S part n at_ (c + 1) ∧ rxmPLAYX_13 S0 ws S part n at_ (c + 1) < rxmPLAYX_13 S0 ws S part n at_ c := by
  obtain ⟨hI, hx⟩ := hinv
  obtain ⟨a_, b_, c_, d_⟩ := rxc240_13_1 hP hin I0 hI l8 u8 l9 u9 l10 u10 l11 u11 l12 u12 l13 u13 l14 u14 l15 u15 l16 u16 l17 u17 f0 f1 f2 f3 e3 e2 e1 e0
  exact ⟨a_, b_, ⟨c_, hx⟩, d_⟩
theorem rxgPLAYX_13_1 {X : (Nat → Int → Int) → Prop} {S0 : Nat → Int → Int} {ws : List Int} (hP : rxPPLAYX S0 ws) : bx_obC rxL X S0 rxC240.2.2.1 (rxIPLAYX S0 ws) (rxmPLAYX S0 ws) 13 rxzPLAYX_13 rxoPLAYX_13_1 := by
  intro S S_p r r_p hinv hX hin hsm_ hseg
  obtain ⟨I0, I1, h0_, hr_, b_, f_, d_⟩ := bx_cl (evs := [(0, (0, 496), (10, 1), .inr (0, (16, 0))), (0, (0, 496), (10, 1), .inr (0, (15, 0))), (0, (0, 496), (10, 0), .inr (0, (13, 0))), (0, (0, 496), (10, 0), .inr (0, (12, 0)))]) (fvs := [(3, (16, 0), (17, 0), (0, 0)), (3, (15, 0), (0, (-1)), (0, 0)), (2, (13, 0), (14, 0), (0, 0)), (3, (12, 0), (0, (-1)), (0, 0))]) hseg (by decide +kernel) (by decide +kernel)
  have hinv : rxIPLAYX_13 S0 ws S (r 8) (r 9) (r 10) (r 11) := hinv
  rw [← hr_ 8 (by decide), ← hr_ 9 (by decide), ← hr_ 10 (by decide), ← hr_ 11 (by decide)] at hinv
  obtain ⟨⟨l8, u8⟩, ⟨l9, u9⟩, ⟨l10, u10⟩, ⟨l11, u11⟩, ⟨l12, u12⟩, ⟨l13, u13⟩, ⟨l14, u14⟩, ⟨l15, u15⟩, ⟨l16, u16⟩, ⟨l17, u17⟩, -⟩ := b_
  obtain ⟨f0, f1, f2, f3, -⟩ := f_
  obtain ⟨e0, ⟨e1, ⟨e2, ⟨e3, w_⟩⟩⟩⟩ := d_
  subst w_
  have g := rxcPLAYX_13_1 hP hin I0 hinv l8 u8 l9 u9 l10 u10 l11 u11 l12 u12 l13 u13 l14 u14 l15 u15 l16 u16 l17 u17 f0 f1 f2 f3 e3 e2 e1 e0
  refine ⟨bx_narP_ok (l := []) g.1, bx_nfP_ok h0_ (fvs := []) (by decide +kernel) g.2.1, ?_, ?_⟩
  · show rxIPLAYX_13 S0 ws S_p (bx_val [(0, 0), (0, 0), (0, 0), (0, 0), (0, 0), (0, 0), (0, 0), (0, 0), (8, 0), (9, 0), (10, 0), (11, 1)] r_p 8) (bx_val [(0, 0), (0, 0), (0, 0), (0, 0), (0, 0), (0, 0), (0, 0), (0, 0), (8, 0), (9, 0), (10, 0), (11, 1)] r_p 9) (bx_val [(0, 0), (0, 0), (0, 0), (0, 0), (0, 0), (0, 0), (0, 0), (0, 0), (8, 0), (9, 0), (10, 0), (11, 1)] r_p 10) (bx_val [(0, 0), (0, 0), (0, 0), (0, 0), (0, 0), (0, 0), (0, 0), (0, 0), (8, 0), (9, 0), (10, 0), (11, 1)] r_p 11)
    rw [bx_val_x (n := 8) (e := (8, 0)) h0_ rfl, bx_val_x (n := 9) (e := (9, 0)) h0_ rfl, bx_val_x (n := 10) (e := (10, 0)) h0_ rfl, bx_val_x (n := 11) (e := (11, 1)) h0_ rfl]
    exact g.2.2.1
  · show rxmPLAYX_13 S0 ws S_p (bx_val [(0, 0), (0, 0), (0, 0), (0, 0), (0, 0), (0, 0), (0, 0), (0, 0), (8, 0), (9, 0), (10, 0), (11, 1)] r_p 8) (bx_val [(0, 0), (0, 0), (0, 0), (0, 0), (0, 0), (0, 0), (0, 0), (0, 0), (8, 0), (9, 0), (10, 0), (11, 1)] r_p 9) (bx_val [(0, 0), (0, 0), (0, 0), (0, 0), (0, 0), (0, 0), (0, 0), (0, 0), (8, 0), (9, 0), (10, 0), (11, 1)] r_p 10) (bx_val [(0, 0), (0, 0), (0, 0), (0, 0), (0, 0), (0, 0), (0, 0), (0, 0), (8, 0), (9, 0), (10, 0), (11, 1)] r_p 11) < rxmPLAYX_13 S0 ws S_p (r 8) (r 9) (r 10) (r 11)
    rw [bx_val_x (n := 8) (e := (8, 0)) h0_ rfl, bx_val_x (n := 9) (e := (9, 0)) h0_ rfl, bx_val_x (n := 10) (e := (10, 0)) h0_ rfl, bx_val_x (n := 11) (e := (11, 1)) h0_ rfl, ← hr_ 8 (by decide), ← hr_ 9 (by decide), ← hr_ 10 (by decide), ← hr_ 11 (by decide)]
    exact g.2.2.2
theorem rxcPLAYX_13_2 {S0 : Nat → Int → Int} {ws : List Int} {S : Nat → Int → Int} {part n at_ c x12 x13 x14 x15 x16 x17 : Int} (hP : rxPPLAYX S0 ws) (hin : bx_same rxL (bx_mdl rxC240.2.2.1) S0 S) (I0 : bx_Inv rxL S) (hinv : rxIPLAYX_13 S0 ws S part n at_ c) (l8 : 0 ≤ part) (u8 : part ≤ 5) (l9 : 0 ≤ n) (u9 : n ≤ 432) (l10 : 0 ≤ at_) (u10 : at_ ≤ 110) (l11 : 0 ≤ c) (u11 : c ≤ 35) (l12 : (-2147483648) ≤ x12) (u12 : x12 ≤ 2147483647) (l13 : 0 ≤ x13) (u13 : x13 ≤ 5) (l14 : 0 ≤ x14) (u14 : x14 ≤ 5) (l15 : (-1) ≤ x15) (u15 : x15 ≤ (-1)) (l16 : 0 ≤ x16) (u16 : x16 ≤ 5) (l17 : 0 ≤ x17) (u17 : x17 ≤ 5) (f0 : x13 = x14) (f1 : x12 ≠ (-1)) (e2 : S 496 at_ = x12) (e1 : S 496 at_ = x13) (e0 : S 496 (at_ + 1) = x15) : ((0 ≤ n ∧ n ≤ 431) ∧ True) ∧ (True) ∧ rxIPLAYX_14 S0 ws S part at_ c n at_ part x16 x17 ∧ rxmPLAYX_14 S0 ws S part at_ c n at_ part x16 x17 < rxmPLAYX_13 S0 ws S part n at_ c := by
  obtain ⟨hI, hx⟩ := hinv
  obtain ⟨a_, b_, c_, d_⟩ := rxc240_13_2 hP hin I0 hI l8 u8 l9 u9 l10 u10 l11 u11 l12 u12 l13 u13 l14 u14 l15 u15 l16 u16 l17 u17 f0 f1 e2 e1 e0
  exact ⟨a_, b_, ⟨c_, hx⟩, d_⟩
theorem rxgPLAYX_13_2 {X : (Nat → Int → Int) → Prop} {S0 : Nat → Int → Int} {ws : List Int} (hP : rxPPLAYX S0 ws) : bx_obC rxL X S0 rxC240.2.2.1 (rxIPLAYX S0 ws) (rxmPLAYX S0 ws) 13 rxzPLAYX_13 rxoPLAYX_13_2 := by
  intro S S_p r r_p hinv hX hin hsm_ hseg
  obtain ⟨I0, I1, h0_, hr_, b_, f_, d_⟩ := bx_cl (evs := [(0, (0, 496), (10, 1), .inr (0, (15, 0))), (0, (0, 496), (10, 0), .inr (0, (13, 0))), (0, (0, 496), (10, 0), .inr (0, (12, 0)))]) (fvs := [(2, (13, 0), (14, 0), (0, 0)), (3, (12, 0), (0, (-1)), (0, 0))]) hseg (by decide +kernel) (by decide +kernel)
  have hinv : rxIPLAYX_13 S0 ws S (r 8) (r 9) (r 10) (r 11) := hinv
  rw [← hr_ 8 (by decide), ← hr_ 9 (by decide), ← hr_ 10 (by decide), ← hr_ 11 (by decide)] at hinv
  obtain ⟨⟨l8, u8⟩, ⟨l9, u9⟩, ⟨l10, u10⟩, ⟨l11, u11⟩, ⟨l12, u12⟩, ⟨l13, u13⟩, ⟨l14, u14⟩, ⟨l15, u15⟩, ⟨l16, u16⟩, ⟨l17, u17⟩, -⟩ := b_
  obtain ⟨f0, f1, -⟩ := f_
  obtain ⟨e0, ⟨e1, ⟨e2, w_⟩⟩⟩ := d_
  subst w_
  have g := rxcPLAYX_13_2 hP hin I0 hinv l8 u8 l9 u9 l10 u10 l11 u11 l12 u12 l13 u13 l14 u14 l15 u15 l16 u16 l17 u17 f0 f1 e2 e1 e0
  refine ⟨bx_narP_ok (l := [(9, 0, 431)]) g.1, bx_nfP_ok h0_ (fvs := []) (by decide +kernel) g.2.1, ?_, ?_⟩
  · show rxIPLAYX_14 S0 ws S_p (bx_val [(0, 0), (0, 0), (0, 0), (0, 0), (0, 0), (0, 0), (0, 0), (0, 0), (8, 0), (10, 0), (11, 0), (9, 0), (10, 0), (8, 0), (16, 0), (17, 0)] r_p 8) (bx_val [(0, 0), (0, 0), (0, 0), (0, 0), (0, 0), (0, 0), (0, 0), (0, 0), (8, 0), (10, 0), (11, 0), (9, 0), (10, 0), (8, 0), (16, 0), (17, 0)] r_p 9) (bx_val [(0, 0), (0, 0), (0, 0), (0, 0), (0, 0), (0, 0), (0, 0), (0, 0), (8, 0), (10, 0), (11, 0), (9, 0), (10, 0), (8, 0), (16, 0), (17, 0)] r_p 10) (bx_val [(0, 0), (0, 0), (0, 0), (0, 0), (0, 0), (0, 0), (0, 0), (0, 0), (8, 0), (10, 0), (11, 0), (9, 0), (10, 0), (8, 0), (16, 0), (17, 0)] r_p 11) (bx_val [(0, 0), (0, 0), (0, 0), (0, 0), (0, 0), (0, 0), (0, 0), (0, 0), (8, 0), (10, 0), (11, 0), (9, 0), (10, 0), (8, 0), (16, 0), (17, 0)] r_p 12) (bx_val [(0, 0), (0, 0), (0, 0), (0, 0), (0, 0), (0, 0), (0, 0), (0, 0), (8, 0), (10, 0), (11, 0), (9, 0), (10, 0), (8, 0), (16, 0), (17, 0)] r_p 13) (bx_val [(0, 0), (0, 0), (0, 0), (0, 0), (0, 0), (0, 0), (0, 0), (0, 0), (8, 0), (10, 0), (11, 0), (9, 0), (10, 0), (8, 0), (16, 0), (17, 0)] r_p 14) (bx_val [(0, 0), (0, 0), (0, 0), (0, 0), (0, 0), (0, 0), (0, 0), (0, 0), (8, 0), (10, 0), (11, 0), (9, 0), (10, 0), (8, 0), (16, 0), (17, 0)] r_p 15)
    rw [bx_val_x (n := 8) (e := (8, 0)) h0_ rfl, bx_val_x (n := 9) (e := (10, 0)) h0_ rfl, bx_val_x (n := 10) (e := (11, 0)) h0_ rfl, bx_val_x (n := 11) (e := (9, 0)) h0_ rfl, bx_val_x (n := 12) (e := (10, 0)) h0_ rfl, bx_val_x (n := 13) (e := (8, 0)) h0_ rfl, bx_val_x (n := 14) (e := (16, 0)) h0_ rfl, bx_val_x (n := 15) (e := (17, 0)) h0_ rfl]
    exact g.2.2.1
  · show rxmPLAYX_14 S0 ws S_p (bx_val [(0, 0), (0, 0), (0, 0), (0, 0), (0, 0), (0, 0), (0, 0), (0, 0), (8, 0), (10, 0), (11, 0), (9, 0), (10, 0), (8, 0), (16, 0), (17, 0)] r_p 8) (bx_val [(0, 0), (0, 0), (0, 0), (0, 0), (0, 0), (0, 0), (0, 0), (0, 0), (8, 0), (10, 0), (11, 0), (9, 0), (10, 0), (8, 0), (16, 0), (17, 0)] r_p 9) (bx_val [(0, 0), (0, 0), (0, 0), (0, 0), (0, 0), (0, 0), (0, 0), (0, 0), (8, 0), (10, 0), (11, 0), (9, 0), (10, 0), (8, 0), (16, 0), (17, 0)] r_p 10) (bx_val [(0, 0), (0, 0), (0, 0), (0, 0), (0, 0), (0, 0), (0, 0), (0, 0), (8, 0), (10, 0), (11, 0), (9, 0), (10, 0), (8, 0), (16, 0), (17, 0)] r_p 11) (bx_val [(0, 0), (0, 0), (0, 0), (0, 0), (0, 0), (0, 0), (0, 0), (0, 0), (8, 0), (10, 0), (11, 0), (9, 0), (10, 0), (8, 0), (16, 0), (17, 0)] r_p 12) (bx_val [(0, 0), (0, 0), (0, 0), (0, 0), (0, 0), (0, 0), (0, 0), (0, 0), (8, 0), (10, 0), (11, 0), (9, 0), (10, 0), (8, 0), (16, 0), (17, 0)] r_p 13) (bx_val [(0, 0), (0, 0), (0, 0), (0, 0), (0, 0), (0, 0), (0, 0), (0, 0), (8, 0), (10, 0), (11, 0), (9, 0), (10, 0), (8, 0), (16, 0), (17, 0)] r_p 14) (bx_val [(0, 0), (0, 0), (0, 0), (0, 0), (0, 0), (0, 0), (0, 0), (0, 0), (8, 0), (10, 0), (11, 0), (9, 0), (10, 0), (8, 0), (16, 0), (17, 0)] r_p 15) < rxmPLAYX_13 S0 ws S_p (r 8) (r 9) (r 10) (r 11)
    rw [bx_val_x (n := 8) (e := (8, 0)) h0_ rfl, bx_val_x (n := 9) (e := (10, 0)) h0_ rfl, bx_val_x (n := 10) (e := (11, 0)) h0_ rfl, bx_val_x (n := 11) (e := (9, 0)) h0_ rfl, bx_val_x (n := 12) (e := (10, 0)) h0_ rfl, bx_val_x (n := 13) (e := (8, 0)) h0_ rfl, bx_val_x (n := 14) (e := (16, 0)) h0_ rfl, bx_val_x (n := 15) (e := (17, 0)) h0_ rfl, ← hr_ 8 (by decide), ← hr_ 9 (by decide), ← hr_ 10 (by decide), ← hr_ 11 (by decide)]
    exact g.2.2.2
theorem rxcPLAYX_13_3 {S0 : Nat → Int → Int} {ws : List Int} {S : Nat → Int → Int} {part n at_ c x12 x13 x14 : Int} (hP : rxPPLAYX S0 ws) (hin : bx_same rxL (bx_mdl rxC240.2.2.1) S0 S) (I0 : bx_Inv rxL S) (hinv : rxIPLAYX_13 S0 ws S part n at_ c) (l8 : 0 ≤ part) (u8 : part ≤ 5) (l9 : 0 ≤ n) (u9 : n ≤ 432) (l10 : 0 ≤ at_) (u10 : at_ ≤ 110) (l11 : 0 ≤ c) (u11 : c ≤ 35) (l12 : (-2147483648) ≤ x12) (u12 : x12 ≤ 2147483647) (l13 : (-2147483648) ≤ x13) (u13 : x13 ≤ 2147483647) (l14 : 0 ≤ x14) (u14 : x14 ≤ 5) (f0 : x13 ≠ x14) (f1 : x12 ≠ (-1)) (e1 : S 496 at_ = x12) (e0 : S 496 at_ = x13) : (True) ∧ (True) ∧ rxIPLAYX_13 S0 ws S part n at_ (c + 1) ∧ rxmPLAYX_13 S0 ws S part n at_ (c + 1) < rxmPLAYX_13 S0 ws S part n at_ c := by
  obtain ⟨hI, hx⟩ := hinv
  obtain ⟨a_, b_, c_, d_⟩ := rxc240_13_3 hP hin I0 hI l8 u8 l9 u9 l10 u10 l11 u11 l12 u12 l13 u13 l14 u14 f0 f1 e1 e0
  exact ⟨a_, b_, ⟨c_, hx⟩, d_⟩
theorem rxgPLAYX_13_3 {X : (Nat → Int → Int) → Prop} {S0 : Nat → Int → Int} {ws : List Int} (hP : rxPPLAYX S0 ws) : bx_obC rxL X S0 rxC240.2.2.1 (rxIPLAYX S0 ws) (rxmPLAYX S0 ws) 13 rxzPLAYX_13 rxoPLAYX_13_3 := by
  intro S S_p r r_p hinv hX hin hsm_ hseg
  obtain ⟨I0, I1, h0_, hr_, b_, f_, d_⟩ := bx_cl (evs := [(0, (0, 496), (10, 0), .inr (0, (13, 0))), (0, (0, 496), (10, 0), .inr (0, (12, 0)))]) (fvs := [(3, (13, 0), (14, 0), (0, 0)), (3, (12, 0), (0, (-1)), (0, 0))]) hseg (by decide +kernel) (by decide +kernel)
  have hinv : rxIPLAYX_13 S0 ws S (r 8) (r 9) (r 10) (r 11) := hinv
  rw [← hr_ 8 (by decide), ← hr_ 9 (by decide), ← hr_ 10 (by decide), ← hr_ 11 (by decide)] at hinv
  obtain ⟨⟨l8, u8⟩, ⟨l9, u9⟩, ⟨l10, u10⟩, ⟨l11, u11⟩, ⟨l12, u12⟩, ⟨l13, u13⟩, ⟨l14, u14⟩, -⟩ := b_
  obtain ⟨f0, f1, -⟩ := f_
  obtain ⟨e0, ⟨e1, w_⟩⟩ := d_
  subst w_
  have g := rxcPLAYX_13_3 hP hin I0 hinv l8 u8 l9 u9 l10 u10 l11 u11 l12 u12 l13 u13 l14 u14 f0 f1 e1 e0
  refine ⟨bx_narP_ok (l := []) g.1, bx_nfP_ok h0_ (fvs := []) (by decide +kernel) g.2.1, ?_, ?_⟩
  · show rxIPLAYX_13 S0 ws S_p (bx_val [(0, 0), (0, 0), (0, 0), (0, 0), (0, 0), (0, 0), (0, 0), (0, 0), (8, 0), (9, 0), (10, 0), (11, 1)] r_p 8) (bx_val [(0, 0), (0, 0), (0, 0), (0, 0), (0, 0), (0, 0), (0, 0), (0, 0), (8, 0), (9, 0), (10, 0), (11, 1)] r_p 9) (bx_val [(0, 0), (0, 0), (0, 0), (0, 0), (0, 0), (0, 0), (0, 0), (0, 0), (8, 0), (9, 0), (10, 0), (11, 1)] r_p 10) (bx_val [(0, 0), (0, 0), (0, 0), (0, 0), (0, 0), (0, 0), (0, 0), (0, 0), (8, 0), (9, 0), (10, 0), (11, 1)] r_p 11)
    rw [bx_val_x (n := 8) (e := (8, 0)) h0_ rfl, bx_val_x (n := 9) (e := (9, 0)) h0_ rfl, bx_val_x (n := 10) (e := (10, 0)) h0_ rfl, bx_val_x (n := 11) (e := (11, 1)) h0_ rfl]
    exact g.2.2.1
  · show rxmPLAYX_13 S0 ws S_p (bx_val [(0, 0), (0, 0), (0, 0), (0, 0), (0, 0), (0, 0), (0, 0), (0, 0), (8, 0), (9, 0), (10, 0), (11, 1)] r_p 8) (bx_val [(0, 0), (0, 0), (0, 0), (0, 0), (0, 0), (0, 0), (0, 0), (0, 0), (8, 0), (9, 0), (10, 0), (11, 1)] r_p 9) (bx_val [(0, 0), (0, 0), (0, 0), (0, 0), (0, 0), (0, 0), (0, 0), (0, 0), (8, 0), (9, 0), (10, 0), (11, 1)] r_p 10) (bx_val [(0, 0), (0, 0), (0, 0), (0, 0), (0, 0), (0, 0), (0, 0), (0, 0), (8, 0), (9, 0), (10, 0), (11, 1)] r_p 11) < rxmPLAYX_13 S0 ws S_p (r 8) (r 9) (r 10) (r 11)
    rw [bx_val_x (n := 8) (e := (8, 0)) h0_ rfl, bx_val_x (n := 9) (e := (9, 0)) h0_ rfl, bx_val_x (n := 10) (e := (10, 0)) h0_ rfl, bx_val_x (n := 11) (e := (11, 1)) h0_ rfl, ← hr_ 8 (by decide), ← hr_ 9 (by decide), ← hr_ 10 (by decide), ← hr_ 11 (by decide)]
    exact g.2.2.2
theorem rxcPLAYX_13_4 {S0 : Nat → Int → Int} {ws : List Int} {S : Nat → Int → Int} {part n at_ c x12 x13 x14 x15 x16 x17 : Int} (hP : rxPPLAYX S0 ws) (hin : bx_same rxL (bx_mdl rxC240.2.2.1) S0 S) (I0 : bx_Inv rxL S) (hinv : rxIPLAYX_13 S0 ws S part n at_ c) (l8 : 0 ≤ part) (u8 : part ≤ 5) (l9 : 0 ≤ n) (u9 : n ≤ 432) (l10 : 0 ≤ at_) (u10 : at_ ≤ 110) (l11 : 0 ≤ c) (u11 : c ≤ 35) (l12 : (-1) ≤ x12) (u12 : x12 ≤ (-1)) (l13 : (-2147483648) ≤ x13) (u13 : x13 ≤ 2147483647) (l14 : 0 ≤ x14) (u14 : x14 ≤ 5) (l15 : 0 ≤ x15) (u15 : x15 ≤ 5) (l16 : 0 ≤ x16) (u16 : x16 ≤ 5) (l17 : 0 ≤ x17) (u17 : x17 ≤ 5) (f0 : x14 = x15) (f1 : x13 ≠ (-1)) (e2 : S 496 at_ = x12) (e1 : S 496 (at_ + 1) = x13) (e0 : S 496 (at_ + 1) = x14) : ((0 ≤ n ∧ n ≤ 431) ∧ True) ∧ (True) ∧ rxIPLAYX_14 S0 ws S part at_ c n at_ part x16 x17 ∧ rxmPLAYX_14 S0 ws S part at_ c n at_ part x16 x17 < rxmPLAYX_13 S0 ws S part n at_ c := by
  obtain ⟨hI, hx⟩ := hinv
  obtain ⟨a_, b_, c_, d_⟩ := rxc240_13_4 hP hin I0 hI l8 u8 l9 u9 l10 u10 l11 u11 l12 u12 l13 u13 l14 u14 l15 u15 l16 u16 l17 u17 f0 f1 e2 e1 e0
  exact ⟨a_, b_, ⟨c_, hx⟩, d_⟩
theorem rxgPLAYX_13_4 {X : (Nat → Int → Int) → Prop} {S0 : Nat → Int → Int} {ws : List Int} (hP : rxPPLAYX S0 ws) : bx_obC rxL X S0 rxC240.2.2.1 (rxIPLAYX S0 ws) (rxmPLAYX S0 ws) 13 rxzPLAYX_13 rxoPLAYX_13_4 := by
  intro S S_p r r_p hinv hX hin hsm_ hseg
  obtain ⟨I0, I1, h0_, hr_, b_, f_, d_⟩ := bx_cl (evs := [(0, (0, 496), (10, 1), .inr (0, (14, 0))), (0, (0, 496), (10, 1), .inr (0, (13, 0))), (0, (0, 496), (10, 0), .inr (0, (12, 0)))]) (fvs := [(2, (14, 0), (15, 0), (0, 0)), (3, (13, 0), (0, (-1)), (0, 0))]) hseg (by decide +kernel) (by decide +kernel)
  have hinv : rxIPLAYX_13 S0 ws S (r 8) (r 9) (r 10) (r 11) := hinv
  rw [← hr_ 8 (by decide), ← hr_ 9 (by decide), ← hr_ 10 (by decide), ← hr_ 11 (by decide)] at hinv
  obtain ⟨⟨l8, u8⟩, ⟨l9, u9⟩, ⟨l10, u10⟩, ⟨l11, u11⟩, ⟨l12, u12⟩, ⟨l13, u13⟩, ⟨l14, u14⟩, ⟨l15, u15⟩, ⟨l16, u16⟩, ⟨l17, u17⟩, -⟩ := b_
  obtain ⟨f0, f1, -⟩ := f_
  obtain ⟨e0, ⟨e1, ⟨e2, w_⟩⟩⟩ := d_
  subst w_
  have g := rxcPLAYX_13_4 hP hin I0 hinv l8 u8 l9 u9 l10 u10 l11 u11 l12 u12 l13 u13 l14 u14 l15 u15 l16 u16 l17 u17 f0 f1 e2 e1 e0
  refine ⟨bx_narP_ok (l := [(9, 0, 431)]) g.1, bx_nfP_ok h0_ (fvs := []) (by decide +kernel) g.2.1, ?_, ?_⟩
  · show rxIPLAYX_14 S0 ws S_p (bx_val [(0, 0), (0, 0), (0, 0), (0, 0), (0, 0), (0, 0), (0, 0), (0, 0), (8, 0), (10, 0), (11, 0), (9, 0), (10, 0), (8, 0), (16, 0), (17, 0)] r_p 8) (bx_val [(0, 0), (0, 0), (0, 0), (0, 0), (0, 0), (0, 0), (0, 0), (0, 0), (8, 0), (10, 0), (11, 0), (9, 0), (10, 0), (8, 0), (16, 0), (17, 0)] r_p 9) (bx_val [(0, 0), (0, 0), (0, 0), (0, 0), (0, 0), (0, 0), (0, 0), (0, 0), (8, 0), (10, 0), (11, 0), (9, 0), (10, 0), (8, 0), (16, 0), (17, 0)] r_p 10) (bx_val [(0, 0), (0, 0), (0, 0), (0, 0), (0, 0), (0, 0), (0, 0), (0, 0), (8, 0), (10, 0), (11, 0), (9, 0), (10, 0), (8, 0), (16, 0), (17, 0)] r_p 11) (bx_val [(0, 0), (0, 0), (0, 0), (0, 0), (0, 0), (0, 0), (0, 0), (0, 0), (8, 0), (10, 0), (11, 0), (9, 0), (10, 0), (8, 0), (16, 0), (17, 0)] r_p 12) (bx_val [(0, 0), (0, 0), (0, 0), (0, 0), (0, 0), (0, 0), (0, 0), (0, 0), (8, 0), (10, 0), (11, 0), (9, 0), (10, 0), (8, 0), (16, 0), (17, 0)] r_p 13) (bx_val [(0, 0), (0, 0), (0, 0), (0, 0), (0, 0), (0, 0), (0, 0), (0, 0), (8, 0), (10, 0), (11, 0), (9, 0), (10, 0), (8, 0), (16, 0), (17, 0)] r_p 14) (bx_val [(0, 0), (0, 0), (0, 0), (0, 0), (0, 0), (0, 0), (0, 0), (0, 0), (8, 0), (10, 0), (11, 0), (9, 0), (10, 0), (8, 0), (16, 0), (17, 0)] r_p 15)
    rw [bx_val_x (n := 8) (e := (8, 0)) h0_ rfl, bx_val_x (n := 9) (e := (10, 0)) h0_ rfl, bx_val_x (n := 10) (e := (11, 0)) h0_ rfl, bx_val_x (n := 11) (e := (9, 0)) h0_ rfl, bx_val_x (n := 12) (e := (10, 0)) h0_ rfl, bx_val_x (n := 13) (e := (8, 0)) h0_ rfl, bx_val_x (n := 14) (e := (16, 0)) h0_ rfl, bx_val_x (n := 15) (e := (17, 0)) h0_ rfl]
    exact g.2.2.1
  · show rxmPLAYX_14 S0 ws S_p (bx_val [(0, 0), (0, 0), (0, 0), (0, 0), (0, 0), (0, 0), (0, 0), (0, 0), (8, 0), (10, 0), (11, 0), (9, 0), (10, 0), (8, 0), (16, 0), (17, 0)] r_p 8) (bx_val [(0, 0), (0, 0), (0, 0), (0, 0), (0, 0), (0, 0), (0, 0), (0, 0), (8, 0), (10, 0), (11, 0), (9, 0), (10, 0), (8, 0), (16, 0), (17, 0)] r_p 9) (bx_val [(0, 0), (0, 0), (0, 0), (0, 0), (0, 0), (0, 0), (0, 0), (0, 0), (8, 0), (10, 0), (11, 0), (9, 0), (10, 0), (8, 0), (16, 0), (17, 0)] r_p 10) (bx_val [(0, 0), (0, 0), (0, 0), (0, 0), (0, 0), (0, 0), (0, 0), (0, 0), (8, 0), (10, 0), (11, 0), (9, 0), (10, 0), (8, 0), (16, 0), (17, 0)] r_p 11) (bx_val [(0, 0), (0, 0), (0, 0), (0, 0), (0, 0), (0, 0), (0, 0), (0, 0), (8, 0), (10, 0), (11, 0), (9, 0), (10, 0), (8, 0), (16, 0), (17, 0)] r_p 12) (bx_val [(0, 0), (0, 0), (0, 0), (0, 0), (0, 0), (0, 0), (0, 0), (0, 0), (8, 0), (10, 0), (11, 0), (9, 0), (10, 0), (8, 0), (16, 0), (17, 0)] r_p 13) (bx_val [(0, 0), (0, 0), (0, 0), (0, 0), (0, 0), (0, 0), (0, 0), (0, 0), (8, 0), (10, 0), (11, 0), (9, 0), (10, 0), (8, 0), (16, 0), (17, 0)] r_p 14) (bx_val [(0, 0), (0, 0), (0, 0), (0, 0), (0, 0), (0, 0), (0, 0), (0, 0), (8, 0), (10, 0), (11, 0), (9, 0), (10, 0), (8, 0), (16, 0), (17, 0)] r_p 15) < rxmPLAYX_13 S0 ws S_p (r 8) (r 9) (r 10) (r 11)
    rw [bx_val_x (n := 8) (e := (8, 0)) h0_ rfl, bx_val_x (n := 9) (e := (10, 0)) h0_ rfl, bx_val_x (n := 10) (e := (11, 0)) h0_ rfl, bx_val_x (n := 11) (e := (9, 0)) h0_ rfl, bx_val_x (n := 12) (e := (10, 0)) h0_ rfl, bx_val_x (n := 13) (e := (8, 0)) h0_ rfl, bx_val_x (n := 14) (e := (16, 0)) h0_ rfl, bx_val_x (n := 15) (e := (17, 0)) h0_ rfl, ← hr_ 8 (by decide), ← hr_ 9 (by decide), ← hr_ 10 (by decide), ← hr_ 11 (by decide)]
    exact g.2.2.2
theorem rxcPLAYX_13_5 {S0 : Nat → Int → Int} {ws : List Int} {S : Nat → Int → Int} {part n at_ c x12 x13 x14 x15 : Int} (hP : rxPPLAYX S0 ws) (hin : bx_same rxL (bx_mdl rxC240.2.2.1) S0 S) (I0 : bx_Inv rxL S) (hinv : rxIPLAYX_13 S0 ws S part n at_ c) (l8 : 0 ≤ part) (u8 : part ≤ 5) (l9 : 0 ≤ n) (u9 : n ≤ 432) (l10 : 0 ≤ at_) (u10 : at_ ≤ 110) (l11 : 0 ≤ c) (u11 : c ≤ 35) (l12 : (-1) ≤ x12) (u12 : x12 ≤ (-1)) (l13 : (-2147483648) ≤ x13) (u13 : x13 ≤ 2147483647) (l14 : (-2147483648) ≤ x14) (u14 : x14 ≤ 2147483647) (l15 : 0 ≤ x15) (u15 : x15 ≤ 5) (f0 : x14 ≠ x15) (f1 : x13 ≠ (-1)) (e2 : S 496 at_ = x12) (e1 : S 496 (at_ + 1) = x13) (e0 : S 496 (at_ + 1) = x14) : (True) ∧ (True) ∧ rxIPLAYX_13 S0 ws S part n at_ (c + 1) ∧ rxmPLAYX_13 S0 ws S part n at_ (c + 1) < rxmPLAYX_13 S0 ws S part n at_ c := by
  obtain ⟨hI, hx⟩ := hinv
  obtain ⟨a_, b_, c_, d_⟩ := rxc240_13_5 hP hin I0 hI l8 u8 l9 u9 l10 u10 l11 u11 l12 u12 l13 u13 l14 u14 l15 u15 f0 f1 e2 e1 e0
  exact ⟨a_, b_, ⟨c_, hx⟩, d_⟩
theorem rxgPLAYX_13_5 {X : (Nat → Int → Int) → Prop} {S0 : Nat → Int → Int} {ws : List Int} (hP : rxPPLAYX S0 ws) : bx_obC rxL X S0 rxC240.2.2.1 (rxIPLAYX S0 ws) (rxmPLAYX S0 ws) 13 rxzPLAYX_13 rxoPLAYX_13_5 := by
  intro S S_p r r_p hinv hX hin hsm_ hseg
  obtain ⟨I0, I1, h0_, hr_, b_, f_, d_⟩ := bx_cl (evs := [(0, (0, 496), (10, 1), .inr (0, (14, 0))), (0, (0, 496), (10, 1), .inr (0, (13, 0))), (0, (0, 496), (10, 0), .inr (0, (12, 0)))]) (fvs := [(3, (14, 0), (15, 0), (0, 0)), (3, (13, 0), (0, (-1)), (0, 0))]) hseg (by decide +kernel) (by decide +kernel)
  have hinv : rxIPLAYX_13 S0 ws S (r 8) (r 9) (r 10) (r 11) := hinv
  rw [← hr_ 8 (by decide), ← hr_ 9 (by decide), ← hr_ 10 (by decide), ← hr_ 11 (by decide)] at hinv
  obtain ⟨⟨l8, u8⟩, ⟨l9, u9⟩, ⟨l10, u10⟩, ⟨l11, u11⟩, ⟨l12, u12⟩, ⟨l13, u13⟩, ⟨l14, u14⟩, ⟨l15, u15⟩, -⟩ := b_
  obtain ⟨f0, f1, -⟩ := f_
  obtain ⟨e0, ⟨e1, ⟨e2, w_⟩⟩⟩ := d_
  subst w_
  have g := rxcPLAYX_13_5 hP hin I0 hinv l8 u8 l9 u9 l10 u10 l11 u11 l12 u12 l13 u13 l14 u14 l15 u15 f0 f1 e2 e1 e0
  refine ⟨bx_narP_ok (l := []) g.1, bx_nfP_ok h0_ (fvs := []) (by decide +kernel) g.2.1, ?_, ?_⟩
  · show rxIPLAYX_13 S0 ws S_p (bx_val [(0, 0), (0, 0), (0, 0), (0, 0), (0, 0), (0, 0), (0, 0), (0, 0), (8, 0), (9, 0), (10, 0), (11, 1)] r_p 8) (bx_val [(0, 0), (0, 0), (0, 0), (0, 0), (0, 0), (0, 0), (0, 0), (0, 0), (8, 0), (9, 0), (10, 0), (11, 1)] r_p 9) (bx_val [(0, 0), (0, 0), (0, 0), (0, 0), (0, 0), (0, 0), (0, 0), (0, 0), (8, 0), (9, 0), (10, 0), (11, 1)] r_p 10) (bx_val [(0, 0), (0, 0), (0, 0), (0, 0), (0, 0), (0, 0), (0, 0), (0, 0), (8, 0), (9, 0), (10, 0), (11, 1)] r_p 11)
    rw [bx_val_x (n := 8) (e := (8, 0)) h0_ rfl, bx_val_x (n := 9) (e := (9, 0)) h0_ rfl, bx_val_x (n := 10) (e := (10, 0)) h0_ rfl, bx_val_x (n := 11) (e := (11, 1)) h0_ rfl]
    exact g.2.2.1
  · show rxmPLAYX_13 S0 ws S_p (bx_val [(0, 0), (0, 0), (0, 0), (0, 0), (0, 0), (0, 0), (0, 0), (0, 0), (8, 0), (9, 0), (10, 0), (11, 1)] r_p 8) (bx_val [(0, 0), (0, 0), (0, 0), (0, 0), (0, 0), (0, 0), (0, 0), (0, 0), (8, 0), (9, 0), (10, 0), (11, 1)] r_p 9) (bx_val [(0, 0), (0, 0), (0, 0), (0, 0), (0, 0), (0, 0), (0, 0), (0, 0), (8, 0), (9, 0), (10, 0), (11, 1)] r_p 10) (bx_val [(0, 0), (0, 0), (0, 0), (0, 0), (0, 0), (0, 0), (0, 0), (0, 0), (8, 0), (9, 0), (10, 0), (11, 1)] r_p 11) < rxmPLAYX_13 S0 ws S_p (r 8) (r 9) (r 10) (r 11)
    rw [bx_val_x (n := 8) (e := (8, 0)) h0_ rfl, bx_val_x (n := 9) (e := (9, 0)) h0_ rfl, bx_val_x (n := 10) (e := (10, 0)) h0_ rfl, bx_val_x (n := 11) (e := (11, 1)) h0_ rfl, ← hr_ 8 (by decide), ← hr_ 9 (by decide), ← hr_ 10 (by decide), ← hr_ 11 (by decide)]
    exact g.2.2.2
theorem rxcPLAYX_13_6 {S0 : Nat → Int → Int} {ws : List Int} {S : Nat → Int → Int} {part n at_ c x12 x13 x14 x15 : Int} (hP : rxPPLAYX S0 ws) (hin : bx_same rxL (bx_mdl rxC240.2.2.1) S0 S) (I0 : bx_Inv rxL S) (hinv : rxIPLAYX_13 S0 ws S part n at_ c) (l8 : 0 ≤ part) (u8 : part ≤ 5) (l9 : 0 ≤ n) (u9 : n ≤ 432) (l10 : 0 ≤ at_) (u10 : at_ ≤ 110) (l11 : 0 ≤ c) (u11 : c ≤ 35) (l12 : (-1) ≤ x12) (u12 : x12 ≤ (-1)) (l13 : (-1) ≤ x13) (u13 : x13 ≤ (-1)) (l14 : 0 ≤ x14) (u14 : x14 ≤ 5) (l15 : 0 ≤ x15) (u15 : x15 ≤ 5) (e1 : S 496 at_ = x12) (e0 : S 496 (at_ + 1) = x13) : ((0 ≤ n ∧ n ≤ 431) ∧ True) ∧ (True) ∧ rxIPLAYX_14 S0 ws S part at_ c n at_ part x14 x15 ∧ rxmPLAYX_14 S0 ws S part at_ c n at_ part x14 x15 < rxmPLAYX_13 S0 ws S part n at_ c := by
  obtain ⟨hI, hx⟩ := hinv
  obtain ⟨a_, b_, c_, d_⟩ := rxc240_13_6 hP hin I0 hI l8 u8 l9 u9 l10 u10 l11 u11 l12 u12 l13 u13 l14 u14 l15 u15 e1 e0
  exact ⟨a_, b_, ⟨c_, hx⟩, d_⟩
theorem rxgPLAYX_13_6 {X : (Nat → Int → Int) → Prop} {S0 : Nat → Int → Int} {ws : List Int} (hP : rxPPLAYX S0 ws) : bx_obC rxL X S0 rxC240.2.2.1 (rxIPLAYX S0 ws) (rxmPLAYX S0 ws) 13 rxzPLAYX_13 rxoPLAYX_13_6 := by
  intro S S_p r r_p hinv hX hin hsm_ hseg
  obtain ⟨I0, I1, h0_, hr_, b_, f_, d_⟩ := bx_cl (evs := [(0, (0, 496), (10, 1), .inr (0, (13, 0))), (0, (0, 496), (10, 0), .inr (0, (12, 0)))]) (fvs := []) hseg (by decide +kernel) (by decide +kernel)
  have hinv : rxIPLAYX_13 S0 ws S (r 8) (r 9) (r 10) (r 11) := hinv
  rw [← hr_ 8 (by decide), ← hr_ 9 (by decide), ← hr_ 10 (by decide), ← hr_ 11 (by decide)] at hinv
  obtain ⟨⟨l8, u8⟩, ⟨l9, u9⟩, ⟨l10, u10⟩, ⟨l11, u11⟩, ⟨l12, u12⟩, ⟨l13, u13⟩, ⟨l14, u14⟩, ⟨l15, u15⟩, -⟩ := b_
  obtain ⟨e0, ⟨e1, w_⟩⟩ := d_
  subst w_
  have g := rxcPLAYX_13_6 hP hin I0 hinv l8 u8 l9 u9 l10 u10 l11 u11 l12 u12 l13 u13 l14 u14 l15 u15 e1 e0
  refine ⟨bx_narP_ok (l := [(9, 0, 431)]) g.1, bx_nfP_ok h0_ (fvs := []) (by decide +kernel) g.2.1, ?_, ?_⟩
  · show rxIPLAYX_14 S0 ws S_p (bx_val [(0, 0), (0, 0), (0, 0), (0, 0), (0, 0), (0, 0), (0, 0), (0, 0), (8, 0), (10, 0), (11, 0), (9, 0), (10, 0), (8, 0), (14, 0), (15, 0)] r_p 8) (bx_val [(0, 0), (0, 0), (0, 0), (0, 0), (0, 0), (0, 0), (0, 0), (0, 0), (8, 0), (10, 0), (11, 0), (9, 0), (10, 0), (8, 0), (14, 0), (15, 0)] r_p 9) (bx_val [(0, 0), (0, 0), (0, 0), (0, 0), (0, 0), (0, 0), (0, 0), (0, 0), (8, 0), (10, 0), (11, 0), (9, 0), (10, 0), (8, 0), (14, 0), (15, 0)] r_p 10) (bx_val [(0, 0), (0, 0), (0, 0), (0, 0), (0, 0), (0, 0), (0, 0), (0, 0), (8, 0), (10, 0), (11, 0), (9, 0), (10, 0), (8, 0), (14, 0), (15, 0)] r_p 11) (bx_val [(0, 0), (0, 0), (0, 0), (0, 0), (0, 0), (0, 0), (0, 0), (0, 0), (8, 0), (10, 0), (11, 0), (9, 0), (10, 0), (8, 0), (14, 0), (15, 0)] r_p 12) (bx_val [(0, 0), (0, 0), (0, 0), (0, 0), (0, 0), (0, 0), (0, 0), (0, 0), (8, 0), (10, 0), (11, 0), (9, 0), (10, 0), (8, 0), (14, 0), (15, 0)] r_p 13) (bx_val [(0, 0), (0, 0), (0, 0), (0, 0), (0, 0), (0, 0), (0, 0), (0, 0), (8, 0), (10, 0), (11, 0), (9, 0), (10, 0), (8, 0), (14, 0), (15, 0)] r_p 14) (bx_val [(0, 0), (0, 0), (0, 0), (0, 0), (0, 0), (0, 0), (0, 0), (0, 0), (8, 0), (10, 0), (11, 0), (9, 0), (10, 0), (8, 0), (14, 0), (15, 0)] r_p 15)
    rw [bx_val_x (n := 8) (e := (8, 0)) h0_ rfl, bx_val_x (n := 9) (e := (10, 0)) h0_ rfl, bx_val_x (n := 10) (e := (11, 0)) h0_ rfl, bx_val_x (n := 11) (e := (9, 0)) h0_ rfl, bx_val_x (n := 12) (e := (10, 0)) h0_ rfl, bx_val_x (n := 13) (e := (8, 0)) h0_ rfl, bx_val_x (n := 14) (e := (14, 0)) h0_ rfl, bx_val_x (n := 15) (e := (15, 0)) h0_ rfl]
    exact g.2.2.1
  · show rxmPLAYX_14 S0 ws S_p (bx_val [(0, 0), (0, 0), (0, 0), (0, 0), (0, 0), (0, 0), (0, 0), (0, 0), (8, 0), (10, 0), (11, 0), (9, 0), (10, 0), (8, 0), (14, 0), (15, 0)] r_p 8) (bx_val [(0, 0), (0, 0), (0, 0), (0, 0), (0, 0), (0, 0), (0, 0), (0, 0), (8, 0), (10, 0), (11, 0), (9, 0), (10, 0), (8, 0), (14, 0), (15, 0)] r_p 9) (bx_val [(0, 0), (0, 0), (0, 0), (0, 0), (0, 0), (0, 0), (0, 0), (0, 0), (8, 0), (10, 0), (11, 0), (9, 0), (10, 0), (8, 0), (14, 0), (15, 0)] r_p 10) (bx_val [(0, 0), (0, 0), (0, 0), (0, 0), (0, 0), (0, 0), (0, 0), (0, 0), (8, 0), (10, 0), (11, 0), (9, 0), (10, 0), (8, 0), (14, 0), (15, 0)] r_p 11) (bx_val [(0, 0), (0, 0), (0, 0), (0, 0), (0, 0), (0, 0), (0, 0), (0, 0), (8, 0), (10, 0), (11, 0), (9, 0), (10, 0), (8, 0), (14, 0), (15, 0)] r_p 12) (bx_val [(0, 0), (0, 0), (0, 0), (0, 0), (0, 0), (0, 0), (0, 0), (0, 0), (8, 0), (10, 0), (11, 0), (9, 0), (10, 0), (8, 0), (14, 0), (15, 0)] r_p 13) (bx_val [(0, 0), (0, 0), (0, 0), (0, 0), (0, 0), (0, 0), (0, 0), (0, 0), (8, 0), (10, 0), (11, 0), (9, 0), (10, 0), (8, 0), (14, 0), (15, 0)] r_p 14) (bx_val [(0, 0), (0, 0), (0, 0), (0, 0), (0, 0), (0, 0), (0, 0), (0, 0), (8, 0), (10, 0), (11, 0), (9, 0), (10, 0), (8, 0), (14, 0), (15, 0)] r_p 15) < rxmPLAYX_13 S0 ws S_p (r 8) (r 9) (r 10) (r 11)
    rw [bx_val_x (n := 8) (e := (8, 0)) h0_ rfl, bx_val_x (n := 9) (e := (10, 0)) h0_ rfl, bx_val_x (n := 10) (e := (11, 0)) h0_ rfl, bx_val_x (n := 11) (e := (9, 0)) h0_ rfl, bx_val_x (n := 12) (e := (10, 0)) h0_ rfl, bx_val_x (n := 13) (e := (8, 0)) h0_ rfl, bx_val_x (n := 14) (e := (14, 0)) h0_ rfl, bx_val_x (n := 15) (e := (15, 0)) h0_ rfl, ← hr_ 8 (by decide), ← hr_ 9 (by decide), ← hr_ 10 (by decide), ← hr_ 11 (by decide)]
    exact g.2.2.2
theorem rxcPLAYX_13_7 {S0 : Nat → Int → Int} {ws : List Int} {S : Nat → Int → Int} {part n at_ c : Int} (hP : rxPPLAYX S0 ws) (hin : bx_same rxL (bx_mdl rxC240.2.2.1) S0 S) (I0 : bx_Inv rxL S) (hinv : rxIPLAYX_13 S0 ws S part n at_ c) (l8 : 0 ≤ part) (u8 : part ≤ 5) (l9 : 0 ≤ n) (u9 : n ≤ 432) (l10 : 0 ≤ at_) (u10 : at_ ≤ 110) (l11 : 36 ≤ c) (u11 : c ≤ 36) : (True) ∧ (True) ∧ rxIPLAYX_12 S0 ws S part n (at_ + 10) ∧ rxmPLAYX_12 S0 ws S part n (at_ + 10) < rxmPLAYX_13 S0 ws S part n at_ c := by
  obtain ⟨hI, hx⟩ := hinv
  obtain ⟨a_, b_, c_, d_⟩ := rxc240_13_7 hP hin I0 hI l8 u8 l9 u9 l10 u10 l11 u11
  exact ⟨a_, b_, ⟨c_, hx⟩, d_⟩
theorem rxgPLAYX_13_7 {X : (Nat → Int → Int) → Prop} {S0 : Nat → Int → Int} {ws : List Int} (hP : rxPPLAYX S0 ws) : bx_obC rxL X S0 rxC240.2.2.1 (rxIPLAYX S0 ws) (rxmPLAYX S0 ws) 13 rxzPLAYX_13 rxoPLAYX_13_7 := by
  intro S S_p r r_p hinv hX hin hsm_ hseg
  obtain ⟨I0, I1, h0_, hr_, b_, f_, d_⟩ := bx_cl (evs := []) (fvs := []) hseg (by decide +kernel) (by decide +kernel)
  have hinv : rxIPLAYX_13 S0 ws S (r 8) (r 9) (r 10) (r 11) := hinv
  rw [← hr_ 8 (by decide), ← hr_ 9 (by decide), ← hr_ 10 (by decide), ← hr_ 11 (by decide)] at hinv
  obtain ⟨⟨l8, u8⟩, ⟨l9, u9⟩, ⟨l10, u10⟩, ⟨l11, u11⟩, -⟩ := b_
  have w_ := d_
  subst w_
  have g := rxcPLAYX_13_7 hP hin I0 hinv l8 u8 l9 u9 l10 u10 l11 u11
  refine ⟨bx_narP_ok (l := []) g.1, bx_nfP_ok h0_ (fvs := []) (by decide +kernel) g.2.1, ?_, ?_⟩
  · show rxIPLAYX_12 S0 ws S_p (bx_val [(0, 0), (0, 0), (0, 0), (0, 0), (0, 0), (0, 0), (0, 0), (0, 0), (8, 0), (9, 0), (10, 10)] r_p 8) (bx_val [(0, 0), (0, 0), (0, 0), (0, 0), (0, 0), (0, 0), (0, 0), (0, 0), (8, 0), (9, 0), (10, 10)] r_p 9) (bx_val [(0, 0), (0, 0), (0, 0), (0, 0), (0, 0), (0, 0), (0, 0), (0, 0), (8, 0), (9, 0), (10, 10)] r_p 10)
    rw [bx_val_x (n := 8) (e := (8, 0)) h0_ rfl, bx_val_x (n := 9) (e := (9, 0)) h0_ rfl, bx_val_x (n := 10) (e := (10, 10)) h0_ rfl]
    exact g.2.2.1
  · show rxmPLAYX_12 S0 ws S_p (bx_val [(0, 0), (0, 0), (0, 0), (0, 0), (0, 0), (0, 0), (0, 0), (0, 0), (8, 0), (9, 0), (10, 10)] r_p 8) (bx_val [(0, 0), (0, 0), (0, 0), (0, 0), (0, 0), (0, 0), (0, 0), (0, 0), (8, 0), (9, 0), (10, 10)] r_p 9) (bx_val [(0, 0), (0, 0), (0, 0), (0, 0), (0, 0), (0, 0), (0, 0), (0, 0), (8, 0), (9, 0), (10, 10)] r_p 10) < rxmPLAYX_13 S0 ws S_p (r 8) (r 9) (r 10) (r 11)
    rw [bx_val_x (n := 8) (e := (8, 0)) h0_ rfl, bx_val_x (n := 9) (e := (9, 0)) h0_ rfl, bx_val_x (n := 10) (e := (10, 10)) h0_ rfl, ← hr_ 8 (by decide), ← hr_ 9 (by decide), ← hr_ 10 (by decide), ← hr_ 11 (by decide)]
    exact g.2.2.2
theorem rxcPLAYX_15_0 {S0 : Nat → Int → Int} {ws : List Int} {S : Nat → Int → Int} {part at_ c n a_ pt d6 m6 so : Int} (hP : rxPPLAYX S0 ws) (hin : bx_same rxL (bx_mdl rxC240.2.2.1) S0 S) (I0 : bx_Inv rxL S) (hinv : rxIPLAYX_15 S0 ws S part at_ c n a_ pt d6 m6 so) (l8 : 0 ≤ part) (u8 : part ≤ 5) (l9 : 0 ≤ at_) (u9 : at_ ≤ 110) (l10 : 0 ≤ c) (u10 : c ≤ 35) (l11 : 0 ≤ n) (u11 : n ≤ 431) (l12 : 0 ≤ a_) (u12 : a_ ≤ 110) (l13 : 0 ≤ pt) (u13 : pt ≤ 5) (l14 : 0 ≤ d6) (u14 : d6 ≤ 5) (l15 : 0 ≤ m6) (u15 : m6 ≤ 5) (l16 : 1 ≤ so) (u16 : so ≤ 1) (f0 : so ≠ 0) : (True) ∧ (True) ∧ rxIPLAYX_13 S0 ws S part (n + 1) at_ (c + 1) ∧ rxmPLAYX_13 S0 ws S part (n + 1) at_ (c + 1) < rxmPLAYX_15 S0 ws S part at_ c n a_ pt d6 m6 so := by
  obtain ⟨hI, hx⟩ := hinv
  obtain ⟨a_, b_, c_, d_⟩ := rxc240_15_0 hP hin I0 hI l8 u8 l9 u9 l10 u10 l11 u11 l12 u12 l13 u13 l14 u14 l15 u15 l16 u16 f0
  exact ⟨a_, b_, ⟨c_, hx⟩, d_⟩
theorem rxgPLAYX_15_0 {X : (Nat → Int → Int) → Prop} {S0 : Nat → Int → Int} {ws : List Int} (hP : rxPPLAYX S0 ws) : bx_obC rxL X S0 rxC240.2.2.1 (rxIPLAYX S0 ws) (rxmPLAYX S0 ws) 15 rxzPLAYX_15 rxoPLAYX_15_0 := by
  intro S S_p r r_p hinv hX hin hsm_ hseg
  obtain ⟨I0, I1, h0_, hr_, b_, f_, d_⟩ := bx_cl (evs := []) (fvs := [(3, (16, 0), (0, 0), (0, 0))]) hseg (by decide +kernel) (by decide +kernel)
  have hinv : rxIPLAYX_15 S0 ws S (r 8) (r 9) (r 10) (r 11) (r 12) (r 13) (r 14) (r 15) (r 16) := hinv
  rw [← hr_ 8 (by decide), ← hr_ 9 (by decide), ← hr_ 10 (by decide), ← hr_ 11 (by decide), ← hr_ 12 (by decide), ← hr_ 13 (by decide), ← hr_ 14 (by decide), ← hr_ 15 (by decide), ← hr_ 16 (by decide)] at hinv
  obtain ⟨⟨l8, u8⟩, ⟨l9, u9⟩, ⟨l10, u10⟩, ⟨l11, u11⟩, ⟨l12, u12⟩, ⟨l13, u13⟩, ⟨l14, u14⟩, ⟨l15, u15⟩, ⟨l16, u16⟩, -⟩ := b_
  obtain ⟨f0, -⟩ := f_
  have w_ := d_
  subst w_
  have g := rxcPLAYX_15_0 hP hin I0 hinv l8 u8 l9 u9 l10 u10 l11 u11 l12 u12 l13 u13 l14 u14 l15 u15 l16 u16 f0
  refine ⟨bx_narP_ok (l := []) g.1, bx_nfP_ok h0_ (fvs := []) (by decide +kernel) g.2.1, ?_, ?_⟩
  · show rxIPLAYX_13 S0 ws S_p (bx_val [(0, 0), (0, 0), (0, 0), (0, 0), (0, 0), (0, 0), (0, 0), (0, 0), (8, 0), (11, 1), (9, 0), (10, 1)] r_p 8) (bx_val [(0, 0), (0, 0), (0, 0), (0, 0), (0, 0), (0, 0), (0, 0), (0, 0), (8, 0), (11, 1), (9, 0), (10, 1)] r_p 9) (bx_val [(0, 0), (0, 0), (0, 0), (0, 0), (0, 0), (0, 0), (0, 0), (0, 0), (8, 0), (11, 1), (9, 0), (10, 1)] r_p 10) (bx_val [(0, 0), (0, 0), (0, 0), (0, 0), (0, 0), (0, 0), (0, 0), (0, 0), (8, 0), (11, 1), (9, 0), (10, 1)] r_p 11)
    rw [bx_val_x (n := 8) (e := (8, 0)) h0_ rfl, bx_val_x (n := 9) (e := (11, 1)) h0_ rfl, bx_val_x (n := 10) (e := (9, 0)) h0_ rfl, bx_val_x (n := 11) (e := (10, 1)) h0_ rfl]
    exact g.2.2.1
  · show rxmPLAYX_13 S0 ws S_p (bx_val [(0, 0), (0, 0), (0, 0), (0, 0), (0, 0), (0, 0), (0, 0), (0, 0), (8, 0), (11, 1), (9, 0), (10, 1)] r_p 8) (bx_val [(0, 0), (0, 0), (0, 0), (0, 0), (0, 0), (0, 0), (0, 0), (0, 0), (8, 0), (11, 1), (9, 0), (10, 1)] r_p 9) (bx_val [(0, 0), (0, 0), (0, 0), (0, 0), (0, 0), (0, 0), (0, 0), (0, 0), (8, 0), (11, 1), (9, 0), (10, 1)] r_p 10) (bx_val [(0, 0), (0, 0), (0, 0), (0, 0), (0, 0), (0, 0), (0, 0), (0, 0), (8, 0), (11, 1), (9, 0), (10, 1)] r_p 11) < rxmPLAYX_15 S0 ws S_p (r 8) (r 9) (r 10) (r 11) (r 12) (r 13) (r 14) (r 15) (r 16)
    rw [bx_val_x (n := 8) (e := (8, 0)) h0_ rfl, bx_val_x (n := 9) (e := (11, 1)) h0_ rfl, bx_val_x (n := 10) (e := (9, 0)) h0_ rfl, bx_val_x (n := 11) (e := (10, 1)) h0_ rfl, ← hr_ 8 (by decide), ← hr_ 9 (by decide), ← hr_ 10 (by decide), ← hr_ 11 (by decide), ← hr_ 12 (by decide), ← hr_ 13 (by decide), ← hr_ 14 (by decide), ← hr_ 15 (by decide), ← hr_ 16 (by decide)]
    exact g.2.2.2
theorem rxcPLAYX_15_1 {S0 : Nat → Int → Int} {ws : List Int} {S : Nat → Int → Int} {part at_ c n a_ pt d6 m6 so : Int} (hP : rxPPLAYX S0 ws) (hin : bx_same rxL (bx_mdl rxC240.2.2.1) S0 S) (I0 : bx_Inv rxL S) (hinv : rxIPLAYX_15 S0 ws S part at_ c n a_ pt d6 m6 so) (l8 : 0 ≤ part) (u8 : part ≤ 5) (l9 : 0 ≤ at_) (u9 : at_ ≤ 110) (l10 : 0 ≤ c) (u10 : c ≤ 35) (l11 : 0 ≤ n) (u11 : n ≤ 431) (l12 : 0 ≤ a_) (u12 : a_ ≤ 110) (l13 : 0 ≤ pt) (u13 : pt ≤ 5) (l14 : 0 ≤ d6) (u14 : d6 ≤ 5) (l15 : 0 ≤ m6) (u15 : m6 ≤ 5) (l16 : 0 ≤ so) (u16 : so ≤ 0) : (True) ∧ (True) ∧ rxIPLAYX_13 S0 ws S part n at_ (c + 1) ∧ rxmPLAYX_13 S0 ws S part n at_ (c + 1) < rxmPLAYX_15 S0 ws S part at_ c n a_ pt d6 m6 so := by
  obtain ⟨hI, hx⟩ := hinv
  obtain ⟨a_, b_, c_, d_⟩ := rxc240_15_1 hP hin I0 hI l8 u8 l9 u9 l10 u10 l11 u11 l12 u12 l13 u13 l14 u14 l15 u15 l16 u16
  exact ⟨a_, b_, ⟨c_, hx⟩, d_⟩
theorem rxgPLAYX_15_1 {X : (Nat → Int → Int) → Prop} {S0 : Nat → Int → Int} {ws : List Int} (hP : rxPPLAYX S0 ws) : bx_obC rxL X S0 rxC240.2.2.1 (rxIPLAYX S0 ws) (rxmPLAYX S0 ws) 15 rxzPLAYX_15 rxoPLAYX_15_1 := by
  intro S S_p r r_p hinv hX hin hsm_ hseg
  obtain ⟨I0, I1, h0_, hr_, b_, f_, d_⟩ := bx_cl (evs := []) (fvs := []) hseg (by decide +kernel) (by decide +kernel)
  have hinv : rxIPLAYX_15 S0 ws S (r 8) (r 9) (r 10) (r 11) (r 12) (r 13) (r 14) (r 15) (r 16) := hinv
  rw [← hr_ 8 (by decide), ← hr_ 9 (by decide), ← hr_ 10 (by decide), ← hr_ 11 (by decide), ← hr_ 12 (by decide), ← hr_ 13 (by decide), ← hr_ 14 (by decide), ← hr_ 15 (by decide), ← hr_ 16 (by decide)] at hinv
  obtain ⟨⟨l8, u8⟩, ⟨l9, u9⟩, ⟨l10, u10⟩, ⟨l11, u11⟩, ⟨l12, u12⟩, ⟨l13, u13⟩, ⟨l14, u14⟩, ⟨l15, u15⟩, ⟨l16, u16⟩, -⟩ := b_
  have w_ := d_
  subst w_
  have g := rxcPLAYX_15_1 hP hin I0 hinv l8 u8 l9 u9 l10 u10 l11 u11 l12 u12 l13 u13 l14 u14 l15 u15 l16 u16
  refine ⟨bx_narP_ok (l := []) g.1, bx_nfP_ok h0_ (fvs := []) (by decide +kernel) g.2.1, ?_, ?_⟩
  · show rxIPLAYX_13 S0 ws S_p (bx_val [(0, 0), (0, 0), (0, 0), (0, 0), (0, 0), (0, 0), (0, 0), (0, 0), (8, 0), (11, 0), (9, 0), (10, 1)] r_p 8) (bx_val [(0, 0), (0, 0), (0, 0), (0, 0), (0, 0), (0, 0), (0, 0), (0, 0), (8, 0), (11, 0), (9, 0), (10, 1)] r_p 9) (bx_val [(0, 0), (0, 0), (0, 0), (0, 0), (0, 0), (0, 0), (0, 0), (0, 0), (8, 0), (11, 0), (9, 0), (10, 1)] r_p 10) (bx_val [(0, 0), (0, 0), (0, 0), (0, 0), (0, 0), (0, 0), (0, 0), (0, 0), (8, 0), (11, 0), (9, 0), (10, 1)] r_p 11)
    rw [bx_val_x (n := 8) (e := (8, 0)) h0_ rfl, bx_val_x (n := 9) (e := (11, 0)) h0_ rfl, bx_val_x (n := 10) (e := (9, 0)) h0_ rfl, bx_val_x (n := 11) (e := (10, 1)) h0_ rfl]
    exact g.2.2.1
  · show rxmPLAYX_13 S0 ws S_p (bx_val [(0, 0), (0, 0), (0, 0), (0, 0), (0, 0), (0, 0), (0, 0), (0, 0), (8, 0), (11, 0), (9, 0), (10, 1)] r_p 8) (bx_val [(0, 0), (0, 0), (0, 0), (0, 0), (0, 0), (0, 0), (0, 0), (0, 0), (8, 0), (11, 0), (9, 0), (10, 1)] r_p 9) (bx_val [(0, 0), (0, 0), (0, 0), (0, 0), (0, 0), (0, 0), (0, 0), (0, 0), (8, 0), (11, 0), (9, 0), (10, 1)] r_p 10) (bx_val [(0, 0), (0, 0), (0, 0), (0, 0), (0, 0), (0, 0), (0, 0), (0, 0), (8, 0), (11, 0), (9, 0), (10, 1)] r_p 11) < rxmPLAYX_15 S0 ws S_p (r 8) (r 9) (r 10) (r 11) (r 12) (r 13) (r 14) (r 15) (r 16)
    rw [bx_val_x (n := 8) (e := (8, 0)) h0_ rfl, bx_val_x (n := 9) (e := (11, 0)) h0_ rfl, bx_val_x (n := 10) (e := (9, 0)) h0_ rfl, bx_val_x (n := 11) (e := (10, 1)) h0_ rfl, ← hr_ 8 (by decide), ← hr_ 9 (by decide), ← hr_ 10 (by decide), ← hr_ 11 (by decide), ← hr_ 12 (by decide), ← hr_ 13 (by decide), ← hr_ 14 (by decide), ← hr_ 15 (by decide), ← hr_ 16 (by decide)]
    exact g.2.2.2
theorem rxgCPLAYX {X : (Nat → Int → Int) → Prop} {S0 : Nat → Int → Int} {ws : List Int} (hP : rxPPLAYX S0 ws) : bx_allI (fun i q => rxUPLAYX q = true ∨ bx_allP (fun o => bx_obC rxL X S0 rxC240.2.2.1 (rxIPLAYX S0 ws) (rxmPLAYX S0 ws) i q.1 o) q.2.1) 0 rxYPLAYX := ⟨Or.inr ⟨rxgPLAYX_0_0 hP, trivial⟩, Or.inl rfl, Or.inr ⟨rxgPLAYX_2_0 hP, trivial⟩, Or.inl rfl, Or.inr ⟨rxgPLAYX_4_0 hP, rxgPLAYX_4_1 hP, rxgPLAYX_4_2 hP, rxgPLAYX_4_3 hP, trivial⟩, Or.inr ⟨rxgPLAYX_5_0 hP, rxgPLAYX_5_1 hP, rxgPLAYX_5_2 hP, rxgPLAYX_5_3 hP, trivial⟩, Or.inl rfl, Or.inr ⟨rxgPLAYX_7_0 hP, trivial⟩, Or.inl rfl, Or.inr ⟨rxgPLAYX_9_0 hP, trivial⟩, Or.inl rfl, Or.inr ⟨rxgPLAYX_11_0 hP, trivial⟩, Or.inr ⟨rxgPLAYX_12_0 hP, trivial⟩, Or.inr ⟨rxgPLAYX_13_0 hP, rxgPLAYX_13_1 hP, rxgPLAYX_13_2 hP, rxgPLAYX_13_3 hP, rxgPLAYX_13_4 hP, rxgPLAYX_13_5 hP, rxgPLAYX_13_6 hP, rxgPLAYX_13_7 hP, trivial⟩, Or.inl rfl, Or.inr ⟨rxgPLAYX_15_0 hP, rxgPLAYX_15_1 hP, trivial⟩, trivial⟩
theorem rxgEPLAYX {X : (Nat → Int → Int) → Prop} {S0 : Nat → Int → Int} {ws : List Int} (hP : rxPPLAYX S0 ws) : bx_allI (fun i q => rxUPLAYX q = true ∨ bx_allP (fun E => bx_obE rxL X S0 rxC240.2.2.1 (rxIPLAYX S0 ws) (rxPSPLAYX S0 ws) i q.1 E) q.2.2) 0 rxYPLAYX := ⟨Or.inr ⟨rxfPLAYX_0_0 hP, rxfPLAYX_0_1 hP, trivial⟩, Or.inl rfl, Or.inr trivial, Or.inl rfl, Or.inr trivial, Or.inr trivial, Or.inl rfl, Or.inr trivial, Or.inl rfl, Or.inr trivial, Or.inl rfl, Or.inr ⟨rxfPLAYX_11_0 hP, trivial⟩, Or.inr ⟨rxfPLAYX_12_0 hP, trivial⟩, Or.inr trivial, Or.inl rfl, Or.inr trivial, trivial⟩
theorem rxuPLAYX {PX : State → Prop} {Dg : va_G} {A : Nat → Prop} {ad xa : Nat → Nat} {l : Launch} {X : (Nat → Int → Int) → Prop} (hPX : rx_PXOK rxNW A PX) (hX : ∀ S S1 : Nat → Int → Int, X S → bx_same rxL (bx_mdl rxC240.2.2.1) S S1 → X S1) (hQBXW : bx_ConP rxG rxNW rxAO PX Dg rxL X vwCl A ad l rxM283 rxCBXW rxPBXW rxPSBXW) (hQRYW : bx_ConP rxG rxNW rxAO PX Dg rxL X vwCl A ad l rxM295 rxCRYW rxPRYW rxPSRYW) (hQNXX : bx_ConP rxG rxNW rxAO PX Dg rxL X vwCl A ad l rxM264 rxCNXX rxPNXX rxPSNXX) (hQETW : bx_ConP rxG rxNW rxAO PX Dg rxL X vwCl A ad l rxM285 rxCETW rxPETW rxPSETW) (hQIP : bx_ConP rxG rxNW rxAO PX Dg rxL X vwCl A ad l rxM296 rxCIP rxPIP rxPSIP) {S0 : Nat → Int → Int} {ws : List Int} (hP : rxPPLAYX S0 ws) : ∀ (i : Nat) (q : bx_HE), rxYPLAYX[i]? = some q → rxUPLAYX q = true → ∀ {p : Program} {e : Env} {R : Room} {s : State} {m : MethodId} {args : Array Value} {below : List Frame} {meth : Method} {c : Code} {Q : State → Prop} {H0 : Heap}, rx_Fr rxG rxNW rxAO PX p s m args meth c rxM240 → (∀ q, H0.size ≤ q → A q) → H0 = s.heap → rxM240.2.2.2.2.2.2.1 ≤ R.cells → rxM240.2.2.2.2.2.2.2 ≤ R.slots → rxC240.2.2.2.1 ≤ R.frames → rxC240.2.2.2.1 * 40 ≤ R.locals → bx_Step p l e R s m args below meth c Q Dg rxL X vwCl A xa H0 ad rxM240 rxYPLAYX (rxIPLAYX S0 ws) (rxmPLAYX S0 ws) S0 rxC240.2.2.1 i q := by
  intro i q hq hus p e R s m args below meth c Q H0 hF hA hH0 hmc hms hd hdl
  match i, hq with
  | 0, hq =>
    cases hq
    exact absurd (show false = true from hus) Bool.false_ne_true
  | 1, hq =>
    cases hq
    exact rx_stepC (ins := .invokevirtual 388) (len := 3) (i_p := 2) (M_p := rxM283) (d := rxC240.2.2.2.1) (as := [.inr (3, (0, 480)), .inr (0, (0, 1))]) (t := []) (ct := rxCBXW) hPX hF rfl hA hH0 hmc hms hd hdl (by decide +kernel) rfl rfl (by decide +kernel) (by decide +kernel) hQBXW (by decide +kernel) rfl (Or.inl ⟨rfl, rfl, rfl⟩) (rxsPLAYX_1 hP)
  | 2, hq =>
    cases hq
    exact absurd (show false = true from hus) Bool.false_ne_true
  | 3, hq =>
    cases hq
    exact rx_stepC (ins := .invokevirtual 463) (len := 3) (i_p := 4) (M_p := rxM295) (d := rxC240.2.2.2.1) (as := [.inr (3, (0, 480))]) (t := []) (ct := rxCRYW) hPX hF rfl hA hH0 hmc hms hd hdl (by decide +kernel) rfl rfl (by decide +kernel) (by decide +kernel) hQRYW (by decide +kernel) rfl (Or.inl ⟨rfl, rfl, rfl⟩) (rxsPLAYX_3 hP)
  | 4, hq =>
    cases hq
    exact absurd (show false = true from hus) Bool.false_ne_true
  | 5, hq =>
    cases hq
    exact absurd (show false = true from hus) Bool.false_ne_true
  | 6, hq =>
    cases hq
    exact rx_stepC (ins := .invokevirtual 253) (len := 3) (i_p := 7) (M_p := rxM264) (d := rxC240.2.2.2.1) (as := [.inr (3, (0, 480))]) (t := []) (ct := rxCNXX) hPX hF rfl hA hH0 hmc hms hd hdl (by decide +kernel) rfl rfl (by decide +kernel) (by decide +kernel) hQNXX (by decide +kernel) rfl (Or.inl ⟨rfl, rfl, rfl⟩) (rxsPLAYX_6 hP)
  | 7, hq =>
    cases hq
    exact absurd (show false = true from hus) Bool.false_ne_true
  | 8, hq =>
    cases hq
    exact rx_stepC (ins := .invokevirtual 463) (len := 3) (i_p := 9) (M_p := rxM295) (d := rxC240.2.2.2.1) (as := [.inr (3, (0, 480))]) (t := []) (ct := rxCRYW) hPX hF rfl hA hH0 hmc hms hd hdl (by decide +kernel) rfl rfl (by decide +kernel) (by decide +kernel) hQRYW (by decide +kernel) rfl (Or.inl ⟨rfl, rfl, rfl⟩) (rxsPLAYX_8 hP)
  | 9, hq =>
    cases hq
    exact absurd (show false = true from hus) Bool.false_ne_true
  | 10, hq =>
    cases hq
    exact rx_stepC (ins := .invokevirtual 394) (len := 3) (i_p := 11) (M_p := rxM285) (d := rxC240.2.2.2.1) (as := [.inr (3, (0, 480))]) (t := []) (ct := rxCETW) hPX hF rfl hA hH0 hmc hms hd hdl (by decide +kernel) rfl rfl (by decide +kernel) (by decide +kernel) hQETW (by decide +kernel) rfl (Or.inl ⟨rfl, rfl, rfl⟩) (rxsPLAYX_10 hP)
  | 11, hq =>
    cases hq
    exact absurd (show false = true from hus) Bool.false_ne_true
  | 12, hq =>
    cases hq
    exact absurd (show false = true from hus) Bool.false_ne_true
  | 13, hq =>
    cases hq
    exact absurd (show false = true from hus) Bool.false_ne_true
  | 14, hq =>
    cases hq
    exact rx_stepC (ins := .invokevirtual 466) (len := 3) (i_p := 15) (M_p := rxM296) (d := rxC240.2.2.2.1) (as := [.inr (3, (0, 480)), .inr (0, (12, 0)), .inr (0, (13, 0)), .inr (0, (14, 0)), .inr (0, (15, 0))]) (t := [.inr (0, (11, 0))]) (ct := rxCIP) hPX hF rfl hA hH0 hmc hms hd hdl (by decide +kernel) rfl rfl (by decide +kernel) (by decide +kernel) hQIP (by decide +kernel) rfl (Or.inr ⟨_, _, _, 1, rfl, rfl, by omega, rfl, rfl, rfl⟩) (rxsPLAYX_14 hP)
  | 15, hq =>
    cases hq
    exact absurd (show false = true from hus) Bool.false_ne_true
  | n + 16, hq => cases hq
theorem rxQPLAYX {PX : State → Prop} {Dg : va_G} {A : Nat → Prop} {ad xa : Nat → Nat} {l : Launch} {X : (Nat → Int → Int) → Prop} (hPX : rx_PXOK rxNW A PX) (hsl : ∀ s : State, PX s → ∀ o idx n : Nat, rxSl o idx = some n → ∃ tx : String, vk_R (rxNm o) idx tx (ad n) s)
    (hX : ∀ S S_p : Nat → Int → Int, X S → bx_same rxL (bx_mdl rxC240.2.2.1) S S_p → X S_p)
    (ih : ∀ (j2 : Nat) (ct2 : bx_Ct) (M2 : rx_Mt), ct2 ∈ rxCnE j2 → ct2.2.2.2.1 + 1 ≤ rxC240.2.2.2.1 → rxT.2.2.2.2.2 j2 = some M2 → bx_Con rxG rxNW rxAO PX Dg rxL X vwCl A ad l M2 ct2) (hQBXW : bx_ConP rxG rxNW rxAO PX Dg rxL X vwCl A ad l rxM283 rxCBXW rxPBXW rxPSBXW) (hQRYW : bx_ConP rxG rxNW rxAO PX Dg rxL X vwCl A ad l rxM295 rxCRYW rxPRYW rxPSRYW) (hQNXX : bx_ConP rxG rxNW rxAO PX Dg rxL X vwCl A ad l rxM264 rxCNXX rxPNXX rxPSNXX) (hQETW : bx_ConP rxG rxNW rxAO PX Dg rxL X vwCl A ad l rxM285 rxCETW rxPETW rxPSETW) (hQIP : bx_ConP rxG rxNW rxAO PX Dg rxL X vwCl A ad l rxM296 rxCIP rxPIP rxPSIP) : bx_ConP rxG rxNW rxAO PX Dg rxL X vwCl A ad l rxM240 rxC240 rxPPLAYX rxPSPLAYX :=
  rxQof (xa := xa) (Cn := rxCnE) (f := 30000) (j := 240) (tab := rxYPLAYX) (us := rxUPLAYX) hPX hsl hX ih rfl rxYcPLAYX rxIPLAYX rxmPLAYX
    (fun S0 ws r I0 I ht0 ht as he he1 hX0 hI0 hP hs ha => by
      have e := he.symm.trans (show bx_ent0 rxNP rxC240.1 bx_I0 [] = some ([(0, 0), (0, 0), (0, 0), (0, 0), (0, 0), (0, 0), (0, 0), (0, 0), ((-2147483648), 2147483647)], [], [.inr (3, (0, 480)), .inr (0, (8, 0))]) from rfl)
      cases e
      subst ha
      have h0 : r 0 = 0 := hs.1
      show rxIPLAYX_0 S0 _ S0 (r 8)
      refine ⟨⟨rfl, ?_⟩, trivial⟩
      simp only [List.map_cons, List.map_nil, bx_xv_ok h0]
      rfl)
    (fun S0 ws hP => rxuPLAYX (xa := xa) hPX hX hQBXW hQRYW hQNXX hQETW hQIP hP) (fun S0 ws hP => rxgCPLAYX hP) (fun S0 ws hP => rxgEPLAYX hP)
