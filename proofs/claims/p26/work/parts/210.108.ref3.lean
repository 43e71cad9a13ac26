/-! CONTRACT BY HAND, by program (wip/sim/genhand.py): DeadUnderstudiesModel.law -/
def rxILAWX_0 (S0 : Nat → Int → Int) (ws : List Int) (S : Nat → Int → Int) : Prop := rxI242_0 S0 ws S ∧ True
def rxmLAWX_0 (S0 : Nat → Int → Int) (ws : List Int) (S : Nat → Int → Int) : Nat := rxm242_0 S0 ws S
def rxILAWX_1 (S0 : Nat → Int → Int) (ws : List Int) (S : Nat → Int → Int) : Prop := rxI242_1 S0 ws S ∧ (rzBg S0 S)
def rxmLAWX_1 (S0 : Nat → Int → Int) (ws : List Int) (S : Nat → Int → Int) : Nat := rxm242_1 S0 ws S
def rxILAWX_2 (S0 : Nat → Int → Int) (ws : List Int) (S : Nat → Int → Int) : Prop := rxI242_2 S0 ws S ∧ (rzCk S0 → rzRj S0 S 0 (rzTx (rzCl (decide ((0 : Int) = 1)) (rzCut (S0 485)) (S0 480 8)) (rzCut (S0 485)) (S0 480 8) (12 - S 480 16).toNat))
def rxmLAWX_2 (S0 : Nat → Int → Int) (ws : List Int) (S : Nat → Int → Int) : Nat := rxm242_2 S0 ws S
def rxILAWX_3 (S0 : Nat → Int → Int) (ws : List Int) (S : Nat → Int → Int) : Prop := rxI242_3 S0 ws S ∧ (rzCk S0 → rzRj S0 S 0 (rzTx (rzCl (decide ((0 : Int) = 1)) (rzCut (S0 485)) (S0 480 8)) (rzCut (S0 485)) (S0 480 8) (12 - S 480 16).toNat))
def rxmLAWX_3 (S0 : Nat → Int → Int) (ws : List Int) (S : Nat → Int → Int) : Nat := rxm242_3 S0 ws S
def rxILAWX_4 (S0 : Nat → Int → Int) (ws : List Int) (S : Nat → Int → Int) : Prop := rxI242_4 S0 ws S ∧ (rzCk S0 → rzRj S0 S 0 (rzNx (decide ((0 : Int) = 1)) (rzCut (S0 485)) (S0 480 8) (12 - S 480 16).toNat))
def rxmLAWX_4 (S0 : Nat → Int → Int) (ws : List Int) (S : Nat → Int → Int) : Nat := rxm242_4 S0 ws S
def rxILAWX_5 (S0 : Nat → Int → Int) (ws : List Int) (S : Nat → Int → Int) : Prop := rxI242_5 S0 ws S ∧ (rzCk S0 → rzRj S0 S 0 (rzNx (decide ((0 : Int) = 1)) (rzCut (S0 485)) (S0 480 8) (12 - S 480 16).toNat))
def rxmLAWX_5 (S0 : Nat → Int → Int) (ws : List Int) (S : Nat → Int → Int) : Nat := rxm242_5 S0 ws S
def rxILAWX_6 (S0 : Nat → Int → Int) (ws : List Int) (S : Nat → Int → Int) : Prop := rxI242_6 S0 ws S ∧ ((rzCk S0 → rzRj S0 S 0 (rzNx (decide ((0 : Int) = 1)) (rzCut (S0 485)) (S0 480 8) (12 - S 480 16).toNat)) ∧ (S 480 14 = 0 → rzDq S → rzSg (rzCut (S 485)) (S 480 8) 59 (S 480 9) = true))
def rxmLAWX_6 (S0 : Nat → Int → Int) (ws : List Int) (S : Nat → Int → Int) : Nat := rxm242_6 S0 ws S
def rxILAWX_7 (S0 : Nat → Int → Int) (ws : List Int) (S : Nat → Int → Int) : Prop := rxI242_7 S0 ws S ∧ (rzCk S0 → rzRj S0 S 0 (rzTx (rzCl (decide ((0 : Int) = 1)) (rzCut (S0 485)) (S0 480 8)) (rzCut (S0 485)) (S0 480 8) (12 - S 480 16).toNat))
def rxmLAWX_7 (S0 : Nat → Int → Int) (ws : List Int) (S : Nat → Int → Int) : Nat := rxm242_7 S0 ws S
def rxILAWX_8 (S0 : Nat → Int → Int) (ws : List Int) (S : Nat → Int → Int) : Prop := rxI242_8 S0 ws S ∧ (rzCk S0 → rzRj S0 S 0 (rzTx (rzCl (decide ((0 : Int) = 1)) (rzCut (S0 485)) (S0 480 8)) (rzCut (S0 485)) (S0 480 8) (12 - S 480 16).toNat))
def rxmLAWX_8 (S0 : Nat → Int → Int) (ws : List Int) (S : Nat → Int → Int) : Nat := rxm242_8 S0 ws S
def rxILAWX_9 (S0 : Nat → Int → Int) (ws : List Int) (S : Nat → Int → Int) : Prop := rxI242_9 S0 ws S ∧ (rzCk S0 → rzRj S0 S 0 (rzNx (decide ((0 : Int) = 1)) (rzCut (S0 485)) (S0 480 8) (12 - S 480 16).toNat))
def rxmLAWX_9 (S0 : Nat → Int → Int) (ws : List Int) (S : Nat → Int → Int) : Nat := rxm242_9 S0 ws S
def rxILAWX_10 (S0 : Nat → Int → Int) (ws : List Int) (S : Nat → Int → Int) : Prop := rxI242_10 S0 ws S ∧ ((rzCk S0 → rzRj S0 S 0 (rzNx (decide ((0 : Int) = 1)) (rzCut (S0 485)) (S0 480 8) (12 - S 480 16).toNat)) ∧ (S 480 14 = 0 → rzDq S → rzSg (rzCut (S 485)) (S 480 8) 59 (S 480 9) = false))
def rxmLAWX_10 (S0 : Nat → Int → Int) (ws : List Int) (S : Nat → Int → Int) : Nat := rxm242_10 S0 ws S
def rxILAWX_11 (S0 : Nat → Int → Int) (ws : List Int) (S : Nat → Int → Int) : Prop := rxI242_11 S0 ws S ∧ ((rzCk S0 → rzTz S0 S 0) ∧ S 480 8 = 0)
def rxmLAWX_11 (S0 : Nat → Int → Int) (ws : List Int) (S : Nat → Int → Int) : Nat := rxm242_11 S0 ws S
def rxILAWX_12 (S0 : Nat → Int → Int) (ws : List Int) (S : Nat → Int → Int) (n3 : Int) : Prop := rxI242_12 S0 ws S n3 ∧ ((rzCk S0 → ∃ r : rzR, rzText (decide ((0 : Int) = 1)) (rzCut (S0 485)) (S0 480 8) r ∧ r.1 = true ∧ S 480 13 = -1) ∧ S 480 8 = 0)
def rxmLAWX_12 (S0 : Nat → Int → Int) (ws : List Int) (S : Nat → Int → Int) (n3 : Int) : Nat := rxm242_12 S0 ws S n3
def rxILAWX_13 (S0 : Nat → Int → Int) (ws : List Int) (S : Nat → Int → Int) (base a v : Int) : Prop := rxI242_13 S0 ws S base a v ∧ ((rzCk S0 → ∃ r : rzR, rzText (decide ((0 : Int) = 1)) (rzCut (S0 485)) (S0 480 8) r ∧ r.1 = true ∧ S 480 13 = -1) ∧ S 480 8 = 0)
def rxmLAWX_13 (S0 : Nat → Int → Int) (ws : List Int) (S : Nat → Int → Int) (base a v : Int) : Nat := rxm242_13 S0 ws S base a v
def rxILAWX_14 (S0 : Nat → Int → Int) (ws : List Int) (S : Nat → Int → Int) (base a v : Int) : Prop := rxI242_14 S0 ws S base a v ∧ ((rzCk S0 → ∃ r : rzR, rzText (decide ((0 : Int) = 1)) (rzCut (S0 485)) (S0 480 8) r ∧ r.1 = true ∧ S 480 13 = -1) ∧ S 480 8 = 0)
def rxmLAWX_14 (S0 : Nat → Int → Int) (ws : List Int) (S : Nat → Int → Int) (base a v : Int) : Nat := rxm242_14 S0 ws S base a v
def rxILAWX_15 (S0 : Nat → Int → Int) (ws : List Int) (S : Nat → Int → Int) (base i : Int) : Prop := rxI242_15 S0 ws S base i ∧ ((rzCk S0 → ∃ r : rzR, rzText (decide ((0 : Int) = 1)) (rzCut (S0 485)) (S0 480 8) r ∧ r.1 = true ∧ S 480 13 = -1) ∧ S 480 8 = 0)
def rxmLAWX_15 (S0 : Nat → Int → Int) (ws : List Int) (S : Nat → Int → Int) (base i : Int) : Nat := rxm242_15 S0 ws S base i
def rxILAWX_16 (S0 : Nat → Int → Int) (ws : List Int) (S : Nat → Int → Int) (base i a v : Int) : Prop := rxI242_16 S0 ws S base i a v ∧ ((rzCk S0 → ∃ r : rzR, rzText (decide ((0 : Int) = 1)) (rzCut (S0 485)) (S0 480 8) r ∧ r.1 = true ∧ S 480 13 = -1) ∧ S 480 8 = 0)
def rxmLAWX_16 (S0 : Nat → Int → Int) (ws : List Int) (S : Nat → Int → Int) (base i a v : Int) : Nat := rxm242_16 S0 ws S base i a v
def rxILAWX_17 (S0 : Nat → Int → Int) (ws : List Int) (S : Nat → Int → Int) (base i a v : Int) : Prop := rxI242_17 S0 ws S base i a v ∧ ((rzCk S0 → ∃ r : rzR, rzText (decide ((0 : Int) = 1)) (rzCut (S0 485)) (S0 480 8) r ∧ r.1 = true ∧ S 480 13 = -1) ∧ S 480 8 = 0)
def rxmLAWX_17 (S0 : Nat → Int → Int) (ws : List Int) (S : Nat → Int → Int) (base i a v : Int) : Nat := rxm242_17 S0 ws S base i a v
def rxILAWX_18 (S0 : Nat → Int → Int) (ws : List Int) (S : Nat → Int → Int) (base i : Int) : Prop := rxI242_18 S0 ws S base i ∧ ((rzCk S0 → ∃ r : rzR, rzText (decide ((0 : Int) = 1)) (rzCut (S0 485)) (S0 480 8) r ∧ r.1 = true ∧ S 480 13 = -1) ∧ S 480 8 = 0)
def rxmLAWX_18 (S0 : Nat → Int → Int) (ws : List Int) (S : Nat → Int → Int) (base i : Int) : Nat := rxm242_18 S0 ws S base i
def rxILAWX_19 (S0 : Nat → Int → Int) (ws : List Int) (S : Nat → Int → Int) (base i a v : Int) : Prop := rxI242_19 S0 ws S base i a v ∧ ((rzCk S0 → ∃ r : rzR, rzText (decide ((0 : Int) = 1)) (rzCut (S0 485)) (S0 480 8) r ∧ r.1 = true ∧ S 480 13 = -1) ∧ S 480 8 = 0)
def rxmLAWX_19 (S0 : Nat → Int → Int) (ws : List Int) (S : Nat → Int → Int) (base i a v : Int) : Nat := rxm242_19 S0 ws S base i a v
def rxILAWX_20 (S0 : Nat → Int → Int) (ws : List Int) (S : Nat → Int → Int) (base i a v : Int) : Prop := rxI242_20 S0 ws S base i a v ∧ ((rzCk S0 → ∃ r : rzR, rzText (decide ((0 : Int) = 1)) (rzCut (S0 485)) (S0 480 8) r ∧ r.1 = true ∧ S 480 13 = -1) ∧ S 480 8 = 0)
def rxmLAWX_20 (S0 : Nat → Int → Int) (ws : List Int) (S : Nat → Int → Int) (base i a v : Int) : Nat := rxm242_20 S0 ws S base i a v
def rxILAWX_21 (S0 : Nat → Int → Int) (ws : List Int) (S : Nat → Int → Int) (base i a v : Int) : Prop := rxI242_21 S0 ws S base i a v ∧ ((rzCk S0 → ∃ r : rzR, rzText (decide ((0 : Int) = 1)) (rzCut (S0 485)) (S0 480 8) r ∧ r.1 = true ∧ S 480 13 = -1) ∧ S 480 8 = 0)
def rxmLAWX_21 (S0 : Nat → Int → Int) (ws : List Int) (S : Nat → Int → Int) (base i a v : Int) : Nat := rxm242_21 S0 ws S base i a v
def rxILAWX_22 (S0 : Nat → Int → Int) (ws : List Int) (S : Nat → Int → Int) (base i a v : Int) : Prop := rxI242_22 S0 ws S base i a v ∧ ((rzCk S0 → ∃ r : rzR, rzText (decide ((0 : Int) = 1)) (rzCut (S0 485)) (S0 480 8) r ∧ r.1 = true ∧ S 480 13 = -1) ∧ S 480 8 = 0)
def rxmLAWX_22 (S0 : Nat → Int → Int) (ws : List Int) (S : Nat → Int → Int) (base i a v : Int) : Nat := rxm242_22 S0 ws S base i a v
def rxILAWX_23 (S0 : Nat → Int → Int) (ws : List Int) (S : Nat → Int → Int) (n3 : Int) : Prop := rxI242_23 S0 ws S n3 ∧ ((rzCk S0 → ∃ r : rzR, rzText (decide ((0 : Int) = 1)) (rzCut (S0 485)) (S0 480 8) r ∧ r.1 = true ∧ S 480 13 = -1) ∧ S 480 8 = 0 ∧ n3 = S0 482 3 ∧ S0 482 3 ≠ 6)
def rxmLAWX_23 (S0 : Nat → Int → Int) (ws : List Int) (S : Nat → Int → Int) (n3 : Int) : Nat := rxm242_23 S0 ws S n3
def rxPLAWX (S0 : Nat → Int → Int) (ws : List Int) : Prop := rxP242 S0 ws
def rxPSLAWX (S0 : Nat → Int → Int) (ws : List Int) (S : Nat → Int → Int) (w : Option Int) : Prop := rxPS242 S0 ws S w ∧ (rzCk S0 → (S0 482 3 = 6 ∧ w = some (-5) ∧ S 480 8 = 0 ∧ S 480 13 = S0 480 13 ∧ S 482 3 = S0 482 3) ∨ (S0 482 3 ≠ 6 ∧ S 480 8 = 0 ∧ ∃ r : rzR, rzText (decide ((0 : Int) = 1)) (rzCut (S0 485)) (S0 480 8) r ∧ ((r.1 = true ∧ w = some (S0 482 3) ∧ S 480 13 = -1 ∧ S 482 3 = S0 482 3 + 1) ∨ (r.1 = false ∧ w = some (-6) ∧ S 480 13 = r.2.1 ∧ S 482 3 = S0 482 3))))
theorem rxkLAWX_1 {S0 : Nat → Int → Int} {ws : List Int} {S : Nat → Int → Int} (hP : rxPLAWX S0 ws) (hin : bx_same rxL (bx_mdl rxC242.2.2.1) S0 S) (I0 : bx_Inv rxL S) (hinv : rxILAWX_1 S0 ws S)  : rxPBXW S [480, 0] ∧ ∀ (S_p : Nat → Int → Int), rxPSBXW S [480, 0] S_p none → bx_Inv rxL S_p → bx_same rxL (bx_mdl rxCBXW.2.2.1) S S_p → rxILAWX_2 S0 ws S_p ∧ rxmLAWX_2 S0 ws S_p < rxmLAWX_1 S0 ws S := by
  obtain ⟨hI, hx⟩ := hinv
  have g_ := rxk242_1 hP hin I0 hI
  exact ⟨g_.1, fun S_p hq I1 hsm => ⟨⟨(g_.2 S_p hq.2.1 I1 hsm).1, (fun c => by
    obtain ⟨g1, g13, gd, ge, g21⟩ := hq.2.2
    rw [hx.1, hx.2.1] at ge
    obtain ⟨-, -, o14, o16, -, z2, hz2, o15⟩ := hq.2.1
    have ez : (0 : Int) = z2 := Option.some.inj (congrArg (fun l : List Int => l[1]?) hz2)
    rw [show (12 - S_p 480 16).toNat = 12 by omega]
    exact rzRj_0 c ⟨g1.1.trans hx.1, g1.2.1.trans hx.2.1, fun c => g1.2.2 (hx.2.2 c)⟩ g13 (by omega) gd ge g21 o14)⟩, (g_.2 S_p hq.2.1 I1 hsm).2⟩⟩
theorem rxkLAWX_3 {S0 : Nat → Int → Int} {ws : List Int} {S : Nat → Int → Int} (hP : rxPLAWX S0 ws) (hin : bx_same rxL (bx_mdl rxC242.2.2.1) S0 S) (I0 : bx_Inv rxL S) (hinv : rxILAWX_3 S0 ws S)  : rxPRLW S [480] ∧ ∀ (S_p : Nat → Int → Int), rxPSRLW S [480] S_p none → bx_Inv rxL S_p → bx_same rxL (bx_mdl rxCRLW.2.2.1) S S_p → rxILAWX_4 S0 ws S_p ∧ rxmLAWX_4 S0 ws S_p < rxmLAWX_3 S0 ws S := by
  obtain ⟨hI, hx⟩ := hinv
  have g_ := rxk242_3 hP hin I0 hI
  exact ⟨g_.1, fun S_p hq I1 hsm => ⟨⟨(g_.2 S_p hq.2.1 I1 hsm).1, (fun c => by
    have z0 : S 480 14 = 0 := hI.2.2.1
    have h := hx c
    obtain ⟨q1, q2, q3, q4, q5, q6⟩ := rzRj_q h z0
    have x := hq.2.2 q1 q2 (by unfold rzWr; rw [q3]; exact if_neg (by decide))
    rw [q4, q5] at x
    refine rzRj_co h z0 x hq.2.1.2.2 (fun n12 r p => ?_) fun n12 r p => ?_
    · rw [rzCl_z0]
      rcases p with p | p
      · exact p.2
      · exact absurd n12 (of_decide_eq_false p.1)
    · rcases p with p | p
      · exact absurd (of_decide_eq_true p.1) n12
      · exact p.2)⟩, (g_.2 S_p hq.2.1 I1 hsm).2⟩⟩
theorem rxkLAWX_6 {S0 : Nat → Int → Int} {ws : List Int} {S : Nat → Int → Int} (hP : rxPLAWX S0 ws) (hin : bx_same rxL (bx_mdl rxC242.2.2.1) S0 S) (I0 : bx_Inv rxL S) (hinv : rxILAWX_6 S0 ws S)  : rxPNXX S [480] ∧ ∀ (S_p : Nat → Int → Int), rxPSNXX S [480] S_p none → bx_Inv rxL S_p → bx_same rxL (bx_mdl rxCNXX.2.2.1) S S_p → rxILAWX_7 S0 ws S_p ∧ rxmLAWX_7 S0 ws S_p < rxmLAWX_6 S0 ws S := by
  obtain ⟨hI, hx⟩ := hinv
  have g_ := rxk242_6 hP hin I0 hI
  exact ⟨g_.1, fun S_p hq I1 hsm => ⟨⟨(g_.2 S_p hq.2.1 I1 hsm).1, (fun c => by
    have z0 : S 480 14 = 0 := hI.2.2.2
    have h := hx.1 c
    obtain ⟨q1, q2, q3, q4, q5, q6⟩ := rzRj_q h z0
    have hs := hx.2 z0 q2
    rw [q4, q5] at hs
    have e16 : S_p 480 16 = S 480 16 := hsm 480 16 (by decide) (by decide) (by decide +kernel)
    rw [e16]
    exact rzRj_nx h z0 (show S_p 480 14 = S 480 14 from hsm 480 14 (by decide) (by decide) (by decide +kernel)) (show S_p 480 21 = S 480 21 from hsm 480 21 (by decide) (by decide) (by decide +kernel)) (rzKr_of hsm (by decide +kernel)) hq.2.2.1 hq.2.2.2 fun f lf r e1 e2 q => Or.inl ⟨by rw [e1]; exact hs, q⟩)⟩, (g_.2 S_p hq.2.1 I1 hsm).2⟩⟩
theorem rxkLAWX_8 {S0 : Nat → Int → Int} {ws : List Int} {S : Nat → Int → Int} (hP : rxPLAWX S0 ws) (hin : bx_same rxL (bx_mdl rxC242.2.2.1) S0 S) (I0 : bx_Inv rxL S) (hinv : rxILAWX_8 S0 ws S)  : rxPRLW S [480] ∧ ∀ (S_p : Nat → Int → Int), rxPSRLW S [480] S_p none → bx_Inv rxL S_p → bx_same rxL (bx_mdl rxCRLW.2.2.1) S S_p → rxILAWX_9 S0 ws S_p ∧ rxmLAWX_9 S0 ws S_p < rxmLAWX_8 S0 ws S := by
  obtain ⟨hI, hx⟩ := hinv
  have g_ := rxk242_8 hP hin I0 hI
  exact ⟨g_.1, fun S_p hq I1 hsm => ⟨⟨(g_.2 S_p hq.2.1 I1 hsm).1, (fun c => by
    have z0 : S 480 14 = 0 := hI.2.2.2
    have h := hx c
    obtain ⟨q1, q2, q3, q4, q5, q6⟩ := rzRj_q h z0
    have x := hq.2.2 q1 q2 (by unfold rzWr; rw [q3]; exact if_neg (by decide))
    rw [q4, q5] at x
    refine rzRj_co h z0 x hq.2.1.2.2 (fun n12 r p => ?_) fun n12 r p => ?_
    · rw [rzCl_z0]
      rcases p with p | p
      · exact p.2
      · exact absurd n12 (of_decide_eq_false p.1)
    · rcases p with p | p
      · exact absurd (of_decide_eq_true p.1) n12
      · exact p.2)⟩, (g_.2 S_p hq.2.1 I1 hsm).2⟩⟩
theorem rxkLAWX_10 {S0 : Nat → Int → Int} {ws : List Int} {S : Nat → Int → Int} (hP : rxPLAWX S0 ws) (hin : bx_same rxL (bx_mdl rxC242.2.2.1) S0 S) (I0 : bx_Inv rxL S) (hinv : rxILAWX_10 S0 ws S)  : rxPETW S [480] ∧ ∀ (S_p : Nat → Int → Int), rxPSETW S [480] S_p none → bx_Inv rxL S_p → bx_same rxL (bx_mdl rxCETW.2.2.1) S S_p → rxILAWX_11 S0 ws S_p ∧ rxmLAWX_11 S0 ws S_p < rxmLAWX_10 S0 ws S := by
  obtain ⟨hI, hx⟩ := hinv
  have g_ := rxk242_10 hP hin I0 hI
  exact ⟨g_.1, fun S_p hq I1 hsm => ⟨⟨(g_.2 S_p hq.2.1 I1 hsm).1, ⟨fun c => rzRj_et (hx.1 c) (fun z0 => hx.2 z0 (rzRj_q (hx.1 c) z0).2.1) hq.2.2.1, hq.2.2.2⟩⟩, (g_.2 S_p hq.2.1 I1 hsm).2⟩⟩
theorem rxtLAWX_13 {S0 : Nat → Int → Int} {ws : List Int} {S : Nat → Int → Int} {base a v : Int} (hP : rxPLAWX S0 ws) (hin : bx_same rxL (bx_mdl rxC242.2.2.1) S0 S) (I0 : bx_Inv rxL S) (hinv : rxILAWX_13 S0 ws S base a v) (l8 : 780 ≤ base) (u8 : base ≤ 5280) (l9 : 781 ≤ a) (u9 : a ≤ 5281) (l10 : 0 ≤ v) (u10 : v ≤ 12) : bx_okT rxL (rxL.2.2.1 482 a) v ∧ rxILAWX_14 S0 ws (bx_up S 482 a v) base a v ∧ rxmLAWX_14 S0 ws (bx_up S 482 a v) base a v < rxmLAWX_13 S0 ws S base a v := by
  obtain ⟨hI, hx⟩ := hinv
  obtain ⟨a_, c_, d_⟩ := rxt242_13 hP hin I0 hI l8 u8 l9 u9 l10 u10
  exact ⟨a_, ⟨c_, ⟨fun c => by
    obtain ⟨r, r1, r2, r3⟩ := hx.1 c
    exact ⟨r, r1, r2, ((bx_up_ne (by omega))).trans r3⟩, ((bx_up_ne (by omega))).trans hx.2⟩⟩, d_⟩
theorem rxtLAWX_16 {S0 : Nat → Int → Int} {ws : List Int} {S : Nat → Int → Int} {base i a v : Int} (hP : rxPLAWX S0 ws) (hin : bx_same rxL (bx_mdl rxC242.2.2.1) S0 S) (I0 : bx_Inv rxL S) (hinv : rxILAWX_16 S0 ws S base i a v) (l8 : 780 ≤ base) (u8 : base ≤ 5280) (l9 : 0 ≤ i) (u9 : i ≤ 95) (l10 : 782 ≤ a) (u10 : a ≤ 5377) (l11 : 0 ≤ v) (u11 : v ≤ 400) : bx_okT rxL (rxL.2.2.1 482 a) v ∧ rxILAWX_17 S0 ws (bx_up S 482 a v) base i a v ∧ rxmLAWX_17 S0 ws (bx_up S 482 a v) base i a v < rxmLAWX_16 S0 ws S base i a v := by
  obtain ⟨hI, hx⟩ := hinv
  obtain ⟨a_, c_, d_⟩ := rxt242_16 hP hin I0 hI l8 u8 l9 u9 l10 u10 l11 u11
  exact ⟨a_, ⟨c_, ⟨fun c => by
    obtain ⟨r, r1, r2, r3⟩ := hx.1 c
    exact ⟨r, r1, r2, ((bx_up_ne (by omega))).trans r3⟩, ((bx_up_ne (by omega))).trans hx.2⟩⟩, d_⟩
theorem rxtLAWX_19 {S0 : Nat → Int → Int} {ws : List Int} {S : Nat → Int → Int} {base i a v : Int} (hP : rxPLAWX S0 ws) (hin : bx_same rxL (bx_mdl rxC242.2.2.1) S0 S) (I0 : bx_Inv rxL S) (hinv : rxILAWX_19 S0 ws S base i a v) (l8 : 780 ≤ base) (u8 : base ≤ 5280) (l9 : 0 ≤ i) (u9 : i ≤ 399) (l10 : 878 ≤ a) (u10 : a ≤ 6176) (l11 : 0 ≤ v) (u11 : v ≤ 30) : bx_okT rxL (rxL.2.2.1 482 a) v ∧ rxILAWX_20 S0 ws (bx_up S 482 a v) base i a v ∧ rxmLAWX_20 S0 ws (bx_up S 482 a v) base i a v < rxmLAWX_19 S0 ws S base i a v := by
  obtain ⟨hI, hx⟩ := hinv
  obtain ⟨a_, c_, d_⟩ := rxt242_19 hP hin I0 hI l8 u8 l9 u9 l10 u10 l11 u11
  exact ⟨a_, ⟨c_, ⟨fun c => by
    obtain ⟨r, r1, r2, r3⟩ := hx.1 c
    exact ⟨r, r1, r2, ((bx_up_ne (by omega))).trans r3⟩, ((bx_up_ne (by omega))).trans hx.2⟩⟩, d_⟩
theorem rxtLAWX_21 {S0 : Nat → Int → Int} {ws : List Int} {S : Nat → Int → Int} {base i a v : Int} (hP : rxPLAWX S0 ws) (hin : bx_same rxL (bx_mdl rxC242.2.2.1) S0 S) (I0 : bx_Inv rxL S) (hinv : rxILAWX_21 S0 ws S base i a v) (l8 : 780 ≤ base) (u8 : base ≤ 5280) (l9 : 0 ≤ i) (u9 : i ≤ 399) (l10 : 879 ≤ a) (u10 : a ≤ 6177) (l11 : 0 ≤ v) (u11 : v ≤ 1000) : bx_okT rxL (rxL.2.2.1 482 a) v ∧ rxILAWX_22 S0 ws (bx_up S 482 a v) base i a v ∧ rxmLAWX_22 S0 ws (bx_up S 482 a v) base i a v < rxmLAWX_21 S0 ws S base i a v := by
  obtain ⟨hI, hx⟩ := hinv
  obtain ⟨a_, c_, d_⟩ := rxt242_21 hP hin I0 hI l8 u8 l9 u9 l10 u10 l11 u11
  exact ⟨a_, ⟨c_, ⟨fun c => by
    obtain ⟨r, r1, r2, r3⟩ := hx.1 c
    exact ⟨r, r1, r2, ((bx_up_ne (by omega))).trans r3⟩, ((bx_up_ne (by omega))).trans hx.2⟩⟩, d_⟩
theorem rxcLAWX_0_0 {S0 : Nat → Int → Int} {ws : List Int} {S : Nat → Int → Int} {x8 : Int} (hP : rxPLAWX S0 ws) (hin : bx_same rxL (bx_mdl rxC242.2.2.1) S0 S) (I0 : bx_Inv rxL S) (hinv : rxILAWX_0 S0 ws S) (l8 : 0 ≤ x8) (u8 : x8 ≤ 5) (f0 : x8 ≠ 6) (e0 : (bx_up S 480 0 0) 482 3 = x8) : (True) ∧ (True) ∧ rxILAWX_1 S0 ws (bx_up S 480 0 0) ∧ rxmLAWX_1 S0 ws (bx_up S 480 0 0) < rxmLAWX_0 S0 ws S := by
  obtain ⟨hI, hx⟩ := hinv
  obtain ⟨a_, b_, c_, d_⟩ := rxc242_0_0 hP hin I0 hI l8 u8 f0 e0
  exact ⟨a_, b_, ⟨c_, (by
    have e := hI.1
    subst e
    exact ⟨congrArg rzCut (funext fun _ => (bx_up_ne (by omega))), (bx_up_ne (by omega)), fun c => rzCk_c c (funext fun _ => (bx_up_ne (by omega))) (funext fun _ => (bx_up_ne (by omega)))⟩)⟩, d_⟩
theorem rxdLAWX_0_0 {S0 : Nat → Int → Int} {ws : List Int} {S : Nat → Int → Int} {x8 x9 x10 : Int} (hP : rxPLAWX S0 ws) (hin : bx_same rxL (bx_mdl rxC242.2.2.1) S0 S) (hin2 : bx_same rxL (bx_mdl rxC242.2.2.1) S (bx_up (bx_up (bx_up (bx_up S 480 0 0) 480 8 0) 480 1 ((-5))) 481 5 x10)) (I0 : bx_Inv rxL S) (I1 : bx_Inv rxL (bx_up (bx_up (bx_up (bx_up S 480 0 0) 480 8 0) 480 1 ((-5))) 481 5 x10)) (hinv : rxILAWX_0 S0 ws S) (l8 : 6 ≤ x8) (u8 : x8 ≤ 6) (l9 : (-2147483648) ≤ x9) (u9 : x9 ≤ 2147483647) (l10 : (-2147483648) ≤ x10) (u10 : x10 ≤ 2147483647) (e4 : (bx_up S 480 0 0) 482 3 = x8) (e1 : (bx_up (bx_up (bx_up S 480 0 0) 480 8 0) 480 1 ((-5))) 481 5 = x9) : (True) ∧ rxPSLAWX S0 ws (bx_up (bx_up (bx_up (bx_up S 480 0 0) 480 8 0) 480 1 ((-5))) 481 5 x10) (some ((-5))) := by
  obtain ⟨hI, hx⟩ := hinv
  obtain ⟨a_, c_⟩ := rxd242_0_0 hP hin hin2 I0 I1 hI l8 u8 l9 u9 l10 u10 e4 e1
  exact ⟨a_, c_, (fun c => by
    have e := hI.1
    subst e
    have q := e4
    rw [bx_up_ne (by omega)] at q
    exact Or.inl ⟨by omega, rfl, (bx_up_ne (by omega)).trans ((bx_up_ne (by omega)).trans (bx_up_at)), (bx_up_ne (by omega)).trans ((bx_up_ne (by omega)).trans ((bx_up_ne (by omega)).trans ((bx_up_ne (by omega))))), (bx_up_ne (by omega)).trans ((bx_up_ne (by omega)).trans ((bx_up_ne (by omega)).trans ((bx_up_ne (by omega)))))⟩)⟩
theorem rxcLAWX_2_0 {S0 : Nat → Int → Int} {ws : List Int} {S : Nat → Int → Int} (hP : rxPLAWX S0 ws) (hin : bx_same rxL (bx_mdl rxC242.2.2.1) S0 S) (I0 : bx_Inv rxL S) (hinv : rxILAWX_2 S0 ws S)  : (True) ∧ (True) ∧ rxILAWX_3 S0 ws S ∧ rxmLAWX_3 S0 ws S < rxmLAWX_2 S0 ws S := by
  obtain ⟨hI, hx⟩ := hinv
  obtain ⟨a_, b_, c_, d_⟩ := rxc242_2_0 hP hin I0 hI
  exact ⟨a_, b_, ⟨c_, hx⟩, d_⟩
theorem rxcLAWX_4_0 {S0 : Nat → Int → Int} {ws : List Int} {S : Nat → Int → Int} {x8 x9 : Int} (hP : rxPLAWX S0 ws) (hin : bx_same rxL (bx_mdl rxC242.2.2.1) S0 S) (I0 : bx_Inv rxL S) (hinv : rxILAWX_4 S0 ws S) (l8 : 0 ≤ x8) (u8 : x8 ≤ 0) (l9 : 0 ≤ x9) (u9 : x9 ≤ 2) (f0 : x9 ≠ 3) (e1 : S 480 14 = x8) (e0 : S 480 11 = x9) : (True) ∧ (True) ∧ rxILAWX_10 S0 ws S ∧ rxmLAWX_10 S0 ws S < rxmLAWX_4 S0 ws S := by
  obtain ⟨hI, hx⟩ := hinv
  obtain ⟨a_, b_, c_, d_⟩ := rxc242_4_0 hP hin I0 hI l8 u8 l9 u9 f0 e1 e0
  exact ⟨a_, b_, ⟨c_, ⟨hx, fun z b => rzDq_ns b (c := 59) (by decide) (by decide) (by omega)⟩⟩, d_⟩
theorem rxcLAWX_4_1 {S0 : Nat → Int → Int} {ws : List Int} {S : Nat → Int → Int} {x8 x9 x10 : Int} (hP : rxPLAWX S0 ws) (hin : bx_same rxL (bx_mdl rxC242.2.2.1) S0 S) (I0 : bx_Inv rxL S) (hinv : rxILAWX_4 S0 ws S) (l8 : 0 ≤ x8) (u8 : x8 ≤ 0) (l9 : 3 ≤ x9) (u9 : x9 ≤ 3) (l10 : (-9223372036854775808) ≤ x10) (u10 : x10 ≤ 9223372036854775807) (f0 : x10 ≠ 59) (e2 : S 480 14 = x8) (e1 : S 480 11 = x9) (e0 : S 480 12 = x10) : (True) ∧ (True) ∧ rxILAWX_10 S0 ws S ∧ rxmLAWX_10 S0 ws S < rxmLAWX_4 S0 ws S := by
  obtain ⟨hI, hx⟩ := hinv
  obtain ⟨a_, b_, c_, d_⟩ := rxc242_4_1 hP hin I0 hI l8 u8 l9 u9 l10 u10 f0 e2 e1 e0
  exact ⟨a_, b_, ⟨c_, ⟨hx, fun z b => rzDq_ns b (c := 59) (by decide) (by decide) (by omega)⟩⟩, d_⟩
theorem rxcLAWX_4_2 {S0 : Nat → Int → Int} {ws : List Int} {S : Nat → Int → Int} {x8 x9 x10 : Int} (hP : rxPLAWX S0 ws) (hin : bx_same rxL (bx_mdl rxC242.2.2.1) S0 S) (I0 : bx_Inv rxL S) (hinv : rxILAWX_4 S0 ws S) (l8 : 0 ≤ x8) (u8 : x8 ≤ 0) (l9 : 3 ≤ x9) (u9 : x9 ≤ 3) (l10 : 59 ≤ x10) (u10 : x10 ≤ 59) (e2 : S 480 14 = x8) (e1 : S 480 11 = x9) (e0 : S 480 12 = x10) : (True) ∧ (True) ∧ rxILAWX_6 S0 ws S ∧ rxmLAWX_6 S0 ws S < rxmLAWX_4 S0 ws S := by
  obtain ⟨hI, hx⟩ := hinv
  obtain ⟨a_, b_, c_, d_⟩ := rxc242_4_2 hP hin I0 hI l8 u8 l9 u9 l10 u10 e2 e1 e0
  exact ⟨a_, b_, ⟨c_, ⟨hx, fun z b => (rzDq_sg b (c := 59) (by decide) (by decide)).mp ⟨by omega, by omega⟩⟩⟩, d_⟩
theorem rxcLAWX_4_3 {S0 : Nat → Int → Int} {ws : List Int} {S : Nat → Int → Int} {x8 : Int} (hP : rxPLAWX S0 ws) (hin : bx_same rxL (bx_mdl rxC242.2.2.1) S0 S) (I0 : bx_Inv rxL S) (hinv : rxILAWX_4 S0 ws S) (l8 : 1 ≤ x8) (u8 : x8 ≤ 1) (f0 : x8 ≠ 0) (e0 : S 480 14 = x8) : (True) ∧ (True) ∧ rxILAWX_10 S0 ws S ∧ rxmLAWX_10 S0 ws S < rxmLAWX_4 S0 ws S := by
  obtain ⟨hI, hx⟩ := hinv
  obtain ⟨a_, b_, c_, d_⟩ := rxc242_4_3 hP hin I0 hI l8 u8 f0 e0
  exact ⟨a_, b_, ⟨c_, ⟨hx, fun z b => by omega⟩⟩, d_⟩
theorem rxcLAWX_5_0 {S0 : Nat → Int → Int} {ws : List Int} {S : Nat → Int → Int} {x8 x9 : Int} (hP : rxPLAWX S0 ws) (hin : bx_same rxL (bx_mdl rxC242.2.2.1) S0 S) (I0 : bx_Inv rxL S) (hinv : rxILAWX_5 S0 ws S) (l8 : 0 ≤ x8) (u8 : x8 ≤ 0) (l9 : 0 ≤ x9) (u9 : x9 ≤ 2) (f0 : x9 ≠ 3) (e1 : S 480 14 = x8) (e0 : S 480 11 = x9) : (True) ∧ (True) ∧ rxILAWX_10 S0 ws S ∧ rxmLAWX_10 S0 ws S < rxmLAWX_5 S0 ws S := by
  obtain ⟨hI, hx⟩ := hinv
  obtain ⟨a_, b_, c_, d_⟩ := rxc242_5_0 hP hin I0 hI l8 u8 l9 u9 f0 e1 e0
  exact ⟨a_, b_, ⟨c_, ⟨hx, fun z b => rzDq_ns b (c := 59) (by decide) (by decide) (by omega)⟩⟩, d_⟩
theorem rxcLAWX_5_1 {S0 : Nat → Int → Int} {ws : List Int} {S : Nat → Int → Int} {x8 x9 x10 : Int} (hP : rxPLAWX S0 ws) (hin : bx_same rxL (bx_mdl rxC242.2.2.1) S0 S) (I0 : bx_Inv rxL S) (hinv : rxILAWX_5 S0 ws S) (l8 : 0 ≤ x8) (u8 : x8 ≤ 0) (l9 : 3 ≤ x9) (u9 : x9 ≤ 3) (l10 : (-9223372036854775808) ≤ x10) (u10 : x10 ≤ 9223372036854775807) (f0 : x10 ≠ 59) (e2 : S 480 14 = x8) (e1 : S 480 11 = x9) (e0 : S 480 12 = x10) : (True) ∧ (True) ∧ rxILAWX_10 S0 ws S ∧ rxmLAWX_10 S0 ws S < rxmLAWX_5 S0 ws S := by
  obtain ⟨hI, hx⟩ := hinv
  obtain ⟨a_, b_, c_, d_⟩ := rxc242_5_1 hP hin I0 hI l8 u8 l9 u9 l10 u10 f0 e2 e1 e0
  exact ⟨a_, b_, ⟨c_, ⟨hx, fun z b => rzDq_ns b (c := 59) (by decide) (by decide) (by omega)⟩⟩, d_⟩
theorem rxcLAWX_5_2 {S0 : Nat → Int → Int} {ws : List Int} {S : Nat → Int → Int} {x8 x9 x10 : Int} (hP : rxPLAWX S0 ws) (hin : bx_same rxL (bx_mdl rxC242.2.2.1) S0 S) (I0 : bx_Inv rxL S) (hinv : rxILAWX_5 S0 ws S) (l8 : 0 ≤ x8) (u8 : x8 ≤ 0) (l9 : 3 ≤ x9) (u9 : x9 ≤ 3) (l10 : 59 ≤ x10) (u10 : x10 ≤ 59) (e2 : S 480 14 = x8) (e1 : S 480 11 = x9) (e0 : S 480 12 = x10) : (True) ∧ (True) ∧ rxILAWX_6 S0 ws S ∧ rxmLAWX_6 S0 ws S < rxmLAWX_5 S0 ws S := by
  obtain ⟨hI, hx⟩ := hinv
  obtain ⟨a_, b_, c_, d_⟩ := rxc242_5_2 hP hin I0 hI l8 u8 l9 u9 l10 u10 e2 e1 e0
  exact ⟨a_, b_, ⟨c_, ⟨hx, fun z b => (rzDq_sg b (c := 59) (by decide) (by decide)).mp ⟨by omega, by omega⟩⟩⟩, d_⟩
theorem rxcLAWX_5_3 {S0 : Nat → Int → Int} {ws : List Int} {S : Nat → Int → Int} {x8 : Int} (hP : rxPLAWX S0 ws) (hin : bx_same rxL (bx_mdl rxC242.2.2.1) S0 S) (I0 : bx_Inv rxL S) (hinv : rxILAWX_5 S0 ws S) (l8 : 1 ≤ x8) (u8 : x8 ≤ 1) (f0 : x8 ≠ 0) (e0 : S 480 14 = x8) : (True) ∧ (True) ∧ rxILAWX_10 S0 ws S ∧ rxmLAWX_10 S0 ws S < rxmLAWX_5 S0 ws S := by
  obtain ⟨hI, hx⟩ := hinv
  obtain ⟨a_, b_, c_, d_⟩ := rxc242_5_3 hP hin I0 hI l8 u8 f0 e0
  exact ⟨a_, b_, ⟨c_, ⟨hx, fun z b => by omega⟩⟩, d_⟩
theorem rxcLAWX_7_0 {S0 : Nat → Int → Int} {ws : List Int} {S : Nat → Int → Int} (hP : rxPLAWX S0 ws) (hin : bx_same rxL (bx_mdl rxC242.2.2.1) S0 S) (I0 : bx_Inv rxL S) (hinv : rxILAWX_7 S0 ws S)  : (True) ∧ (True) ∧ rxILAWX_8 S0 ws S ∧ rxmLAWX_8 S0 ws S < rxmLAWX_7 S0 ws S := by
  obtain ⟨hI, hx⟩ := hinv
  obtain ⟨a_, b_, c_, d_⟩ := rxc242_7_0 hP hin I0 hI
  exact ⟨a_, b_, ⟨c_, hx⟩, d_⟩
theorem rxcLAWX_9_0 {S0 : Nat → Int → Int} {ws : List Int} {S : Nat → Int → Int} (hP : rxPLAWX S0 ws) (hin : bx_same rxL (bx_mdl rxC242.2.2.1) S0 S) (I0 : bx_Inv rxL S) (hinv : rxILAWX_9 S0 ws S)  : (True) ∧ (True) ∧ rxILAWX_5 S0 ws S ∧ rxmLAWX_5 S0 ws S < rxmLAWX_9 S0 ws S := by
  obtain ⟨hI, hx⟩ := hinv
  obtain ⟨a_, b_, c_, d_⟩ := rxc242_9_0 hP hin I0 hI
  exact ⟨a_, b_, ⟨c_, hx⟩, d_⟩
theorem rxcLAWX_11_0 {S0 : Nat → Int → Int} {ws : List Int} {S : Nat → Int → Int} {x8 x9 : Int} (hP : rxPLAWX S0 ws) (hin : bx_same rxL (bx_mdl rxC242.2.2.1) S0 S) (I0 : bx_Inv rxL S) (hinv : rxILAWX_11 S0 ws S) (l8 : 0 ≤ x8) (u8 : x8 ≤ 0) (l9 : 0 ≤ x9) (u9 : x9 ≤ 6) (e1 : S 480 14 = x8) (e0 : S 482 3 = x9) : ((0 ≤ x9 ∧ x9 ≤ 5) ∧ True) ∧ (True) ∧ rxILAWX_12 S0 ws S x9 ∧ rxmLAWX_12 S0 ws S x9 < rxmLAWX_11 S0 ws S := by
  obtain ⟨hI, hx⟩ := hinv
  obtain ⟨a_, b_, c_, d_⟩ := rxc242_11_0 hP hin I0 hI l8 u8 l9 u9 e1 e0
  exact ⟨a_, b_, ⟨c_, ⟨fun c => by
    obtain ⟨r, r1, r2⟩ := hx.1 c
    rcases r2 with v | v
    · exact ⟨r, r1, v.2⟩
    · omega, hx.2⟩⟩, d_⟩
theorem rxdLAWX_11_0 {S0 : Nat → Int → Int} {ws : List Int} {S : Nat → Int → Int} {x8 x9 x10 : Int} (hP : rxPLAWX S0 ws) (hin : bx_same rxL (bx_mdl rxC242.2.2.1) S0 S) (hin2 : bx_same rxL (bx_mdl rxC242.2.2.1) S (bx_up (bx_up S 480 1 ((-6))) 481 6 x10)) (I0 : bx_Inv rxL S) (I1 : bx_Inv rxL (bx_up (bx_up S 480 1 ((-6))) 481 6 x10)) (hinv : rxILAWX_11 S0 ws S) (l8 : 1 ≤ x8) (u8 : x8 ≤ 1) (l9 : (-2147483648) ≤ x9) (u9 : x9 ≤ 2147483647) (l10 : (-2147483648) ≤ x10) (u10 : x10 ≤ 2147483647) (f0 : x8 ≠ 0) (e3 : S 480 14 = x8) (e1 : (bx_up S 480 1 ((-6))) 481 6 = x9) : (True) ∧ rxPSLAWX S0 ws (bx_up (bx_up S 480 1 ((-6))) 481 6 x10) (some ((-6))) := by
  obtain ⟨hI, hx⟩ := hinv
  obtain ⟨a_, c_⟩ := rxd242_11_0 hP hin hin2 I0 I1 hI l8 u8 l9 u9 l10 u10 f0 e3 e1
  exact ⟨a_, c_, (fun c => by
    obtain ⟨r, r1, r2⟩ := hx.1 c
    have q3 := hI.1.1 3 (by omega) (by omega)
    have q5 := hI.1.2.2
    refine Or.inr ⟨by omega, ((bx_up_ne (by omega)).trans ((bx_up_ne (by omega)))).trans hx.2, r, r1, ?_⟩
    rcases r2 with v | v
    · omega
    · exact Or.inr ⟨v.2.1, rfl, ((bx_up_ne (by omega)).trans ((bx_up_ne (by omega)))).trans v.2.2, ((bx_up_ne (by omega)).trans ((bx_up_ne (by omega)))).trans q3⟩)⟩
theorem rxcLAWX_12_0 {S0 : Nat → Int → Int} {ws : List Int} {S : Nat → Int → Int} {n3 x9 x10 : Int} (hP : rxPLAWX S0 ws) (hin : bx_same rxL (bx_mdl rxC242.2.2.1) S0 S) (I0 : bx_Inv rxL S) (hinv : rxILAWX_12 S0 ws S n3) (l8 : 0 ≤ n3) (u8 : n3 ≤ 5) (l9 : 0 ≤ x9) (u9 : x9 ≤ 4500) (l10 : 0 ≤ x10) (u10 : x10 ≤ 12) (f0 : x9 = 900 * (n3)) (e0 : S 480 16 = x10) : (True) ∧ (True) ∧ rxILAWX_13 S0 ws S (x9 + 780) (x9 + 781) x10 ∧ rxmLAWX_13 S0 ws S (x9 + 780) (x9 + 781) x10 < rxmLAWX_12 S0 ws S n3 := by
  obtain ⟨hI, hx⟩ := hinv
  obtain ⟨a_, b_, c_, d_⟩ := rxc242_12_0 hP hin I0 hI l8 u8 l9 u9 l10 u10 f0 e0
  exact ⟨a_, b_, ⟨c_, hx⟩, d_⟩
theorem rxcLAWX_14_0 {S0 : Nat → Int → Int} {ws : List Int} {S : Nat → Int → Int} {base a v : Int} (hP : rxPLAWX S0 ws) (hin : bx_same rxL (bx_mdl rxC242.2.2.1) S0 S) (I0 : bx_Inv rxL S) (hinv : rxILAWX_14 S0 ws S base a v) (l8 : 780 ≤ base) (u8 : base ≤ 5280) (l9 : 781 ≤ a) (u9 : a ≤ 5281) (l10 : 0 ≤ v) (u10 : v ≤ 12) : (True) ∧ (True) ∧ rxILAWX_15 S0 ws S base 0 ∧ rxmLAWX_15 S0 ws S base 0 < rxmLAWX_14 S0 ws S base a v := by
  obtain ⟨hI, hx⟩ := hinv
  obtain ⟨a_, b_, c_, d_⟩ := rxc242_14_0 hP hin I0 hI l8 u8 l9 u9 l10 u10
  exact ⟨a_, b_, ⟨c_, hx⟩, d_⟩
theorem rxcLAWX_15_0 {S0 : Nat → Int → Int} {ws : List Int} {S : Nat → Int → Int} {base i x10 x11 x12 x13 : Int} (hP : rxPLAWX S0 ws) (hin : bx_same rxL (bx_mdl rxC242.2.2.1) S0 S) (I0 : bx_Inv rxL S) (hinv : rxILAWX_15 S0 ws S base i) (l8 : 780 ≤ base) (u8 : base ≤ 5280) (l9 : 0 ≤ i) (u9 : i ≤ 95) (l10 : 0 ≤ x10) (u10 : x10 ≤ 12) (l11 : 1 ≤ x11) (u11 : x11 ≤ 96) (l12 : 782 ≤ x12) (u12 : x12 ≤ 5377) (l13 : 0 ≤ x13) (u13 : x13 ≤ 400) (f0 : x12 = base + 2 + i) (f1 : i < x11) (f2 : x11 = 8 * (x10)) (e1 : S 480 16 = x10) (e0 : S 486 i = x13) : (True) ∧ (True) ∧ rxILAWX_16 S0 ws S base i x12 x13 ∧ rxmLAWX_16 S0 ws S base i x12 x13 < rxmLAWX_15 S0 ws S base i := by
  obtain ⟨hI, hx⟩ := hinv
  obtain ⟨a_, b_, c_, d_⟩ := rxc242_15_0 hP hin I0 hI l8 u8 l9 u9 l10 u10 l11 u11 l12 u12 l13 u13 f0 f1 f2 e1 e0
  exact ⟨a_, b_, ⟨c_, hx⟩, d_⟩
theorem rxcLAWX_15_1 {S0 : Nat → Int → Int} {ws : List Int} {S : Nat → Int → Int} {base i x10 x11 : Int} (hP : rxPLAWX S0 ws) (hin : bx_same rxL (bx_mdl rxC242.2.2.1) S0 S) (I0 : bx_Inv rxL S) (hinv : rxILAWX_15 S0 ws S base i) (l8 : 780 ≤ base) (u8 : base ≤ 5280) (l9 : 0 ≤ i) (u9 : i ≤ 96) (l10 : 0 ≤ x10) (u10 : x10 ≤ 12) (l11 : 0 ≤ x11) (u11 : x11 ≤ 96) (f0 : x11 ≤ i) (f1 : x11 = 8 * (x10)) (e0 : S 480 16 = x10) : (True) ∧ (True) ∧ rxILAWX_18 S0 ws S base 0 ∧ rxmLAWX_18 S0 ws S base 0 < rxmLAWX_15 S0 ws S base i := by
  obtain ⟨hI, hx⟩ := hinv
  obtain ⟨a_, b_, c_, d_⟩ := rxc242_15_1 hP hin I0 hI l8 u8 l9 u9 l10 u10 l11 u11 f0 f1 e0
  exact ⟨a_, b_, ⟨c_, hx⟩, d_⟩
theorem rxcLAWX_17_0 {S0 : Nat → Int → Int} {ws : List Int} {S : Nat → Int → Int} {base i a v : Int} (hP : rxPLAWX S0 ws) (hin : bx_same rxL (bx_mdl rxC242.2.2.1) S0 S) (I0 : bx_Inv rxL S) (hinv : rxILAWX_17 S0 ws S base i a v) (l8 : 780 ≤ base) (u8 : base ≤ 5280) (l9 : 0 ≤ i) (u9 : i ≤ 95) (l10 : 782 ≤ a) (u10 : a ≤ 5377) (l11 : 0 ≤ v) (u11 : v ≤ 400) : (True) ∧ (True) ∧ rxILAWX_15 S0 ws S base (i + 1) ∧ rxmLAWX_15 S0 ws S base (i + 1) < rxmLAWX_17 S0 ws S base i a v := by
  obtain ⟨hI, hx⟩ := hinv
  obtain ⟨a_, b_, c_, d_⟩ := rxc242_17_0 hP hin I0 hI l8 u8 l9 u9 l10 u10 l11 u11
  exact ⟨a_, b_, ⟨c_, hx⟩, d_⟩
theorem rxcLAWX_18_0 {S0 : Nat → Int → Int} {ws : List Int} {S : Nat → Int → Int} {base i x10 x11 x12 x13 : Int} (hP : rxPLAWX S0 ws) (hin : bx_same rxL (bx_mdl rxC242.2.2.1) S0 S) (I0 : bx_Inv rxL S) (hinv : rxILAWX_18 S0 ws S base i) (l8 : 780 ≤ base) (u8 : base ≤ 5280) (l9 : 0 ≤ i) (u9 : i ≤ 399) (l10 : 1 ≤ x10) (u10 : x10 ≤ 400) (l11 : 0 ≤ x11) (u11 : x11 ≤ 798) (l12 : 878 ≤ x12) (u12 : x12 ≤ 6176) (l13 : 0 ≤ x13) (u13 : x13 ≤ 30) (f0 : x12 = base + 98 + x11) (f1 : x11 = 2 * (i)) (f2 : i < x10) (e1 : S 480 18 = x10) (e0 : S 487 i = x13) : (True) ∧ (True) ∧ rxILAWX_19 S0 ws S base i x12 x13 ∧ rxmLAWX_19 S0 ws S base i x12 x13 < rxmLAWX_18 S0 ws S base i := by
  obtain ⟨hI, hx⟩ := hinv
  obtain ⟨a_, b_, c_, d_⟩ := rxc242_18_0 hP hin I0 hI l8 u8 l9 u9 l10 u10 l11 u11 l12 u12 l13 u13 f0 f1 f2 e1 e0
  exact ⟨a_, b_, ⟨c_, hx⟩, d_⟩
theorem rxcLAWX_18_1 {S0 : Nat → Int → Int} {ws : List Int} {S : Nat → Int → Int} {base i x10 x11 : Int} (hP : rxPLAWX S0 ws) (hin : bx_same rxL (bx_mdl rxC242.2.2.1) S0 S) (I0 : bx_Inv rxL S) (hinv : rxILAWX_18 S0 ws S base i) (l8 : 780 ≤ base) (u8 : base ≤ 5280) (l9 : 0 ≤ i) (u9 : i ≤ 400) (l10 : 0 ≤ x10) (u10 : x10 ≤ 400) (l11 : 0 ≤ x11) (u11 : x11 ≤ 6) (f0 : x10 ≤ i) (e1 : S 480 18 = x10) (e0 : S 482 3 = x11) : ((0 ≤ x11 ∧ x11 ≤ 5) ∧ True) ∧ (True) ∧ rxILAWX_23 S0 ws S x11 ∧ rxmLAWX_23 S0 ws S x11 < rxmLAWX_18 S0 ws S base i := by
  obtain ⟨hI, hx⟩ := hinv
  obtain ⟨a_, b_, c_, d_⟩ := rxc242_18_1 hP hin I0 hI l8 u8 l9 u9 l10 u10 l11 u11 f0 e1 e0
  exact ⟨a_, b_, ⟨c_, ⟨hx.1, hx.2, by
    have hr := hI.2.1.1
    have h5 := hI.2.1.2.2.2.2.1
    have h6 := hI.2.1.2.2.2.2.2
    have q := hr 3 (by omega) (by omega) (Or.inl (by omega))
    exact ⟨by omega, by omega⟩⟩⟩, d_⟩
theorem rxcLAWX_20_0 {S0 : Nat → Int → Int} {ws : List Int} {S : Nat → Int → Int} {base i a v x12 x13 x14 : Int} (hP : rxPLAWX S0 ws) (hin : bx_same rxL (bx_mdl rxC242.2.2.1) S0 S) (I0 : bx_Inv rxL S) (hinv : rxILAWX_20 S0 ws S base i a v) (l8 : 780 ≤ base) (u8 : base ≤ 5280) (l9 : 0 ≤ i) (u9 : i ≤ 399) (l10 : 878 ≤ a) (u10 : a ≤ 6176) (l11 : 0 ≤ v) (u11 : v ≤ 30) (l12 : 0 ≤ x12) (u12 : x12 ≤ 798) (l13 : 878 ≤ x13) (u13 : x13 ≤ 6176) (l14 : 0 ≤ x14) (u14 : x14 ≤ 1000) (f0 : x13 = base + 98 + x12) (f1 : x12 = 2 * (i)) (e0 : S 488 i = x14) : (True) ∧ (True) ∧ rxILAWX_21 S0 ws S base i (x13 + 1) x14 ∧ rxmLAWX_21 S0 ws S base i (x13 + 1) x14 < rxmLAWX_20 S0 ws S base i a v := by
  obtain ⟨hI, hx⟩ := hinv
  obtain ⟨a_, b_, c_, d_⟩ := rxc242_20_0 hP hin I0 hI l8 u8 l9 u9 l10 u10 l11 u11 l12 u12 l13 u13 l14 u14 f0 f1 e0
  exact ⟨a_, b_, ⟨c_, hx⟩, d_⟩
theorem rxcLAWX_22_0 {S0 : Nat → Int → Int} {ws : List Int} {S : Nat → Int → Int} {base i a v : Int} (hP : rxPLAWX S0 ws) (hin : bx_same rxL (bx_mdl rxC242.2.2.1) S0 S) (I0 : bx_Inv rxL S) (hinv : rxILAWX_22 S0 ws S base i a v) (l8 : 780 ≤ base) (u8 : base ≤ 5280) (l9 : 0 ≤ i) (u9 : i ≤ 399) (l10 : 879 ≤ a) (u10 : a ≤ 6177) (l11 : 0 ≤ v) (u11 : v ≤ 1000) : (True) ∧ (True) ∧ rxILAWX_18 S0 ws S base (i + 1) ∧ rxmLAWX_18 S0 ws S base (i + 1) < rxmLAWX_22 S0 ws S base i a v := by
  obtain ⟨hI, hx⟩ := hinv
  obtain ⟨a_, b_, c_, d_⟩ := rxc242_22_0 hP hin I0 hI l8 u8 l9 u9 l10 u10 l11 u11
  exact ⟨a_, b_, ⟨c_, hx⟩, d_⟩
theorem rxdLAWX_23_0 {S0 : Nat → Int → Int} {ws : List Int} {S : Nat → Int → Int} {n3 : Int} (hP : rxPLAWX S0 ws) (hin : bx_same rxL (bx_mdl rxC242.2.2.1) S0 S) (hin2 : bx_same rxL (bx_mdl rxC242.2.2.1) S (bx_up (bx_up S 482 3 (n3 + 1)) 480 1 0)) (I0 : bx_Inv rxL S) (I1 : bx_Inv rxL (bx_up (bx_up S 482 3 (n3 + 1)) 480 1 0)) (hinv : rxILAWX_23 S0 ws S n3) (l8 : 0 ≤ n3) (u8 : n3 ≤ 5) : (True) ∧ rxPSLAWX S0 ws (bx_up (bx_up S 482 3 (n3 + 1)) 480 1 0) (some n3) := by
  obtain ⟨hI, hx⟩ := hinv
  obtain ⟨a_, c_⟩ := rxd242_23_0 hP hin hin2 I0 I1 hI l8 u8
  exact ⟨a_, c_, (fun c => by
    obtain ⟨r, r1, r2, r3⟩ := hx.1 c
    obtain ⟨h8, hn, h6⟩ := hx.2
    exact Or.inr ⟨h6, ((bx_up_ne (by omega)).trans ((bx_up_ne (by omega)))).trans h8, r, r1, Or.inl ⟨r2, congrArg some hn, ((bx_up_ne (by omega)).trans ((bx_up_ne (by omega)))).trans r3, ((bx_up_ne (by omega)).trans (bx_up_at)).trans (by omega)⟩⟩)⟩
/-! CONTRACT BY HAND, by program (wip/sim/genhand.py): DeadUnderstudiesModel.play -/
def rxIPLAYX_0 (S0 : Nat → Int → Int) (ws : List Int) (S : Nat → Int → Int) (part : Int) : Prop := rxI240_0 S0 ws S part ∧ True
def rxmPLAYX_0 (S0 : Nat → Int → Int) (ws : List Int) (S : Nat → Int → Int) (part : Int) : Nat := rxm240_0 S0 ws S part
def rxIPLAYX_1 (S0 : Nat → Int → Int) (ws : List Int) (S : Nat → Int → Int) (part : Int) : Prop := rxI240_1 S0 ws S part ∧ ((ws = [480, part] ∧ 0 ≤ part ∧ part < S0 482 0) ∧ (rzBg S0 S))
def rxmPLAYX_1 (S0 : Nat → Int → Int) (ws : List Int) (S : Nat → Int → Int) (part : Int) : Nat := rxm240_1 S0 ws S part
def rxIPLAYX_2 (S0 : Nat → Int → Int) (ws : List Int) (S : Nat → Int → Int) (part : Int) : Prop := rxI240_2 S0 ws S part ∧ ((ws = [480, part] ∧ 0 ≤ part ∧ part < S0 482 0) ∧ (rzCk S0 → rzRj S0 S 1 (rzTx (rzCl (decide ((1 : Int) = 1)) (rzCut (S0 485)) (S0 480 8)) (rzCut (S0 485)) (S0 480 8) (12 - S 480 16).toNat)))
def rxmPLAYX_2 (S0 : Nat → Int → Int) (ws : List Int) (S : Nat → Int → Int) (part : Int) : Nat := rxm240_2 S0 ws S part
def rxIPLAYX_3 (S0 : Nat → Int → Int) (ws : List Int) (S : Nat → Int → Int) (part : Int) : Prop := rxI240_3 S0 ws S part ∧ ((ws = [480, part] ∧ 0 ≤ part ∧ part < S0 482 0) ∧ (rzCk S0 → rzRj S0 S 1 (rzTx (rzCl (decide ((1 : Int) = 1)) (rzCut (S0 485)) (S0 480 8)) (rzCut (S0 485)) (S0 480 8) (12 - S 480 16).toNat)))
def rxmPLAYX_3 (S0 : Nat → Int → Int) (ws : List Int) (S : Nat → Int → Int) (part : Int) : Nat := rxm240_3 S0 ws S part
def rxIPLAYX_4 (S0 : Nat → Int → Int) (ws : List Int) (S : Nat → Int → Int) (part : Int) : Prop := rxI240_4 S0 ws S part ∧ ((ws = [480, part] ∧ 0 ≤ part ∧ part < S0 482 0) ∧ (rzCk S0 → rzRj S0 S 1 (rzNx (decide ((1 : Int) = 1)) (rzCut (S0 485)) (S0 480 8) (12 - S 480 16).toNat)))
def rxmPLAYX_4 (S0 : Nat → Int → Int) (ws : List Int) (S : Nat → Int → Int) (part : Int) : Nat := rxm240_4 S0 ws S part
def rxIPLAYX_5 (S0 : Nat → Int → Int) (ws : List Int) (S : Nat → Int → Int) (part : Int) : Prop := rxI240_5 S0 ws S part ∧ ((ws = [480, part] ∧ 0 ≤ part ∧ part < S0 482 0) ∧ (rzCk S0 → rzRj S0 S 1 (rzNx (decide ((1 : Int) = 1)) (rzCut (S0 485)) (S0 480 8) (12 - S 480 16).toNat)))
def rxmPLAYX_5 (S0 : Nat → Int → Int) (ws : List Int) (S : Nat → Int → Int) (part : Int) : Nat := rxm240_5 S0 ws S part
def rxIPLAYX_6 (S0 : Nat → Int → Int) (ws : List Int) (S : Nat → Int → Int) (part : Int) : Prop := rxI240_6 S0 ws S part ∧ ((ws = [480, part] ∧ 0 ≤ part ∧ part < S0 482 0) ∧ ((rzCk S0 → rzRj S0 S 1 (rzNx (decide ((1 : Int) = 1)) (rzCut (S0 485)) (S0 480 8) (12 - S 480 16).toNat)) ∧ (S 480 14 = 0 → rzDq S → rzSg (rzCut (S 485)) (S 480 8) 59 (S 480 9) = true)))
def rxmPLAYX_6 (S0 : Nat → Int → Int) (ws : List Int) (S : Nat → Int → Int) (part : Int) : Nat := rxm240_6 S0 ws S part
def rxIPLAYX_7 (S0 : Nat → Int → Int) (ws : List Int) (S : Nat → Int → Int) (part : Int) : Prop := rxI240_7 S0 ws S part ∧ ((ws = [480, part] ∧ 0 ≤ part ∧ part < S0 482 0) ∧ (rzCk S0 → rzRj S0 S 1 (rzTx (rzCl (decide ((1 : Int) = 1)) (rzCut (S0 485)) (S0 480 8)) (rzCut (S0 485)) (S0 480 8) (12 - S 480 16).toNat)))
def rxmPLAYX_7 (S0 : Nat → Int → Int) (ws : List Int) (S : Nat → Int → Int) (part : Int) : Nat := rxm240_7 S0 ws S part
def rxIPLAYX_8 (S0 : Nat → Int → Int) (ws : List Int) (S : Nat → Int → Int) (part : Int) : Prop := rxI240_8 S0 ws S part ∧ ((ws = [480, part] ∧ 0 ≤ part ∧ part < S0 482 0) ∧ (rzCk S0 → rzRj S0 S 1 (rzTx (rzCl (decide ((1 : Int) = 1)) (rzCut (S0 485)) (S0 480 8)) (rzCut (S0 485)) (S0 480 8) (12 - S 480 16).toNat)))
def rxmPLAYX_8 (S0 : Nat → Int → Int) (ws : List Int) (S : Nat → Int → Int) (part : Int) : Nat := rxm240_8 S0 ws S part
def rxIPLAYX_9 (S0 : Nat → Int → Int) (ws : List Int) (S : Nat → Int → Int) (part : Int) : Prop := rxI240_9 S0 ws S part ∧ ((ws = [480, part] ∧ 0 ≤ part ∧ part < S0 482 0) ∧ (rzCk S0 → rzRj S0 S 1 (rzNx (decide ((1 : Int) = 1)) (rzCut (S0 485)) (S0 480 8) (12 - S 480 16).toNat)))
def rxmPLAYX_9 (S0 : Nat → Int → Int) (ws : List Int) (S : Nat → Int → Int) (part : Int) : Nat := rxm240_9 S0 ws S part
def rxIPLAYX_10 (S0 : Nat → Int → Int) (ws : List Int) (S : Nat → Int → Int) (part : Int) : Prop := rxI240_10 S0 ws S part ∧ ((ws = [480, part] ∧ 0 ≤ part ∧ part < S0 482 0) ∧ ((rzCk S0 → rzRj S0 S 1 (rzNx (decide ((1 : Int) = 1)) (rzCut (S0 485)) (S0 480 8) (12 - S 480 16).toNat)) ∧ (S 480 14 = 0 → rzDq S → rzSg (rzCut (S 485)) (S 480 8) 59 (S 480 9) = false)))
def rxmPLAYX_10 (S0 : Nat → Int → Int) (ws : List Int) (S : Nat → Int → Int) (part : Int) : Nat := rxm240_10 S0 ws S part
def rxIPLAYX_11 (S0 : Nat → Int → Int) (ws : List Int) (S : Nat → Int → Int) (part : Int) : Prop := rxI240_11 S0 ws S part ∧ ((ws = [480, part] ∧ 0 ≤ part ∧ part < S0 482 0) ∧ ((rzCk S0 → rzTz S0 S 1) ∧ S 480 8 = 0))
def rxmPLAYX_11 (S0 : Nat → Int → Int) (ws : List Int) (S : Nat → Int → Int) (part : Int) : Nat := rxm240_11 S0 ws S part
def rxIPLAYX_12 (S0 : Nat → Int → Int) (ws : List Int) (S : Nat → Int → Int) (part n at_ : Int) : Prop := rxI240_12 S0 ws S part n at_ ∧ (ws = [480, part] ∧ 0 ≤ part ∧ part < S0 482 0 ∧ (rzCk S0 → ∃ r : rzR, rzText (decide ((1 : Int) = 1)) (rzCut (S0 485)) (S0 480 8) r ∧ r.1 = true ∧ S 480 13 = -1) ∧ S 480 8 = 0)
def rxmPLAYX_12 (S0 : Nat → Int → Int) (ws : List Int) (S : Nat → Int → Int) (part n at_ : Int) : Nat := rxm240_12 S0 ws S part n at_
def rxPPLAYX (S0 : Nat → Int → Int) (ws : List Int) : Prop := rxP240 S0 ws
def rxPSPLAYX (S0 : Nat → Int → Int) (ws : List Int) (S : Nat → Int → Int) (w : Option Int) : Prop := rxPS240 S0 ws S w ∧ (rzCk S0 → ∃ part : Int, ws = [480, part] ∧ (((part < 0 ∨ S0 482 0 ≤ part) ∧ S 480 8 = S0 480 8 ∧ S 480 13 = S0 480 13) ∨ (0 ≤ part ∧ part < S0 482 0 ∧ S 480 8 = 0 ∧ ∃ r : rzR, rzText (decide ((1 : Int) = 1)) (rzCut (S0 485)) (S0 480 8) r ∧ ((r.1 = true ∧ S 480 13 = -1) ∨ (r.1 = false ∧ S 480 13 = r.2.1)))))
theorem rxkPLAYX_1 {S0 : Nat → Int → Int} {ws : List Int} {S : Nat → Int → Int} {part : Int} (hP : rxPPLAYX S0 ws) (hin : bx_same rxL (bx_mdl rxC240.2.2.1) S0 S) (I0 : bx_Inv rxL S) (hinv : rxIPLAYX_1 S0 ws S part) (l8 : 0 ≤ part) (u8 : part ≤ 5) : rxPBXW S [480, 1] ∧ ∀ (S_p : Nat → Int → Int), rxPSBXW S [480, 1] S_p none → bx_Inv rxL S_p → bx_same rxL (bx_mdl rxCBXW.2.2.1) S S_p → rxIPLAYX_2 S0 ws S_p part ∧ rxmPLAYX_2 S0 ws S_p part < rxmPLAYX_1 S0 ws S part := by
  obtain ⟨hI, hx⟩ := hinv
  have g_ := rxk240_1 hP hin I0 hI l8 u8
  exact ⟨g_.1, fun S_p hq I1 hsm => ⟨⟨(g_.2 S_p hq.2.1 I1 hsm).1, (by
    obtain ⟨hpt, hx⟩ := hx
    exact ⟨hpt, (fun c => by
      obtain ⟨g1, g13, gd, ge, g21⟩ := hq.2.2
      rw [hx.1, hx.2.1] at ge
      obtain ⟨-, -, o14, o16, -, z2, hz2, o15⟩ := hq.2.1
      have ez : (1 : Int) = z2 := Option.some.inj (congrArg (fun l : List Int => l[1]?) hz2)
      rw [show (12 - S_p 480 16).toNat = 12 by omega]
      exact rzRj_0 c ⟨g1.1.trans hx.1, g1.2.1.trans hx.2.1, fun c => g1.2.2 (hx.2.2 c)⟩ g13 (by omega) gd ge g21 o14)⟩)⟩, (g_.2 S_p hq.2.1 I1 hsm).2⟩⟩
theorem rxkPLAYX_3 {S0 : Nat → Int → Int} {ws : List Int} {S : Nat → Int → Int} {part : Int} (hP : rxPPLAYX S0 ws) (hin : bx_same rxL (bx_mdl rxC240.2.2.1) S0 S) (I0 : bx_Inv rxL S) (hinv : rxIPLAYX_3 S0 ws S part) (l8 : 0 ≤ part) (u8 : part ≤ 5) : rxPRYW S [480] ∧ ∀ (S_p : Nat → Int → Int), rxPSRYW S [480] S_p none → bx_Inv rxL S_p → bx_same rxL (bx_mdl rxCRYW.2.2.1) S S_p → rxIPLAYX_4 S0 ws S_p part ∧ rxmPLAYX_4 S0 ws S_p part < rxmPLAYX_3 S0 ws S part := by
  obtain ⟨hI, hx⟩ := hinv
  have g_ := rxk240_3 hP hin I0 hI l8 u8
  exact ⟨g_.1, fun S_p hq I1 hsm => ⟨⟨(g_.2 S_p hq.2.1 I1 hsm).1, (by
    obtain ⟨hpt, hx⟩ := hx
    exact ⟨hpt, (fun c => by
      have z0 : S 480 14 = 0 := hI.2.1
      have h := hx c
      obtain ⟨q1, q2, q3, q4, q5, q6⟩ := rzRj_q h z0
      have x := hq.2.2 q1 q2 (by unfold rzWr; rw [q3]; exact if_pos rfl)
      rw [q4, q5] at x
      refine rzRj_co h z0 x hq.2.1.2.2 (fun n12 r p => ?_) fun n12 r p => ?_
      · rw [rzCl_z1]
        rcases p with p | p
        · exact p.2
        · exact absurd n12 (of_decide_eq_false p.1)
      · rcases p with p | p
        · exact absurd (of_decide_eq_true p.1) n12
        · exact p.2)⟩)⟩, (g_.2 S_p hq.2.1 I1 hsm).2⟩⟩
theorem rxkPLAYX_6 {S0 : Nat → Int → Int} {ws : List Int} {S : Nat → Int → Int} {part : Int} (hP : rxPPLAYX S0 ws) (hin : bx_same rxL (bx_mdl rxC240.2.2.1) S0 S) (I0 : bx_Inv rxL S) (hinv : rxIPLAYX_6 S0 ws S part) (l8 : 0 ≤ part) (u8 : part ≤ 5) : rxPNXX S [480] ∧ ∀ (S_p : Nat → Int → Int), rxPSNXX S [480] S_p none → bx_Inv rxL S_p → bx_same rxL (bx_mdl rxCNXX.2.2.1) S S_p → rxIPLAYX_7 S0 ws S_p part ∧ rxmPLAYX_7 S0 ws S_p part < rxmPLAYX_6 S0 ws S part := by
  obtain ⟨hI, hx⟩ := hinv
  have g_ := rxk240_6 hP hin I0 hI l8 u8
  exact ⟨g_.1, fun S_p hq I1 hsm => ⟨⟨(g_.2 S_p hq.2.1 I1 hsm).1, (by
    obtain ⟨hpt, hx⟩ := hx
    exact ⟨hpt, (fun c => by
      have z0 : S 480 14 = 0 := hI.2
      have h := hx.1 c
      obtain ⟨q1, q2, q3, q4, q5, q6⟩ := rzRj_q h z0
      have hs := hx.2 z0 q2
      rw [q4, q5] at hs
      have e16 : S_p 480 16 = S 480 16 := hsm 480 16 (by decide) (by decide) (by decide +kernel)
      rw [e16]
      exact rzRj_nx h z0 (show S_p 480 14 = S 480 14 from hsm 480 14 (by decide) (by decide) (by decide +kernel)) (show S_p 480 21 = S 480 21 from hsm 480 21 (by decide) (by decide) (by decide +kernel)) (rzKr_of hsm (by decide +kernel)) hq.2.2.1 hq.2.2.2 fun f lf r e1 e2 q => Or.inl ⟨by rw [e1]; exact hs, q⟩)⟩)⟩, (g_.2 S_p hq.2.1 I1 hsm).2⟩⟩
theorem rxkPLAYX_8 {S0 : Nat → Int → Int} {ws : List Int} {S : Nat → Int → Int} {part : Int} (hP : rxPPLAYX S0 ws) (hin : bx_same rxL (bx_mdl rxC240.2.2.1) S0 S) (I0 : bx_Inv rxL S) (hinv : rxIPLAYX_8 S0 ws S part) (l8 : 0 ≤ part) (u8 : part ≤ 5) : rxPRYW S [480] ∧ ∀ (S_p : Nat → Int → Int), rxPSRYW S [480] S_p none → bx_Inv rxL S_p → bx_same rxL (bx_mdl rxCRYW.2.2.1) S S_p → rxIPLAYX_9 S0 ws S_p part ∧ rxmPLAYX_9 S0 ws S_p part < rxmPLAYX_8 S0 ws S part := by
  obtain ⟨hI, hx⟩ := hinv
  have g_ := rxk240_8 hP hin I0 hI l8 u8
  exact ⟨g_.1, fun S_p hq I1 hsm => ⟨⟨(g_.2 S_p hq.2.1 I1 hsm).1, (by
    obtain ⟨hpt, hx⟩ := hx
    exact ⟨hpt, (fun c => by
      have z0 : S 480 14 = 0 := hI.2
      have h := hx c
      obtain ⟨q1, q2, q3, q4, q5, q6⟩ := rzRj_q h z0
      have x := hq.2.2 q1 q2 (by unfold rzWr; rw [q3]; exact if_pos rfl)
      rw [q4, q5] at x
      refine rzRj_co h z0 x hq.2.1.2.2 (fun n12 r p => ?_) fun n12 r p => ?_
      · rw [rzCl_z1]
        rcases p with p | p
        · exact p.2
        · exact absurd n12 (of_decide_eq_false p.1)
      · rcases p with p | p
        · exact absurd (of_decide_eq_true p.1) n12
        · exact p.2)⟩)⟩, (g_.2 S_p hq.2.1 I1 hsm).2⟩⟩
theorem rxkPLAYX_10 {S0 : Nat → Int → Int} {ws : List Int} {S : Nat → Int → Int} {part : Int} (hP : rxPPLAYX S0 ws) (hin : bx_same rxL (bx_mdl rxC240.2.2.1) S0 S) (I0 : bx_Inv rxL S) (hinv : rxIPLAYX_10 S0 ws S part) (l8 : 0 ≤ part) (u8 : part ≤ 5) : rxPETW S [480] ∧ ∀ (S_p : Nat → Int → Int), rxPSETW S [480] S_p none → bx_Inv rxL S_p → bx_same rxL (bx_mdl rxCETW.2.2.1) S S_p → rxIPLAYX_11 S0 ws S_p part ∧ rxmPLAYX_11 S0 ws S_p part < rxmPLAYX_10 S0 ws S part := by
  obtain ⟨hI, hx⟩ := hinv
  have g_ := rxk240_10 hP hin I0 hI l8 u8
  exact ⟨g_.1, fun S_p hq I1 hsm => ⟨⟨(g_.2 S_p hq.2.1 I1 hsm).1, (by
    obtain ⟨hpt, hx⟩ := hx
    exact ⟨hpt, ⟨fun c => rzRj_et (hx.1 c) (fun z0 => hx.2 z0 (rzRj_q (hx.1 c) z0).2.1) hq.2.2.1, hq.2.2.2⟩⟩)⟩, (g_.2 S_p hq.2.1 I1 hsm).2⟩⟩
theorem rxcPLAYX_0_0 {S0 : Nat → Int → Int} {ws : List Int} {S : Nat → Int → Int} {part x9 : Int} (hP : rxPPLAYX S0 ws) (hin : bx_same rxL (bx_mdl rxC240.2.2.1) S0 S) (I0 : bx_Inv rxL S) (hinv : rxIPLAYX_0 S0 ws S part) (l8 : 0 ≤ part) (u8 : part ≤ 5) (l9 : 1 ≤ x9) (u9 : x9 ≤ 6) (f0 : part ≤ x9 + (-1)) (e0 : (bx_up S 480 0 0) 482 0 = x9) : (True) ∧ (True) ∧ rxIPLAYX_1 S0 ws (bx_up S 480 0 0) part ∧ rxmPLAYX_1 S0 ws (bx_up S 480 0 0) part < rxmPLAYX_0 S0 ws S part := by
  obtain ⟨hI, hx⟩ := hinv
  obtain ⟨a_, b_, c_, d_⟩ := rxc240_0_0 hP hin I0 hI l8 u8 l9 u9 f0 e0
  exact ⟨a_, b_, ⟨c_, (by
    have e := hI.1
    have hw := hI.2
    subst e
    have e0 := (show _ = S 482 0 from (bx_up_ne (by omega))).symm.trans e0
    exact ⟨⟨hw, by omega, by omega⟩, ⟨congrArg rzCut (funext fun _ => (bx_up_ne (by omega))), (bx_up_ne (by omega)), fun c => rzCk_c c (funext fun _ => (bx_up_ne (by omega))) (funext fun _ => (bx_up_ne (by omega)))⟩⟩)⟩, d_⟩
theorem rxcPLAYX_2_0 {S0 : Nat → Int → Int} {ws : List Int} {S : Nat → Int → Int} {part : Int} (hP : rxPPLAYX S0 ws) (hin : bx_same rxL (bx_mdl rxC240.2.2.1) S0 S) (I0 : bx_Inv rxL S) (hinv : rxIPLAYX_2 S0 ws S part) (l8 : 0 ≤ part) (u8 : part ≤ 5) : (True) ∧ (True) ∧ rxIPLAYX_3 S0 ws S part ∧ rxmPLAYX_3 S0 ws S part < rxmPLAYX_2 S0 ws S part := by
  obtain ⟨hI, hx⟩ := hinv
  obtain ⟨a_, b_, c_, d_⟩ := rxc240_2_0 hP hin I0 hI l8 u8
  exact ⟨a_, b_, ⟨c_, (by
    obtain ⟨hpt, hx⟩ := hx
    exact ⟨hpt, hx⟩)⟩, d_⟩
theorem rxcPLAYX_4_0 {S0 : Nat → Int → Int} {ws : List Int} {S : Nat → Int → Int} {part x9 x10 : Int} (hP : rxPPLAYX S0 ws) (hin : bx_same rxL (bx_mdl rxC240.2.2.1) S0 S) (I0 : bx_Inv rxL S) (hinv : rxIPLAYX_4 S0 ws S part) (l8 : 0 ≤ part) (u8 : part ≤ 5) (l9 : 0 ≤ x9) (u9 : x9 ≤ 0) (l10 : 0 ≤ x10) (u10 : x10 ≤ 2) (f0 : x10 ≠ 3) (e1 : S 480 14 = x9) (e0 : S 480 11 = x10) : (True) ∧ (True) ∧ rxIPLAYX_10 S0 ws S part ∧ rxmPLAYX_10 S0 ws S part < rxmPLAYX_4 S0 ws S part := by
  obtain ⟨hI, hx⟩ := hinv
  obtain ⟨a_, b_, c_, d_⟩ := rxc240_4_0 hP hin I0 hI l8 u8 l9 u9 l10 u10 f0 e1 e0
  exact ⟨a_, b_, ⟨c_, (by
    obtain ⟨hpt, hx⟩ := hx
    exact ⟨hpt, ⟨hx, fun z b => rzDq_ns b (c := 59) (by decide) (by decide) (by omega)⟩⟩)⟩, d_⟩
theorem rxcPLAYX_4_1 {S0 : Nat → Int → Int} {ws : List Int} {S : Nat → Int → Int} {part x9 x10 x11 : Int} (hP : rxPPLAYX S0 ws) (hin : bx_same rxL (bx_mdl rxC240.2.2.1) S0 S) (I0 : bx_Inv rxL S) (hinv : rxIPLAYX_4 S0 ws S part) (l8 : 0 ≤ part) (u8 : part ≤ 5) (l9 : 0 ≤ x9) (u9 : x9 ≤ 0) (l10 : 3 ≤ x10) (u10 : x10 ≤ 3) (l11 : (-9223372036854775808) ≤ x11) (u11 : x11 ≤ 9223372036854775807) (f0 : x11 ≠ 59) (e2 : S 480 14 = x9) (e1 : S 480 11 = x10) (e0 : S 480 12 = x11) : (True) ∧ (True) ∧ rxIPLAYX_10 S0 ws S part ∧ rxmPLAYX_10 S0 ws S part < rxmPLAYX_4 S0 ws S part := by
  obtain ⟨hI, hx⟩ := hinv
  obtain ⟨a_, b_, c_, d_⟩ := rxc240_4_1 hP hin I0 hI l8 u8 l9 u9 l10 u10 l11 u11 f0 e2 e1 e0
  exact ⟨a_, b_, ⟨c_, (by
    obtain ⟨hpt, hx⟩ := hx
    exact ⟨hpt, ⟨hx, fun z b => rzDq_ns b (c := 59) (by decide) (by decide) (by omega)⟩⟩)⟩, d_⟩
theorem rxcPLAYX_4_2 {S0 : Nat → Int → Int} {ws : List Int} {S : Nat → Int → Int} {part x9 x10 x11 : Int} (hP : rxPPLAYX S0 ws) (hin : bx_same rxL (bx_mdl rxC240.2.2.1) S0 S) (I0 : bx_Inv rxL S) (hinv : rxIPLAYX_4 S0 ws S part) (l8 : 0 ≤ part) (u8 : part ≤ 5) (l9 : 0 ≤ x9) (u9 : x9 ≤ 0) (l10 : 3 ≤ x10) (u10 : x10 ≤ 3) (l11 : 59 ≤ x11) (u11 : x11 ≤ 59) (e2 : S 480 14 = x9) (e1 : S 480 11 = x10) (e0 : S 480 12 = x11) : (True) ∧ (True) ∧ rxIPLAYX_6 S0 ws S part ∧ rxmPLAYX_6 S0 ws S part < rxmPLAYX_4 S0 ws S part := by
  obtain ⟨hI, hx⟩ := hinv
  obtain ⟨a_, b_, c_, d_⟩ := rxc240_4_2 hP hin I0 hI l8 u8 l9 u9 l10 u10 l11 u11 e2 e1 e0
  exact ⟨a_, b_, ⟨c_, (by
    obtain ⟨hpt, hx⟩ := hx
    exact ⟨hpt, ⟨hx, fun z b => (rzDq_sg b (c := 59) (by decide) (by decide)).mp ⟨by omega, by omega⟩⟩⟩)⟩, d_⟩
theorem rxcPLAYX_4_3 {S0 : Nat → Int → Int} {ws : List Int} {S : Nat → Int → Int} {part x9 : Int} (hP : rxPPLAYX S0 ws) (hin : bx_same rxL (bx_mdl rxC240.2.2.1) S0 S) (I0 : bx_Inv rxL S) (hinv : rxIPLAYX_4 S0 ws S part) (l8 : 0 ≤ part) (u8 : part ≤ 5) (l9 : 1 ≤ x9) (u9 : x9 ≤ 1) (f0 : x9 ≠ 0) (e0 : S 480 14 = x9) : (True) ∧ (True) ∧ rxIPLAYX_10 S0 ws S part ∧ rxmPLAYX_10 S0 ws S part < rxmPLAYX_4 S0 ws S part := by
  obtain ⟨hI, hx⟩ := hinv
  obtain ⟨a_, b_, c_, d_⟩ := rxc240_4_3 hP hin I0 hI l8 u8 l9 u9 f0 e0
  exact ⟨a_, b_, ⟨c_, (by
    obtain ⟨hpt, hx⟩ := hx
    exact ⟨hpt, ⟨hx, fun z b => by omega⟩⟩)⟩, d_⟩
theorem rxcPLAYX_5_0 {S0 : Nat → Int → Int} {ws : List Int} {S : Nat → Int → Int} {part x9 x10 : Int} (hP : rxPPLAYX S0 ws) (hin : bx_same rxL (bx_mdl rxC240.2.2.1) S0 S) (I0 : bx_Inv rxL S) (hinv : rxIPLAYX_5 S0 ws S part) (l8 : 0 ≤ part) (u8 : part ≤ 5) (l9 : 0 ≤ x9) (u9 : x9 ≤ 0) (l10 : 0 ≤ x10) (u10 : x10 ≤ 2) (f0 : x10 ≠ 3) (e1 : S 480 14 = x9) (e0 : S 480 11 = x10) : (True) ∧ (True) ∧ rxIPLAYX_10 S0 ws S part ∧ rxmPLAYX_10 S0 ws S part < rxmPLAYX_5 S0 ws S part := by
  obtain ⟨hI, hx⟩ := hinv
  obtain ⟨a_, b_, c_, d_⟩ := rxc240_5_0 hP hin I0 hI l8 u8 l9 u9 l10 u10 f0 e1 e0
  exact ⟨a_, b_, ⟨c_, (by
    obtain ⟨hpt, hx⟩ := hx
    exact ⟨hpt, ⟨hx, fun z b => rzDq_ns b (c := 59) (by decide) (by decide) (by omega)⟩⟩)⟩, d_⟩
theorem rxcPLAYX_5_1 {S0 : Nat → Int → Int} {ws : List Int} {S : Nat → Int → Int} {part x9 x10 x11 : Int} (hP : rxPPLAYX S0 ws) (hin : bx_same rxL (bx_mdl rxC240.2.2.1) S0 S) (I0 : bx_Inv rxL S) (hinv : rxIPLAYX_5 S0 ws S part) (l8 : 0 ≤ part) (u8 : part ≤ 5) (l9 : 0 ≤ x9) (u9 : x9 ≤ 0) (l10 : 3 ≤ x10) (u10 : x10 ≤ 3) (l11 : (-9223372036854775808) ≤ x11) (u11 : x11 ≤ 9223372036854775807) (f0 : x11 ≠ 59) (e2 : S 480 14 = x9) (e1 : S 480 11 = x10) (e0 : S 480 12 = x11) : (True) ∧ (True) ∧ rxIPLAYX_10 S0 ws S part ∧ rxmPLAYX_10 S0 ws S part < rxmPLAYX_5 S0 ws S part := by
  obtain ⟨hI, hx⟩ := hinv
  obtain ⟨a_, b_, c_, d_⟩ := rxc240_5_1 hP hin I0 hI l8 u8 l9 u9 l10 u10 l11 u11 f0 e2 e1 e0
  exact ⟨a_, b_, ⟨c_, (by
    obtain ⟨hpt, hx⟩ := hx
    exact ⟨hpt, ⟨hx, fun z b => rzDq_ns b (c := 59) (by decide) (by decide) (by omega)⟩⟩)⟩, d_⟩
theorem rxcPLAYX_5_2 {S0 : Nat → Int → Int} {ws : List Int} {S : Nat → Int → Int} {part x9 x10 x11 : Int} (hP : rxPPLAYX S0 ws) (hin : bx_same rxL (bx_mdl rxC240.2.2.1) S0 S) (I0 : bx_Inv rxL S) (hinv : rxIPLAYX_5 S0 ws S part) (l8 : 0 ≤ part) (u8 : part ≤ 5) (l9 : 0 ≤ x9) (u9 : x9 ≤ 0) (l10 : 3 ≤ x10) (u10 : x10 ≤ 3) (l11 : 59 ≤ x11) (u11 : x11 ≤ 59) (e2 : S 480 14 = x9) (e1 : S 480 11 = x10) (e0 : S 480 12 = x11) : (True) ∧ (True) ∧ rxIPLAYX_6 S0 ws S part ∧ rxmPLAYX_6 S0 ws S part < rxmPLAYX_5 S0 ws S part := by
  obtain ⟨hI, hx⟩ := hinv
  obtain ⟨a_, b_, c_, d_⟩ := rxc240_5_2 hP hin I0 hI l8 u8 l9 u9 l10 u10 l11 u11 e2 e1 e0
  exact ⟨a_, b_, ⟨c_, (by
    obtain ⟨hpt, hx⟩ := hx
    exact ⟨hpt, ⟨hx, fun z b => (rzDq_sg b (c := 59) (by decide) (by decide)).mp ⟨by omega, by omega⟩⟩⟩)⟩, d_⟩
theorem rxcPLAYX_5_3 {S0 : Nat → Int → Int} {ws : List Int} {S : Nat → Int → Int} {part x9 : Int} (hP : rxPPLAYX S0 ws) (hin : bx_same rxL (bx_mdl rxC240.2.2.1) S0 S) (I0 : bx_Inv rxL S) (hinv : rxIPLAYX_5 S0 ws S part) (l8 : 0 ≤ part) (u8 : part ≤ 5) (l9 : 1 ≤ x9) (u9 : x9 ≤ 1) (f0 : x9 ≠ 0) (e0 : S 480 14 = x9) : (True) ∧ (True) ∧ rxIPLAYX_10 S0 ws S part ∧ rxmPLAYX_10 S0 ws S part < rxmPLAYX_5 S0 ws S part := by
  obtain ⟨hI, hx⟩ := hinv
  obtain ⟨a_, b_, c_, d_⟩ := rxc240_5_3 hP hin I0 hI l8 u8 l9 u9 f0 e0
  exact ⟨a_, b_, ⟨c_, (by
    obtain ⟨hpt, hx⟩ := hx
    exact ⟨hpt, ⟨hx, fun z b => by omega⟩⟩)⟩, d_⟩
theorem rxcPLAYX_7_0 {S0 : Nat → Int → Int} {ws : List Int} {S : Nat → Int → Int} {part : Int} (hP : rxPPLAYX S0 ws) (hin : bx_same rxL (bx_mdl rxC240.2.2.1) S0 S) (I0 : bx_Inv rxL S) (hinv : rxIPLAYX_7 S0 ws S part) (l8 : 0 ≤ part) (u8 : part ≤ 5) : (True) ∧ (True) ∧ rxIPLAYX_8 S0 ws S part ∧ rxmPLAYX_8 S0 ws S part < rxmPLAYX_7 S0 ws S part := by
  obtain ⟨hI, hx⟩ := hinv
  obtain ⟨a_, b_, c_, d_⟩ := rxc240_7_0 hP hin I0 hI l8 u8
  exact ⟨a_, b_, ⟨c_, (by
    obtain ⟨hpt, hx⟩ := hx
    exact ⟨hpt, hx⟩)⟩, d_⟩
theorem rxcPLAYX_9_0 {S0 : Nat → Int → Int} {ws : List Int} {S : Nat → Int → Int} {part : Int} (hP : rxPPLAYX S0 ws) (hin : bx_same rxL (bx_mdl rxC240.2.2.1) S0 S) (I0 : bx_Inv rxL S) (hinv : rxIPLAYX_9 S0 ws S part) (l8 : 0 ≤ part) (u8 : part ≤ 5) : (True) ∧ (True) ∧ rxIPLAYX_5 S0 ws S part ∧ rxmPLAYX_5 S0 ws S part < rxmPLAYX_9 S0 ws S part := by
  obtain ⟨hI, hx⟩ := hinv
  obtain ⟨a_, b_, c_, d_⟩ := rxc240_9_0 hP hin I0 hI l8 u8
  exact ⟨a_, b_, ⟨c_, (by
    obtain ⟨hpt, hx⟩ := hx
    exact ⟨hpt, hx⟩)⟩, d_⟩
theorem rxcPLAYX_11_0 {S0 : Nat → Int → Int} {ws : List Int} {S : Nat → Int → Int} {part x9 : Int} (hP : rxPPLAYX S0 ws) (hin : bx_same rxL (bx_mdl rxC240.2.2.1) S0 S) (I0 : bx_Inv rxL S) (hinv : rxIPLAYX_11 S0 ws S part) (l8 : 0 ≤ part) (u8 : part ≤ 5) (l9 : 0 ≤ x9) (u9 : x9 ≤ 0) (e1 : S 480 14 = x9) : (True) ∧ (True) ∧ rxIPLAYX_12 S0 ws (bx_up S 480 15 1) part 0 0 ∧ rxmPLAYX_12 S0 ws (bx_up S 480 15 1) part 0 0 < rxmPLAYX_11 S0 ws S part := by
  obtain ⟨hI, hx⟩ := hinv
  obtain ⟨a_, b_, c_, d_⟩ := rxc240_11_0 hP hin I0 hI l8 u8 l9 u9 e1
  exact ⟨a_, b_, ⟨c_, (by
    obtain ⟨⟨h1, h2, h3⟩, hx, h8⟩ := hx
    refine ⟨h1, h2, h3, fun c => ?_, ((bx_up_ne (by omega))).trans h8⟩
    obtain ⟨r, r1, r2⟩ := hx c
    rcases r2 with v | v
    · exact ⟨r, r1, v.2.1, ((bx_up_ne (by omega))).trans v.2.2⟩
    · omega)⟩, d_⟩
theorem rxdPLAYX_11_0 {S0 : Nat → Int → Int} {ws : List Int} {S : Nat → Int → Int} {part x9 x10 x11 : Int} (hP : rxPPLAYX S0 ws) (hin : bx_same rxL (bx_mdl rxC240.2.2.1) S0 S) (hin2 : bx_same rxL (bx_mdl rxC240.2.2.1) S (bx_up (bx_up S 480 1 ((-6))) 481 6 x11)) (I0 : bx_Inv rxL S) (I1 : bx_Inv rxL (bx_up (bx_up S 480 1 ((-6))) 481 6 x11)) (hinv : rxIPLAYX_11 S0 ws S part) (l8 : 0 ≤ part) (u8 : part ≤ 5) (l9 : 1 ≤ x9) (u9 : x9 ≤ 1) (l10 : (-2147483648) ≤ x10) (u10 : x10 ≤ 2147483647) (l11 : (-2147483648) ≤ x11) (u11 : x11 ≤ 2147483647) (f0 : x9 ≠ 0) (e3 : S 480 14 = x9) (e1 : (bx_up S 480 1 ((-6))) 481 6 = x10) : (True) ∧ rxPSPLAYX S0 ws (bx_up (bx_up S 480 1 ((-6))) 481 6 x11) (some ((-6))) := by
  obtain ⟨hI, hx⟩ := hinv
  obtain ⟨a_, c_⟩ := rxd240_11_0 hP hin hin2 I0 I1 hI l8 u8 l9 u9 l10 u10 l11 u11 f0 e3 e1
  exact ⟨a_, c_, (fun c => by
    obtain ⟨⟨h1, h2, h3⟩, hx, h8⟩ := hx
    obtain ⟨r, r1, r2⟩ := hx c
    refine ⟨part, h1, Or.inr ⟨h2, h3, ((bx_up_ne (by omega)).trans ((bx_up_ne (by omega)))).trans h8, r, r1, ?_⟩⟩
    rcases r2 with v | v
    · omega
    · exact Or.inr ⟨v.2.1, ((bx_up_ne (by omega)).trans ((bx_up_ne (by omega)))).trans v.2.2⟩)⟩