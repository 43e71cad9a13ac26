/-! CONTRACT BY HAND, by program (wip/sim/genhand.py): DeadUnderstudiesModel.play -/
def rxIPLAYX_0 (S0 : Nat → Int → Int) (ws : List Int) (S : Nat → Int → Int) (part : Int) : Prop := rxI240_0 S0 ws S part ∧ True
def rxmPLAYX_0 (S0 : Nat → Int → Int) (ws : List Int) (S : Nat → Int → Int) (part : Int) : Nat := rxm240_0 S0 ws S part
def rxIPLAYX_1 (S0 : Nat → Int → Int) (ws : List Int) (S : Nat → Int → Int) (part : Int) : Prop := rxI240_1 S0 ws S part ∧ ((ws = [480, part] ∧ 0 ≤ part ∧ part < S0 482 0) ∧ (rzBg S0 S))
def rxmPLAYX_1 (S0 : Nat → Int → Int) (ws : List Int) (S : Nat → Int → Int) (part : Int) : Nat := rxm240_1 S0 ws S part
def rxIPLAYX_2 (S0 : Nat → Int → Int) (ws : List Int) (S : Nat → Int → Int) (part : Int) : Prop := rxI240_2 S0 ws S part ∧ ((ws = [480, part] ∧ 0 ≤ part ∧ part < S0 482 0) ∧ (rzCk S0 → rzRj S0 S 1 (rzTx (rzCl (decide ((1 : Int) = 1)) (rzCut (S0 485)) (S0 480 8)) (rzCut (S0 485)) (S0 480 8) (12 - S 480 16).toNat)))
def rxmPLAYX_2 (S0 : Nat → Int → Int) (ws : List Int) (S : Nat → Int → Int) (part : Int) : Nat := rxm240_2 S0 ws S part
def rxIPLAYX_3 (S0 : Nat → Int → Int) (ws : List Int) (S : Nat → Int → Int) (part : Int) : Prop := rxI240_3 S0 ws S part ∧ ((ws = [480, part] ∧ 0 ≤ part ∧ part < S0 482 0) ∧ (rzCk S0 → rzRj S0 S 1 (rzTx (rzCl (decide ((1 : Int) = 1)) (rzCut (S0 485)) (S0 480 8)) (rzCut (S0 485)) (S0 480 8) (12 - S 480 16).toNat)))
def rxmPLAYX_3 (S0 : Nat → Int → Int) (ws : List Int) (S : Nat → Int → Int) (part : Int) : Nat := rxm240_3 S0 ws S part
def rxIPLAYX_4 (S0 : Nat → Int → Int) (ws : List Int) (S : Nat → Int → Int) (part : Int) : Prop := rxI240_4 S0 ws S part ∧ ((ws = [480, part] ∧ 0 ≤ part ∧ part < S0 482 0) ∧ (rzCk S0 → rzRj S0 S 1 (rzNx (decide ((1 : Int) = 1)) (rzCut (S0 485)) (S0 480 8) (12 - S 480 16).toNat)))
def rxmPLAYX_4 (S0 : Nat → Int → Int) (ws : List Int) (S : Nat → Int → Int) (part : Int) : Nat := rxm240_4 S0 ws S part
def rxIPLAYX_5 (S0 : Nat → Int → Int) (ws : List Int) (S : Nat → Int → Int) (part : Int) : Prop := rxI240_5 S0 ws S part ∧ ((ws = [480, part] ∧ 0 ≤ part ∧ part < S0 482 0) ∧ (rzCk S0 → rzRj S0 S 1 (rzNx (decide ((1 : Int) = 1)) (rzCut (S0 485)) (S0 480 8) (12 - S 480 16).toNat)))
def rxmPLAYX_5 (S0 : Nat → Int → Int) (ws : List Int) (S : Nat → Int → Int) (part : Int) : Nat := rxm240_5 S0 ws S part
def rxIPLAYX_6 (S0 : Nat → Int → Int) (ws : List Int) (S : Nat → Int → Int) (part : Int) : Prop := rxI240_6 S0 ws S part ∧ ((ws = [480, part] ∧ 0 ≤ part ∧ part < S0 482 0) ∧ ((rzCk S0 → rzRj S0 S 1 (rzNx (decide ((1 : Int) = 1)) (rzCut (S0 485)) (S0 480 8) (12 - S 480 16).toNat)) ∧ (S 480 14 = 0 → rzDq S → rzSg (rzCut (S 485)) (S 480 8) 59 (S 480 9) = true)))
def rxmPLAYX_6 (S0 : Nat → Int → Int) (ws : List Int) (S : Nat → Int → Int) (part : Int) : Nat := rxm240_6 S0 ws S part
def rxIPLAYX_7 (S0 : Nat → Int → Int) (ws : List Int) (S : Nat → Int → Int) (part : Int) : Prop := rxI240_7 S0 ws S part ∧ ((ws = [480, part] ∧ 0 ≤ part ∧ part < S0 482 0) ∧ (rzCk S0 → rzRj S0 S 1 (rzTx (rzCl (decide ((1 : Int) = 1)) (rzCut (S0 485)) (S0 480 8)) (rzCut (S0 485)) (S0 480 8) (12 - S 480 16).toNat)))
def rxmPLAYX_7 (S0 : Nat → Int → Int) (ws : List Int) (S : Nat → Int → Int) (part : Int) : Nat := rxm240_7 S0 ws S part
def rxIPLAYX_8 (S0 : Nat → Int → Int) (ws : List Int) (S : Nat → Int → Int) (part : Int) : Prop := rxI240_8 S0 ws S part ∧ ((ws = [480, part] ∧ 0 ≤ part ∧ part < S0 482 0) ∧ (rzCk S0 → rzRj S0 S 1 (rzTx (rzCl (decide ((1 : Int) = 1)) (rzCut (S0 485)) (S0 480 8)) (rzCut (S0 485)) (S0 480 8) (12 - S 480 16).toNat)))
def rxmPLAYX_8 (S0 : Nat → Int → Int) (ws : List Int) (S : Nat → Int → Int) (part : Int) : Nat := rxm240_8 S0 ws S part
def rxIPLAYX_9 (S0 : Nat → Int → Int) (ws : List Int) (S : Nat → Int → Int) (part : Int) : Prop := rxI240_9 S0 ws S part ∧ ((ws = [480, part] ∧ 0 ≤ part ∧ part < S0 482 0) ∧ (rzCk S0 → rzRj S0 S 1 (rzNx (decide ((1 : Int) = 1)) (rzCut (S0 485)) (S0 480 8) (12 - S 480 16).toNat)))
def rxmPLAYX_9 (S0 : Nat → Int → Int) (ws : List Int) (S : Nat → Int → Int) (part : Int) : Nat := rxm240_9 S0 ws S part
def rxIPLAYX_10 (S0 : Nat → Int → Int) (ws : List Int) (S : Nat → Int → Int) (part : Int) : Prop := rxI240_10 S0 ws S part ∧ ((ws = [480, part] ∧ 0 ≤ part ∧ part < S0 482 0) ∧ ((rzCk S0 → rzRj S0 S 1 (rzNx (decide ((1 : Int) = 1)) (rzCut (S0 485)) (S0 480 8) (12 - S 480 16).toNat)) ∧ (S 480 14 = 0 → rzDq S → rzSg (rzCut (S 485)) (S 480 8) 59 (S 480 9) = false)))
def rxmPLAYX_10 (S0 : Nat → Int → Int) (ws : List Int) (S : Nat → Int → Int) (part : Int) : Nat := rxm240_10 S0 ws S part
def rxIPLAYX_11 (S0 : Nat → Int → Int) (ws : List Int) (S : Nat → Int → Int) (part : Int) : Prop := rxI240_11 S0 ws S part ∧ ((ws = [480, part] ∧ 0 ≤ part ∧ part < S0 482 0) ∧ ((rzCk S0 → rzTz S0 S 1) ∧ S 480 8 = 0))
def rxmPLAYX_11 (S0 : Nat → Int → Int) (ws : List Int) (S : Nat → Int → Int) (part : Int) : Nat := rxm240_11 S0 ws S part
def rxIPLAYX_12 (S0 : Nat → Int → Int) (ws : List Int) (S : Nat → Int → Int) (part n at_ : Int) : Prop := rxI240_12 S0 ws S part n at_ ∧ (ws = [480, part] ∧ 0 ≤ part ∧ part < S0 482 0 ∧ (rzCk S0 → ∃ r : rzR, rzText (decide ((1 : Int) = 1)) (rzCut (S0 485)) (S0 480 8) r ∧ r.1 = true ∧ S 480 13 = -1) ∧ S 480 8 = 0)
def rxmPLAYX_12 (S0 : Nat → Int → Int) (ws : List Int) (S : Nat → Int → Int) (part n at_ : Int) : Nat := rxm240_12 S0 ws S part n at_
def rxPPLAYX (S0 : Nat → Int → Int) (ws : List Int) : Prop := rxP240 S0 ws
def rxPSPLAYX (S0 : Nat → Int → Int) (ws : List Int) (S : Nat → Int → Int) (w : Option Int) : Prop := rxPS240 S0 ws S w ∧ (rzCk S0 → ∃ part : Int, ws = [480, part] ∧ (((part < 0 ∨ S0 482 0 ≤ part) ∧ S 480 8 = S0 480 8 ∧ S 480 13 = S0 480 13) ∨ (0 ≤ part ∧ part < S0 482 0 ∧ S 480 8 = 0 ∧ ∃ r : rzR, rzText (decide ((1 : Int) = 1)) (rzCut (S0 485)) (S0 480 8) r ∧ ((r.1 = true ∧ S 480 13 = -1) ∨ (r.1 = false ∧ S 480 13 = r.2.1)))))
theorem rxkPLAYX_1 {S0 : Nat → Int → Int} {ws : List Int} {S : Nat → Int → Int} {part : Int} (hP : rxPPLAYX S0 ws) (hin : bx_same rxL (bx_mdl rxC240.2.2.1) S0 S) (I0 : bx_Inv rxL S) (hinv : rxIPLAYX_1 S0 ws S part) (l8 : 0 ≤ part) (u8 : part ≤ 5) : rxPBXW S [480, 1] ∧ ∀ (S_p : Nat → Int → Int), rxPSBXW S [480, 1] S_p none → bx_Inv rxL S_p → bx_same rxL (bx_mdl rxCBXW.2.2.1) S S_p → rxIPLAYX_2 S0 ws S_p part ∧ rxmPLAYX_2 S0 ws S_p part < rxmPLAYX_1 S0 ws S part := by
  obtain ⟨hI, hx⟩ := hinv
  have g_ := rxk240_1 hP hin I0 hI l8 u8
  exact ⟨g_.1, fun S_p hq I1 hsm => ⟨⟨(g_.2 S_p hq.2.1 I1 hsm).1, (by
    obtain ⟨hpt, hx⟩ := hx
    exact ⟨hpt, (fun c => by
      obtain ⟨g1, g13, gd, ge, g21⟩ := hq.2.2
      rw [hx.1, hx.2.1] at ge
      obtain ⟨-, -, o14, o16, -, z2, hz2, o15⟩ := hq.2.1
      have ez : (1 : Int) = z2 := Option.some.inj (congrArg (fun l : List Int => l[1]?) hz2)
      rw [show (12 - S_p 480 16).toNat = 12 by omega]
      exact rzRj_0 c ⟨g1.1.trans hx.1, g1.2.1.trans hx.2.1, fun c => g1.2.2 (hx.2.2 c)⟩ g13 (by omega) gd ge g21 o14)⟩)⟩, (g_.2 S_p hq.2.1 I1 hsm).2⟩⟩
theorem rxkPLAYX_3 {S0 : Nat → Int → Int} {ws : List Int} {S : Nat → Int → Int} {part : Int} (hP : rxPPLAYX S0 ws) (hin : bx_same rxL (bx_mdl rxC240.2.2.1) S0 S) (I0 : bx_Inv rxL S) (hinv : rxIPLAYX_3 S0 ws S part) (l8 : 0 ≤ part) (u8 : part ≤ 5) : rxPRYW S [480] ∧ ∀ (S_p : Nat → Int → Int), rxPSRYW S [480] S_p none → bx_Inv rxL S_p → bx_same rxL (bx_mdl rxCRYW.2.2.1) S S_p → rxIPLAYX_4 S0 ws S_p part ∧ rxmPLAYX_4 S0 ws S_p part < rxmPLAYX_3 S0 ws S part := by
  obtain ⟨hI, hx⟩ := hinv
  have g_ := rxk240_3 hP hin I0 hI l8 u8
  exact ⟨g_.1, fun S_p hq I1 hsm => ⟨⟨(g_.2 S_p hq.2.1 I1 hsm).1, (by
    obtain ⟨hpt, hx⟩ := hx
    exact ⟨hpt, (fun c => by
      have z0 : S 480 14 = 0 := hI.2.1
      have h := hx c
      obtain ⟨q1, q2, q3, q4, q5, q6⟩ := rzRj_q h z0
      have x := hq.2.2 q1 q2 (by unfold rzWr; rw [q3]; exact if_pos rfl)
      rw [q4, q5] at x
      refine rzRj_co h z0 x hq.2.1.2.2 (fun n12 r p => ?_) fun n12 r p => ?_
      · rw [rzCl_z1]
        rcases p with p | p
        · exact p.2
        · exact absurd n12 (of_decide_eq_false p.1)
      · rcases p with p | p
        · exact absurd (of_decide_eq_true p.1) n12
        · exact p.2)⟩)⟩, (g_.2 S_p hq.2.1 I1 hsm).2⟩⟩
theorem rxkPLAYX_6 {S0 : Nat → Int → Int} {ws : List Int} {S : Nat → Int → Int} {part : Int} (hP : rxPPLAYX S0 ws) (hin : bx_same rxL (bx_mdl rxC240.2.2.1) S0 S) (I0 : bx_Inv rxL S) (hinv : rxIPLAYX_6 S0 ws S part) (l8 : 0 ≤ part) (u8 : part ≤ 5) : rxPNXX S [480] ∧ ∀ (S_p : Nat → Int → Int), rxPSNXX S [480] S_p none → bx_Inv rxL S_p → bx_same rxL (bx_mdl rxCNXX.2.2.1) S S_p → rxIPLAYX_7 S0 ws S_p part ∧ rxmPLAYX_7 S0 ws S_p part < rxmPLAYX_6 S0 ws S part := by
  obtain ⟨hI, hx⟩ := hinv
  have g_ := rxk240_6 hP hin I0 hI l8 u8
  exact ⟨g_.1, fun S_p hq I1 hsm => ⟨⟨(g_.2 S_p hq.2.1 I1 hsm).1, (by
    obtain ⟨hpt, hx⟩ := hx
    exact ⟨hpt, (fun c => by
      have z0 : S 480 14 = 0 := hI.2
      have h := hx.1 c
      obtain ⟨q1, q2, q3, q4, q5, q6⟩ := rzRj_q h z0
      have hs := hx.2 z0 q2
      rw [q4, q5] at hs
      have e16 : S_p 480 16 = S 480 16 := hsm 480 16 (by decide) (by decide) (by decide +kernel)
      rw [e16]
      exact rzRj_nx h z0 (show S_p 480 14 = S 480 14 from hsm 480 14 (by decide) (by decide) (by decide +kernel)) (show S_p 480 21 = S 480 21 from hsm 480 21 (by decide) (by decide) (by decide +kernel)) (rzKr_of hsm (by decide +kernel)) hq.2.2.1 hq.2.2.2 fun f lf r e1 e2 q => Or.inl ⟨by rw [e1]; exact hs, q⟩)⟩)⟩, (g_.2 S_p hq.2.1 I1 hsm).2⟩⟩
theorem rxkPLAYX_8 {S0 : Nat → Int → Int} {ws : List Int} {S : Nat → Int → Int} {part : Int} (hP : rxPPLAYX S0 ws) (hin : bx_same rxL (bx_mdl rxC240.2.2.1) S0 S) (I0 : bx_Inv rxL S) (hinv : rxIPLAYX_8 S0 ws S part) (l8 : 0 ≤ part) (u8 : part ≤ 5) : rxPRYW S [480] ∧ ∀ (S_p : Nat → Int → Int), rxPSRYW S [480] S_p none → bx_Inv rxL S_p → bx_same rxL (bx_mdl rxCRYW.2.2.1) S S_p → rxIPLAYX_9 S0 ws S_p part ∧ rxmPLAYX_9 S0 ws S_p part < rxmPLAYX_8 S0 ws S part := by
  obtain ⟨hI, hx⟩ := hinv
  have g_ := rxk240_8 hP hin I0 hI l8 u8
  exact ⟨g_.1, fun S_p hq I1 hsm => ⟨⟨(g_.2 S_p hq.2.1 I1 hsm).1, (by
    obtain ⟨hpt, hx⟩ := hx
    exact ⟨hpt, (fun c => by
      have z0 : S 480 14 = 0 := hI.2
      have h := hx c
      obtain ⟨q1, q2, q3, q4, q5, q6⟩ := rzRj_q h z0
      have x := hq.2.2 q1 q2 (by unfold rzWr; rw [q3]; exact if_pos rfl)
      rw [q4, q5] at x
      refine rzRj_co h z0 x hq.2.1.2.2 (fun n12 r p => ?_) fun n12 r p => ?_
      · rw [rzCl_z1]
        rcases p with p | p
        · exact p.2
        · exact absurd n12 (of_decide_eq_false p.1)
      · rcases p with p | p
        · exact absurd (of_decide_eq_true p.1) n12
        · exact p.2)⟩)⟩, (g_.2 S_p hq.2.1 I1 hsm).2⟩⟩
theorem rxkPLAYX_10 {S0 : Nat → Int → Int} {ws : List Int} {S : Nat → Int → Int} {part : Int} (hP : rxPPLAYX S0 ws) (hin : bx_same rxL (bx_mdl rxC240.2.2.1) S0 S) (I0 : bx_Inv rxL S) (hinv : rxIPLAYX_10 S0 ws S part) (l8 : 0 ≤ part) (u8 : part ≤ 5) : rxPETW S [480] ∧ ∀ (S_p : Nat → Int → Int), rxPSETW S [480] S_p none → bx_Inv rxL S_p → bx_same rxL (bx_mdl rxCETW.2.2.1) S S_p → rxIPLAYX_11 S0 ws S_p part ∧ rxmPLAYX_11 S0 ws S_p part < rxmPLAYX_10 S0 ws S part := by
  obtain ⟨hI, hx⟩ := hinv
  have g_ := rxk240_10 hP hin I0 hI l8 u8
  exact ⟨g_.1, fun S_p hq I1 hsm => ⟨⟨(g_.2 S_p hq.2.1 I1 hsm).1, (by
    obtain ⟨hpt, hx⟩ := hx
    exact ⟨hpt, ⟨fun c => rzRj_et (hx.1 c) (fun z0 => hx.2 z0 (rzRj_q (hx.1 c) z0).2.1) hq.2.2.1, hq.2.2.2⟩⟩)⟩, (g_.2 S_p hq.2.1 I1 hsm).2⟩⟩
theorem rxcPLAYX_0_0 {S0 : Nat → Int → Int} {ws : List Int} {S : Nat → Int → Int} {part x9 : Int} (hP : rxPPLAYX S0 ws) (hin : bx_same rxL (bx_mdl rxC240.2.2.1) S0 S) (I0 : bx_Inv rxL S) (hinv : rxIPLAYX_0 S0 ws S part) (l8 : 0 ≤ part) (u8 : part ≤ 5) (l9 : 1 ≤ x9) (u9 : x9 ≤ 6) (f0 : part ≤ x9 + (-1)) (e0 : (bx_up S 480 0 0) 482 0 = x9) : (True) ∧ (True) ∧ rxIPLAYX_1 S0 ws (bx_up S 480 0 0) part ∧ rxmPLAYX_1 S0 ws (bx_up S 480 0 0) part < rxmPLAYX_0 S0 ws S part := by
  obtain ⟨hI, hx⟩ := hinv
  obtain ⟨a_, b_, c_, d_⟩ := rxc240_0_0 hP hin I0 hI l8 u8 l9 u9 f0 e0
  exact ⟨a_, b_, ⟨c_, (by
    have e := hI.1
    have hw := hI.2
    subst e
    have e0 := (show _ = S 482 0 from (bx_up_ne (by omega))).symm.trans e0
    exact ⟨⟨hw, by omega, by omega⟩, ⟨congrArg rzCut (funext fun _ => (bx_up_ne (by omega))), (bx_up_ne (by omega)), fun c => rzCk_c c (funext fun _ => (bx_up_ne (by omega))) (funext fun _ => (bx_up_ne (by omega)))⟩⟩)⟩, d_⟩
theorem rxcPLAYX_2_0 {S0 : Nat → Int → Int} {ws : List Int} {S : Nat → Int → Int} {part : Int} (hP : rxPPLAYX S0 ws) (hin : bx_same rxL (bx_mdl rxC240.2.2.1) S0 S) (I0 : bx_Inv rxL S) (hinv : rxIPLAYX_2 S0 ws S part) (l8 : 0 ≤ part) (u8 : part ≤ 5) : (True) ∧ (True) ∧ rxIPLAYX_3 S0 ws S part ∧ rxmPLAYX_3 S0 ws S part < rxmPLAYX_2 S0 ws S part := by
  obtain ⟨hI, hx⟩ := hinv
  obtain ⟨a_, b_, c_, d_⟩ := rxc240_2_0 hP hin I0 hI l8 u8
  exact ⟨a_, b_, ⟨c_, (by
    obtain ⟨hpt, hx⟩ := hx
    exact ⟨hpt, hx⟩)⟩, d_⟩
theorem rxcPLAYX_4_0 {S0 : Nat → Int → Int} {ws : List Int} {S : Nat → Int → Int} {part x9 x10 : Int} (hP : rxPPLAYX S0 ws) (hin : bx_same rxL (bx_mdl rxC240.2.2.1) S0 S) (I0 : bx_Inv rxL S) (hinv : rxIPLAYX_4 S0 ws S part) (l8 : 0 ≤ part) (u8 : part ≤ 5) (l9 : 0 ≤ x9) (u9 : x9 ≤ 0) (l10 : 0 ≤ x10) (u10 : x10 ≤ 2) (f0 : x10 ≠ 3) (e1 : S 480 14 = x9) (e0 : S 480 11 = x10) : (True) ∧ (True) ∧ rxIPLAYX_10 S0 ws S part ∧ rxmPLAYX_10 S0 ws S part < rxmPLAYX_4 S0 ws S part := by
  obtain ⟨hI, hx⟩ := hinv
  obtain ⟨a_, b_, c_, d_⟩ := rxc240_4_0 hP hin I0 hI l8 u8 l9 u9 l10 u10 f0 e1 e0
  exact ⟨a_, b_, ⟨c_, (by
    obtain ⟨hpt, hx⟩ := hx
    exact ⟨hpt, ⟨hx, fun z b => rzDq_ns b (c := 59) (by decide) (by decide) (by omega)⟩⟩)⟩, d_⟩
theorem rxcPLAYX_4_1 {S0 : Nat → Int → Int} {ws : List Int} {S : Nat → Int → Int} {part x9 x10 x11 : Int} (hP : rxPPLAYX S0 ws) (hin : bx_same rxL (bx_mdl rxC240.2.2.1) S0 S) (I0 : bx_Inv rxL S) (hinv : rxIPLAYX_4 S0 ws S part) (l8 : 0 ≤ part) (u8 : part ≤ 5) (l9 : 0 ≤ x9) (u9 : x9 ≤ 0) (l10 : 3 ≤ x10) (u10 : x10 ≤ 3) (l11 : (-9223372036854775808) ≤ x11) (u11 : x11 ≤ 9223372036854775807) (f0 : x11 ≠ 59) (e2 : S 480 14 = x9) (e1 : S 480 11 = x10) (e0 : S 480 12 = x11) : (True) ∧ (True) ∧ rxIPLAYX_10 S0 ws S part ∧ rxmPLAYX_10 S0 ws S part < rxmPLAYX_4 S0 ws S part := by
  obtain ⟨hI, hx⟩ := hinv
  obtain ⟨a_, b_, c_, d_⟩ := rxc240_4_1 hP hin I0 hI l8 u8 l9 u9 l10 u10 l11 u11 f0 e2 e1 e0
  exact ⟨a_, b_, ⟨c_, (by
    obtain ⟨hpt, hx⟩ := hx
    exact ⟨hpt, ⟨hx, fun z b => rzDq_ns b (c := 59) (by decide) (by decide) (by omega)⟩⟩)⟩, d_⟩
theorem rxcPLAYX_4_2 {S0 : Nat → Int → Int} {ws : List Int} {S : Nat → Int → Int} {part x9 x10 x11 : Int} (hP : rxPPLAYX S0 ws) (hin : bx_same rxL (bx_mdl rxC240.2.2.1) S0 S) (I0 : bx_Inv rxL S) (hinv : rxIPLAYX_4 S0 ws S part) (l8 : 0 ≤ part) (u8 : part ≤ 5) (l9 : 0 ≤ x9) (u9 : x9 ≤ 0) (l10 : 3 ≤ x10) (u10 : x10 ≤ 3) (l11 : 59 ≤ x11) (u11 : x11 ≤ 59) (e2 : S 480 14 = x9) (e1 : S 480 11 = x10) (e0 : S 480 12 = x11) : (True) ∧ (True) ∧ rxIPLAYX_6 S0 ws S part ∧ rxmPLAYX_6 S0 ws S part < rxmPLAYX_4 S0 ws S part := by
  obtain ⟨hI, hx⟩ := hinv
  obtain ⟨a_, b_, c_, d_⟩ := rxc240_4_2 hP hin I0 hI l8 u8 l9 u9 l10 u10 l11 u11 e2 e1 e0
  exact ⟨a_, b_, ⟨c_, (by
    obtain ⟨hpt, hx⟩ := hx
    exact ⟨hpt, ⟨hx, fun z b => (rzDq_sg b (c := 59) (by decide) (by decide)).mp ⟨by omega, by omega⟩⟩⟩)⟩, d_⟩
theorem rxcPLAYX_4_3 {S0 : Nat → Int → Int} {ws : List Int} {S : Nat → Int → Int} {part x9 : Int} (hP : rxPPLAYX S0 ws) (hin : bx_same rxL (bx_mdl rxC240.2.2.1) S0 S) (I0 : bx_Inv rxL S) (hinv : rxIPLAYX_4 S0 ws S part) (l8 : 0 ≤ part) (u8 : part ≤ 5) (l9 : 1 ≤ x9) (u9 : x9 ≤ 1) (f0 : x9 ≠ 0) (e0 : S 480 14 = x9) : (True) ∧ (True) ∧ rxIPLAYX_10 S0 ws S part ∧ rxmPLAYX_10 S0 ws S part < rxmPLAYX_4 S0 ws S part := by
  obtain ⟨hI, hx⟩ := hinv
  obtain ⟨a_, b_, c_, d_⟩ := rxc240_4_3 hP hin I0 hI l8 u8 l9 u9 f0 e0
  exact ⟨a_, b_, ⟨c_, (by
    obtain ⟨hpt, hx⟩ := hx
    exact ⟨hpt, ⟨hx, fun z b => by omega⟩⟩)⟩, d_⟩
theorem rxcPLAYX_5_0 {S0 : Nat → Int → Int} {ws : List Int} {S : Nat → Int → Int} {part x9 x10 : Int} (hP : rxPPLAYX S0 ws) (hin : bx_same rxL (bx_mdl rxC240.2.2.1) S0 S) (I0 : bx_Inv rxL S) (hinv : rxIPLAYX_5 S0 ws S part) (l8 : 0 ≤ part) (u8 : part ≤ 5) (l9 : 0 ≤ x9) (u9 : x9 ≤ 0) (l10 : 0 ≤ x10) (u10 : x10 ≤ 2) (f0 : x10 ≠ 3) (e1 : S 480 14 = x9) (e0 : S 480 11 = x10) : (True) ∧ (True) ∧ rxIPLAYX_10 S0 ws S part ∧ rxmPLAYX_10 S0 ws S part < rxmPLAYX_5 S0 ws S part := by
  obtain ⟨hI, hx⟩ := hinv
  obtain ⟨a_, b_, c_, d_⟩ := rxc240_5_0 hP hin I0 hI l8 u8 l9 u9 l10 u10 f0 e1 e0
  exact ⟨a_, b_, ⟨c_, (by
    obtain ⟨hpt, hx⟩ := hx
    exact ⟨hpt, ⟨hx, fun z b => rzDq_ns b (c := 59) (by decide) (by decide) (by omega)⟩⟩)⟩, d_⟩
theorem rxcPLAYX_5_1 {S0 : Nat → Int → Int} {ws : List Int} {S : Nat → Int → Int} {part x9 x10 x11 : Int} (hP : rxPPLAYX S0 ws) (hin : bx_same rxL (bx_mdl rxC240.2.2.1) S0 S) (I0 : bx_Inv rxL S) (hinv : rxIPLAYX_5 S0 ws S part) (l8 : 0 ≤ part) (u8 : part ≤ 5) (l9 : 0 ≤ x9) (u9 : x9 ≤ 0) (l10 : 3 ≤ x10) (u10 : x10 ≤ 3) (l11 : (-9223372036854775808) ≤ x11) (u11 : x11 ≤ 9223372036854775807) (f0 : x11 ≠ 59) (e2 : S 480 14 = x9) (e1 : S 480 11 = x10) (e0 : S 480 12 = x11) : (True) ∧ (True) ∧ rxIPLAYX_10 S0 ws S part ∧ rxmPLAYX_10 S0 ws S part < rxmPLAYX_5 S0 ws S part := by
  obtain ⟨hI, hx⟩ := hinv
  obtain ⟨a_, b_, c_, d_⟩ := rxc240_5_1 hP hin I0 hI l8 u8 l9 u9 l10 u10 l11 u11 f0 e2 e1 e0
  exact ⟨a_, b_, ⟨c_, (by
    obtain ⟨hpt, hx⟩ := hx
    exact ⟨hpt, ⟨hx, fun z b => rzDq_ns b (c := 59) (by decide) (by decide) (by omega)⟩⟩)⟩, d_⟩
theorem rxcPLAYX_5_2 {S0 : Nat → Int → Int} {ws : List Int} {S : Nat → Int → Int} {part x9 x10 x11 : Int} (hP : rxPPLAYX S0 ws) (hin : bx_same rxL (bx_mdl rxC240.2.2.1) S0 S) (I0 : bx_Inv rxL S) (hinv : rxIPLAYX_5 S0 ws S part) (l8 : 0 ≤ part) (u8 : part ≤ 5) (l9 : 0 ≤ x9) (u9 : x9 ≤ 0) (l10 : 3 ≤ x10) (u10 : x10 ≤ 3) (l11 : 59 ≤ x11) (u11 : x11 ≤ 59) (e2 : S 480 14 = x9) (e1 : S 480 11 = x10) (e0 : S 480 12 = x11) : (True) ∧ (True) ∧ rxIPLAYX_6 S0 ws S part ∧ rxmPLAYX_6 S0 ws S part < rxmPLAYX_5 S0 ws S part := by
  obtain ⟨hI, hx⟩ := hinv
  obtain ⟨a_, b_, c_, d_⟩ := rxc240_5_2 hP hin I0 hI l8 u8 l9 u9 l10 u10 l11 u11 e2 e1 e0
  exact ⟨a_, b_, ⟨c_, (by
    obtain ⟨hpt, hx⟩ := hx
    exact ⟨hpt, ⟨hx, fun z b => (rzDq_sg b (c := 59) (by decide) (by decide)).mp ⟨by omega, by omega⟩⟩⟩)⟩, d_⟩
theorem rxcPLAYX_5_3 {S0 : Nat → Int → Int} {ws : List Int} {S : Nat → Int → Int} {part x9 : Int} (hP : rxPPLAYX S0 ws) (hin : bx_same rxL (bx_mdl rxC240.2.2.1) S0 S) (I0 : bx_Inv rxL S) (hinv : rxIPLAYX_5 S0 ws S part) (l8 : 0 ≤ part) (u8 : part ≤ 5) (l9 : 1 ≤ x9) (u9 : x9 ≤ 1) (f0 : x9 ≠ 0) (e0 : S 480 14 = x9) : (True) ∧ (True) ∧ rxIPLAYX_10 S0 ws S part ∧ rxmPLAYX_10 S0 ws S part < rxmPLAYX_5 S0 ws S part := by
  obtain ⟨hI, hx⟩ := hinv
  obtain ⟨a_, b_, c_, d_⟩ := rxc240_5_3 hP hin I0 hI l8 u8 l9 u9 f0 e0
  exact ⟨a_, b_, ⟨c_, (by
    obtain ⟨hpt, hx⟩ := hx
    exact ⟨hpt, ⟨hx, fun z b => by omega⟩⟩)⟩, d_⟩
theorem rxcPLAYX_7_0 {S0 : Nat → Int → Int} {ws : List Int} {S : Nat → Int → Int} {part : Int} (hP : rxPPLAYX S0 ws) (hin : bx_same rxL (bx_mdl rxC240.2.2.1) S0 S) (I0 : bx_Inv rxL S) (hinv : rxIPLAYX_7 S0 ws S part) (l8 : 0 ≤ part) (u8 : part ≤ 5) : (True) ∧ (True) ∧ rxIPLAYX_8 S0 ws S part ∧ rxmPLAYX_8 S0 ws S part < rxmPLAYX_7 S0 ws S part := by
  obtain ⟨hI, hx⟩ := hinv
  obtain ⟨a_, b_, c_, d_⟩ := rxc240_7_0 hP hin I0 hI l8 u8
  exact ⟨a_, b_, ⟨c_, (by
    obtain ⟨hpt, hx⟩ := hx
    exact ⟨hpt, hx⟩)⟩, d_⟩
theorem rxcPLAYX_9_0 {S0 : Nat → Int → Int} {ws : List Int} {S : Nat → Int → Int} {part : Int} (hP : rxPPLAYX S0 ws) (hin : bx_same rxL (bx_mdl rxC240.2.2.1) S0 S) (I0 : bx_Inv rxL S) (hinv : rxIPLAYX_9 S0 ws S part) (l8 : 0 ≤ part) (u8 : part ≤ 5) : (True) ∧ (True) ∧ rxIPLAYX_5 S0 ws S part ∧ rxmPLAYX_5 S0 ws S part < rxmPLAYX_9 S0 ws S part := by
  obtain ⟨hI, hx⟩ := hinv
  obtain ⟨a_, b_, c_, d_⟩ := rxc240_9_0 hP hin I0 hI l8 u8
  exact ⟨a_, b_, ⟨c_, (by
    obtain ⟨hpt, hx⟩ := hx
    exact ⟨hpt, hx⟩)⟩, d_⟩
theorem rxcPLAYX_11_0 {S0 : Nat → Int → Int} {ws : List Int} {S : Nat → Int → Int} {part x9 : Int} (hP : rxPPLAYX S0 ws) (hin : bx_same rxL (bx_mdl rxC240.2.2.1) S0 S) (I0 : bx_Inv rxL S) (hinv : rxIPLAYX_11 S0 ws S part) (l8 : 0 ≤ part) (u8 : part ≤ 5) (l9 : 0 ≤ x9) (u9 : x9 ≤ 0) (e1 : S 480 14 = x9) : (True) ∧ (True) ∧ rxIPLAYX_12 S0 ws (bx_up S 480 15 1) part 0 0 ∧ rxmPLAYX_12 S0 ws (bx_up S 480 15 1) part 0 0 < rxmPLAYX_11 S0 ws S part := by
  obtain ⟨hI, hx⟩ := hinv
  obtain ⟨a_, b_, c_, d_⟩ := rxc240_11_0 hP hin I0 hI l8 u8 l9 u9 e1
  exact ⟨a_, b_, ⟨c_, (by
    obtain ⟨⟨h1, h2, h3⟩, hx, h8⟩ := hx
    refine ⟨h1, h2, h3, fun c => ?_, ((bx_up_ne (by omega))).trans h8⟩
    obtain ⟨r, r1, r2⟩ := hx c
    rcases r2 with v | v
    · exact ⟨r, r1, v.2.1, ((bx_up_ne (by omega))).trans v.2.2⟩
    · omega)⟩, d_⟩
theorem rxdPLAYX_11_0 {S0 : Nat → Int → Int} {ws : List Int} {S : Nat → Int → Int} {part x9 x10 x11 : Int} (hP : rxPPLAYX S0 ws) (hin : bx_same rxL (bx_mdl rxC240.2.2.1) S0 S) (hin2 : bx_same rxL (bx_mdl rxC240.2.2.1) S (bx_up (bx_up S 480 1 ((-6))) 481 6 x11)) (I0 : bx_Inv rxL S) (I1 : bx_Inv rxL (bx_up (bx_up S 480 1 ((-6))) 481 6 x11)) (hinv : rxIPLAYX_11 S0 ws S part) (l8 : 0 ≤ part) (u8 : part ≤ 5) (l9 : 1 ≤ x9) (u9 : x9 ≤ 1) (l10 : (-2147483648) ≤ x10) (u10 : x10 ≤ 2147483647) (l11 : (-2147483648) ≤ x11) (u11 : x11 ≤ 2147483647) (f0 : x9 ≠ 0) (e3 : S 480 14 = x9) (e1 : (bx_up S 480 1 ((-6))) 481 6 = x10) : (True) ∧ rxPSPLAYX S0 ws (bx_up (bx_up S 480 1 ((-6))) 481 6 x11) (some ((-6))) := by
  obtain ⟨hI, hx⟩ := hinv
  obtain ⟨a_, c_⟩ := rxd240_11_0 hP hin hin2 I0 I1 hI l8 u8 l9 u9 l10 u10 l11 u11 f0 e3 e1
  exact ⟨a_, c_, (fun c => by
    obtain ⟨⟨h1, h2, h3⟩, hx, h8⟩ := hx
    obtain ⟨r, r1, r2⟩ := hx c
    refine ⟨part, h1, Or.inr ⟨h2, h3, ((bx_up_ne (by omega)).trans ((bx_up_ne (by omega)))).trans h8, r, r1, ?_⟩⟩
    rcases r2 with v | v
    · omega
    · exact Or.inr ⟨v.2.1, ((bx_up_ne (by omega)).trans ((bx_up_ne (by omega)))).trans v.2.2⟩)⟩