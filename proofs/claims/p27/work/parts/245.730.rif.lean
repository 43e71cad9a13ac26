noncomputable def rxCRIFK : bx_Ct := ([(3, (1, 412, 0))], some (0, (0, 0, 1)), [(6, 0), (7, 2), (7, 3), (7, 4), (7, 7), (7, 8), (7, 10), (1021, 0), (1022, 0), (1027, 0), (1034, 0), (1035, 0), (1036, 0)], 8, [(412, 0, 3, (1, 411, 0)), (412, 6, 3, (1, 427, 0))])
noncomputable def rxIRIFK_0 (S0 : Nat → Int → Int) (ws : List Int) (S : Nat → Int → Int) : Prop := rxIRIF_0 S0 ws S ∧ True
noncomputable def rxmRIFK_0 (S0 : Nat → Int → Int) (ws : List Int) (S : Nat → Int → Int) : Nat := rxmRIF_0 S0 ws S
noncomputable def rxIRIFK_1 (S0 : Nat → Int → Int) (ws : List Int) (S : Nat → Int → Int) : Prop := rxIRIF_1 S0 ws S ∧ rkTa S0 S (S0 412 2)
noncomputable def rxmRIFK_1 (S0 : Nat → Int → Int) (ws : List Int) (S : Nat → Int → Int) : Nat := rxmRIF_1 S0 ws S
noncomputable def rxIRIFK_2 (S0 : Nat → Int → Int) (ws : List Int) (S : Nat → Int → Int) (r : Int) : Prop := rxIRIF_2 S0 ws S r ∧ rkTa S0 S (S0 412 2)
noncomputable def rxmRIFK_2 (S0 : Nat → Int → Int) (ws : List Int) (S : Nat → Int → Int) (r : Int) : Nat := rxmRIF_2 S0 ws S r
noncomputable def rxIRIFK_3 (S0 : Nat → Int → Int) (ws : List Int) (S : Nat → Int → Int) : Prop := rxIRIF_3 S0 ws S ∧ rkTa S0 S (S0 412 2) ∧ rzIs (rzCut (S0 411)) (S0 412 1) rzW_if (S0 412 2) = true
noncomputable def rxmRIFK_3 (S0 : Nat → Int → Int) (ws : List Int) (S : Nat → Int → Int) : Nat := rxmRIF_3 S0 ws S
noncomputable def rxIRIFK_4 (S0 : Nat → Int → Int) (ws : List Int) (S : Nat → Int → Int) : Prop := rxIRIF_4 S0 ws S ∧ rkTa S0 S (rzN (rzCut (S0 411)) (S0 412 1) (S0 412 2)) ∧ rzIs (rzCut (S0 411)) (S0 412 1) rzW_if (S0 412 2) = true
noncomputable def rxmRIFK_4 (S0 : Nat → Int → Int) (ws : List Int) (S : Nat → Int → Int) : Nat := rxmRIF_4 S0 ws S
noncomputable def rxIRIFK_5 (S0 : Nat → Int → Int) (ws : List Int) (S : Nat → Int → Int) (sa : Int) : Prop := rxIRIF_5 S0 ws S sa ∧ rkTa S0 S (rzN (rzCut (S0 411)) (S0 412 1) (S0 412 2)) ∧ rzIs (rzCut (S0 411)) (S0 412 1) rzW_if (S0 412 2) = true ∧ sa = S0 427 10
noncomputable def rxmRIFK_5 (S0 : Nat → Int → Int) (ws : List Int) (S : Nat → Int → Int) (sa : Int) : Nat := rxmRIF_5 S0 ws S sa
noncomputable def rxIRIFK_6 (S0 : Nat → Int → Int) (ws : List Int) (S : Nat → Int → Int) (sa res : Int) : Prop := rxIRIF_6 S0 ws S sa res ∧ (res = 1 → rkIo S0 S)
noncomputable def rxmRIFK_6 (S0 : Nat → Int → Int) (ws : List Int) (S : Nat → Int → Int) (sa res : Int) : Nat := rxmRIF_6 S0 ws S sa res
noncomputable def rxPRIFK (S0 : Nat → Int → Int) (ws : List Int) : Prop := rxPRIF S0 ws
noncomputable def rxPSRIFK (S0 : Nat → Int → Int) (ws : List Int) (S : Nat → Int → Int) (w : Option Int) : Prop := rxPSRIF S0 ws S w ∧ (w = some 1 → rkIo S0 S)
theorem rxkRIFK_1 {S0 : Nat → Int → Int} {ws : List Int} {S : Nat → Int → Int} (hP : rxPRIFK S0 ws) (hin : bx_same rxL (bx_mdl rxCRIFK.2.2.1) S0 S) (I0 : bx_Inv rxL S) (hinv : rxIRIFK_1 S0 ws S)  : rxPIWX S [412, 532] ∧ ∀ (S_p : Nat → Int → Int) (r : Int), 0 ≤ r → r ≤ 1 → rxPSIWX S [412, 532] S_p (some r) → bx_Inv rxL S_p → bx_same rxL (bx_mdl rxC59.2.2.1) S S_p → rxIRIFK_2 S0 ws S_p r ∧ rxmRIFK_2 S0 ws S_p r < rxmRIFK_1 S0 ws S := by
  obtain ⟨hI, hx⟩ := hinv
  have g_ := rxkRIF_1 hP hin I0 hI
  exact ⟨g_.1, fun S_p r l_ u_ hq I1 hsm => ⟨⟨(g_.2 S_p r l_ u_ hq I1 hsm).1, (by
    have e_ := hq.1
    subst e_
    exact hx)⟩, (g_.2 S_p r l_ u_ hq I1 hsm).2⟩⟩
theorem rxkRIFK_3 {S0 : Nat → Int → Int} {ws : List Int} {S : Nat → Int → Int} (hP : rxPRIFK S0 ws) (hin : bx_same rxL (bx_mdl rxCRIFK.2.2.1) S0 S) (I0 : bx_Inv rxL S) (hinv : rxIRIFK_3 S0 ws S)  : rxPAD S [412] ∧ ∀ (S_p : Nat → Int → Int), rxPSAD S [412] S_p none → bx_Inv rxL S_p → bx_same rxL (bx_mdl rxC84.2.2.1) S S_p → rxIRIFK_4 S0 ws S_p ∧ rxmRIFK_4 S0 ws S_p < rxmRIFK_3 S0 ws S := by
  obtain ⟨hI, hx⟩ := hinv
  have g_ := rxkRIF_3 hP hin I0 hI
  exact ⟨g_.1, fun S_p hq I1 hsm => ⟨⟨(g_.2 S_p hq I1 hsm).1, (by
    exact ⟨rkTa_ad hx.1 hI.1.1 hI.1.2.1 hsm (by decide +kernel) (by decide +kernel) hq.2.1, hx.2⟩)⟩, (g_.2 S_p hq I1 hsm).2⟩⟩
theorem rxkRIFK_5 {S0 : Nat → Int → Int} {ws : List Int} {S : Nat → Int → Int} {sa : Int} (hP : rxPRIFK S0 ws) (hin : bx_same rxL (bx_mdl rxCRIFK.2.2.1) S0 S) (I0 : bx_Inv rxL S) (hinv : rxIRIFK_5 S0 ws S sa) (l8 : 0 ≤ sa) (u8 : sa ≤ 1522) : rxPREDK S [412, sa, 1] ∧ ∀ (S_p : Nat → Int → Int) (res : Int), 0 ≤ res → res ≤ 1 → rxPSREDK S [412, sa, 1] S_p (some res) → bx_Inv rxL S_p → bx_same rxL (bx_mdl rxCREDK.2.2.1) S S_p → rxIRIFK_6 S0 ws S_p sa res ∧ rxmRIFK_6 S0 ws S_p sa res < rxmRIFK_5 S0 ws S sa := by
  obtain ⟨hI, hx⟩ := hinv
  have g_ := rxkRIF_5 hP hin I0 hI l8 u8
  exact ⟨g_.1, fun S_p res l_ u_ hq I1 hsm => ⟨⟨(g_.2 S_p res l_ u_ hq.1 I1 hsm).1, (by
    intro g_
    obtain ⟨-, sa2, sg2, hw2, h⟩ := hq
    have e1 : sa = sa2 := Option.some.inj (congrArg (fun l : List Int => l[1]?) hw2)
    have e2 : (1 : Int) = sg2 := Option.some.inj (congrArg (fun l : List Int => l[2]?) hw2)
    subst e1
    subst e2
    exact rkIo_y hx.2.1 hx.1 hI.1 hsm (by decide +kernel) hx.2.2 (h (by rw [g_])))⟩, (g_.2 S_p res l_ u_ hq.1 I1 hsm).2⟩⟩
theorem rxcRIFK_0_0 {S0 : Nat → Int → Int} {ws : List Int} {S : Nat → Int → Int} (hP : rxPRIFK S0 ws) (hin : bx_same rxL (bx_mdl rxCRIFK.2.2.1) S0 S) (I0 : bx_Inv rxL S) (hinv : rxIRIFK_0 S0 ws S)  : (True) ∧ (True) ∧ rxIRIFK_1 S0 ws S ∧ rxmRIFK_1 S0 ws S < rxmRIFK_0 S0 ws S := by
  obtain ⟨hI, hx⟩ := hinv
  obtain ⟨a_, b_, c_, d_⟩ := rxcRIF_0_0 hP hin I0 hI
  exact ⟨a_, b_, ⟨c_, (by
    obtain ⟨e, -⟩ := hI
    subst e
    exact rkTa_rf)⟩, d_⟩
theorem rxcRIFK_2_0 {S0 : Nat → Int → Int} {ws : List Int} {S : Nat → Int → Int} {r : Int} (hP : rxPRIFK S0 ws) (hin : bx_same rxL (bx_mdl rxCRIFK.2.2.1) S0 S) (I0 : bx_Inv rxL S) (hinv : rxIRIFK_2 S0 ws S r) (l8 : 1 ≤ r) (u8 : r ≤ 1) (f0 : r ≠ 0) : (True) ∧ (True) ∧ rxIRIFK_3 S0 ws S ∧ rxmRIFK_3 S0 ws S < rxmRIFK_2 S0 ws S r := by
  obtain ⟨hI, hx⟩ := hinv
  obtain ⟨a_, b_, c_, d_⟩ := rxcRIF_2_0 hP hin I0 hI l8 u8 f0
  exact ⟨a_, b_, ⟨c_, (by
    obtain ⟨hA, hr⟩ := hI
    have bx : rzIs (rzCut (S 411)) (S 412 1) rzW_if (S 412 2) = true := by
      cases hb : rzIs (rzCut (S 411)) (S 412 1) rzW_if (S 412 2) with
      | true => rfl
      | false =>
        rw [hb, if_neg (by decide)] at hr
        omega
    rw [hA.1.1, hA.1.2.1] at bx
    rw [hx.1] at bx
    exact ⟨hx, bx⟩)⟩, d_⟩
theorem rxdRIFK_2_0 {S0 : Nat → Int → Int} {ws : List Int} {S : Nat → Int → Int} {r : Int} (hP : rxPRIFK S0 ws) (hin : bx_same rxL (bx_mdl rxCRIFK.2.2.1) S0 S) (hin2 : bx_same rxL (bx_mdl rxCRIFK.2.2.1) S S) (I0 : bx_Inv rxL S) (I1 : bx_Inv rxL S) (hinv : rxIRIFK_2 S0 ws S r) (l8 : 0 ≤ r) (u8 : r ≤ 0) : (True) ∧ rxPSRIFK S0 ws S (some 1) := by
  obtain ⟨hI, hx⟩ := hinv
  obtain ⟨a_, c_⟩ := rxdRIF_2_0 hP hin hin2 I0 I1 hI l8 u8
  exact ⟨a_, c_, (by
    obtain ⟨hA, hr⟩ := hI
    have bx : rzIs (rzCut (S 411)) (S 412 1) rzW_if (S 412 2) = false := by
      cases hb : rzIs (rzCut (S 411)) (S 412 1) rzW_if (S 412 2) with
      | false => rfl
      | true =>
        rw [hb, if_pos rfl] at hr
        omega
    rw [hA.1.1, hA.1.2.1] at bx
    rw [hx.1] at bx
    exact fun _ => rkIo_n hx bx)⟩
theorem rxcRIFK_4_0 {S0 : Nat → Int → Int} {ws : List Int} {S : Nat → Int → Int} {x8 : Int} (hP : rxPRIFK S0 ws) (hin : bx_same rxL (bx_mdl rxCRIFK.2.2.1) S0 S) (I0 : bx_Inv rxL S) (hinv : rxIRIFK_4 S0 ws S) (l8 : 0 ≤ x8) (u8 : x8 ≤ 1522) (e0 : S 427 10 = x8) : (True) ∧ (True) ∧ rxIRIFK_5 S0 ws S x8 ∧ rxmRIFK_5 S0 ws S x8 < rxmRIFK_4 S0 ws S := by
  obtain ⟨hI, hx⟩ := hinv
  obtain ⟨a_, b_, c_, d_⟩ := rxcRIF_4_0 hP hin I0 hI l8 u8 e0
  exact ⟨a_, b_, ⟨c_, (by
    exact ⟨hx.1, hx.2, e0.symm.trans hx.1.2.2.2.2.2.2.2.2⟩)⟩, d_⟩
theorem rxdRIFK_6_0 {S0 : Nat → Int → Int} {ws : List Int} {S : Nat → Int → Int} {sa res : Int} (hP : rxPRIFK S0 ws) (hin : bx_same rxL (bx_mdl rxCRIFK.2.2.1) S0 S) (hin2 : bx_same rxL (bx_mdl rxCRIFK.2.2.1) S S) (I0 : bx_Inv rxL S) (I1 : bx_Inv rxL S) (hinv : rxIRIFK_6 S0 ws S sa res) (l8 : 0 ≤ sa) (u8 : sa ≤ 1522) (l9 : 0 ≤ res) (u9 : res ≤ 1) : (True) ∧ rxPSRIFK S0 ws S (some res) := by
  obtain ⟨hI, hx⟩ := hinv
  obtain ⟨a_, c_⟩ := rxdRIF_6_0 hP hin hin2 I0 I1 hI l8 u8 l9 u9
  exact ⟨a_, c_, (by
    exact fun g => hx (Option.some.inj g))⟩
noncomputable def rxCOCDK : bx_Ct := ([(3, (2, 7, 0)), (0, (0, 0, 4)), (0, (0, (-1), 6)), (0, (0, (-1), 6))], none, [(6, 4), (1024, 0), (1025, 0), (1026, 0), (1027, 0)], 1, [])
noncomputable def rxIOCDK_0 (S0 : Nat → Int → Int) (ws : List Int) (S : Nat → Int → Int) (pg ki st cu : Int) : Prop := rxIOCD_0 S0 ws S pg ki st cu ∧ True
noncomputable def rxmOCDK_0 (S0 : Nat → Int → Int) (ws : List Int) (S : Nat → Int → Int) (pg ki st cu : Int) : Nat := rxmOCD_0 S0 ws S pg ki st cu
noncomputable def rxPOCDK (S0 : Nat → Int → Int) (ws : List Int) : Prop := rxPOCD S0 ws
noncomputable def rxPSOCDK (S0 : Nat → Int → Int) (ws : List Int) (S : Nat → Int → Int) (w : Option Int) : Prop := w = none ∧ rxPSOCD S0 ws S w ∧ (∃ pg ki st cu : Int, ws = [pg, ki, st, cu] ∧ (pg = 427 → rkPp S0 → 0 ≤ S0 427 4 → S0 427 4 ≤ 11 → S = rkOc S0 ki st cu))
theorem rxdOCDK_0_0 {S0 : Nat → Int → Int} {ws : List Int} {S : Nat → Int → Int} {pg ki st cu x12 : Int} (hP : rxPOCDK S0 ws) (hin : bx_same rxL (bx_mdl rxCOCDK.2.2.1) S0 S) (hin2 : bx_same rxL (bx_mdl rxCOCDK.2.2.1) S S) (I0 : bx_Inv rxL S) (I1 : bx_Inv rxL S) (hinv : rxIOCDK_0 S0 ws S pg ki st cu) (l8 : 0 ≤ pg) (u8 : pg ≤ 1522) (l9 : 0 ≤ ki) (u9 : ki ≤ 4) (l10 : (-1) ≤ st) (u10 : st ≤ 6) (l11 : (-1) ≤ cu) (u11 : cu ≤ 6) (l12 : 12 ≤ x12) (u12 : x12 ≤ 12) (e0 : S (pg).toNat 4 = x12) : (True) ∧ rxPSOCDK S0 ws S none := by
  obtain ⟨hI, hx⟩ := hinv
  obtain ⟨a_, c_⟩ := rxdOCD_0_0 hP hin hin2 I0 I1 hI l8 u8 l9 u9 l10 u10 l11 u11 l12 u12 e0
  exact ⟨a_, rfl, c_, (by
    obtain ⟨e_, hw⟩ := hI
    subst e_
    refine ⟨pg, ki, st, cu, hw, fun h7 hp h0 h1 => ?_⟩
    subst h7
    have h12 : S 427 4 = x12 := e0
    exfalso
    omega)⟩
theorem rxdOCDK_0_1 {S0 : Nat → Int → Int} {ws : List Int} {S : Nat → Int → Int} {pg ki st cu x12 x13 x14 x15 : Int} (hP : rxPOCDK S0 ws) (hin : bx_same rxL (bx_mdl rxCOCDK.2.2.1) S0 S) (hin2 : bx_same rxL (bx_mdl rxCOCDK.2.2.1) S (bx_up (bx_up (bx_up (bx_up (bx_up (bx_up (bx_up S (pg + 4).toNat x12 ki) (pg + 5).toNat x12 st) (pg + 6).toNat x12 cu) (x13).toNat x12 ((-1))) (x14).toNat x12 ((-1))) (x15).toNat x12 ((-1))) (pg).toNat 4 (x12 + 1))) (I0 : bx_Inv rxL S) (I1 : bx_Inv rxL (bx_up (bx_up (bx_up (bx_up (bx_up (bx_up (bx_up S (pg + 4).toNat x12 ki) (pg + 5).toNat x12 st) (pg + 6).toNat x12 cu) (x13).toNat x12 ((-1))) (x14).toNat x12 ((-1))) (x15).toNat x12 ((-1))) (pg).toNat 4 (x12 + 1))) (hinv : rxIOCDK_0 S0 ws S pg ki st cu) (l8 : 0 ≤ pg) (u8 : pg ≤ 1522) (l9 : 0 ≤ ki) (u9 : ki ≤ 4) (l10 : (-1) ≤ st) (u10 : st ≤ 6) (l11 : (-1) ≤ cu) (u11 : cu ≤ 6) (l12 : 0 ≤ x12) (u12 : x12 ≤ 11) (l13 : 0 ≤ x13) (u13 : x13 ≤ 1522) (l14 : 0 ≤ x14) (u14 : x14 ≤ 1522) (l15 : 0 ≤ x15) (u15 : x15 ≤ 1522) (e13 : S (pg).toNat 4 = x12) (e12 : S (pg).toNat 5 = pg + 4) (e10 : (bx_up S (pg + 4).toNat x12 ki) (pg).toNat 6 = pg + 5) (e8 : (bx_up (bx_up S (pg + 4).toNat x12 ki) (pg + 5).toNat x12 st) (pg).toNat 7 = pg + 6) (e6 : (bx_up (bx_up (bx_up S (pg + 4).toNat x12 ki) (pg + 5).toNat x12 st) (pg + 6).toNat x12 cu) (pg).toNat 8 = x13) (e4 : (bx_up (bx_up (bx_up (bx_up S (pg + 4).toNat x12 ki) (pg + 5).toNat x12 st) (pg + 6).toNat x12 cu) (x13).toNat x12 ((-1))) (pg).toNat 9 = x14) (e2 : (bx_up (bx_up (bx_up (bx_up (bx_up S (pg + 4).toNat x12 ki) (pg + 5).toNat x12 st) (pg + 6).toNat x12 cu) (x13).toNat x12 ((-1))) (x14).toNat x12 ((-1))) (pg).toNat 10 = x15) : (True) ∧ rxPSOCDK S0 ws (bx_up (bx_up (bx_up (bx_up (bx_up (bx_up (bx_up S (pg + 4).toNat x12 ki) (pg + 5).toNat x12 st) (pg + 6).toNat x12 cu) (x13).toNat x12 ((-1))) (x14).toNat x12 ((-1))) (x15).toNat x12 ((-1))) (pg).toNat 4 (x12 + 1)) none := by
  obtain ⟨hI, hx⟩ := hinv
  obtain ⟨a_, c_⟩ := rxdOCD_0_1 hP hin hin2 I0 I1 hI l8 u8 l9 u9 l10 u10 l11 u11 l12 u12 l13 u13 l14 u14 l15 u15 e13 e12 e10 e8 e6 e4 e2
  exact ⟨a_, rfl, c_, (by
    obtain ⟨e_, hw⟩ := hI
    subst e_
    refine ⟨pg, ki, st, cu, hw, fun h7 hp h0 h1 => ?_⟩
    subst h7
    have h12 : S 427 4 = x12 := e13
    have k8 : x13 = 434 := (show S 427 8 = x13 from ((bx_up_ne (by omega)).trans ((bx_up_ne (by omega)).trans ((bx_up_ne (by omega))))).symm.trans e6).symm.trans hp.1
    subst k8
    have k9 : x14 = 435 := (show S 427 9 = x14 from ((bx_up_ne (by omega)).trans ((bx_up_ne (by omega)).trans ((bx_up_ne (by omega)).trans ((bx_up_ne (by omega)))))).symm.trans e4).symm.trans hp.2.1
    subst k9
    have k10 : x15 = 436 := (show S 427 10 = x15 from ((bx_up_ne (by omega)).trans ((bx_up_ne (by omega)).trans ((bx_up_ne (by omega)).trans ((bx_up_ne (by omega)).trans ((bx_up_ne (by omega))))))).symm.trans e2).symm.trans hp.2.2
    subst k10
    unfold rkOc
    rw [h12]
    rfl)⟩