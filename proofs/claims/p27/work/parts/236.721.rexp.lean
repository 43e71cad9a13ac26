noncomputable def rxCSHDK : bx_Ct := ([(3, (2, 7, 0)), (3, (2, 14, 0))], none, [(1027, 0)], 1, [])
noncomputable def rxISHDK_0 (S0 : Nat → Int → Int) (ws : List Int) (S : Nat → Int → Int) (pg sa : Int) : Prop := rxISHD_0 S0 ws S pg sa ∧ True
noncomputable def rxmSHDK_0 (S0 : Nat → Int → Int) (ws : List Int) (S : Nat → Int → Int) (pg sa : Int) : Nat := rxmSHD_0 S0 ws S pg sa
noncomputable def rxPSHDK (S0 : Nat → Int → Int) (ws : List Int) : Prop := rxPSHD S0 ws
noncomputable def rxPSSHDK (S0 : Nat → Int → Int) (ws : List Int) (S : Nat → Int → Int) (w : Option Int) : Prop := w = none ∧ rxPSSHD S0 ws S w ∧ (∃ pg sa : Int, ws = [pg, sa] ∧ (0 < S0 pg.toNat 4 → S = bx_up S0 sa.toNat (S0 pg.toNat 4 - 1) (S0 pg.toNat 0)) ∧ (S0 pg.toNat 4 ≤ 0 → S = S0))
theorem rxdSHDK_0_0 {S0 : Nat → Int → Int} {ws : List Int} {S : Nat → Int → Int} {pg sa x10 x11 : Int} (hP : rxPSHDK S0 ws) (hin : bx_same rxL (bx_mdl rxCSHDK.2.2.1) S0 S) (hin2 : bx_same rxL (bx_mdl rxCSHDK.2.2.1) S (bx_up S (sa).toNat (x10 + (-1)) x11)) (I0 : bx_Inv rxL S) (I1 : bx_Inv rxL (bx_up S (sa).toNat (x10 + (-1)) x11)) (hinv : rxISHDK_0 S0 ws S pg sa) (l8 : 0 ≤ pg) (u8 : pg ≤ 1522) (l9 : 0 ≤ sa) (u9 : sa ≤ 1522) (l10 : 1 ≤ x10) (u10 : x10 ≤ 12) (l11 : 0 ≤ x11) (u11 : x11 ≤ 400) (e2 : S (pg).toNat 4 = x10) (e1 : S (pg).toNat 0 = x11) : (True) ∧ rxPSSHDK S0 ws (bx_up S (sa).toNat (x10 + (-1)) x11) none := by
  obtain ⟨hI, hx⟩ := hinv
  obtain ⟨a_, c_⟩ := rxdSHD_0_0 hP hin hin2 I0 I1 hI l8 u8 l9 u9 l10 u10 l11 u11 e2 e1
  exact ⟨a_, rfl, c_, (by
    obtain ⟨e_, hw⟩ := hI
    subst e_
    refine ⟨pg, sa, hw, fun _ => ?_, fun h => ?_⟩
    · exact congr (congrArg (bx_up S (sa).toNat) (by omega)) (by omega)
    · exfalso
      omega)⟩
theorem rxdSHDK_0_1 {S0 : Nat → Int → Int} {ws : List Int} {S : Nat → Int → Int} {pg sa x10 : Int} (hP : rxPSHDK S0 ws) (hin : bx_same rxL (bx_mdl rxCSHDK.2.2.1) S0 S) (hin2 : bx_same rxL (bx_mdl rxCSHDK.2.2.1) S S) (I0 : bx_Inv rxL S) (I1 : bx_Inv rxL S) (hinv : rxISHDK_0 S0 ws S pg sa) (l8 : 0 ≤ pg) (u8 : pg ≤ 1522) (l9 : 0 ≤ sa) (u9 : sa ≤ 1522) (l10 : 0 ≤ x10) (u10 : x10 ≤ 0) (e0 : S (pg).toNat 4 = x10) : (True) ∧ rxPSSHDK S0 ws S none := by
  obtain ⟨hI, hx⟩ := hinv
  obtain ⟨a_, c_⟩ := rxdSHD_0_1 hP hin hin2 I0 I1 hI l8 u8 l9 u9 l10 u10 e0
  exact ⟨a_, rfl, c_, (by
    obtain ⟨e_, hw⟩ := hI
    subst e_
    refine ⟨pg, sa, hw, fun h => ?_, fun _ => rfl⟩
    exfalso
    omega)⟩
noncomputable def rxCREDK : bx_Ct := ([(3, (1, 412, 0)), (3, (2, 14, 0)), (0, (0, 0, 1))], some (0, (0, 0, 1)), [(6, 0), (7, 2), (7, 3), (7, 4), (7, 7), (7, 8), (7, 10), (1021, 0), (1022, 0), (1027, 0), (1034, 0), (1035, 0), (1036, 0)], 7, [(412, 0, 3, (1, 411, 0)), (412, 6, 3, (1, 427, 0))])
noncomputable def rxIREDK_0 (S0 : Nat → Int → Int) (ws : List Int) (S : Nat → Int → Int) (sa sg : Int) : Prop := rxIRED_0 S0 ws S sa sg ∧ True
noncomputable def rxmREDK_0 (S0 : Nat → Int → Int) (ws : List Int) (S : Nat → Int → Int) (sa sg : Int) : Nat := rxmRED_0 S0 ws S sa sg
noncomputable def rxIREDK_1 (S0 : Nat → Int → Int) (ws : List Int) (S : Nat → Int → Int) (sa sg : Int) : Prop := rxIRED_1 S0 ws S sa sg ∧ True
noncomputable def rxmREDK_1 (S0 : Nat → Int → Int) (ws : List Int) (S : Nat → Int → Int) (sa sg : Int) : Nat := rxmRED_1 S0 ws S sa sg
noncomputable def rxIREDK_2 (S0 : Nat → Int → Int) (ws : List Int) (S : Nat → Int → Int) (sa sg : Int) : Prop := rxIRED_2 S0 ws S sa sg ∧ rkS1 S0 S sa
noncomputable def rxmREDK_2 (S0 : Nat → Int → Int) (ws : List Int) (S : Nat → Int → Int) (sa sg : Int) : Nat := rxmRED_2 S0 ws S sa sg
noncomputable def rxIREDK_3 (S0 : Nat → Int → Int) (ws : List Int) (S : Nat → Int → Int) (sa sg pr tk : Int) : Prop := rxIRED_3 S0 ws S sa sg pr tk ∧ rkRe S0 S sa sg (decide (pr = 1))
noncomputable def rxmREDK_3 (S0 : Nat → Int → Int) (ws : List Int) (S : Nat → Int → Int) (sa sg pr tk : Int) : Nat := rxmRED_3 S0 ws S sa sg pr tk
noncomputable def rxIREDK_4 (S0 : Nat → Int → Int) (ws : List Int) (S : Nat → Int → Int) (sa sg pr tk : Int) : Prop := rxIRED_4 S0 ws S sa sg pr tk ∧ rkRe S0 S sa sg false
noncomputable def rxmREDK_4 (S0 : Nat → Int → Int) (ws : List Int) (S : Nat → Int → Int) (sa sg pr tk : Int) : Nat := rxmRED_4 S0 ws S sa sg pr tk
noncomputable def rxIREDK_5 (S0 : Nat → Int → Int) (ws : List Int) (S : Nat → Int → Int) (sa sg pr tk ip : Int) : Prop := rxIRED_5 S0 ws S sa sg pr tk ip ∧ rkRe S0 S sa sg false
noncomputable def rxmREDK_5 (S0 : Nat → Int → Int) (ws : List Int) (S : Nat → Int → Int) (sa sg pr tk ip : Int) : Nat := rxmRED_5 S0 ws S sa sg pr tk ip
noncomputable def rxIREDK_6 (S0 : Nat → Int → Int) (ws : List Int) (S : Nat → Int → Int) (sa sg pr tk : Int) : Prop := rxIRED_6 S0 ws S sa sg pr tk ∧ rkRe S0 S sa sg false
noncomputable def rxmREDK_6 (S0 : Nat → Int → Int) (ws : List Int) (S : Nat → Int → Int) (sa sg pr tk : Int) : Nat := rxmRED_6 S0 ws S sa sg pr tk
noncomputable def rxIREDK_7 (S0 : Nat → Int → Int) (ws : List Int) (S : Nat → Int → Int) (sa sg pr tk res : Int) : Prop := rxIRED_7 S0 ws S sa sg pr tk res ∧ (res = 1 → rkRe S0 S sa sg true)
noncomputable def rxmREDK_7 (S0 : Nat → Int → Int) (ws : List Int) (S : Nat → Int → Int) (sa sg pr tk res : Int) : Nat := rxmRED_7 S0 ws S sa sg pr tk res
noncomputable def rxIREDK_8 (S0 : Nat → Int → Int) (ws : List Int) (S : Nat → Int → Int) (sa sg pr tk : Int) : Prop := rxIRED_8 S0 ws S sa sg pr tk ∧ rkRe S0 S sa sg false
noncomputable def rxmREDK_8 (S0 : Nat → Int → Int) (ws : List Int) (S : Nat → Int → Int) (sa sg pr tk : Int) : Nat := rxmRED_8 S0 ws S sa sg pr tk
noncomputable def rxIREDK_9 (S0 : Nat → Int → Int) (ws : List Int) (S : Nat → Int → Int) (sa sg pr tk res : Int) : Prop := rxIRED_9 S0 ws S sa sg pr tk res ∧ (res = 1 → rkRe S0 S sa sg false)
noncomputable def rxmREDK_9 (S0 : Nat → Int → Int) (ws : List Int) (S : Nat → Int → Int) (sa sg pr tk res : Int) : Nat := rxmRED_9 S0 ws S sa sg pr tk res
noncomputable def rxIREDK_10 (S0 : Nat → Int → Int) (ws : List Int) (S : Nat → Int → Int) (sa sg pr tk : Int) : Prop := rxIRED_10 S0 ws S sa sg pr tk ∧ rkRe S0 S sa sg true
noncomputable def rxmREDK_10 (S0 : Nat → Int → Int) (ws : List Int) (S : Nat → Int → Int) (sa sg pr tk : Int) : Nat := rxmRED_10 S0 ws S sa sg pr tk
noncomputable def rxIREDK_11 (S0 : Nat → Int → Int) (ws : List Int) (S : Nat → Int → Int) (sa sg pr tk : Int) : Prop := rxIRED_11 S0 ws S sa sg pr tk ∧ rkRe S0 S sa sg true
noncomputable def rxmREDK_11 (S0 : Nat → Int → Int) (ws : List Int) (S : Nat → Int → Int) (sa sg pr tk : Int) : Nat := rxmRED_11 S0 ws S sa sg pr tk
noncomputable def rxIREDK_12 (S0 : Nat → Int → Int) (ws : List Int) (S : Nat → Int → Int) (sa sg pr tk : Int) : Prop := rxIRED_12 S0 ws S sa sg pr tk ∧ rkRe S0 S sa sg true
noncomputable def rxmREDK_12 (S0 : Nat → Int → Int) (ws : List Int) (S : Nat → Int → Int) (sa sg pr tk : Int) : Nat := rxmRED_12 S0 ws S sa sg pr tk
noncomputable def rxIREDK_13 (S0 : Nat → Int → Int) (ws : List Int) (S : Nat → Int → Int) (sa sg pr tk op : Int) : Prop := rxIRED_13 S0 ws S sa sg pr tk op ∧ rkRe S0 S sa sg true
noncomputable def rxmREDK_13 (S0 : Nat → Int → Int) (ws : List Int) (S : Nat → Int → Int) (sa sg pr tk op : Int) : Nat := rxmRED_13 S0 ws S sa sg pr tk op
noncomputable def rxIREDK_14 (S0 : Nat → Int → Int) (ws : List Int) (S : Nat → Int → Int) (sa sg pr tk op : Int) : Prop := rxIRED_14 S0 ws S sa sg pr tk op ∧ rkRe S0 S sa sg true
noncomputable def rxmREDK_14 (S0 : Nat → Int → Int) (ws : List Int) (S : Nat → Int → Int) (sa sg pr tk op : Int) : Nat := rxmRED_14 S0 ws S sa sg pr tk op
noncomputable def rxIREDK_15 (S0 : Nat → Int → Int) (ws : List Int) (S : Nat → Int → Int) (sa sg pr tk op res : Int) : Prop := rxIRED_15 S0 ws S sa sg pr tk op res ∧ (res = 1 → rkEo S0 S sa sg)
noncomputable def rxmREDK_15 (S0 : Nat → Int → Int) (ws : List Int) (S : Nat → Int → Int) (sa sg pr tk op res : Int) : Nat := rxmRED_15 S0 ws S sa sg pr tk op res
noncomputable def rxIREDK_16 (S0 : Nat → Int → Int) (ws : List Int) (S : Nat → Int → Int) (sa sg pr tk op : Int) : Prop := rxIRED_16 S0 ws S sa sg pr tk op ∧ rkRe S0 S sa sg true
noncomputable def rxmREDK_16 (S0 : Nat → Int → Int) (ws : List Int) (S : Nat → Int → Int) (sa sg pr tk op : Int) : Nat := rxmRED_16 S0 ws S sa sg pr tk op
noncomputable def rxIREDK_17 (S0 : Nat → Int → Int) (ws : List Int) (S : Nat → Int → Int) (sa sg pr tk op : Int) : Prop := rxIRED_17 S0 ws S sa sg pr tk op ∧ rkRe S0 S sa sg false
noncomputable def rxmREDK_17 (S0 : Nat → Int → Int) (ws : List Int) (S : Nat → Int → Int) (sa sg pr tk op : Int) : Nat := rxmRED_17 S0 ws S sa sg pr tk op
noncomputable def rxPREDK (S0 : Nat → Int → Int) (ws : List Int) : Prop := rxPRED S0 ws
noncomputable def rxPSREDK (S0 : Nat → Int → Int) (ws : List Int) (S : Nat → Int → Int) (w : Option Int) : Prop := rxPSRED S0 ws S w ∧ (∃ sa sg : Int, ws = [412, sa, sg] ∧ (w = some 1 → rkEo S0 S sa sg))
theorem rxkREDK_1 {S0 : Nat → Int → Int} {ws : List Int} {S : Nat → Int → Int} {sa sg : Int} (hP : rxPREDK S0 ws) (hin : bx_same rxL (bx_mdl rxCREDK.2.2.1) S0 S) (I0 : bx_Inv rxL S) (hinv : rxIREDK_1 S0 ws S sa sg) (l8 : 0 ≤ sa) (u8 : sa ≤ 1522) (l9 : 0 ≤ sg) (u9 : sg ≤ 1) : rxPSHDK S [427, sa] ∧ ∀ (S_p : Nat → Int → Int), rxPSSHDK S [427, sa] S_p none → bx_Inv rxL S_p → bx_same rxL (bx_mdl rxCSHDK.2.2.1) S S_p → rxIREDK_2 S0 ws S_p sa sg ∧ rxmREDK_2 S0 ws S_p sa sg < rxmREDK_1 S0 ws S sa sg := by
  obtain ⟨hI, hx⟩ := hinv
  have g_ := rxkRED_1 hP hin I0 hI l8 u8 l9 u9
  exact ⟨g_.1, fun S_p hq I1 hsm => ⟨⟨(g_.2 S_p hq.2.1 I1 hsm).1, (by
    obtain ⟨e, -⟩ := hI
    subst e
    obtain ⟨-, -, pg, sa2, hw2, h⟩ := hq
    have e1 : (427 : Int) = pg := Option.some.inj (congrArg (fun l : List Int => l[0]?) hw2)
    have e2 : sa = sa2 := Option.some.inj (congrArg (fun l : List Int => l[1]?) hw2)
    subst e1
    subst e2
    exact h)⟩, (g_.2 S_p hq.2.1 I1 hsm).2⟩⟩
theorem rxkREDK_4 {S0 : Nat → Int → Int} {ws : List Int} {S : Nat → Int → Int} {sa sg pr tk : Int} (hP : rxPREDK S0 ws) (hin : bx_same rxL (bx_mdl rxCREDK.2.2.1) S0 S) (I0 : bx_Inv rxL S) (hinv : rxIREDK_4 S0 ws S sa sg pr tk) (l8 : 0 ≤ sa) (u8 : sa ≤ 1522) (l9 : 0 ≤ sg) (u9 : sg ≤ 1) (l10 : 0 ≤ pr) (u10 : pr ≤ 1) (l11 : 0 ≤ tk) (u11 : tk ≤ 400) : rxPIPT S [412] ∧ ∀ (S_p : Nat → Int → Int) (ip : Int), 0 ≤ ip → ip ≤ 1 → rxPSIPT S [412] S_p (some ip) → bx_Inv rxL S_p → bx_same rxL (bx_mdl rxC64.2.2.1) S S_p → rxIREDK_5 S0 ws S_p sa sg pr tk ip ∧ rxmREDK_5 S0 ws S_p sa sg pr tk ip < rxmREDK_4 S0 ws S sa sg pr tk := by
  obtain ⟨hI, hx⟩ := hinv
  have g_ := rxkRED_4 hP hin I0 hI l8 u8 l9 u9 l10 u10 l11 u11
  exact ⟨g_.1, fun S_p ip l_ u_ hq I1 hsm => ⟨⟨(g_.2 S_p ip l_ u_ hq I1 hsm).1, (by
    obtain ⟨-, hL⟩ := hI
    have e := hq.1
    subst e
    exact hx)⟩, (g_.2 S_p ip l_ u_ hq I1 hsm).2⟩⟩
theorem rxkREDK_6 {S0 : Nat → Int → Int} {ws : List Int} {S : Nat → Int → Int} {sa sg pr tk : Int} (hP : rxPREDK S0 ws) (hin : bx_same rxL (bx_mdl rxCREDK.2.2.1) S0 S) (I0 : bx_Inv rxL S) (hinv : rxIREDK_6 S0 ws S sa sg pr tk) (l8 : 0 ≤ sa) (u8 : sa ≤ 1522) (l9 : 0 ≤ sg) (u9 : sg ≤ 1) (l10 : 0 ≤ pr) (u10 : pr ≤ 1) (l11 : 0 ≤ tk) (u11 : tk ≤ 400) : rxPRPDK S [412] ∧ ∀ (S_p : Nat → Int → Int) (res : Int), 0 ≤ res → res ≤ 1 → rxPSRPDK S [412] S_p (some res) → bx_Inv rxL S_p → bx_same rxL (bx_mdl rxCRPDK.2.2.1) S S_p → rxIREDK_7 S0 ws S_p sa sg pr tk res ∧ rxmREDK_7 S0 ws S_p sa sg pr tk res < rxmREDK_6 S0 ws S sa sg pr tk := by
  obtain ⟨hI, hx⟩ := hinv
  have g_ := rxkRED_6 hP hin I0 hI l8 u8 l9 u9 l10 u10 l11 u11
  exact ⟨g_.1, fun S_p res l_ u_ hq I1 hsm => ⟨⟨(g_.2 S_p res l_ u_ hq.1 I1 hsm).1, (by
    obtain ⟨hw, hpr, hL, hp⟩ := hI
    intro g_
    rcases hq.1 with ⟨q1, q2, q3, q4, q5⟩ | ⟨q1, q2⟩
    · exact rkRe_step hx hL.1 hL.2.2.1 hL.2.1.2.2.2 q3 (hq.2 (by rw [g_])) (fun z => rkSs_sm z hsm (by decide +kernel))
    · exfalso
      have := Option.some.inj q1
      omega)⟩, (g_.2 S_p res l_ u_ hq.1 I1 hsm).2⟩⟩
theorem rxkREDK_8 {S0 : Nat → Int → Int} {ws : List Int} {S : Nat → Int → Int} {sa sg pr tk : Int} (hP : rxPREDK S0 ws) (hin : bx_same rxL (bx_mdl rxCREDK.2.2.1) S0 S) (I0 : bx_Inv rxL S) (hinv : rxIREDK_8 S0 ws S sa sg pr tk) (l8 : 0 ≤ sa) (u8 : sa ≤ 1522) (l9 : 0 ≤ sg) (u9 : sg ≤ 1) (l10 : 0 ≤ pr) (u10 : pr ≤ 1) (l11 : 0 ≤ tk) (u11 : tk ≤ 400) : rxPRODK S [412] ∧ ∀ (S_p : Nat → Int → Int) (res : Int), 0 ≤ res → res ≤ 1 → rxPSRODK S [412] S_p (some res) → bx_Inv rxL S_p → bx_same rxL (bx_mdl rxCRODK.2.2.1) S S_p → rxIREDK_9 S0 ws S_p sa sg pr tk res ∧ rxmREDK_9 S0 ws S_p sa sg pr tk res < rxmREDK_8 S0 ws S sa sg pr tk := by
  obtain ⟨hI, hx⟩ := hinv
  have g_ := rxkRED_8 hP hin I0 hI l8 u8 l9 u9 l10 u10 l11 u11
  exact ⟨g_.1, fun S_p res l_ u_ hq I1 hsm => ⟨⟨(g_.2 S_p res l_ u_ hq.1 I1 hsm).1, (by
    obtain ⟨hw, hpr, hL, hp⟩ := hI
    intro g_
    rcases hq.1 with ⟨q1, q2, q3, q4, q5, q6⟩ | ⟨q1, q2⟩
    · exact rkRe_step hx hL.1 hL.2.2.1 hL.2.1.2.2.2 q3 (hq.2 (by rw [g_])) (fun z => rkSs_sm z hsm (by decide +kernel))
    · exfalso
      have := Option.some.inj q1
      omega)⟩, (g_.2 S_p res l_ u_ hq.1 I1 hsm).2⟩⟩
theorem rxkREDK_10 {S0 : Nat → Int → Int} {ws : List Int} {S : Nat → Int → Int} {sa sg pr tk : Int} (hP : rxPREDK S0 ws) (hin : bx_same rxL (bx_mdl rxCREDK.2.2.1) S0 S) (I0 : bx_Inv rxL S) (hinv : rxIREDK_10 S0 ws S sa sg pr tk) (l8 : 0 ≤ sa) (u8 : sa ≤ 1522) (l9 : 0 ≤ sg) (u9 : sg ≤ 1) (l10 : 0 ≤ pr) (u10 : pr ≤ 1) (l11 : 0 ≤ tk) (u11 : tk ≤ 400) : rxPRCDK S [412] ∧ ∀ (S_p : Nat → Int → Int), rxPSRCDK S [412] S_p none → bx_Inv rxL S_p → bx_same rxL (bx_mdl rxCRCDK.2.2.1) S S_p → rxIREDK_11 S0 ws S_p sa sg pr tk ∧ rxmREDK_11 S0 ws S_p sa sg pr tk < rxmREDK_10 S0 ws S sa sg pr tk := by
  obtain ⟨hI, hx⟩ := hinv
  have g_ := rxkRED_10 hP hin I0 hI l8 u8 l9 u9 l10 u10 l11 u11
  exact ⟨g_.1, fun S_p hq I1 hsm => ⟨⟨(g_.2 S_p hq.2.1 I1 hsm).1, (by
    obtain ⟨hw, hpr, hL, h1, hc⟩ := hI
    obtain ⟨-, q0, q3⟩ := hq
    obtain ⟨-, z2, z3, z4, z5⟩ := q0
    exact rkRe_step hx hL.1 hL.2.2.1 hL.2.1.2.2.2 z3 q3 (fun z => rkSs_sm z hsm (by decide +kernel)))⟩, (g_.2 S_p hq.2.1 I1 hsm).2⟩⟩
theorem rxkREDK_12 {S0 : Nat → Int → Int} {ws : List Int} {S : Nat → Int → Int} {sa sg pr tk : Int} (hP : rxPREDK S0 ws) (hin : bx_same rxL (bx_mdl rxCREDK.2.2.1) S0 S) (I0 : bx_Inv rxL S) (hinv : rxIREDK_12 S0 ws S sa sg pr tk) (l8 : 0 ≤ sa) (u8 : sa ≤ 1522) (l9 : 0 ≤ sg) (u9 : sg ≤ 1) (l10 : 0 ≤ pr) (u10 : pr ≤ 1) (l11 : 0 ≤ tk) (u11 : tk ≤ 400) : rxPOPH S [412] ∧ ∀ (S_p : Nat → Int → Int) (op : Int), (-1) ≤ op → op ≤ 13 → rxPSOPH S [412] S_p (some op) → bx_Inv rxL S_p → bx_same rxL (bx_mdl rxC69.2.2.1) S S_p → rxIREDK_13 S0 ws S_p sa sg pr tk op ∧ rxmREDK_13 S0 ws S_p sa sg pr tk op < rxmREDK_12 S0 ws S sa sg pr tk := by
  obtain ⟨hI, hx⟩ := hinv
  have g_ := rxkRED_12 hP hin I0 hI l8 u8 l9 u9 l10 u10 l11 u11
  exact ⟨g_.1, fun S_p op l_ u_ hq I1 hsm => ⟨⟨(g_.2 S_p op l_ u_ hq I1 hsm).1, (by
    have e := hq.1
    subst e
    exact hx)⟩, (g_.2 S_p op l_ u_ hq I1 hsm).2⟩⟩
theorem rxkREDK_14 {S0 : Nat → Int → Int} {ws : List Int} {S : Nat → Int → Int} {sa sg pr tk op : Int} (hP : rxPREDK S0 ws) (hin : bx_same rxL (bx_mdl rxCREDK.2.2.1) S0 S) (I0 : bx_Inv rxL S) (hinv : rxIREDK_14 S0 ws S sa sg pr tk op) (l8 : 0 ≤ sa) (u8 : sa ≤ 1522) (l9 : 0 ≤ sg) (u9 : sg ≤ 1) (l10 : 0 ≤ pr) (u10 : pr ≤ 1) (l11 : 0 ≤ tk) (u11 : tk ≤ 400) (l12 : (-1) ≤ op) (u12 : op ≤ 13) : rxPCEDK S [412] ∧ ∀ (S_p : Nat → Int → Int) (res : Int), 0 ≤ res → res ≤ 1 → rxPSCEDK S [412] S_p (some res) → bx_Inv rxL S_p → bx_same rxL (bx_mdl rxCCEDK.2.2.1) S S_p → rxIREDK_15 S0 ws S_p sa sg pr tk op res ∧ rxmREDK_15 S0 ws S_p sa sg pr tk op res < rxmREDK_14 S0 ws S sa sg pr tk op := by
  obtain ⟨hI, hx⟩ := hinv
  have g_ := rxkRED_14 hP hin I0 hI l8 u8 l9 u9 l10 u10 l11 u11 l12 u12
  exact ⟨g_.1, fun S_p res l_ u_ hq I1 hsm => ⟨⟨(g_.2 S_p res l_ u_ hq.1 I1 hsm).1, (by
    obtain ⟨hw, hL, hc, ho⟩ := hI
    intro g_
    rcases hq.1 with ⟨q1, q2, q3⟩ | ⟨q1, q2⟩
    · exact rkRe_done hx hL.1 hL.2.1.2.2.2 hL.2.1.2.2.1 q2 q3.2.1 (hq.2 (by rw [g_])) (fun z => rkSs_sm z hsm (by decide +kernel))
    · exfalso
      have := Option.some.inj q1
      omega)⟩, (g_.2 S_p res l_ u_ hq.1 I1 hsm).2⟩⟩
theorem rxkREDK_16 {S0 : Nat → Int → Int} {ws : List Int} {S : Nat → Int → Int} {sa sg pr tk op : Int} (hP : rxPREDK S0 ws) (hin : bx_same rxL (bx_mdl rxCREDK.2.2.1) S0 S) (I0 : bx_Inv rxL S) (hinv : rxIREDK_16 S0 ws S sa sg pr tk op) (l8 : 0 ≤ sa) (u8 : sa ≤ 1522) (l9 : 0 ≤ sg) (u9 : sg ≤ 1) (l10 : 0 ≤ pr) (u10 : pr ≤ 1) (l11 : 0 ≤ tk) (u11 : tk ≤ 400) (l12 : 0 ≤ op) (u12 : op ≤ 13) : rxPROPK S [412, op] ∧ ∀ (S_p : Nat → Int → Int), rxPSROPK S [412, op] S_p none → bx_Inv rxL S_p → bx_same rxL (bx_mdl rxCROPK.2.2.1) S S_p → rxIREDK_17 S0 ws S_p sa sg pr tk op ∧ rxmREDK_17 S0 ws S_p sa sg pr tk op < rxmREDK_16 S0 ws S sa sg pr tk op := by
  obtain ⟨hI, hx⟩ := hinv
  have g_ := rxkRED_16 hP hin I0 hI l8 u8 l9 u9 l10 u10 l11 u11 l12 u12
  exact ⟨g_.1, fun S_p hq I1 hsm => ⟨⟨(g_.2 S_p hq.2.1 I1 hsm).1, (by
    obtain ⟨hw, hL, hc, ho, hn⟩ := hI
    obtain ⟨-, q0, q3⟩ := hq
    obtain ⟨-, z2, z3, z4, z5⟩ := q0
    exact rkRe_step hx hL.1 hL.2.2.1 hL.2.1.2.2.2 z3 q3 (fun z => rkSs_sm z hsm (by decide +kernel)))⟩, (g_.2 S_p hq.2.1 I1 hsm).2⟩⟩
theorem rxcREDK_0_0 {S0 : Nat → Int → Int} {ws : List Int} {S : Nat → Int → Int} {sa sg : Int} (hP : rxPREDK S0 ws) (hin : bx_same rxL (bx_mdl rxCREDK.2.2.1) S0 S) (I0 : bx_Inv rxL S) (hinv : rxIREDK_0 S0 ws S sa sg) (l8 : 0 ≤ sa) (u8 : sa ≤ 1522) (l9 : 0 ≤ sg) (u9 : sg ≤ 1) : (True) ∧ (True) ∧ rxIREDK_1 S0 ws S sa sg ∧ rxmREDK_1 S0 ws S sa sg < rxmREDK_0 S0 ws S sa sg := by
  obtain ⟨hI, hx⟩ := hinv
  obtain ⟨a_, b_, c_, d_⟩ := rxcRED_0_0 hP hin I0 hI l8 u8 l9 u9
  exact ⟨a_, b_, ⟨c_, trivial⟩, d_⟩
theorem rxcREDK_2_0 {S0 : Nat → Int → Int} {ws : List Int} {S : Nat → Int → Int} {sa sg : Int} (hP : rxPREDK S0 ws) (hin : bx_same rxL (bx_mdl rxCREDK.2.2.1) S0 S) (I0 : bx_Inv rxL S) (hinv : rxIREDK_2 S0 ws S sa sg) (l8 : 0 ≤ sa) (u8 : sa ≤ 1522) (l9 : 0 ≤ sg) (u9 : sg ≤ 1) : (True) ∧ (True) ∧ rxIREDK_3 S0 ws (bx_up (bx_up (bx_up S 412 8 0) 424 0 sg) 412 10 0) sa sg 0 0 ∧ rxmREDK_3 S0 ws (bx_up (bx_up (bx_up S 412 8 0) 424 0 sg) 412 10 0) sa sg 0 0 < rxmREDK_2 S0 ws S sa sg := by
  obtain ⟨hI, hx⟩ := hinv
  obtain ⟨a_, b_, c_, d_⟩ := rxcRED_2_0 hP hin I0 hI l8 u8 l9 u9
  exact ⟨a_, b_, ⟨c_, (by
    obtain ⟨hw, hk, h2, h3, h7⟩ := hI
    intro h1 hc hf
    obtain ⟨g1, g2, g3⟩ := rkSs_0 h1 hc hx
    have e8 : (bx_up (bx_up (bx_up S 412 8 0) 424 0 sg) 412 10 0) 412 8 = 0 := (bx_up_ne (by omega)).trans ((bx_up_ne (by omega)).trans (bx_up_at))
    have hl : rzLv (bx_up (bx_up (bx_up S 412 8 0) 424 0 sg) 412 10 0) = [sg] := by
      unfold rzLv
      rw [e8]
      show [(bx_up (bx_up (bx_up S 412 8 0) 424 0 sg) 412 10 0) 424 0] = [sg]
      rw [show (bx_up (bx_up (bx_up S 412 8 0) 424 0 sg) 412 10 0) 424 0 = sg from ((bx_up_ne (by omega))).trans bx_up_at]
    have b2 : (bx_up (bx_up (bx_up S 412 8 0) 424 0 sg) 412 10 0) 412 2 = S0 412 2 := ((bx_up_ne (by omega)).trans ((bx_up_ne (by omega)).trans ((bx_up_ne (by omega))))).trans h2
    have b7 : (bx_up (bx_up (bx_up S 412 8 0) 424 0 sg) 412 10 0) 412 7 = S0 412 7 := ((bx_up_ne (by omega)).trans ((bx_up_ne (by omega)).trans ((bx_up_ne (by omega))))).trans h7
    have bz : (bx_up (bx_up (bx_up S 412 8 0) 424 0 sg) 412 10 0) 427 0 = S0 427 0 := ((bx_up_ne (by omega)).trans ((bx_up_ne (by omega)).trans ((bx_up_ne (by omega))))).trans g2
    have bI : 0 ≤ S 427 0 ∧ S 427 0 ≤ 400 := I0 427 0 (by decide) (by decide)
    have bx0 : 0 ≤ S0 427 0 := by omega
    refine ⟨rkSs_ne g1 ((bx_up_ne (by omega)).trans ((bx_up_ne (by omega)).trans ((bx_up_ne (by omega))))) (fun p hp j a b => (bx_up_ne (by omega)).trans ((bx_up_ne (by omega)).trans ((bx_up_ne (by omega))))), fun j a b => ⟨((bx_up_ne (by omega)).trans ((bx_up_ne (by omega)).trans ((bx_up_ne (by omega))))).trans (g3 j).1, ((bx_up_ne (by omega)).trans ((bx_up_ne (by omega)).trans ((bx_up_ne (by omega))))).trans (g3 j).2⟩, rkC0, ⟨bx0, Int.le_refl 0, bx_up_at, bz.trans (by show _ = S0 427 0 + (0 : Int); omega), fun j a b => ?_, fun j a b => ?_⟩, rkW_0, ?_, fun d hd => ?_⟩
    · have b : j < 0 := b
      omega
    · have b : j < 0 := b
      omega
    · show S0 427 0 + (0 : Int) + 0 + 1 ≤ _
      omega
    · rw [hl, b2, b7] at hd
      exact hd)⟩, d_⟩
theorem rxcREDK_3_0 {S0 : Nat → Int → Int} {ws : List Int} {S : Nat → Int → Int} {sa sg pr tk : Int} (hP : rxPREDK S0 ws) (hin : bx_same rxL (bx_mdl rxCREDK.2.2.1) S0 S) (I0 : bx_Inv rxL S) (hinv : rxIREDK_3 S0 ws S sa sg pr tk) (l8 : 0 ≤ sa) (u8 : sa ≤ 1522) (l9 : 0 ≤ sg) (u9 : sg ≤ 1) (l10 : 0 ≤ pr) (u10 : pr ≤ 0) (l11 : 0 ≤ tk) (u11 : tk ≤ 400) : (True) ∧ (True) ∧ rxIREDK_4 S0 ws S sa sg pr tk ∧ rxmREDK_4 S0 ws S sa sg pr tk < rxmREDK_3 S0 ws S sa sg pr tk := by
  obtain ⟨hI, hx⟩ := hinv
  obtain ⟨a_, b_, c_, d_⟩ := rxcRED_3_0 hP hin I0 hI l8 u8 l9 u9 l10 u10 l11 u11
  exact ⟨a_, b_, ⟨c_, (by
    have e : decide (pr = 1) = false := decide_eq_false (by omega)
    rw [e] at hx
    exact hx)⟩, d_⟩
theorem rxcREDK_3_1 {S0 : Nat → Int → Int} {ws : List Int} {S : Nat → Int → Int} {sa sg pr tk x12 x13 x14 x15 x16 : Int} (hP : rxPREDK S0 ws) (hin : bx_same rxL (bx_mdl rxCREDK.2.2.1) S0 S) (I0 : bx_Inv rxL S) (hinv : rxIREDK_3 S0 ws S sa sg pr tk) (l8 : 0 ≤ sa) (u8 : sa ≤ 1522) (l9 : 0 ≤ sg) (u9 : sg ≤ 1) (l10 : 1 ≤ pr) (u10 : pr ≤ 1) (l11 : 0 ≤ tk) (u11 : tk ≤ 400) (l12 : 1 ≤ x12) (u12 : x12 ≤ 8) (l13 : 0 ≤ x13) (u13 : x13 ≤ 399) (l14 : 1 ≤ x14) (u14 : x14 ≤ 400) (l15 : 93 ≤ x15) (u15 : x15 ≤ 93) (l16 : 1 ≤ x16) (u16 : x16 ≤ 4) (f0 : x16 ≠ 0) (f1 : x13 < x14) (f2 : pr ≠ 0) (e4 : S 412 8 = x12) (e3 : S 412 2 = x13) (e2 : S 412 1 = x14) (e1 : S 411 x13 = x15) (e0 : S 424 x12 = x16) : (True) ∧ (True) ∧ rxIREDK_12 S0 ws S sa sg pr tk ∧ rxmREDK_12 S0 ws S sa sg pr tk < rxmREDK_3 S0 ws S sa sg pr tk := by
  obtain ⟨hI, hx⟩ := hinv
  obtain ⟨a_, b_, c_, d_⟩ := rxcRED_3_1 hP hin I0 hI l8 u8 l9 u9 l10 u10 l11 u11 l12 u12 l13 u13 l14 u14 l15 u15 l16 u16 f0 f1 f2 e4 e3 e2 e1 e0
  exact ⟨a_, b_, ⟨c_, (by
    have e : decide (pr = 1) = true := decide_eq_true (by omega)
    rw [e] at hx
    exact hx)⟩, d_⟩
theorem rxcREDK_3_2 {S0 : Nat → Int → Int} {ws : List Int} {S : Nat → Int → Int} {sa sg pr tk x12 x13 x14 x15 x16 : Int} (hP : rxPREDK S0 ws) (hin : bx_same rxL (bx_mdl rxCREDK.2.2.1) S0 S) (I0 : bx_Inv rxL S) (hinv : rxIREDK_3 S0 ws S sa sg pr tk) (l8 : 0 ≤ sa) (u8 : sa ≤ 1522) (l9 : 0 ≤ sg) (u9 : sg ≤ 1) (l10 : 1 ≤ pr) (u10 : pr ≤ 1) (l11 : 0 ≤ tk) (u11 : tk ≤ 400) (l12 : 1 ≤ x12) (u12 : x12 ≤ 8) (l13 : 0 ≤ x13) (u13 : x13 ≤ 399) (l14 : 1 ≤ x14) (u14 : x14 ≤ 400) (l15 : 93 ≤ x15) (u15 : x15 ≤ 93) (l16 : 0 ≤ x16) (u16 : x16 ≤ 0) (f0 : x13 < x14) (f1 : pr ≠ 0) (e4 : S 412 8 = x12) (e3 : S 412 2 = x13) (e2 : S 412 1 = x14) (e1 : S 411 x13 = x15) (e0 : S 424 x12 = x16) : (True) ∧ (True) ∧ rxIREDK_10 S0 ws S sa sg pr tk ∧ rxmREDK_10 S0 ws S sa sg pr tk < rxmREDK_3 S0 ws S sa sg pr tk := by
  obtain ⟨hI, hx⟩ := hinv
  obtain ⟨a_, b_, c_, d_⟩ := rxcRED_3_2 hP hin I0 hI l8 u8 l9 u9 l10 u10 l11 u11 l12 u12 l13 u13 l14 u14 l15 u15 l16 u16 f0 f1 e4 e3 e2 e1 e0
  exact ⟨a_, b_, ⟨c_, (by
    have e : decide (pr = 1) = true := decide_eq_true (by omega)
    rw [e] at hx
    exact hx)⟩, d_⟩
theorem rxcREDK_3_3 {S0 : Nat → Int → Int} {ws : List Int} {S : Nat → Int → Int} {sa sg pr tk x12 x13 x14 x15 : Int} (hP : rxPREDK S0 ws) (hin : bx_same rxL (bx_mdl rxCREDK.2.2.1) S0 S) (I0 : bx_Inv rxL S) (hinv : rxIREDK_3 S0 ws S sa sg pr tk) (l8 : 0 ≤ sa) (u8 : sa ≤ 1522) (l9 : 0 ≤ sg) (u9 : sg ≤ 1) (l10 : 1 ≤ pr) (u10 : pr ≤ 1) (l11 : 0 ≤ tk) (u11 : tk ≤ 400) (l12 : 9 ≤ x12) (u12 : x12 ≤ 2147483647) (l13 : 0 ≤ x13) (u13 : x13 ≤ 399) (l14 : 1 ≤ x14) (u14 : x14 ≤ 400) (l15 : 93 ≤ x15) (u15 : x15 ≤ 93) (f0 : x13 < x14) (f1 : pr ≠ 0) (e3 : S 412 8 = x12) (e2 : S 412 2 = x13) (e1 : S 412 1 = x14) (e0 : S 411 x13 = x15) : (True) ∧ (True) ∧ rxIREDK_10 S0 ws S sa sg pr tk ∧ rxmREDK_10 S0 ws S sa sg pr tk < rxmREDK_3 S0 ws S sa sg pr tk := by
  obtain ⟨hI, hx⟩ := hinv
  obtain ⟨a_, b_, c_, d_⟩ := rxcRED_3_3 hP hin I0 hI l8 u8 l9 u9 l10 u10 l11 u11 l12 u12 l13 u13 l14 u14 l15 u15 f0 f1 e3 e2 e1 e0
  exact ⟨a_, b_, ⟨c_, (by
    have e : decide (pr = 1) = true := decide_eq_true (by omega)
    rw [e] at hx
    exact hx)⟩, d_⟩
theorem rxcREDK_3_4 {S0 : Nat → Int → Int} {ws : List Int} {S : Nat → Int → Int} {sa sg pr tk x12 x13 x14 x15 x16 : Int} (hP : rxPREDK S0 ws) (hin : bx_same rxL (bx_mdl rxCREDK.2.2.1) S0 S) (I0 : bx_Inv rxL S) (hinv : rxIREDK_3 S0 ws S sa sg pr tk) (l8 : 0 ≤ sa) (u8 : sa ≤ 1522) (l9 : 0 ≤ sg) (u9 : sg ≤ 1) (l10 : 1 ≤ pr) (u10 : pr ≤ 1) (l11 : 0 ≤ tk) (u11 : tk ≤ 400) (l12 : 9 ≤ x12) (u12 : x12 ≤ 2147483647) (l13 : 0 ≤ x13) (u13 : x13 ≤ 399) (l14 : 1 ≤ x14) (u14 : x14 ≤ 400) (l15 : 0 ≤ x15) (u15 : x15 ≤ 255) (l16 : 41 ≤ x16) (u16 : x16 ≤ 41) (f0 : x13 < x14) (f1 : x15 ≠ 93) (f2 : x13 < x14) (f3 : pr ≠ 0) (e4 : S 412 8 = x12) (e3 : S 412 2 = x13) (e2 : S 412 1 = x14) (e1 : S 411 x13 = x15) (e0 : S 411 x13 = x16) : (True) ∧ (True) ∧ rxIREDK_12 S0 ws S sa sg pr tk ∧ rxmREDK_12 S0 ws S sa sg pr tk < rxmREDK_3 S0 ws S sa sg pr tk := by
  obtain ⟨hI, hx⟩ := hinv
  obtain ⟨a_, b_, c_, d_⟩ := rxcRED_3_4 hP hin I0 hI l8 u8 l9 u9 l10 u10 l11 u11 l12 u12 l13 u13 l14 u14 l15 u15 l16 u16 f0 f1 f2 f3 e4 e3 e2 e1 e0
  exact ⟨a_, b_, ⟨c_, (by
    have e : decide (pr = 1) = true := decide_eq_true (by omega)
    rw [e] at hx
    exact hx)⟩, d_⟩
theorem rxcREDK_3_5 {S0 : Nat → Int → Int} {ws : List Int} {S : Nat → Int → Int} {sa sg pr tk x12 x13 x14 x15 x16 x17 x18 : Int} (hP : rxPREDK S0 ws) (hin : bx_same rxL (bx_mdl rxCREDK.2.2.1) S0 S) (I0 : bx_Inv rxL S) (hinv : rxIREDK_3 S0 ws S sa sg pr tk) (l8 : 0 ≤ sa) (u8 : sa ≤ 1522) (l9 : 0 ≤ sg) (u9 : sg ≤ 1) (l10 : 1 ≤ pr) (u10 : pr ≤ 1) (l11 : 0 ≤ tk) (u11 : tk ≤ 400) (l12 : 1 ≤ x12) (u12 : x12 ≤ 8) (l13 : 0 ≤ x13) (u13 : x13 ≤ 399) (l14 : 1 ≤ x14) (u14 : x14 ≤ 400) (l15 : 0 ≤ x15) (u15 : x15 ≤ 255) (l16 : 41 ≤ x16) (u16 : x16 ≤ 41) (l17 : 0 ≤ x17) (u17 : x17 ≤ 4) (l18 : 4 ≤ x18) (u18 : x18 ≤ 4) (f0 : x17 ≠ 3) (f1 : x13 < x14) (f2 : x15 ≠ 93) (f3 : x13 < x14) (f4 : pr ≠ 0) (e6 : S 412 8 = x12) (e5 : S 412 2 = x13) (e4 : S 412 1 = x14) (e3 : S 411 x13 = x15) (e2 : S 411 x13 = x16) (e1 : S 424 x12 = x17) (e0 : S 424 x12 = x18) : (True) ∧ (True) ∧ rxIREDK_10 S0 ws S sa sg pr tk ∧ rxmREDK_10 S0 ws S sa sg pr tk < rxmREDK_3 S0 ws S sa sg pr tk := by
  obtain ⟨hI, hx⟩ := hinv
  obtain ⟨a_, b_, c_, d_⟩ := rxcRED_3_5 hP hin I0 hI l8 u8 l9 u9 l10 u10 l11 u11 l12 u12 l13 u13 l14 u14 l15 u15 l16 u16 l17 u17 l18 u18 f0 f1 f2 f3 f4 e6 e5 e4 e3 e2 e1 e0
  exact ⟨a_, b_, ⟨c_, (by
    have e : decide (pr = 1) = true := decide_eq_true (by omega)
    rw [e] at hx
    exact hx)⟩, d_⟩
theorem rxcREDK_3_6 {S0 : Nat → Int → Int} {ws : List Int} {S : Nat → Int → Int} {sa sg pr tk x12 x13 x14 x15 x16 x17 x18 : Int} (hP : rxPREDK S0 ws) (hin : bx_same rxL (bx_mdl rxCREDK.2.2.1) S0 S) (I0 : bx_Inv rxL S) (hinv : rxIREDK_3 S0 ws S sa sg pr tk) (l8 : 0 ≤ sa) (u8 : sa ≤ 1522) (l9 : 0 ≤ sg) (u9 : sg ≤ 1) (l10 : 1 ≤ pr) (u10 : pr ≤ 1) (l11 : 0 ≤ tk) (u11 : tk ≤ 400) (l12 : 1 ≤ x12) (u12 : x12 ≤ 8) (l13 : 0 ≤ x13) (u13 : x13 ≤ 399) (l14 : 1 ≤ x14) (u14 : x14 ≤ 400) (l15 : 0 ≤ x15) (u15 : x15 ≤ 255) (l16 : 41 ≤ x16) (u16 : x16 ≤ 41) (l17 : 0 ≤ x17) (u17 : x17 ≤ 4) (l18 : 0 ≤ x18) (u18 : x18 ≤ 3) (f0 : x18 ≠ 4) (f1 : x17 ≠ 3) (f2 : x13 < x14) (f3 : x15 ≠ 93) (f4 : x13 < x14) (f5 : pr ≠ 0) (e6 : S 412 8 = x12) (e5 : S 412 2 = x13) (e4 : S 412 1 = x14) (e3 : S 411 x13 = x15) (e2 : S 411 x13 = x16) (e1 : S 424 x12 = x17) (e0 : S 424 x12 = x18) : (True) ∧ (True) ∧ rxIREDK_12 S0 ws S sa sg pr tk ∧ rxmREDK_12 S0 ws S sa sg pr tk < rxmREDK_3 S0 ws S sa sg pr tk := by
  obtain ⟨hI, hx⟩ := hinv
  obtain ⟨a_, b_, c_, d_⟩ := rxcRED_3_6 hP hin I0 hI l8 u8 l9 u9 l10 u10 l11 u11 l12 u12 l13 u13 l14 u14 l15 u15 l16 u16 l17 u17 l18 u18 f0 f1 f2 f3 f4 f5 e6 e5 e4 e3 e2 e1 e0
  exact ⟨a_, b_, ⟨c_, (by
    have e : decide (pr = 1) = true := decide_eq_true (by omega)
    rw [e] at hx
    exact hx)⟩, d_⟩
theorem rxcREDK_3_7 {S0 : Nat → Int → Int} {ws : List Int} {S : Nat → Int → Int} {sa sg pr tk x12 x13 x14 x15 x16 x17 : Int} (hP : rxPREDK S0 ws) (hin : bx_same rxL (bx_mdl rxCREDK.2.2.1) S0 S) (I0 : bx_Inv rxL S) (hinv : rxIREDK_3 S0 ws S sa sg pr tk) (l8 : 0 ≤ sa) (u8 : sa ≤ 1522) (l9 : 0 ≤ sg) (u9 : sg ≤ 1) (l10 : 1 ≤ pr) (u10 : pr ≤ 1) (l11 : 0 ≤ tk) (u11 : tk ≤ 400) (l12 : 1 ≤ x12) (u12 : x12 ≤ 8) (l13 : 0 ≤ x13) (u13 : x13 ≤ 399) (l14 : 1 ≤ x14) (u14 : x14 ≤ 400) (l15 : 0 ≤ x15) (u15 : x15 ≤ 255) (l16 : 41 ≤ x16) (u16 : x16 ≤ 41) (l17 : 3 ≤ x17) (u17 : x17 ≤ 3) (f0 : x13 < x14) (f1 : x15 ≠ 93) (f2 : x13 < x14) (f3 : pr ≠ 0) (e5 : S 412 8 = x12) (e4 : S 412 2 = x13) (e3 : S 412 1 = x14) (e2 : S 411 x13 = x15) (e1 : S 411 x13 = x16) (e0 : S 424 x12 = x17) : (True) ∧ (True) ∧ rxIREDK_10 S0 ws S sa sg pr tk ∧ rxmREDK_10 S0 ws S sa sg pr tk < rxmREDK_3 S0 ws S sa sg pr tk := by
  obtain ⟨hI, hx⟩ := hinv
  obtain ⟨a_, b_, c_, d_⟩ := rxcRED_3_7 hP hin I0 hI l8 u8 l9 u9 l10 u10 l11 u11 l12 u12 l13 u13 l14 u14 l15 u15 l16 u16 l17 u17 f0 f1 f2 f3 e5 e4 e3 e2 e1 e0
  exact ⟨a_, b_, ⟨c_, (by
    have e : decide (pr = 1) = true := decide_eq_true (by omega)
    rw [e] at hx
    exact hx)⟩, d_⟩
theorem rxcREDK_3_8 {S0 : Nat → Int → Int} {ws : List Int} {S : Nat → Int → Int} {sa sg pr tk x12 x13 x14 x15 x16 : Int} (hP : rxPREDK S0 ws) (hin : bx_same rxL (bx_mdl rxCREDK.2.2.1) S0 S) (I0 : bx_Inv rxL S) (hinv : rxIREDK_3 S0 ws S sa sg pr tk) (l8 : 0 ≤ sa) (u8 : sa ≤ 1522) (l9 : 0 ≤ sg) (u9 : sg ≤ 1) (l10 : 1 ≤ pr) (u10 : pr ≤ 1) (l11 : 0 ≤ tk) (u11 : tk ≤ 400) (l12 : 1 ≤ x12) (u12 : x12 ≤ 2147483647) (l13 : 0 ≤ x13) (u13 : x13 ≤ 399) (l14 : 1 ≤ x14) (u14 : x14 ≤ 400) (l15 : 0 ≤ x15) (u15 : x15 ≤ 255) (l16 : 0 ≤ x16) (u16 : x16 ≤ 255) (f0 : x16 ≠ 41) (f1 : x13 < x14) (f2 : x15 ≠ 93) (f3 : x13 < x14) (f4 : pr ≠ 0) (e4 : S 412 8 = x12) (e3 : S 412 2 = x13) (e2 : S 412 1 = x14) (e1 : S 411 x13 = x15) (e0 : S 411 x13 = x16) : (True) ∧ (True) ∧ rxIREDK_12 S0 ws S sa sg pr tk ∧ rxmREDK_12 S0 ws S sa sg pr tk < rxmREDK_3 S0 ws S sa sg pr tk := by
  obtain ⟨hI, hx⟩ := hinv
  obtain ⟨a_, b_, c_, d_⟩ := rxcRED_3_8 hP hin I0 hI l8 u8 l9 u9 l10 u10 l11 u11 l12 u12 l13 u13 l14 u14 l15 u15 l16 u16 f0 f1 f2 f3 f4 e4 e3 e2 e1 e0
  exact ⟨a_, b_, ⟨c_, (by
    have e : decide (pr = 1) = true := decide_eq_true (by omega)
    rw [e] at hx
    exact hx)⟩, d_⟩
theorem rxcREDK_3_9 {S0 : Nat → Int → Int} {ws : List Int} {S : Nat → Int → Int} {sa sg pr tk x12 x13 x14 : Int} (hP : rxPREDK S0 ws) (hin : bx_same rxL (bx_mdl rxCREDK.2.2.1) S0 S) (I0 : bx_Inv rxL S) (hinv : rxIREDK_3 S0 ws S sa sg pr tk) (l8 : 0 ≤ sa) (u8 : sa ≤ 1522) (l9 : 0 ≤ sg) (u9 : sg ≤ 1) (l10 : 1 ≤ pr) (u10 : pr ≤ 1) (l11 : 0 ≤ tk) (u11 : tk ≤ 400) (l12 : 1 ≤ x12) (u12 : x12 ≤ 2147483647) (l13 : 0 ≤ x13) (u13 : x13 ≤ 400) (l14 : 0 ≤ x14) (u14 : x14 ≤ 400) (f0 : x14 ≤ x13) (f1 : x14 ≤ x13) (f2 : pr ≠ 0) (e2 : S 412 8 = x12) (e1 : S 412 2 = x13) (e0 : S 412 1 = x14) : (True) ∧ (True) ∧ rxIREDK_12 S0 ws S sa sg pr tk ∧ rxmREDK_12 S0 ws S sa sg pr tk < rxmREDK_3 S0 ws S sa sg pr tk := by
  obtain ⟨hI, hx⟩ := hinv
  obtain ⟨a_, b_, c_, d_⟩ := rxcRED_3_9 hP hin I0 hI l8 u8 l9 u9 l10 u10 l11 u11 l12 u12 l13 u13 l14 u14 f0 f1 f2 e2 e1 e0
  exact ⟨a_, b_, ⟨c_, (by
    have e : decide (pr = 1) = true := decide_eq_true (by omega)
    rw [e] at hx
    exact hx)⟩, d_⟩
theorem rxcREDK_3_10 {S0 : Nat → Int → Int} {ws : List Int} {S : Nat → Int → Int} {sa sg pr tk x12 : Int} (hP : rxPREDK S0 ws) (hin : bx_same rxL (bx_mdl rxCREDK.2.2.1) S0 S) (I0 : bx_Inv rxL S) (hinv : rxIREDK_3 S0 ws S sa sg pr tk) (l8 : 0 ≤ sa) (u8 : sa ≤ 1522) (l9 : 0 ≤ sg) (u9 : sg ≤ 1) (l10 : 1 ≤ pr) (u10 : pr ≤ 1) (l11 : 0 ≤ tk) (u11 : tk ≤ 400) (l12 : (-2147483648) ≤ x12) (u12 : x12 ≤ 0) (f0 : pr ≠ 0) (e0 : S 412 8 = x12) : (True) ∧ (True) ∧ rxIREDK_12 S0 ws S sa sg pr tk ∧ rxmREDK_12 S0 ws S sa sg pr tk < rxmREDK_3 S0 ws S sa sg pr tk := by
  obtain ⟨hI, hx⟩ := hinv
  obtain ⟨a_, b_, c_, d_⟩ := rxcRED_3_10 hP hin I0 hI l8 u8 l9 u9 l10 u10 l11 u11 l12 u12 f0 e0
  exact ⟨a_, b_, ⟨c_, (by
    have e : decide (pr = 1) = true := decide_eq_true (by omega)
    rw [e] at hx
    exact hx)⟩, d_⟩
theorem rxdREDK_3_0 {S0 : Nat → Int → Int} {ws : List Int} {S : Nat → Int → Int} {sa sg pr tk x12 : Int} (hP : rxPREDK S0 ws) (hin : bx_same rxL (bx_mdl rxCREDK.2.2.1) S0 S) (hin2 : bx_same rxL (bx_mdl rxCREDK.2.2.1) S (bx_up S 412 4 x12)) (I0 : bx_Inv rxL S) (I1 : bx_Inv rxL (bx_up S 412 4 x12)) (hinv : rxIREDK_3 S0 ws S sa sg pr tk) (l8 : 0 ≤ sa) (u8 : sa ≤ 1522) (l9 : 0 ≤ sg) (u9 : sg ≤ 1) (l10 : 0 ≤ pr) (u10 : pr ≤ 1) (l11 : 401 ≤ tk) (u11 : tk ≤ 401) (l12 : 0 ≤ x12) (u12 : x12 ≤ 400) (e1 : S 412 2 = x12) : (True) ∧ rxPSREDK S0 ws (bx_up S 412 4 x12) (some 0) := by
  obtain ⟨hI, hx⟩ := hinv
  obtain ⟨a_, c_⟩ := rxdRED_3_0 hP hin hin2 I0 I1 hI l8 u8 l9 u9 l10 u10 l11 u11 l12 u12 e1
  exact ⟨a_, c_, (by
    have hw := hI.1
    exact ⟨sa, sg, hw, fun g => by
      have := Option.some.inj g
      omega⟩)⟩
theorem rxcREDK_5_0 {S0 : Nat → Int → Int} {ws : List Int} {S : Nat → Int → Int} {sa sg pr tk ip : Int} (hP : rxPREDK S0 ws) (hin : bx_same rxL (bx_mdl rxCREDK.2.2.1) S0 S) (I0 : bx_Inv rxL S) (hinv : rxIREDK_5 S0 ws S sa sg pr tk ip) (l8 : 0 ≤ sa) (u8 : sa ≤ 1522) (l9 : 0 ≤ sg) (u9 : sg ≤ 1) (l10 : 0 ≤ pr) (u10 : pr ≤ 1) (l11 : 0 ≤ tk) (u11 : tk ≤ 400) (l12 : 1 ≤ ip) (u12 : ip ≤ 1) (f0 : ip ≠ 0) : (True) ∧ (True) ∧ rxIREDK_6 S0 ws S sa sg ip tk ∧ rxmREDK_6 S0 ws S sa sg ip tk < rxmREDK_5 S0 ws S sa sg pr tk ip := by
  obtain ⟨hI, hx⟩ := hinv
  obtain ⟨a_, b_, c_, d_⟩ := rxcRED_5_0 hP hin I0 hI l8 u8 l9 u9 l10 u10 l11 u11 l12 u12 f0
  exact ⟨a_, b_, ⟨c_, hx⟩, d_⟩
theorem rxcREDK_5_1 {S0 : Nat → Int → Int} {ws : List Int} {S : Nat → Int → Int} {sa sg pr tk ip : Int} (hP : rxPREDK S0 ws) (hin : bx_same rxL (bx_mdl rxCREDK.2.2.1) S0 S) (I0 : bx_Inv rxL S) (hinv : rxIREDK_5 S0 ws S sa sg pr tk ip) (l8 : 0 ≤ sa) (u8 : sa ≤ 1522) (l9 : 0 ≤ sg) (u9 : sg ≤ 1) (l10 : 0 ≤ pr) (u10 : pr ≤ 1) (l11 : 0 ≤ tk) (u11 : tk ≤ 400) (l12 : 0 ≤ ip) (u12 : ip ≤ 0) : (True) ∧ (True) ∧ rxIREDK_8 S0 ws S sa sg ip tk ∧ rxmREDK_8 S0 ws S sa sg ip tk < rxmREDK_5 S0 ws S sa sg pr tk ip := by
  obtain ⟨hI, hx⟩ := hinv
  obtain ⟨a_, b_, c_, d_⟩ := rxcRED_5_1 hP hin I0 hI l8 u8 l9 u9 l10 u10 l11 u11 l12 u12
  exact ⟨a_, b_, ⟨c_, hx⟩, d_⟩
theorem rxcREDK_7_0 {S0 : Nat → Int → Int} {ws : List Int} {S : Nat → Int → Int} {sa sg pr tk res : Int} (hP : rxPREDK S0 ws) (hin : bx_same rxL (bx_mdl rxCREDK.2.2.1) S0 S) (I0 : bx_Inv rxL S) (hinv : rxIREDK_7 S0 ws S sa sg pr tk res) (l8 : 0 ≤ sa) (u8 : sa ≤ 1522) (l9 : 0 ≤ sg) (u9 : sg ≤ 1) (l10 : 0 ≤ pr) (u10 : pr ≤ 1) (l11 : 0 ≤ tk) (u11 : tk ≤ 400) (l12 : 1 ≤ res) (u12 : res ≤ 1) (f0 : res ≠ 0) : (True) ∧ (True) ∧ rxIREDK_3 S0 ws S sa sg pr (tk + 1) ∧ rxmREDK_3 S0 ws S sa sg pr (tk + 1) < rxmREDK_7 S0 ws S sa sg pr tk res := by
  obtain ⟨hI, hx⟩ := hinv
  obtain ⟨a_, b_, c_, d_⟩ := rxcRED_7_0 hP hin I0 hI l8 u8 l9 u9 l10 u10 l11 u11 l12 u12 f0
  exact ⟨a_, b_, ⟨c_, (by
    have hpr := hI.2.1
    have e : decide (pr = 1) = true := decide_eq_true (by omega)
    rw [e]
    exact hx (by omega))⟩, d_⟩
theorem rxdREDK_7_0 {S0 : Nat → Int → Int} {ws : List Int} {S : Nat → Int → Int} {sa sg pr tk res : Int} (hP : rxPREDK S0 ws) (hin : bx_same rxL (bx_mdl rxCREDK.2.2.1) S0 S) (hin2 : bx_same rxL (bx_mdl rxCREDK.2.2.1) S S) (I0 : bx_Inv rxL S) (I1 : bx_Inv rxL S) (hinv : rxIREDK_7 S0 ws S sa sg pr tk res) (l8 : 0 ≤ sa) (u8 : sa ≤ 1522) (l9 : 0 ≤ sg) (u9 : sg ≤ 1) (l10 : 0 ≤ pr) (u10 : pr ≤ 1) (l11 : 0 ≤ tk) (u11 : tk ≤ 400) (l12 : 0 ≤ res) (u12 : res ≤ 0) : (True) ∧ rxPSREDK S0 ws S (some 0) := by
  obtain ⟨hI, hx⟩ := hinv
  obtain ⟨a_, c_⟩ := rxdRED_7_0 hP hin hin2 I0 I1 hI l8 u8 l9 u9 l10 u10 l11 u11 l12 u12
  exact ⟨a_, c_, (by
    obtain ⟨hw, hpr, hq⟩ := hI
    exact ⟨sa, sg, hw, fun g => by
      have := Option.some.inj g
      omega⟩)⟩
theorem rxcREDK_9_0 {S0 : Nat → Int → Int} {ws : List Int} {S : Nat → Int → Int} {sa sg pr tk res : Int} (hP : rxPREDK S0 ws) (hin : bx_same rxL (bx_mdl rxCREDK.2.2.1) S0 S) (I0 : bx_Inv rxL S) (hinv : rxIREDK_9 S0 ws S sa sg pr tk res) (l8 : 0 ≤ sa) (u8 : sa ≤ 1522) (l9 : 0 ≤ sg) (u9 : sg ≤ 1) (l10 : 0 ≤ pr) (u10 : pr ≤ 1) (l11 : 0 ≤ tk) (u11 : tk ≤ 400) (l12 : 1 ≤ res) (u12 : res ≤ 1) (f0 : res ≠ 0) : (True) ∧ (True) ∧ rxIREDK_3 S0 ws S sa sg pr (tk + 1) ∧ rxmREDK_3 S0 ws S sa sg pr (tk + 1) < rxmREDK_9 S0 ws S sa sg pr tk res := by
  obtain ⟨hI, hx⟩ := hinv
  obtain ⟨a_, b_, c_, d_⟩ := rxcRED_9_0 hP hin I0 hI l8 u8 l9 u9 l10 u10 l11 u11 l12 u12 f0
  exact ⟨a_, b_, ⟨c_, (by
    have hpr := hI.2.1
    have e : decide (pr = 1) = false := decide_eq_false (by omega)
    rw [e]
    exact hx (by omega))⟩, d_⟩
theorem rxdREDK_9_0 {S0 : Nat → Int → Int} {ws : List Int} {S : Nat → Int → Int} {sa sg pr tk res : Int} (hP : rxPREDK S0 ws) (hin : bx_same rxL (bx_mdl rxCREDK.2.2.1) S0 S) (hin2 : bx_same rxL (bx_mdl rxCREDK.2.2.1) S S) (I0 : bx_Inv rxL S) (I1 : bx_Inv rxL S) (hinv : rxIREDK_9 S0 ws S sa sg pr tk res) (l8 : 0 ≤ sa) (u8 : sa ≤ 1522) (l9 : 0 ≤ sg) (u9 : sg ≤ 1) (l10 : 0 ≤ pr) (u10 : pr ≤ 1) (l11 : 0 ≤ tk) (u11 : tk ≤ 400) (l12 : 0 ≤ res) (u12 : res ≤ 0) : (True) ∧ rxPSREDK S0 ws S (some 0) := by
  obtain ⟨hI, hx⟩ := hinv
  obtain ⟨a_, c_⟩ := rxdRED_9_0 hP hin hin2 I0 I1 hI l8 u8 l9 u9 l10 u10 l11 u11 l12 u12
  exact ⟨a_, c_, (by
    obtain ⟨hw, hpr, hq⟩ := hI
    exact ⟨sa, sg, hw, fun g => by
      have := Option.some.inj g
      omega⟩)⟩
theorem rxcREDK_11_0 {S0 : Nat → Int → Int} {ws : List Int} {S : Nat → Int → Int} {sa sg pr tk : Int} (hP : rxPREDK S0 ws) (hin : bx_same rxL (bx_mdl rxCREDK.2.2.1) S0 S) (I0 : bx_Inv rxL S) (hinv : rxIREDK_11 S0 ws S sa sg pr tk) (l8 : 0 ≤ sa) (u8 : sa ≤ 1522) (l9 : 0 ≤ sg) (u9 : sg ≤ 1) (l10 : 0 ≤ pr) (u10 : pr ≤ 1) (l11 : 0 ≤ tk) (u11 : tk ≤ 400) : (True) ∧ (True) ∧ rxIREDK_3 S0 ws S sa sg pr (tk + 1) ∧ rxmREDK_3 S0 ws S sa sg pr (tk + 1) < rxmREDK_11 S0 ws S sa sg pr tk := by
  obtain ⟨hI, hx⟩ := hinv
  obtain ⟨a_, b_, c_, d_⟩ := rxcRED_11_0 hP hin I0 hI l8 u8 l9 u9 l10 u10 l11 u11
  exact ⟨a_, b_, ⟨c_, (by
    have hpr := hI.2.1
    have e : decide (pr = 1) = true := decide_eq_true (by omega)
    rw [e]
    exact hx)⟩, d_⟩
theorem rxcREDK_13_0 {S0 : Nat → Int → Int} {ws : List Int} {S : Nat → Int → Int} {sa sg pr tk op : Int} (hP : rxPREDK S0 ws) (hin : bx_same rxL (bx_mdl rxCREDK.2.2.1) S0 S) (I0 : bx_Inv rxL S) (hinv : rxIREDK_13 S0 ws S sa sg pr tk op) (l8 : 0 ≤ sa) (u8 : sa ≤ 1522) (l9 : 0 ≤ sg) (u9 : sg ≤ 1) (l10 : 0 ≤ pr) (u10 : pr ≤ 1) (l11 : 0 ≤ tk) (u11 : tk ≤ 400) (l12 : (-1) ≤ op) (u12 : op ≤ (-1)) : (True) ∧ (True) ∧ rxIREDK_14 S0 ws S sa sg pr tk op ∧ rxmREDK_14 S0 ws S sa sg pr tk op < rxmREDK_13 S0 ws S sa sg pr tk op := by
  obtain ⟨hI, hx⟩ := hinv
  obtain ⟨a_, b_, c_, d_⟩ := rxcRED_13_0 hP hin I0 hI l8 u8 l9 u9 l10 u10 l11 u11 l12 u12
  exact ⟨a_, b_, ⟨c_, hx⟩, d_⟩
theorem rxcREDK_13_1 {S0 : Nat → Int → Int} {ws : List Int} {S : Nat → Int → Int} {sa sg pr tk op : Int} (hP : rxPREDK S0 ws) (hin : bx_same rxL (bx_mdl rxCREDK.2.2.1) S0 S) (I0 : bx_Inv rxL S) (hinv : rxIREDK_13 S0 ws S sa sg pr tk op) (l8 : 0 ≤ sa) (u8 : sa ≤ 1522) (l9 : 0 ≤ sg) (u9 : sg ≤ 1) (l10 : 0 ≤ pr) (u10 : pr ≤ 1) (l11 : 0 ≤ tk) (u11 : tk ≤ 400) (l12 : 0 ≤ op) (u12 : op ≤ 13) (f0 : op ≠ (-1)) : (True) ∧ (True) ∧ rxIREDK_16 S0 ws S sa sg pr tk op ∧ rxmREDK_16 S0 ws S sa sg pr tk op < rxmREDK_13 S0 ws S sa sg pr tk op := by
  obtain ⟨hI, hx⟩ := hinv
  obtain ⟨a_, b_, c_, d_⟩ := rxcRED_13_1 hP hin I0 hI l8 u8 l9 u9 l10 u10 l11 u11 l12 u12 f0
  exact ⟨a_, b_, ⟨c_, hx⟩, d_⟩
theorem rxdREDK_15_0 {S0 : Nat → Int → Int} {ws : List Int} {S : Nat → Int → Int} {sa sg pr tk op res : Int} (hP : rxPREDK S0 ws) (hin : bx_same rxL (bx_mdl rxCREDK.2.2.1) S0 S) (hin2 : bx_same rxL (bx_mdl rxCREDK.2.2.1) S S) (I0 : bx_Inv rxL S) (I1 : bx_Inv rxL S) (hinv : rxIREDK_15 S0 ws S sa sg pr tk op res) (l8 : 0 ≤ sa) (u8 : sa ≤ 1522) (l9 : 0 ≤ sg) (u9 : sg ≤ 1) (l10 : 0 ≤ pr) (u10 : pr ≤ 1) (l11 : 0 ≤ tk) (u11 : tk ≤ 400) (l12 : (-1) ≤ op) (u12 : op ≤ 13) (l13 : 0 ≤ res) (u13 : res ≤ 1) : (True) ∧ rxPSREDK S0 ws S (some res) := by
  obtain ⟨hI, hx⟩ := hinv
  obtain ⟨a_, c_⟩ := rxdRED_15_0 hP hin hin2 I0 I1 hI l8 u8 l9 u9 l10 u10 l11 u11 l12 u12 l13 u13
  exact ⟨a_, c_, (by
    obtain ⟨hw, hq⟩ := hI
    exact ⟨sa, sg, hw, fun g => hx (Option.some.inj g)⟩)⟩
theorem rxcREDK_17_0 {S0 : Nat → Int → Int} {ws : List Int} {S : Nat → Int → Int} {sa sg pr tk op : Int} (hP : rxPREDK S0 ws) (hin : bx_same rxL (bx_mdl rxCREDK.2.2.1) S0 S) (I0 : bx_Inv rxL S) (hinv : rxIREDK_17 S0 ws S sa sg pr tk op) (l8 : 0 ≤ sa) (u8 : sa ≤ 1522) (l9 : 0 ≤ sg) (u9 : sg ≤ 1) (l10 : 0 ≤ pr) (u10 : pr ≤ 1) (l11 : 0 ≤ tk) (u11 : tk ≤ 400) (l12 : 0 ≤ op) (u12 : op ≤ 13) : (True) ∧ (True) ∧ rxIREDK_3 S0 ws S sa sg 0 (tk + 1) ∧ rxmREDK_3 S0 ws S sa sg 0 (tk + 1) < rxmREDK_17 S0 ws S sa sg pr tk op := by
  obtain ⟨hI, hx⟩ := hinv
  obtain ⟨a_, b_, c_, d_⟩ := rxcRED_17_0 hP hin I0 hI l8 u8 l9 u9 l10 u10 l11 u11 l12 u12
  exact ⟨a_, b_, ⟨c_, (by
    exact hx)⟩, d_⟩