noncomputable def rxCRODK : bx_Ct := ([(3, (1, 412, 0))], some (0, (0, 0, 1)), [(7, 2), (7, 3), (7, 4), (7, 8), (7, 10), (1034, 0), (1035, 0), (1036, 0)], 5, [(412, 0, 3, (1, 411, 0)), (412, 6, 3, (1, 427, 0))])
noncomputable def rxIRODK_0 (S0 : Nat → Int → Int) (ws : List Int) (S : Nat → Int → Int) : Prop := rxIROD_0 S0 ws S ∧ True
noncomputable def rxmRODK_0 (S0 : Nat → Int → Int) (ws : List Int) (S : Nat → Int → Int) : Nat := rxmROD_0 S0 ws S
noncomputable def rxIRODK_1 (S0 : Nat → Int → Int) (ws : List Int) (S : Nat → Int → Int) (ap ot : Int) : Prop := rxIROD_1 S0 ws S ap ot ∧ True
noncomputable def rxmRODK_1 (S0 : Nat → Int → Int) (ws : List Int) (S : Nat → Int → Int) (ap ot : Int) : Nat := rxmROD_1 S0 ws S ap ot
noncomputable def rxIRODK_2 (S0 : Nat → Int → Int) (ws : List Int) (S : Nat → Int → Int) (ap ot r : Int) : Prop := rxIROD_2 S0 ws S ap ot r ∧ True
noncomputable def rxmRODK_2 (S0 : Nat → Int → Int) (ws : List Int) (S : Nat → Int → Int) (ap ot r : Int) : Nat := rxmROD_2 S0 ws S ap ot r
noncomputable def rxIRODK_3 (S0 : Nat → Int → Int) (ws : List Int) (S : Nat → Int → Int) (ap ot : Int) : Prop := rxIROD_3 S0 ws S ap ot ∧ rkTk S0 S false
noncomputable def rxmRODK_3 (S0 : Nat → Int → Int) (ws : List Int) (S : Nat → Int → Int) (ap ot : Int) : Nat := rxmROD_3 S0 ws S ap ot
noncomputable def rxIRODK_4 (S0 : Nat → Int → Int) (ws : List Int) (S : Nat → Int → Int) (ap ot : Int) : Prop := rxIROD_4 S0 ws S ap ot ∧ rkTk S0 S false
noncomputable def rxmRODK_4 (S0 : Nat → Int → Int) (ws : List Int) (S : Nat → Int → Int) (ap ot : Int) : Nat := rxmROD_4 S0 ws S ap ot
noncomputable def rxPRODK (S0 : Nat → Int → Int) (ws : List Int) : Prop := rxPROD S0 ws
noncomputable def rxPSRODK (S0 : Nat → Int → Int) (ws : List Int) (S : Nat → Int → Int) (w : Option Int) : Prop := rxPSROD S0 ws S w ∧ (w = some 1 → rkTk S0 S false)
theorem rxkRODK_1 {S0 : Nat → Int → Int} {ws : List Int} {S : Nat → Int → Int} {ap ot : Int} (hP : rxPRODK S0 ws) (hin : bx_same rxL (bx_mdl rxCRODK.2.2.1) S0 S) (I0 : bx_Inv rxL S) (hinv : rxIRODK_1 S0 ws S ap ot) (l8 : 0 ≤ ap) (u8 : ap ≤ 1) (l9 : 0 ≤ ot) (u9 : ot ≤ 1) : rxPIWX S [412, 537] ∧ ∀ (S_p : Nat → Int → Int) (r : Int), 0 ≤ r → r ≤ 1 → rxPSIWX S [412, 537] S_p (some r) → bx_Inv rxL S_p → bx_same rxL (bx_mdl rxC59.2.2.1) S S_p → rxIRODK_2 S0 ws S_p ap ot r ∧ rxmRODK_2 S0 ws S_p ap ot r < rxmRODK_1 S0 ws S ap ot := by
  obtain ⟨hI, hx⟩ := hinv
  have g_ := rxkROD_1 hP hin I0 hI l8 u8 l9 u9
  exact ⟨g_.1, fun S_p r l_ u_ hq I1 hsm => ⟨⟨(g_.2 S_p r l_ u_ hq I1 hsm).1, trivial⟩, (g_.2 S_p r l_ u_ hq I1 hsm).2⟩⟩
theorem rxkRODK_3 {S0 : Nat → Int → Int} {ws : List Int} {S : Nat → Int → Int} {ap ot : Int} (hP : rxPRODK S0 ws) (hin : bx_same rxL (bx_mdl rxCRODK.2.2.1) S0 S) (I0 : bx_Inv rxL S) (hinv : rxIRODK_3 S0 ws S ap ot) (l8 : 0 ≤ ap) (u8 : ap ≤ 1) (l9 : 0 ≤ ot) (u9 : ot ≤ 1) : rxPAD S [412] ∧ ∀ (S_p : Nat → Int → Int), rxPSAD S [412] S_p none → bx_Inv rxL S_p → bx_same rxL (bx_mdl rxC84.2.2.1) S S_p → rxIRODK_4 S0 ws S_p ap ot ∧ rxmRODK_4 S0 ws S_p ap ot < rxmRODK_3 S0 ws S ap ot := by
  obtain ⟨hI, hx⟩ := hinv
  have g_ := rxkROD_3 hP hin I0 hI l8 u8 l9 u9
  exact ⟨g_.1, fun S_p hq I1 hsm => ⟨⟨(g_.2 S_p hq I1 hsm).1, (by
    intro b c hC hW hb
    obtain ⟨g1, g2⟩ := hx b c hC hW hb
    have q_ := rkD_of g1 I0 hsm (by decide +kernel)
    exact ⟨q_.1, g2.tr q_.2⟩)⟩, (g_.2 S_p hq I1 hsm).2⟩⟩
theorem rxcRODK_0_0 {S0 : Nat → Int → Int} {ws : List Int} {S : Nat → Int → Int} {x8 x9 x10 x11 x12 : Int} (hP : rxPRODK S0 ws) (hin : bx_same rxL (bx_mdl rxCRODK.2.2.1) S0 S) (I0 : bx_Inv rxL S) (hinv : rxIRODK_0 S0 ws S) (l8 : (-2147483648) ≤ x8) (u8 : x8 ≤ (-2)) (l9 : 0 ≤ x9) (u9 : x9 ≤ 399) (l10 : 1 ≤ x10) (u10 : x10 ≤ 400) (l11 : 91 ≤ x11) (u11 : x11 ≤ 91) (l12 : 0 ≤ x12) (u12 : x12 ≤ 399) (f0 : x9 < x10) (e8 : S 412 8 = x8) (e7 : S 412 2 = x9) (e6 : S 412 1 = x10) (e5 : S 411 x9 = x11) (e4 : S 412 10 = x12) : (True) ∧ (True) ∧ rxIRODK_3 S0 ws (bx_up (bx_up (bx_up (bx_up S 425 x12 0) 426 x12 ((-1))) 412 10 (x12 + 1)) 412 8 (x8 + 1)) 0 0 ∧ rxmRODK_3 S0 ws (bx_up (bx_up (bx_up (bx_up S 425 x12 0) 426 x12 ((-1))) 412 10 (x12 + 1)) 412 8 (x8 + 1)) 0 0 < rxmRODK_0 S0 ws S := by
  obtain ⟨hI, hx⟩ := hinv
  obtain ⟨a_, b_, c_, d_⟩ := rxcROD_0_0 hP hin I0 hI l8 u8 l9 u9 l10 u10 l11 u11 l12 u12 f0 e8 e7 e6 e5 e4
  exact ⟨a_, b_, ⟨c_, (by
    obtain ⟨rfl, hw⟩ := hI
    obtain ⟨hD, b0, b8, hp⟩ := (show rzDt S ∧ 0 ≤ S 412 8 ∧ S 412 8 ≤ 8 ∧ _ from hP)
    have hb : S 412 8 = x8 := e8
    have qe5 : rzCut (S 411) (S 412 2) = x11 := by
      rw [e7]
      exact rzCut_at (e5) (by omega) (by omega)
    exfalso
    omega)⟩, d_⟩
theorem rxcRODK_0_1 {S0 : Nat → Int → Int} {ws : List Int} {S : Nat → Int → Int} {x8 x9 x10 x11 x12 : Int} (hP : rxPRODK S0 ws) (hin : bx_same rxL (bx_mdl rxCRODK.2.2.1) S0 S) (I0 : bx_Inv rxL S) (hinv : rxIRODK_0 S0 ws S) (l8 : (-1) ≤ x8) (u8 : x8 ≤ (-1)) (l9 : 0 ≤ x9) (u9 : x9 ≤ 399) (l10 : 1 ≤ x10) (u10 : x10 ≤ 400) (l11 : 91 ≤ x11) (u11 : x11 ≤ 91) (l12 : 0 ≤ x12) (u12 : x12 ≤ 399) (f0 : x9 < x10) (e9 : S 412 8 = x8) (e8 : S 412 2 = x9) (e7 : S 412 1 = x10) (e6 : S 411 x9 = x11) (e5 : S 412 10 = x12) : (True) ∧ (True) ∧ rxIRODK_3 S0 ws (bx_up (bx_up (bx_up (bx_up (bx_up S 425 x12 0) 426 x12 ((-1))) 412 10 (x12 + 1)) 412 8 (x8 + 1)) 424 (x8 + 1) 0) 0 0 ∧ rxmRODK_3 S0 ws (bx_up (bx_up (bx_up (bx_up (bx_up S 425 x12 0) 426 x12 ((-1))) 412 10 (x12 + 1)) 412 8 (x8 + 1)) 424 (x8 + 1) 0) 0 0 < rxmRODK_0 S0 ws S := by
  obtain ⟨hI, hx⟩ := hinv
  obtain ⟨a_, b_, c_, d_⟩ := rxcROD_0_1 hP hin I0 hI l8 u8 l9 u9 l10 u10 l11 u11 l12 u12 f0 e9 e8 e7 e6 e5
  exact ⟨a_, b_, ⟨c_, (by
    obtain ⟨rfl, hw⟩ := hI
    obtain ⟨hD, b0, b8, hp⟩ := (show rzDt S ∧ 0 ≤ S 412 8 ∧ S 412 8 ≤ 8 ∧ _ from hP)
    have hb : S 412 8 = x8 := e9
    have qe6 : rzCut (S 411) (S 412 2) = x11 := by
      rw [e8]
      exact rzCut_at (e6) (by omega) (by omega)
    exfalso
    omega)⟩, d_⟩
theorem rxcRODK_0_2 {S0 : Nat → Int → Int} {ws : List Int} {S : Nat → Int → Int} {x8 x9 x10 x11 x12 : Int} (hP : rxPRODK S0 ws) (hin : bx_same rxL (bx_mdl rxCRODK.2.2.1) S0 S) (I0 : bx_Inv rxL S) (hinv : rxIRODK_0 S0 ws S) (l8 : (-2147483648) ≤ x8) (u8 : x8 ≤ (-2)) (l9 : 0 ≤ x9) (u9 : x9 ≤ 399) (l10 : 1 ≤ x10) (u10 : x10 ≤ 400) (l11 : 91 ≤ x11) (u11 : x11 ≤ 91) (l12 : 400 ≤ x12) (u12 : x12 ≤ 400) (f0 : x9 < x10) (e5 : S 412 8 = x8) (e4 : S 412 2 = x9) (e3 : S 412 1 = x10) (e2 : S 411 x9 = x11) (e1 : S 412 10 = x12) : (True) ∧ (True) ∧ rxIRODK_3 S0 ws (bx_up S 412 8 (x8 + 1)) 0 0 ∧ rxmRODK_3 S0 ws (bx_up S 412 8 (x8 + 1)) 0 0 < rxmRODK_0 S0 ws S := by
  obtain ⟨hI, hx⟩ := hinv
  obtain ⟨a_, b_, c_, d_⟩ := rxcROD_0_2 hP hin I0 hI l8 u8 l9 u9 l10 u10 l11 u11 l12 u12 f0 e5 e4 e3 e2 e1
  exact ⟨a_, b_, ⟨c_, (by
    obtain ⟨rfl, hw⟩ := hI
    obtain ⟨hD, b0, b8, hp⟩ := (show rzDt S ∧ 0 ≤ S 412 8 ∧ S 412 8 ≤ 8 ∧ _ from hP)
    have hb : S 412 8 = x8 := e5
    have qe2 : rzCut (S 411) (S 412 2) = x11 := by
      rw [e4]
      exact rzCut_at (e2) (by omega) (by omega)
    exfalso
    omega)⟩, d_⟩
theorem rxcRODK_0_3 {S0 : Nat → Int → Int} {ws : List Int} {S : Nat → Int → Int} {x8 x9 x10 x11 x12 : Int} (hP : rxPRODK S0 ws) (hin : bx_same rxL (bx_mdl rxCRODK.2.2.1) S0 S) (I0 : bx_Inv rxL S) (hinv : rxIRODK_0 S0 ws S) (l8 : (-1) ≤ x8) (u8 : x8 ≤ (-1)) (l9 : 0 ≤ x9) (u9 : x9 ≤ 399) (l10 : 1 ≤ x10) (u10 : x10 ≤ 400) (l11 : 91 ≤ x11) (u11 : x11 ≤ 91) (l12 : 400 ≤ x12) (u12 : x12 ≤ 400) (f0 : x9 < x10) (e6 : S 412 8 = x8) (e5 : S 412 2 = x9) (e4 : S 412 1 = x10) (e3 : S 411 x9 = x11) (e2 : S 412 10 = x12) : (True) ∧ (True) ∧ rxIRODK_3 S0 ws (bx_up (bx_up S 412 8 (x8 + 1)) 424 (x8 + 1) 0) 0 0 ∧ rxmRODK_3 S0 ws (bx_up (bx_up S 412 8 (x8 + 1)) 424 (x8 + 1) 0) 0 0 < rxmRODK_0 S0 ws S := by
  obtain ⟨hI, hx⟩ := hinv
  obtain ⟨a_, b_, c_, d_⟩ := rxcROD_0_3 hP hin I0 hI l8 u8 l9 u9 l10 u10 l11 u11 l12 u12 f0 e6 e5 e4 e3 e2
  exact ⟨a_, b_, ⟨c_, (by
    obtain ⟨rfl, hw⟩ := hI
    obtain ⟨hD, b0, b8, hp⟩ := (show rzDt S ∧ 0 ≤ S 412 8 ∧ S 412 8 ≤ 8 ∧ _ from hP)
    have hb : S 412 8 = x8 := e6
    have qe3 : rzCut (S 411) (S 412 2) = x11 := by
      rw [e5]
      exact rzCut_at (e3) (by omega) (by omega)
    exfalso
    omega)⟩, d_⟩
theorem rxcRODK_0_4 {S0 : Nat → Int → Int} {ws : List Int} {S : Nat → Int → Int} {x8 x9 x10 x11 : Int} (hP : rxPRODK S0 ws) (hin : bx_same rxL (bx_mdl rxCRODK.2.2.1) S0 S) (I0 : bx_Inv rxL S) (hinv : rxIRODK_0 S0 ws S) (l8 : 0 ≤ x8) (u8 : x8 ≤ 8) (l9 : 1 ≤ x9) (u9 : x9 ≤ 1) (l10 : 0 ≤ x10) (u10 : x10 ≤ 400) (l11 : 0 ≤ x11) (u11 : x11 ≤ 400) (f0 : x11 ≤ x10) (e3 : S 412 8 = x8) (e2 : S 424 x8 = x9) (e1 : S 412 2 = x10) (e0 : S 412 1 = x11) : (True) ∧ (True) ∧ rxIRODK_1 S0 ws S 1 0 ∧ rxmRODK_1 S0 ws S 1 0 < rxmRODK_0 S0 ws S := by
  obtain ⟨hI, hx⟩ := hinv
  obtain ⟨a_, b_, c_, d_⟩ := rxcROD_0_4 hP hin I0 hI l8 u8 l9 u9 l10 u10 l11 u11 f0 e3 e2 e1 e0
  exact ⟨a_, b_, ⟨c_, trivial⟩, d_⟩
theorem rxcRODK_0_5 {S0 : Nat → Int → Int} {ws : List Int} {S : Nat → Int → Int} {x8 x9 x10 x11 x12 : Int} (hP : rxPRODK S0 ws) (hin : bx_same rxL (bx_mdl rxCRODK.2.2.1) S0 S) (I0 : bx_Inv rxL S) (hinv : rxIRODK_0 S0 ws S) (l8 : 0 ≤ x8) (u8 : x8 ≤ 8) (l9 : 1 ≤ x9) (u9 : x9 ≤ 1) (l10 : 0 ≤ x10) (u10 : x10 ≤ 399) (l11 : 1 ≤ x11) (u11 : x11 ≤ 400) (l12 : 0 ≤ x12) (u12 : x12 ≤ 255) (f0 : x12 ≠ 40) (f1 : x10 < x11) (e4 : S 412 8 = x8) (e3 : S 424 x8 = x9) (e2 : S 412 2 = x10) (e1 : S 412 1 = x11) (e0 : S 411 x10 = x12) : (True) ∧ (True) ∧ rxIRODK_1 S0 ws S 1 0 ∧ rxmRODK_1 S0 ws S 1 0 < rxmRODK_0 S0 ws S := by
  obtain ⟨hI, hx⟩ := hinv
  obtain ⟨a_, b_, c_, d_⟩ := rxcROD_0_5 hP hin I0 hI l8 u8 l9 u9 l10 u10 l11 u11 l12 u12 f0 f1 e4 e3 e2 e1 e0
  exact ⟨a_, b_, ⟨c_, trivial⟩, d_⟩
theorem rxcRODK_0_6 {S0 : Nat → Int → Int} {ws : List Int} {S : Nat → Int → Int} {x8 x9 x10 x11 x12 : Int} (hP : rxPRODK S0 ws) (hin : bx_same rxL (bx_mdl rxCRODK.2.2.1) S0 S) (I0 : bx_Inv rxL S) (hinv : rxIRODK_0 S0 ws S) (l8 : 0 ≤ x8) (u8 : x8 ≤ 8) (l9 : 1 ≤ x9) (u9 : x9 ≤ 1) (l10 : 0 ≤ x10) (u10 : x10 ≤ 399) (l11 : 1 ≤ x11) (u11 : x11 ≤ 400) (l12 : 40 ≤ x12) (u12 : x12 ≤ 40) (f0 : x10 < x11) (e4 : S 412 8 = x8) (e3 : S 424 x8 = x9) (e2 : S 412 2 = x10) (e1 : S 412 1 = x11) (e0 : S 411 x10 = x12) : (True) ∧ (True) ∧ rxIRODK_1 S0 ws S 1 1 ∧ rxmRODK_1 S0 ws S 1 1 < rxmRODK_0 S0 ws S := by
  obtain ⟨hI, hx⟩ := hinv
  obtain ⟨a_, b_, c_, d_⟩ := rxcROD_0_6 hP hin I0 hI l8 u8 l9 u9 l10 u10 l11 u11 l12 u12 f0 e4 e3 e2 e1 e0
  exact ⟨a_, b_, ⟨c_, trivial⟩, d_⟩
theorem rxcRODK_0_7 {S0 : Nat → Int → Int} {ws : List Int} {S : Nat → Int → Int} {x8 x9 x10 x11 x12 x13 x14 : Int} (hP : rxPRODK S0 ws) (hin : bx_same rxL (bx_mdl rxCRODK.2.2.1) S0 S) (I0 : bx_Inv rxL S) (hinv : rxIRODK_0 S0 ws S) (l8 : 0 ≤ x8) (u8 : x8 ≤ 7) (l9 : 0 ≤ x9) (u9 : x9 ≤ 4) (l10 : 0 ≤ x10) (u10 : x10 ≤ 399) (l11 : 1 ≤ x11) (u11 : x11 ≤ 400) (l12 : 91 ≤ x12) (u12 : x12 ≤ 91) (l13 : 0 ≤ x13) (u13 : x13 ≤ 4) (l14 : 0 ≤ x14) (u14 : x14 ≤ 399) (f0 : x13 ≠ 1) (f1 : x10 < x11) (f2 : x9 ≠ 1) (e11 : S 412 8 = x8) (e10 : S 424 x8 = x9) (e9 : S 412 2 = x10) (e8 : S 412 1 = x11) (e7 : S 411 x10 = x12) (e6 : S 424 x8 = x13) (e5 : S 412 10 = x14) : (True) ∧ (True) ∧ rxIRODK_3 S0 ws (bx_up (bx_up (bx_up (bx_up (bx_up S 425 x14 0) 426 x14 ((-1))) 412 10 (x14 + 1)) 412 8 (x8 + 1)) 424 (x8 + 1) 0) 0 0 ∧ rxmRODK_3 S0 ws (bx_up (bx_up (bx_up (bx_up (bx_up S 425 x14 0) 426 x14 ((-1))) 412 10 (x14 + 1)) 412 8 (x8 + 1)) 424 (x8 + 1) 0) 0 0 < rxmRODK_0 S0 ws S := by
  obtain ⟨hI, hx⟩ := hinv
  obtain ⟨a_, b_, c_, d_⟩ := rxcROD_0_7 hP hin I0 hI l8 u8 l9 u9 l10 u10 l11 u11 l12 u12 l13 u13 l14 u14 f0 f1 f2 e11 e10 e9 e8 e7 e6 e5
  exact ⟨a_, b_, ⟨c_, (by
    obtain ⟨rfl, hw⟩ := hI
    obtain ⟨hD, b0, b8, hp⟩ := (show rzDt S ∧ 0 ≤ S 412 8 ∧ S 412 8 ≤ 8 ∧ _ from hP)
    have hb : S 412 8 = x8 := e11
    have hs0 : S 424 (S 412 8) = x9 := by
      rw [hb]
      exact e10
    have hs1 : S 424 (S 412 8) = x13 := by
      rw [hb]
      exact e6
    have qe7 : rzCut (S 411) (S 412 2) = x12 := by
      rw [e9]
      exact rzCut_at (e7) (by omega) (by omega)
    intro b c hC hW hb
    have zb := hC.1
    have zm := hC.2.1
    have hs := hC.2.2.1
    have hw10 : S 412 10 = x14 := e5
    rw [rzLv_eq b0, rkSt_sq hp (fun g => by have := g.1; omega) (fun g => by have := g.1; omega)]
    exact rkD_push (op := 32) (a := 0) hC (((bx_up_ne (by omega)).trans ((bx_up_ne (by omega)).trans (bx_up_at))).trans (by omega)) ((bx_up_ne (by omega)).trans ((bx_up_ne (by omega)).trans ((bx_up_ne (by omega)).trans ((bx_up_ne (by omega)).trans ((bx_up_ne (by omega))))))) (fun j hj => (bx_up_ne (by omega)).trans ((bx_up_ne (by omega)).trans ((bx_up_ne (by omega)).trans ((bx_up_ne (by omega)).trans ((bx_up_ne (by omega))))))) (fun j hj => (bx_up_ne (by omega)).trans ((bx_up_ne (by omega)).trans ((bx_up_ne (by omega)).trans ((bx_up_ne (by omega)).trans ((bx_up_ne (by omega))))))) (fun j => ⟨(bx_up_ne (by omega)).trans ((bx_up_ne (by omega)).trans ((bx_up_ne (by omega)).trans ((bx_up_ne (by omega)).trans ((bx_up_ne (by omega)))))), (bx_up_ne (by omega)).trans ((bx_up_ne (by omega)).trans ((bx_up_ne (by omega)).trans ((bx_up_ne (by omega)).trans ((bx_up_ne (by omega))))))⟩) (by rw [hw10]; exact (((bx_up_ne (by omega)).trans ((bx_up_ne (by omega)).trans ((bx_up_ne (by omega)).trans ((bx_up_ne (by omega)))))).trans bx_up_at).trans (rkEn_br (Or.inr rfl)).symm) (fun g => by rcases g with g | g <;> omega))⟩, d_⟩
theorem rxcRODK_0_8 {S0 : Nat → Int → Int} {ws : List Int} {S : Nat → Int → Int} {x8 x9 x10 x11 x12 x13 x14 : Int} (hP : rxPRODK S0 ws) (hin : bx_same rxL (bx_mdl rxCRODK.2.2.1) S0 S) (I0 : bx_Inv rxL S) (hinv : rxIRODK_0 S0 ws S) (l8 : 0 ≤ x8) (u8 : x8 ≤ 7) (l9 : 0 ≤ x9) (u9 : x9 ≤ 4) (l10 : 0 ≤ x10) (u10 : x10 ≤ 399) (l11 : 1 ≤ x11) (u11 : x11 ≤ 400) (l12 : 91 ≤ x12) (u12 : x12 ≤ 91) (l13 : 0 ≤ x13) (u13 : x13 ≤ 4) (l14 : 400 ≤ x14) (u14 : x14 ≤ 400) (f0 : x13 ≠ 1) (f1 : x10 < x11) (f2 : x9 ≠ 1) (e8 : S 412 8 = x8) (e7 : S 424 x8 = x9) (e6 : S 412 2 = x10) (e5 : S 412 1 = x11) (e4 : S 411 x10 = x12) (e3 : S 424 x8 = x13) (e2 : S 412 10 = x14) : (True) ∧ (True) ∧ rxIRODK_3 S0 ws (bx_up (bx_up S 412 8 (x8 + 1)) 424 (x8 + 1) 0) 0 0 ∧ rxmRODK_3 S0 ws (bx_up (bx_up S 412 8 (x8 + 1)) 424 (x8 + 1) 0) 0 0 < rxmRODK_0 S0 ws S := by
  obtain ⟨hI, hx⟩ := hinv
  obtain ⟨a_, b_, c_, d_⟩ := rxcROD_0_8 hP hin I0 hI l8 u8 l9 u9 l10 u10 l11 u11 l12 u12 l13 u13 l14 u14 f0 f1 f2 e8 e7 e6 e5 e4 e3 e2
  exact ⟨a_, b_, ⟨c_, (by
    obtain ⟨rfl, hw⟩ := hI
    obtain ⟨hD, b0, b8, hp⟩ := (show rzDt S ∧ 0 ≤ S 412 8 ∧ S 412 8 ≤ 8 ∧ _ from hP)
    have hb : S 412 8 = x8 := e8
    have hs0 : S 424 (S 412 8) = x9 := by
      rw [hb]
      exact e7
    have hs1 : S 424 (S 412 8) = x13 := by
      rw [hb]
      exact e3
    have qe4 : rzCut (S 411) (S 412 2) = x12 := by
      rw [e6]
      exact rzCut_at (e4) (by omega) (by omega)
    intro b c hC hW hb
    have zb := hC.1
    have zm := hC.2.1
    have hs := hC.2.2.1
    have hw10 : S 412 10 = x14 := e2
    exfalso
    omega)⟩, d_⟩
theorem rxcRODK_0_9 {S0 : Nat → Int → Int} {ws : List Int} {S : Nat → Int → Int} {x8 x9 x10 x11 x12 x13 x14 : Int} (hP : rxPRODK S0 ws) (hin : bx_same rxL (bx_mdl rxCRODK.2.2.1) S0 S) (I0 : bx_Inv rxL S) (hinv : rxIRODK_0 S0 ws S) (l8 : 0 ≤ x8) (u8 : x8 ≤ 7) (l9 : 0 ≤ x9) (u9 : x9 ≤ 4) (l10 : 0 ≤ x10) (u10 : x10 ≤ 399) (l11 : 1 ≤ x11) (u11 : x11 ≤ 400) (l12 : 91 ≤ x12) (u12 : x12 ≤ 91) (l13 : 1 ≤ x13) (u13 : x13 ≤ 1) (l14 : 0 ≤ x14) (u14 : x14 ≤ 399) (f0 : x10 < x11) (f1 : x9 ≠ 1) (e12 : S 412 8 = x8) (e11 : S 424 x8 = x9) (e10 : S 412 2 = x10) (e9 : S 412 1 = x11) (e8 : S 411 x10 = x12) (e7 : S 424 x8 = x13) (e5 : (bx_up S 424 x8 2) 412 10 = x14) : (True) ∧ (True) ∧ rxIRODK_3 S0 ws (bx_up (bx_up (bx_up (bx_up (bx_up (bx_up S 424 x8 2) 425 x14 0) 426 x14 ((-1))) 412 10 (x14 + 1)) 412 8 (x8 + 1)) 424 (x8 + 1) 0) 0 0 ∧ rxmRODK_3 S0 ws (bx_up (bx_up (bx_up (bx_up (bx_up (bx_up S 424 x8 2) 425 x14 0) 426 x14 ((-1))) 412 10 (x14 + 1)) 412 8 (x8 + 1)) 424 (x8 + 1) 0) 0 0 < rxmRODK_0 S0 ws S := by
  obtain ⟨hI, hx⟩ := hinv
  obtain ⟨a_, b_, c_, d_⟩ := rxcROD_0_9 hP hin I0 hI l8 u8 l9 u9 l10 u10 l11 u11 l12 u12 l13 u13 l14 u14 f0 f1 e12 e11 e10 e9 e8 e7 e5
  exact ⟨a_, b_, ⟨c_, (by
    obtain ⟨rfl, hw⟩ := hI
    obtain ⟨hD, b0, b8, hp⟩ := (show rzDt S ∧ 0 ≤ S 412 8 ∧ S 412 8 ≤ 8 ∧ _ from hP)
    have hb : S 412 8 = x8 := e12
    have hs0 : S 424 (S 412 8) = x9 := by
      rw [hb]
      exact e11
    have hs1 : S 424 (S 412 8) = x13 := by
      rw [hb]
      exact e7
    have qe8 : rzCut (S 411) (S 412 2) = x12 := by
      rw [e10]
      exact rzCut_at (e8) (by omega) (by omega)
    exfalso
    omega)⟩, d_⟩
theorem rxcRODK_0_10 {S0 : Nat → Int → Int} {ws : List Int} {S : Nat → Int → Int} {x8 x9 x10 x11 x12 x13 x14 : Int} (hP : rxPRODK S0 ws) (hin : bx_same rxL (bx_mdl rxCRODK.2.2.1) S0 S) (I0 : bx_Inv rxL S) (hinv : rxIRODK_0 S0 ws S) (l8 : 0 ≤ x8) (u8 : x8 ≤ 7) (l9 : 0 ≤ x9) (u9 : x9 ≤ 4) (l10 : 0 ≤ x10) (u10 : x10 ≤ 399) (l11 : 1 ≤ x11) (u11 : x11 ≤ 400) (l12 : 91 ≤ x12) (u12 : x12 ≤ 91) (l13 : 1 ≤ x13) (u13 : x13 ≤ 1) (l14 : 400 ≤ x14) (u14 : x14 ≤ 400) (f0 : x10 < x11) (f1 : x9 ≠ 1) (e9 : S 412 8 = x8) (e8 : S 424 x8 = x9) (e7 : S 412 2 = x10) (e6 : S 412 1 = x11) (e5 : S 411 x10 = x12) (e4 : S 424 x8 = x13) (e2 : (bx_up S 424 x8 2) 412 10 = x14) : (True) ∧ (True) ∧ rxIRODK_3 S0 ws (bx_up (bx_up (bx_up S 424 x8 2) 412 8 (x8 + 1)) 424 (x8 + 1) 0) 0 0 ∧ rxmRODK_3 S0 ws (bx_up (bx_up (bx_up S 424 x8 2) 412 8 (x8 + 1)) 424 (x8 + 1) 0) 0 0 < rxmRODK_0 S0 ws S := by
  obtain ⟨hI, hx⟩ := hinv
  obtain ⟨a_, b_, c_, d_⟩ := rxcROD_0_10 hP hin I0 hI l8 u8 l9 u9 l10 u10 l11 u11 l12 u12 l13 u13 l14 u14 f0 f1 e9 e8 e7 e6 e5 e4 e2
  exact ⟨a_, b_, ⟨c_, (by
    obtain ⟨rfl, hw⟩ := hI
    obtain ⟨hD, b0, b8, hp⟩ := (show rzDt S ∧ 0 ≤ S 412 8 ∧ S 412 8 ≤ 8 ∧ _ from hP)
    have hb : S 412 8 = x8 := e9
    have hs0 : S 424 (S 412 8) = x9 := by
      rw [hb]
      exact e8
    have hs1 : S 424 (S 412 8) = x13 := by
      rw [hb]
      exact e4
    have qe5 : rzCut (S 411) (S 412 2) = x12 := by
      rw [e7]
      exact rzCut_at (e5) (by omega) (by omega)
    exfalso
    omega)⟩, d_⟩
theorem rxdRODK_0_0 {S0 : Nat → Int → Int} {ws : List Int} {S : Nat → Int → Int} {x8 x9 x10 : Int} (hP : rxPRODK S0 ws) (hin : bx_same rxL (bx_mdl rxCRODK.2.2.1) S0 S) (hin2 : bx_same rxL (bx_mdl rxCRODK.2.2.1) S (bx_up S 412 4 x9)) (I0 : bx_Inv rxL S) (I1 : bx_Inv rxL (bx_up S 412 4 x9)) (hinv : rxIRODK_0 S0 ws S) (l8 : (-2147483648) ≤ x8) (u8 : x8 ≤ (-1)) (l9 : 0 ≤ x9) (u9 : x9 ≤ 400) (l10 : 0 ≤ x10) (u10 : x10 ≤ 400) (f0 : x10 ≤ x9) (e3 : S 412 8 = x8) (e2 : S 412 2 = x9) (e1 : S 412 1 = x10) : (True) ∧ rxPSRODK S0 ws (bx_up S 412 4 x9) (some 0) := by
  obtain ⟨hI, hx⟩ := hinv
  obtain ⟨a_, c_⟩ := rxdROD_0_0 hP hin hin2 I0 I1 hI l8 u8 l9 u9 l10 u10 f0 e3 e2 e1
  exact ⟨a_, c_, (fun g => absurd (Option.some.inj g) (by decide))⟩
theorem rxdRODK_0_1 {S0 : Nat → Int → Int} {ws : List Int} {S : Nat → Int → Int} {x8 x9 x10 x11 : Int} (hP : rxPRODK S0 ws) (hin : bx_same rxL (bx_mdl rxCRODK.2.2.1) S0 S) (hin2 : bx_same rxL (bx_mdl rxCRODK.2.2.1) S (bx_up S 412 4 x9)) (I0 : bx_Inv rxL S) (I1 : bx_Inv rxL (bx_up S 412 4 x9)) (hinv : rxIRODK_0 S0 ws S) (l8 : (-2147483648) ≤ x8) (u8 : x8 ≤ (-1)) (l9 : 0 ≤ x9) (u9 : x9 ≤ 399) (l10 : 1 ≤ x10) (u10 : x10 ≤ 400) (l11 : 0 ≤ x11) (u11 : x11 ≤ 255) (f0 : x11 ≠ 91) (f1 : x9 < x10) (e4 : S 412 8 = x8) (e3 : S 412 2 = x9) (e2 : S 412 1 = x10) (e1 : S 411 x9 = x11) : (True) ∧ rxPSRODK S0 ws (bx_up S 412 4 x9) (some 0) := by
  obtain ⟨hI, hx⟩ := hinv
  obtain ⟨a_, c_⟩ := rxdROD_0_1 hP hin hin2 I0 I1 hI l8 u8 l9 u9 l10 u10 l11 u11 f0 f1 e4 e3 e2 e1
  exact ⟨a_, c_, (fun g => absurd (Option.some.inj g) (by decide))⟩
theorem rxdRODK_0_2 {S0 : Nat → Int → Int} {ws : List Int} {S : Nat → Int → Int} {x8 x9 x10 : Int} (hP : rxPRODK S0 ws) (hin : bx_same rxL (bx_mdl rxCRODK.2.2.1) S0 S) (hin2 : bx_same rxL (bx_mdl rxCRODK.2.2.1) S (bx_up S 412 4 x9)) (I0 : bx_Inv rxL S) (I1 : bx_Inv rxL (bx_up S 412 4 x9)) (hinv : rxIRODK_0 S0 ws S) (l8 : 9 ≤ x8) (u8 : x8 ≤ 2147483647) (l9 : 0 ≤ x9) (u9 : x9 ≤ 400) (l10 : 0 ≤ x10) (u10 : x10 ≤ 400) (f0 : x10 ≤ x9) (e3 : S 412 8 = x8) (e2 : S 412 2 = x9) (e1 : S 412 1 = x10) : (True) ∧ rxPSRODK S0 ws (bx_up S 412 4 x9) (some 0) := by
  obtain ⟨hI, hx⟩ := hinv
  obtain ⟨a_, c_⟩ := rxdROD_0_2 hP hin hin2 I0 I1 hI l8 u8 l9 u9 l10 u10 f0 e3 e2 e1
  exact ⟨a_, c_, (fun g => absurd (Option.some.inj g) (by decide))⟩
theorem rxdRODK_0_3 {S0 : Nat → Int → Int} {ws : List Int} {S : Nat → Int → Int} {x8 x9 x10 x11 : Int} (hP : rxPRODK S0 ws) (hin : bx_same rxL (bx_mdl rxCRODK.2.2.1) S0 S) (hin2 : bx_same rxL (bx_mdl rxCRODK.2.2.1) S (bx_up S 412 4 x9)) (I0 : bx_Inv rxL S) (I1 : bx_Inv rxL (bx_up S 412 4 x9)) (hinv : rxIRODK_0 S0 ws S) (l8 : 9 ≤ x8) (u8 : x8 ≤ 2147483647) (l9 : 0 ≤ x9) (u9 : x9 ≤ 399) (l10 : 1 ≤ x10) (u10 : x10 ≤ 400) (l11 : 0 ≤ x11) (u11 : x11 ≤ 255) (f0 : x11 ≠ 91) (f1 : x9 < x10) (e4 : S 412 8 = x8) (e3 : S 412 2 = x9) (e2 : S 412 1 = x10) (e1 : S 411 x9 = x11) : (True) ∧ rxPSRODK S0 ws (bx_up S 412 4 x9) (some 0) := by
  obtain ⟨hI, hx⟩ := hinv
  obtain ⟨a_, c_⟩ := rxdROD_0_3 hP hin hin2 I0 I1 hI l8 u8 l9 u9 l10 u10 l11 u11 f0 f1 e4 e3 e2 e1
  exact ⟨a_, c_, (fun g => absurd (Option.some.inj g) (by decide))⟩
theorem rxdRODK_0_4 {S0 : Nat → Int → Int} {ws : List Int} {S : Nat → Int → Int} {x8 x9 x10 x11 : Int} (hP : rxPRODK S0 ws) (hin : bx_same rxL (bx_mdl rxCRODK.2.2.1) S0 S) (hin2 : bx_same rxL (bx_mdl rxCRODK.2.2.1) S (bx_up S 412 4 x9)) (I0 : bx_Inv rxL S) (I1 : bx_Inv rxL (bx_up S 412 4 x9)) (hinv : rxIRODK_0 S0 ws S) (l8 : 9 ≤ x8) (u8 : x8 ≤ 2147483647) (l9 : 0 ≤ x9) (u9 : x9 ≤ 399) (l10 : 1 ≤ x10) (u10 : x10 ≤ 400) (l11 : 91 ≤ x11) (u11 : x11 ≤ 91) (f0 : x9 < x10) (e4 : S 412 8 = x8) (e3 : S 412 2 = x9) (e2 : S 412 1 = x10) (e1 : S 411 x9 = x11) : (True) ∧ rxPSRODK S0 ws (bx_up S 412 4 x9) (some 0) := by
  obtain ⟨hI, hx⟩ := hinv
  obtain ⟨a_, c_⟩ := rxdROD_0_4 hP hin hin2 I0 I1 hI l8 u8 l9 u9 l10 u10 l11 u11 f0 e4 e3 e2 e1
  exact ⟨a_, c_, (fun g => absurd (Option.some.inj g) (by decide))⟩
theorem rxdRODK_0_5 {S0 : Nat → Int → Int} {ws : List Int} {S : Nat → Int → Int} {x8 x9 x10 x11 : Int} (hP : rxPRODK S0 ws) (hin : bx_same rxL (bx_mdl rxCRODK.2.2.1) S0 S) (hin2 : bx_same rxL (bx_mdl rxCRODK.2.2.1) S (bx_up S 412 4 x10)) (I0 : bx_Inv rxL S) (I1 : bx_Inv rxL (bx_up S 412 4 x10)) (hinv : rxIRODK_0 S0 ws S) (l8 : 0 ≤ x8) (u8 : x8 ≤ 8) (l9 : 0 ≤ x9) (u9 : x9 ≤ 4) (l10 : 0 ≤ x10) (u10 : x10 ≤ 400) (l11 : 0 ≤ x11) (u11 : x11 ≤ 400) (f0 : x11 ≤ x10) (f1 : x9 ≠ 1) (e4 : S 412 8 = x8) (e3 : S 424 x8 = x9) (e2 : S 412 2 = x10) (e1 : S 412 1 = x11) : (True) ∧ rxPSRODK S0 ws (bx_up S 412 4 x10) (some 0) := by
  obtain ⟨hI, hx⟩ := hinv
  obtain ⟨a_, c_⟩ := rxdROD_0_5 hP hin hin2 I0 I1 hI l8 u8 l9 u9 l10 u10 l11 u11 f0 f1 e4 e3 e2 e1
  exact ⟨a_, c_, (fun g => absurd (Option.some.inj g) (by decide))⟩
theorem rxdRODK_0_6 {S0 : Nat → Int → Int} {ws : List Int} {S : Nat → Int → Int} {x8 x9 x10 x11 x12 : Int} (hP : rxPRODK S0 ws) (hin : bx_same rxL (bx_mdl rxCRODK.2.2.1) S0 S) (hin2 : bx_same rxL (bx_mdl rxCRODK.2.2.1) S (bx_up S 412 4 x10)) (I0 : bx_Inv rxL S) (I1 : bx_Inv rxL (bx_up S 412 4 x10)) (hinv : rxIRODK_0 S0 ws S) (l8 : 0 ≤ x8) (u8 : x8 ≤ 8) (l9 : 0 ≤ x9) (u9 : x9 ≤ 4) (l10 : 0 ≤ x10) (u10 : x10 ≤ 399) (l11 : 1 ≤ x11) (u11 : x11 ≤ 400) (l12 : 0 ≤ x12) (u12 : x12 ≤ 255) (f0 : x12 ≠ 91) (f1 : x10 < x11) (f2 : x9 ≠ 1) (e5 : S 412 8 = x8) (e4 : S 424 x8 = x9) (e3 : S 412 2 = x10) (e2 : S 412 1 = x11) (e1 : S 411 x10 = x12) : (True) ∧ rxPSRODK S0 ws (bx_up S 412 4 x10) (some 0) := by
  obtain ⟨hI, hx⟩ := hinv
  obtain ⟨a_, c_⟩ := rxdROD_0_6 hP hin hin2 I0 I1 hI l8 u8 l9 u9 l10 u10 l11 u11 l12 u12 f0 f1 f2 e5 e4 e3 e2 e1
  exact ⟨a_, c_, (fun g => absurd (Option.some.inj g) (by decide))⟩
theorem rxdRODK_0_7 {S0 : Nat → Int → Int} {ws : List Int} {S : Nat → Int → Int} {x8 x9 x10 x11 x12 : Int} (hP : rxPRODK S0 ws) (hin : bx_same rxL (bx_mdl rxCRODK.2.2.1) S0 S) (hin2 : bx_same rxL (bx_mdl rxCRODK.2.2.1) S (bx_up S 412 4 x10)) (I0 : bx_Inv rxL S) (I1 : bx_Inv rxL (bx_up S 412 4 x10)) (hinv : rxIRODK_0 S0 ws S) (l8 : 8 ≤ x8) (u8 : x8 ≤ 8) (l9 : 0 ≤ x9) (u9 : x9 ≤ 4) (l10 : 0 ≤ x10) (u10 : x10 ≤ 399) (l11 : 1 ≤ x11) (u11 : x11 ≤ 400) (l12 : 91 ≤ x12) (u12 : x12 ≤ 91) (f0 : x10 < x11) (f1 : x9 ≠ 1) (e5 : S 412 8 = x8) (e4 : S 424 x8 = x9) (e3 : S 412 2 = x10) (e2 : S 412 1 = x11) (e1 : S 411 x10 = x12) : (True) ∧ rxPSRODK S0 ws (bx_up S 412 4 x10) (some 0) := by
  obtain ⟨hI, hx⟩ := hinv
  obtain ⟨a_, c_⟩ := rxdROD_0_7 hP hin hin2 I0 I1 hI l8 u8 l9 u9 l10 u10 l11 u11 l12 u12 f0 f1 e5 e4 e3 e2 e1
  exact ⟨a_, c_, (fun g => absurd (Option.some.inj g) (by decide))⟩
theorem rxcRODK_2_0 {S0 : Nat → Int → Int} {ws : List Int} {S : Nat → Int → Int} {ap ot r x11 : Int} (hP : rxPRODK S0 ws) (hin : bx_same rxL (bx_mdl rxCRODK.2.2.1) S0 S) (I0 : bx_Inv rxL S) (hinv : rxIRODK_2 S0 ws S ap ot r) (l8 : 0 ≤ ap) (u8 : ap ≤ 1) (l9 : 0 ≤ ot) (u9 : ot ≤ 1) (l10 : 1 ≤ r) (u10 : r ≤ 1) (l11 : 0 ≤ x11) (u11 : x11 ≤ 399) (f0 : r ≠ 0) (e3 : S 412 10 = x11) : (True) ∧ (True) ∧ rxIRODK_3 S0 ws (bx_up (bx_up (bx_up S 425 x11 3) 426 x11 ((-1))) 412 10 (x11 + 1)) ap ot ∧ rxmRODK_3 S0 ws (bx_up (bx_up (bx_up S 425 x11 3) 426 x11 ((-1))) 412 10 (x11 + 1)) ap ot < rxmRODK_2 S0 ws S ap ot r := by
  obtain ⟨hI, hx⟩ := hinv
  obtain ⟨a_, b_, c_, d_⟩ := rxcROD_2_0 hP hin I0 hI l8 u8 l9 u9 l10 u10 l11 u11 f0 e3
  exact ⟨a_, b_, ⟨c_, (by
    obtain ⟨rfl, h1, h2, h3, hr⟩ := hI
    obtain ⟨hD, b0, b8, hp⟩ := (show rzDt S ∧ 0 ≤ S 412 8 ∧ S 412 8 ≤ 8 ∧ _ from hP)
    have bx : rzIs (rzCut (S 411)) (S 412 1) rzW_not (S 412 2) = true := by
      cases hb : rzIs (rzCut (S 411)) (S 412 1) rzW_not (S 412 2) with
      | true => rfl
      | false =>
        rw [hb, if_neg (by decide)] at hr
        omega
    intro b c hC hW hb
    have zb := hC.1
    have zm := hC.2.1
    have hs := hC.2.2.1
    have hw10 : S 412 10 = x11 := e3
    rw [rzLv_eq b0, rkSt_not hp ⟨h2, bx⟩]
    exact rkD_push (op := 28) (a := 0) hC ((bx_up_at).trans (by omega)) ((bx_up_ne (by omega)).trans ((bx_up_ne (by omega)).trans ((bx_up_ne (by omega))))) (fun j hj => (bx_up_ne (by omega)).trans ((bx_up_ne (by omega)).trans ((bx_up_ne (by omega))))) (fun j hj => (bx_up_ne (by omega)).trans ((bx_up_ne (by omega)).trans ((bx_up_ne (by omega))))) (fun j => ⟨(bx_up_ne (by omega)).trans ((bx_up_ne (by omega)).trans ((bx_up_ne (by omega)))), (bx_up_ne (by omega)).trans ((bx_up_ne (by omega)).trans ((bx_up_ne (by omega))))⟩) (by rw [hw10]; exact (((bx_up_ne (by omega)).trans ((bx_up_ne (by omega)))).trans bx_up_at).trans rkEn_28.symm) (fun g => by rcases g with g | g <;> omega))⟩, d_⟩
theorem rxcRODK_2_1 {S0 : Nat → Int → Int} {ws : List Int} {S : Nat → Int → Int} {ap ot r x11 : Int} (hP : rxPRODK S0 ws) (hin : bx_same rxL (bx_mdl rxCRODK.2.2.1) S0 S) (I0 : bx_Inv rxL S) (hinv : rxIRODK_2 S0 ws S ap ot r) (l8 : 0 ≤ ap) (u8 : ap ≤ 1) (l9 : 0 ≤ ot) (u9 : ot ≤ 1) (l10 : 1 ≤ r) (u10 : r ≤ 1) (l11 : 400 ≤ x11) (u11 : x11 ≤ 400) (f0 : r ≠ 0) (e0 : S 412 10 = x11) : (True) ∧ (True) ∧ rxIRODK_3 S0 ws S ap ot ∧ rxmRODK_3 S0 ws S ap ot < rxmRODK_2 S0 ws S ap ot r := by
  obtain ⟨hI, hx⟩ := hinv
  obtain ⟨a_, b_, c_, d_⟩ := rxcROD_2_1 hP hin I0 hI l8 u8 l9 u9 l10 u10 l11 u11 f0 e0
  exact ⟨a_, b_, ⟨c_, (by
    obtain ⟨rfl, h1, h2, h3, hr⟩ := hI
    obtain ⟨hD, b0, b8, hp⟩ := (show rzDt S ∧ 0 ≤ S 412 8 ∧ S 412 8 ≤ 8 ∧ _ from hP)
    intro b c hC hW hb
    have zb := hC.1
    have zm := hC.2.1
    have hs := hC.2.2.1
    have hw10 : S 412 10 = x11 := e0
    exfalso
    omega)⟩, d_⟩
theorem rxcRODK_2_2 {S0 : Nat → Int → Int} {ws : List Int} {S : Nat → Int → Int} {ap ot r x11 x12 x13 x14 x15 x16 : Int} (hP : rxPRODK S0 ws) (hin : bx_same rxL (bx_mdl rxCRODK.2.2.1) S0 S) (I0 : bx_Inv rxL S) (hinv : rxIRODK_2 S0 ws S ap ot r) (l8 : 0 ≤ ap) (u8 : ap ≤ 1) (l9 : 0 ≤ ot) (u9 : ot ≤ 0) (l10 : 0 ≤ r) (u10 : r ≤ 0) (l11 : 0 ≤ x11) (u11 : x11 ≤ 399) (l12 : 1 ≤ x12) (u12 : x12 ≤ 400) (l13 : 91 ≤ x13) (u13 : x13 ≤ 91) (l14 : 0 ≤ x14) (u14 : x14 ≤ 7) (l15 : 0 ≤ x15) (u15 : x15 ≤ 4) (l16 : 0 ≤ x16) (u16 : x16 ≤ 399) (f0 : x15 ≠ 1) (f1 : x11 < x12) (e10 : S 412 2 = x11) (e9 : S 412 1 = x12) (e8 : S 411 x11 = x13) (e7 : S 412 8 = x14) (e6 : S 424 x14 = x15) (e5 : S 412 10 = x16) : (True) ∧ (True) ∧ rxIRODK_3 S0 ws (bx_up (bx_up (bx_up (bx_up (bx_up S 425 x16 0) 426 x16 ((-1))) 412 10 (x16 + 1)) 412 8 (x14 + 1)) 424 (x14 + 1) 0) ap ot ∧ rxmRODK_3 S0 ws (bx_up (bx_up (bx_up (bx_up (bx_up S 425 x16 0) 426 x16 ((-1))) 412 10 (x16 + 1)) 412 8 (x14 + 1)) 424 (x14 + 1) 0) ap ot < rxmRODK_2 S0 ws S ap ot r := by
  obtain ⟨hI, hx⟩ := hinv
  obtain ⟨a_, b_, c_, d_⟩ := rxcROD_2_2 hP hin I0 hI l8 u8 l9 u9 l10 u10 l11 u11 l12 u12 l13 u13 l14 u14 l15 u15 l16 u16 f0 f1 e10 e9 e8 e7 e6 e5
  exact ⟨a_, b_, ⟨c_, (by
    obtain ⟨rfl, h1, h2, h3, hr⟩ := hI
    obtain ⟨hD, b0, b8, hp⟩ := (show rzDt S ∧ 0 ≤ S 412 8 ∧ S 412 8 ≤ 8 ∧ _ from hP)
    have hb : S 412 8 = x14 := e7
    have hs0 : S 424 (S 412 8) = x15 := by
      rw [hb]
      exact e6
    have qe8 : rzCut (S 411) (S 412 2) = x13 := by
      rw [e10]
      exact rzCut_at (e8) (by omega) (by omega)
    exfalso
    omega)⟩, d_⟩
theorem rxcRODK_2_3 {S0 : Nat → Int → Int} {ws : List Int} {S : Nat → Int → Int} {ap ot r x11 x12 x13 x14 x15 x16 : Int} (hP : rxPRODK S0 ws) (hin : bx_same rxL (bx_mdl rxCRODK.2.2.1) S0 S) (I0 : bx_Inv rxL S) (hinv : rxIRODK_2 S0 ws S ap ot r) (l8 : 0 ≤ ap) (u8 : ap ≤ 1) (l9 : 0 ≤ ot) (u9 : ot ≤ 0) (l10 : 0 ≤ r) (u10 : r ≤ 0) (l11 : 0 ≤ x11) (u11 : x11 ≤ 399) (l12 : 1 ≤ x12) (u12 : x12 ≤ 400) (l13 : 91 ≤ x13) (u13 : x13 ≤ 91) (l14 : 0 ≤ x14) (u14 : x14 ≤ 7) (l15 : 0 ≤ x15) (u15 : x15 ≤ 4) (l16 : 400 ≤ x16) (u16 : x16 ≤ 400) (f0 : x15 ≠ 1) (f1 : x11 < x12) (e7 : S 412 2 = x11) (e6 : S 412 1 = x12) (e5 : S 411 x11 = x13) (e4 : S 412 8 = x14) (e3 : S 424 x14 = x15) (e2 : S 412 10 = x16) : (True) ∧ (True) ∧ rxIRODK_3 S0 ws (bx_up (bx_up S 412 8 (x14 + 1)) 424 (x14 + 1) 0) ap ot ∧ rxmRODK_3 S0 ws (bx_up (bx_up S 412 8 (x14 + 1)) 424 (x14 + 1) 0) ap ot < rxmRODK_2 S0 ws S ap ot r := by
  obtain ⟨hI, hx⟩ := hinv
  obtain ⟨a_, b_, c_, d_⟩ := rxcROD_2_3 hP hin I0 hI l8 u8 l9 u9 l10 u10 l11 u11 l12 u12 l13 u13 l14 u14 l15 u15 l16 u16 f0 f1 e7 e6 e5 e4 e3 e2
  exact ⟨a_, b_, ⟨c_, (by
    obtain ⟨rfl, h1, h2, h3, hr⟩ := hI
    obtain ⟨hD, b0, b8, hp⟩ := (show rzDt S ∧ 0 ≤ S 412 8 ∧ S 412 8 ≤ 8 ∧ _ from hP)
    have hb : S 412 8 = x14 := e4
    have hs0 : S 424 (S 412 8) = x15 := by
      rw [hb]
      exact e3
    have qe5 : rzCut (S 411) (S 412 2) = x13 := by
      rw [e7]
      exact rzCut_at (e5) (by omega) (by omega)
    exfalso
    omega)⟩, d_⟩
theorem rxcRODK_2_4 {S0 : Nat → Int → Int} {ws : List Int} {S : Nat → Int → Int} {ap ot r x11 x12 x13 x14 x15 x16 : Int} (hP : rxPRODK S0 ws) (hin : bx_same rxL (bx_mdl rxCRODK.2.2.1) S0 S) (I0 : bx_Inv rxL S) (hinv : rxIRODK_2 S0 ws S ap ot r) (l8 : 0 ≤ ap) (u8 : ap ≤ 1) (l9 : 0 ≤ ot) (u9 : ot ≤ 0) (l10 : 0 ≤ r) (u10 : r ≤ 0) (l11 : 0 ≤ x11) (u11 : x11 ≤ 399) (l12 : 1 ≤ x12) (u12 : x12 ≤ 400) (l13 : 91 ≤ x13) (u13 : x13 ≤ 91) (l14 : 0 ≤ x14) (u14 : x14 ≤ 7) (l15 : 1 ≤ x15) (u15 : x15 ≤ 1) (l16 : 0 ≤ x16) (u16 : x16 ≤ 399) (f0 : x11 < x12) (e11 : S 412 2 = x11) (e10 : S 412 1 = x12) (e9 : S 411 x11 = x13) (e8 : S 412 8 = x14) (e7 : S 424 x14 = x15) (e5 : (bx_up S 424 x14 2) 412 10 = x16) : (True) ∧ (True) ∧ rxIRODK_3 S0 ws (bx_up (bx_up (bx_up (bx_up (bx_up (bx_up S 424 x14 2) 425 x16 0) 426 x16 ((-1))) 412 10 (x16 + 1)) 412 8 (x14 + 1)) 424 (x14 + 1) 0) ap ot ∧ rxmRODK_3 S0 ws (bx_up (bx_up (bx_up (bx_up (bx_up (bx_up S 424 x14 2) 425 x16 0) 426 x16 ((-1))) 412 10 (x16 + 1)) 412 8 (x14 + 1)) 424 (x14 + 1) 0) ap ot < rxmRODK_2 S0 ws S ap ot r := by
  obtain ⟨hI, hx⟩ := hinv
  obtain ⟨a_, b_, c_, d_⟩ := rxcROD_2_4 hP hin I0 hI l8 u8 l9 u9 l10 u10 l11 u11 l12 u12 l13 u13 l14 u14 l15 u15 l16 u16 f0 e11 e10 e9 e8 e7 e5
  exact ⟨a_, b_, ⟨c_, (by
    obtain ⟨rfl, h1, h2, h3, hr⟩ := hI
    obtain ⟨hD, b0, b8, hp⟩ := (show rzDt S ∧ 0 ≤ S 412 8 ∧ S 412 8 ≤ 8 ∧ _ from hP)
    have hb : S 412 8 = x14 := e8
    have hs0 : S 424 (S 412 8) = x15 := by
      rw [hb]
      exact e7
    have qe9 : rzCut (S 411) (S 412 2) = x13 := by
      rw [e11]
      exact rzCut_at (e9) (by omega) (by omega)
    have bx : rzIs (rzCut (S 411)) (S 412 1) rzW_not (S 412 2) = false := by
      cases hb : rzIs (rzCut (S 411)) (S 412 1) rzW_not (S 412 2) with
      | false => rfl
      | true =>
        rw [hb, if_pos rfl] at hr
        omega
    intro b c hC hW hb
    have zb := hC.1
    have zm := hC.2.1
    have hs := hC.2.2.1
    have hw10 : S 412 10 = x16 := (((bx_up_ne (by omega))).symm.trans e5)
    rw [rzLv_eq b0, rkSt_sq hp (fun g => by rw [bx] at g; exact absurd g.2 (by decide)) (fun g => by
      have g3 := of_decide_eq_true g.2
      obtain ⟨ga, gb⟩ := g3
      omega)]
    exact rkD_push (op := 32) (a := 0) hC (((bx_up_ne (by omega)).trans ((bx_up_ne (by omega)).trans (bx_up_at))).trans (by omega)) ((bx_up_ne (by omega)).trans ((bx_up_ne (by omega)).trans ((bx_up_ne (by omega)).trans ((bx_up_ne (by omega)).trans ((bx_up_ne (by omega)).trans ((bx_up_ne (by omega)))))))) (fun j hj => (bx_up_ne (by omega)).trans ((bx_up_ne (by omega)).trans ((bx_up_ne (by omega)).trans ((bx_up_ne (by omega)).trans ((bx_up_ne (by omega)).trans ((bx_up_ne (by omega)))))))) (fun j hj => (bx_up_ne (by omega)).trans ((bx_up_ne (by omega)).trans ((bx_up_ne (by omega)).trans ((bx_up_ne (by omega)).trans ((bx_up_ne (by omega)).trans ((bx_up_ne (by omega)))))))) (fun j => ⟨(bx_up_ne (by omega)).trans ((bx_up_ne (by omega)).trans ((bx_up_ne (by omega)).trans ((bx_up_ne (by omega)).trans ((bx_up_ne (by omega)).trans ((bx_up_ne (by omega))))))), (bx_up_ne (by omega)).trans ((bx_up_ne (by omega)).trans ((bx_up_ne (by omega)).trans ((bx_up_ne (by omega)).trans ((bx_up_ne (by omega)).trans ((bx_up_ne (by omega)))))))⟩) (by rw [hw10]; exact (((bx_up_ne (by omega)).trans ((bx_up_ne (by omega)).trans ((bx_up_ne (by omega)).trans ((bx_up_ne (by omega)))))).trans bx_up_at).trans (rkEn_br (Or.inr rfl)).symm) (fun g => by rcases g with g | g <;> omega))⟩, d_⟩
theorem rxcRODK_2_5 {S0 : Nat → Int → Int} {ws : List Int} {S : Nat → Int → Int} {ap ot r x11 x12 x13 x14 x15 x16 : Int} (hP : rxPRODK S0 ws) (hin : bx_same rxL (bx_mdl rxCRODK.2.2.1) S0 S) (I0 : bx_Inv rxL S) (hinv : rxIRODK_2 S0 ws S ap ot r) (l8 : 0 ≤ ap) (u8 : ap ≤ 1) (l9 : 0 ≤ ot) (u9 : ot ≤ 0) (l10 : 0 ≤ r) (u10 : r ≤ 0) (l11 : 0 ≤ x11) (u11 : x11 ≤ 399) (l12 : 1 ≤ x12) (u12 : x12 ≤ 400) (l13 : 91 ≤ x13) (u13 : x13 ≤ 91) (l14 : 0 ≤ x14) (u14 : x14 ≤ 7) (l15 : 1 ≤ x15) (u15 : x15 ≤ 1) (l16 : 400 ≤ x16) (u16 : x16 ≤ 400) (f0 : x11 < x12) (e8 : S 412 2 = x11) (e7 : S 412 1 = x12) (e6 : S 411 x11 = x13) (e5 : S 412 8 = x14) (e4 : S 424 x14 = x15) (e2 : (bx_up S 424 x14 2) 412 10 = x16) : (True) ∧ (True) ∧ rxIRODK_3 S0 ws (bx_up (bx_up (bx_up S 424 x14 2) 412 8 (x14 + 1)) 424 (x14 + 1) 0) ap ot ∧ rxmRODK_3 S0 ws (bx_up (bx_up (bx_up S 424 x14 2) 412 8 (x14 + 1)) 424 (x14 + 1) 0) ap ot < rxmRODK_2 S0 ws S ap ot r := by
  obtain ⟨hI, hx⟩ := hinv
  obtain ⟨a_, b_, c_, d_⟩ := rxcROD_2_5 hP hin I0 hI l8 u8 l9 u9 l10 u10 l11 u11 l12 u12 l13 u13 l14 u14 l15 u15 l16 u16 f0 e8 e7 e6 e5 e4 e2
  exact ⟨a_, b_, ⟨c_, (by
    obtain ⟨rfl, h1, h2, h3, hr⟩ := hI
    obtain ⟨hD, b0, b8, hp⟩ := (show rzDt S ∧ 0 ≤ S 412 8 ∧ S 412 8 ≤ 8 ∧ _ from hP)
    have hb : S 412 8 = x14 := e5
    have hs0 : S 424 (S 412 8) = x15 := by
      rw [hb]
      exact e4
    have qe6 : rzCut (S 411) (S 412 2) = x13 := by
      rw [e8]
      exact rzCut_at (e6) (by omega) (by omega)
    intro b c hC hW hb
    have zb := hC.1
    have zm := hC.2.1
    have hs := hC.2.2.1
    have hw10 : S 412 10 = x16 := (((bx_up_ne (by omega))).symm.trans e2)
    exfalso
    omega)⟩, d_⟩
theorem rxcRODK_2_6 {S0 : Nat → Int → Int} {ws : List Int} {S : Nat → Int → Int} {ap ot r x11 x12 x13 x14 x15 : Int} (hP : rxPRODK S0 ws) (hin : bx_same rxL (bx_mdl rxCRODK.2.2.1) S0 S) (I0 : bx_Inv rxL S) (hinv : rxIRODK_2 S0 ws S ap ot r) (l8 : 0 ≤ ap) (u8 : ap ≤ 1) (l9 : 0 ≤ ot) (u9 : ot ≤ 0) (l10 : 0 ≤ r) (u10 : r ≤ 0) (l11 : 0 ≤ x11) (u11 : x11 ≤ 399) (l12 : 1 ≤ x12) (u12 : x12 ≤ 400) (l13 : 91 ≤ x13) (u13 : x13 ≤ 91) (l14 : (-2147483648) ≤ x14) (u14 : x14 ≤ (-2)) (l15 : 0 ≤ x15) (u15 : x15 ≤ 399) (f0 : x11 < x12) (e8 : S 412 2 = x11) (e7 : S 412 1 = x12) (e6 : S 411 x11 = x13) (e5 : S 412 8 = x14) (e4 : S 412 10 = x15) : (True) ∧ (True) ∧ rxIRODK_3 S0 ws (bx_up (bx_up (bx_up (bx_up S 425 x15 0) 426 x15 ((-1))) 412 10 (x15 + 1)) 412 8 (x14 + 1)) ap ot ∧ rxmRODK_3 S0 ws (bx_up (bx_up (bx_up (bx_up S 425 x15 0) 426 x15 ((-1))) 412 10 (x15 + 1)) 412 8 (x14 + 1)) ap ot < rxmRODK_2 S0 ws S ap ot r := by
  obtain ⟨hI, hx⟩ := hinv
  obtain ⟨a_, b_, c_, d_⟩ := rxcROD_2_6 hP hin I0 hI l8 u8 l9 u9 l10 u10 l11 u11 l12 u12 l13 u13 l14 u14 l15 u15 f0 e8 e7 e6 e5 e4
  exact ⟨a_, b_, ⟨c_, (by
    obtain ⟨rfl, h1, h2, h3, hr⟩ := hI
    obtain ⟨hD, b0, b8, hp⟩ := (show rzDt S ∧ 0 ≤ S 412 8 ∧ S 412 8 ≤ 8 ∧ _ from hP)
    have hb : S 412 8 = x14 := e5
    have qe6 : rzCut (S 411) (S 412 2) = x13 := by
      rw [e8]
      exact rzCut_at (e6) (by omega) (by omega)
    exfalso
    omega)⟩, d_⟩
theorem rxcRODK_2_7 {S0 : Nat → Int → Int} {ws : List Int} {S : Nat → Int → Int} {ap ot r x11 x12 x13 x14 x15 : Int} (hP : rxPRODK S0 ws) (hin : bx_same rxL (bx_mdl rxCRODK.2.2.1) S0 S) (I0 : bx_Inv rxL S) (hinv : rxIRODK_2 S0 ws S ap ot r) (l8 : 0 ≤ ap) (u8 : ap ≤ 1) (l9 : 0 ≤ ot) (u9 : ot ≤ 0) (l10 : 0 ≤ r) (u10 : r ≤ 0) (l11 : 0 ≤ x11) (u11 : x11 ≤ 399) (l12 : 1 ≤ x12) (u12 : x12 ≤ 400) (l13 : 91 ≤ x13) (u13 : x13 ≤ 91) (l14 : (-1) ≤ x14) (u14 : x14 ≤ (-1)) (l15 : 0 ≤ x15) (u15 : x15 ≤ 399) (f0 : x11 < x12) (e9 : S 412 2 = x11) (e8 : S 412 1 = x12) (e7 : S 411 x11 = x13) (e6 : S 412 8 = x14) (e5 : S 412 10 = x15) : (True) ∧ (True) ∧ rxIRODK_3 S0 ws (bx_up (bx_up (bx_up (bx_up (bx_up S 425 x15 0) 426 x15 ((-1))) 412 10 (x15 + 1)) 412 8 (x14 + 1)) 424 (x14 + 1) 0) ap ot ∧ rxmRODK_3 S0 ws (bx_up (bx_up (bx_up (bx_up (bx_up S 425 x15 0) 426 x15 ((-1))) 412 10 (x15 + 1)) 412 8 (x14 + 1)) 424 (x14 + 1) 0) ap ot < rxmRODK_2 S0 ws S ap ot r := by
  obtain ⟨hI, hx⟩ := hinv
  obtain ⟨a_, b_, c_, d_⟩ := rxcROD_2_7 hP hin I0 hI l8 u8 l9 u9 l10 u10 l11 u11 l12 u12 l13 u13 l14 u14 l15 u15 f0 e9 e8 e7 e6 e5
  exact ⟨a_, b_, ⟨c_, (by
    obtain ⟨rfl, h1, h2, h3, hr⟩ := hI
    obtain ⟨hD, b0, b8, hp⟩ := (show rzDt S ∧ 0 ≤ S 412 8 ∧ S 412 8 ≤ 8 ∧ _ from hP)
    have hb : S 412 8 = x14 := e6
    have qe7 : rzCut (S 411) (S 412 2) = x13 := by
      rw [e9]
      exact rzCut_at (e7) (by omega) (by omega)
    exfalso
    omega)⟩, d_⟩
theorem rxcRODK_2_8 {S0 : Nat → Int → Int} {ws : List Int} {S : Nat → Int → Int} {ap ot r x11 x12 x13 x14 x15 : Int} (hP : rxPRODK S0 ws) (hin : bx_same rxL (bx_mdl rxCRODK.2.2.1) S0 S) (I0 : bx_Inv rxL S) (hinv : rxIRODK_2 S0 ws S ap ot r) (l8 : 0 ≤ ap) (u8 : ap ≤ 1) (l9 : 0 ≤ ot) (u9 : ot ≤ 0) (l10 : 0 ≤ r) (u10 : r ≤ 0) (l11 : 0 ≤ x11) (u11 : x11 ≤ 399) (l12 : 1 ≤ x12) (u12 : x12 ≤ 400) (l13 : 91 ≤ x13) (u13 : x13 ≤ 91) (l14 : (-2147483648) ≤ x14) (u14 : x14 ≤ (-2)) (l15 : 400 ≤ x15) (u15 : x15 ≤ 400) (f0 : x11 < x12) (e5 : S 412 2 = x11) (e4 : S 412 1 = x12) (e3 : S 411 x11 = x13) (e2 : S 412 8 = x14) (e1 : S 412 10 = x15) : (True) ∧ (True) ∧ rxIRODK_3 S0 ws (bx_up S 412 8 (x14 + 1)) ap ot ∧ rxmRODK_3 S0 ws (bx_up S 412 8 (x14 + 1)) ap ot < rxmRODK_2 S0 ws S ap ot r := by
  obtain ⟨hI, hx⟩ := hinv
  obtain ⟨a_, b_, c_, d_⟩ := rxcROD_2_8 hP hin I0 hI l8 u8 l9 u9 l10 u10 l11 u11 l12 u12 l13 u13 l14 u14 l15 u15 f0 e5 e4 e3 e2 e1
  exact ⟨a_, b_, ⟨c_, (by
    obtain ⟨rfl, h1, h2, h3, hr⟩ := hI
    obtain ⟨hD, b0, b8, hp⟩ := (show rzDt S ∧ 0 ≤ S 412 8 ∧ S 412 8 ≤ 8 ∧ _ from hP)
    have hb : S 412 8 = x14 := e2
    have qe3 : rzCut (S 411) (S 412 2) = x13 := by
      rw [e5]
      exact rzCut_at (e3) (by omega) (by omega)
    exfalso
    omega)⟩, d_⟩
theorem rxcRODK_2_9 {S0 : Nat → Int → Int} {ws : List Int} {S : Nat → Int → Int} {ap ot r x11 x12 x13 x14 x15 : Int} (hP : rxPRODK S0 ws) (hin : bx_same rxL (bx_mdl rxCRODK.2.2.1) S0 S) (I0 : bx_Inv rxL S) (hinv : rxIRODK_2 S0 ws S ap ot r) (l8 : 0 ≤ ap) (u8 : ap ≤ 1) (l9 : 0 ≤ ot) (u9 : ot ≤ 0) (l10 : 0 ≤ r) (u10 : r ≤ 0) (l11 : 0 ≤ x11) (u11 : x11 ≤ 399) (l12 : 1 ≤ x12) (u12 : x12 ≤ 400) (l13 : 91 ≤ x13) (u13 : x13 ≤ 91) (l14 : (-1) ≤ x14) (u14 : x14 ≤ (-1)) (l15 : 400 ≤ x15) (u15 : x15 ≤ 400) (f0 : x11 < x12) (e6 : S 412 2 = x11) (e5 : S 412 1 = x12) (e4 : S 411 x11 = x13) (e3 : S 412 8 = x14) (e2 : S 412 10 = x15) : (True) ∧ (True) ∧ rxIRODK_3 S0 ws (bx_up (bx_up S 412 8 (x14 + 1)) 424 (x14 + 1) 0) ap ot ∧ rxmRODK_3 S0 ws (bx_up (bx_up S 412 8 (x14 + 1)) 424 (x14 + 1) 0) ap ot < rxmRODK_2 S0 ws S ap ot r := by
  obtain ⟨hI, hx⟩ := hinv
  obtain ⟨a_, b_, c_, d_⟩ := rxcROD_2_9 hP hin I0 hI l8 u8 l9 u9 l10 u10 l11 u11 l12 u12 l13 u13 l14 u14 l15 u15 f0 e6 e5 e4 e3 e2
  exact ⟨a_, b_, ⟨c_, (by
    obtain ⟨rfl, h1, h2, h3, hr⟩ := hI
    obtain ⟨hD, b0, b8, hp⟩ := (show rzDt S ∧ 0 ≤ S 412 8 ∧ S 412 8 ≤ 8 ∧ _ from hP)
    have hb : S 412 8 = x14 := e3
    have qe4 : rzCut (S 411) (S 412 2) = x13 := by
      rw [e6]
      exact rzCut_at (e4) (by omega) (by omega)
    exfalso
    omega)⟩, d_⟩
theorem rxcRODK_2_10 {S0 : Nat → Int → Int} {ws : List Int} {S : Nat → Int → Int} {ap ot r x11 x12 : Int} (hP : rxPRODK S0 ws) (hin : bx_same rxL (bx_mdl rxCRODK.2.2.1) S0 S) (I0 : bx_Inv rxL S) (hinv : rxIRODK_2 S0 ws S ap ot r) (l8 : 0 ≤ ap) (u8 : ap ≤ 1) (l9 : 1 ≤ ot) (u9 : ot ≤ 1) (l10 : 0 ≤ r) (u10 : r ≤ 0) (l11 : (-2147483648) ≤ x11) (u11 : x11 ≤ (-2)) (l12 : 0 ≤ x12) (u12 : x12 ≤ 399) (f0 : ot ≠ 0) (e5 : S 412 8 = x11) (e4 : S 412 10 = x12) : (True) ∧ (True) ∧ rxIRODK_3 S0 ws (bx_up (bx_up (bx_up (bx_up S 425 x12 0) 426 x12 ((-1))) 412 10 (x12 + 1)) 412 8 (x11 + 1)) ap ot ∧ rxmRODK_3 S0 ws (bx_up (bx_up (bx_up (bx_up S 425 x12 0) 426 x12 ((-1))) 412 10 (x12 + 1)) 412 8 (x11 + 1)) ap ot < rxmRODK_2 S0 ws S ap ot r := by
  obtain ⟨hI, hx⟩ := hinv
  obtain ⟨a_, b_, c_, d_⟩ := rxcROD_2_10 hP hin I0 hI l8 u8 l9 u9 l10 u10 l11 u11 l12 u12 f0 e5 e4
  exact ⟨a_, b_, ⟨c_, (by
    obtain ⟨rfl, h1, h2, h3, hr⟩ := hI
    obtain ⟨hD, b0, b8, hp⟩ := (show rzDt S ∧ 0 ≤ S 412 8 ∧ S 412 8 ≤ 8 ∧ _ from hP)
    have hb : S 412 8 = x11 := e5
    exfalso
    omega)⟩, d_⟩
theorem rxcRODK_2_11 {S0 : Nat → Int → Int} {ws : List Int} {S : Nat → Int → Int} {ap ot r x11 x12 : Int} (hP : rxPRODK S0 ws) (hin : bx_same rxL (bx_mdl rxCRODK.2.2.1) S0 S) (I0 : bx_Inv rxL S) (hinv : rxIRODK_2 S0 ws S ap ot r) (l8 : 0 ≤ ap) (u8 : ap ≤ 1) (l9 : 1 ≤ ot) (u9 : ot ≤ 1) (l10 : 0 ≤ r) (u10 : r ≤ 0) (l11 : (-1) ≤ x11) (u11 : x11 ≤ 7) (l12 : 0 ≤ x12) (u12 : x12 ≤ 399) (f0 : ot ≠ 0) (e6 : S 412 8 = x11) (e5 : S 412 10 = x12) : (True) ∧ (True) ∧ rxIRODK_3 S0 ws (bx_up (bx_up (bx_up (bx_up (bx_up S 425 x12 0) 426 x12 ((-1))) 412 10 (x12 + 1)) 412 8 (x11 + 1)) 424 (x11 + 1) 1) ap ot ∧ rxmRODK_3 S0 ws (bx_up (bx_up (bx_up (bx_up (bx_up S 425 x12 0) 426 x12 ((-1))) 412 10 (x12 + 1)) 412 8 (x11 + 1)) 424 (x11 + 1) 1) ap ot < rxmRODK_2 S0 ws S ap ot r := by
  obtain ⟨hI, hx⟩ := hinv
  obtain ⟨a_, b_, c_, d_⟩ := rxcROD_2_11 hP hin I0 hI l8 u8 l9 u9 l10 u10 l11 u11 l12 u12 f0 e6 e5
  exact ⟨a_, b_, ⟨c_, (by
    obtain ⟨rfl, h1, h2, h3, hr⟩ := hI
    obtain ⟨hD, b0, b8, hp⟩ := (show rzDt S ∧ 0 ≤ S 412 8 ∧ S 412 8 ≤ 8 ∧ _ from hP)
    have hb : S 412 8 = x11 := e6
    have bx : rzIs (rzCut (S 411)) (S 412 1) rzW_not (S 412 2) = false := by
      cases hb : rzIs (rzCut (S 411)) (S 412 1) rzW_not (S 412 2) with
      | false => rfl
      | true =>
        rw [hb, if_pos rfl] at hr
        omega
    have g40 : rzSg (rzCut (S 411)) (S 412 1) 40 (S 412 2) = true := by
      by_cases g : rzSg (rzCut (S 411)) (S 412 1) 40 (S 412 2) = true
      · exact g
      · rw [if_neg g] at h3
        omega
    intro b c hC hW hb
    have zb := hC.1
    have zm := hC.2.1
    have hs := hC.2.2.1
    have hw10 : S 412 10 = x12 := e5
    rw [rzLv_eq b0, rkSt_par hp (fun g => by rw [bx] at g; exact absurd g.2 (by decide)) ⟨h2, g40⟩]
    exact rkD_push (op := 31) (a := 0) hC (((bx_up_ne (by omega)).trans ((bx_up_ne (by omega)).trans (bx_up_at))).trans (by omega)) ((bx_up_ne (by omega)).trans ((bx_up_ne (by omega)).trans ((bx_up_ne (by omega)).trans ((bx_up_ne (by omega)).trans ((bx_up_ne (by omega))))))) (fun j hj => (bx_up_ne (by omega)).trans ((bx_up_ne (by omega)).trans ((bx_up_ne (by omega)).trans ((bx_up_ne (by omega)).trans ((bx_up_ne (by omega))))))) (fun j hj => (bx_up_ne (by omega)).trans ((bx_up_ne (by omega)).trans ((bx_up_ne (by omega)).trans ((bx_up_ne (by omega)).trans ((bx_up_ne (by omega))))))) (fun j => ⟨(bx_up_ne (by omega)).trans ((bx_up_ne (by omega)).trans ((bx_up_ne (by omega)).trans ((bx_up_ne (by omega)).trans ((bx_up_ne (by omega)))))), (bx_up_ne (by omega)).trans ((bx_up_ne (by omega)).trans ((bx_up_ne (by omega)).trans ((bx_up_ne (by omega)).trans ((bx_up_ne (by omega))))))⟩) (by rw [hw10]; exact (((bx_up_ne (by omega)).trans ((bx_up_ne (by omega)).trans ((bx_up_ne (by omega)).trans ((bx_up_ne (by omega)))))).trans bx_up_at).trans (rkEn_br (Or.inl rfl)).symm) (fun g => by rcases g with g | g <;> omega))⟩, d_⟩
theorem rxcRODK_2_12 {S0 : Nat → Int → Int} {ws : List Int} {S : Nat → Int → Int} {ap ot r x11 x12 : Int} (hP : rxPRODK S0 ws) (hin : bx_same rxL (bx_mdl rxCRODK.2.2.1) S0 S) (I0 : bx_Inv rxL S) (hinv : rxIRODK_2 S0 ws S ap ot r) (l8 : 0 ≤ ap) (u8 : ap ≤ 1) (l9 : 1 ≤ ot) (u9 : ot ≤ 1) (l10 : 0 ≤ r) (u10 : r ≤ 0) (l11 : (-2147483648) ≤ x11) (u11 : x11 ≤ (-2)) (l12 : 400 ≤ x12) (u12 : x12 ≤ 400) (f0 : ot ≠ 0) (e2 : S 412 8 = x11) (e1 : S 412 10 = x12) : (True) ∧ (True) ∧ rxIRODK_3 S0 ws (bx_up S 412 8 (x11 + 1)) ap ot ∧ rxmRODK_3 S0 ws (bx_up S 412 8 (x11 + 1)) ap ot < rxmRODK_2 S0 ws S ap ot r := by
  obtain ⟨hI, hx⟩ := hinv
  obtain ⟨a_, b_, c_, d_⟩ := rxcROD_2_12 hP hin I0 hI l8 u8 l9 u9 l10 u10 l11 u11 l12 u12 f0 e2 e1
  exact ⟨a_, b_, ⟨c_, (by
    obtain ⟨rfl, h1, h2, h3, hr⟩ := hI
    obtain ⟨hD, b0, b8, hp⟩ := (show rzDt S ∧ 0 ≤ S 412 8 ∧ S 412 8 ≤ 8 ∧ _ from hP)
    have hb : S 412 8 = x11 := e2
    exfalso
    omega)⟩, d_⟩
theorem rxcRODK_2_13 {S0 : Nat → Int → Int} {ws : List Int} {S : Nat → Int → Int} {ap ot r x11 x12 : Int} (hP : rxPRODK S0 ws) (hin : bx_same rxL (bx_mdl rxCRODK.2.2.1) S0 S) (I0 : bx_Inv rxL S) (hinv : rxIRODK_2 S0 ws S ap ot r) (l8 : 0 ≤ ap) (u8 : ap ≤ 1) (l9 : 1 ≤ ot) (u9 : ot ≤ 1) (l10 : 0 ≤ r) (u10 : r ≤ 0) (l11 : (-1) ≤ x11) (u11 : x11 ≤ 7) (l12 : 400 ≤ x12) (u12 : x12 ≤ 400) (f0 : ot ≠ 0) (e3 : S 412 8 = x11) (e2 : S 412 10 = x12) : (True) ∧ (True) ∧ rxIRODK_3 S0 ws (bx_up (bx_up S 412 8 (x11 + 1)) 424 (x11 + 1) 1) ap ot ∧ rxmRODK_3 S0 ws (bx_up (bx_up S 412 8 (x11 + 1)) 424 (x11 + 1) 1) ap ot < rxmRODK_2 S0 ws S ap ot r := by
  obtain ⟨hI, hx⟩ := hinv
  obtain ⟨a_, b_, c_, d_⟩ := rxcROD_2_13 hP hin I0 hI l8 u8 l9 u9 l10 u10 l11 u11 l12 u12 f0 e3 e2
  exact ⟨a_, b_, ⟨c_, (by
    obtain ⟨rfl, h1, h2, h3, hr⟩ := hI
    obtain ⟨hD, b0, b8, hp⟩ := (show rzDt S ∧ 0 ≤ S 412 8 ∧ S 412 8 ≤ 8 ∧ _ from hP)
    have hb : S 412 8 = x11 := e3
    intro b c hC hW hb
    have zb := hC.1
    have zm := hC.2.1
    have hs := hC.2.2.1
    have hw10 : S 412 10 = x12 := e2
    exfalso
    omega)⟩, d_⟩
theorem rxdRODK_2_0 {S0 : Nat → Int → Int} {ws : List Int} {S : Nat → Int → Int} {ap ot r x11 x12 : Int} (hP : rxPRODK S0 ws) (hin : bx_same rxL (bx_mdl rxCRODK.2.2.1) S0 S) (hin2 : bx_same rxL (bx_mdl rxCRODK.2.2.1) S (bx_up S 412 4 x11)) (I0 : bx_Inv rxL S) (I1 : bx_Inv rxL (bx_up S 412 4 x11)) (hinv : rxIRODK_2 S0 ws S ap ot r) (l8 : 0 ≤ ap) (u8 : ap ≤ 1) (l9 : 0 ≤ ot) (u9 : ot ≤ 0) (l10 : 0 ≤ r) (u10 : r ≤ 0) (l11 : 0 ≤ x11) (u11 : x11 ≤ 400) (l12 : 0 ≤ x12) (u12 : x12 ≤ 400) (f0 : x12 ≤ x11) (e2 : S 412 2 = x11) (e1 : S 412 1 = x12) : (True) ∧ rxPSRODK S0 ws (bx_up S 412 4 x11) (some 0) := by
  obtain ⟨hI, hx⟩ := hinv
  obtain ⟨a_, c_⟩ := rxdROD_2_0 hP hin hin2 I0 I1 hI l8 u8 l9 u9 l10 u10 l11 u11 l12 u12 f0 e2 e1
  exact ⟨a_, c_, (fun g => absurd (Option.some.inj g) (by decide))⟩
theorem rxdRODK_2_1 {S0 : Nat → Int → Int} {ws : List Int} {S : Nat → Int → Int} {ap ot r x11 x12 x13 : Int} (hP : rxPRODK S0 ws) (hin : bx_same rxL (bx_mdl rxCRODK.2.2.1) S0 S) (hin2 : bx_same rxL (bx_mdl rxCRODK.2.2.1) S (bx_up S 412 4 x11)) (I0 : bx_Inv rxL S) (I1 : bx_Inv rxL (bx_up S 412 4 x11)) (hinv : rxIRODK_2 S0 ws S ap ot r) (l8 : 0 ≤ ap) (u8 : ap ≤ 1) (l9 : 0 ≤ ot) (u9 : ot ≤ 0) (l10 : 0 ≤ r) (u10 : r ≤ 0) (l11 : 0 ≤ x11) (u11 : x11 ≤ 399) (l12 : 1 ≤ x12) (u12 : x12 ≤ 400) (l13 : 0 ≤ x13) (u13 : x13 ≤ 255) (f0 : x13 ≠ 91) (f1 : x11 < x12) (e3 : S 412 2 = x11) (e2 : S 412 1 = x12) (e1 : S 411 x11 = x13) : (True) ∧ rxPSRODK S0 ws (bx_up S 412 4 x11) (some 0) := by
  obtain ⟨hI, hx⟩ := hinv
  obtain ⟨a_, c_⟩ := rxdROD_2_1 hP hin hin2 I0 I1 hI l8 u8 l9 u9 l10 u10 l11 u11 l12 u12 l13 u13 f0 f1 e3 e2 e1
  exact ⟨a_, c_, (fun g => absurd (Option.some.inj g) (by decide))⟩
theorem rxdRODK_2_2 {S0 : Nat → Int → Int} {ws : List Int} {S : Nat → Int → Int} {ap ot r x11 x12 x13 x14 : Int} (hP : rxPRODK S0 ws) (hin : bx_same rxL (bx_mdl rxCRODK.2.2.1) S0 S) (hin2 : bx_same rxL (bx_mdl rxCRODK.2.2.1) S (bx_up S 412 4 x11)) (I0 : bx_Inv rxL S) (I1 : bx_Inv rxL (bx_up S 412 4 x11)) (hinv : rxIRODK_2 S0 ws S ap ot r) (l8 : 0 ≤ ap) (u8 : ap ≤ 1) (l9 : 0 ≤ ot) (u9 : ot ≤ 0) (l10 : 0 ≤ r) (u10 : r ≤ 0) (l11 : 0 ≤ x11) (u11 : x11 ≤ 399) (l12 : 1 ≤ x12) (u12 : x12 ≤ 400) (l13 : 91 ≤ x13) (u13 : x13 ≤ 91) (l14 : 8 ≤ x14) (u14 : x14 ≤ 2147483647) (f0 : x11 < x12) (e4 : S 412 2 = x11) (e3 : S 412 1 = x12) (e2 : S 411 x11 = x13) (e1 : S 412 8 = x14) : (True) ∧ rxPSRODK S0 ws (bx_up S 412 4 x11) (some 0) := by
  obtain ⟨hI, hx⟩ := hinv
  obtain ⟨a_, c_⟩ := rxdROD_2_2 hP hin hin2 I0 I1 hI l8 u8 l9 u9 l10 u10 l11 u11 l12 u12 l13 u13 l14 u14 f0 e4 e3 e2 e1
  exact ⟨a_, c_, (fun g => absurd (Option.some.inj g) (by decide))⟩
theorem rxdRODK_2_3 {S0 : Nat → Int → Int} {ws : List Int} {S : Nat → Int → Int} {ap ot r x11 x12 : Int} (hP : rxPRODK S0 ws) (hin : bx_same rxL (bx_mdl rxCRODK.2.2.1) S0 S) (hin2 : bx_same rxL (bx_mdl rxCRODK.2.2.1) S (bx_up S 412 4 x12)) (I0 : bx_Inv rxL S) (I1 : bx_Inv rxL (bx_up S 412 4 x12)) (hinv : rxIRODK_2 S0 ws S ap ot r) (l8 : 0 ≤ ap) (u8 : ap ≤ 1) (l9 : 1 ≤ ot) (u9 : ot ≤ 1) (l10 : 0 ≤ r) (u10 : r ≤ 0) (l11 : 8 ≤ x11) (u11 : x11 ≤ 2147483647) (l12 : 0 ≤ x12) (u12 : x12 ≤ 400) (f0 : ot ≠ 0) (e2 : S 412 8 = x11) (e1 : S 412 2 = x12) : (True) ∧ rxPSRODK S0 ws (bx_up S 412 4 x12) (some 0) := by
  obtain ⟨hI, hx⟩ := hinv
  obtain ⟨a_, c_⟩ := rxdROD_2_3 hP hin hin2 I0 I1 hI l8 u8 l9 u9 l10 u10 l11 u11 l12 u12 f0 e2 e1
  exact ⟨a_, c_, (fun g => absurd (Option.some.inj g) (by decide))⟩
theorem rxdRODK_4_0 {S0 : Nat → Int → Int} {ws : List Int} {S : Nat → Int → Int} {ap ot : Int} (hP : rxPRODK S0 ws) (hin : bx_same rxL (bx_mdl rxCRODK.2.2.1) S0 S) (hin2 : bx_same rxL (bx_mdl rxCRODK.2.2.1) S S) (I0 : bx_Inv rxL S) (I1 : bx_Inv rxL S) (hinv : rxIRODK_4 S0 ws S ap ot) (l8 : 0 ≤ ap) (u8 : ap ≤ 1) (l9 : 0 ≤ ot) (u9 : ot ≤ 1) : (True) ∧ rxPSRODK S0 ws S (some 1) := by
  obtain ⟨hI, hx⟩ := hinv
  obtain ⟨a_, c_⟩ := rxdROD_4_0 hP hin hin2 I0 I1 hI l8 u8 l9 u9
  exact ⟨a_, c_, (fun _ => hx)⟩