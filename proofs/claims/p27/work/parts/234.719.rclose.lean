noncomputable def rxCRCDK : bx_Ct := ([(3, (1, 412, 0))], none, [(6, 0), (7, 2), (7, 3), (7, 8), (7, 10), (1021, 0), (1022, 0), (1034, 0)], 2, [(412, 0, 3, (1, 411, 0)), (412, 6, 3, (1, 427, 0))])
noncomputable def rxIRCDK_0 (S0 : Nat → Int → Int) (ws : List Int) (S : Nat → Int → Int) : Prop := rxIRCD_0 S0 ws S ∧ True
noncomputable def rxmRCDK_0 (S0 : Nat → Int → Int) (ws : List Int) (S : Nat → Int → Int) : Nat := rxmRCD_0 S0 ws S
noncomputable def rxIRCDK_1 (S0 : Nat → Int → Int) (ws : List Int) (S : Nat → Int → Int) : Prop := rxIRCD_1 S0 ws S ∧ True
noncomputable def rxmRCDK_1 (S0 : Nat → Int → Int) (ws : List Int) (S : Nat → Int → Int) : Nat := rxmRCD_1 S0 ws S
noncomputable def rxIRCDK_2 (S0 : Nat → Int → Int) (ws : List Int) (S : Nat → Int → Int) : Prop := rxIRCD_2 S0 ws S ∧ (∀ (b : Int) (c : rkC), rkD S0 b c → rkW c → b + (c.1 : Int) + rkM c ≤ 398 → rkD S b (rkRed 1 c) ∧ rkFr S0 S b)
noncomputable def rxmRCDK_2 (S0 : Nat → Int → Int) (ws : List Int) (S : Nat → Int → Int) : Nat := rxmRCD_2 S0 ws S
noncomputable def rxIRCDK_3 (S0 : Nat → Int → Int) (ws : List Int) (S : Nat → Int → Int) (x : Int) : Prop := rxIRCD_3 S0 ws S x ∧ (∀ (b : Int) (c : rkC), rkD S0 b c → rkW c → b + (c.1 : Int) + rkM c ≤ 398 → rkD S b (rkPop (rkRed 1 c)) ∧ rkFr S0 S b)
noncomputable def rxmRCDK_3 (S0 : Nat → Int → Int) (ws : List Int) (S : Nat → Int → Int) (x : Int) : Nat := rxmRCD_3 S0 ws S x
noncomputable def rxIRCDK_4 (S0 : Nat → Int → Int) (ws : List Int) (S : Nat → Int → Int) (x y : Int) : Prop := rxIRCD_4 S0 ws S x y ∧ (∀ (b : Int) (c : rkC), rkD S0 b c → rkW c → b + (c.1 : Int) + rkM c ≤ 398 → rkD S b (rkPop (rkRed 1 c)) ∧ rkFr S0 S b)
noncomputable def rxmRCDK_4 (S0 : Nat → Int → Int) (ws : List Int) (S : Nat → Int → Int) (x y : Int) : Nat := rxmRCD_4 S0 ws S x y
noncomputable def rxIRCDK_5 (S0 : Nat → Int → Int) (ws : List Int) (S : Nat → Int → Int) : Prop := rxIRCD_5 S0 ws S ∧ rkTk S0 S true
noncomputable def rxmRCDK_5 (S0 : Nat → Int → Int) (ws : List Int) (S : Nat → Int → Int) : Nat := rxmRCD_5 S0 ws S
noncomputable def rxIRCDK_6 (S0 : Nat → Int → Int) (ws : List Int) (S : Nat → Int → Int) : Prop := rxIRCD_6 S0 ws S ∧ rkTk S0 S true
noncomputable def rxmRCDK_6 (S0 : Nat → Int → Int) (ws : List Int) (S : Nat → Int → Int) : Nat := rxmRCD_6 S0 ws S
noncomputable def rxPRCDK (S0 : Nat → Int → Int) (ws : List Int) : Prop := rxPRCD S0 ws
noncomputable def rxPSRCDK (S0 : Nat → Int → Int) (ws : List Int) (S : Nat → Int → Int) (w : Option Int) : Prop := w = none ∧ rxPSRCD S0 ws S w ∧ (rkTk S0 S true)
theorem rxkRCDK_1 {S0 : Nat → Int → Int} {ws : List Int} {S : Nat → Int → Int} (hP : rxPRCDK S0 ws) (hin : bx_same rxL (bx_mdl rxCRCDK.2.2.1) S0 S) (I0 : bx_Inv rxL S) (hinv : rxIRCDK_1 S0 ws S)  : rxPRDDK S [412, 1] ∧ ∀ (S_p : Nat → Int → Int), rxPSRDDK S [412, 1] S_p none → bx_Inv rxL S_p → bx_same rxL (bx_mdl rxCRDDK.2.2.1) S S_p → rxIRCDK_2 S0 ws S_p ∧ rxmRCDK_2 S0 ws S_p < rxmRCDK_1 S0 ws S := by
  obtain ⟨hI, hx⟩ := hinv
  have g_ := rxkRCD_1 hP hin I0 hI
  exact ⟨g_.1, fun S_p hq I1 hsm => ⟨⟨(g_.2 S_p hq.2.1 I1 hsm).1, (by
    have e : S = S0 := hI
    subst e
    obtain ⟨-, -, least, hw, h⟩ := hq
    have hl : (1 : Int) = least := Option.some.inj (congrArg (fun l : List Int => l[1]?) hw)
    subst hl
    exact fun b c hC hW hb => h (by omega) b c hC hW (by omega))⟩, (g_.2 S_p hq.2.1 I1 hsm).2⟩⟩
theorem rxbRCDK_3 {S0 : Nat → Int → Int} {ws : List Int} {S : Nat → Int → Int} {x : Int} (hP : rxPRCDK S0 ws) (hin : bx_same rxL (bx_mdl rxCRCDK.2.2.1) S0 S) (I0 : bx_Inv rxL S) (hinv : rxIRCDK_3 S0 ws S x) (l8 : (-2147483648) ≤ x) (u8 : x ≤ 2147483647) : bx_opcB 34 x 1 ∧ ∀ y : Int, y = bx_opvB 34 x 1 → ((-2147483648) ≤ y ∧ y ≤ 2147483647) ∧ rxIRCDK_4 S0 ws S x y ∧ rxmRCDK_4 S0 ws S x y < rxmRCDK_3 S0 ws S x := by
  obtain ⟨hI, hx⟩ := hinv
  have g_ := rxbRCD_3 hP hin I0 hI l8 u8
  exact ⟨g_.1, fun y hv => ⟨(g_.2 y hv).1, ⟨(g_.2 y hv).2.1, hx⟩, (g_.2 y hv).2.2⟩⟩
theorem rxkRCDK_5 {S0 : Nat → Int → Int} {ws : List Int} {S : Nat → Int → Int} (hP : rxPRCDK S0 ws) (hin : bx_same rxL (bx_mdl rxCRCDK.2.2.1) S0 S) (I0 : bx_Inv rxL S) (hinv : rxIRCDK_5 S0 ws S)  : rxPAD S [412] ∧ ∀ (S_p : Nat → Int → Int), rxPSAD S [412] S_p none → bx_Inv rxL S_p → bx_same rxL (bx_mdl rxC84.2.2.1) S S_p → rxIRCDK_6 S0 ws S_p ∧ rxmRCDK_6 S0 ws S_p < rxmRCDK_5 S0 ws S := by
  obtain ⟨hI, hx⟩ := hinv
  have g_ := rxkRCD_5 hP hin I0 hI
  exact ⟨g_.1, fun S_p hq I1 hsm => ⟨⟨(g_.2 S_p hq I1 hsm).1, (by
    intro b c hC hW hb
    obtain ⟨g1, g2⟩ := hx b c hC hW hb
    have q_ := rkD_of g1 I0 hsm (by decide +kernel)
    exact ⟨q_.1, g2.tr q_.2⟩)⟩, (g_.2 S_p hq I1 hsm).2⟩⟩
theorem rxcRCDK_0_0 {S0 : Nat → Int → Int} {ws : List Int} {S : Nat → Int → Int} (hP : rxPRCDK S0 ws) (hin : bx_same rxL (bx_mdl rxCRCDK.2.2.1) S0 S) (I0 : bx_Inv rxL S) (hinv : rxIRCDK_0 S0 ws S)  : (True) ∧ (True) ∧ rxIRCDK_1 S0 ws S ∧ rxmRCDK_1 S0 ws S < rxmRCDK_0 S0 ws S := by
  obtain ⟨hI, hx⟩ := hinv
  obtain ⟨a_, b_, c_, d_⟩ := rxcRCD_0_0 hP hin I0 hI
  exact ⟨a_, b_, ⟨c_, trivial⟩, d_⟩
theorem rxcRCDK_2_0 {S0 : Nat → Int → Int} {ws : List Int} {S : Nat → Int → Int} {x8 x9 : Int} (hP : rxPRCDK S0 ws) (hin : bx_same rxL (bx_mdl rxCRCDK.2.2.1) S0 S) (I0 : bx_Inv rxL S) (hinv : rxIRCDK_2 S0 ws S) (l8 : 1 ≤ x8) (u8 : x8 ≤ 400) (l9 : (-2147483648) ≤ x9) (u9 : x9 ≤ 2147483647) (e2 : S 412 10 = x8) (e0 : (bx_up S 412 10 (x8 + (-1))) 412 8 = x9) : (True) ∧ (True) ∧ rxIRCDK_3 S0 ws (bx_up S 412 10 (x8 + (-1))) x9 ∧ rxmRCDK_3 S0 ws (bx_up S 412 10 (x8 + (-1))) x9 < rxmRCDK_2 S0 ws S := by
  obtain ⟨hI, hx⟩ := hinv
  obtain ⟨a_, b_, c_, d_⟩ := rxcRCD_2_0 hP hin I0 hI l8 u8 l9 u9 e2 e0
  exact ⟨a_, b_, ⟨c_, (by
    intro b c hC hW hb
    obtain ⟨g1, g2⟩ := hx b c hC hW hb
    have e := g1.2.2.1
    have q := rkD_pop (S_p := (bx_up S 412 10 (x8 + (-1)))) g1 (by omega) ((bx_up_at).trans (by omega)) ((bx_up_ne (by omega))) (fun j => ⟨(bx_up_ne (by omega)), (bx_up_ne (by omega))⟩) (fun j => ⟨(bx_up_ne (by omega)), (bx_up_ne (by omega))⟩)
    exact ⟨q.1, g2.tr q.2⟩)⟩, d_⟩
theorem rxcRCDK_2_1 {S0 : Nat → Int → Int} {ws : List Int} {S : Nat → Int → Int} {x8 x9 : Int} (hP : rxPRCDK S0 ws) (hin : bx_same rxL (bx_mdl rxCRCDK.2.2.1) S0 S) (I0 : bx_Inv rxL S) (hinv : rxIRCDK_2 S0 ws S) (l8 : 0 ≤ x8) (u8 : x8 ≤ 0) (l9 : (-2147483648) ≤ x9) (u9 : x9 ≤ 2147483647) (e1 : S 412 10 = x8) (e0 : S 412 8 = x9) : (True) ∧ (True) ∧ rxIRCDK_3 S0 ws S x9 ∧ rxmRCDK_3 S0 ws S x9 < rxmRCDK_2 S0 ws S := by
  obtain ⟨hI, hx⟩ := hinv
  obtain ⟨a_, b_, c_, d_⟩ := rxcRCD_2_1 hP hin I0 hI l8 u8 l9 u9 e1 e0
  exact ⟨a_, b_, ⟨c_, (by
    intro b c hC hW hb
    obtain ⟨g1, g2⟩ := hx b c hC hW hb
    have e := g1.2.2.1
    have e0 : (rkRed 1 c).1 = 0 := by omega
    refine ⟨?_, g2⟩
    have q : rkPop (rkRed 1 c) = rkRed 1 c := by
      unfold rkPop
      rw [e0]
      exact Prod.ext e0.symm rfl
    rw [q]
    exact g1)⟩, d_⟩
theorem rxcRCDK_4_0 {S0 : Nat → Int → Int} {ws : List Int} {S : Nat → Int → Int} {x y x10 x11 : Int} (hP : rxPRCDK S0 ws) (hin : bx_same rxL (bx_mdl rxCRCDK.2.2.1) S0 S) (I0 : bx_Inv rxL S) (hinv : rxIRCDK_4 S0 ws S x y) (l8 : (-2147483648) ≤ x) (u8 : x ≤ 2147483647) (l9 : (-2147483648) ≤ y) (u9 : y ≤ 2147483647) (l10 : 0 ≤ x10) (u10 : x10 ≤ 400) (l11 : 0 ≤ x11) (u11 : x11 ≤ 400) (f0 : x11 ≤ x10) (e1 : (bx_up S 412 8 y) 412 2 = x10) (e0 : (bx_up S 412 8 y) 412 1 = x11) : (True) ∧ (True) ∧ rxIRCDK_5 S0 ws (bx_up S 412 8 y) ∧ rxmRCDK_5 S0 ws (bx_up S 412 8 y) < rxmRCDK_4 S0 ws S x y := by
  obtain ⟨hI, hx⟩ := hinv
  obtain ⟨a_, b_, c_, d_⟩ := rxcRCD_4_0 hP hin I0 hI l8 u8 l9 u9 l10 u10 l11 u11 f0 e1 e0
  exact ⟨a_, b_, ⟨c_, (by
    intro b c hC hW hb
    obtain ⟨hD, b1, b8, hc⟩ := hP
    obtain ⟨g1, g2⟩ := hx b c hC hW hb
    have q := rkD_ne (S_p := (bx_up S 412 8 y)) g1 ((bx_up_ne (by omega))) ((bx_up_ne (by omega))) (fun j => ⟨(bx_up_ne (by omega)), (bx_up_ne (by omega))⟩) (fun j => ⟨(bx_up_ne (by omega)), (bx_up_ne (by omega))⟩)
    rw [rzLv_eq (by omega), rkSt_cl (hc.imp (fun g => ⟨rzLq_ne b1, g.1, g.2⟩) fun g => ⟨rzLq_ne b1, g.1, g.2⟩)]
    exact ⟨q.1, g2.tr q.2⟩)⟩, d_⟩
theorem rxcRCDK_4_1 {S0 : Nat → Int → Int} {ws : List Int} {S : Nat → Int → Int} {x y x10 x11 x12 : Int} (hP : rxPRCDK S0 ws) (hin : bx_same rxL (bx_mdl rxCRCDK.2.2.1) S0 S) (I0 : bx_Inv rxL S) (hinv : rxIRCDK_4 S0 ws S x y) (l8 : (-2147483648) ≤ x) (u8 : x ≤ 2147483647) (l9 : (-2147483648) ≤ y) (u9 : y ≤ 2147483647) (l10 : 0 ≤ x10) (u10 : x10 ≤ 399) (l11 : 1 ≤ x11) (u11 : x11 ≤ 400) (l12 : 0 ≤ x12) (u12 : x12 ≤ 255) (f0 : x12 ≠ 41) (f1 : x10 < x11) (e2 : (bx_up S 412 8 y) 412 2 = x10) (e1 : (bx_up S 412 8 y) 412 1 = x11) (e0 : (bx_up S 412 8 y) 411 x10 = x12) : (True) ∧ (True) ∧ rxIRCDK_5 S0 ws (bx_up S 412 8 y) ∧ rxmRCDK_5 S0 ws (bx_up S 412 8 y) < rxmRCDK_4 S0 ws S x y := by
  obtain ⟨hI, hx⟩ := hinv
  obtain ⟨a_, b_, c_, d_⟩ := rxcRCD_4_1 hP hin I0 hI l8 u8 l9 u9 l10 u10 l11 u11 l12 u12 f0 f1 e2 e1 e0
  exact ⟨a_, b_, ⟨c_, (by
    intro b c hC hW hb
    obtain ⟨hD, b1, b8, hc⟩ := hP
    obtain ⟨g1, g2⟩ := hx b c hC hW hb
    have q := rkD_ne (S_p := (bx_up S 412 8 y)) g1 ((bx_up_ne (by omega))) ((bx_up_ne (by omega))) (fun j => ⟨(bx_up_ne (by omega)), (bx_up_ne (by omega))⟩) (fun j => ⟨(bx_up_ne (by omega)), (bx_up_ne (by omega))⟩)
    rw [rzLv_eq (by omega), rkSt_cl (hc.imp (fun g => ⟨rzLq_ne b1, g.1, g.2⟩) fun g => ⟨rzLq_ne b1, g.1, g.2⟩)]
    exact ⟨q.1, g2.tr q.2⟩)⟩, d_⟩
theorem rxcRCDK_4_2 {S0 : Nat → Int → Int} {ws : List Int} {S : Nat → Int → Int} {x y x10 x11 x12 : Int} (hP : rxPRCDK S0 ws) (hin : bx_same rxL (bx_mdl rxCRCDK.2.2.1) S0 S) (I0 : bx_Inv rxL S) (hinv : rxIRCDK_4 S0 ws S x y) (l8 : (-2147483648) ≤ x) (u8 : x ≤ 2147483647) (l9 : (-2147483648) ≤ y) (u9 : y ≤ (-1)) (l10 : 0 ≤ x10) (u10 : x10 ≤ 399) (l11 : 1 ≤ x11) (u11 : x11 ≤ 400) (l12 : 41 ≤ x12) (u12 : x12 ≤ 41) (f0 : x10 < x11) (e2 : (bx_up S 412 8 y) 412 2 = x10) (e1 : (bx_up S 412 8 y) 412 1 = x11) (e0 : (bx_up S 412 8 y) 411 x10 = x12) : (True) ∧ (True) ∧ rxIRCDK_5 S0 ws (bx_up S 412 8 y) ∧ rxmRCDK_5 S0 ws (bx_up S 412 8 y) < rxmRCDK_4 S0 ws S x y := by
  obtain ⟨hI, hx⟩ := hinv
  obtain ⟨a_, b_, c_, d_⟩ := rxcRCD_4_2 hP hin I0 hI l8 u8 l9 u9 l10 u10 l11 u11 l12 u12 f0 e2 e1 e0
  exact ⟨a_, b_, ⟨c_, (by
    intro b c hC hW hb
    obtain ⟨hD, b1, b8, hc⟩ := hP
    obtain ⟨g1, g2⟩ := hx b c hC hW hb
    have q := rkD_ne (S_p := (bx_up S 412 8 y)) g1 ((bx_up_ne (by omega))) ((bx_up_ne (by omega))) (fun j => ⟨(bx_up_ne (by omega)), (bx_up_ne (by omega))⟩) (fun j => ⟨(bx_up_ne (by omega)), (bx_up_ne (by omega))⟩)
    rw [rzLv_eq (by omega), rkSt_cl (hc.imp (fun g => ⟨rzLq_ne b1, g.1, g.2⟩) fun g => ⟨rzLq_ne b1, g.1, g.2⟩)]
    exact ⟨q.1, g2.tr q.2⟩)⟩, d_⟩
theorem rxcRCDK_4_3 {S0 : Nat → Int → Int} {ws : List Int} {S : Nat → Int → Int} {x y x10 x11 x12 : Int} (hP : rxPRCDK S0 ws) (hin : bx_same rxL (bx_mdl rxCRCDK.2.2.1) S0 S) (I0 : bx_Inv rxL S) (hinv : rxIRCDK_4 S0 ws S x y) (l8 : (-2147483648) ≤ x) (u8 : x ≤ 2147483647) (l9 : 9 ≤ y) (u9 : y ≤ 2147483647) (l10 : 0 ≤ x10) (u10 : x10 ≤ 399) (l11 : 1 ≤ x11) (u11 : x11 ≤ 400) (l12 : 41 ≤ x12) (u12 : x12 ≤ 41) (f0 : x10 < x11) (e2 : (bx_up S 412 8 y) 412 2 = x10) (e1 : (bx_up S 412 8 y) 412 1 = x11) (e0 : (bx_up S 412 8 y) 411 x10 = x12) : (True) ∧ (True) ∧ rxIRCDK_5 S0 ws (bx_up S 412 8 y) ∧ rxmRCDK_5 S0 ws (bx_up S 412 8 y) < rxmRCDK_4 S0 ws S x y := by
  obtain ⟨hI, hx⟩ := hinv
  obtain ⟨a_, b_, c_, d_⟩ := rxcRCD_4_3 hP hin I0 hI l8 u8 l9 u9 l10 u10 l11 u11 l12 u12 f0 e2 e1 e0
  exact ⟨a_, b_, ⟨c_, (by
    intro b c hC hW hb
    obtain ⟨hD, b1, b8, hc⟩ := hP
    obtain ⟨g1, g2⟩ := hx b c hC hW hb
    have q := rkD_ne (S_p := (bx_up S 412 8 y)) g1 ((bx_up_ne (by omega))) ((bx_up_ne (by omega))) (fun j => ⟨(bx_up_ne (by omega)), (bx_up_ne (by omega))⟩) (fun j => ⟨(bx_up_ne (by omega)), (bx_up_ne (by omega))⟩)
    rw [rzLv_eq (by omega), rkSt_cl (hc.imp (fun g => ⟨rzLq_ne b1, g.1, g.2⟩) fun g => ⟨rzLq_ne b1, g.1, g.2⟩)]
    exact ⟨q.1, g2.tr q.2⟩)⟩, d_⟩
theorem rxcRCDK_4_4 {S0 : Nat → Int → Int} {ws : List Int} {S : Nat → Int → Int} {x y x10 x11 x12 : Int} (hP : rxPRCDK S0 ws) (hin : bx_same rxL (bx_mdl rxCRCDK.2.2.1) S0 S) (I0 : bx_Inv rxL S) (hinv : rxIRCDK_4 S0 ws S x y) (l8 : (-2147483648) ≤ x) (u8 : x ≤ 2147483647) (l9 : 0 ≤ y) (u9 : y ≤ 8) (l10 : 0 ≤ x10) (u10 : x10 ≤ 399) (l11 : 1 ≤ x11) (u11 : x11 ≤ 400) (l12 : 41 ≤ x12) (u12 : x12 ≤ 41) (f0 : x10 < x11) (e3 : (bx_up S 412 8 y) 412 2 = x10) (e2 : (bx_up S 412 8 y) 412 1 = x11) (e1 : (bx_up S 412 8 y) 411 x10 = x12) : (True) ∧ (True) ∧ rxIRCDK_5 S0 ws (bx_up (bx_up S 412 8 y) 424 y 4) ∧ rxmRCDK_5 S0 ws (bx_up (bx_up S 412 8 y) 424 y 4) < rxmRCDK_4 S0 ws S x y := by
  obtain ⟨hI, hx⟩ := hinv
  obtain ⟨a_, b_, c_, d_⟩ := rxcRCD_4_4 hP hin I0 hI l8 u8 l9 u9 l10 u10 l11 u11 l12 u12 f0 e3 e2 e1
  exact ⟨a_, b_, ⟨c_, (by
    intro b c hC hW hb
    obtain ⟨hD, b1, b8, hc⟩ := hP
    obtain ⟨g1, g2⟩ := hx b c hC hW hb
    have q := rkD_ne (S_p := (bx_up (bx_up S 412 8 y) 424 y 4)) g1 ((bx_up_ne (by omega)).trans ((bx_up_ne (by omega)))) ((bx_up_ne (by omega)).trans ((bx_up_ne (by omega)))) (fun j => ⟨(bx_up_ne (by omega)).trans ((bx_up_ne (by omega))), (bx_up_ne (by omega)).trans ((bx_up_ne (by omega)))⟩) (fun j => ⟨(bx_up_ne (by omega)).trans ((bx_up_ne (by omega))), (bx_up_ne (by omega)).trans ((bx_up_ne (by omega)))⟩)
    rw [rzLv_eq (by omega), rkSt_cl (hc.imp (fun g => ⟨rzLq_ne b1, g.1, g.2⟩) fun g => ⟨rzLq_ne b1, g.1, g.2⟩)]
    exact ⟨q.1, g2.tr q.2⟩)⟩, d_⟩
theorem rxdRCDK_6_0 {S0 : Nat → Int → Int} {ws : List Int} {S : Nat → Int → Int} (hP : rxPRCDK S0 ws) (hin : bx_same rxL (bx_mdl rxCRCDK.2.2.1) S0 S) (hin2 : bx_same rxL (bx_mdl rxCRCDK.2.2.1) S S) (I0 : bx_Inv rxL S) (I1 : bx_Inv rxL S) (hinv : rxIRCDK_6 S0 ws S)  : (True) ∧ rxPSRCDK S0 ws S none := by
  obtain ⟨hI, hx⟩ := hinv
  obtain ⟨a_, c_⟩ := rxdRCD_6_0 hP hin hin2 I0 I1 hI
  exact ⟨a_, rfl, c_, hx⟩
noncomputable def rxCCEDK : bx_Ct := ([(3, (1, 412, 0))], some (0, (0, 0, 1)), [(6, 0), (7, 4), (7, 10), (1021, 0), (1022, 0)], 2, [(412, 0, 3, (1, 411, 0)), (412, 6, 3, (1, 427, 0))])
noncomputable def rxICEDK_0 (S0 : Nat → Int → Int) (ws : List Int) (S : Nat → Int → Int) : Prop := rxICED_0 S0 ws S ∧ True
noncomputable def rxmCEDK_0 (S0 : Nat → Int → Int) (ws : List Int) (S : Nat → Int → Int) : Nat := rxmCED_0 S0 ws S
noncomputable def rxICEDK_1 (S0 : Nat → Int → Int) (ws : List Int) (S : Nat → Int → Int) : Prop := rxICED_1 S0 ws S ∧ True
noncomputable def rxmCEDK_1 (S0 : Nat → Int → Int) (ws : List Int) (S : Nat → Int → Int) : Nat := rxmCED_1 S0 ws S
noncomputable def rxICEDK_2 (S0 : Nat → Int → Int) (ws : List Int) (S : Nat → Int → Int) : Prop := rxICED_2 S0 ws S ∧ (∀ (b : Int) (c : rkC), rkD S0 b c → rkW c → b + (c.1 : Int) + rkM c ≤ 399 → rkD S b (rkRed 1 c) ∧ rkFr S0 S b)
noncomputable def rxmCEDK_2 (S0 : Nat → Int → Int) (ws : List Int) (S : Nat → Int → Int) : Nat := rxmCED_2 S0 ws S
noncomputable def rxPCEDK (S0 : Nat → Int → Int) (ws : List Int) : Prop := rxPCED S0 ws
noncomputable def rxPSCEDK (S0 : Nat → Int → Int) (ws : List Int) (S : Nat → Int → Int) (w : Option Int) : Prop := rxPSCED S0 ws S w ∧ (w = some 1 → ∀ (b : Int) (c : rkC), rkD S0 b c → rkW c → b + (c.1 : Int) + rkM c ≤ 399 → rkDo S b (rkRed 1 c) ∧ rkFr S0 S b)
theorem rxkCEDK_1 {S0 : Nat → Int → Int} {ws : List Int} {S : Nat → Int → Int} (hP : rxPCEDK S0 ws) (hin : bx_same rxL (bx_mdl rxCCEDK.2.2.1) S0 S) (I0 : bx_Inv rxL S) (hinv : rxICEDK_1 S0 ws S)  : rxPRDDK S [412, 1] ∧ ∀ (S_p : Nat → Int → Int), rxPSRDDK S [412, 1] S_p none → bx_Inv rxL S_p → bx_same rxL (bx_mdl rxCRDDK.2.2.1) S S_p → rxICEDK_2 S0 ws S_p ∧ rxmCEDK_2 S0 ws S_p < rxmCEDK_1 S0 ws S := by
  obtain ⟨hI, hx⟩ := hinv
  have g_ := rxkCED_1 hP hin I0 hI
  exact ⟨g_.1, fun S_p hq I1 hsm => ⟨⟨(g_.2 S_p hq.2.1 I1 hsm).1, (by
    obtain ⟨e, -⟩ := hI
    subst e
    obtain ⟨-, -, least, hw, h⟩ := hq
    have hl : (1 : Int) = least := Option.some.inj (congrArg (fun l : List Int => l[1]?) hw)
    subst hl
    exact fun b c hC hW hb => h (by omega) b c hC hW (by omega))⟩, (g_.2 S_p hq.2.1 I1 hsm).2⟩⟩
theorem rxcCEDK_0_0 {S0 : Nat → Int → Int} {ws : List Int} {S : Nat → Int → Int} {x8 : Int} (hP : rxPCEDK S0 ws) (hin : bx_same rxL (bx_mdl rxCCEDK.2.2.1) S0 S) (I0 : bx_Inv rxL S) (hinv : rxICEDK_0 S0 ws S) (l8 : (-2147483648) ≤ x8) (u8 : x8 ≤ (-1)) (e0 : S 412 8 = x8) : (True) ∧ (True) ∧ rxICEDK_1 S0 ws S ∧ rxmCEDK_1 S0 ws S < rxmCEDK_0 S0 ws S := by
  obtain ⟨hI, hx⟩ := hinv
  obtain ⟨a_, b_, c_, d_⟩ := rxcCED_0_0 hP hin I0 hI l8 u8 e0
  exact ⟨a_, b_, ⟨c_, trivial⟩, d_⟩
theorem rxcCEDK_0_1 {S0 : Nat → Int → Int} {ws : List Int} {S : Nat → Int → Int} {x8 x9 : Int} (hP : rxPCEDK S0 ws) (hin : bx_same rxL (bx_mdl rxCCEDK.2.2.1) S0 S) (I0 : bx_Inv rxL S) (hinv : rxICEDK_0 S0 ws S) (l8 : 0 ≤ x8) (u8 : x8 ≤ 0) (l9 : 3 ≤ x9) (u9 : x9 ≤ 3) (f0 : x9 ≠ 0) (e1 : S 412 8 = x8) (e0 : S 424 x8 = x9) : (True) ∧ (True) ∧ rxICEDK_1 S0 ws S ∧ rxmCEDK_1 S0 ws S < rxmCEDK_0 S0 ws S := by
  obtain ⟨hI, hx⟩ := hinv
  obtain ⟨a_, b_, c_, d_⟩ := rxcCED_0_1 hP hin I0 hI l8 u8 l9 u9 f0 e1 e0
  exact ⟨a_, b_, ⟨c_, trivial⟩, d_⟩
theorem rxcCEDK_0_2 {S0 : Nat → Int → Int} {ws : List Int} {S : Nat → Int → Int} {x8 x9 : Int} (hP : rxPCEDK S0 ws) (hin : bx_same rxL (bx_mdl rxCCEDK.2.2.1) S0 S) (I0 : bx_Inv rxL S) (hinv : rxICEDK_0 S0 ws S) (l8 : 0 ≤ x8) (u8 : x8 ≤ 0) (l9 : 4 ≤ x9) (u9 : x9 ≤ 4) (f0 : x9 ≠ 3) (f1 : x9 ≠ 0) (e1 : S 412 8 = x8) (e0 : S 424 x8 = x9) : (True) ∧ (True) ∧ rxICEDK_1 S0 ws S ∧ rxmCEDK_1 S0 ws S < rxmCEDK_0 S0 ws S := by
  obtain ⟨hI, hx⟩ := hinv
  obtain ⟨a_, b_, c_, d_⟩ := rxcCED_0_2 hP hin I0 hI l8 u8 l9 u9 f0 f1 e1 e0
  exact ⟨a_, b_, ⟨c_, trivial⟩, d_⟩
theorem rxcCEDK_0_3 {S0 : Nat → Int → Int} {ws : List Int} {S : Nat → Int → Int} {x8 x9 : Int} (hP : rxPCEDK S0 ws) (hin : bx_same rxL (bx_mdl rxCCEDK.2.2.1) S0 S) (I0 : bx_Inv rxL S) (hinv : rxICEDK_0 S0 ws S) (l8 : 0 ≤ x8) (u8 : x8 ≤ 0) (l9 : 0 ≤ x9) (u9 : x9 ≤ 0) (e1 : S 412 8 = x8) (e0 : S 424 x8 = x9) : (True) ∧ (True) ∧ rxICEDK_1 S0 ws S ∧ rxmCEDK_1 S0 ws S < rxmCEDK_0 S0 ws S := by
  obtain ⟨hI, hx⟩ := hinv
  obtain ⟨a_, b_, c_, d_⟩ := rxcCED_0_3 hP hin I0 hI l8 u8 l9 u9 e1 e0
  exact ⟨a_, b_, ⟨c_, trivial⟩, d_⟩
theorem rxdCEDK_0_0 {S0 : Nat → Int → Int} {ws : List Int} {S : Nat → Int → Int} {x8 x9 x10 : Int} (hP : rxPCEDK S0 ws) (hin : bx_same rxL (bx_mdl rxCCEDK.2.2.1) S0 S) (hin2 : bx_same rxL (bx_mdl rxCCEDK.2.2.1) S (bx_up S 412 4 x10)) (I0 : bx_Inv rxL S) (I1 : bx_Inv rxL (bx_up S 412 4 x10)) (hinv : rxICEDK_0 S0 ws S) (l8 : 0 ≤ x8) (u8 : x8 ≤ 0) (l9 : 1 ≤ x9) (u9 : x9 ≤ 2) (l10 : 0 ≤ x10) (u10 : x10 ≤ 400) (f0 : x9 ≠ 4) (f1 : x9 ≠ 3) (f2 : x9 ≠ 0) (e3 : S 412 8 = x8) (e2 : S 424 x8 = x9) (e1 : S 412 2 = x10) : (True) ∧ rxPSCEDK S0 ws (bx_up S 412 4 x10) (some 0) := by
  obtain ⟨hI, hx⟩ := hinv
  obtain ⟨a_, c_⟩ := rxdCED_0_0 hP hin hin2 I0 I1 hI l8 u8 l9 u9 l10 u10 f0 f1 f2 e3 e2 e1
  exact ⟨a_, c_, (fun g => absurd (Option.some.inj g) (by decide))⟩
theorem rxdCEDK_0_1 {S0 : Nat → Int → Int} {ws : List Int} {S : Nat → Int → Int} {x8 x9 : Int} (hP : rxPCEDK S0 ws) (hin : bx_same rxL (bx_mdl rxCCEDK.2.2.1) S0 S) (hin2 : bx_same rxL (bx_mdl rxCCEDK.2.2.1) S (bx_up S 412 4 x9)) (I0 : bx_Inv rxL S) (I1 : bx_Inv rxL (bx_up S 412 4 x9)) (hinv : rxICEDK_0 S0 ws S) (l8 : 1 ≤ x8) (u8 : x8 ≤ 2147483647) (l9 : 0 ≤ x9) (u9 : x9 ≤ 400) (e2 : S 412 8 = x8) (e1 : S 412 2 = x9) : (True) ∧ rxPSCEDK S0 ws (bx_up S 412 4 x9) (some 0) := by
  obtain ⟨hI, hx⟩ := hinv
  obtain ⟨a_, c_⟩ := rxdCED_0_1 hP hin hin2 I0 I1 hI l8 u8 l9 u9 e2 e1
  exact ⟨a_, c_, (fun g => absurd (Option.some.inj g) (by decide))⟩
theorem rxdCEDK_2_0 {S0 : Nat → Int → Int} {ws : List Int} {S : Nat → Int → Int} {x8 : Int} (hP : rxPCEDK S0 ws) (hin : bx_same rxL (bx_mdl rxCCEDK.2.2.1) S0 S) (hin2 : bx_same rxL (bx_mdl rxCCEDK.2.2.1) S (bx_up (bx_up (bx_up S 428 x8 0) 429 x8 0) 427 0 (x8 + 1))) (I0 : bx_Inv rxL S) (I1 : bx_Inv rxL (bx_up (bx_up (bx_up S 428 x8 0) 429 x8 0) 427 0 (x8 + 1))) (hinv : rxICEDK_2 S0 ws S) (l8 : 0 ≤ x8) (u8 : x8 ≤ 399) (e3 : S 427 0 = x8) : (True) ∧ rxPSCEDK S0 ws (bx_up (bx_up (bx_up S 428 x8 0) 429 x8 0) 427 0 (x8 + 1)) (some 1) := by
  obtain ⟨hI, hx⟩ := hinv
  obtain ⟨a_, c_⟩ := rxdCED_2_0 hP hin hin2 I0 I1 hI l8 u8 e3
  exact ⟨a_, c_, (by
    intro g_ b c hC hW hb
    obtain ⟨g1, g2⟩ := hx b c hC hW hb
    have rw_ := rkRed_w (l := 1) (by omega) hW
    have e := g1.2.2.2.1
    have hz : S 427 0 = x8 := e3
    have q := rkDo_of (S_p := (bx_up (bx_up (bx_up S 428 x8 0) 429 x8 0) 427 0 (x8 + 1))) g1 ((bx_up_at).trans (by omega)) (by rw [hz]; exact ((bx_up_ne (by omega)).trans ((bx_up_ne (by omega)))).trans bx_up_at) (fun j hj => (bx_up_ne (by omega)).trans ((bx_up_ne (by omega)).trans ((bx_up_ne (by omega))))) (fun j hj => (bx_up_ne (by omega)).trans ((bx_up_ne (by omega)).trans ((bx_up_ne (by omega)))))
    exact ⟨q.1, g2.tr q.2⟩)⟩
theorem rxdCEDK_2_1 {S0 : Nat → Int → Int} {ws : List Int} {S : Nat → Int → Int} {x8 : Int} (hP : rxPCEDK S0 ws) (hin : bx_same rxL (bx_mdl rxCCEDK.2.2.1) S0 S) (hin2 : bx_same rxL (bx_mdl rxCCEDK.2.2.1) S S) (I0 : bx_Inv rxL S) (I1 : bx_Inv rxL S) (hinv : rxICEDK_2 S0 ws S) (l8 : 400 ≤ x8) (u8 : x8 ≤ 400) (e0 : S 427 0 = x8) : (True) ∧ rxPSCEDK S0 ws S (some 1) := by
  obtain ⟨hI, hx⟩ := hinv
  obtain ⟨a_, c_⟩ := rxdCED_2_1 hP hin hin2 I0 I1 hI l8 u8 e0
  exact ⟨a_, c_, (by
    intro g_ b c hC hW hb
    obtain ⟨g1, g2⟩ := hx b c hC hW hb
    have rw_ := rkRed_w (l := 1) (by omega) hW
    have e := g1.2.2.2.1
    have hz : S 427 0 = x8 := e0
    exfalso
    have e2 := g1.2.2.1
    omega)⟩