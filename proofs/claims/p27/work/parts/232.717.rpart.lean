noncomputable def rxCRPDK : bx_Ct := ([(3, (1, 412, 0))], some (0, (0, 0, 1)), [(6, 0), (7, 2), (7, 3), (7, 4), (7, 7), (1021, 0), (1022, 0), (1034, 0)], 6, [(412, 0, 3, (1, 411, 0)), (412, 6, 3, (1, 427, 0))])
noncomputable def rxIRPDK_0 (S0 : Nat → Int → Int) (ws : List Int) (S : Nat → Int → Int) : Prop := rxIRPD_0 S0 ws S ∧ True
noncomputable def rxmRPDK_0 (S0 : Nat → Int → Int) (ws : List Int) (S : Nat → Int → Int) : Nat := rxmRPD_0 S0 ws S
noncomputable def rxIRPDK_1 (S0 : Nat → Int → Int) (ws : List Int) (S : Nat → Int → Int) : Prop := rxIRPD_1 S0 ws S ∧ True
noncomputable def rxmRPDK_1 (S0 : Nat → Int → Int) (ws : List Int) (S : Nat → Int → Int) : Nat := rxmRPD_1 S0 ws S
noncomputable def rxIRPDK_2 (S0 : Nat → Int → Int) (ws : List Int) (S : Nat → Int → Int) (nm : Int) : Prop := rxIRPD_2 S0 ws S nm ∧ True
noncomputable def rxmRPDK_2 (S0 : Nat → Int → Int) (ws : List Int) (S : Nat → Int → Int) (nm : Int) : Nat := rxmRPD_2 S0 ws S nm
noncomputable def rxIRPDK_3 (S0 : Nat → Int → Int) (ws : List Int) (S : Nat → Int → Int) (nm : Int) : Prop := rxIRPD_3 S0 ws S nm ∧ nm < 0
noncomputable def rxmRPDK_3 (S0 : Nat → Int → Int) (ws : List Int) (S : Nat → Int → Int) (nm : Int) : Nat := rxmRPD_3 S0 ws S nm
noncomputable def rxIRPDK_4 (S0 : Nat → Int → Int) (ws : List Int) (S : Nat → Int → Int) (nm ix : Int) : Prop := rxIRPD_4 S0 ws S nm ix ∧ (nm < 0 ∧ ix = rzIxn (rzCut (S0 411)) (S0 412 1) (S0 412 2) (rzWs S0) 0)
noncomputable def rxmRPDK_4 (S0 : Nat → Int → Int) (ws : List Int) (S : Nat → Int → Int) (nm ix : Int) : Nat := rxmRPD_4 S0 ws S nm ix
noncomputable def rxIRPDK_5 (S0 : Nat → Int → Int) (ws : List Int) (S : Nat → Int → Int) (nm : Int) : Prop := rxIRPD_5 S0 ws S nm ∧ rkTk S0 S false
noncomputable def rxmRPDK_5 (S0 : Nat → Int → Int) (ws : List Int) (S : Nat → Int → Int) (nm : Int) : Nat := rxmRPD_5 S0 ws S nm
noncomputable def rxIRPDK_6 (S0 : Nat → Int → Int) (ws : List Int) (S : Nat → Int → Int) (nm : Int) : Prop := rxIRPD_6 S0 ws S nm ∧ rkTk S0 S false
noncomputable def rxmRPDK_6 (S0 : Nat → Int → Int) (ws : List Int) (S : Nat → Int → Int) (nm : Int) : Nat := rxmRPD_6 S0 ws S nm
noncomputable def rxPRPDK (S0 : Nat → Int → Int) (ws : List Int) : Prop := rxPRPD S0 ws
noncomputable def rxPSRPDK (S0 : Nat → Int → Int) (ws : List Int) (S : Nat → Int → Int) (w : Option Int) : Prop := rxPSRPD S0 ws S w ∧ (w = some 1 → rkTk S0 S false)
theorem rxkRPDK_1 {S0 : Nat → Int → Int} {ws : List Int} {S : Nat → Int → Int} (hP : rxPRPDK S0 ws) (hin : bx_same rxL (bx_mdl rxCRPDK.2.2.1) S0 S) (I0 : bx_Inv rxL S) (hinv : rxIRPDK_1 S0 ws S)  : rxPNUM S [412] ∧ ∀ (S_p : Nat → Int → Int) (nm : Int), (-2147483648) ≤ nm → nm ≤ 1001 → rxPSNUM S [412] S_p (some nm) → bx_Inv rxL S_p → bx_same rxL (bx_mdl rxC74.2.2.1) S S_p → rxIRPDK_2 S0 ws S_p nm ∧ rxmRPDK_2 S0 ws S_p nm < rxmRPDK_1 S0 ws S := by
  obtain ⟨hI, hx⟩ := hinv
  have g_ := rxkRPD_1 hP hin I0 hI
  exact ⟨g_.1, fun S_p nm l_ u_ hq I1 hsm => ⟨⟨(g_.2 S_p nm l_ u_ hq I1 hsm).1, trivial⟩, (g_.2 S_p nm l_ u_ hq I1 hsm).2⟩⟩
theorem rxkRPDK_3 {S0 : Nat → Int → Int} {ws : List Int} {S : Nat → Int → Int} {nm : Int} (hP : rxPRPDK S0 ws) (hin : bx_same rxL (bx_mdl rxCRPDK.2.2.1) S0 S) (I0 : bx_Inv rxL S) (hinv : rxIRPDK_3 S0 ws S nm) (l8 : (-2147483648) ≤ nm) (u8 : nm ≤ 1000) : rxPNMH S [412] ∧ ∀ (S_p : Nat → Int → Int) (ix : Int), (-1) ≤ ix → ix ≤ 7 → rxPSNMH S [412] S_p (some ix) → bx_Inv rxL S_p → bx_same rxL (bx_mdl rxC73.2.2.1) S S_p → rxIRPDK_4 S0 ws S_p nm ix ∧ rxmRPDK_4 S0 ws S_p nm ix < rxmRPDK_3 S0 ws S nm := by
  obtain ⟨hI, hx⟩ := hinv
  have g_ := rxkRPD_3 hP hin I0 hI l8 u8
  exact ⟨g_.1, fun S_p ix l_ u_ hq I1 hsm => ⟨⟨(g_.2 S_p ix l_ u_ hq I1 hsm).1, (by
    refine ⟨hx, ?_⟩
    obtain ⟨e, -⟩ := hI
    have hk : rzKp S0 S := by
      rw [e]
      exact ⟨congrArg rzCut (funext fun _ => (bx_up_ne (by omega))), ((bx_up_ne (by omega))), ((bx_up_ne (by omega))), ((bx_up_ne (by omega)))⟩
    have q := Option.some.inj hq.2
    rw [q, hk.1, hk.2.1, hk.ws, show S 412 2 = S0 412 2 by rw [e]; exact bx_up_ne (by omega)])⟩, (g_.2 S_p ix l_ u_ hq I1 hsm).2⟩⟩
theorem rxkRPDK_5 {S0 : Nat → Int → Int} {ws : List Int} {S : Nat → Int → Int} {nm : Int} (hP : rxPRPDK S0 ws) (hin : bx_same rxL (bx_mdl rxCRPDK.2.2.1) S0 S) (I0 : bx_Inv rxL S) (hinv : rxIRPDK_5 S0 ws S nm) (l8 : (-2147483648) ≤ nm) (u8 : nm ≤ 1000) : rxPAD S [412] ∧ ∀ (S_p : Nat → Int → Int), rxPSAD S [412] S_p none → bx_Inv rxL S_p → bx_same rxL (bx_mdl rxC84.2.2.1) S S_p → rxIRPDK_6 S0 ws S_p nm ∧ rxmRPDK_6 S0 ws S_p nm < rxmRPDK_5 S0 ws S nm := by
  obtain ⟨hI, hx⟩ := hinv
  have g_ := rxkRPD_5 hP hin I0 hI l8 u8
  exact ⟨g_.1, fun S_p hq I1 hsm => ⟨⟨(g_.2 S_p hq I1 hsm).1, (by
    intro b c hC hW hb
    obtain ⟨g1, g2⟩ := hx b c hC hW hb
    have q_ := rkD_of g1 I0 hsm (by decide +kernel)
    exact ⟨q_.1, g2.tr q_.2⟩)⟩, (g_.2 S_p hq I1 hsm).2⟩⟩
theorem rxcRPDK_0_0 {S0 : Nat → Int → Int} {ws : List Int} {S : Nat → Int → Int} (hP : rxPRPDK S0 ws) (hin : bx_same rxL (bx_mdl rxCRPDK.2.2.1) S0 S) (I0 : bx_Inv rxL S) (hinv : rxIRPDK_0 S0 ws S)  : (True) ∧ (True) ∧ rxIRPDK_1 S0 ws S ∧ rxmRPDK_1 S0 ws S < rxmRPDK_0 S0 ws S := by
  obtain ⟨hI, hx⟩ := hinv
  obtain ⟨a_, b_, c_, d_⟩ := rxcRPD_0_0 hP hin I0 hI
  exact ⟨a_, b_, ⟨c_, trivial⟩, d_⟩
theorem rxcRPDK_2_0 {S0 : Nat → Int → Int} {ws : List Int} {S : Nat → Int → Int} {nm x9 x10 x11 x12 : Int} (hP : rxPRPDK S0 ws) (hin : bx_same rxL (bx_mdl rxCRPDK.2.2.1) S0 S) (I0 : bx_Inv rxL S) (hinv : rxIRPDK_2 S0 ws S nm) (l8 : 0 ≤ nm) (u8 : nm ≤ 1000) (l9 : 0 ≤ x9) (u9 : x9 ≤ 49) (l10 : 0 ≤ x10) (u10 : x10 ≤ 399) (l11 : 0 ≤ x11) (u11 : x11 ≤ 8) (l12 : 0 ≤ x12) (u12 : x12 ≤ 4) (f0 : x12 ≠ 1) (e7 : S 412 7 = x9) (e5 : (bx_up S 412 7 (x9 + 1)) 427 0 = x10) (e1 : (bx_up (bx_up (bx_up (bx_up S 412 7 (x9 + 1)) 428 x10 1) 429 x10 nm) 427 0 (x10 + 1)) 412 8 = x11) (e0 : (bx_up (bx_up (bx_up (bx_up S 412 7 (x9 + 1)) 428 x10 1) 429 x10 nm) 427 0 (x10 + 1)) 424 x11 = x12) : (True) ∧ (True) ∧ rxIRPDK_5 S0 ws (bx_up (bx_up (bx_up (bx_up S 412 7 (x9 + 1)) 428 x10 1) 429 x10 nm) 427 0 (x10 + 1)) nm ∧ rxmRPDK_5 S0 ws (bx_up (bx_up (bx_up (bx_up S 412 7 (x9 + 1)) 428 x10 1) 429 x10 nm) 427 0 (x10 + 1)) nm < rxmRPDK_2 S0 ws S nm := by
  obtain ⟨hI, hx⟩ := hinv
  obtain ⟨a_, b_, c_, d_⟩ := rxcRPD_2_0 hP hin I0 hI l8 u8 l9 u9 l10 u10 l11 u11 l12 u12 f0 e7 e5 e1 e0
  exact ⟨a_, b_, ⟨c_, (by
    obtain ⟨rfl, hn⟩ := hI
    have b0 := hP.2.1
    intro b c hC hW hb
    have hz : S 427 0 = x10 := (((bx_up_ne (by omega))).symm.trans e5)
    have hs := hC.2.2.2.1
    have hg := rzNo_dg (show 0 ≤ rzNo (rzCut (S 411)) (S 412 1) (S 412 2) by omega)
    rw [rzLv_eq b0, rkSt_num hg, ← hn]
    exact rkD_emit (op := 0) (a := nm) hC ((bx_up_ne (by omega)).trans ((bx_up_ne (by omega)).trans ((bx_up_ne (by omega)).trans ((bx_up_ne (by omega)))))) ((bx_up_at).trans (by omega)) (fun j => ⟨(bx_up_ne (by omega)).trans ((bx_up_ne (by omega)).trans ((bx_up_ne (by omega)).trans ((bx_up_ne (by omega))))), (bx_up_ne (by omega)).trans ((bx_up_ne (by omega)).trans ((bx_up_ne (by omega)).trans ((bx_up_ne (by omega)))))⟩) (fun j hj => (bx_up_ne (by omega)).trans ((bx_up_ne (by omega)).trans ((bx_up_ne (by omega)).trans ((bx_up_ne (by omega)))))) (fun j hj => (bx_up_ne (by omega)).trans ((bx_up_ne (by omega)).trans ((bx_up_ne (by omega)).trans ((bx_up_ne (by omega)))))) (by rw [hz]; exact (((bx_up_ne (by omega)).trans ((bx_up_ne (by omega)))).trans bx_up_at).trans (rfl)) (by rw [hz]; exact (((bx_up_ne (by omega))).trans bx_up_at).trans (rfl)))⟩, d_⟩
theorem rxcRPDK_2_1 {S0 : Nat → Int → Int} {ws : List Int} {S : Nat → Int → Int} {nm x9 x10 x11 x12 : Int} (hP : rxPRPDK S0 ws) (hin : bx_same rxL (bx_mdl rxCRPDK.2.2.1) S0 S) (I0 : bx_Inv rxL S) (hinv : rxIRPDK_2 S0 ws S nm) (l8 : 0 ≤ nm) (u8 : nm ≤ 1000) (l9 : 0 ≤ x9) (u9 : x9 ≤ 49) (l10 : 0 ≤ x10) (u10 : x10 ≤ 399) (l11 : 0 ≤ x11) (u11 : x11 ≤ 8) (l12 : 1 ≤ x12) (u12 : x12 ≤ 1) (e8 : S 412 7 = x9) (e6 : (bx_up S 412 7 (x9 + 1)) 427 0 = x10) (e2 : (bx_up (bx_up (bx_up (bx_up S 412 7 (x9 + 1)) 428 x10 1) 429 x10 nm) 427 0 (x10 + 1)) 412 8 = x11) (e1 : (bx_up (bx_up (bx_up (bx_up S 412 7 (x9 + 1)) 428 x10 1) 429 x10 nm) 427 0 (x10 + 1)) 424 x11 = x12) : (True) ∧ (True) ∧ rxIRPDK_5 S0 ws (bx_up (bx_up (bx_up (bx_up (bx_up S 412 7 (x9 + 1)) 428 x10 1) 429 x10 nm) 427 0 (x10 + 1)) 424 x11 2) nm ∧ rxmRPDK_5 S0 ws (bx_up (bx_up (bx_up (bx_up (bx_up S 412 7 (x9 + 1)) 428 x10 1) 429 x10 nm) 427 0 (x10 + 1)) 424 x11 2) nm < rxmRPDK_2 S0 ws S nm := by
  obtain ⟨hI, hx⟩ := hinv
  obtain ⟨a_, b_, c_, d_⟩ := rxcRPD_2_1 hP hin I0 hI l8 u8 l9 u9 l10 u10 l11 u11 l12 u12 e8 e6 e2 e1
  exact ⟨a_, b_, ⟨c_, (by
    obtain ⟨rfl, hn⟩ := hI
    have b0 := hP.2.1
    intro b c hC hW hb
    have hz : S 427 0 = x10 := (((bx_up_ne (by omega))).symm.trans e6)
    have hs := hC.2.2.2.1
    have hg := rzNo_dg (show 0 ≤ rzNo (rzCut (S 411)) (S 412 1) (S 412 2) by omega)
    rw [rzLv_eq b0, rkSt_num hg, ← hn]
    exact rkD_emit (op := 0) (a := nm) hC ((bx_up_ne (by omega)).trans ((bx_up_ne (by omega)).trans ((bx_up_ne (by omega)).trans ((bx_up_ne (by omega)).trans ((bx_up_ne (by omega))))))) (((bx_up_ne (by omega)).trans (bx_up_at)).trans (by omega)) (fun j => ⟨(bx_up_ne (by omega)).trans ((bx_up_ne (by omega)).trans ((bx_up_ne (by omega)).trans ((bx_up_ne (by omega)).trans ((bx_up_ne (by omega)))))), (bx_up_ne (by omega)).trans ((bx_up_ne (by omega)).trans ((bx_up_ne (by omega)).trans ((bx_up_ne (by omega)).trans ((bx_up_ne (by omega))))))⟩) (fun j hj => (bx_up_ne (by omega)).trans ((bx_up_ne (by omega)).trans ((bx_up_ne (by omega)).trans ((bx_up_ne (by omega)).trans ((bx_up_ne (by omega))))))) (fun j hj => (bx_up_ne (by omega)).trans ((bx_up_ne (by omega)).trans ((bx_up_ne (by omega)).trans ((bx_up_ne (by omega)).trans ((bx_up_ne (by omega))))))) (by rw [hz]; exact (((bx_up_ne (by omega)).trans ((bx_up_ne (by omega)).trans ((bx_up_ne (by omega))))).trans bx_up_at).trans (rfl)) (by rw [hz]; exact (((bx_up_ne (by omega)).trans ((bx_up_ne (by omega)))).trans bx_up_at).trans (rfl)))⟩, d_⟩
theorem rxcRPDK_2_2 {S0 : Nat → Int → Int} {ws : List Int} {S : Nat → Int → Int} {nm x9 x10 x11 : Int} (hP : rxPRPDK S0 ws) (hin : bx_same rxL (bx_mdl rxCRPDK.2.2.1) S0 S) (I0 : bx_Inv rxL S) (hinv : rxIRPDK_2 S0 ws S nm) (l8 : 0 ≤ nm) (u8 : nm ≤ 1000) (l9 : 0 ≤ x9) (u9 : x9 ≤ 49) (l10 : 0 ≤ x10) (u10 : x10 ≤ 399) (l11 : 9 ≤ x11) (u11 : x11 ≤ 2147483647) (e6 : S 412 7 = x9) (e4 : (bx_up S 412 7 (x9 + 1)) 427 0 = x10) (e0 : (bx_up (bx_up (bx_up (bx_up S 412 7 (x9 + 1)) 428 x10 1) 429 x10 nm) 427 0 (x10 + 1)) 412 8 = x11) : (True) ∧ (True) ∧ rxIRPDK_5 S0 ws (bx_up (bx_up (bx_up (bx_up S 412 7 (x9 + 1)) 428 x10 1) 429 x10 nm) 427 0 (x10 + 1)) nm ∧ rxmRPDK_5 S0 ws (bx_up (bx_up (bx_up (bx_up S 412 7 (x9 + 1)) 428 x10 1) 429 x10 nm) 427 0 (x10 + 1)) nm < rxmRPDK_2 S0 ws S nm := by
  obtain ⟨hI, hx⟩ := hinv
  obtain ⟨a_, b_, c_, d_⟩ := rxcRPD_2_2 hP hin I0 hI l8 u8 l9 u9 l10 u10 l11 u11 e6 e4 e0
  exact ⟨a_, b_, ⟨c_, (by
    obtain ⟨rfl, hn⟩ := hI
    have b0 := hP.2.1
    intro b c hC hW hb
    have hz : S 427 0 = x10 := (((bx_up_ne (by omega))).symm.trans e4)
    have hs := hC.2.2.2.1
    have hg := rzNo_dg (show 0 ≤ rzNo (rzCut (S 411)) (S 412 1) (S 412 2) by omega)
    rw [rzLv_eq b0, rkSt_num hg, ← hn]
    exact rkD_emit (op := 0) (a := nm) hC ((bx_up_ne (by omega)).trans ((bx_up_ne (by omega)).trans ((bx_up_ne (by omega)).trans ((bx_up_ne (by omega)))))) ((bx_up_at).trans (by omega)) (fun j => ⟨(bx_up_ne (by omega)).trans ((bx_up_ne (by omega)).trans ((bx_up_ne (by omega)).trans ((bx_up_ne (by omega))))), (bx_up_ne (by omega)).trans ((bx_up_ne (by omega)).trans ((bx_up_ne (by omega)).trans ((bx_up_ne (by omega)))))⟩) (fun j hj => (bx_up_ne (by omega)).trans ((bx_up_ne (by omega)).trans ((bx_up_ne (by omega)).trans ((bx_up_ne (by omega)))))) (fun j hj => (bx_up_ne (by omega)).trans ((bx_up_ne (by omega)).trans ((bx_up_ne (by omega)).trans ((bx_up_ne (by omega)))))) (by rw [hz]; exact (((bx_up_ne (by omega)).trans ((bx_up_ne (by omega)))).trans bx_up_at).trans (rfl)) (by rw [hz]; exact (((bx_up_ne (by omega))).trans bx_up_at).trans (rfl)))⟩, d_⟩
theorem rxcRPDK_2_3 {S0 : Nat → Int → Int} {ws : List Int} {S : Nat → Int → Int} {nm x9 x10 x11 : Int} (hP : rxPRPDK S0 ws) (hin : bx_same rxL (bx_mdl rxCRPDK.2.2.1) S0 S) (I0 : bx_Inv rxL S) (hinv : rxIRPDK_2 S0 ws S nm) (l8 : 0 ≤ nm) (u8 : nm ≤ 1000) (l9 : 0 ≤ x9) (u9 : x9 ≤ 49) (l10 : 0 ≤ x10) (u10 : x10 ≤ 399) (l11 : (-2147483648) ≤ x11) (u11 : x11 ≤ (-1)) (e6 : S 412 7 = x9) (e4 : (bx_up S 412 7 (x9 + 1)) 427 0 = x10) (e0 : (bx_up (bx_up (bx_up (bx_up S 412 7 (x9 + 1)) 428 x10 1) 429 x10 nm) 427 0 (x10 + 1)) 412 8 = x11) : (True) ∧ (True) ∧ rxIRPDK_5 S0 ws (bx_up (bx_up (bx_up (bx_up S 412 7 (x9 + 1)) 428 x10 1) 429 x10 nm) 427 0 (x10 + 1)) nm ∧ rxmRPDK_5 S0 ws (bx_up (bx_up (bx_up (bx_up S 412 7 (x9 + 1)) 428 x10 1) 429 x10 nm) 427 0 (x10 + 1)) nm < rxmRPDK_2 S0 ws S nm := by
  obtain ⟨hI, hx⟩ := hinv
  obtain ⟨a_, b_, c_, d_⟩ := rxcRPD_2_3 hP hin I0 hI l8 u8 l9 u9 l10 u10 l11 u11 e6 e4 e0
  exact ⟨a_, b_, ⟨c_, (by
    obtain ⟨rfl, hn⟩ := hI
    have b0 := hP.2.1
    intro b c hC hW hb
    have hz : S 427 0 = x10 := (((bx_up_ne (by omega))).symm.trans e4)
    have hs := hC.2.2.2.1
    have hg := rzNo_dg (show 0 ≤ rzNo (rzCut (S 411)) (S 412 1) (S 412 2) by omega)
    rw [rzLv_eq b0, rkSt_num hg, ← hn]
    exact rkD_emit (op := 0) (a := nm) hC ((bx_up_ne (by omega)).trans ((bx_up_ne (by omega)).trans ((bx_up_ne (by omega)).trans ((bx_up_ne (by omega)))))) ((bx_up_at).trans (by omega)) (fun j => ⟨(bx_up_ne (by omega)).trans ((bx_up_ne (by omega)).trans ((bx_up_ne (by omega)).trans ((bx_up_ne (by omega))))), (bx_up_ne (by omega)).trans ((bx_up_ne (by omega)).trans ((bx_up_ne (by omega)).trans ((bx_up_ne (by omega)))))⟩) (fun j hj => (bx_up_ne (by omega)).trans ((bx_up_ne (by omega)).trans ((bx_up_ne (by omega)).trans ((bx_up_ne (by omega)))))) (fun j hj => (bx_up_ne (by omega)).trans ((bx_up_ne (by omega)).trans ((bx_up_ne (by omega)).trans ((bx_up_ne (by omega)))))) (by rw [hz]; exact (((bx_up_ne (by omega)).trans ((bx_up_ne (by omega)))).trans bx_up_at).trans (rfl)) (by rw [hz]; exact (((bx_up_ne (by omega))).trans bx_up_at).trans (rfl)))⟩, d_⟩
theorem rxcRPDK_2_4 {S0 : Nat → Int → Int} {ws : List Int} {S : Nat → Int → Int} {nm x9 x10 x11 x12 : Int} (hP : rxPRPDK S0 ws) (hin : bx_same rxL (bx_mdl rxCRPDK.2.2.1) S0 S) (I0 : bx_Inv rxL S) (hinv : rxIRPDK_2 S0 ws S nm) (l8 : 0 ≤ nm) (u8 : nm ≤ 1000) (l9 : 0 ≤ x9) (u9 : x9 ≤ 49) (l10 : 400 ≤ x10) (u10 : x10 ≤ 400) (l11 : 0 ≤ x11) (u11 : x11 ≤ 8) (l12 : 0 ≤ x12) (u12 : x12 ≤ 4) (f0 : x12 ≠ 1) (e4 : S 412 7 = x9) (e2 : (bx_up S 412 7 (x9 + 1)) 427 0 = x10) (e1 : (bx_up S 412 7 (x9 + 1)) 412 8 = x11) (e0 : (bx_up S 412 7 (x9 + 1)) 424 x11 = x12) : (True) ∧ (True) ∧ rxIRPDK_5 S0 ws (bx_up S 412 7 (x9 + 1)) nm ∧ rxmRPDK_5 S0 ws (bx_up S 412 7 (x9 + 1)) nm < rxmRPDK_2 S0 ws S nm := by
  obtain ⟨hI, hx⟩ := hinv
  obtain ⟨a_, b_, c_, d_⟩ := rxcRPD_2_4 hP hin I0 hI l8 u8 l9 u9 l10 u10 l11 u11 l12 u12 f0 e4 e2 e1 e0
  exact ⟨a_, b_, ⟨c_, (by
    obtain ⟨rfl, hn⟩ := hI
    have b0 := hP.2.1
    intro b c hC hW hb
    have hz : S 427 0 = x10 := (((bx_up_ne (by omega))).symm.trans e2)
    have hs := hC.2.2.2.1
    exfalso
    omega)⟩, d_⟩
theorem rxcRPDK_2_5 {S0 : Nat → Int → Int} {ws : List Int} {S : Nat → Int → Int} {nm x9 x10 x11 x12 : Int} (hP : rxPRPDK S0 ws) (hin : bx_same rxL (bx_mdl rxCRPDK.2.2.1) S0 S) (I0 : bx_Inv rxL S) (hinv : rxIRPDK_2 S0 ws S nm) (l8 : 0 ≤ nm) (u8 : nm ≤ 1000) (l9 : 0 ≤ x9) (u9 : x9 ≤ 49) (l10 : 400 ≤ x10) (u10 : x10 ≤ 400) (l11 : 0 ≤ x11) (u11 : x11 ≤ 8) (l12 : 1 ≤ x12) (u12 : x12 ≤ 1) (e5 : S 412 7 = x9) (e3 : (bx_up S 412 7 (x9 + 1)) 427 0 = x10) (e2 : (bx_up S 412 7 (x9 + 1)) 412 8 = x11) (e1 : (bx_up S 412 7 (x9 + 1)) 424 x11 = x12) : (True) ∧ (True) ∧ rxIRPDK_5 S0 ws (bx_up (bx_up S 412 7 (x9 + 1)) 424 x11 2) nm ∧ rxmRPDK_5 S0 ws (bx_up (bx_up S 412 7 (x9 + 1)) 424 x11 2) nm < rxmRPDK_2 S0 ws S nm := by
  obtain ⟨hI, hx⟩ := hinv
  obtain ⟨a_, b_, c_, d_⟩ := rxcRPD_2_5 hP hin I0 hI l8 u8 l9 u9 l10 u10 l11 u11 l12 u12 e5 e3 e2 e1
  exact ⟨a_, b_, ⟨c_, (by
    obtain ⟨rfl, hn⟩ := hI
    have b0 := hP.2.1
    intro b c hC hW hb
    have hz : S 427 0 = x10 := (((bx_up_ne (by omega))).symm.trans e3)
    have hs := hC.2.2.2.1
    exfalso
    omega)⟩, d_⟩
theorem rxcRPDK_2_6 {S0 : Nat → Int → Int} {ws : List Int} {S : Nat → Int → Int} {nm x9 x10 x11 : Int} (hP : rxPRPDK S0 ws) (hin : bx_same rxL (bx_mdl rxCRPDK.2.2.1) S0 S) (I0 : bx_Inv rxL S) (hinv : rxIRPDK_2 S0 ws S nm) (l8 : 0 ≤ nm) (u8 : nm ≤ 1000) (l9 : 0 ≤ x9) (u9 : x9 ≤ 49) (l10 : 400 ≤ x10) (u10 : x10 ≤ 400) (l11 : 9 ≤ x11) (u11 : x11 ≤ 2147483647) (e3 : S 412 7 = x9) (e1 : (bx_up S 412 7 (x9 + 1)) 427 0 = x10) (e0 : (bx_up S 412 7 (x9 + 1)) 412 8 = x11) : (True) ∧ (True) ∧ rxIRPDK_5 S0 ws (bx_up S 412 7 (x9 + 1)) nm ∧ rxmRPDK_5 S0 ws (bx_up S 412 7 (x9 + 1)) nm < rxmRPDK_2 S0 ws S nm := by
  obtain ⟨hI, hx⟩ := hinv
  obtain ⟨a_, b_, c_, d_⟩ := rxcRPD_2_6 hP hin I0 hI l8 u8 l9 u9 l10 u10 l11 u11 e3 e1 e0
  exact ⟨a_, b_, ⟨c_, (by
    obtain ⟨rfl, hn⟩ := hI
    have b0 := hP.2.1
    intro b c hC hW hb
    have hz : S 427 0 = x10 := (((bx_up_ne (by omega))).symm.trans e1)
    have hs := hC.2.2.2.1
    exfalso
    omega)⟩, d_⟩
theorem rxcRPDK_2_7 {S0 : Nat → Int → Int} {ws : List Int} {S : Nat → Int → Int} {nm x9 x10 x11 : Int} (hP : rxPRPDK S0 ws) (hin : bx_same rxL (bx_mdl rxCRPDK.2.2.1) S0 S) (I0 : bx_Inv rxL S) (hinv : rxIRPDK_2 S0 ws S nm) (l8 : 0 ≤ nm) (u8 : nm ≤ 1000) (l9 : 0 ≤ x9) (u9 : x9 ≤ 49) (l10 : 400 ≤ x10) (u10 : x10 ≤ 400) (l11 : (-2147483648) ≤ x11) (u11 : x11 ≤ (-1)) (e3 : S 412 7 = x9) (e1 : (bx_up S 412 7 (x9 + 1)) 427 0 = x10) (e0 : (bx_up S 412 7 (x9 + 1)) 412 8 = x11) : (True) ∧ (True) ∧ rxIRPDK_5 S0 ws (bx_up S 412 7 (x9 + 1)) nm ∧ rxmRPDK_5 S0 ws (bx_up S 412 7 (x9 + 1)) nm < rxmRPDK_2 S0 ws S nm := by
  obtain ⟨hI, hx⟩ := hinv
  obtain ⟨a_, b_, c_, d_⟩ := rxcRPD_2_7 hP hin I0 hI l8 u8 l9 u9 l10 u10 l11 u11 e3 e1 e0
  exact ⟨a_, b_, ⟨c_, (by
    obtain ⟨rfl, hn⟩ := hI
    have b0 := hP.2.1
    intro b c hC hW hb
    have hz : S 427 0 = x10 := (((bx_up_ne (by omega))).symm.trans e1)
    have hs := hC.2.2.2.1
    exfalso
    omega)⟩, d_⟩
theorem rxcRPDK_2_8 {S0 : Nat → Int → Int} {ws : List Int} {S : Nat → Int → Int} {nm x9 : Int} (hP : rxPRPDK S0 ws) (hin : bx_same rxL (bx_mdl rxCRPDK.2.2.1) S0 S) (I0 : bx_Inv rxL S) (hinv : rxIRPDK_2 S0 ws S nm) (l8 : (-2147483648) ≤ nm) (u8 : nm ≤ (-1)) (l9 : 0 ≤ x9) (u9 : x9 ≤ 49) (e1 : S 412 7 = x9) : (True) ∧ (True) ∧ rxIRPDK_3 S0 ws (bx_up S 412 7 (x9 + 1)) nm ∧ rxmRPDK_3 S0 ws (bx_up S 412 7 (x9 + 1)) nm < rxmRPDK_2 S0 ws S nm := by
  obtain ⟨hI, hx⟩ := hinv
  obtain ⟨a_, b_, c_, d_⟩ := rxcRPD_2_8 hP hin I0 hI l8 u8 l9 u9 e1
  exact ⟨a_, b_, ⟨c_, by omega⟩, d_⟩
theorem rxdRPDK_2_0 {S0 : Nat → Int → Int} {ws : List Int} {S : Nat → Int → Int} {nm x9 x10 : Int} (hP : rxPRPDK S0 ws) (hin : bx_same rxL (bx_mdl rxCRPDK.2.2.1) S0 S) (hin2 : bx_same rxL (bx_mdl rxCRPDK.2.2.1) S (bx_up S 412 4 x10)) (I0 : bx_Inv rxL S) (I1 : bx_Inv rxL (bx_up S 412 4 x10)) (hinv : rxIRPDK_2 S0 ws S nm) (l8 : (-2147483648) ≤ nm) (u8 : nm ≤ 1000) (l9 : 50 ≤ x9) (u9 : x9 ≤ 50) (l10 : 0 ≤ x10) (u10 : x10 ≤ 400) (e2 : S 412 7 = x9) (e1 : S 412 2 = x10) : (True) ∧ rxPSRPDK S0 ws (bx_up S 412 4 x10) (some 0) := by
  obtain ⟨hI, hx⟩ := hinv
  obtain ⟨a_, c_⟩ := rxdRPD_2_0 hP hin hin2 I0 I1 hI l8 u8 l9 u9 l10 u10 e2 e1
  exact ⟨a_, c_, (fun g => absurd (Option.some.inj g) (by decide))⟩
theorem rxdRPDK_2_1 {S0 : Nat → Int → Int} {ws : List Int} {S : Nat → Int → Int} {nm x9 : Int} (hP : rxPRPDK S0 ws) (hin : bx_same rxL (bx_mdl rxCRPDK.2.2.1) S0 S) (hin2 : bx_same rxL (bx_mdl rxCRPDK.2.2.1) S (bx_up S 412 4 x9)) (I0 : bx_Inv rxL S) (I1 : bx_Inv rxL (bx_up S 412 4 x9)) (hinv : rxIRPDK_2 S0 ws S nm) (l8 : 1001 ≤ nm) (u8 : nm ≤ 1001) (l9 : 0 ≤ x9) (u9 : x9 ≤ 400) (e1 : S 412 2 = x9) : (True) ∧ rxPSRPDK S0 ws (bx_up S 412 4 x9) (some 0) := by
  obtain ⟨hI, hx⟩ := hinv
  obtain ⟨a_, c_⟩ := rxdRPD_2_1 hP hin hin2 I0 I1 hI l8 u8 l9 u9 e1
  exact ⟨a_, c_, (fun g => absurd (Option.some.inj g) (by decide))⟩
theorem rxcRPDK_4_0 {S0 : Nat → Int → Int} {ws : List Int} {S : Nat → Int → Int} {nm ix x10 x11 x12 : Int} (hP : rxPRPDK S0 ws) (hin : bx_same rxL (bx_mdl rxCRPDK.2.2.1) S0 S) (I0 : bx_Inv rxL S) (hinv : rxIRPDK_4 S0 ws S nm ix) (l8 : (-2147483648) ≤ nm) (u8 : nm ≤ 1000) (l9 : (-1) ≤ ix) (u9 : ix ≤ 7) (l10 : 0 ≤ x10) (u10 : x10 ≤ 399) (l11 : 0 ≤ x11) (u11 : x11 ≤ 8) (l12 : 0 ≤ x12) (u12 : x12 ≤ 4) (f0 : x12 ≠ 1) (e5 : S 427 0 = x10) (e1 : (bx_up (bx_up (bx_up S 428 x10 2) 429 x10 ix) 427 0 (x10 + 1)) 412 8 = x11) (e0 : (bx_up (bx_up (bx_up S 428 x10 2) 429 x10 ix) 427 0 (x10 + 1)) 424 x11 = x12) : (True) ∧ (True) ∧ rxIRPDK_5 S0 ws (bx_up (bx_up (bx_up S 428 x10 2) 429 x10 ix) 427 0 (x10 + 1)) nm ∧ rxmRPDK_5 S0 ws (bx_up (bx_up (bx_up S 428 x10 2) 429 x10 ix) 427 0 (x10 + 1)) nm < rxmRPDK_4 S0 ws S nm ix := by
  obtain ⟨hI, hx⟩ := hinv
  obtain ⟨a_, b_, c_, d_⟩ := rxcRPD_4_0 hP hin I0 hI l8 u8 l9 u9 l10 u10 l11 u11 l12 u12 f0 e5 e1 e0
  exact ⟨a_, b_, ⟨c_, (by
    obtain ⟨e, hn, hn1, hn2⟩ := hI
    have b0 := hP.2.1
    intro b c hC hW hb
    obtain ⟨hC, fr⟩ := rkD_ne (S_p := S) hC (by rw [e]; exact (bx_up_ne (by omega))) (by rw [e]; exact (bx_up_ne (by omega))) (fun j => by rw [e]; exact ⟨(bx_up_ne (by omega)), (bx_up_ne (by omega))⟩) (fun j => by rw [e]; exact ⟨(bx_up_ne (by omega)), (bx_up_ne (by omega))⟩)
    have hz : S 427 0 = x10 := e5
    have hs := hC.2.2.2.1
    obtain ⟨hx0, hx⟩ := hx
    have hg := rzNo_nd (show rzNo (rzCut (S0 411)) (S0 412 1) (S0 412 2) < 0 by omega)
    have hi : 0 ≤ rzIxn (rzCut (S0 411)) (S0 412 1) (S0 412 2) (rzWs S0) 0 := hP.2.2.2.resolve_left hg
    have h8 := rzIxn_le (T := rzCut (S0 411)) (n := S0 412 1) (f := S0 412 2) (l := rzWs S0) (k := 0) (Int.le_refl 0)
    have hl := rzWs_len (S := S0)
    rw [rzLv_eq b0, rkSt_nam hg hi, ← hx]
    have q_ := rkD_emit (S_p := (bx_up (bx_up (bx_up S 428 x10 2) 429 x10 ix) 427 0 (x10 + 1))) (op := (ix + 1)) (a := 0) hC ((bx_up_ne (by omega)).trans ((bx_up_ne (by omega)).trans ((bx_up_ne (by omega))))) ((bx_up_at).trans (by omega)) (fun j => ⟨(bx_up_ne (by omega)).trans ((bx_up_ne (by omega)).trans ((bx_up_ne (by omega)))), (bx_up_ne (by omega)).trans ((bx_up_ne (by omega)).trans ((bx_up_ne (by omega))))⟩) (fun j hj => (bx_up_ne (by omega)).trans ((bx_up_ne (by omega)).trans ((bx_up_ne (by omega))))) (fun j hj => (bx_up_ne (by omega)).trans ((bx_up_ne (by omega)).trans ((bx_up_ne (by omega))))) (by rw [hz]; exact (((bx_up_ne (by omega)).trans ((bx_up_ne (by omega)))).trans bx_up_at).trans ((rkEn_nm (by omega) (by omega)).symm)) (by rw [hz]; exact (((bx_up_ne (by omega))).trans bx_up_at).trans (((rkEi_nm (by omega) (by omega)).trans (by omega)).symm))
    exact ⟨q_.1, fr.tr q_.2⟩)⟩, d_⟩
theorem rxcRPDK_4_1 {S0 : Nat → Int → Int} {ws : List Int} {S : Nat → Int → Int} {nm ix x10 x11 x12 : Int} (hP : rxPRPDK S0 ws) (hin : bx_same rxL (bx_mdl rxCRPDK.2.2.1) S0 S) (I0 : bx_Inv rxL S) (hinv : rxIRPDK_4 S0 ws S nm ix) (l8 : (-2147483648) ≤ nm) (u8 : nm ≤ 1000) (l9 : (-1) ≤ ix) (u9 : ix ≤ 7) (l10 : 0 ≤ x10) (u10 : x10 ≤ 399) (l11 : 0 ≤ x11) (u11 : x11 ≤ 8) (l12 : 1 ≤ x12) (u12 : x12 ≤ 1) (e6 : S 427 0 = x10) (e2 : (bx_up (bx_up (bx_up S 428 x10 2) 429 x10 ix) 427 0 (x10 + 1)) 412 8 = x11) (e1 : (bx_up (bx_up (bx_up S 428 x10 2) 429 x10 ix) 427 0 (x10 + 1)) 424 x11 = x12) : (True) ∧ (True) ∧ rxIRPDK_5 S0 ws (bx_up (bx_up (bx_up (bx_up S 428 x10 2) 429 x10 ix) 427 0 (x10 + 1)) 424 x11 2) nm ∧ rxmRPDK_5 S0 ws (bx_up (bx_up (bx_up (bx_up S 428 x10 2) 429 x10 ix) 427 0 (x10 + 1)) 424 x11 2) nm < rxmRPDK_4 S0 ws S nm ix := by
  obtain ⟨hI, hx⟩ := hinv
  obtain ⟨a_, b_, c_, d_⟩ := rxcRPD_4_1 hP hin I0 hI l8 u8 l9 u9 l10 u10 l11 u11 l12 u12 e6 e2 e1
  exact ⟨a_, b_, ⟨c_, (by
    obtain ⟨e, hn, hn1, hn2⟩ := hI
    have b0 := hP.2.1
    intro b c hC hW hb
    obtain ⟨hC, fr⟩ := rkD_ne (S_p := S) hC (by rw [e]; exact (bx_up_ne (by omega))) (by rw [e]; exact (bx_up_ne (by omega))) (fun j => by rw [e]; exact ⟨(bx_up_ne (by omega)), (bx_up_ne (by omega))⟩) (fun j => by rw [e]; exact ⟨(bx_up_ne (by omega)), (bx_up_ne (by omega))⟩)
    have hz : S 427 0 = x10 := e6
    have hs := hC.2.2.2.1
    obtain ⟨hx0, hx⟩ := hx
    have hg := rzNo_nd (show rzNo (rzCut (S0 411)) (S0 412 1) (S0 412 2) < 0 by omega)
    have hi : 0 ≤ rzIxn (rzCut (S0 411)) (S0 412 1) (S0 412 2) (rzWs S0) 0 := hP.2.2.2.resolve_left hg
    have h8 := rzIxn_le (T := rzCut (S0 411)) (n := S0 412 1) (f := S0 412 2) (l := rzWs S0) (k := 0) (Int.le_refl 0)
    have hl := rzWs_len (S := S0)
    rw [rzLv_eq b0, rkSt_nam hg hi, ← hx]
    have q_ := rkD_emit (S_p := (bx_up (bx_up (bx_up (bx_up S 428 x10 2) 429 x10 ix) 427 0 (x10 + 1)) 424 x11 2)) (op := (ix + 1)) (a := 0) hC ((bx_up_ne (by omega)).trans ((bx_up_ne (by omega)).trans ((bx_up_ne (by omega)).trans ((bx_up_ne (by omega)))))) (((bx_up_ne (by omega)).trans (bx_up_at)).trans (by omega)) (fun j => ⟨(bx_up_ne (by omega)).trans ((bx_up_ne (by omega)).trans ((bx_up_ne (by omega)).trans ((bx_up_ne (by omega))))), (bx_up_ne (by omega)).trans ((bx_up_ne (by omega)).trans ((bx_up_ne (by omega)).trans ((bx_up_ne (by omega)))))⟩) (fun j hj => (bx_up_ne (by omega)).trans ((bx_up_ne (by omega)).trans ((bx_up_ne (by omega)).trans ((bx_up_ne (by omega)))))) (fun j hj => (bx_up_ne (by omega)).trans ((bx_up_ne (by omega)).trans ((bx_up_ne (by omega)).trans ((bx_up_ne (by omega)))))) (by rw [hz]; exact (((bx_up_ne (by omega)).trans ((bx_up_ne (by omega)).trans ((bx_up_ne (by omega))))).trans bx_up_at).trans ((rkEn_nm (by omega) (by omega)).symm)) (by rw [hz]; exact (((bx_up_ne (by omega)).trans ((bx_up_ne (by omega)))).trans bx_up_at).trans (((rkEi_nm (by omega) (by omega)).trans (by omega)).symm))
    exact ⟨q_.1, fr.tr q_.2⟩)⟩, d_⟩
theorem rxcRPDK_4_2 {S0 : Nat → Int → Int} {ws : List Int} {S : Nat → Int → Int} {nm ix x10 x11 : Int} (hP : rxPRPDK S0 ws) (hin : bx_same rxL (bx_mdl rxCRPDK.2.2.1) S0 S) (I0 : bx_Inv rxL S) (hinv : rxIRPDK_4 S0 ws S nm ix) (l8 : (-2147483648) ≤ nm) (u8 : nm ≤ 1000) (l9 : (-1) ≤ ix) (u9 : ix ≤ 7) (l10 : 0 ≤ x10) (u10 : x10 ≤ 399) (l11 : 9 ≤ x11) (u11 : x11 ≤ 2147483647) (e4 : S 427 0 = x10) (e0 : (bx_up (bx_up (bx_up S 428 x10 2) 429 x10 ix) 427 0 (x10 + 1)) 412 8 = x11) : (True) ∧ (True) ∧ rxIRPDK_5 S0 ws (bx_up (bx_up (bx_up S 428 x10 2) 429 x10 ix) 427 0 (x10 + 1)) nm ∧ rxmRPDK_5 S0 ws (bx_up (bx_up (bx_up S 428 x10 2) 429 x10 ix) 427 0 (x10 + 1)) nm < rxmRPDK_4 S0 ws S nm ix := by
  obtain ⟨hI, hx⟩ := hinv
  obtain ⟨a_, b_, c_, d_⟩ := rxcRPD_4_2 hP hin I0 hI l8 u8 l9 u9 l10 u10 l11 u11 e4 e0
  exact ⟨a_, b_, ⟨c_, (by
    obtain ⟨e, hn, hn1, hn2⟩ := hI
    have b0 := hP.2.1
    intro b c hC hW hb
    obtain ⟨hC, fr⟩ := rkD_ne (S_p := S) hC (by rw [e]; exact (bx_up_ne (by omega))) (by rw [e]; exact (bx_up_ne (by omega))) (fun j => by rw [e]; exact ⟨(bx_up_ne (by omega)), (bx_up_ne (by omega))⟩) (fun j => by rw [e]; exact ⟨(bx_up_ne (by omega)), (bx_up_ne (by omega))⟩)
    have hz : S 427 0 = x10 := e4
    have hs := hC.2.2.2.1
    obtain ⟨hx0, hx⟩ := hx
    have hg := rzNo_nd (show rzNo (rzCut (S0 411)) (S0 412 1) (S0 412 2) < 0 by omega)
    have hi : 0 ≤ rzIxn (rzCut (S0 411)) (S0 412 1) (S0 412 2) (rzWs S0) 0 := hP.2.2.2.resolve_left hg
    have h8 := rzIxn_le (T := rzCut (S0 411)) (n := S0 412 1) (f := S0 412 2) (l := rzWs S0) (k := 0) (Int.le_refl 0)
    have hl := rzWs_len (S := S0)
    rw [rzLv_eq b0, rkSt_nam hg hi, ← hx]
    have q_ := rkD_emit (S_p := (bx_up (bx_up (bx_up S 428 x10 2) 429 x10 ix) 427 0 (x10 + 1))) (op := (ix + 1)) (a := 0) hC ((bx_up_ne (by omega)).trans ((bx_up_ne (by omega)).trans ((bx_up_ne (by omega))))) ((bx_up_at).trans (by omega)) (fun j => ⟨(bx_up_ne (by omega)).trans ((bx_up_ne (by omega)).trans ((bx_up_ne (by omega)))), (bx_up_ne (by omega)).trans ((bx_up_ne (by omega)).trans ((bx_up_ne (by omega))))⟩) (fun j hj => (bx_up_ne (by omega)).trans ((bx_up_ne (by omega)).trans ((bx_up_ne (by omega))))) (fun j hj => (bx_up_ne (by omega)).trans ((bx_up_ne (by omega)).trans ((bx_up_ne (by omega))))) (by rw [hz]; exact (((bx_up_ne (by omega)).trans ((bx_up_ne (by omega)))).trans bx_up_at).trans ((rkEn_nm (by omega) (by omega)).symm)) (by rw [hz]; exact (((bx_up_ne (by omega))).trans bx_up_at).trans (((rkEi_nm (by omega) (by omega)).trans (by omega)).symm))
    exact ⟨q_.1, fr.tr q_.2⟩)⟩, d_⟩
theorem rxcRPDK_4_3 {S0 : Nat → Int → Int} {ws : List Int} {S : Nat → Int → Int} {nm ix x10 x11 : Int} (hP : rxPRPDK S0 ws) (hin : bx_same rxL (bx_mdl rxCRPDK.2.2.1) S0 S) (I0 : bx_Inv rxL S) (hinv : rxIRPDK_4 S0 ws S nm ix) (l8 : (-2147483648) ≤ nm) (u8 : nm ≤ 1000) (l9 : (-1) ≤ ix) (u9 : ix ≤ 7) (l10 : 0 ≤ x10) (u10 : x10 ≤ 399) (l11 : (-2147483648) ≤ x11) (u11 : x11 ≤ (-1)) (e4 : S 427 0 = x10) (e0 : (bx_up (bx_up (bx_up S 428 x10 2) 429 x10 ix) 427 0 (x10 + 1)) 412 8 = x11) : (True) ∧ (True) ∧ rxIRPDK_5 S0 ws (bx_up (bx_up (bx_up S 428 x10 2) 429 x10 ix) 427 0 (x10 + 1)) nm ∧ rxmRPDK_5 S0 ws (bx_up (bx_up (bx_up S 428 x10 2) 429 x10 ix) 427 0 (x10 + 1)) nm < rxmRPDK_4 S0 ws S nm ix := by
  obtain ⟨hI, hx⟩ := hinv
  obtain ⟨a_, b_, c_, d_⟩ := rxcRPD_4_3 hP hin I0 hI l8 u8 l9 u9 l10 u10 l11 u11 e4 e0
  exact ⟨a_, b_, ⟨c_, (by
    obtain ⟨e, hn, hn1, hn2⟩ := hI
    have b0 := hP.2.1
    intro b c hC hW hb
    obtain ⟨hC, fr⟩ := rkD_ne (S_p := S) hC (by rw [e]; exact (bx_up_ne (by omega))) (by rw [e]; exact (bx_up_ne (by omega))) (fun j => by rw [e]; exact ⟨(bx_up_ne (by omega)), (bx_up_ne (by omega))⟩) (fun j => by rw [e]; exact ⟨(bx_up_ne (by omega)), (bx_up_ne (by omega))⟩)
    have hz : S 427 0 = x10 := e4
    have hs := hC.2.2.2.1
    obtain ⟨hx0, hx⟩ := hx
    have hg := rzNo_nd (show rzNo (rzCut (S0 411)) (S0 412 1) (S0 412 2) < 0 by omega)
    have hi : 0 ≤ rzIxn (rzCut (S0 411)) (S0 412 1) (S0 412 2) (rzWs S0) 0 := hP.2.2.2.resolve_left hg
    have h8 := rzIxn_le (T := rzCut (S0 411)) (n := S0 412 1) (f := S0 412 2) (l := rzWs S0) (k := 0) (Int.le_refl 0)
    have hl := rzWs_len (S := S0)
    rw [rzLv_eq b0, rkSt_nam hg hi, ← hx]
    have q_ := rkD_emit (S_p := (bx_up (bx_up (bx_up S 428 x10 2) 429 x10 ix) 427 0 (x10 + 1))) (op := (ix + 1)) (a := 0) hC ((bx_up_ne (by omega)).trans ((bx_up_ne (by omega)).trans ((bx_up_ne (by omega))))) ((bx_up_at).trans (by omega)) (fun j => ⟨(bx_up_ne (by omega)).trans ((bx_up_ne (by omega)).trans ((bx_up_ne (by omega)))), (bx_up_ne (by omega)).trans ((bx_up_ne (by omega)).trans ((bx_up_ne (by omega))))⟩) (fun j hj => (bx_up_ne (by omega)).trans ((bx_up_ne (by omega)).trans ((bx_up_ne (by omega))))) (fun j hj => (bx_up_ne (by omega)).trans ((bx_up_ne (by omega)).trans ((bx_up_ne (by omega))))) (by rw [hz]; exact (((bx_up_ne (by omega)).trans ((bx_up_ne (by omega)))).trans bx_up_at).trans ((rkEn_nm (by omega) (by omega)).symm)) (by rw [hz]; exact (((bx_up_ne (by omega))).trans bx_up_at).trans (((rkEi_nm (by omega) (by omega)).trans (by omega)).symm))
    exact ⟨q_.1, fr.tr q_.2⟩)⟩, d_⟩
theorem rxcRPDK_4_4 {S0 : Nat → Int → Int} {ws : List Int} {S : Nat → Int → Int} {nm ix x10 x11 x12 : Int} (hP : rxPRPDK S0 ws) (hin : bx_same rxL (bx_mdl rxCRPDK.2.2.1) S0 S) (I0 : bx_Inv rxL S) (hinv : rxIRPDK_4 S0 ws S nm ix) (l8 : (-2147483648) ≤ nm) (u8 : nm ≤ 1000) (l9 : (-1) ≤ ix) (u9 : ix ≤ 7) (l10 : 400 ≤ x10) (u10 : x10 ≤ 400) (l11 : 0 ≤ x11) (u11 : x11 ≤ 8) (l12 : 0 ≤ x12) (u12 : x12 ≤ 4) (f0 : x12 ≠ 1) (e2 : S 427 0 = x10) (e1 : S 412 8 = x11) (e0 : S 424 x11 = x12) : (True) ∧ (True) ∧ rxIRPDK_5 S0 ws S nm ∧ rxmRPDK_5 S0 ws S nm < rxmRPDK_4 S0 ws S nm ix := by
  obtain ⟨hI, hx⟩ := hinv
  obtain ⟨a_, b_, c_, d_⟩ := rxcRPD_4_4 hP hin I0 hI l8 u8 l9 u9 l10 u10 l11 u11 l12 u12 f0 e2 e1 e0
  exact ⟨a_, b_, ⟨c_, (by
    obtain ⟨e, hn, hn1, hn2⟩ := hI
    have b0 := hP.2.1
    intro b c hC hW hb
    obtain ⟨hC, fr⟩ := rkD_ne (S_p := S) hC (by rw [e]; exact (bx_up_ne (by omega))) (by rw [e]; exact (bx_up_ne (by omega))) (fun j => by rw [e]; exact ⟨(bx_up_ne (by omega)), (bx_up_ne (by omega))⟩) (fun j => by rw [e]; exact ⟨(bx_up_ne (by omega)), (bx_up_ne (by omega))⟩)
    have hz : S 427 0 = x10 := e2
    have hs := hC.2.2.2.1
    exfalso
    omega)⟩, d_⟩
theorem rxcRPDK_4_5 {S0 : Nat → Int → Int} {ws : List Int} {S : Nat → Int → Int} {nm ix x10 x11 x12 : Int} (hP : rxPRPDK S0 ws) (hin : bx_same rxL (bx_mdl rxCRPDK.2.2.1) S0 S) (I0 : bx_Inv rxL S) (hinv : rxIRPDK_4 S0 ws S nm ix) (l8 : (-2147483648) ≤ nm) (u8 : nm ≤ 1000) (l9 : (-1) ≤ ix) (u9 : ix ≤ 7) (l10 : 400 ≤ x10) (u10 : x10 ≤ 400) (l11 : 0 ≤ x11) (u11 : x11 ≤ 8) (l12 : 1 ≤ x12) (u12 : x12 ≤ 1) (e3 : S 427 0 = x10) (e2 : S 412 8 = x11) (e1 : S 424 x11 = x12) : (True) ∧ (True) ∧ rxIRPDK_5 S0 ws (bx_up S 424 x11 2) nm ∧ rxmRPDK_5 S0 ws (bx_up S 424 x11 2) nm < rxmRPDK_4 S0 ws S nm ix := by
  obtain ⟨hI, hx⟩ := hinv
  obtain ⟨a_, b_, c_, d_⟩ := rxcRPD_4_5 hP hin I0 hI l8 u8 l9 u9 l10 u10 l11 u11 l12 u12 e3 e2 e1
  exact ⟨a_, b_, ⟨c_, (by
    obtain ⟨e, hn, hn1, hn2⟩ := hI
    have b0 := hP.2.1
    intro b c hC hW hb
    obtain ⟨hC, fr⟩ := rkD_ne (S_p := S) hC (by rw [e]; exact (bx_up_ne (by omega))) (by rw [e]; exact (bx_up_ne (by omega))) (fun j => by rw [e]; exact ⟨(bx_up_ne (by omega)), (bx_up_ne (by omega))⟩) (fun j => by rw [e]; exact ⟨(bx_up_ne (by omega)), (bx_up_ne (by omega))⟩)
    have hz : S 427 0 = x10 := e3
    have hs := hC.2.2.2.1
    exfalso
    omega)⟩, d_⟩
theorem rxcRPDK_4_6 {S0 : Nat → Int → Int} {ws : List Int} {S : Nat → Int → Int} {nm ix x10 x11 : Int} (hP : rxPRPDK S0 ws) (hin : bx_same rxL (bx_mdl rxCRPDK.2.2.1) S0 S) (I0 : bx_Inv rxL S) (hinv : rxIRPDK_4 S0 ws S nm ix) (l8 : (-2147483648) ≤ nm) (u8 : nm ≤ 1000) (l9 : (-1) ≤ ix) (u9 : ix ≤ 7) (l10 : 400 ≤ x10) (u10 : x10 ≤ 400) (l11 : 9 ≤ x11) (u11 : x11 ≤ 2147483647) (e1 : S 427 0 = x10) (e0 : S 412 8 = x11) : (True) ∧ (True) ∧ rxIRPDK_5 S0 ws S nm ∧ rxmRPDK_5 S0 ws S nm < rxmRPDK_4 S0 ws S nm ix := by
  obtain ⟨hI, hx⟩ := hinv
  obtain ⟨a_, b_, c_, d_⟩ := rxcRPD_4_6 hP hin I0 hI l8 u8 l9 u9 l10 u10 l11 u11 e1 e0
  exact ⟨a_, b_, ⟨c_, (by
    obtain ⟨e, hn, hn1, hn2⟩ := hI
    have b0 := hP.2.1
    intro b c hC hW hb
    obtain ⟨hC, fr⟩ := rkD_ne (S_p := S) hC (by rw [e]; exact (bx_up_ne (by omega))) (by rw [e]; exact (bx_up_ne (by omega))) (fun j => by rw [e]; exact ⟨(bx_up_ne (by omega)), (bx_up_ne (by omega))⟩) (fun j => by rw [e]; exact ⟨(bx_up_ne (by omega)), (bx_up_ne (by omega))⟩)
    have hz : S 427 0 = x10 := e1
    have hs := hC.2.2.2.1
    exfalso
    omega)⟩, d_⟩
theorem rxcRPDK_4_7 {S0 : Nat → Int → Int} {ws : List Int} {S : Nat → Int → Int} {nm ix x10 x11 : Int} (hP : rxPRPDK S0 ws) (hin : bx_same rxL (bx_mdl rxCRPDK.2.2.1) S0 S) (I0 : bx_Inv rxL S) (hinv : rxIRPDK_4 S0 ws S nm ix) (l8 : (-2147483648) ≤ nm) (u8 : nm ≤ 1000) (l9 : (-1) ≤ ix) (u9 : ix ≤ 7) (l10 : 400 ≤ x10) (u10 : x10 ≤ 400) (l11 : (-2147483648) ≤ x11) (u11 : x11 ≤ (-1)) (e1 : S 427 0 = x10) (e0 : S 412 8 = x11) : (True) ∧ (True) ∧ rxIRPDK_5 S0 ws S nm ∧ rxmRPDK_5 S0 ws S nm < rxmRPDK_4 S0 ws S nm ix := by
  obtain ⟨hI, hx⟩ := hinv
  obtain ⟨a_, b_, c_, d_⟩ := rxcRPD_4_7 hP hin I0 hI l8 u8 l9 u9 l10 u10 l11 u11 e1 e0
  exact ⟨a_, b_, ⟨c_, (by
    obtain ⟨e, hn, hn1, hn2⟩ := hI
    have b0 := hP.2.1
    intro b c hC hW hb
    obtain ⟨hC, fr⟩ := rkD_ne (S_p := S) hC (by rw [e]; exact (bx_up_ne (by omega))) (by rw [e]; exact (bx_up_ne (by omega))) (fun j => by rw [e]; exact ⟨(bx_up_ne (by omega)), (bx_up_ne (by omega))⟩) (fun j => by rw [e]; exact ⟨(bx_up_ne (by omega)), (bx_up_ne (by omega))⟩)
    have hz : S 427 0 = x10 := e1
    have hs := hC.2.2.2.1
    exfalso
    omega)⟩, d_⟩
theorem rxdRPDK_6_0 {S0 : Nat → Int → Int} {ws : List Int} {S : Nat → Int → Int} {nm : Int} (hP : rxPRPDK S0 ws) (hin : bx_same rxL (bx_mdl rxCRPDK.2.2.1) S0 S) (hin2 : bx_same rxL (bx_mdl rxCRPDK.2.2.1) S S) (I0 : bx_Inv rxL S) (I1 : bx_Inv rxL S) (hinv : rxIRPDK_6 S0 ws S nm) (l8 : (-2147483648) ≤ nm) (u8 : nm ≤ 1000) : (True) ∧ rxPSRPDK S0 ws S (some 1) := by
  obtain ⟨hI, hx⟩ := hinv
  obtain ⟨a_, c_⟩ := rxdRPD_6_0 hP hin hin2 I0 I1 hI l8 u8
  exact ⟨a_, c_, (fun _ => hx)⟩