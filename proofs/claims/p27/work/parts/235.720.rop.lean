noncomputable def rxCROPK : bx_Ct := ([(3, (1, 412, 0)), (0, (0, 0, 13))], none, [(6, 0), (7, 2), (7, 3), (7, 10), (1021, 0), (1022, 0), (1034, 0), (1035, 0), (1036, 0)], 2, [(412, 0, 3, (1, 411, 0)), (412, 6, 3, (1, 427, 0))])
noncomputable def rxIROPK_0 (S0 : Nat → Int → Int) (ws : List Int) (S : Nat → Int → Int) (st : Int) : Prop := rxIROP_0 S0 ws S st ∧ True
noncomputable def rxmROPK_0 (S0 : Nat → Int → Int) (ws : List Int) (S : Nat → Int → Int) (st : Int) : Nat := rxmROP_0 S0 ws S st
noncomputable def rxIROPK_1 (S0 : Nat → Int → Int) (ws : List Int) (S : Nat → Int → Int) (st : Int) : Prop := rxIROP_1 S0 ws S st ∧ True
noncomputable def rxmROPK_1 (S0 : Nat → Int → Int) (ws : List Int) (S : Nat → Int → Int) (st : Int) : Nat := rxmROP_1 S0 ws S st
noncomputable def rxIROPK_2 (S0 : Nat → Int → Int) (ws : List Int) (S : Nat → Int → Int) (st sr : Int) : Prop := rxIROP_2 S0 ws S st sr ∧ sr = rzStr st
noncomputable def rxmROPK_2 (S0 : Nat → Int → Int) (ws : List Int) (S : Nat → Int → Int) (st sr : Int) : Nat := rxmROP_2 S0 ws S st sr
noncomputable def rxIROPK_3 (S0 : Nat → Int → Int) (ws : List Int) (S : Nat → Int → Int) (st sr : Int) : Prop := rxIROP_3 S0 ws S st sr ∧ (∀ (b : Int) (c : rkC), rkD S0 b c → rkW c → b + (c.1 : Int) + rkM c ≤ 398 → rkD S b (rkRed (rzStr st) c) ∧ rkFr S0 S b)
noncomputable def rxmROPK_3 (S0 : Nat → Int → Int) (ws : List Int) (S : Nat → Int → Int) (st sr : Int) : Nat := rxmROP_3 S0 ws S st sr
noncomputable def rxIROPK_4 (S0 : Nat → Int → Int) (ws : List Int) (S : Nat → Int → Int) (st lp jn : Int) : Prop := rxIROP_4 S0 ws S st lp jn ∧ (6 ≤ st ∧ (∀ (b : Int) (c : rkC), rkD S0 b c → rkW c → b + (c.1 : Int) + rkM c ≤ 398 → rkD S b (rkPush (st + 14) 0 (rkRed (rzStr st) c)) ∧ rkFr S0 S b))
noncomputable def rxmROPK_4 (S0 : Nat → Int → Int) (ws : List Int) (S : Nat → Int → Int) (st lp jn : Int) : Nat := rxmROP_4 S0 ws S st lp jn
noncomputable def rxIROPK_5 (S0 : Nat → Int → Int) (ws : List Int) (S : Nat → Int → Int) (st lp jn sr : Int) : Prop := rxIROP_5 S0 ws S st lp jn sr ∧ (6 ≤ st ∧ (∀ (b : Int) (c : rkC), rkD S0 b c → rkW c → b + (c.1 : Int) + rkM c ≤ 398 → rkD S b (rkPush (st + 14) 0 (rkRed (rzStr st) c)) ∧ rkFr S0 S b))
noncomputable def rxmROPK_5 (S0 : Nat → Int → Int) (ws : List Int) (S : Nat → Int → Int) (st lp jn sr : Int) : Nat := rxmROP_5 S0 ws S st lp jn sr
noncomputable def rxIROPK_6 (S0 : Nat → Int → Int) (ws : List Int) (S : Nat → Int → Int) (st lp jn : Int) : Prop := rxIROP_6 S0 ws S st lp jn ∧ rkTk S0 S true
noncomputable def rxmROPK_6 (S0 : Nat → Int → Int) (ws : List Int) (S : Nat → Int → Int) (st lp jn : Int) : Nat := rxmROP_6 S0 ws S st lp jn
noncomputable def rxIROPK_7 (S0 : Nat → Int → Int) (ws : List Int) (S : Nat → Int → Int) (st lp jn : Int) : Prop := rxIROP_7 S0 ws S st lp jn ∧ rkTk S0 S true
noncomputable def rxmROPK_7 (S0 : Nat → Int → Int) (ws : List Int) (S : Nat → Int → Int) (st lp jn : Int) : Nat := rxmROP_7 S0 ws S st lp jn
noncomputable def rxPROPK (S0 : Nat → Int → Int) (ws : List Int) : Prop := rxPROP S0 ws
noncomputable def rxPSROPK (S0 : Nat → Int → Int) (ws : List Int) (S : Nat → Int → Int) (w : Option Int) : Prop := w = none ∧ rxPSROP S0 ws S w ∧ (rkTk S0 S true)
theorem rxkROPK_1 {S0 : Nat → Int → Int} {ws : List Int} {S : Nat → Int → Int} {st : Int} (hP : rxPROPK S0 ws) (hin : bx_same rxL (bx_mdl rxCROPK.2.2.1) S0 S) (I0 : bx_Inv rxL S) (hinv : rxIROPK_1 S0 ws S st) (l8 : 0 ≤ st) (u8 : st ≤ 13) : rxPSTD S [st] ∧ ∀ (S_p : Nat → Int → Int) (sr : Int), 0 ≤ sr → sr ≤ 6 → rxPSSTD S [st] S_p (some sr) → bx_Inv rxL S_p → bx_same rxL (bx_mdl rxC4.2.2.1) S S_p → rxIROPK_2 S0 ws S_p st sr ∧ rxmROPK_2 S0 ws S_p st sr < rxmROPK_1 S0 ws S st := by
  obtain ⟨hI, hx⟩ := hinv
  have g_ := rxkROP_1 hP hin I0 hI l8 u8
  exact ⟨g_.1, fun S_p sr l_ u_ hq I1 hsm => ⟨⟨(g_.2 S_p sr l_ u_ hq I1 hsm).1, (by
    obtain ⟨-, hw⟩ := hI
    obtain ⟨-, k, hk, hr⟩ := hq
    have hk : st = k := Option.some.inj (congrArg (fun l : List Int => l[0]?) hk)
    rw [hk]
    exact Option.some.inj hr)⟩, (g_.2 S_p sr l_ u_ hq I1 hsm).2⟩⟩
theorem rxkROPK_2 {S0 : Nat → Int → Int} {ws : List Int} {S : Nat → Int → Int} {st sr : Int} (hP : rxPROPK S0 ws) (hin : bx_same rxL (bx_mdl rxCROPK.2.2.1) S0 S) (I0 : bx_Inv rxL S) (hinv : rxIROPK_2 S0 ws S st sr) (l8 : 0 ≤ st) (u8 : st ≤ 13) (l9 : 0 ≤ sr) (u9 : sr ≤ 6) : rxPRDDK S [412, sr] ∧ ∀ (S_p : Nat → Int → Int), rxPSRDDK S [412, sr] S_p none → bx_Inv rxL S_p → bx_same rxL (bx_mdl rxCRDDK.2.2.1) S S_p → rxIROPK_3 S0 ws S_p st sr ∧ rxmROPK_3 S0 ws S_p st sr < rxmROPK_2 S0 ws S st sr := by
  obtain ⟨hI, hx⟩ := hinv
  have g_ := rxkROP_2 hP hin I0 hI l8 u8 l9 u9
  exact ⟨g_.1, fun S_p hq I1 hsm => ⟨⟨(g_.2 S_p hq.2.1 I1 hsm).1, (by
    obtain ⟨e, hw0⟩ := hI
    subst e
    obtain ⟨-, -, least, hw, h⟩ := hq
    have hl : sr = least := Option.some.inj (congrArg (fun l : List Int => l[1]?) hw)
    subst hl
    rw [hx] at h
    obtain ⟨hD, b0, b8, hc, st2, hw2, hst, hn1⟩ := hP
    have hs2 : st = st2 := Option.some.inj (congrArg (fun l : List Int => l[1]?) (hw0.symm.trans hw2))
    exact fun b c hC hW hb => h (rzOp_str (by omega) (by rw [hs2]; exact hst)) b c hC hW (by omega))⟩, (g_.2 S_p hq.2.1 I1 hsm).2⟩⟩
theorem rxkROPK_4 {S0 : Nat → Int → Int} {ws : List Int} {S : Nat → Int → Int} {st lp jn : Int} (hP : rxPROPK S0 ws) (hin : bx_same rxL (bx_mdl rxCROPK.2.2.1) S0 S) (I0 : bx_Inv rxL S) (hinv : rxIROPK_4 S0 ws S st lp jn) (l8 : 0 ≤ st) (u8 : st ≤ 13) (l9 : 0 ≤ lp) (u9 : lp ≤ 400) (l10 : 0 ≤ jn) (u10 : jn ≤ 1) : rxPSTD S [st] ∧ ∀ (S_p : Nat → Int → Int) (sr : Int), 0 ≤ sr → sr ≤ 6 → rxPSSTD S [st] S_p (some sr) → bx_Inv rxL S_p → bx_same rxL (bx_mdl rxC4.2.2.1) S S_p → rxIROPK_5 S0 ws S_p st lp jn sr ∧ rxmROPK_5 S0 ws S_p st lp jn sr < rxmROPK_4 S0 ws S st lp jn := by
  obtain ⟨hI, hx⟩ := hinv
  have g_ := rxkROP_4 hP hin I0 hI l8 u8 l9 u9 l10 u10
  exact ⟨g_.1, fun S_p sr l_ u_ hq I1 hsm => ⟨⟨(g_.2 S_p sr l_ u_ hq I1 hsm).1, (by
    obtain ⟨-, k, hk, hr⟩ := hq
    refine ⟨hx.1, ?_⟩
    intro b c hC hW hb
    obtain ⟨g1, g2⟩ := hx.2 b c hC hW hb
    have q_ := rkD_of g1 I0 hsm (by decide +kernel)
    exact ⟨q_.1, g2.tr q_.2⟩)⟩, (g_.2 S_p sr l_ u_ hq I1 hsm).2⟩⟩
theorem rxkROPK_6 {S0 : Nat → Int → Int} {ws : List Int} {S : Nat → Int → Int} {st lp jn : Int} (hP : rxPROPK S0 ws) (hin : bx_same rxL (bx_mdl rxCROPK.2.2.1) S0 S) (I0 : bx_Inv rxL S) (hinv : rxIROPK_6 S0 ws S st lp jn) (l8 : 0 ≤ st) (u8 : st ≤ 13) (l9 : 0 ≤ lp) (u9 : lp ≤ 400) (l10 : 0 ≤ jn) (u10 : jn ≤ 1) : rxPAD S [412] ∧ ∀ (S_p : Nat → Int → Int), rxPSAD S [412] S_p none → bx_Inv rxL S_p → bx_same rxL (bx_mdl rxC84.2.2.1) S S_p → rxIROPK_7 S0 ws S_p st lp jn ∧ rxmROPK_7 S0 ws S_p st lp jn < rxmROPK_6 S0 ws S st lp jn := by
  obtain ⟨hI, hx⟩ := hinv
  have g_ := rxkROP_6 hP hin I0 hI l8 u8 l9 u9 l10 u10
  exact ⟨g_.1, fun S_p hq I1 hsm => ⟨⟨(g_.2 S_p hq I1 hsm).1, (by
    intro b c hC hW hb
    obtain ⟨g1, g2⟩ := hx b c hC hW hb
    have q_ := rkD_of g1 I0 hsm (by decide +kernel)
    exact ⟨q_.1, g2.tr q_.2⟩)⟩, (g_.2 S_p hq I1 hsm).2⟩⟩
theorem rxcROPK_0_0 {S0 : Nat → Int → Int} {ws : List Int} {S : Nat → Int → Int} {st : Int} (hP : rxPROPK S0 ws) (hin : bx_same rxL (bx_mdl rxCROPK.2.2.1) S0 S) (I0 : bx_Inv rxL S) (hinv : rxIROPK_0 S0 ws S st) (l8 : 0 ≤ st) (u8 : st ≤ 13) : (True) ∧ (True) ∧ rxIROPK_1 S0 ws S st ∧ rxmROPK_1 S0 ws S st < rxmROPK_0 S0 ws S st := by
  obtain ⟨hI, hx⟩ := hinv
  obtain ⟨a_, b_, c_, d_⟩ := rxcROP_0_0 hP hin I0 hI l8 u8
  exact ⟨a_, b_, ⟨c_, trivial⟩, d_⟩
theorem rxcROPK_3_0 {S0 : Nat → Int → Int} {ws : List Int} {S : Nat → Int → Int} {st sr x10 x11 x12 : Int} (hP : rxPROPK S0 ws) (hin : bx_same rxL (bx_mdl rxCROPK.2.2.1) S0 S) (I0 : bx_Inv rxL S) (hinv : rxIROPK_3 S0 ws S st sr) (l8 : 5 ≤ st) (u8 : st ≤ 5) (l9 : 0 ≤ sr) (u9 : sr ≤ 6) (l10 : 0 ≤ x10) (u10 : x10 ≤ 399) (l11 : 0 ≤ x11) (u11 : x11 ≤ 399) (l12 : (-2147483648) ≤ x12) (u12 : x12 ≤ (-1)) (f0 : st ≠ 4) (e8 : S 427 0 = x10) (e4 : (bx_up (bx_up (bx_up S 428 x10 st) 429 x10 0) 427 0 (x10 + 1)) 412 10 = x11) (e0 : (bx_up (bx_up (bx_up (bx_up (bx_up (bx_up S 428 x10 st) 429 x10 0) 427 0 (x10 + 1)) 425 x11 st) 426 x11 x10) 412 10 (x11 + 1)) 412 8 = x12) : (True) ∧ (True) ∧ rxIROPK_6 S0 ws (bx_up (bx_up (bx_up (bx_up (bx_up (bx_up S 428 x10 st) 429 x10 0) 427 0 (x10 + 1)) 425 x11 st) 426 x11 x10) 412 10 (x11 + 1)) st x10 1 ∧ rxmROPK_6 S0 ws (bx_up (bx_up (bx_up (bx_up (bx_up (bx_up S 428 x10 st) 429 x10 0) 427 0 (x10 + 1)) 425 x11 st) 426 x11 x10) 412 10 (x11 + 1)) st x10 1 < rxmROPK_3 S0 ws S st sr := by
  obtain ⟨hI, hx⟩ := hinv
  obtain ⟨a_, b_, c_, d_⟩ := rxcROP_3_0 hP hin I0 hI l8 u8 l9 u9 l10 u10 l11 u11 l12 u12 f0 e8 e4 e0
  exact ⟨a_, b_, ⟨c_, (by
    obtain ⟨hw, hrest⟩ := hI
    obtain ⟨hD, b0, b8, hc, st2, hw2, hst, hn1⟩ := hP
    have hs2 : st = st2 := Option.some.inj (congrArg (fun l : List Int => l[1]?) (hw.symm.trans hw2))
    subst hs2
    have h1s := rzOp_str (T := rzCut (S0 411)) (n := S0 412 1) (f := S0 412 2) (s := S0 424 (S0 412 8)) hn1 hst
    have h4s := rzOp_ge (T := rzCut (S0 411)) (n := S0 412 1) (f := S0 412 2) (s := S0 424 (S0 412 8)) hn1 hst
    intro b c hC hW hb
    obtain ⟨g1, g2⟩ := hx b c hC hW hb
    have rw_ := rkRed_w (l := rzStr st) h1s hW
    have zc := g1.2.2.1
    have zz := g1.2.2.2.1
    have hz : S 427 0 = x10 := e8
    have hm10 : (bx_up (bx_up (bx_up S 428 x10 st) 429 x10 0) 427 0 (x10 + 1)) 412 10 = x11 := e4
    have es : rzStr st = 1 := by
      rw [show st = 5 by omega]
      rfl
    rw [es] at g1 rw_ zc zz
    have q := rkD_emit (S_p := (bx_up (bx_up (bx_up S 428 x10 st) 429 x10 0) 427 0 (x10 + 1))) (op := 30) (a := 0) g1 ((bx_up_ne (by omega)).trans ((bx_up_ne (by omega)).trans ((bx_up_ne (by omega))))) ((bx_up_at).trans (by omega)) (fun j => ⟨(bx_up_ne (by omega)).trans ((bx_up_ne (by omega)).trans ((bx_up_ne (by omega)))), (bx_up_ne (by omega)).trans ((bx_up_ne (by omega)).trans ((bx_up_ne (by omega))))⟩) (fun j hj => (bx_up_ne (by omega)).trans ((bx_up_ne (by omega)).trans ((bx_up_ne (by omega))))) (fun j hj => (bx_up_ne (by omega)).trans ((bx_up_ne (by omega)).trans ((bx_up_ne (by omega))))) (by rw [hz]; exact (((bx_up_ne (by omega)).trans ((bx_up_ne (by omega)))).trans bx_up_at).trans ((by omega : st = 5).trans rkEn_30.symm)) (by rw [hz]; exact (((bx_up_ne (by omega))).trans bx_up_at).trans (rkEi_z (by omega)).symm)
    have q2 := rkD_push (S_p := (bx_up (bx_up (bx_up (bx_up (bx_up (bx_up S 428 x10 st) 429 x10 0) 427 0 (x10 + 1)) 425 x11 st) 426 x11 x10) 412 10 (x11 + 1))) (op := 30) (a := rkM (rkRed 1 c)) q.1 ((bx_up_at).trans (by rw [hm10])) ((bx_up_ne (by omega)).trans ((bx_up_ne (by omega)).trans ((bx_up_ne (by omega))))) (fun j hj => (bx_up_ne (by omega)).trans ((bx_up_ne (by omega)).trans ((bx_up_ne (by omega))))) (fun j hj => (bx_up_ne (by omega)).trans ((bx_up_ne (by omega)).trans ((bx_up_ne (by omega))))) (fun j => ⟨(bx_up_ne (by omega)).trans ((bx_up_ne (by omega)).trans ((bx_up_ne (by omega)))), (bx_up_ne (by omega)).trans ((bx_up_ne (by omega)).trans ((bx_up_ne (by omega))))⟩) (by rw [hm10]; exact (((bx_up_ne (by omega)).trans ((bx_up_ne (by omega)))).trans bx_up_at).trans ((by omega : st = 5).trans rkEn_30.symm)) (fun _ => by rw [hm10]; exact (((bx_up_ne (by omega))).trans bx_up_at).trans (by omega))
    have hop := rkSt_op (ws := rzWs S0) (c := c) hc
    rw [rzLv_eq b0, hop.2.1 (by omega)]
    exact ⟨q2.1, (g2.tr q.2).tr q2.2⟩)⟩, d_⟩
theorem rxcROPK_3_1 {S0 : Nat → Int → Int} {ws : List Int} {S : Nat → Int → Int} {st sr x10 x11 x12 : Int} (hP : rxPROPK S0 ws) (hin : bx_same rxL (bx_mdl rxCROPK.2.2.1) S0 S) (I0 : bx_Inv rxL S) (hinv : rxIROPK_3 S0 ws S st sr) (l8 : 5 ≤ st) (u8 : st ≤ 5) (l9 : 0 ≤ sr) (u9 : sr ≤ 6) (l10 : 0 ≤ x10) (u10 : x10 ≤ 399) (l11 : 0 ≤ x11) (u11 : x11 ≤ 399) (l12 : 9 ≤ x12) (u12 : x12 ≤ 2147483647) (f0 : st ≠ 4) (e8 : S 427 0 = x10) (e4 : (bx_up (bx_up (bx_up S 428 x10 st) 429 x10 0) 427 0 (x10 + 1)) 412 10 = x11) (e0 : (bx_up (bx_up (bx_up (bx_up (bx_up (bx_up S 428 x10 st) 429 x10 0) 427 0 (x10 + 1)) 425 x11 st) 426 x11 x10) 412 10 (x11 + 1)) 412 8 = x12) : (True) ∧ (True) ∧ rxIROPK_6 S0 ws (bx_up (bx_up (bx_up (bx_up (bx_up (bx_up S 428 x10 st) 429 x10 0) 427 0 (x10 + 1)) 425 x11 st) 426 x11 x10) 412 10 (x11 + 1)) st x10 1 ∧ rxmROPK_6 S0 ws (bx_up (bx_up (bx_up (bx_up (bx_up (bx_up S 428 x10 st) 429 x10 0) 427 0 (x10 + 1)) 425 x11 st) 426 x11 x10) 412 10 (x11 + 1)) st x10 1 < rxmROPK_3 S0 ws S st sr := by
  obtain ⟨hI, hx⟩ := hinv
  obtain ⟨a_, b_, c_, d_⟩ := rxcROP_3_1 hP hin I0 hI l8 u8 l9 u9 l10 u10 l11 u11 l12 u12 f0 e8 e4 e0
  exact ⟨a_, b_, ⟨c_, (by
    obtain ⟨hw, hrest⟩ := hI
    obtain ⟨hD, b0, b8, hc, st2, hw2, hst, hn1⟩ := hP
    have hs2 : st = st2 := Option.some.inj (congrArg (fun l : List Int => l[1]?) (hw.symm.trans hw2))
    subst hs2
    have h1s := rzOp_str (T := rzCut (S0 411)) (n := S0 412 1) (f := S0 412 2) (s := S0 424 (S0 412 8)) hn1 hst
    have h4s := rzOp_ge (T := rzCut (S0 411)) (n := S0 412 1) (f := S0 412 2) (s := S0 424 (S0 412 8)) hn1 hst
    intro b c hC hW hb
    obtain ⟨g1, g2⟩ := hx b c hC hW hb
    have rw_ := rkRed_w (l := rzStr st) h1s hW
    have zc := g1.2.2.1
    have zz := g1.2.2.2.1
    have hz : S 427 0 = x10 := e8
    have hm10 : (bx_up (bx_up (bx_up S 428 x10 st) 429 x10 0) 427 0 (x10 + 1)) 412 10 = x11 := e4
    have es : rzStr st = 1 := by
      rw [show st = 5 by omega]
      rfl
    rw [es] at g1 rw_ zc zz
    have q := rkD_emit (S_p := (bx_up (bx_up (bx_up S 428 x10 st) 429 x10 0) 427 0 (x10 + 1))) (op := 30) (a := 0) g1 ((bx_up_ne (by omega)).trans ((bx_up_ne (by omega)).trans ((bx_up_ne (by omega))))) ((bx_up_at).trans (by omega)) (fun j => ⟨(bx_up_ne (by omega)).trans ((bx_up_ne (by omega)).trans ((bx_up_ne (by omega)))), (bx_up_ne (by omega)).trans ((bx_up_ne (by omega)).trans ((bx_up_ne (by omega))))⟩) (fun j hj => (bx_up_ne (by omega)).trans ((bx_up_ne (by omega)).trans ((bx_up_ne (by omega))))) (fun j hj => (bx_up_ne (by omega)).trans ((bx_up_ne (by omega)).trans ((bx_up_ne (by omega))))) (by rw [hz]; exact (((bx_up_ne (by omega)).trans ((bx_up_ne (by omega)))).trans bx_up_at).trans ((by omega : st = 5).trans rkEn_30.symm)) (by rw [hz]; exact (((bx_up_ne (by omega))).trans bx_up_at).trans (rkEi_z (by omega)).symm)
    have q2 := rkD_push (S_p := (bx_up (bx_up (bx_up (bx_up (bx_up (bx_up S 428 x10 st) 429 x10 0) 427 0 (x10 + 1)) 425 x11 st) 426 x11 x10) 412 10 (x11 + 1))) (op := 30) (a := rkM (rkRed 1 c)) q.1 ((bx_up_at).trans (by rw [hm10])) ((bx_up_ne (by omega)).trans ((bx_up_ne (by omega)).trans ((bx_up_ne (by omega))))) (fun j hj => (bx_up_ne (by omega)).trans ((bx_up_ne (by omega)).trans ((bx_up_ne (by omega))))) (fun j hj => (bx_up_ne (by omega)).trans ((bx_up_ne (by omega)).trans ((bx_up_ne (by omega))))) (fun j => ⟨(bx_up_ne (by omega)).trans ((bx_up_ne (by omega)).trans ((bx_up_ne (by omega)))), (bx_up_ne (by omega)).trans ((bx_up_ne (by omega)).trans ((bx_up_ne (by omega))))⟩) (by rw [hm10]; exact (((bx_up_ne (by omega)).trans ((bx_up_ne (by omega)))).trans bx_up_at).trans ((by omega : st = 5).trans rkEn_30.symm)) (fun _ => by rw [hm10]; exact (((bx_up_ne (by omega))).trans bx_up_at).trans (by omega))
    have hop := rkSt_op (ws := rzWs S0) (c := c) hc
    rw [rzLv_eq b0, hop.2.1 (by omega)]
    exact ⟨q2.1, (g2.tr q.2).tr q2.2⟩)⟩, d_⟩
theorem rxcROPK_3_2 {S0 : Nat → Int → Int} {ws : List Int} {S : Nat → Int → Int} {st sr x10 x11 x12 : Int} (hP : rxPROPK S0 ws) (hin : bx_same rxL (bx_mdl rxCROPK.2.2.1) S0 S) (I0 : bx_Inv rxL S) (hinv : rxIROPK_3 S0 ws S st sr) (l8 : 5 ≤ st) (u8 : st ≤ 5) (l9 : 0 ≤ sr) (u9 : sr ≤ 6) (l10 : 0 ≤ x10) (u10 : x10 ≤ 399) (l11 : 0 ≤ x11) (u11 : x11 ≤ 399) (l12 : 0 ≤ x12) (u12 : x12 ≤ 8) (f0 : st ≠ 4) (e9 : S 427 0 = x10) (e5 : (bx_up (bx_up (bx_up S 428 x10 st) 429 x10 0) 427 0 (x10 + 1)) 412 10 = x11) (e1 : (bx_up (bx_up (bx_up (bx_up (bx_up (bx_up S 428 x10 st) 429 x10 0) 427 0 (x10 + 1)) 425 x11 st) 426 x11 x10) 412 10 (x11 + 1)) 412 8 = x12) : (True) ∧ (True) ∧ rxIROPK_6 S0 ws (bx_up (bx_up (bx_up (bx_up (bx_up (bx_up (bx_up S 428 x10 st) 429 x10 0) 427 0 (x10 + 1)) 425 x11 st) 426 x11 x10) 412 10 (x11 + 1)) 424 x12 1) st x10 1 ∧ rxmROPK_6 S0 ws (bx_up (bx_up (bx_up (bx_up (bx_up (bx_up (bx_up S 428 x10 st) 429 x10 0) 427 0 (x10 + 1)) 425 x11 st) 426 x11 x10) 412 10 (x11 + 1)) 424 x12 1) st x10 1 < rxmROPK_3 S0 ws S st sr := by
  obtain ⟨hI, hx⟩ := hinv
  obtain ⟨a_, b_, c_, d_⟩ := rxcROP_3_2 hP hin I0 hI l8 u8 l9 u9 l10 u10 l11 u11 l12 u12 f0 e9 e5 e1
  exact ⟨a_, b_, ⟨c_, (by
    obtain ⟨hw, hrest⟩ := hI
    obtain ⟨hD, b0, b8, hc, st2, hw2, hst, hn1⟩ := hP
    have hs2 : st = st2 := Option.some.inj (congrArg (fun l : List Int => l[1]?) (hw.symm.trans hw2))
    subst hs2
    have h1s := rzOp_str (T := rzCut (S0 411)) (n := S0 412 1) (f := S0 412 2) (s := S0 424 (S0 412 8)) hn1 hst
    have h4s := rzOp_ge (T := rzCut (S0 411)) (n := S0 412 1) (f := S0 412 2) (s := S0 424 (S0 412 8)) hn1 hst
    intro b c hC hW hb
    obtain ⟨g1, g2⟩ := hx b c hC hW hb
    have rw_ := rkRed_w (l := rzStr st) h1s hW
    have zc := g1.2.2.1
    have zz := g1.2.2.2.1
    have hz : S 427 0 = x10 := e9
    have hm10 : (bx_up (bx_up (bx_up S 428 x10 st) 429 x10 0) 427 0 (x10 + 1)) 412 10 = x11 := e5
    have es : rzStr st = 1 := by
      rw [show st = 5 by omega]
      rfl
    rw [es] at g1 rw_ zc zz
    have q := rkD_emit (S_p := (bx_up (bx_up (bx_up S 428 x10 st) 429 x10 0) 427 0 (x10 + 1))) (op := 30) (a := 0) g1 ((bx_up_ne (by omega)).trans ((bx_up_ne (by omega)).trans ((bx_up_ne (by omega))))) ((bx_up_at).trans (by omega)) (fun j => ⟨(bx_up_ne (by omega)).trans ((bx_up_ne (by omega)).trans ((bx_up_ne (by omega)))), (bx_up_ne (by omega)).trans ((bx_up_ne (by omega)).trans ((bx_up_ne (by omega))))⟩) (fun j hj => (bx_up_ne (by omega)).trans ((bx_up_ne (by omega)).trans ((bx_up_ne (by omega))))) (fun j hj => (bx_up_ne (by omega)).trans ((bx_up_ne (by omega)).trans ((bx_up_ne (by omega))))) (by rw [hz]; exact (((bx_up_ne (by omega)).trans ((bx_up_ne (by omega)))).trans bx_up_at).trans ((by omega : st = 5).trans rkEn_30.symm)) (by rw [hz]; exact (((bx_up_ne (by omega))).trans bx_up_at).trans (rkEi_z (by omega)).symm)
    have q2 := rkD_push (S_p := (bx_up (bx_up (bx_up (bx_up (bx_up (bx_up (bx_up S 428 x10 st) 429 x10 0) 427 0 (x10 + 1)) 425 x11 st) 426 x11 x10) 412 10 (x11 + 1)) 424 x12 1)) (op := 30) (a := rkM (rkRed 1 c)) q.1 (((bx_up_ne (by omega)).trans (bx_up_at)).trans (by rw [hm10])) ((bx_up_ne (by omega)).trans ((bx_up_ne (by omega)).trans ((bx_up_ne (by omega)).trans ((bx_up_ne (by omega)))))) (fun j hj => (bx_up_ne (by omega)).trans ((bx_up_ne (by omega)).trans ((bx_up_ne (by omega)).trans ((bx_up_ne (by omega)))))) (fun j hj => (bx_up_ne (by omega)).trans ((bx_up_ne (by omega)).trans ((bx_up_ne (by omega)).trans ((bx_up_ne (by omega)))))) (fun j => ⟨(bx_up_ne (by omega)).trans ((bx_up_ne (by omega)).trans ((bx_up_ne (by omega)).trans ((bx_up_ne (by omega))))), (bx_up_ne (by omega)).trans ((bx_up_ne (by omega)).trans ((bx_up_ne (by omega)).trans ((bx_up_ne (by omega)))))⟩) (by rw [hm10]; exact (((bx_up_ne (by omega)).trans ((bx_up_ne (by omega)).trans ((bx_up_ne (by omega))))).trans bx_up_at).trans ((by omega : st = 5).trans rkEn_30.symm)) (fun _ => by rw [hm10]; exact (((bx_up_ne (by omega)).trans ((bx_up_ne (by omega)))).trans bx_up_at).trans (by omega))
    have hop := rkSt_op (ws := rzWs S0) (c := c) hc
    rw [rzLv_eq b0, hop.2.1 (by omega)]
    exact ⟨q2.1, (g2.tr q.2).tr q2.2⟩)⟩, d_⟩
theorem rxcROPK_3_3 {S0 : Nat → Int → Int} {ws : List Int} {S : Nat → Int → Int} {st sr x10 x11 x12 : Int} (hP : rxPROPK S0 ws) (hin : bx_same rxL (bx_mdl rxCROPK.2.2.1) S0 S) (I0 : bx_Inv rxL S) (hinv : rxIROPK_3 S0 ws S st sr) (l8 : 5 ≤ st) (u8 : st ≤ 5) (l9 : 0 ≤ sr) (u9 : sr ≤ 6) (l10 : 0 ≤ x10) (u10 : x10 ≤ 399) (l11 : 400 ≤ x11) (u11 : x11 ≤ 400) (l12 : (-2147483648) ≤ x12) (u12 : x12 ≤ (-1)) (f0 : st ≠ 4) (e5 : S 427 0 = x10) (e1 : (bx_up (bx_up (bx_up S 428 x10 st) 429 x10 0) 427 0 (x10 + 1)) 412 10 = x11) (e0 : (bx_up (bx_up (bx_up S 428 x10 st) 429 x10 0) 427 0 (x10 + 1)) 412 8 = x12) : (True) ∧ (True) ∧ rxIROPK_6 S0 ws (bx_up (bx_up (bx_up S 428 x10 st) 429 x10 0) 427 0 (x10 + 1)) st x10 1 ∧ rxmROPK_6 S0 ws (bx_up (bx_up (bx_up S 428 x10 st) 429 x10 0) 427 0 (x10 + 1)) st x10 1 < rxmROPK_3 S0 ws S st sr := by
  obtain ⟨hI, hx⟩ := hinv
  obtain ⟨a_, b_, c_, d_⟩ := rxcROP_3_3 hP hin I0 hI l8 u8 l9 u9 l10 u10 l11 u11 l12 u12 f0 e5 e1 e0
  exact ⟨a_, b_, ⟨c_, (by
    obtain ⟨hw, hrest⟩ := hI
    obtain ⟨hD, b0, b8, hc, st2, hw2, hst, hn1⟩ := hP
    have hs2 : st = st2 := Option.some.inj (congrArg (fun l : List Int => l[1]?) (hw.symm.trans hw2))
    subst hs2
    have h1s := rzOp_str (T := rzCut (S0 411)) (n := S0 412 1) (f := S0 412 2) (s := S0 424 (S0 412 8)) hn1 hst
    have h4s := rzOp_ge (T := rzCut (S0 411)) (n := S0 412 1) (f := S0 412 2) (s := S0 424 (S0 412 8)) hn1 hst
    intro b c hC hW hb
    obtain ⟨g1, g2⟩ := hx b c hC hW hb
    have rw_ := rkRed_w (l := rzStr st) h1s hW
    have zc := g1.2.2.1
    have zz := g1.2.2.2.1
    have hz : S 427 0 = x10 := e5
    have hw10 : S 412 10 = x11 := (((bx_up_ne (by omega)).trans ((bx_up_ne (by omega)).trans ((bx_up_ne (by omega))))).symm.trans e1)
    exfalso
    omega)⟩, d_⟩
theorem rxcROPK_3_4 {S0 : Nat → Int → Int} {ws : List Int} {S : Nat → Int → Int} {st sr x10 x11 x12 : Int} (hP : rxPROPK S0 ws) (hin : bx_same rxL (bx_mdl rxCROPK.2.2.1) S0 S) (I0 : bx_Inv rxL S) (hinv : rxIROPK_3 S0 ws S st sr) (l8 : 5 ≤ st) (u8 : st ≤ 5) (l9 : 0 ≤ sr) (u9 : sr ≤ 6) (l10 : 0 ≤ x10) (u10 : x10 ≤ 399) (l11 : 400 ≤ x11) (u11 : x11 ≤ 400) (l12 : 9 ≤ x12) (u12 : x12 ≤ 2147483647) (f0 : st ≠ 4) (e5 : S 427 0 = x10) (e1 : (bx_up (bx_up (bx_up S 428 x10 st) 429 x10 0) 427 0 (x10 + 1)) 412 10 = x11) (e0 : (bx_up (bx_up (bx_up S 428 x10 st) 429 x10 0) 427 0 (x10 + 1)) 412 8 = x12) : (True) ∧ (True) ∧ rxIROPK_6 S0 ws (bx_up (bx_up (bx_up S 428 x10 st) 429 x10 0) 427 0 (x10 + 1)) st x10 1 ∧ rxmROPK_6 S0 ws (bx_up (bx_up (bx_up S 428 x10 st) 429 x10 0) 427 0 (x10 + 1)) st x10 1 < rxmROPK_3 S0 ws S st sr := by
  obtain ⟨hI, hx⟩ := hinv
  obtain ⟨a_, b_, c_, d_⟩ := rxcROP_3_4 hP hin I0 hI l8 u8 l9 u9 l10 u10 l11 u11 l12 u12 f0 e5 e1 e0
  exact ⟨a_, b_, ⟨c_, (by
    obtain ⟨hw, hrest⟩ := hI
    obtain ⟨hD, b0, b8, hc, st2, hw2, hst, hn1⟩ := hP
    have hs2 : st = st2 := Option.some.inj (congrArg (fun l : List Int => l[1]?) (hw.symm.trans hw2))
    subst hs2
    have h1s := rzOp_str (T := rzCut (S0 411)) (n := S0 412 1) (f := S0 412 2) (s := S0 424 (S0 412 8)) hn1 hst
    have h4s := rzOp_ge (T := rzCut (S0 411)) (n := S0 412 1) (f := S0 412 2) (s := S0 424 (S0 412 8)) hn1 hst
    intro b c hC hW hb
    obtain ⟨g1, g2⟩ := hx b c hC hW hb
    have rw_ := rkRed_w (l := rzStr st) h1s hW
    have zc := g1.2.2.1
    have zz := g1.2.2.2.1
    have hz : S 427 0 = x10 := e5
    have hw10 : S 412 10 = x11 := (((bx_up_ne (by omega)).trans ((bx_up_ne (by omega)).trans ((bx_up_ne (by omega))))).symm.trans e1)
    exfalso
    omega)⟩, d_⟩
theorem rxcROPK_3_5 {S0 : Nat → Int → Int} {ws : List Int} {S : Nat → Int → Int} {st sr x10 x11 x12 : Int} (hP : rxPROPK S0 ws) (hin : bx_same rxL (bx_mdl rxCROPK.2.2.1) S0 S) (I0 : bx_Inv rxL S) (hinv : rxIROPK_3 S0 ws S st sr) (l8 : 5 ≤ st) (u8 : st ≤ 5) (l9 : 0 ≤ sr) (u9 : sr ≤ 6) (l10 : 0 ≤ x10) (u10 : x10 ≤ 399) (l11 : 400 ≤ x11) (u11 : x11 ≤ 400) (l12 : 0 ≤ x12) (u12 : x12 ≤ 8) (f0 : st ≠ 4) (e6 : S 427 0 = x10) (e2 : (bx_up (bx_up (bx_up S 428 x10 st) 429 x10 0) 427 0 (x10 + 1)) 412 10 = x11) (e1 : (bx_up (bx_up (bx_up S 428 x10 st) 429 x10 0) 427 0 (x10 + 1)) 412 8 = x12) : (True) ∧ (True) ∧ rxIROPK_6 S0 ws (bx_up (bx_up (bx_up (bx_up S 428 x10 st) 429 x10 0) 427 0 (x10 + 1)) 424 x12 1) st x10 1 ∧ rxmROPK_6 S0 ws (bx_up (bx_up (bx_up (bx_up S 428 x10 st) 429 x10 0) 427 0 (x10 + 1)) 424 x12 1) st x10 1 < rxmROPK_3 S0 ws S st sr := by
  obtain ⟨hI, hx⟩ := hinv
  obtain ⟨a_, b_, c_, d_⟩ := rxcROP_3_5 hP hin I0 hI l8 u8 l9 u9 l10 u10 l11 u11 l12 u12 f0 e6 e2 e1
  exact ⟨a_, b_, ⟨c_, (by
    obtain ⟨hw, hrest⟩ := hI
    obtain ⟨hD, b0, b8, hc, st2, hw2, hst, hn1⟩ := hP
    have hs2 : st = st2 := Option.some.inj (congrArg (fun l : List Int => l[1]?) (hw.symm.trans hw2))
    subst hs2
    have h1s := rzOp_str (T := rzCut (S0 411)) (n := S0 412 1) (f := S0 412 2) (s := S0 424 (S0 412 8)) hn1 hst
    have h4s := rzOp_ge (T := rzCut (S0 411)) (n := S0 412 1) (f := S0 412 2) (s := S0 424 (S0 412 8)) hn1 hst
    intro b c hC hW hb
    obtain ⟨g1, g2⟩ := hx b c hC hW hb
    have rw_ := rkRed_w (l := rzStr st) h1s hW
    have zc := g1.2.2.1
    have zz := g1.2.2.2.1
    have hz : S 427 0 = x10 := e6
    have hw10 : S 412 10 = x11 := (((bx_up_ne (by omega)).trans ((bx_up_ne (by omega)).trans ((bx_up_ne (by omega))))).symm.trans e2)
    exfalso
    omega)⟩, d_⟩
theorem rxcROPK_3_6 {S0 : Nat → Int → Int} {ws : List Int} {S : Nat → Int → Int} {st sr x10 x11 x12 : Int} (hP : rxPROPK S0 ws) (hin : bx_same rxL (bx_mdl rxCROPK.2.2.1) S0 S) (I0 : bx_Inv rxL S) (hinv : rxIROPK_3 S0 ws S st sr) (l8 : 5 ≤ st) (u8 : st ≤ 5) (l9 : 0 ≤ sr) (u9 : sr ≤ 6) (l10 : 400 ≤ x10) (u10 : x10 ≤ 400) (l11 : 0 ≤ x11) (u11 : x11 ≤ 399) (l12 : (-2147483648) ≤ x12) (u12 : x12 ≤ (-1)) (f0 : st ≠ 4) (e5 : S 427 0 = x10) (e4 : S 412 10 = x11) (e0 : (bx_up (bx_up (bx_up S 425 x11 st) 426 x11 x10) 412 10 (x11 + 1)) 412 8 = x12) : (True) ∧ (True) ∧ rxIROPK_6 S0 ws (bx_up (bx_up (bx_up S 425 x11 st) 426 x11 x10) 412 10 (x11 + 1)) st x10 1 ∧ rxmROPK_6 S0 ws (bx_up (bx_up (bx_up S 425 x11 st) 426 x11 x10) 412 10 (x11 + 1)) st x10 1 < rxmROPK_3 S0 ws S st sr := by
  obtain ⟨hI, hx⟩ := hinv
  obtain ⟨a_, b_, c_, d_⟩ := rxcROP_3_6 hP hin I0 hI l8 u8 l9 u9 l10 u10 l11 u11 l12 u12 f0 e5 e4 e0
  exact ⟨a_, b_, ⟨c_, (by
    obtain ⟨hw, hrest⟩ := hI
    obtain ⟨hD, b0, b8, hc, st2, hw2, hst, hn1⟩ := hP
    have hs2 : st = st2 := Option.some.inj (congrArg (fun l : List Int => l[1]?) (hw.symm.trans hw2))
    subst hs2
    have h1s := rzOp_str (T := rzCut (S0 411)) (n := S0 412 1) (f := S0 412 2) (s := S0 424 (S0 412 8)) hn1 hst
    have h4s := rzOp_ge (T := rzCut (S0 411)) (n := S0 412 1) (f := S0 412 2) (s := S0 424 (S0 412 8)) hn1 hst
    intro b c hC hW hb
    obtain ⟨g1, g2⟩ := hx b c hC hW hb
    have rw_ := rkRed_w (l := rzStr st) h1s hW
    have zc := g1.2.2.1
    have zz := g1.2.2.2.1
    have hz : S 427 0 = x10 := e5
    exfalso
    omega)⟩, d_⟩
theorem rxcROPK_3_7 {S0 : Nat → Int → Int} {ws : List Int} {S : Nat → Int → Int} {st sr x10 x11 x12 : Int} (hP : rxPROPK S0 ws) (hin : bx_same rxL (bx_mdl rxCROPK.2.2.1) S0 S) (I0 : bx_Inv rxL S) (hinv : rxIROPK_3 S0 ws S st sr) (l8 : 5 ≤ st) (u8 : st ≤ 5) (l9 : 0 ≤ sr) (u9 : sr ≤ 6) (l10 : 400 ≤ x10) (u10 : x10 ≤ 400) (l11 : 0 ≤ x11) (u11 : x11 ≤ 399) (l12 : 9 ≤ x12) (u12 : x12 ≤ 2147483647) (f0 : st ≠ 4) (e5 : S 427 0 = x10) (e4 : S 412 10 = x11) (e0 : (bx_up (bx_up (bx_up S 425 x11 st) 426 x11 x10) 412 10 (x11 + 1)) 412 8 = x12) : (True) ∧ (True) ∧ rxIROPK_6 S0 ws (bx_up (bx_up (bx_up S 425 x11 st) 426 x11 x10) 412 10 (x11 + 1)) st x10 1 ∧ rxmROPK_6 S0 ws (bx_up (bx_up (bx_up S 425 x11 st) 426 x11 x10) 412 10 (x11 + 1)) st x10 1 < rxmROPK_3 S0 ws S st sr := by
  obtain ⟨hI, hx⟩ := hinv
  obtain ⟨a_, b_, c_, d_⟩ := rxcROP_3_7 hP hin I0 hI l8 u8 l9 u9 l10 u10 l11 u11 l12 u12 f0 e5 e4 e0
  exact ⟨a_, b_, ⟨c_, (by
    obtain ⟨hw, hrest⟩ := hI
    obtain ⟨hD, b0, b8, hc, st2, hw2, hst, hn1⟩ := hP
    have hs2 : st = st2 := Option.some.inj (congrArg (fun l : List Int => l[1]?) (hw.symm.trans hw2))
    subst hs2
    have h1s := rzOp_str (T := rzCut (S0 411)) (n := S0 412 1) (f := S0 412 2) (s := S0 424 (S0 412 8)) hn1 hst
    have h4s := rzOp_ge (T := rzCut (S0 411)) (n := S0 412 1) (f := S0 412 2) (s := S0 424 (S0 412 8)) hn1 hst
    intro b c hC hW hb
    obtain ⟨g1, g2⟩ := hx b c hC hW hb
    have rw_ := rkRed_w (l := rzStr st) h1s hW
    have zc := g1.2.2.1
    have zz := g1.2.2.2.1
    have hz : S 427 0 = x10 := e5
    exfalso
    omega)⟩, d_⟩
theorem rxcROPK_3_8 {S0 : Nat → Int → Int} {ws : List Int} {S : Nat → Int → Int} {st sr x10 x11 x12 : Int} (hP : rxPROPK S0 ws) (hin : bx_same rxL (bx_mdl rxCROPK.2.2.1) S0 S) (I0 : bx_Inv rxL S) (hinv : rxIROPK_3 S0 ws S st sr) (l8 : 5 ≤ st) (u8 : st ≤ 5) (l9 : 0 ≤ sr) (u9 : sr ≤ 6) (l10 : 400 ≤ x10) (u10 : x10 ≤ 400) (l11 : 0 ≤ x11) (u11 : x11 ≤ 399) (l12 : 0 ≤ x12) (u12 : x12 ≤ 8) (f0 : st ≠ 4) (e6 : S 427 0 = x10) (e5 : S 412 10 = x11) (e1 : (bx_up (bx_up (bx_up S 425 x11 st) 426 x11 x10) 412 10 (x11 + 1)) 412 8 = x12) : (True) ∧ (True) ∧ rxIROPK_6 S0 ws (bx_up (bx_up (bx_up (bx_up S 425 x11 st) 426 x11 x10) 412 10 (x11 + 1)) 424 x12 1) st x10 1 ∧ rxmROPK_6 S0 ws (bx_up (bx_up (bx_up (bx_up S 425 x11 st) 426 x11 x10) 412 10 (x11 + 1)) 424 x12 1) st x10 1 < rxmROPK_3 S0 ws S st sr := by
  obtain ⟨hI, hx⟩ := hinv
  obtain ⟨a_, b_, c_, d_⟩ := rxcROP_3_8 hP hin I0 hI l8 u8 l9 u9 l10 u10 l11 u11 l12 u12 f0 e6 e5 e1
  exact ⟨a_, b_, ⟨c_, (by
    obtain ⟨hw, hrest⟩ := hI
    obtain ⟨hD, b0, b8, hc, st2, hw2, hst, hn1⟩ := hP
    have hs2 : st = st2 := Option.some.inj (congrArg (fun l : List Int => l[1]?) (hw.symm.trans hw2))
    subst hs2
    have h1s := rzOp_str (T := rzCut (S0 411)) (n := S0 412 1) (f := S0 412 2) (s := S0 424 (S0 412 8)) hn1 hst
    have h4s := rzOp_ge (T := rzCut (S0 411)) (n := S0 412 1) (f := S0 412 2) (s := S0 424 (S0 412 8)) hn1 hst
    intro b c hC hW hb
    obtain ⟨g1, g2⟩ := hx b c hC hW hb
    have rw_ := rkRed_w (l := rzStr st) h1s hW
    have zc := g1.2.2.1
    have zz := g1.2.2.2.1
    have hz : S 427 0 = x10 := e6
    exfalso
    omega)⟩, d_⟩
theorem rxcROPK_3_9 {S0 : Nat → Int → Int} {ws : List Int} {S : Nat → Int → Int} {st sr x10 x11 x12 : Int} (hP : rxPROPK S0 ws) (hin : bx_same rxL (bx_mdl rxCROPK.2.2.1) S0 S) (I0 : bx_Inv rxL S) (hinv : rxIROPK_3 S0 ws S st sr) (l8 : 5 ≤ st) (u8 : st ≤ 5) (l9 : 0 ≤ sr) (u9 : sr ≤ 6) (l10 : 400 ≤ x10) (u10 : x10 ≤ 400) (l11 : 400 ≤ x11) (u11 : x11 ≤ 400) (l12 : (-2147483648) ≤ x12) (u12 : x12 ≤ (-1)) (f0 : st ≠ 4) (e2 : S 427 0 = x10) (e1 : S 412 10 = x11) (e0 : S 412 8 = x12) : (True) ∧ (True) ∧ rxIROPK_6 S0 ws S st x10 1 ∧ rxmROPK_6 S0 ws S st x10 1 < rxmROPK_3 S0 ws S st sr := by
  obtain ⟨hI, hx⟩ := hinv
  obtain ⟨a_, b_, c_, d_⟩ := rxcROP_3_9 hP hin I0 hI l8 u8 l9 u9 l10 u10 l11 u11 l12 u12 f0 e2 e1 e0
  exact ⟨a_, b_, ⟨c_, (by
    obtain ⟨hw, hrest⟩ := hI
    obtain ⟨hD, b0, b8, hc, st2, hw2, hst, hn1⟩ := hP
    have hs2 : st = st2 := Option.some.inj (congrArg (fun l : List Int => l[1]?) (hw.symm.trans hw2))
    subst hs2
    have h1s := rzOp_str (T := rzCut (S0 411)) (n := S0 412 1) (f := S0 412 2) (s := S0 424 (S0 412 8)) hn1 hst
    have h4s := rzOp_ge (T := rzCut (S0 411)) (n := S0 412 1) (f := S0 412 2) (s := S0 424 (S0 412 8)) hn1 hst
    intro b c hC hW hb
    obtain ⟨g1, g2⟩ := hx b c hC hW hb
    have rw_ := rkRed_w (l := rzStr st) h1s hW
    have zc := g1.2.2.1
    have zz := g1.2.2.2.1
    have hz : S 427 0 = x10 := e2
    exfalso
    omega)⟩, d_⟩
theorem rxcROPK_3_10 {S0 : Nat → Int → Int} {ws : List Int} {S : Nat → Int → Int} {st sr x10 x11 x12 : Int} (hP : rxPROPK S0 ws) (hin : bx_same rxL (bx_mdl rxCROPK.2.2.1) S0 S) (I0 : bx_Inv rxL S) (hinv : rxIROPK_3 S0 ws S st sr) (l8 : 5 ≤ st) (u8 : st ≤ 5) (l9 : 0 ≤ sr) (u9 : sr ≤ 6) (l10 : 400 ≤ x10) (u10 : x10 ≤ 400) (l11 : 400 ≤ x11) (u11 : x11 ≤ 400) (l12 : 9 ≤ x12) (u12 : x12 ≤ 2147483647) (f0 : st ≠ 4) (e2 : S 427 0 = x10) (e1 : S 412 10 = x11) (e0 : S 412 8 = x12) : (True) ∧ (True) ∧ rxIROPK_6 S0 ws S st x10 1 ∧ rxmROPK_6 S0 ws S st x10 1 < rxmROPK_3 S0 ws S st sr := by
  obtain ⟨hI, hx⟩ := hinv
  obtain ⟨a_, b_, c_, d_⟩ := rxcROP_3_10 hP hin I0 hI l8 u8 l9 u9 l10 u10 l11 u11 l12 u12 f0 e2 e1 e0
  exact ⟨a_, b_, ⟨c_, (by
    obtain ⟨hw, hrest⟩ := hI
    obtain ⟨hD, b0, b8, hc, st2, hw2, hst, hn1⟩ := hP
    have hs2 : st = st2 := Option.some.inj (congrArg (fun l : List Int => l[1]?) (hw.symm.trans hw2))
    subst hs2
    have h1s := rzOp_str (T := rzCut (S0 411)) (n := S0 412 1) (f := S0 412 2) (s := S0 424 (S0 412 8)) hn1 hst
    have h4s := rzOp_ge (T := rzCut (S0 411)) (n := S0 412 1) (f := S0 412 2) (s := S0 424 (S0 412 8)) hn1 hst
    intro b c hC hW hb
    obtain ⟨g1, g2⟩ := hx b c hC hW hb
    have rw_ := rkRed_w (l := rzStr st) h1s hW
    have zc := g1.2.2.1
    have zz := g1.2.2.2.1
    have hz : S 427 0 = x10 := e2
    exfalso
    omega)⟩, d_⟩
theorem rxcROPK_3_11 {S0 : Nat → Int → Int} {ws : List Int} {S : Nat → Int → Int} {st sr x10 x11 x12 : Int} (hP : rxPROPK S0 ws) (hin : bx_same rxL (bx_mdl rxCROPK.2.2.1) S0 S) (I0 : bx_Inv rxL S) (hinv : rxIROPK_3 S0 ws S st sr) (l8 : 5 ≤ st) (u8 : st ≤ 5) (l9 : 0 ≤ sr) (u9 : sr ≤ 6) (l10 : 400 ≤ x10) (u10 : x10 ≤ 400) (l11 : 400 ≤ x11) (u11 : x11 ≤ 400) (l12 : 0 ≤ x12) (u12 : x12 ≤ 8) (f0 : st ≠ 4) (e3 : S 427 0 = x10) (e2 : S 412 10 = x11) (e1 : S 412 8 = x12) : (True) ∧ (True) ∧ rxIROPK_6 S0 ws (bx_up S 424 x12 1) st x10 1 ∧ rxmROPK_6 S0 ws (bx_up S 424 x12 1) st x10 1 < rxmROPK_3 S0 ws S st sr := by
  obtain ⟨hI, hx⟩ := hinv
  obtain ⟨a_, b_, c_, d_⟩ := rxcROP_3_11 hP hin I0 hI l8 u8 l9 u9 l10 u10 l11 u11 l12 u12 f0 e3 e2 e1
  exact ⟨a_, b_, ⟨c_, (by
    obtain ⟨hw, hrest⟩ := hI
    obtain ⟨hD, b0, b8, hc, st2, hw2, hst, hn1⟩ := hP
    have hs2 : st = st2 := Option.some.inj (congrArg (fun l : List Int => l[1]?) (hw.symm.trans hw2))
    subst hs2
    have h1s := rzOp_str (T := rzCut (S0 411)) (n := S0 412 1) (f := S0 412 2) (s := S0 424 (S0 412 8)) hn1 hst
    have h4s := rzOp_ge (T := rzCut (S0 411)) (n := S0 412 1) (f := S0 412 2) (s := S0 424 (S0 412 8)) hn1 hst
    intro b c hC hW hb
    obtain ⟨g1, g2⟩ := hx b c hC hW hb
    have rw_ := rkRed_w (l := rzStr st) h1s hW
    have zc := g1.2.2.1
    have zz := g1.2.2.2.1
    have hz : S 427 0 = x10 := e3
    exfalso
    omega)⟩, d_⟩
theorem rxcROPK_3_12 {S0 : Nat → Int → Int} {ws : List Int} {S : Nat → Int → Int} {st sr x10 x11 : Int} (hP : rxPROPK S0 ws) (hin : bx_same rxL (bx_mdl rxCROPK.2.2.1) S0 S) (I0 : bx_Inv rxL S) (hinv : rxIROPK_3 S0 ws S st sr) (l8 : 0 ≤ st) (u8 : st ≤ 13) (l9 : 0 ≤ sr) (u9 : sr ≤ 6) (l10 : 0 ≤ x10) (u10 : x10 ≤ 400) (l11 : 0 ≤ x11) (u11 : x11 ≤ 399) (f0 : st ≠ 5) (f1 : st ≠ 4) (e4 : S 427 0 = x10) (e3 : S 412 10 = x11) : (True) ∧ (True) ∧ rxIROPK_4 S0 ws (bx_up (bx_up (bx_up S 425 x11 st) 426 x11 x10) 412 10 (x11 + 1)) st x10 0 ∧ rxmROPK_4 S0 ws (bx_up (bx_up (bx_up S 425 x11 st) 426 x11 x10) 412 10 (x11 + 1)) st x10 0 < rxmROPK_3 S0 ws S st sr := by
  obtain ⟨hI, hx⟩ := hinv
  obtain ⟨a_, b_, c_, d_⟩ := rxcROP_3_12 hP hin I0 hI l8 u8 l9 u9 l10 u10 l11 u11 f0 f1 e4 e3
  exact ⟨a_, b_, ⟨c_, (by
    obtain ⟨hw, hrest⟩ := hI
    obtain ⟨hD, b0, b8, hc, st2, hw2, hst, hn1⟩ := hP
    have hs2 : st = st2 := Option.some.inj (congrArg (fun l : List Int => l[1]?) (hw.symm.trans hw2))
    subst hs2
    have h1s := rzOp_str (T := rzCut (S0 411)) (n := S0 412 1) (f := S0 412 2) (s := S0 424 (S0 412 8)) hn1 hst
    have h4s := rzOp_ge (T := rzCut (S0 411)) (n := S0 412 1) (f := S0 412 2) (s := S0 424 (S0 412 8)) hn1 hst
    refine ⟨by omega, ?_⟩
    intro b c hC hW hb
    obtain ⟨g1, g2⟩ := hx b c hC hW hb
    have rw_ := rkRed_w (l := rzStr st) h1s hW
    have zc := g1.2.2.1
    have zz := g1.2.2.2.1
    have hw10 : S 412 10 = x11 := e3
    have q := rkD_push (S_p := (bx_up (bx_up (bx_up S 425 x11 st) 426 x11 x10) 412 10 (x11 + 1))) (op := st + 14) (a := 0) g1 ((bx_up_at).trans (by omega)) ((bx_up_ne (by omega)).trans ((bx_up_ne (by omega)).trans ((bx_up_ne (by omega))))) (fun j hj => (bx_up_ne (by omega)).trans ((bx_up_ne (by omega)).trans ((bx_up_ne (by omega))))) (fun j hj => (bx_up_ne (by omega)).trans ((bx_up_ne (by omega)).trans ((bx_up_ne (by omega))))) (fun j => ⟨(bx_up_ne (by omega)).trans ((bx_up_ne (by omega)).trans ((bx_up_ne (by omega)))), (bx_up_ne (by omega)).trans ((bx_up_ne (by omega)).trans ((bx_up_ne (by omega))))⟩) (by rw [hw10]; exact (((bx_up_ne (by omega)).trans ((bx_up_ne (by omega)))).trans bx_up_at).trans ((rkEn_2 (by omega) (by omega)).trans (by omega)).symm) (fun g => by rcases g with g | g <;> omega)
    exact ⟨q.1, g2.tr q.2⟩)⟩, d_⟩
theorem rxcROPK_3_13 {S0 : Nat → Int → Int} {ws : List Int} {S : Nat → Int → Int} {st sr x10 x11 : Int} (hP : rxPROPK S0 ws) (hin : bx_same rxL (bx_mdl rxCROPK.2.2.1) S0 S) (I0 : bx_Inv rxL S) (hinv : rxIROPK_3 S0 ws S st sr) (l8 : 0 ≤ st) (u8 : st ≤ 13) (l9 : 0 ≤ sr) (u9 : sr ≤ 6) (l10 : 0 ≤ x10) (u10 : x10 ≤ 400) (l11 : 400 ≤ x11) (u11 : x11 ≤ 400) (f0 : st ≠ 5) (f1 : st ≠ 4) (e1 : S 427 0 = x10) (e0 : S 412 10 = x11) : (True) ∧ (True) ∧ rxIROPK_4 S0 ws S st x10 0 ∧ rxmROPK_4 S0 ws S st x10 0 < rxmROPK_3 S0 ws S st sr := by
  obtain ⟨hI, hx⟩ := hinv
  obtain ⟨a_, b_, c_, d_⟩ := rxcROP_3_13 hP hin I0 hI l8 u8 l9 u9 l10 u10 l11 u11 f0 f1 e1 e0
  exact ⟨a_, b_, ⟨c_, (by
    obtain ⟨hw, hrest⟩ := hI
    obtain ⟨hD, b0, b8, hc, st2, hw2, hst, hn1⟩ := hP
    have hs2 : st = st2 := Option.some.inj (congrArg (fun l : List Int => l[1]?) (hw.symm.trans hw2))
    subst hs2
    have h1s := rzOp_str (T := rzCut (S0 411)) (n := S0 412 1) (f := S0 412 2) (s := S0 424 (S0 412 8)) hn1 hst
    have h4s := rzOp_ge (T := rzCut (S0 411)) (n := S0 412 1) (f := S0 412 2) (s := S0 424 (S0 412 8)) hn1 hst
    refine ⟨by omega, ?_⟩
    intro b c hC hW hb
    obtain ⟨g1, g2⟩ := hx b c hC hW hb
    have rw_ := rkRed_w (l := rzStr st) h1s hW
    have zc := g1.2.2.1
    have zz := g1.2.2.2.1
    have hw10 : S 412 10 = x11 := e0
    exfalso
    omega)⟩, d_⟩
theorem rxcROPK_3_14 {S0 : Nat → Int → Int} {ws : List Int} {S : Nat → Int → Int} {st sr x10 x11 x12 : Int} (hP : rxPROPK S0 ws) (hin : bx_same rxL (bx_mdl rxCROPK.2.2.1) S0 S) (I0 : bx_Inv rxL S) (hinv : rxIROPK_3 S0 ws S st sr) (l8 : 4 ≤ st) (u8 : st ≤ 4) (l9 : 0 ≤ sr) (u9 : sr ≤ 6) (l10 : 0 ≤ x10) (u10 : x10 ≤ 399) (l11 : 0 ≤ x11) (u11 : x11 ≤ 399) (l12 : (-2147483648) ≤ x12) (u12 : x12 ≤ (-1)) (e8 : S 427 0 = x10) (e4 : (bx_up (bx_up (bx_up S 428 x10 st) 429 x10 0) 427 0 (x10 + 1)) 412 10 = x11) (e0 : (bx_up (bx_up (bx_up (bx_up (bx_up (bx_up S 428 x10 st) 429 x10 0) 427 0 (x10 + 1)) 425 x11 st) 426 x11 x10) 412 10 (x11 + 1)) 412 8 = x12) : (True) ∧ (True) ∧ rxIROPK_6 S0 ws (bx_up (bx_up (bx_up (bx_up (bx_up (bx_up S 428 x10 st) 429 x10 0) 427 0 (x10 + 1)) 425 x11 st) 426 x11 x10) 412 10 (x11 + 1)) st x10 1 ∧ rxmROPK_6 S0 ws (bx_up (bx_up (bx_up (bx_up (bx_up (bx_up S 428 x10 st) 429 x10 0) 427 0 (x10 + 1)) 425 x11 st) 426 x11 x10) 412 10 (x11 + 1)) st x10 1 < rxmROPK_3 S0 ws S st sr := by
  obtain ⟨hI, hx⟩ := hinv
  obtain ⟨a_, b_, c_, d_⟩ := rxcROP_3_14 hP hin I0 hI l8 u8 l9 u9 l10 u10 l11 u11 l12 u12 e8 e4 e0
  exact ⟨a_, b_, ⟨c_, (by
    obtain ⟨hw, hrest⟩ := hI
    obtain ⟨hD, b0, b8, hc, st2, hw2, hst, hn1⟩ := hP
    have hs2 : st = st2 := Option.some.inj (congrArg (fun l : List Int => l[1]?) (hw.symm.trans hw2))
    subst hs2
    have h1s := rzOp_str (T := rzCut (S0 411)) (n := S0 412 1) (f := S0 412 2) (s := S0 424 (S0 412 8)) hn1 hst
    have h4s := rzOp_ge (T := rzCut (S0 411)) (n := S0 412 1) (f := S0 412 2) (s := S0 424 (S0 412 8)) hn1 hst
    intro b c hC hW hb
    obtain ⟨g1, g2⟩ := hx b c hC hW hb
    have rw_ := rkRed_w (l := rzStr st) h1s hW
    have zc := g1.2.2.1
    have zz := g1.2.2.2.1
    have hz : S 427 0 = x10 := e8
    have hm10 : (bx_up (bx_up (bx_up S 428 x10 st) 429 x10 0) 427 0 (x10 + 1)) 412 10 = x11 := e4
    have es : rzStr st = 2 := by
      rw [show st = 4 by omega]
      rfl
    rw [es] at g1 rw_ zc zz
    have q := rkD_emit (S_p := (bx_up (bx_up (bx_up S 428 x10 st) 429 x10 0) 427 0 (x10 + 1))) (op := 29) (a := 0) g1 ((bx_up_ne (by omega)).trans ((bx_up_ne (by omega)).trans ((bx_up_ne (by omega))))) ((bx_up_at).trans (by omega)) (fun j => ⟨(bx_up_ne (by omega)).trans ((bx_up_ne (by omega)).trans ((bx_up_ne (by omega)))), (bx_up_ne (by omega)).trans ((bx_up_ne (by omega)).trans ((bx_up_ne (by omega))))⟩) (fun j hj => (bx_up_ne (by omega)).trans ((bx_up_ne (by omega)).trans ((bx_up_ne (by omega))))) (fun j hj => (bx_up_ne (by omega)).trans ((bx_up_ne (by omega)).trans ((bx_up_ne (by omega))))) (by rw [hz]; exact (((bx_up_ne (by omega)).trans ((bx_up_ne (by omega)))).trans bx_up_at).trans ((by omega : st = 4).trans rkEn_29.symm)) (by rw [hz]; exact (((bx_up_ne (by omega))).trans bx_up_at).trans (rkEi_z (by omega)).symm)
    have q2 := rkD_push (S_p := (bx_up (bx_up (bx_up (bx_up (bx_up (bx_up S 428 x10 st) 429 x10 0) 427 0 (x10 + 1)) 425 x11 st) 426 x11 x10) 412 10 (x11 + 1))) (op := 29) (a := rkM (rkRed 2 c)) q.1 ((bx_up_at).trans (by rw [hm10])) ((bx_up_ne (by omega)).trans ((bx_up_ne (by omega)).trans ((bx_up_ne (by omega))))) (fun j hj => (bx_up_ne (by omega)).trans ((bx_up_ne (by omega)).trans ((bx_up_ne (by omega))))) (fun j hj => (bx_up_ne (by omega)).trans ((bx_up_ne (by omega)).trans ((bx_up_ne (by omega))))) (fun j => ⟨(bx_up_ne (by omega)).trans ((bx_up_ne (by omega)).trans ((bx_up_ne (by omega)))), (bx_up_ne (by omega)).trans ((bx_up_ne (by omega)).trans ((bx_up_ne (by omega))))⟩) (by rw [hm10]; exact (((bx_up_ne (by omega)).trans ((bx_up_ne (by omega)))).trans bx_up_at).trans ((by omega : st = 4).trans rkEn_29.symm)) (fun _ => by rw [hm10]; exact (((bx_up_ne (by omega))).trans bx_up_at).trans (by omega))
    have hop := rkSt_op (ws := rzWs S0) (c := c) hc
    rw [rzLv_eq b0, hop.1 (by omega)]
    exact ⟨q2.1, (g2.tr q.2).tr q2.2⟩)⟩, d_⟩
theorem rxcROPK_3_15 {S0 : Nat → Int → Int} {ws : List Int} {S : Nat → Int → Int} {st sr x10 x11 x12 : Int} (hP : rxPROPK S0 ws) (hin : bx_same rxL (bx_mdl rxCROPK.2.2.1) S0 S) (I0 : bx_Inv rxL S) (hinv : rxIROPK_3 S0 ws S st sr) (l8 : 4 ≤ st) (u8 : st ≤ 4) (l9 : 0 ≤ sr) (u9 : sr ≤ 6) (l10 : 0 ≤ x10) (u10 : x10 ≤ 399) (l11 : 0 ≤ x11) (u11 : x11 ≤ 399) (l12 : 9 ≤ x12) (u12 : x12 ≤ 2147483647) (e8 : S 427 0 = x10) (e4 : (bx_up (bx_up (bx_up S 428 x10 st) 429 x10 0) 427 0 (x10 + 1)) 412 10 = x11) (e0 : (bx_up (bx_up (bx_up (bx_up (bx_up (bx_up S 428 x10 st) 429 x10 0) 427 0 (x10 + 1)) 425 x11 st) 426 x11 x10) 412 10 (x11 + 1)) 412 8 = x12) : (True) ∧ (True) ∧ rxIROPK_6 S0 ws (bx_up (bx_up (bx_up (bx_up (bx_up (bx_up S 428 x10 st) 429 x10 0) 427 0 (x10 + 1)) 425 x11 st) 426 x11 x10) 412 10 (x11 + 1)) st x10 1 ∧ rxmROPK_6 S0 ws (bx_up (bx_up (bx_up (bx_up (bx_up (bx_up S 428 x10 st) 429 x10 0) 427 0 (x10 + 1)) 425 x11 st) 426 x11 x10) 412 10 (x11 + 1)) st x10 1 < rxmROPK_3 S0 ws S st sr := by
  obtain ⟨hI, hx⟩ := hinv
  obtain ⟨a_, b_, c_, d_⟩ := rxcROP_3_15 hP hin I0 hI l8 u8 l9 u9 l10 u10 l11 u11 l12 u12 e8 e4 e0
  exact ⟨a_, b_, ⟨c_, (by
    obtain ⟨hw, hrest⟩ := hI
    obtain ⟨hD, b0, b8, hc, st2, hw2, hst, hn1⟩ := hP
    have hs2 : st = st2 := Option.some.inj (congrArg (fun l : List Int => l[1]?) (hw.symm.trans hw2))
    subst hs2
    have h1s := rzOp_str (T := rzCut (S0 411)) (n := S0 412 1) (f := S0 412 2) (s := S0 424 (S0 412 8)) hn1 hst
    have h4s := rzOp_ge (T := rzCut (S0 411)) (n := S0 412 1) (f := S0 412 2) (s := S0 424 (S0 412 8)) hn1 hst
    intro b c hC hW hb
    obtain ⟨g1, g2⟩ := hx b c hC hW hb
    have rw_ := rkRed_w (l := rzStr st) h1s hW
    have zc := g1.2.2.1
    have zz := g1.2.2.2.1
    have hz : S 427 0 = x10 := e8
    have hm10 : (bx_up (bx_up (bx_up S 428 x10 st) 429 x10 0) 427 0 (x10 + 1)) 412 10 = x11 := e4
    have es : rzStr st = 2 := by
      rw [show st = 4 by omega]
      rfl
    rw [es] at g1 rw_ zc zz
    have q := rkD_emit (S_p := (bx_up (bx_up (bx_up S 428 x10 st) 429 x10 0) 427 0 (x10 + 1))) (op := 29) (a := 0) g1 ((bx_up_ne (by omega)).trans ((bx_up_ne (by omega)).trans ((bx_up_ne (by omega))))) ((bx_up_at).trans (by omega)) (fun j => ⟨(bx_up_ne (by omega)).trans ((bx_up_ne (by omega)).trans ((bx_up_ne (by omega)))), (bx_up_ne (by omega)).trans ((bx_up_ne (by omega)).trans ((bx_up_ne (by omega))))⟩) (fun j hj => (bx_up_ne (by omega)).trans ((bx_up_ne (by omega)).trans ((bx_up_ne (by omega))))) (fun j hj => (bx_up_ne (by omega)).trans ((bx_up_ne (by omega)).trans ((bx_up_ne (by omega))))) (by rw [hz]; exact (((bx_up_ne (by omega)).trans ((bx_up_ne (by omega)))).trans bx_up_at).trans ((by omega : st = 4).trans rkEn_29.symm)) (by rw [hz]; exact (((bx_up_ne (by omega))).trans bx_up_at).trans (rkEi_z (by omega)).symm)
    have q2 := rkD_push (S_p := (bx_up (bx_up (bx_up (bx_up (bx_up (bx_up S 428 x10 st) 429 x10 0) 427 0 (x10 + 1)) 425 x11 st) 426 x11 x10) 412 10 (x11 + 1))) (op := 29) (a := rkM (rkRed 2 c)) q.1 ((bx_up_at).trans (by rw [hm10])) ((bx_up_ne (by omega)).trans ((bx_up_ne (by omega)).trans ((bx_up_ne (by omega))))) (fun j hj => (bx_up_ne (by omega)).trans ((bx_up_ne (by omega)).trans ((bx_up_ne (by omega))))) (fun j hj => (bx_up_ne (by omega)).trans ((bx_up_ne (by omega)).trans ((bx_up_ne (by omega))))) (fun j => ⟨(bx_up_ne (by omega)).trans ((bx_up_ne (by omega)).trans ((bx_up_ne (by omega)))), (bx_up_ne (by omega)).trans ((bx_up_ne (by omega)).trans ((bx_up_ne (by omega))))⟩) (by rw [hm10]; exact (((bx_up_ne (by omega)).trans ((bx_up_ne (by omega)))).trans bx_up_at).trans ((by omega : st = 4).trans rkEn_29.symm)) (fun _ => by rw [hm10]; exact (((bx_up_ne (by omega))).trans bx_up_at).trans (by omega))
    have hop := rkSt_op (ws := rzWs S0) (c := c) hc
    rw [rzLv_eq b0, hop.1 (by omega)]
    exact ⟨q2.1, (g2.tr q.2).tr q2.2⟩)⟩, d_⟩
theorem rxcROPK_3_16 {S0 : Nat → Int → Int} {ws : List Int} {S : Nat → Int → Int} {st sr x10 x11 x12 : Int} (hP : rxPROPK S0 ws) (hin : bx_same rxL (bx_mdl rxCROPK.2.2.1) S0 S) (I0 : bx_Inv rxL S) (hinv : rxIROPK_3 S0 ws S st sr) (l8 : 4 ≤ st) (u8 : st ≤ 4) (l9 : 0 ≤ sr) (u9 : sr ≤ 6) (l10 : 0 ≤ x10) (u10 : x10 ≤ 399) (l11 : 0 ≤ x11) (u11 : x11 ≤ 399) (l12 : 0 ≤ x12) (u12 : x12 ≤ 8) (e9 : S 427 0 = x10) (e5 : (bx_up (bx_up (bx_up S 428 x10 st) 429 x10 0) 427 0 (x10 + 1)) 412 10 = x11) (e1 : (bx_up (bx_up (bx_up (bx_up (bx_up (bx_up S 428 x10 st) 429 x10 0) 427 0 (x10 + 1)) 425 x11 st) 426 x11 x10) 412 10 (x11 + 1)) 412 8 = x12) : (True) ∧ (True) ∧ rxIROPK_6 S0 ws (bx_up (bx_up (bx_up (bx_up (bx_up (bx_up (bx_up S 428 x10 st) 429 x10 0) 427 0 (x10 + 1)) 425 x11 st) 426 x11 x10) 412 10 (x11 + 1)) 424 x12 1) st x10 1 ∧ rxmROPK_6 S0 ws (bx_up (bx_up (bx_up (bx_up (bx_up (bx_up (bx_up S 428 x10 st) 429 x10 0) 427 0 (x10 + 1)) 425 x11 st) 426 x11 x10) 412 10 (x11 + 1)) 424 x12 1) st x10 1 < rxmROPK_3 S0 ws S st sr := by
  obtain ⟨hI, hx⟩ := hinv
  obtain ⟨a_, b_, c_, d_⟩ := rxcROP_3_16 hP hin I0 hI l8 u8 l9 u9 l10 u10 l11 u11 l12 u12 e9 e5 e1
  exact ⟨a_, b_, ⟨c_, (by
    obtain ⟨hw, hrest⟩ := hI
    obtain ⟨hD, b0, b8, hc, st2, hw2, hst, hn1⟩ := hP
    have hs2 : st = st2 := Option.some.inj (congrArg (fun l : List Int => l[1]?) (hw.symm.trans hw2))
    subst hs2
    have h1s := rzOp_str (T := rzCut (S0 411)) (n := S0 412 1) (f := S0 412 2) (s := S0 424 (S0 412 8)) hn1 hst
    have h4s := rzOp_ge (T := rzCut (S0 411)) (n := S0 412 1) (f := S0 412 2) (s := S0 424 (S0 412 8)) hn1 hst
    intro b c hC hW hb
    obtain ⟨g1, g2⟩ := hx b c hC hW hb
    have rw_ := rkRed_w (l := rzStr st) h1s hW
    have zc := g1.2.2.1
    have zz := g1.2.2.2.1
    have hz : S 427 0 = x10 := e9
    have hm10 : (bx_up (bx_up (bx_up S 428 x10 st) 429 x10 0) 427 0 (x10 + 1)) 412 10 = x11 := e5
    have es : rzStr st = 2 := by
      rw [show st = 4 by omega]
      rfl
    rw [es] at g1 rw_ zc zz
    have q := rkD_emit (S_p := (bx_up (bx_up (bx_up S 428 x10 st) 429 x10 0) 427 0 (x10 + 1))) (op := 29) (a := 0) g1 ((bx_up_ne (by omega)).trans ((bx_up_ne (by omega)).trans ((bx_up_ne (by omega))))) ((bx_up_at).trans (by omega)) (fun j => ⟨(bx_up_ne (by omega)).trans ((bx_up_ne (by omega)).trans ((bx_up_ne (by omega)))), (bx_up_ne (by omega)).trans ((bx_up_ne (by omega)).trans ((bx_up_ne (by omega))))⟩) (fun j hj => (bx_up_ne (by omega)).trans ((bx_up_ne (by omega)).trans ((bx_up_ne (by omega))))) (fun j hj => (bx_up_ne (by omega)).trans ((bx_up_ne (by omega)).trans ((bx_up_ne (by omega))))) (by rw [hz]; exact (((bx_up_ne (by omega)).trans ((bx_up_ne (by omega)))).trans bx_up_at).trans ((by omega : st = 4).trans rkEn_29.symm)) (by rw [hz]; exact (((bx_up_ne (by omega))).trans bx_up_at).trans (rkEi_z (by omega)).symm)
    have q2 := rkD_push (S_p := (bx_up (bx_up (bx_up (bx_up (bx_up (bx_up (bx_up S 428 x10 st) 429 x10 0) 427 0 (x10 + 1)) 425 x11 st) 426 x11 x10) 412 10 (x11 + 1)) 424 x12 1)) (op := 29) (a := rkM (rkRed 2 c)) q.1 (((bx_up_ne (by omega)).trans (bx_up_at)).trans (by rw [hm10])) ((bx_up_ne (by omega)).trans ((bx_up_ne (by omega)).trans ((bx_up_ne (by omega)).trans ((bx_up_ne (by omega)))))) (fun j hj => (bx_up_ne (by omega)).trans ((bx_up_ne (by omega)).trans ((bx_up_ne (by omega)).trans ((bx_up_ne (by omega)))))) (fun j hj => (bx_up_ne (by omega)).trans ((bx_up_ne (by omega)).trans ((bx_up_ne (by omega)).trans ((bx_up_ne (by omega)))))) (fun j => ⟨(bx_up_ne (by omega)).trans ((bx_up_ne (by omega)).trans ((bx_up_ne (by omega)).trans ((bx_up_ne (by omega))))), (bx_up_ne (by omega)).trans ((bx_up_ne (by omega)).trans ((bx_up_ne (by omega)).trans ((bx_up_ne (by omega)))))⟩) (by rw [hm10]; exact (((bx_up_ne (by omega)).trans ((bx_up_ne (by omega)).trans ((bx_up_ne (by omega))))).trans bx_up_at).trans ((by omega : st = 4).trans rkEn_29.symm)) (fun _ => by rw [hm10]; exact (((bx_up_ne (by omega)).trans ((bx_up_ne (by omega)))).trans bx_up_at).trans (by omega))
    have hop := rkSt_op (ws := rzWs S0) (c := c) hc
    rw [rzLv_eq b0, hop.1 (by omega)]
    exact ⟨q2.1, (g2.tr q.2).tr q2.2⟩)⟩, d_⟩
theorem rxcROPK_3_17 {S0 : Nat → Int → Int} {ws : List Int} {S : Nat → Int → Int} {st sr x10 x11 x12 : Int} (hP : rxPROPK S0 ws) (hin : bx_same rxL (bx_mdl rxCROPK.2.2.1) S0 S) (I0 : bx_Inv rxL S) (hinv : rxIROPK_3 S0 ws S st sr) (l8 : 4 ≤ st) (u8 : st ≤ 4) (l9 : 0 ≤ sr) (u9 : sr ≤ 6) (l10 : 0 ≤ x10) (u10 : x10 ≤ 399) (l11 : 400 ≤ x11) (u11 : x11 ≤ 400) (l12 : (-2147483648) ≤ x12) (u12 : x12 ≤ (-1)) (e5 : S 427 0 = x10) (e1 : (bx_up (bx_up (bx_up S 428 x10 st) 429 x10 0) 427 0 (x10 + 1)) 412 10 = x11) (e0 : (bx_up (bx_up (bx_up S 428 x10 st) 429 x10 0) 427 0 (x10 + 1)) 412 8 = x12) : (True) ∧ (True) ∧ rxIROPK_6 S0 ws (bx_up (bx_up (bx_up S 428 x10 st) 429 x10 0) 427 0 (x10 + 1)) st x10 1 ∧ rxmROPK_6 S0 ws (bx_up (bx_up (bx_up S 428 x10 st) 429 x10 0) 427 0 (x10 + 1)) st x10 1 < rxmROPK_3 S0 ws S st sr := by
  obtain ⟨hI, hx⟩ := hinv
  obtain ⟨a_, b_, c_, d_⟩ := rxcROP_3_17 hP hin I0 hI l8 u8 l9 u9 l10 u10 l11 u11 l12 u12 e5 e1 e0
  exact ⟨a_, b_, ⟨c_, (by
    obtain ⟨hw, hrest⟩ := hI
    obtain ⟨hD, b0, b8, hc, st2, hw2, hst, hn1⟩ := hP
    have hs2 : st = st2 := Option.some.inj (congrArg (fun l : List Int => l[1]?) (hw.symm.trans hw2))
    subst hs2
    have h1s := rzOp_str (T := rzCut (S0 411)) (n := S0 412 1) (f := S0 412 2) (s := S0 424 (S0 412 8)) hn1 hst
    have h4s := rzOp_ge (T := rzCut (S0 411)) (n := S0 412 1) (f := S0 412 2) (s := S0 424 (S0 412 8)) hn1 hst
    intro b c hC hW hb
    obtain ⟨g1, g2⟩ := hx b c hC hW hb
    have rw_ := rkRed_w (l := rzStr st) h1s hW
    have zc := g1.2.2.1
    have zz := g1.2.2.2.1
    have hz : S 427 0 = x10 := e5
    have hw10 : S 412 10 = x11 := (((bx_up_ne (by omega)).trans ((bx_up_ne (by omega)).trans ((bx_up_ne (by omega))))).symm.trans e1)
    exfalso
    omega)⟩, d_⟩
theorem rxcROPK_3_18 {S0 : Nat → Int → Int} {ws : List Int} {S : Nat → Int → Int} {st sr x10 x11 x12 : Int} (hP : rxPROPK S0 ws) (hin : bx_same rxL (bx_mdl rxCROPK.2.2.1) S0 S) (I0 : bx_Inv rxL S) (hinv : rxIROPK_3 S0 ws S st sr) (l8 : 4 ≤ st) (u8 : st ≤ 4) (l9 : 0 ≤ sr) (u9 : sr ≤ 6) (l10 : 0 ≤ x10) (u10 : x10 ≤ 399) (l11 : 400 ≤ x11) (u11 : x11 ≤ 400) (l12 : 9 ≤ x12) (u12 : x12 ≤ 2147483647) (e5 : S 427 0 = x10) (e1 : (bx_up (bx_up (bx_up S 428 x10 st) 429 x10 0) 427 0 (x10 + 1)) 412 10 = x11) (e0 : (bx_up (bx_up (bx_up S 428 x10 st) 429 x10 0) 427 0 (x10 + 1)) 412 8 = x12) : (True) ∧ (True) ∧ rxIROPK_6 S0 ws (bx_up (bx_up (bx_up S 428 x10 st) 429 x10 0) 427 0 (x10 + 1)) st x10 1 ∧ rxmROPK_6 S0 ws (bx_up (bx_up (bx_up S 428 x10 st) 429 x10 0) 427 0 (x10 + 1)) st x10 1 < rxmROPK_3 S0 ws S st sr := by
  obtain ⟨hI, hx⟩ := hinv
  obtain ⟨a_, b_, c_, d_⟩ := rxcROP_3_18 hP hin I0 hI l8 u8 l9 u9 l10 u10 l11 u11 l12 u12 e5 e1 e0
  exact ⟨a_, b_, ⟨c_, (by
    obtain ⟨hw, hrest⟩ := hI
    obtain ⟨hD, b0, b8, hc, st2, hw2, hst, hn1⟩ := hP
    have hs2 : st = st2 := Option.some.inj (congrArg (fun l : List Int => l[1]?) (hw.symm.trans hw2))
    subst hs2
    have h1s := rzOp_str (T := rzCut (S0 411)) (n := S0 412 1) (f := S0 412 2) (s := S0 424 (S0 412 8)) hn1 hst
    have h4s := rzOp_ge (T := rzCut (S0 411)) (n := S0 412 1) (f := S0 412 2) (s := S0 424 (S0 412 8)) hn1 hst
    intro b c hC hW hb
    obtain ⟨g1, g2⟩ := hx b c hC hW hb
    have rw_ := rkRed_w (l := rzStr st) h1s hW
    have zc := g1.2.2.1
    have zz := g1.2.2.2.1
    have hz : S 427 0 = x10 := e5
    have hw10 : S 412 10 = x11 := (((bx_up_ne (by omega)).trans ((bx_up_ne (by omega)).trans ((bx_up_ne (by omega))))).symm.trans e1)
    exfalso
    omega)⟩, d_⟩
theorem rxcROPK_3_19 {S0 : Nat → Int → Int} {ws : List Int} {S : Nat → Int → Int} {st sr x10 x11 x12 : Int} (hP : rxPROPK S0 ws) (hin : bx_same rxL (bx_mdl rxCROPK.2.2.1) S0 S) (I0 : bx_Inv rxL S) (hinv : rxIROPK_3 S0 ws S st sr) (l8 : 4 ≤ st) (u8 : st ≤ 4) (l9 : 0 ≤ sr) (u9 : sr ≤ 6) (l10 : 0 ≤ x10) (u10 : x10 ≤ 399) (l11 : 400 ≤ x11) (u11 : x11 ≤ 400) (l12 : 0 ≤ x12) (u12 : x12 ≤ 8) (e6 : S 427 0 = x10) (e2 : (bx_up (bx_up (bx_up S 428 x10 st) 429 x10 0) 427 0 (x10 + 1)) 412 10 = x11) (e1 : (bx_up (bx_up (bx_up S 428 x10 st) 429 x10 0) 427 0 (x10 + 1)) 412 8 = x12) : (True) ∧ (True) ∧ rxIROPK_6 S0 ws (bx_up (bx_up (bx_up (bx_up S 428 x10 st) 429 x10 0) 427 0 (x10 + 1)) 424 x12 1) st x10 1 ∧ rxmROPK_6 S0 ws (bx_up (bx_up (bx_up (bx_up S 428 x10 st) 429 x10 0) 427 0 (x10 + 1)) 424 x12 1) st x10 1 < rxmROPK_3 S0 ws S st sr := by
  obtain ⟨hI, hx⟩ := hinv
  obtain ⟨a_, b_, c_, d_⟩ := rxcROP_3_19 hP hin I0 hI l8 u8 l9 u9 l10 u10 l11 u11 l12 u12 e6 e2 e1
  exact ⟨a_, b_, ⟨c_, (by
    obtain ⟨hw, hrest⟩ := hI
    obtain ⟨hD, b0, b8, hc, st2, hw2, hst, hn1⟩ := hP
    have hs2 : st = st2 := Option.some.inj (congrArg (fun l : List Int => l[1]?) (hw.symm.trans hw2))
    subst hs2
    have h1s := rzOp_str (T := rzCut (S0 411)) (n := S0 412 1) (f := S0 412 2) (s := S0 424 (S0 412 8)) hn1 hst
    have h4s := rzOp_ge (T := rzCut (S0 411)) (n := S0 412 1) (f := S0 412 2) (s := S0 424 (S0 412 8)) hn1 hst
    intro b c hC hW hb
    obtain ⟨g1, g2⟩ := hx b c hC hW hb
    have rw_ := rkRed_w (l := rzStr st) h1s hW
    have zc := g1.2.2.1
    have zz := g1.2.2.2.1
    have hz : S 427 0 = x10 := e6
    have hw10 : S 412 10 = x11 := (((bx_up_ne (by omega)).trans ((bx_up_ne (by omega)).trans ((bx_up_ne (by omega))))).symm.trans e2)
    exfalso
    omega)⟩, d_⟩
theorem rxcROPK_3_20 {S0 : Nat → Int → Int} {ws : List Int} {S : Nat → Int → Int} {st sr x10 x11 x12 : Int} (hP : rxPROPK S0 ws) (hin : bx_same rxL (bx_mdl rxCROPK.2.2.1) S0 S) (I0 : bx_Inv rxL S) (hinv : rxIROPK_3 S0 ws S st sr) (l8 : 4 ≤ st) (u8 : st ≤ 4) (l9 : 0 ≤ sr) (u9 : sr ≤ 6) (l10 : 400 ≤ x10) (u10 : x10 ≤ 400) (l11 : 0 ≤ x11) (u11 : x11 ≤ 399) (l12 : (-2147483648) ≤ x12) (u12 : x12 ≤ (-1)) (e5 : S 427 0 = x10) (e4 : S 412 10 = x11) (e0 : (bx_up (bx_up (bx_up S 425 x11 st) 426 x11 x10) 412 10 (x11 + 1)) 412 8 = x12) : (True) ∧ (True) ∧ rxIROPK_6 S0 ws (bx_up (bx_up (bx_up S 425 x11 st) 426 x11 x10) 412 10 (x11 + 1)) st x10 1 ∧ rxmROPK_6 S0 ws (bx_up (bx_up (bx_up S 425 x11 st) 426 x11 x10) 412 10 (x11 + 1)) st x10 1 < rxmROPK_3 S0 ws S st sr := by
  obtain ⟨hI, hx⟩ := hinv
  obtain ⟨a_, b_, c_, d_⟩ := rxcROP_3_20 hP hin I0 hI l8 u8 l9 u9 l10 u10 l11 u11 l12 u12 e5 e4 e0
  exact ⟨a_, b_, ⟨c_, (by
    obtain ⟨hw, hrest⟩ := hI
    obtain ⟨hD, b0, b8, hc, st2, hw2, hst, hn1⟩ := hP
    have hs2 : st = st2 := Option.some.inj (congrArg (fun l : List Int => l[1]?) (hw.symm.trans hw2))
    subst hs2
    have h1s := rzOp_str (T := rzCut (S0 411)) (n := S0 412 1) (f := S0 412 2) (s := S0 424 (S0 412 8)) hn1 hst
    have h4s := rzOp_ge (T := rzCut (S0 411)) (n := S0 412 1) (f := S0 412 2) (s := S0 424 (S0 412 8)) hn1 hst
    intro b c hC hW hb
    obtain ⟨g1, g2⟩ := hx b c hC hW hb
    have rw_ := rkRed_w (l := rzStr st) h1s hW
    have zc := g1.2.2.1
    have zz := g1.2.2.2.1
    have hz : S 427 0 = x10 := e5
    exfalso
    omega)⟩, d_⟩
theorem rxcROPK_3_21 {S0 : Nat → Int → Int} {ws : List Int} {S : Nat → Int → Int} {st sr x10 x11 x12 : Int} (hP : rxPROPK S0 ws) (hin : bx_same rxL (bx_mdl rxCROPK.2.2.1) S0 S) (I0 : bx_Inv rxL S) (hinv : rxIROPK_3 S0 ws S st sr) (l8 : 4 ≤ st) (u8 : st ≤ 4) (l9 : 0 ≤ sr) (u9 : sr ≤ 6) (l10 : 400 ≤ x10) (u10 : x10 ≤ 400) (l11 : 0 ≤ x11) (u11 : x11 ≤ 399) (l12 : 9 ≤ x12) (u12 : x12 ≤ 2147483647) (e5 : S 427 0 = x10) (e4 : S 412 10 = x11) (e0 : (bx_up (bx_up (bx_up S 425 x11 st) 426 x11 x10) 412 10 (x11 + 1)) 412 8 = x12) : (True) ∧ (True) ∧ rxIROPK_6 S0 ws (bx_up (bx_up (bx_up S 425 x11 st) 426 x11 x10) 412 10 (x11 + 1)) st x10 1 ∧ rxmROPK_6 S0 ws (bx_up (bx_up (bx_up S 425 x11 st) 426 x11 x10) 412 10 (x11 + 1)) st x10 1 < rxmROPK_3 S0 ws S st sr := by
  obtain ⟨hI, hx⟩ := hinv
  obtain ⟨a_, b_, c_, d_⟩ := rxcROP_3_21 hP hin I0 hI l8 u8 l9 u9 l10 u10 l11 u11 l12 u12 e5 e4 e0
  exact ⟨a_, b_, ⟨c_, (by
    obtain ⟨hw, hrest⟩ := hI
    obtain ⟨hD, b0, b8, hc, st2, hw2, hst, hn1⟩ := hP
    have hs2 : st = st2 := Option.some.inj (congrArg (fun l : List Int => l[1]?) (hw.symm.trans hw2))
    subst hs2
    have h1s := rzOp_str (T := rzCut (S0 411)) (n := S0 412 1) (f := S0 412 2) (s := S0 424 (S0 412 8)) hn1 hst
    have h4s := rzOp_ge (T := rzCut (S0 411)) (n := S0 412 1) (f := S0 412 2) (s := S0 424 (S0 412 8)) hn1 hst
    intro b c hC hW hb
    obtain ⟨g1, g2⟩ := hx b c hC hW hb
    have rw_ := rkRed_w (l := rzStr st) h1s hW
    have zc := g1.2.2.1
    have zz := g1.2.2.2.1
    have hz : S 427 0 = x10 := e5
    exfalso
    omega)⟩, d_⟩
theorem rxcROPK_3_22 {S0 : Nat → Int → Int} {ws : List Int} {S : Nat → Int → Int} {st sr x10 x11 x12 : Int} (hP : rxPROPK S0 ws) (hin : bx_same rxL (bx_mdl rxCROPK.2.2.1) S0 S) (I0 : bx_Inv rxL S) (hinv : rxIROPK_3 S0 ws S st sr) (l8 : 4 ≤ st) (u8 : st ≤ 4) (l9 : 0 ≤ sr) (u9 : sr ≤ 6) (l10 : 400 ≤ x10) (u10 : x10 ≤ 400) (l11 : 0 ≤ x11) (u11 : x11 ≤ 399) (l12 : 0 ≤ x12) (u12 : x12 ≤ 8) (e6 : S 427 0 = x10) (e5 : S 412 10 = x11) (e1 : (bx_up (bx_up (bx_up S 425 x11 st) 426 x11 x10) 412 10 (x11 + 1)) 412 8 = x12) : (True) ∧ (True) ∧ rxIROPK_6 S0 ws (bx_up (bx_up (bx_up (bx_up S 425 x11 st) 426 x11 x10) 412 10 (x11 + 1)) 424 x12 1) st x10 1 ∧ rxmROPK_6 S0 ws (bx_up (bx_up (bx_up (bx_up S 425 x11 st) 426 x11 x10) 412 10 (x11 + 1)) 424 x12 1) st x10 1 < rxmROPK_3 S0 ws S st sr := by
  obtain ⟨hI, hx⟩ := hinv
  obtain ⟨a_, b_, c_, d_⟩ := rxcROP_3_22 hP hin I0 hI l8 u8 l9 u9 l10 u10 l11 u11 l12 u12 e6 e5 e1
  exact ⟨a_, b_, ⟨c_, (by
    obtain ⟨hw, hrest⟩ := hI
    obtain ⟨hD, b0, b8, hc, st2, hw2, hst, hn1⟩ := hP
    have hs2 : st = st2 := Option.some.inj (congrArg (fun l : List Int => l[1]?) (hw.symm.trans hw2))
    subst hs2
    have h1s := rzOp_str (T := rzCut (S0 411)) (n := S0 412 1) (f := S0 412 2) (s := S0 424 (S0 412 8)) hn1 hst
    have h4s := rzOp_ge (T := rzCut (S0 411)) (n := S0 412 1) (f := S0 412 2) (s := S0 424 (S0 412 8)) hn1 hst
    intro b c hC hW hb
    obtain ⟨g1, g2⟩ := hx b c hC hW hb
    have rw_ := rkRed_w (l := rzStr st) h1s hW
    have zc := g1.2.2.1
    have zz := g1.2.2.2.1
    have hz : S 427 0 = x10 := e6
    exfalso
    omega)⟩, d_⟩
theorem rxcROPK_3_23 {S0 : Nat → Int → Int} {ws : List Int} {S : Nat → Int → Int} {st sr x10 x11 x12 : Int} (hP : rxPROPK S0 ws) (hin : bx_same rxL (bx_mdl rxCROPK.2.2.1) S0 S) (I0 : bx_Inv rxL S) (hinv : rxIROPK_3 S0 ws S st sr) (l8 : 4 ≤ st) (u8 : st ≤ 4) (l9 : 0 ≤ sr) (u9 : sr ≤ 6) (l10 : 400 ≤ x10) (u10 : x10 ≤ 400) (l11 : 400 ≤ x11) (u11 : x11 ≤ 400) (l12 : (-2147483648) ≤ x12) (u12 : x12 ≤ (-1)) (e2 : S 427 0 = x10) (e1 : S 412 10 = x11) (e0 : S 412 8 = x12) : (True) ∧ (True) ∧ rxIROPK_6 S0 ws S st x10 1 ∧ rxmROPK_6 S0 ws S st x10 1 < rxmROPK_3 S0 ws S st sr := by
  obtain ⟨hI, hx⟩ := hinv
  obtain ⟨a_, b_, c_, d_⟩ := rxcROP_3_23 hP hin I0 hI l8 u8 l9 u9 l10 u10 l11 u11 l12 u12 e2 e1 e0
  exact ⟨a_, b_, ⟨c_, (by
    obtain ⟨hw, hrest⟩ := hI
    obtain ⟨hD, b0, b8, hc, st2, hw2, hst, hn1⟩ := hP
    have hs2 : st = st2 := Option.some.inj (congrArg (fun l : List Int => l[1]?) (hw.symm.trans hw2))
    subst hs2
    have h1s := rzOp_str (T := rzCut (S0 411)) (n := S0 412 1) (f := S0 412 2) (s := S0 424 (S0 412 8)) hn1 hst
    have h4s := rzOp_ge (T := rzCut (S0 411)) (n := S0 412 1) (f := S0 412 2) (s := S0 424 (S0 412 8)) hn1 hst
    intro b c hC hW hb
    obtain ⟨g1, g2⟩ := hx b c hC hW hb
    have rw_ := rkRed_w (l := rzStr st) h1s hW
    have zc := g1.2.2.1
    have zz := g1.2.2.2.1
    have hz : S 427 0 = x10 := e2
    exfalso
    omega)⟩, d_⟩
theorem rxcROPK_3_24 {S0 : Nat → Int → Int} {ws : List Int} {S : Nat → Int → Int} {st sr x10 x11 x12 : Int} (hP : rxPROPK S0 ws) (hin : bx_same rxL (bx_mdl rxCROPK.2.2.1) S0 S) (I0 : bx_Inv rxL S) (hinv : rxIROPK_3 S0 ws S st sr) (l8 : 4 ≤ st) (u8 : st ≤ 4) (l9 : 0 ≤ sr) (u9 : sr ≤ 6) (l10 : 400 ≤ x10) (u10 : x10 ≤ 400) (l11 : 400 ≤ x11) (u11 : x11 ≤ 400) (l12 : 9 ≤ x12) (u12 : x12 ≤ 2147483647) (e2 : S 427 0 = x10) (e1 : S 412 10 = x11) (e0 : S 412 8 = x12) : (True) ∧ (True) ∧ rxIROPK_6 S0 ws S st x10 1 ∧ rxmROPK_6 S0 ws S st x10 1 < rxmROPK_3 S0 ws S st sr := by
  obtain ⟨hI, hx⟩ := hinv
  obtain ⟨a_, b_, c_, d_⟩ := rxcROP_3_24 hP hin I0 hI l8 u8 l9 u9 l10 u10 l11 u11 l12 u12 e2 e1 e0
  exact ⟨a_, b_, ⟨c_, (by
    obtain ⟨hw, hrest⟩ := hI
    obtain ⟨hD, b0, b8, hc, st2, hw2, hst, hn1⟩ := hP
    have hs2 : st = st2 := Option.some.inj (congrArg (fun l : List Int => l[1]?) (hw.symm.trans hw2))
    subst hs2
    have h1s := rzOp_str (T := rzCut (S0 411)) (n := S0 412 1) (f := S0 412 2) (s := S0 424 (S0 412 8)) hn1 hst
    have h4s := rzOp_ge (T := rzCut (S0 411)) (n := S0 412 1) (f := S0 412 2) (s := S0 424 (S0 412 8)) hn1 hst
    intro b c hC hW hb
    obtain ⟨g1, g2⟩ := hx b c hC hW hb
    have rw_ := rkRed_w (l := rzStr st) h1s hW
    have zc := g1.2.2.1
    have zz := g1.2.2.2.1
    have hz : S 427 0 = x10 := e2
    exfalso
    omega)⟩, d_⟩
theorem rxcROPK_3_25 {S0 : Nat → Int → Int} {ws : List Int} {S : Nat → Int → Int} {st sr x10 x11 x12 : Int} (hP : rxPROPK S0 ws) (hin : bx_same rxL (bx_mdl rxCROPK.2.2.1) S0 S) (I0 : bx_Inv rxL S) (hinv : rxIROPK_3 S0 ws S st sr) (l8 : 4 ≤ st) (u8 : st ≤ 4) (l9 : 0 ≤ sr) (u9 : sr ≤ 6) (l10 : 400 ≤ x10) (u10 : x10 ≤ 400) (l11 : 400 ≤ x11) (u11 : x11 ≤ 400) (l12 : 0 ≤ x12) (u12 : x12 ≤ 8) (e3 : S 427 0 = x10) (e2 : S 412 10 = x11) (e1 : S 412 8 = x12) : (True) ∧ (True) ∧ rxIROPK_6 S0 ws (bx_up S 424 x12 1) st x10 1 ∧ rxmROPK_6 S0 ws (bx_up S 424 x12 1) st x10 1 < rxmROPK_3 S0 ws S st sr := by
  obtain ⟨hI, hx⟩ := hinv
  obtain ⟨a_, b_, c_, d_⟩ := rxcROP_3_25 hP hin I0 hI l8 u8 l9 u9 l10 u10 l11 u11 l12 u12 e3 e2 e1
  exact ⟨a_, b_, ⟨c_, (by
    obtain ⟨hw, hrest⟩ := hI
    obtain ⟨hD, b0, b8, hc, st2, hw2, hst, hn1⟩ := hP
    have hs2 : st = st2 := Option.some.inj (congrArg (fun l : List Int => l[1]?) (hw.symm.trans hw2))
    subst hs2
    have h1s := rzOp_str (T := rzCut (S0 411)) (n := S0 412 1) (f := S0 412 2) (s := S0 424 (S0 412 8)) hn1 hst
    have h4s := rzOp_ge (T := rzCut (S0 411)) (n := S0 412 1) (f := S0 412 2) (s := S0 424 (S0 412 8)) hn1 hst
    intro b c hC hW hb
    obtain ⟨g1, g2⟩ := hx b c hC hW hb
    have rw_ := rkRed_w (l := rzStr st) h1s hW
    have zc := g1.2.2.1
    have zz := g1.2.2.2.1
    have hz : S 427 0 = x10 := e3
    exfalso
    omega)⟩, d_⟩
theorem rxcROPK_5_0 {S0 : Nat → Int → Int} {ws : List Int} {S : Nat → Int → Int} {st lp jn sr x12 : Int} (hP : rxPROPK S0 ws) (hin : bx_same rxL (bx_mdl rxCROPK.2.2.1) S0 S) (I0 : bx_Inv rxL S) (hinv : rxIROPK_5 S0 ws S st lp jn sr) (l8 : 0 ≤ st) (u8 : st ≤ 13) (l9 : 0 ≤ lp) (u9 : lp ≤ 400) (l10 : 0 ≤ jn) (u10 : jn ≤ 1) (l11 : 4 ≤ sr) (u11 : sr ≤ 4) (l12 : (-2147483648) ≤ x12) (u12 : x12 ≤ (-1)) (e0 : S 412 8 = x12) : (True) ∧ (True) ∧ rxIROPK_6 S0 ws S st lp jn ∧ rxmROPK_6 S0 ws S st lp jn < rxmROPK_5 S0 ws S st lp jn sr := by
  obtain ⟨hI, hx⟩ := hinv
  obtain ⟨a_, b_, c_, d_⟩ := rxcROP_5_0 hP hin I0 hI l8 u8 l9 u9 l10 u10 l11 u11 l12 u12 e0
  exact ⟨a_, b_, ⟨c_, (by
    obtain ⟨hw, hrest⟩ := hI
    obtain ⟨hD, b0, b8, hc, st2, hw2, hst, hn1⟩ := hP
    have hs2 : st = st2 := Option.some.inj (congrArg (fun l : List Int => l[1]?) (hw.symm.trans hw2))
    subst hs2
    have h1s := rzOp_str (T := rzCut (S0 411)) (n := S0 412 1) (f := S0 412 2) (s := S0 424 (S0 412 8)) hn1 hst
    have h4s := rzOp_ge (T := rzCut (S0 411)) (n := S0 412 1) (f := S0 412 2) (s := S0 424 (S0 412 8)) hn1 hst
    intro b c hC hW hb
    obtain ⟨g1, g2⟩ := hx.2 b c hC hW hb
    have h6s := hx.1
    have q := rkD_ne (S_p := S) g1 (rfl) (rfl) (fun j => ⟨rfl, rfl⟩) (fun j => ⟨rfl, rfl⟩)
    have hop := rkSt_op (ws := rzWs S0) (c := c) hc
    rw [rzLv_eq b0, hop.2.2 (by omega), ← hst]
    exact ⟨q.1, g2.tr q.2⟩)⟩, d_⟩
theorem rxcROPK_5_1 {S0 : Nat → Int → Int} {ws : List Int} {S : Nat → Int → Int} {st lp jn sr x12 : Int} (hP : rxPROPK S0 ws) (hin : bx_same rxL (bx_mdl rxCROPK.2.2.1) S0 S) (I0 : bx_Inv rxL S) (hinv : rxIROPK_5 S0 ws S st lp jn sr) (l8 : 0 ≤ st) (u8 : st ≤ 13) (l9 : 0 ≤ lp) (u9 : lp ≤ 400) (l10 : 0 ≤ jn) (u10 : jn ≤ 1) (l11 : 4 ≤ sr) (u11 : sr ≤ 4) (l12 : 9 ≤ x12) (u12 : x12 ≤ 2147483647) (e0 : S 412 8 = x12) : (True) ∧ (True) ∧ rxIROPK_6 S0 ws S st lp jn ∧ rxmROPK_6 S0 ws S st lp jn < rxmROPK_5 S0 ws S st lp jn sr := by
  obtain ⟨hI, hx⟩ := hinv
  obtain ⟨a_, b_, c_, d_⟩ := rxcROP_5_1 hP hin I0 hI l8 u8 l9 u9 l10 u10 l11 u11 l12 u12 e0
  exact ⟨a_, b_, ⟨c_, (by
    obtain ⟨hw, hrest⟩ := hI
    obtain ⟨hD, b0, b8, hc, st2, hw2, hst, hn1⟩ := hP
    have hs2 : st = st2 := Option.some.inj (congrArg (fun l : List Int => l[1]?) (hw.symm.trans hw2))
    subst hs2
    have h1s := rzOp_str (T := rzCut (S0 411)) (n := S0 412 1) (f := S0 412 2) (s := S0 424 (S0 412 8)) hn1 hst
    have h4s := rzOp_ge (T := rzCut (S0 411)) (n := S0 412 1) (f := S0 412 2) (s := S0 424 (S0 412 8)) hn1 hst
    intro b c hC hW hb
    obtain ⟨g1, g2⟩ := hx.2 b c hC hW hb
    have h6s := hx.1
    have q := rkD_ne (S_p := S) g1 (rfl) (rfl) (fun j => ⟨rfl, rfl⟩) (fun j => ⟨rfl, rfl⟩)
    have hop := rkSt_op (ws := rzWs S0) (c := c) hc
    rw [rzLv_eq b0, hop.2.2 (by omega), ← hst]
    exact ⟨q.1, g2.tr q.2⟩)⟩, d_⟩
theorem rxcROPK_5_2 {S0 : Nat → Int → Int} {ws : List Int} {S : Nat → Int → Int} {st lp jn sr x12 : Int} (hP : rxPROPK S0 ws) (hin : bx_same rxL (bx_mdl rxCROPK.2.2.1) S0 S) (I0 : bx_Inv rxL S) (hinv : rxIROPK_5 S0 ws S st lp jn sr) (l8 : 0 ≤ st) (u8 : st ≤ 13) (l9 : 0 ≤ lp) (u9 : lp ≤ 400) (l10 : 0 ≤ jn) (u10 : jn ≤ 1) (l11 : 4 ≤ sr) (u11 : sr ≤ 4) (l12 : 0 ≤ x12) (u12 : x12 ≤ 8) (e1 : S 412 8 = x12) : (True) ∧ (True) ∧ rxIROPK_6 S0 ws (bx_up S 424 x12 3) st lp jn ∧ rxmROPK_6 S0 ws (bx_up S 424 x12 3) st lp jn < rxmROPK_5 S0 ws S st lp jn sr := by
  obtain ⟨hI, hx⟩ := hinv
  obtain ⟨a_, b_, c_, d_⟩ := rxcROP_5_2 hP hin I0 hI l8 u8 l9 u9 l10 u10 l11 u11 l12 u12 e1
  exact ⟨a_, b_, ⟨c_, (by
    obtain ⟨hw, hrest⟩ := hI
    obtain ⟨hD, b0, b8, hc, st2, hw2, hst, hn1⟩ := hP
    have hs2 : st = st2 := Option.some.inj (congrArg (fun l : List Int => l[1]?) (hw.symm.trans hw2))
    subst hs2
    have h1s := rzOp_str (T := rzCut (S0 411)) (n := S0 412 1) (f := S0 412 2) (s := S0 424 (S0 412 8)) hn1 hst
    have h4s := rzOp_ge (T := rzCut (S0 411)) (n := S0 412 1) (f := S0 412 2) (s := S0 424 (S0 412 8)) hn1 hst
    intro b c hC hW hb
    obtain ⟨g1, g2⟩ := hx.2 b c hC hW hb
    have h6s := hx.1
    have q := rkD_ne (S_p := (bx_up S 424 x12 3)) g1 ((bx_up_ne (by omega))) ((bx_up_ne (by omega))) (fun j => ⟨(bx_up_ne (by omega)), (bx_up_ne (by omega))⟩) (fun j => ⟨(bx_up_ne (by omega)), (bx_up_ne (by omega))⟩)
    have hop := rkSt_op (ws := rzWs S0) (c := c) hc
    rw [rzLv_eq b0, hop.2.2 (by omega), ← hst]
    exact ⟨q.1, g2.tr q.2⟩)⟩, d_⟩
theorem rxcROPK_5_3 {S0 : Nat → Int → Int} {ws : List Int} {S : Nat → Int → Int} {st lp jn sr : Int} (hP : rxPROPK S0 ws) (hin : bx_same rxL (bx_mdl rxCROPK.2.2.1) S0 S) (I0 : bx_Inv rxL S) (hinv : rxIROPK_5 S0 ws S st lp jn sr) (l8 : 0 ≤ st) (u8 : st ≤ 13) (l9 : 0 ≤ lp) (u9 : lp ≤ 400) (l10 : 0 ≤ jn) (u10 : jn ≤ 1) (l11 : 0 ≤ sr) (u11 : sr ≤ 6) (f0 : sr ≠ 4) : (True) ∧ (True) ∧ rxIROPK_6 S0 ws S st lp jn ∧ rxmROPK_6 S0 ws S st lp jn < rxmROPK_5 S0 ws S st lp jn sr := by
  obtain ⟨hI, hx⟩ := hinv
  obtain ⟨a_, b_, c_, d_⟩ := rxcROP_5_3 hP hin I0 hI l8 u8 l9 u9 l10 u10 l11 u11 f0
  exact ⟨a_, b_, ⟨c_, (by
    obtain ⟨hw, hrest⟩ := hI
    obtain ⟨hD, b0, b8, hc, st2, hw2, hst, hn1⟩ := hP
    have hs2 : st = st2 := Option.some.inj (congrArg (fun l : List Int => l[1]?) (hw.symm.trans hw2))
    subst hs2
    have h1s := rzOp_str (T := rzCut (S0 411)) (n := S0 412 1) (f := S0 412 2) (s := S0 424 (S0 412 8)) hn1 hst
    have h4s := rzOp_ge (T := rzCut (S0 411)) (n := S0 412 1) (f := S0 412 2) (s := S0 424 (S0 412 8)) hn1 hst
    intro b c hC hW hb
    obtain ⟨g1, g2⟩ := hx.2 b c hC hW hb
    have h6s := hx.1
    have q := rkD_ne (S_p := S) g1 (rfl) (rfl) (fun j => ⟨rfl, rfl⟩) (fun j => ⟨rfl, rfl⟩)
    have hop := rkSt_op (ws := rzWs S0) (c := c) hc
    rw [rzLv_eq b0, hop.2.2 (by omega), ← hst]
    exact ⟨q.1, g2.tr q.2⟩)⟩, d_⟩
theorem rxdROPK_7_0 {S0 : Nat → Int → Int} {ws : List Int} {S : Nat → Int → Int} {st lp jn : Int} (hP : rxPROPK S0 ws) (hin : bx_same rxL (bx_mdl rxCROPK.2.2.1) S0 S) (hin2 : bx_same rxL (bx_mdl rxCROPK.2.2.1) S S) (I0 : bx_Inv rxL S) (I1 : bx_Inv rxL S) (hinv : rxIROPK_7 S0 ws S st lp jn) (l8 : 0 ≤ st) (u8 : st ≤ 13) (l9 : 0 ≤ lp) (u9 : lp ≤ 400) (l10 : 0 ≤ jn) (u10 : jn ≤ 1) : (True) ∧ rxPSROPK S0 ws S none := by
  obtain ⟨hI, hx⟩ := hinv
  obtain ⟨a_, c_⟩ := rxdROP_7_0 hP hin hin2 I0 I1 hI l8 u8 l9 u9 l10 u10
  exact ⟨a_, rfl, c_, hx⟩