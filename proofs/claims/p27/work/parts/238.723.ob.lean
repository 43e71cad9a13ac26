noncomputable def rxCOBK : bx_Ct := ([(3, (1, 480, 0)), (0, (0, 31, 32))], none, [(12, 9), (12, 10), (12, 11), (12, 12), (12, 13), (12, 14), (12, 24), (12, 25), (1070, 0), (1071, 0)], 3, [])
noncomputable def rxIOBK_0 (S0 : Nat → Int → Int) (ws : List Int) (S : Nat → Int → Int) (op : Int) : Prop := rxIOBW_0 S0 ws S op ∧ True
noncomputable def rxmOBK_0 (S0 : Nat → Int → Int) (ws : List Int) (S : Nat → Int → Int) (op : Int) : Nat := rxmOBW_0 S0 ws S op
noncomputable def rxzOBK_0 : rx_Z := ([(0, 0), (0, 0), (0, 0), (0, 0), (0, 0), (0, 0), (0, 0), (0, 0), (31, 32)], [], [], 0, 0, 0, [(0, .inr (3, (0, 480))), (1, .inr (0, (8, 0)))], [])
noncomputable def rxIOBK_1 (S0 : Nat → Int → Int) (ws : List Int) (S : Nat → Int → Int) (op is : Int) : Prop := rxIOBW_1 S0 ws S op is ∧ True
noncomputable def rxmOBK_1 (S0 : Nat → Int → Int) (ws : List Int) (S : Nat → Int → Int) (op is : Int) : Nat := rxmOBW_1 S0 ws S op is
noncomputable def rxzOBK_1 : rx_Z := ([(0, 0), (0, 0), (0, 0), (0, 0), (0, 0), (0, 0), (0, 0), (0, 0), (31, 32), (0, 1)], [], [], 0, 0, 15, [(0, .inr (3, (0, 480))), (1, .inr (0, (8, 0)))], [.inr (0, (9, 0)), .inr (3, (0, 480))])
noncomputable def rxIOBK_2 (S0 : Nat → Int → Int) (ws : List Int) (S : Nat → Int → Int) (op is : Int) : Prop := rxIOBW_2 S0 ws S op is ∧ (∀ (b : Int) (c : rkC), rkMd S0 b c → rkMd S b c ∧ rkFm S0 S b)
noncomputable def rxmOBK_2 (S0 : Nat → Int → Int) (ws : List Int) (S : Nat → Int → Int) (op is : Int) : Nat := rxmOBW_2 S0 ws S op is
noncomputable def rxzOBK_2 : rx_Z := ([(0, 0), (0, 0), (0, 0), (0, 0), (0, 0), (0, 0), (0, 0), (0, 0), (31, 32), (0, 1)], [], [], 0, 0, 18, [(0, .inr (3, (0, 480))), (1, .inr (0, (8, 0)))], [])
noncomputable def rxIOBK_3 (S0 : Nat → Int → Int) (ws : List Int) (S : Nat → Int → Int) (op q : Int) : Prop := rxIOBW_3 S0 ws S op q ∧ (∀ (b : Int) (c : rkC), rkMd S0 b c → rkMd S b c ∧ rkFm S0 S b)
noncomputable def rxmOBK_3 (S0 : Nat → Int → Int) (ws : List Int) (S : Nat → Int → Int) (op q : Int) : Nat := rxmOBW_3 S0 ws S op q
noncomputable def rxzOBK_3 : rx_Z := ([(0, 0), (0, 0), (0, 0), (0, 0), (0, 0), (0, 0), (0, 0), (0, 0), (31, 32), (0, 7)], [], [], 0, 0, 30, [(0, .inr (3, (0, 480))), (1, .inr (0, (8, 0)))], [.inr (0, (9, 0)), .inr (3, (0, 480))])
noncomputable def rxIOBK_4 (S0 : Nat → Int → Int) (ws : List Int) (S : Nat → Int → Int) (op op2 : Int) : Prop := rxIOBW_4 S0 ws S op op2 ∧ (∀ (b : Int) (c : rkC), rkMd S0 b c → rkMd S b c ∧ rkFm S0 S b)
noncomputable def rxmOBK_4 (S0 : Nat → Int → Int) (ws : List Int) (S : Nat → Int → Int) (op op2 : Int) : Nat := rxmOBW_4 S0 ws S op op2
noncomputable def rxzOBK_4 : rx_Z := ([(0, 0), (0, 0), (0, 0), (0, 0), (0, 0), (0, 0), (0, 0), (0, 0), (31, 32), (31, 32)], [], [], 0, 0, 38, [(0, .inr (3, (0, 480))), (1, .inr (0, (8, 0)))], [.inr (0, (0, 0)), .inr (0, (9, 0)), .inr (3, (0, 480))])
noncomputable def rxIOBK_5 (S0 : Nat → Int → Int) (ws : List Int) (S : Nat → Int → Int) (op op2 : Int) : Prop := rxIOBW_5 S0 ws S op op2 ∧ (∀ (b : Int) (c : rkC), rkMd S0 b c → rkMd S b (rkPush op 0 c) ∧ rkFm S0 S b)
noncomputable def rxmOBK_5 (S0 : Nat → Int → Int) (ws : List Int) (S : Nat → Int → Int) (op op2 : Int) : Nat := rxmOBW_5 S0 ws S op op2
noncomputable def rxzOBK_5 : rx_Z := ([(0, 0), (0, 0), (0, 0), (0, 0), (0, 0), (0, 0), (0, 0), (0, 0), (31, 32), (31, 32)], [], [], 0, 0, 41, [(0, .inr (3, (0, 480))), (1, .inr (0, (8, 0)))], [])
noncomputable def rxoOBK_0_0 : bx_HO := (([(0, 0), (0, 0), (0, 0), (0, 0), (0, 0), (0, 0), (0, 0), (0, 0), (31, 32), (0, 7)], [], [(((0, 0), 1851192626986356802442008000046409524956554626371924516682072064000000), .inr (0, (9, 0))), (((0, 480), 25), .inr (0, (9, 0)))], 0, 0, 15, [(0, .inr (3, (0, 480))), (1, .inr (0, (8, 0)))], [.inr (0, (0, 1)), .inr (3, (0, 480))]), [], [], [(0, 0), (0, 0), (0, 0), (0, 0), (0, 0), (0, 0), (0, 0), (0, 0), (8, 0), (0, 1)], 1)
noncomputable def rxoOBK_0_1 : bx_HO := (([(0, 0), (0, 0), (0, 0), (0, 0), (0, 0), (0, 0), (0, 0), (0, 0), (31, 32), (8, 8)], [], [(((0, 0), 1851192626986356802442008000046409524956554626371924516682072064000000), .inr (0, (9, 0))), (((0, 480), 25), .inr (0, (9, 0)))], 0, 0, 15, [(0, .inr (3, (0, 480))), (1, .inr (0, (8, 0)))], [.inr (0, (0, 0)), .inr (3, (0, 480))]), [], [], [(0, 0), (0, 0), (0, 0), (0, 0), (0, 0), (0, 0), (0, 0), (0, 0), (8, 0), (0, 0)], 1)
noncomputable def rxoOBK_2_0 : bx_HO := (([(0, 0), (0, 0), (0, 0), (0, 0), (0, 0), (0, 0), (0, 0), (0, 0), (31, 32), (0, 1), (0, 0), (0, 8)], [], [(((0, 0), 1851192626986356802442008000046409524956554626371924516682072064000000), .inr (0, (11, 0))), (((0, 480), 25), .inr (0, (11, 0))), (((0, 0), 1851192626986356800234234225391877833944518517379736727590010880000000), .inr (0, (10, 0))), (((0, 480), 14), .inr (0, (10, 0)))], 0, 0, 30, [(0, .inr (3, (0, 480))), (1, .inr (0, (8, 0)))], [.inr (0, (11, 0)), .inr (3, (0, 480))]), [(11, 0, 7)], [], [(0, 0), (0, 0), (0, 0), (0, 0), (0, 0), (0, 0), (0, 0), (0, 0), (8, 0), (11, 0)], 3)
noncomputable def rxeOBK_2_0 : rx_End × List (Nat × Int × Int) := (([(0, 0), (0, 0), (0, 0), (0, 0), (0, 0), (0, 0), (0, 0), (0, 0), (31, 32), (0, 1), (1, 1)], [(3, (10, 0), (0, 0))], [(((0, 0), 1851192626986356800234234225391877833944518517379736727590010880000000), .inr (0, (10, 0))), (((0, 480), 14), .inr (0, (10, 0)))], none), [])
noncomputable def rxoOBK_3_0 : bx_HO := (([(0, 0), (0, 0), (0, 0), (0, 0), (0, 0), (0, 0), (0, 0), (0, 0), (31, 32), (0, 7)], [], [(((0, 0), 1851192626986356802442008000046409524956554626371924516682072067000000), .inr (0, (9, 1))), (((0, 480), 25), .inr (0, (9, 1)))], 0, 0, 38, [(0, .inr (3, (0, 480))), (1, .inr (0, (8, 0)))], [.inr (0, (0, 0)), .inr (0, (8, 0)), .inr (3, (0, 480))]), [], [], [(0, 0), (0, 0), (0, 0), (0, 0), (0, 0), (0, 0), (0, 0), (0, 0), (8, 0), (8, 0)], 4)
noncomputable def rxeOBK_5_0 : rx_End × List (Nat × Int × Int) := (([(0, 0), (0, 0), (0, 0), (0, 0), (0, 0), (0, 0), (0, 0), (0, 0), (31, 32), (31, 32)], [], [], none), [])
noncomputable def rxYOBK : List bx_HE := [(rxzOBK_0, [rxoOBK_0_0, rxoOBK_0_1], []), (rxzOBK_1, [], []), (rxzOBK_2, [rxoOBK_2_0], [rxeOBK_2_0]), (rxzOBK_3, [rxoOBK_3_0], []), (rxzOBK_4, [], []), (rxzOBK_5, [], [rxeOBK_5_0])]
noncomputable def rxUOBK (q : bx_HE) : Bool := Nat.beq (rx_zpc q.1) 15 || Nat.beq (rx_zpc q.1) 38
noncomputable def rxYBOBK : bx_B := (rxV, rxNP, rxDmf, bx_mdH rxCOBK.2.2.1)
set_option maxRecDepth 100000 in
theorem rxYcOBK : bx_chkH rxYBOBK rxM270 rxCOBK rxYOBK (rxUOBK, fun cut z => rx_ex2 (rxCT rxYBOBK rxCnE) cut 30000 rxCOBK.2.2.2.1 270 z) = true := by decide +kernel
noncomputable def rxIOBK (S0 : Nat → Int → Int) (ws : List Int) (i : Nat) : bx_SP := fun S r => match i with | 0 => rxIOBK_0 S0 ws S (r 8) | 1 => rxIOBK_1 S0 ws S (r 8) (r 9) | 2 => rxIOBK_2 S0 ws S (r 8) (r 9) | 3 => rxIOBK_3 S0 ws S (r 8) (r 9) | 4 => rxIOBK_4 S0 ws S (r 8) (r 9) | 5 => rxIOBK_5 S0 ws S (r 8) (r 9) | _ => False
noncomputable def rxmOBK (S0 : Nat → Int → Int) (ws : List Int) (i : Nat) (S : Nat → Int → Int) (r : Nat → Int) : Nat := match i with | 0 => rxmOBK_0 S0 ws S (r 8) | 1 => rxmOBK_1 S0 ws S (r 8) (r 9) | 2 => rxmOBK_2 S0 ws S (r 8) (r 9) | 3 => rxmOBK_3 S0 ws S (r 8) (r 9) | 4 => rxmOBK_4 S0 ws S (r 8) (r 9) | 5 => rxmOBK_5 S0 ws S (r 8) (r 9) | _ => 0
noncomputable def rxPOBK (S0 : Nat → Int → Int) (ws : List Int) : Prop := rxPOBW S0 ws
noncomputable def rxPSOBK (S0 : Nat → Int → Int) (ws : List Int) (S : Nat → Int → Int) (w : Option Int) : Prop := w = none ∧ rxPSOBW S0 ws S w ∧ (S 480 14 = 0 → ∃ op : Int, ws = [480, op] ∧ (∀ (b : Int) (c : rkC), rkMd S0 b c → rkMd S b (rkPush op 0 c) ∧ rkFm S0 S b))
theorem rxkOBK_1 {S0 : Nat → Int → Int} {ws : List Int} {S : Nat → Int → Int} {op is : Int} (hP : rxPOBK S0 ws) (hin : bx_same rxL (bx_mdl rxCOBK.2.2.1) S0 S) (I0 : bx_Inv rxL S) (hinv : rxIOBK_1 S0 ws S op is) (l8 : 31 ≤ op) (u8 : op ≤ 32) (l9 : 0 ≤ is) (u9 : is ≤ 1) : rxPMUW S [480, is] ∧ ∀ (S_p : Nat → Int → Int), rxPSMUW S [480, is] S_p none → bx_Inv rxL S_p → bx_same rxL (bx_mdl rxCMUW.2.2.1) S S_p → rxIOBK_2 S0 ws S_p op is ∧ rxmOBK_2 S0 ws S_p op is < rxmOBK_1 S0 ws S op is := by
  obtain ⟨hI, hx⟩ := hinv
  have g_ := rxkOBW_1 hP hin I0 hI l8 u8 l9 u9
  exact ⟨g_.1, fun S_p hq I1 hsm => ⟨⟨(g_.2 S_p hq I1 hsm).1, (by
    have e := hI.1.1
    subst e
    exact fun b c hC => rkMd_of hC I0 hsm (by decide +kernel))⟩, (g_.2 S_p hq I1 hsm).2⟩⟩
theorem rxsOBK_1 {X : (Nat → Int → Int) → Prop} {S0 : Nat → Int → Int} {ws : List Int} (hP : rxPOBK S0 ws) : rx_obK X S0 rxCOBK.2.2.1 rxCMUW.2.2.1 (rxIOBK S0 ws) (rxmOBK S0 ws) 1 2 rxzOBK_1 rxzOBK_2 [.inr (3, (0, 480)), .inr (0, (9, 0))] none rxPMUW rxPSMUW := by
  intro S r hinv hXS I0 hin hs_ hf_
  have b_ := bx_bds_sat hs_
  have f_ := bx_fcl_ok hs_.1 hf_
  obtain ⟨⟨l8, u8⟩, ⟨l9, u9⟩, -⟩ := b_
  have g := rxkOBK_1 hP hin I0 hinv l8 u8 l9 u9
  have ea : List.map (bx_num r) [.inr (3, (0, 480)), .inr (0, (9, 0))] = [480, (r 9)] := by
    simp only [List.map_cons, List.map_nil, bx_xv_ok hs_.1]
    rfl
  rw [ea]
  refine ⟨g.1, fun S_p w r_p hPS hX_p I1 hsm hr hw hs_p => ?_⟩
  have hw : w = none := hPS.1
  subst hw
  have g2 := g.2 S_p hPS I1 hsm
  show rxIOBK_2 S0 ws S_p (r_p 8) (r_p 9) ∧ rxmOBK_2 S0 ws S_p (r_p 8) (r_p 9) < _
  rw [hr 8 (by decide), hr 9 (by decide)]
  exact g2
theorem rxkOBK_4 {S0 : Nat → Int → Int} {ws : List Int} {S : Nat → Int → Int} {op op2 : Int} (hP : rxPOBK S0 ws) (hin : bx_same rxL (bx_mdl rxCOBK.2.2.1) S0 S) (I0 : bx_Inv rxL S) (hinv : rxIOBK_4 S0 ws S op op2) (l8 : 31 ≤ op) (u8 : op ≤ 32) (l9 : 31 ≤ op2) (u9 : op2 ≤ 32) : rxPPU S [480, op2, 0] ∧ ∀ (S_p : Nat → Int → Int), rxPSPU S [480, op2, 0] S_p none → bx_Inv rxL S_p → bx_same rxL (bx_mdl rxCPU.2.2.1) S S_p → rxIOBK_5 S0 ws S_p op op2 ∧ rxmOBK_5 S0 ws S_p op op2 < rxmOBK_4 S0 ws S op op2 := by
  obtain ⟨hI, hx⟩ := hinv
  have g_ := rxkOBW_4 hP hin I0 hI l8 u8 l9 u9
  exact ⟨g_.1, fun S_p hq I1 hsm => ⟨⟨(g_.2 S_p hq I1 hsm).1, (by
    obtain ⟨-, o2, a2, hw2, e⟩ := hq
    have ho : op2 = o2 := Option.some.inj (congrArg (fun l : List Int => l[1]?) hw2)
    have hop := hI.1.1
    subst e
    intro b c hC
    obtain ⟨g1, g2⟩ := hx b c hC
    have q_ := rkMd_pu (op := o2) (a := 0) (x := a2) g1 (fun g => by rcases g with g | g <;> omega)
    rw [show op = o2 by omega]
    exact ⟨q_.1, g2.tr q_.2⟩)⟩, (g_.2 S_p hq I1 hsm).2⟩⟩
theorem rxsOBK_4 {X : (Nat → Int → Int) → Prop} {S0 : Nat → Int → Int} {ws : List Int} (hP : rxPOBK S0 ws) : rx_obK X S0 rxCOBK.2.2.1 rxCPU.2.2.1 (rxIOBK S0 ws) (rxmOBK S0 ws) 4 5 rxzOBK_4 rxzOBK_5 [.inr (3, (0, 480)), .inr (0, (9, 0)), .inr (0, (0, 0))] none rxPPU rxPSPU := by
  intro S r hinv hXS I0 hin hs_ hf_
  have b_ := bx_bds_sat hs_
  have f_ := bx_fcl_ok hs_.1 hf_
  obtain ⟨⟨l8, u8⟩, ⟨l9, u9⟩, -⟩ := b_
  have g := rxkOBK_4 hP hin I0 hinv l8 u8 l9 u9
  have ea : List.map (bx_num r) [.inr (3, (0, 480)), .inr (0, (9, 0)), .inr (0, (0, 0))] = [480, (r 9), 0] := by
    simp only [List.map_cons, List.map_nil, bx_xv_ok hs_.1]
    rfl
  rw [ea]
  refine ⟨g.1, fun S_p w r_p hPS hX_p I1 hsm hr hw hs_p => ?_⟩
  have hw : w = none := hPS.1
  subst hw
  have g2 := g.2 S_p hPS I1 hsm
  show rxIOBK_5 S0 ws S_p (r_p 8) (r_p 9) ∧ rxmOBK_5 S0 ws S_p (r_p 8) (r_p 9) < _
  rw [hr 8 (by decide), hr 9 (by decide)]
  exact g2
theorem rxcOBK_0_0 {S0 : Nat → Int → Int} {ws : List Int} {S : Nat → Int → Int} {op x9 : Int} (hP : rxPOBK S0 ws) (hin : bx_same rxL (bx_mdl rxCOBK.2.2.1) S0 S) (I0 : bx_Inv rxL S) (hinv : rxIOBK_0 S0 ws S op) (l8 : 31 ≤ op) (u8 : op ≤ 32) (l9 : 0 ≤ x9) (u9 : x9 ≤ 7) (e0 : S 480 25 = x9) : (True) ∧ (True) ∧ rxIOBK_1 S0 ws S op 1 ∧ rxmOBK_1 S0 ws S op 1 < rxmOBK_0 S0 ws S op := by
  obtain ⟨hI, hx⟩ := hinv
  obtain ⟨a_, b_, c_, d_⟩ := rxcOBW_0_0 hP hin I0 hI l8 u8 l9 u9 e0
  exact ⟨a_, b_, ⟨c_, trivial⟩, d_⟩
theorem rxgOBK_0_0 {X : (Nat → Int → Int) → Prop} {S0 : Nat → Int → Int} {ws : List Int} (hP : rxPOBK S0 ws) : bx_obC rxL X S0 rxCOBK.2.2.1 (rxIOBK S0 ws) (rxmOBK S0 ws) 0 rxzOBK_0 rxoOBK_0_0 := by
  intro S S_p r r_p hinv hX hin hsm_ hseg
  obtain ⟨I0, I1, h0_, hr_, b_, f_, d_⟩ := bx_cl (evs := [(0, (0, 480), (0, 25), .inr (0, (9, 0)))]) (fvs := []) hseg (by decide +kernel) (by decide +kernel)
  have hinv : rxIOBK_0 S0 ws S (r 8) := hinv
  rw [← hr_ 8 (by decide)] at hinv
  obtain ⟨⟨l8, u8⟩, ⟨l9, u9⟩, -⟩ := b_
  obtain ⟨e0, w_⟩ := d_
  subst w_
  have g := rxcOBK_0_0 hP hin I0 hinv l8 u8 l9 u9 e0
  refine ⟨bx_narP_ok (l := []) g.1, bx_nfP_ok h0_ (fvs := []) (by decide +kernel) g.2.1, ?_, ?_⟩
  · show rxIOBK_1 S0 ws S_p (bx_val [(0, 0), (0, 0), (0, 0), (0, 0), (0, 0), (0, 0), (0, 0), (0, 0), (8, 0), (0, 1)] r_p 8) (bx_val [(0, 0), (0, 0), (0, 0), (0, 0), (0, 0), (0, 0), (0, 0), (0, 0), (8, 0), (0, 1)] r_p 9)
    rw [bx_val_x (n := 8) (e := (8, 0)) h0_ rfl, bx_val_x (n := 9) (e := (0, 1)) h0_ rfl]
    exact g.2.2.1
  · show rxmOBK_1 S0 ws S_p (bx_val [(0, 0), (0, 0), (0, 0), (0, 0), (0, 0), (0, 0), (0, 0), (0, 0), (8, 0), (0, 1)] r_p 8) (bx_val [(0, 0), (0, 0), (0, 0), (0, 0), (0, 0), (0, 0), (0, 0), (0, 0), (8, 0), (0, 1)] r_p 9) < rxmOBK_0 S0 ws S_p (r 8)
    rw [bx_val_x (n := 8) (e := (8, 0)) h0_ rfl, bx_val_x (n := 9) (e := (0, 1)) h0_ rfl, ← hr_ 8 (by decide)]
    exact g.2.2.2
theorem rxcOBK_0_1 {S0 : Nat → Int → Int} {ws : List Int} {S : Nat → Int → Int} {op x9 : Int} (hP : rxPOBK S0 ws) (hin : bx_same rxL (bx_mdl rxCOBK.2.2.1) S0 S) (I0 : bx_Inv rxL S) (hinv : rxIOBK_0 S0 ws S op) (l8 : 31 ≤ op) (u8 : op ≤ 32) (l9 : 8 ≤ x9) (u9 : x9 ≤ 8) (e0 : S 480 25 = x9) : (True) ∧ (True) ∧ rxIOBK_1 S0 ws S op 0 ∧ rxmOBK_1 S0 ws S op 0 < rxmOBK_0 S0 ws S op := by
  obtain ⟨hI, hx⟩ := hinv
  obtain ⟨a_, b_, c_, d_⟩ := rxcOBW_0_1 hP hin I0 hI l8 u8 l9 u9 e0
  exact ⟨a_, b_, ⟨c_, trivial⟩, d_⟩
theorem rxgOBK_0_1 {X : (Nat → Int → Int) → Prop} {S0 : Nat → Int → Int} {ws : List Int} (hP : rxPOBK S0 ws) : bx_obC rxL X S0 rxCOBK.2.2.1 (rxIOBK S0 ws) (rxmOBK S0 ws) 0 rxzOBK_0 rxoOBK_0_1 := by
  intro S S_p r r_p hinv hX hin hsm_ hseg
  obtain ⟨I0, I1, h0_, hr_, b_, f_, d_⟩ := bx_cl (evs := [(0, (0, 480), (0, 25), .inr (0, (9, 0)))]) (fvs := []) hseg (by decide +kernel) (by decide +kernel)
  have hinv : rxIOBK_0 S0 ws S (r 8) := hinv
  rw [← hr_ 8 (by decide)] at hinv
  obtain ⟨⟨l8, u8⟩, ⟨l9, u9⟩, -⟩ := b_
  obtain ⟨e0, w_⟩ := d_
  subst w_
  have g := rxcOBK_0_1 hP hin I0 hinv l8 u8 l9 u9 e0
  refine ⟨bx_narP_ok (l := []) g.1, bx_nfP_ok h0_ (fvs := []) (by decide +kernel) g.2.1, ?_, ?_⟩
  · show rxIOBK_1 S0 ws S_p (bx_val [(0, 0), (0, 0), (0, 0), (0, 0), (0, 0), (0, 0), (0, 0), (0, 0), (8, 0), (0, 0)] r_p 8) (bx_val [(0, 0), (0, 0), (0, 0), (0, 0), (0, 0), (0, 0), (0, 0), (0, 0), (8, 0), (0, 0)] r_p 9)
    rw [bx_val_x (n := 8) (e := (8, 0)) h0_ rfl, bx_val_x (n := 9) (e := (0, 0)) h0_ rfl]
    exact g.2.2.1
  · show rxmOBK_1 S0 ws S_p (bx_val [(0, 0), (0, 0), (0, 0), (0, 0), (0, 0), (0, 0), (0, 0), (0, 0), (8, 0), (0, 0)] r_p 8) (bx_val [(0, 0), (0, 0), (0, 0), (0, 0), (0, 0), (0, 0), (0, 0), (0, 0), (8, 0), (0, 0)] r_p 9) < rxmOBK_0 S0 ws S_p (r 8)
    rw [bx_val_x (n := 8) (e := (8, 0)) h0_ rfl, bx_val_x (n := 9) (e := (0, 0)) h0_ rfl, ← hr_ 8 (by decide)]
    exact g.2.2.2
theorem rxcOBK_2_0 {S0 : Nat → Int → Int} {ws : List Int} {S : Nat → Int → Int} {op is x10 x11 : Int} (hP : rxPOBK S0 ws) (hin : bx_same rxL (bx_mdl rxCOBK.2.2.1) S0 S) (I0 : bx_Inv rxL S) (hinv : rxIOBK_2 S0 ws S op is) (l8 : 31 ≤ op) (u8 : op ≤ 32) (l9 : 0 ≤ is) (u9 : is ≤ 1) (l10 : 0 ≤ x10) (u10 : x10 ≤ 0) (l11 : 0 ≤ x11) (u11 : x11 ≤ 8) (e1 : S 480 14 = x10) (e0 : S 480 25 = x11) : ((0 ≤ x11 ∧ x11 ≤ 7) ∧ True) ∧ (True) ∧ rxIOBK_3 S0 ws S op x11 ∧ rxmOBK_3 S0 ws S op x11 < rxmOBK_2 S0 ws S op is := by
  obtain ⟨hI, hx⟩ := hinv
  obtain ⟨a_, b_, c_, d_⟩ := rxcOBW_2_0 hP hin I0 hI l8 u8 l9 u9 l10 u10 l11 u11 e1 e0
  exact ⟨a_, b_, ⟨c_, hx⟩, d_⟩
theorem rxgOBK_2_0 {X : (Nat → Int → Int) → Prop} {S0 : Nat → Int → Int} {ws : List Int} (hP : rxPOBK S0 ws) : bx_obC rxL X S0 rxCOBK.2.2.1 (rxIOBK S0 ws) (rxmOBK S0 ws) 2 rxzOBK_2 rxoOBK_2_0 := by
  intro S S_p r r_p hinv hX hin hsm_ hseg
  obtain ⟨I0, I1, h0_, hr_, b_, f_, d_⟩ := bx_cl (evs := [(0, (0, 480), (0, 25), .inr (0, (11, 0))), (0, (0, 480), (0, 14), .inr (0, (10, 0)))]) (fvs := []) hseg (by decide +kernel) (by decide +kernel)
  have hinv : rxIOBK_2 S0 ws S (r 8) (r 9) := hinv
  rw [← hr_ 8 (by decide), ← hr_ 9 (by decide)] at hinv
  obtain ⟨⟨l8, u8⟩, ⟨l9, u9⟩, ⟨l10, u10⟩, ⟨l11, u11⟩, -⟩ := b_
  obtain ⟨e0, ⟨e1, w_⟩⟩ := d_
  subst w_
  have g := rxcOBK_2_0 hP hin I0 hinv l8 u8 l9 u9 l10 u10 l11 u11 e1 e0
  refine ⟨bx_narP_ok (l := [(11, 0, 7)]) g.1, bx_nfP_ok h0_ (fvs := []) (by decide +kernel) g.2.1, ?_, ?_⟩
  · show rxIOBK_3 S0 ws S_p (bx_val [(0, 0), (0, 0), (0, 0), (0, 0), (0, 0), (0, 0), (0, 0), (0, 0), (8, 0), (11, 0)] r_p 8) (bx_val [(0, 0), (0, 0), (0, 0), (0, 0), (0, 0), (0, 0), (0, 0), (0, 0), (8, 0), (11, 0)] r_p 9)
    rw [bx_val_x (n := 8) (e := (8, 0)) h0_ rfl, bx_val_x (n := 9) (e := (11, 0)) h0_ rfl]
    exact g.2.2.1
  · show rxmOBK_3 S0 ws S_p (bx_val [(0, 0), (0, 0), (0, 0), (0, 0), (0, 0), (0, 0), (0, 0), (0, 0), (8, 0), (11, 0)] r_p 8) (bx_val [(0, 0), (0, 0), (0, 0), (0, 0), (0, 0), (0, 0), (0, 0), (0, 0), (8, 0), (11, 0)] r_p 9) < rxmOBK_2 S0 ws S_p (r 8) (r 9)
    rw [bx_val_x (n := 8) (e := (8, 0)) h0_ rfl, bx_val_x (n := 9) (e := (11, 0)) h0_ rfl, ← hr_ 8 (by decide), ← hr_ 9 (by decide)]
    exact g.2.2.2
theorem rxdOBK_2_0 {S0 : Nat → Int → Int} {ws : List Int} {S : Nat → Int → Int} {op is x10 : Int} (hP : rxPOBK S0 ws) (hin : bx_same rxL (bx_mdl rxCOBK.2.2.1) S0 S) (hin2 : bx_same rxL (bx_mdl rxCOBK.2.2.1) S S) (I0 : bx_Inv rxL S) (I1 : bx_Inv rxL S) (hinv : rxIOBK_2 S0 ws S op is) (l8 : 31 ≤ op) (u8 : op ≤ 32) (l9 : 0 ≤ is) (u9 : is ≤ 1) (l10 : 1 ≤ x10) (u10 : x10 ≤ 1) (f0 : x10 ≠ 0) (e0 : S 480 14 = x10) : (True) ∧ rxPSOBK S0 ws S none := by
  obtain ⟨hI, hx⟩ := hinv
  obtain ⟨a_, c_⟩ := rxdOBW_2_0 hP hin hin2 I0 I1 hI l8 u8 l9 u9 l10 u10 f0 e0
  exact ⟨a_, rfl, c_, (fun z => absurd z (by omega))⟩
theorem rxfOBK_2_0 {X : (Nat → Int → Int) → Prop} {S0 : Nat → Int → Int} {ws : List Int} (hP : rxPOBK S0 ws) : bx_obE rxL X S0 rxCOBK.2.2.1 (rxIOBK S0 ws) (rxPSOBK S0 ws) 2 rxzOBK_2 rxeOBK_2_0 := by
  intro S S_p r r_p hinv hX hin hsm_ hseg
  obtain ⟨I0, I1, h0_, hr_, b_, f_, d_⟩ := bx_cl (evs := [(0, (0, 480), (0, 14), .inr (0, (10, 0)))]) (fvs := [(3, (10, 0), (0, 0), (0, 0))]) hseg (by decide +kernel) (by decide +kernel)
  have hinv : rxIOBK_2 S0 ws S (r 8) (r 9) := hinv
  rw [← hr_ 8 (by decide), ← hr_ 9 (by decide)] at hinv
  obtain ⟨⟨l8, u8⟩, ⟨l9, u9⟩, ⟨l10, u10⟩, -⟩ := b_
  obtain ⟨f0, -⟩ := f_
  obtain ⟨e0, w_⟩ := d_
  subst w_
  have g := rxdOBK_2_0 hP hin hsm_ I0 I1 hinv l8 u8 l9 u9 l10 u10 f0 e0
  refine ⟨bx_narP_ok (l := []) g.1, ?_⟩
  exact g.2
theorem rxcOBK_3_0 {S0 : Nat → Int → Int} {ws : List Int} {S : Nat → Int → Int} {op q : Int} (hP : rxPOBK S0 ws) (hin : bx_same rxL (bx_mdl rxCOBK.2.2.1) S0 S) (I0 : bx_Inv rxL S) (hinv : rxIOBK_3 S0 ws S op q) (l8 : 31 ≤ op) (u8 : op ≤ 32) (l9 : 0 ≤ q) (u9 : q ≤ 7) : (True) ∧ (True) ∧ rxIOBK_4 S0 ws (bx_up S 480 25 (q + 1)) op op ∧ rxmOBK_4 S0 ws (bx_up S 480 25 (q + 1)) op op < rxmOBK_3 S0 ws S op q := by
  obtain ⟨hI, hx⟩ := hinv
  obtain ⟨a_, b_, c_, d_⟩ := rxcOBW_3_0 hP hin I0 hI l8 u8 l9 u9
  exact ⟨a_, b_, ⟨c_, (by
    intro b c hC
    obtain ⟨g1, g2⟩ := hx b c hC
    have q_ := rkMd_ne (S_p := (bx_up S 480 25 (q + 1))) g1 ((bx_up_ne (by omega))) ((bx_up_ne (by omega))) (fun j => ⟨(bx_up_ne (by omega)), (bx_up_ne (by omega))⟩) (fun j => ⟨(bx_up_ne (by omega)), (bx_up_ne (by omega))⟩)
    exact ⟨q_.1, g2.tr q_.2⟩)⟩, d_⟩
theorem rxgOBK_3_0 {X : (Nat → Int → Int) → Prop} {S0 : Nat → Int → Int} {ws : List Int} (hP : rxPOBK S0 ws) : bx_obC rxL X S0 rxCOBK.2.2.1 (rxIOBK S0 ws) (rxmOBK S0 ws) 3 rxzOBK_3 rxoOBK_3_0 := by
  intro S S_p r r_p hinv hX hin hsm_ hseg
  obtain ⟨I0, I1, h0_, hr_, b_, f_, d_⟩ := bx_cl (evs := [(1, (0, 480), (0, 25), .inr (0, (9, 1)))]) (fvs := []) hseg (by decide +kernel) (by decide +kernel)
  have hinv : rxIOBK_3 S0 ws S (r 8) (r 9) := hinv
  rw [← hr_ 8 (by decide), ← hr_ 9 (by decide)] at hinv
  obtain ⟨⟨l8, u8⟩, ⟨l9, u9⟩, -⟩ := b_
  obtain ⟨T0, w_, w0⟩ := d_
  subst w0
  subst w_
  have g := rxcOBK_3_0 hP hin I0 hinv l8 u8 l9 u9
  refine ⟨bx_narP_ok (l := []) g.1, bx_nfP_ok h0_ (fvs := []) (by decide +kernel) g.2.1, ?_, ?_⟩
  · show rxIOBK_4 S0 ws (bx_up T0 480 (25) (r_p 9 + 1)) (bx_val [(0, 0), (0, 0), (0, 0), (0, 0), (0, 0), (0, 0), (0, 0), (0, 0), (8, 0), (8, 0)] r_p 8) (bx_val [(0, 0), (0, 0), (0, 0), (0, 0), (0, 0), (0, 0), (0, 0), (0, 0), (8, 0), (8, 0)] r_p 9)
    rw [bx_val_x (n := 8) (e := (8, 0)) h0_ rfl, bx_val_x (n := 9) (e := (8, 0)) h0_ rfl]
    exact g.2.2.1
  · show rxmOBK_4 S0 ws (bx_up T0 480 (25) (r_p 9 + 1)) (bx_val [(0, 0), (0, 0), (0, 0), (0, 0), (0, 0), (0, 0), (0, 0), (0, 0), (8, 0), (8, 0)] r_p 8) (bx_val [(0, 0), (0, 0), (0, 0), (0, 0), (0, 0), (0, 0), (0, 0), (0, 0), (8, 0), (8, 0)] r_p 9) < rxmOBK_3 S0 ws T0 (r 8) (r 9)
    rw [bx_val_x (n := 8) (e := (8, 0)) h0_ rfl, bx_val_x (n := 9) (e := (8, 0)) h0_ rfl, ← hr_ 8 (by decide), ← hr_ 9 (by decide)]
    exact g.2.2.2
theorem rxdOBK_5_0 {S0 : Nat → Int → Int} {ws : List Int} {S : Nat → Int → Int} {op op2 : Int} (hP : rxPOBK S0 ws) (hin : bx_same rxL (bx_mdl rxCOBK.2.2.1) S0 S) (hin2 : bx_same rxL (bx_mdl rxCOBK.2.2.1) S S) (I0 : bx_Inv rxL S) (I1 : bx_Inv rxL S) (hinv : rxIOBK_5 S0 ws S op op2) (l8 : 31 ≤ op) (u8 : op ≤ 32) (l9 : 31 ≤ op2) (u9 : op2 ≤ 32) : (True) ∧ rxPSOBK S0 ws S none := by
  obtain ⟨hI, hx⟩ := hinv
  obtain ⟨a_, c_⟩ := rxdOBW_5_0 hP hin hin2 I0 I1 hI l8 u8 l9 u9
  exact ⟨a_, rfl, c_, (fun _ => ⟨op, hI.1.2.2.2.2.2, hx⟩)⟩
theorem rxfOBK_5_0 {X : (Nat → Int → Int) → Prop} {S0 : Nat → Int → Int} {ws : List Int} (hP : rxPOBK S0 ws) : bx_obE rxL X S0 rxCOBK.2.2.1 (rxIOBK S0 ws) (rxPSOBK S0 ws) 5 rxzOBK_5 rxeOBK_5_0 := by
  intro S S_p r r_p hinv hX hin hsm_ hseg
  obtain ⟨I0, I1, h0_, hr_, b_, f_, d_⟩ := bx_cl (evs := []) (fvs := []) hseg (by decide +kernel) (by decide +kernel)
  have hinv : rxIOBK_5 S0 ws S (r 8) (r 9) := hinv
  rw [← hr_ 8 (by decide), ← hr_ 9 (by decide)] at hinv
  obtain ⟨⟨l8, u8⟩, ⟨l9, u9⟩, -⟩ := b_
  have w_ := d_
  subst w_
  have g := rxdOBK_5_0 hP hin hsm_ I0 I1 hinv l8 u8 l9 u9
  refine ⟨bx_narP_ok (l := []) g.1, ?_⟩
  exact g.2
theorem rxgCOBK {X : (Nat → Int → Int) → Prop} {S0 : Nat → Int → Int} {ws : List Int} (hP : rxPOBK S0 ws) : bx_allI (fun i q => rxUOBK q = true ∨ bx_allP (fun o => bx_obC rxL X S0 rxCOBK.2.2.1 (rxIOBK S0 ws) (rxmOBK S0 ws) i q.1 o) q.2.1) 0 rxYOBK := ⟨Or.inr ⟨rxgOBK_0_0 hP, rxgOBK_0_1 hP, trivial⟩, Or.inl rfl, Or.inr ⟨rxgOBK_2_0 hP, trivial⟩, Or.inr ⟨rxgOBK_3_0 hP, trivial⟩, Or.inl rfl, Or.inr trivial, trivial⟩
theorem rxgEOBK {X : (Nat → Int → Int) → Prop} {S0 : Nat → Int → Int} {ws : List Int} (hP : rxPOBK S0 ws) : bx_allI (fun i q => rxUOBK q = true ∨ bx_allP (fun E => bx_obE rxL X S0 rxCOBK.2.2.1 (rxIOBK S0 ws) (rxPSOBK S0 ws) i q.1 E) q.2.2) 0 rxYOBK := ⟨Or.inr trivial, Or.inl rfl, Or.inr ⟨rxfOBK_2_0 hP, trivial⟩, Or.inr trivial, Or.inl rfl, Or.inr ⟨rxfOBK_5_0 hP, trivial⟩, trivial⟩
theorem rxuOBK {PX : State → Prop} {Dg : va_G} {A : Nat → Prop} {ad xa : Nat → Nat} {l : Launch} {X : (Nat → Int → Int) → Prop} (hPX : rx_PXOK rxNW A PX) (hX : ∀ S S1 : Nat → Int → Int, X S → bx_same rxL (bx_mdl rxCOBK.2.2.1) S S1 → X S1) (hQMUW : bx_ConP rxG rxNW rxAO PX Dg rxL X vwCl A ad l rxM265 rxCMUW rxPMUW rxPSMUW) (hQPU : bx_ConP rxG rxNW rxAO PX Dg rxL X vwCl A ad l rxM268 rxCPU rxPPU rxPSPU) {S0 : Nat → Int → Int} {ws : List Int} (hP : rxPOBK S0 ws) : ∀ (i : Nat) (q : bx_HE), rxYOBK[i]? = some q → rxUOBK q = true → ∀ {p : Program} {e : Env} {R : Room} {s : State} {m : MethodId} {args : Array Value} {below : List Frame} {meth : Method} {c : Code} {Q : State → Prop} {H0 : Heap}, rx_Fr rxG rxNW rxAO PX p s m args meth c rxM270 → (∀ q, H0.size ≤ q → A q) → H0 = s.heap → rxM270.2.2.2.2.2.2.1 ≤ R.cells → rxM270.2.2.2.2.2.2.2 ≤ R.slots → rxCOBK.2.2.2.1 ≤ R.frames → rxCOBK.2.2.2.1 * 40 ≤ R.locals → bx_Step p l e R s m args below meth c Q Dg rxL X vwCl A xa H0 ad rxM270 rxYOBK (rxIOBK S0 ws) (rxmOBK S0 ws) S0 rxCOBK.2.2.1 i q := by
  intro i q hq hus p e R s m args below meth c Q H0 hF hA hH0 hmc hms hd hdl
  match i, hq with
  | 0, hq =>
    cases hq
    exact absurd (show false = true from hus) Bool.false_ne_true
  | 1, hq =>
    cases hq
    exact rx_stepC (ins := .invokevirtual 284) (len := 3) (i_p := 2) (M_p := rxM265) (d := rxCOBK.2.2.2.1) (as := [.inr (3, (0, 480)), .inr (0, (9, 0))]) (t := []) (ct := rxCMUW) hPX hF rfl hA hH0 hmc hms hd hdl (by decide +kernel) rfl rfl (by decide +kernel) (by decide +kernel) hQMUW (by decide +kernel) rfl (Or.inl ⟨rfl, rfl, rfl⟩) (rxsOBK_1 hP)
  | 2, hq =>
    cases hq
    exact absurd (show false = true from hus) Bool.false_ne_true
  | 3, hq =>
    cases hq
    exact absurd (show false = true from hus) Bool.false_ne_true
  | 4, hq =>
    cases hq
    exact rx_stepC (ins := .invokevirtual 314) (len := 3) (i_p := 5) (M_p := rxM268) (d := rxCOBK.2.2.2.1) (as := [.inr (3, (0, 480)), .inr (0, (9, 0)), .inr (0, (0, 0))]) (t := []) (ct := rxCPU) hPX hF rfl hA hH0 hmc hms hd hdl (by decide +kernel) rfl rfl (by decide +kernel) (by decide +kernel) hQPU (by decide +kernel) rfl (Or.inl ⟨rfl, rfl, rfl⟩) (rxsOBK_4 hP)
  | 5, hq =>
    cases hq
    exact absurd (show false = true from hus) Bool.false_ne_true
  | n + 6, hq => cases hq
theorem rxQOBK {PX : State → Prop} {Dg : va_G} {A : Nat → Prop} {ad xa : Nat → Nat} {l : Launch} {X : (Nat → Int → Int) → Prop} (hPX : rx_PXOK rxNW A PX) (hsl : ∀ s : State, PX s → ∀ o idx n : Nat, rxSl o idx = some n → ∃ tx : String, vk_R (rxNm o) idx tx (ad n) s)
    (hX : ∀ S S_p : Nat → Int → Int, X S → bx_same rxL (bx_mdl rxCOBK.2.2.1) S S_p → X S_p)
    (ih : ∀ (j2 : Nat) (ct2 : bx_Ct) (M2 : rx_Mt), ct2 ∈ rxCnE j2 → ct2.2.2.2.1 + 1 ≤ rxCOBK.2.2.2.1 → rxT.2.2.2.2.2 j2 = some M2 → bx_Con rxG rxNW rxAO PX Dg rxL X vwCl A ad l M2 ct2) (hQMUW : bx_ConP rxG rxNW rxAO PX Dg rxL X vwCl A ad l rxM265 rxCMUW rxPMUW rxPSMUW) (hQPU : bx_ConP rxG rxNW rxAO PX Dg rxL X vwCl A ad l rxM268 rxCPU rxPPU rxPSPU) : bx_ConP rxG rxNW rxAO PX Dg rxL X vwCl A ad l rxM270 rxCOBK rxPOBK rxPSOBK :=
  rxQof (xa := xa) (Cn := rxCnE) (f := 30000) (j := 270) (tab := rxYOBK) (us := rxUOBK) hPX hsl hX ih rfl rxYcOBK rxIOBK rxmOBK
    (fun S0 ws r I0 I ht0 ht as he he1 hX0 hI0 hP hs ha => by
      have e := he.symm.trans (show bx_ent0 rxNP rxCOBK.1 bx_I0 [] = some ([(0, 0), (0, 0), (0, 0), (0, 0), (0, 0), (0, 0), (0, 0), (0, 0), (31, 32)], [], [.inr (3, (0, 480)), .inr (0, (8, 0))]) from rfl)
      cases e
      subst ha
      have h0 : r 0 = 0 := hs.1
      show rxIOBK_0 S0 _ S0 (r 8)
      refine ⟨⟨⟨rfl, ?_⟩, trivial⟩, trivial⟩
      simp only [List.map_cons, List.map_nil, bx_xv_ok h0]
      rfl)
    (fun S0 ws hP => rxuOBK (xa := xa) hPX hX hQMUW hQPU hP) (fun S0 ws hP => rxgCOBK hP) (fun S0 ws hP => rxgEOBK hP)
noncomputable def rxCLFK : bx_Ct := ([(3, (1, 480, 0)), (0, (0, 0, 1)), (0, (0, 0, 8)), (0, (0, 0, 1000))], none, [(12, 9), (12, 10), (12, 11), (12, 12), (12, 13), (12, 14), (12, 18), (12, 21), (1068, 0), (1069, 0)], 3, [])
noncomputable def rxILFK_0 (S0 : Nat → Int → Int) (ws : List Int) (S : Nat → Int → Int) (is op arg : Int) : Prop := rxILFW_0 S0 ws S is op arg ∧ True
noncomputable def rxmLFK_0 (S0 : Nat → Int → Int) (ws : List Int) (S : Nat → Int → Int) (is op arg : Int) : Nat := rxmLFW_0 S0 ws S is op arg
noncomputable def rxzLFK_0 : rx_Z := ([(0, 0), (0, 0), (0, 0), (0, 0), (0, 0), (0, 0), (0, 0), (0, 0), (0, 1), (0, 8), (0, 1000)], [], [], 0, 0, 0, [(0, .inr (3, (0, 480))), (1, .inr (0, (8, 0))), (2, .inr (0, (9, 0))), (3, .inr (0, (10, 0)))], [])
noncomputable def rxILFK_1 (S0 : Nat → Int → Int) (ws : List Int) (S : Nat → Int → Int) (op arg is2 : Int) : Prop := rxILFW_1 S0 ws S op arg is2 ∧ (∃ is0 : Int, ws = [480, is0, op, arg])
noncomputable def rxmLFK_1 (S0 : Nat → Int → Int) (ws : List Int) (S : Nat → Int → Int) (op arg is2 : Int) : Nat := rxmLFW_1 S0 ws S op arg is2
noncomputable def rxzLFK_1 : rx_Z := ([(0, 0), (0, 0), (0, 0), (0, 0), (0, 0), (0, 0), (0, 0), (0, 0), (0, 8), (0, 1000), (0, 1)], [], [], 0, 0, 19, [(0, .inr (3, (0, 480))), (2, .inr (0, (8, 0))), (3, .inr (0, (9, 0)))], [.inr (0, (10, 0)), .inr (3, (0, 480))])
noncomputable def rxILFK_2 (S0 : Nat → Int → Int) (ws : List Int) (S : Nat → Int → Int) (op arg is2 : Int) : Prop := rxILFW_2 S0 ws S op arg is2 ∧ (∃ is0 : Int, ws = [480, is0, op, arg]) ∧ (∀ (b : Int) (c : rkC), rkMd S0 b c → rkMd S b c ∧ rkFm S0 S b)
noncomputable def rxmLFK_2 (S0 : Nat → Int → Int) (ws : List Int) (S : Nat → Int → Int) (op arg is2 : Int) : Nat := rxmLFW_2 S0 ws S op arg is2
noncomputable def rxzLFK_2 : rx_Z := ([(0, 0), (0, 0), (0, 0), (0, 0), (0, 0), (0, 0), (0, 0), (0, 0), (0, 8), (0, 1000), (0, 1)], [], [], 0, 0, 22, [(0, .inr (3, (0, 480))), (2, .inr (0, (8, 0))), (3, .inr (0, (9, 0)))], [])
noncomputable def rxILFK_3 (S0 : Nat → Int → Int) (ws : List Int) (S : Nat → Int → Int) (op arg op2 arg2 : Int) : Prop := rxILFW_3 S0 ws S op arg op2 arg2 ∧ (∃ is0 : Int, ws = [480, is0, op, arg]) ∧ arg2 = arg ∧ (∀ (b : Int) (c : rkC), rkMd S0 b c → rkMd S b c ∧ rkFm S0 S b)
noncomputable def rxmLFK_3 (S0 : Nat → Int → Int) (ws : List Int) (S : Nat → Int → Int) (op arg op2 arg2 : Int) : Nat := rxmLFW_3 S0 ws S op arg op2 arg2
noncomputable def rxzLFK_3 : rx_Z := ([(0, 0), (0, 0), (0, 0), (0, 0), (0, 0), (0, 0), (0, 0), (0, 0), (0, 8), (0, 1000), (0, 8), (0, 1000)], [], [], 0, 0, 32, [(0, .inr (3, (0, 480))), (2, .inr (0, (8, 0))), (3, .inr (0, (9, 0)))], [.inr (0, (11, 0)), .inr (0, (10, 0)), .inr (3, (0, 480))])
noncomputable def rxILFK_4 (S0 : Nat → Int → Int) (ws : List Int) (S : Nat → Int → Int) (op arg op2 arg2 : Int) : Prop := rxILFW_4 S0 ws S op arg op2 arg2 ∧ (∃ is0 : Int, ws = [480, is0, op, arg]) ∧ (∀ (b : Int) (c : rkC), rkMd S0 b c → rkMd S b (rkEmit op arg c) ∧ rkFm S0 S b)
noncomputable def rxmLFK_4 (S0 : Nat → Int → Int) (ws : List Int) (S : Nat → Int → Int) (op arg op2 arg2 : Int) : Nat := rxmLFW_4 S0 ws S op arg op2 arg2
noncomputable def rxzLFK_4 : rx_Z := ([(0, 0), (0, 0), (0, 0), (0, 0), (0, 0), (0, 0), (0, 0), (0, 0), (0, 8), (0, 1000), (0, 8), (0, 1000)], [], [], 0, 0, 35, [(0, .inr (3, (0, 480))), (2, .inr (0, (8, 0))), (3, .inr (0, (9, 0)))], [])
noncomputable def rxILFK_5 (S0 : Nat → Int → Int) (ws : List Int) (S : Nat → Int → Int) (op arg q : Int) : Prop := rxILFW_5 S0 ws S op arg q ∧ (∃ is0 : Int, ws = [480, is0, op, arg]) ∧ (∀ (b : Int) (c : rkC), rkMd S0 b c → rkMd S b (rkEmit op arg c) ∧ rkFm S0 S b)
noncomputable def rxmLFK_5 (S0 : Nat → Int → Int) (ws : List Int) (S : Nat → Int → Int) (op arg q : Int) : Nat := rxmLFW_5 S0 ws S op arg q
noncomputable def rxzLFK_5 : rx_Z := ([(0, 0), (0, 0), (0, 0), (0, 0), (0, 0), (0, 0), (0, 0), (0, 0), (0, 8), (0, 1000), (0, 49)], [], [], 0, 0, 40, [(0, .inr (3, (0, 480))), (2, .inr (0, (8, 0))), (3, .inr (0, (9, 0)))], [.inr (0, (10, 0)), .inr (3, (0, 480))])
noncomputable def rxoLFK_0_0 : bx_HO := (([(0, 0), (0, 0), (0, 0), (0, 0), (0, 0), (0, 0), (0, 0), (0, 0), (1, 1), (0, 8), (0, 1000), (0, 49)], [(3, (8, 0), (0, 0))], [(((0, 0), 1851192626986356801639181172899307091861268768556583502466777088000000), .inr (0, (11, 0))), (((0, 480), 21), .inr (0, (11, 0)))], 0, 0, 19, [(0, .inr (3, (0, 480))), (1, .inr (0, (8, 0))), (2, .inr (0, (9, 0))), (3, .inr (0, (10, 0)))], [.inr (0, (0, 1)), .inr (3, (0, 480))]), [], [], [(0, 0), (0, 0), (0, 0), (0, 0), (0, 0), (0, 0), (0, 0), (0, 0), (9, 0), (10, 0), (0, 1)], 1)
noncomputable def rxoLFK_0_1 : bx_HO := (([(0, 0), (0, 0), (0, 0), (0, 0), (0, 0), (0, 0), (0, 0), (0, 0), (1, 1), (0, 8), (0, 1000), (50, 50)], [(3, (8, 0), (0, 0))], [(((0, 0), 1851192626986356801639181172899307091861268768556583502466777088000000), .inr (0, (11, 0))), (((0, 480), 21), .inr (0, (11, 0)))], 0, 0, 19, [(0, .inr (3, (0, 480))), (1, .inr (0, (8, 0))), (2, .inr (0, (9, 0))), (3, .inr (0, (10, 0)))], [.inr (0, (0, 0)), .inr (3, (0, 480))]), [], [], [(0, 0), (0, 0), (0, 0), (0, 0), (0, 0), (0, 0), (0, 0), (0, 0), (9, 0), (10, 0), (0, 0)], 1)
noncomputable def rxoLFK_0_2 : bx_HO := (([(0, 0), (0, 0), (0, 0), (0, 0), (0, 0), (0, 0), (0, 0), (0, 0), (0, 0), (0, 8), (0, 1000)], [], [], 0, 0, 19, [(0, .inr (3, (0, 480))), (1, .inr (0, (8, 0))), (2, .inr (0, (9, 0))), (3, .inr (0, (10, 0)))], [.inr (0, (0, 0)), .inr (3, (0, 480))]), [], [], [(0, 0), (0, 0), (0, 0), (0, 0), (0, 0), (0, 0), (0, 0), (0, 0), (9, 0), (10, 0), (0, 0)], 1)
noncomputable def rxoLFK_2_0 : bx_HO := (([(0, 0), (0, 0), (0, 0), (0, 0), (0, 0), (0, 0), (0, 0), (0, 0), (0, 8), (0, 1000), (0, 1), (0, 0)], [], [(((0, 0), 1851192626986356800234234225391877833944518517379736727590010880000000), .inr (0, (11, 0))), (((0, 480), 14), .inr (0, (11, 0)))], 0, 0, 32, [(0, .inr (3, (0, 480))), (2, .inr (0, (8, 0))), (3, .inr (0, (9, 0)))], [.inr (0, (9, 0)), .inr (0, (8, 0)), .inr (3, (0, 480))]), [], [], [(0, 0), (0, 0), (0, 0), (0, 0), (0, 0), (0, 0), (0, 0), (0, 0), (8, 0), (9, 0), (8, 0), (9, 0)], 3)
noncomputable def rxeLFK_2_0 : rx_End × List (Nat × Int × Int) := (([(0, 0), (0, 0), (0, 0), (0, 0), (0, 0), (0, 0), (0, 0), (0, 0), (0, 8), (0, 1000), (0, 1), (1, 1)], [(3, (11, 0), (0, 0))], [(((0, 0), 1851192626986356800234234225391877833944518517379736727590010880000000), .inr (0, (11, 0))), (((0, 480), 14), .inr (0, (11, 0)))], none), [])
noncomputable def rxoLFK_4_0 : bx_HO := (([(0, 0), (0, 0), (0, 0), (0, 0), (0, 0), (0, 0), (0, 0), (0, 0), (0, 8), (0, 1000), (0, 8), (0, 1000), (0, 50)], [], [(((0, 0), 1851192626986356801639181172899307091861268768556583502466777088000000), .inr (0, (12, 0))), (((0, 480), 21), .inr (0, (12, 0)))], 0, 0, 40, [(0, .inr (3, (0, 480))), (2, .inr (0, (8, 0))), (3, .inr (0, (9, 0)))], [.inr (0, (12, 0)), .inr (3, (0, 480))]), [(12, 0, 49)], [], [(0, 0), (0, 0), (0, 0), (0, 0), (0, 0), (0, 0), (0, 0), (0, 0), (8, 0), (9, 0), (12, 0)], 5)
noncomputable def rxeLFK_5_0 : rx_End × List (Nat × Int × Int) := (([(0, 0), (0, 0), (0, 0), (0, 0), (0, 0), (0, 0), (0, 0), (0, 0), (0, 8), (0, 1000), (0, 49)], [], [(((0, 0), 1851192626986356801639181172899307091861268768556583502466777091000000), .inr (0, (10, 1))), (((0, 480), 21), .inr (0, (10, 1)))], none), [])
noncomputable def rxYLFK : List bx_HE := [(rxzLFK_0, [rxoLFK_0_0, rxoLFK_0_1, rxoLFK_0_2], []), (rxzLFK_1, [], []), (rxzLFK_2, [rxoLFK_2_0], [rxeLFK_2_0]), (rxzLFK_3, [], []), (rxzLFK_4, [rxoLFK_4_0], []), (rxzLFK_5, [], [rxeLFK_5_0])]
noncomputable def rxULFK (q : bx_HE) : Bool := Nat.beq (rx_zpc q.1) 19 || Nat.beq (rx_zpc q.1) 32
noncomputable def rxYBLFK : bx_B := (rxV, rxNP, rxDmf, bx_mdH rxCLFK.2.2.1)
set_option maxRecDepth 100000 in
theorem rxYcLFK : bx_chkH rxYBLFK rxM273 rxCLFK rxYLFK (rxULFK, fun cut z => rx_ex2 (rxCT rxYBLFK rxCnE) cut 30000 rxCLFK.2.2.2.1 273 z) = true := by decide +kernel
noncomputable def rxILFK (S0 : Nat → Int → Int) (ws : List Int) (i : Nat) : bx_SP := fun S r => match i with | 0 => rxILFK_0 S0 ws S (r 8) (r 9) (r 10) | 1 => rxILFK_1 S0 ws S (r 8) (r 9) (r 10) | 2 => rxILFK_2 S0 ws S (r 8) (r 9) (r 10) | 3 => rxILFK_3 S0 ws S (r 8) (r 9) (r 10) (r 11) | 4 => rxILFK_4 S0 ws S (r 8) (r 9) (r 10) (r 11) | 5 => rxILFK_5 S0 ws S (r 8) (r 9) (r 10) | _ => False
noncomputable def rxmLFK (S0 : Nat → Int → Int) (ws : List Int) (i : Nat) (S : Nat → Int → Int) (r : Nat → Int) : Nat := match i with | 0 => rxmLFK_0 S0 ws S (r 8) (r 9) (r 10) | 1 => rxmLFK_1 S0 ws S (r 8) (r 9) (r 10) | 2 => rxmLFK_2 S0 ws S (r 8) (r 9) (r 10) | 3 => rxmLFK_3 S0 ws S (r 8) (r 9) (r 10) (r 11) | 4 => rxmLFK_4 S0 ws S (r 8) (r 9) (r 10) (r 11) | 5 => rxmLFK_5 S0 ws S (r 8) (r 9) (r 10) | _ => 0
noncomputable def rxPLFK (S0 : Nat → Int → Int) (ws : List Int) : Prop := rxPLFW S0 ws
noncomputable def rxPSLFK (S0 : Nat → Int → Int) (ws : List Int) (S : Nat → Int → Int) (w : Option Int) : Prop := w = none ∧ rxPSLFW S0 ws S w ∧ (S 480 14 = 0 → ∃ is0 op arg : Int, ws = [480, is0, op, arg] ∧ (∀ (b : Int) (c : rkC), rkMd S0 b c → rkMd S b (rkEmit op arg c) ∧ rkFm S0 S b))
theorem rxkLFK_1 {S0 : Nat → Int → Int} {ws : List Int} {S : Nat → Int → Int} {op arg is2 : Int} (hP : rxPLFK S0 ws) (hin : bx_same rxL (bx_mdl rxCLFK.2.2.1) S0 S) (I0 : bx_Inv rxL S) (hinv : rxILFK_1 S0 ws S op arg is2) (l8 : 0 ≤ op) (u8 : op ≤ 8) (l9 : 0 ≤ arg) (u9 : arg ≤ 1000) (l10 : 0 ≤ is2) (u10 : is2 ≤ 1) : rxPMUW S [480, is2] ∧ ∀ (S_p : Nat → Int → Int), rxPSMUW S [480, is2] S_p none → bx_Inv rxL S_p → bx_same rxL (bx_mdl rxCMUW.2.2.1) S S_p → rxILFK_2 S0 ws S_p op arg is2 ∧ rxmLFK_2 S0 ws S_p op arg is2 < rxmLFK_1 S0 ws S op arg is2 := by
  obtain ⟨hI, hx⟩ := hinv
  have g_ := rxkLFW_1 hP hin I0 hI l8 u8 l9 u9 l10 u10
  exact ⟨g_.1, fun S_p hq I1 hsm => ⟨⟨(g_.2 S_p hq I1 hsm).1, (by
    have e := hI.1.1
    subst e
    exact ⟨hx, fun b c hC => rkMd_of hC I0 hsm (by decide +kernel)⟩)⟩, (g_.2 S_p hq I1 hsm).2⟩⟩
theorem rxsLFK_1 {X : (Nat → Int → Int) → Prop} {S0 : Nat → Int → Int} {ws : List Int} (hP : rxPLFK S0 ws) : rx_obK X S0 rxCLFK.2.2.1 rxCMUW.2.2.1 (rxILFK S0 ws) (rxmLFK S0 ws) 1 2 rxzLFK_1 rxzLFK_2 [.inr (3, (0, 480)), .inr (0, (10, 0))] none rxPMUW rxPSMUW := by
  intro S r hinv hXS I0 hin hs_ hf_
  have b_ := bx_bds_sat hs_
  have f_ := bx_fcl_ok hs_.1 hf_
  obtain ⟨⟨l8, u8⟩, ⟨l9, u9⟩, ⟨l10, u10⟩, -⟩ := b_
  have g := rxkLFK_1 hP hin I0 hinv l8 u8 l9 u9 l10 u10
  have ea : List.map (bx_num r) [.inr (3, (0, 480)), .inr (0, (10, 0))] = [480, (r 10)] := by
    simp only [List.map_cons, List.map_nil, bx_xv_ok hs_.1]
    rfl
  rw [ea]
  refine ⟨g.1, fun S_p w r_p hPS hX_p I1 hsm hr hw hs_p => ?_⟩
  have hw : w = none := hPS.1
  subst hw
  have g2 := g.2 S_p hPS I1 hsm
  show rxILFK_2 S0 ws S_p (r_p 8) (r_p 9) (r_p 10) ∧ rxmLFK_2 S0 ws S_p (r_p 8) (r_p 9) (r_p 10) < _
  rw [hr 8 (by decide), hr 9 (by decide), hr 10 (by decide)]
  exact g2
theorem rxkLFK_3 {S0 : Nat → Int → Int} {ws : List Int} {S : Nat → Int → Int} {op arg op2 arg2 : Int} (hP : rxPLFK S0 ws) (hin : bx_same rxL (bx_mdl rxCLFK.2.2.1) S0 S) (I0 : bx_Inv rxL S) (hinv : rxILFK_3 S0 ws S op arg op2 arg2) (l8 : 0 ≤ op) (u8 : op ≤ 8) (l9 : 0 ≤ arg) (u9 : arg ≤ 1000) (l10 : 0 ≤ op2) (u10 : op2 ≤ 8) (l11 : 0 ≤ arg2) (u11 : arg2 ≤ 1000) : rxPEM S [480, op2, arg2] ∧ ∀ (S_p : Nat → Int → Int), rxPSEM S [480, op2, arg2] S_p none → bx_Inv rxL S_p → bx_same rxL (bx_mdl rxCEM.2.2.1) S S_p → rxILFK_4 S0 ws S_p op arg op2 arg2 ∧ rxmLFK_4 S0 ws S_p op arg op2 arg2 < rxmLFK_3 S0 ws S op arg op2 arg2 := by
  obtain ⟨hI, hx⟩ := hinv
  have g_ := rxkLFW_3 hP hin I0 hI l8 u8 l9 u9 l10 u10 l11 u11
  exact ⟨g_.1, fun S_p hq I1 hsm => ⟨⟨(g_.2 S_p hq I1 hsm).1, (by
    obtain ⟨-, o2, a2, hw2, e⟩ := hq
    have ho : op2 = o2 := Option.some.inj (congrArg (fun l : List Int => l[1]?) hw2)
    have ha : arg2 = a2 := Option.some.inj (congrArg (fun l : List Int => l[2]?) hw2)
    have hop := hI.1.1
    have hag := hx.2.1
    subst e
    refine ⟨hx.1, fun b c hC => ?_⟩
    obtain ⟨g1, g2⟩ := hx.2.2 b c hC
    have q_ := rkMd_em (op := o2) (a := a2) (x := a2) g1 (rkAi_n (by omega)).symm
    rw [show op = o2 by omega, show arg = a2 by omega]
    exact ⟨q_.1, g2.tr q_.2⟩)⟩, (g_.2 S_p hq I1 hsm).2⟩⟩
theorem rxsLFK_3 {X : (Nat → Int → Int) → Prop} {S0 : Nat → Int → Int} {ws : List Int} (hP : rxPLFK S0 ws) : rx_obK X S0 rxCLFK.2.2.1 rxCEM.2.2.1 (rxILFK S0 ws) (rxmLFK S0 ws) 3 4 rxzLFK_3 rxzLFK_4 [.inr (3, (0, 480)), .inr (0, (10, 0)), .inr (0, (11, 0))] none rxPEM rxPSEM := by
  intro S r hinv hXS I0 hin hs_ hf_
  have b_ := bx_bds_sat hs_
  have f_ := bx_fcl_ok hs_.1 hf_
  obtain ⟨⟨l8, u8⟩, ⟨l9, u9⟩, ⟨l10, u10⟩, ⟨l11, u11⟩, -⟩ := b_
  have g := rxkLFK_3 hP hin I0 hinv l8 u8 l9 u9 l10 u10 l11 u11
  have ea : List.map (bx_num r) [.inr (3, (0, 480)), .inr (0, (10, 0)), .inr (0, (11, 0))] = [480, (r 10), (r 11)] := by
    simp only [List.map_cons, List.map_nil, bx_xv_ok hs_.1]
    rfl
  rw [ea]
  refine ⟨g.1, fun S_p w r_p hPS hX_p I1 hsm hr hw hs_p => ?_⟩
  have hw : w = none := hPS.1
  subst hw
  have g2 := g.2 S_p hPS I1 hsm
  show rxILFK_4 S0 ws S_p (r_p 8) (r_p 9) (r_p 10) (r_p 11) ∧ rxmLFK_4 S0 ws S_p (r_p 8) (r_p 9) (r_p 10) (r_p 11) < _
  rw [hr 8 (by decide), hr 9 (by decide), hr 10 (by decide), hr 11 (by decide)]
  exact g2
theorem rxcLFK_0_0 {S0 : Nat → Int → Int} {ws : List Int} {S : Nat → Int → Int} {is op arg x11 : Int} (hP : rxPLFK S0 ws) (hin : bx_same rxL (bx_mdl rxCLFK.2.2.1) S0 S) (I0 : bx_Inv rxL S) (hinv : rxILFK_0 S0 ws S is op arg) (l8 : 1 ≤ is) (u8 : is ≤ 1) (l9 : 0 ≤ op) (u9 : op ≤ 8) (l10 : 0 ≤ arg) (u10 : arg ≤ 1000) (l11 : 0 ≤ x11) (u11 : x11 ≤ 49) (f0 : is ≠ 0) (e0 : S 480 21 = x11) : (True) ∧ (True) ∧ rxILFK_1 S0 ws S op arg 1 ∧ rxmLFK_1 S0 ws S op arg 1 < rxmLFK_0 S0 ws S is op arg := by
  obtain ⟨hI, hx⟩ := hinv
  obtain ⟨a_, b_, c_, d_⟩ := rxcLFW_0_0 hP hin I0 hI l8 u8 l9 u9 l10 u10 l11 u11 f0 e0
  exact ⟨a_, b_, ⟨c_, (by
    exact ⟨_, hI.1.2⟩)⟩, d_⟩
theorem rxgLFK_0_0 {X : (Nat → Int → Int) → Prop} {S0 : Nat → Int → Int} {ws : List Int} (hP : rxPLFK S0 ws) : bx_obC rxL X S0 rxCLFK.2.2.1 (rxILFK S0 ws) (rxmLFK S0 ws) 0 rxzLFK_0 rxoLFK_0_0 := by
  intro S S_p r r_p hinv hX hin hsm_ hseg
  obtain ⟨I0, I1, h0_, hr_, b_, f_, d_⟩ := bx_cl (evs := [(0, (0, 480), (0, 21), .inr (0, (11, 0)))]) (fvs := [(3, (8, 0), (0, 0), (0, 0))]) hseg (by decide +kernel) (by decide +kernel)
  have hinv : rxILFK_0 S0 ws S (r 8) (r 9) (r 10) := hinv
  rw [← hr_ 8 (by decide), ← hr_ 9 (by decide), ← hr_ 10 (by decide)] at hinv
  obtain ⟨⟨l8, u8⟩, ⟨l9, u9⟩, ⟨l10, u10⟩, ⟨l11, u11⟩, -⟩ := b_
  obtain ⟨f0, -⟩ := f_
  obtain ⟨e0, w_⟩ := d_
  subst w_
  have g := rxcLFK_0_0 hP hin I0 hinv l8 u8 l9 u9 l10 u10 l11 u11 f0 e0
  refine ⟨bx_narP_ok (l := []) g.1, bx_nfP_ok h0_ (fvs := []) (by decide +kernel) g.2.1, ?_, ?_⟩
  · show rxILFK_1 S0 ws S_p (bx_val [(0, 0), (0, 0), (0, 0), (0, 0), (0, 0), (0, 0), (0, 0), (0, 0), (9, 0), (10, 0), (0, 1)] r_p 8) (bx_val [(0, 0), (0, 0), (0, 0), (0, 0), (0, 0), (0, 0), (0, 0), (0, 0), (9, 0), (10, 0), (0, 1)] r_p 9) (bx_val [(0, 0), (0, 0), (0, 0), (0, 0), (0, 0), (0, 0), (0, 0), (0, 0), (9, 0), (10, 0), (0, 1)] r_p 10)
    rw [bx_val_x (n := 8) (e := (9, 0)) h0_ rfl, bx_val_x (n := 9) (e := (10, 0)) h0_ rfl, bx_val_x (n := 10) (e := (0, 1)) h0_ rfl]
    exact g.2.2.1
  · show rxmLFK_1 S0 ws S_p (bx_val [(0, 0), (0, 0), (0, 0), (0, 0), (0, 0), (0, 0), (0, 0), (0, 0), (9, 0), (10, 0), (0, 1)] r_p 8) (bx_val [(0, 0), (0, 0), (0, 0), (0, 0), (0, 0), (0, 0), (0, 0), (0, 0), (9, 0), (10, 0), (0, 1)] r_p 9) (bx_val [(0, 0), (0, 0), (0, 0), (0, 0), (0, 0), (0, 0), (0, 0), (0, 0), (9, 0), (10, 0), (0, 1)] r_p 10) < rxmLFK_0 S0 ws S_p (r 8) (r 9) (r 10)
    rw [bx_val_x (n := 8) (e := (9, 0)) h0_ rfl, bx_val_x (n := 9) (e := (10, 0)) h0_ rfl, bx_val_x (n := 10) (e := (0, 1)) h0_ rfl, ← hr_ 8 (by decide), ← hr_ 9 (by decide), ← hr_ 10 (by decide)]
    exact g.2.2.2
theorem rxcLFK_0_1 {S0 : Nat → Int → Int} {ws : List Int} {S : Nat → Int → Int} {is op arg x11 : Int} (hP : rxPLFK S0 ws) (hin : bx_same rxL (bx_mdl rxCLFK.2.2.1) S0 S) (I0 : bx_Inv rxL S) (hinv : rxILFK_0 S0 ws S is op arg) (l8 : 1 ≤ is) (u8 : is ≤ 1) (l9 : 0 ≤ op) (u9 : op ≤ 8) (l10 : 0 ≤ arg) (u10 : arg ≤ 1000) (l11 : 50 ≤ x11) (u11 : x11 ≤ 50) (f0 : is ≠ 0) (e0 : S 480 21 = x11) : (True) ∧ (True) ∧ rxILFK_1 S0 ws S op arg 0 ∧ rxmLFK_1 S0 ws S op arg 0 < rxmLFK_0 S0 ws S is op arg := by
  obtain ⟨hI, hx⟩ := hinv
  obtain ⟨a_, b_, c_, d_⟩ := rxcLFW_0_1 hP hin I0 hI l8 u8 l9 u9 l10 u10 l11 u11 f0 e0
  exact ⟨a_, b_, ⟨c_, (by
    exact ⟨_, hI.1.2⟩)⟩, d_⟩
theorem rxgLFK_0_1 {X : (Nat → Int → Int) → Prop} {S0 : Nat → Int → Int} {ws : List Int} (hP : rxPLFK S0 ws) : bx_obC rxL X S0 rxCLFK.2.2.1 (rxILFK S0 ws) (rxmLFK S0 ws) 0 rxzLFK_0 rxoLFK_0_1 := by
  intro S S_p r r_p hinv hX hin hsm_ hseg
  obtain ⟨I0, I1, h0_, hr_, b_, f_, d_⟩ := bx_cl (evs := [(0, (0, 480), (0, 21), .inr (0, (11, 0)))]) (fvs := [(3, (8, 0), (0, 0), (0, 0))]) hseg (by decide +kernel) (by decide +kernel)
  have hinv : rxILFK_0 S0 ws S (r 8) (r 9) (r 10) := hinv
  rw [← hr_ 8 (by decide), ← hr_ 9 (by decide), ← hr_ 10 (by decide)] at hinv
  obtain ⟨⟨l8, u8⟩, ⟨l9, u9⟩, ⟨l10, u10⟩, ⟨l11, u11⟩, -⟩ := b_
  obtain ⟨f0, -⟩ := f_
  obtain ⟨e0, w_⟩ := d_
  subst w_
  have g := rxcLFK_0_1 hP hin I0 hinv l8 u8 l9 u9 l10 u10 l11 u11 f0 e0
  refine ⟨bx_narP_ok (l := []) g.1, bx_nfP_ok h0_ (fvs := []) (by decide +kernel) g.2.1, ?_, ?_⟩
  · show rxILFK_1 S0 ws S_p (bx_val [(0, 0), (0, 0), (0, 0), (0, 0), (0, 0), (0, 0), (0, 0), (0, 0), (9, 0), (10, 0), (0, 0)] r_p 8) (bx_val [(0, 0), (0, 0), (0, 0), (0, 0), (0, 0), (0, 0), (0, 0), (0, 0), (9, 0), (10, 0), (0, 0)] r_p 9) (bx_val [(0, 0), (0, 0), (0, 0), (0, 0), (0, 0), (0, 0), (0, 0), (0, 0), (9, 0), (10, 0), (0, 0)] r_p 10)
    rw [bx_val_x (n := 8) (e := (9, 0)) h0_ rfl, bx_val_x (n := 9) (e := (10, 0)) h0_ rfl, bx_val_x (n := 10) (e := (0, 0)) h0_ rfl]
    exact g.2.2.1
  · show rxmLFK_1 S0 ws S_p (bx_val [(0, 0), (0, 0), (0, 0), (0, 0), (0, 0), (0, 0), (0, 0), (0, 0), (9, 0), (10, 0), (0, 0)] r_p 8) (bx_val [(0, 0), (0, 0), (0, 0), (0, 0), (0, 0), (0, 0), (0, 0), (0, 0), (9, 0), (10, 0), (0, 0)] r_p 9) (bx_val [(0, 0), (0, 0), (0, 0), (0, 0), (0, 0), (0, 0), (0, 0), (0, 0), (9, 0), (10, 0), (0, 0)] r_p 10) < rxmLFK_0 S0 ws S_p (r 8) (r 9) (r 10)
    rw [bx_val_x (n := 8) (e := (9, 0)) h0_ rfl, bx_val_x (n := 9) (e := (10, 0)) h0_ rfl, bx_val_x (n := 10) (e := (0, 0)) h0_ rfl, ← hr_ 8 (by decide), ← hr_ 9 (by decide), ← hr_ 10 (by decide)]
    exact g.2.2.2
theorem rxcLFK_0_2 {S0 : Nat → Int → Int} {ws : List Int} {S : Nat → Int → Int} {is op arg : Int} (hP : rxPLFK S0 ws) (hin : bx_same rxL (bx_mdl rxCLFK.2.2.1) S0 S) (I0 : bx_Inv rxL S) (hinv : rxILFK_0 S0 ws S is op arg) (l8 : 0 ≤ is) (u8 : is ≤ 0) (l9 : 0 ≤ op) (u9 : op ≤ 8) (l10 : 0 ≤ arg) (u10 : arg ≤ 1000) : (True) ∧ (True) ∧ rxILFK_1 S0 ws S op arg 0 ∧ rxmLFK_1 S0 ws S op arg 0 < rxmLFK_0 S0 ws S is op arg := by
  obtain ⟨hI, hx⟩ := hinv
  obtain ⟨a_, b_, c_, d_⟩ := rxcLFW_0_2 hP hin I0 hI l8 u8 l9 u9 l10 u10
  exact ⟨a_, b_, ⟨c_, (by
    exact ⟨_, hI.1.2⟩)⟩, d_⟩
theorem rxgLFK_0_2 {X : (Nat → Int → Int) → Prop} {S0 : Nat → Int → Int} {ws : List Int} (hP : rxPLFK S0 ws) : bx_obC rxL X S0 rxCLFK.2.2.1 (rxILFK S0 ws) (rxmLFK S0 ws) 0 rxzLFK_0 rxoLFK_0_2 := by
  intro S S_p r r_p hinv hX hin hsm_ hseg
  obtain ⟨I0, I1, h0_, hr_, b_, f_, d_⟩ := bx_cl (evs := []) (fvs := []) hseg (by decide +kernel) (by decide +kernel)
  have hinv : rxILFK_0 S0 ws S (r 8) (r 9) (r 10) := hinv
  rw [← hr_ 8 (by decide), ← hr_ 9 (by decide), ← hr_ 10 (by decide)] at hinv
  obtain ⟨⟨l8, u8⟩, ⟨l9, u9⟩, ⟨l10, u10⟩, -⟩ := b_
  have w_ := d_
  subst w_
  have g := rxcLFK_0_2 hP hin I0 hinv l8 u8 l9 u9 l10 u10
  refine ⟨bx_narP_ok (l := []) g.1, bx_nfP_ok h0_ (fvs := []) (by decide +kernel) g.2.1, ?_, ?_⟩
  · show rxILFK_1 S0 ws S_p (bx_val [(0, 0), (0, 0), (0, 0), (0, 0), (0, 0), (0, 0), (0, 0), (0, 0), (9, 0), (10, 0), (0, 0)] r_p 8) (bx_val [(0, 0), (0, 0), (0, 0), (0, 0), (0, 0), (0, 0), (0, 0), (0, 0), (9, 0), (10, 0), (0, 0)] r_p 9) (bx_val [(0, 0), (0, 0), (0, 0), (0, 0), (0, 0), (0, 0), (0, 0), (0, 0), (9, 0), (10, 0), (0, 0)] r_p 10)
    rw [bx_val_x (n := 8) (e := (9, 0)) h0_ rfl, bx_val_x (n := 9) (e := (10, 0)) h0_ rfl, bx_val_x (n := 10) (e := (0, 0)) h0_ rfl]
    exact g.2.2.1
  · show rxmLFK_1 S0 ws S_p (bx_val [(0, 0), (0, 0), (0, 0), (0, 0), (0, 0), (0, 0), (0, 0), (0, 0), (9, 0), (10, 0), (0, 0)] r_p 8) (bx_val [(0, 0), (0, 0), (0, 0), (0, 0), (0, 0), (0, 0), (0, 0), (0, 0), (9, 0), (10, 0), (0, 0)] r_p 9) (bx_val [(0, 0), (0, 0), (0, 0), (0, 0), (0, 0), (0, 0), (0, 0), (0, 0), (9, 0), (10, 0), (0, 0)] r_p 10) < rxmLFK_0 S0 ws S_p (r 8) (r 9) (r 10)
    rw [bx_val_x (n := 8) (e := (9, 0)) h0_ rfl, bx_val_x (n := 9) (e := (10, 0)) h0_ rfl, bx_val_x (n := 10) (e := (0, 0)) h0_ rfl, ← hr_ 8 (by decide), ← hr_ 9 (by decide), ← hr_ 10 (by decide)]
    exact g.2.2.2
theorem rxcLFK_2_0 {S0 : Nat → Int → Int} {ws : List Int} {S : Nat → Int → Int} {op arg is2 x11 : Int} (hP : rxPLFK S0 ws) (hin : bx_same rxL (bx_mdl rxCLFK.2.2.1) S0 S) (I0 : bx_Inv rxL S) (hinv : rxILFK_2 S0 ws S op arg is2) (l8 : 0 ≤ op) (u8 : op ≤ 8) (l9 : 0 ≤ arg) (u9 : arg ≤ 1000) (l10 : 0 ≤ is2) (u10 : is2 ≤ 1) (l11 : 0 ≤ x11) (u11 : x11 ≤ 0) (e0 : S 480 14 = x11) : (True) ∧ (True) ∧ rxILFK_3 S0 ws S op arg op arg ∧ rxmLFK_3 S0 ws S op arg op arg < rxmLFK_2 S0 ws S op arg is2 := by
  obtain ⟨hI, hx⟩ := hinv
  obtain ⟨a_, b_, c_, d_⟩ := rxcLFW_2_0 hP hin I0 hI l8 u8 l9 u9 l10 u10 l11 u11 e0
  exact ⟨a_, b_, ⟨c_, ⟨hx.1, rfl, hx.2⟩⟩, d_⟩
theorem rxgLFK_2_0 {X : (Nat → Int → Int) → Prop} {S0 : Nat → Int → Int} {ws : List Int} (hP : rxPLFK S0 ws) : bx_obC rxL X S0 rxCLFK.2.2.1 (rxILFK S0 ws) (rxmLFK S0 ws) 2 rxzLFK_2 rxoLFK_2_0 := by
  intro S S_p r r_p hinv hX hin hsm_ hseg
  obtain ⟨I0, I1, h0_, hr_, b_, f_, d_⟩ := bx_cl (evs := [(0, (0, 480), (0, 14), .inr (0, (11, 0)))]) (fvs := []) hseg (by decide +kernel) (by decide +kernel)
  have hinv : rxILFK_2 S0 ws S (r 8) (r 9) (r 10) := hinv
  rw [← hr_ 8 (by decide), ← hr_ 9 (by decide), ← hr_ 10 (by decide)] at hinv
  obtain ⟨⟨l8, u8⟩, ⟨l9, u9⟩, ⟨l10, u10⟩, ⟨l11, u11⟩, -⟩ := b_
  obtain ⟨e0, w_⟩ := d_
  subst w_
  have g := rxcLFK_2_0 hP hin I0 hinv l8 u8 l9 u9 l10 u10 l11 u11 e0
  refine ⟨bx_narP_ok (l := []) g.1, bx_nfP_ok h0_ (fvs := []) (by decide +kernel) g.2.1, ?_, ?_⟩
  · show rxILFK_3 S0 ws S_p (bx_val [(0, 0), (0, 0), (0, 0), (0, 0), (0, 0), (0, 0), (0, 0), (0, 0), (8, 0), (9, 0), (8, 0), (9, 0)] r_p 8) (bx_val [(0, 0), (0, 0), (0, 0), (0, 0), (0, 0), (0, 0), (0, 0), (0, 0), (8, 0), (9, 0), (8, 0), (9, 0)] r_p 9) (bx_val [(0, 0), (0, 0), (0, 0), (0, 0), (0, 0), (0, 0), (0, 0), (0, 0), (8, 0), (9, 0), (8, 0), (9, 0)] r_p 10) (bx_val [(0, 0), (0, 0), (0, 0), (0, 0), (0, 0), (0, 0), (0, 0), (0, 0), (8, 0), (9, 0), (8, 0), (9, 0)] r_p 11)
    rw [bx_val_x (n := 8) (e := (8, 0)) h0_ rfl, bx_val_x (n := 9) (e := (9, 0)) h0_ rfl, bx_val_x (n := 10) (e := (8, 0)) h0_ rfl, bx_val_x (n := 11) (e := (9, 0)) h0_ rfl]
    exact g.2.2.1
  · show rxmLFK_3 S0 ws S_p (bx_val [(0, 0), (0, 0), (0, 0), (0, 0), (0, 0), (0, 0), (0, 0), (0, 0), (8, 0), (9, 0), (8, 0), (9, 0)] r_p 8) (bx_val [(0, 0), (0, 0), (0, 0), (0, 0), (0, 0), (0, 0), (0, 0), (0, 0), (8, 0), (9, 0), (8, 0), (9, 0)] r_p 9) (bx_val [(0, 0), (0, 0), (0, 0), (0, 0), (0, 0), (0, 0), (0, 0), (0, 0), (8, 0), (9, 0), (8, 0), (9, 0)] r_p 10) (bx_val [(0, 0), (0, 0), (0, 0), (0, 0), (0, 0), (0, 0), (0, 0), (0, 0), (8, 0), (9, 0), (8, 0), (9, 0)] r_p 11) < rxmLFK_2 S0 ws S_p (r 8) (r 9) (r 10)
    rw [bx_val_x (n := 8) (e := (8, 0)) h0_ rfl, bx_val_x (n := 9) (e := (9, 0)) h0_ rfl, bx_val_x (n := 10) (e := (8, 0)) h0_ rfl, bx_val_x (n := 11) (e := (9, 0)) h0_ rfl, ← hr_ 8 (by decide), ← hr_ 9 (by decide), ← hr_ 10 (by decide)]
    exact g.2.2.2
theorem rxdLFK_2_0 {S0 : Nat → Int → Int} {ws : List Int} {S : Nat → Int → Int} {op arg is2 x11 : Int} (hP : rxPLFK S0 ws) (hin : bx_same rxL (bx_mdl rxCLFK.2.2.1) S0 S) (hin2 : bx_same rxL (bx_mdl rxCLFK.2.2.1) S S) (I0 : bx_Inv rxL S) (I1 : bx_Inv rxL S) (hinv : rxILFK_2 S0 ws S op arg is2) (l8 : 0 ≤ op) (u8 : op ≤ 8) (l9 : 0 ≤ arg) (u9 : arg ≤ 1000) (l10 : 0 ≤ is2) (u10 : is2 ≤ 1) (l11 : 1 ≤ x11) (u11 : x11 ≤ 1) (f0 : x11 ≠ 0) (e0 : S 480 14 = x11) : (True) ∧ rxPSLFK S0 ws S none := by
  obtain ⟨hI, hx⟩ := hinv
  obtain ⟨a_, c_⟩ := rxdLFW_2_0 hP hin hin2 I0 I1 hI l8 u8 l9 u9 l10 u10 l11 u11 f0 e0
  exact ⟨a_, rfl, c_, (fun z => absurd z (by omega))⟩
theorem rxfLFK_2_0 {X : (Nat → Int → Int) → Prop} {S0 : Nat → Int → Int} {ws : List Int} (hP : rxPLFK S0 ws) : bx_obE rxL X S0 rxCLFK.2.2.1 (rxILFK S0 ws) (rxPSLFK S0 ws) 2 rxzLFK_2 rxeLFK_2_0 := by
  intro S S_p r r_p hinv hX hin hsm_ hseg
  obtain ⟨I0, I1, h0_, hr_, b_, f_, d_⟩ := bx_cl (evs := [(0, (0, 480), (0, 14), .inr (0, (11, 0)))]) (fvs := [(3, (11, 0), (0, 0), (0, 0))]) hseg (by decide +kernel) (by decide +kernel)
  have hinv : rxILFK_2 S0 ws S (r 8) (r 9) (r 10) := hinv
  rw [← hr_ 8 (by decide), ← hr_ 9 (by decide), ← hr_ 10 (by decide)] at hinv
  obtain ⟨⟨l8, u8⟩, ⟨l9, u9⟩, ⟨l10, u10⟩, ⟨l11, u11⟩, -⟩ := b_
  obtain ⟨f0, -⟩ := f_
  obtain ⟨e0, w_⟩ := d_
  subst w_
  have g := rxdLFK_2_0 hP hin hsm_ I0 I1 hinv l8 u8 l9 u9 l10 u10 l11 u11 f0 e0
  refine ⟨bx_narP_ok (l := []) g.1, ?_⟩
  exact g.2
theorem rxcLFK_4_0 {S0 : Nat → Int → Int} {ws : List Int} {S : Nat → Int → Int} {op arg op2 arg2 x12 : Int} (hP : rxPLFK S0 ws) (hin : bx_same rxL (bx_mdl rxCLFK.2.2.1) S0 S) (I0 : bx_Inv rxL S) (hinv : rxILFK_4 S0 ws S op arg op2 arg2) (l8 : 0 ≤ op) (u8 : op ≤ 8) (l9 : 0 ≤ arg) (u9 : arg ≤ 1000) (l10 : 0 ≤ op2) (u10 : op2 ≤ 8) (l11 : 0 ≤ arg2) (u11 : arg2 ≤ 1000) (l12 : 0 ≤ x12) (u12 : x12 ≤ 50) (e0 : S 480 21 = x12) : ((0 ≤ x12 ∧ x12 ≤ 49) ∧ True) ∧ (True) ∧ rxILFK_5 S0 ws S op arg x12 ∧ rxmLFK_5 S0 ws S op arg x12 < rxmLFK_4 S0 ws S op arg op2 arg2 := by
  obtain ⟨hI, hx⟩ := hinv
  obtain ⟨a_, b_, c_, d_⟩ := rxcLFW_4_0 hP hin I0 hI l8 u8 l9 u9 l10 u10 l11 u11 l12 u12 e0
  exact ⟨a_, b_, ⟨c_, hx⟩, d_⟩
theorem rxgLFK_4_0 {X : (Nat → Int → Int) → Prop} {S0 : Nat → Int → Int} {ws : List Int} (hP : rxPLFK S0 ws) : bx_obC rxL X S0 rxCLFK.2.2.1 (rxILFK S0 ws) (rxmLFK S0 ws) 4 rxzLFK_4 rxoLFK_4_0 := by
  intro S S_p r r_p hinv hX hin hsm_ hseg
  obtain ⟨I0, I1, h0_, hr_, b_, f_, d_⟩ := bx_cl (evs := [(0, (0, 480), (0, 21), .inr (0, (12, 0)))]) (fvs := []) hseg (by decide +kernel) (by decide +kernel)
  have hinv : rxILFK_4 S0 ws S (r 8) (r 9) (r 10) (r 11) := hinv
  rw [← hr_ 8 (by decide), ← hr_ 9 (by decide), ← hr_ 10 (by decide), ← hr_ 11 (by decide)] at hinv
  obtain ⟨⟨l8, u8⟩, ⟨l9, u9⟩, ⟨l10, u10⟩, ⟨l11, u11⟩, ⟨l12, u12⟩, -⟩ := b_
  obtain ⟨e0, w_⟩ := d_
  subst w_
  have g := rxcLFK_4_0 hP hin I0 hinv l8 u8 l9 u9 l10 u10 l11 u11 l12 u12 e0
  refine ⟨bx_narP_ok (l := [(12, 0, 49)]) g.1, bx_nfP_ok h0_ (fvs := []) (by decide +kernel) g.2.1, ?_, ?_⟩
  · show rxILFK_5 S0 ws S_p (bx_val [(0, 0), (0, 0), (0, 0), (0, 0), (0, 0), (0, 0), (0, 0), (0, 0), (8, 0), (9, 0), (12, 0)] r_p 8) (bx_val [(0, 0), (0, 0), (0, 0), (0, 0), (0, 0), (0, 0), (0, 0), (0, 0), (8, 0), (9, 0), (12, 0)] r_p 9) (bx_val [(0, 0), (0, 0), (0, 0), (0, 0), (0, 0), (0, 0), (0, 0), (0, 0), (8, 0), (9, 0), (12, 0)] r_p 10)
    rw [bx_val_x (n := 8) (e := (8, 0)) h0_ rfl, bx_val_x (n := 9) (e := (9, 0)) h0_ rfl, bx_val_x (n := 10) (e := (12, 0)) h0_ rfl]
    exact g.2.2.1
  · show rxmLFK_5 S0 ws S_p (bx_val [(0, 0), (0, 0), (0, 0), (0, 0), (0, 0), (0, 0), (0, 0), (0, 0), (8, 0), (9, 0), (12, 0)] r_p 8) (bx_val [(0, 0), (0, 0), (0, 0), (0, 0), (0, 0), (0, 0), (0, 0), (0, 0), (8, 0), (9, 0), (12, 0)] r_p 9) (bx_val [(0, 0), (0, 0), (0, 0), (0, 0), (0, 0), (0, 0), (0, 0), (0, 0), (8, 0), (9, 0), (12, 0)] r_p 10) < rxmLFK_4 S0 ws S_p (r 8) (r 9) (r 10) (r 11)
    rw [bx_val_x (n := 8) (e := (8, 0)) h0_ rfl, bx_val_x (n := 9) (e := (9, 0)) h0_ rfl, bx_val_x (n := 10) (e := (12, 0)) h0_ rfl, ← hr_ 8 (by decide), ← hr_ 9 (by decide), ← hr_ 10 (by decide), ← hr_ 11 (by decide)]
    exact g.2.2.2
theorem rxdLFK_5_0 {S0 : Nat → Int → Int} {ws : List Int} {S : Nat → Int → Int} {op arg q : Int} (hP : rxPLFK S0 ws) (hin : bx_same rxL (bx_mdl rxCLFK.2.2.1) S0 S) (hin2 : bx_same rxL (bx_mdl rxCLFK.2.2.1) S (bx_up S 480 21 (q + 1))) (I0 : bx_Inv rxL S) (I1 : bx_Inv rxL (bx_up S 480 21 (q + 1))) (hinv : rxILFK_5 S0 ws S op arg q) (l8 : 0 ≤ op) (u8 : op ≤ 8) (l9 : 0 ≤ arg) (u9 : arg ≤ 1000) (l10 : 0 ≤ q) (u10 : q ≤ 49) : (True) ∧ rxPSLFK S0 ws (bx_up S 480 21 (q + 1)) none := by
  obtain ⟨hI, hx⟩ := hinv
  obtain ⟨a_, c_⟩ := rxdLFW_5_0 hP hin hin2 I0 I1 hI l8 u8 l9 u9 l10 u10
  exact ⟨a_, rfl, c_, (by
    intro _
    obtain ⟨is0, hw⟩ := hx.1
    exact ⟨is0, op, arg, hw, (by
      intro b c hC
      obtain ⟨g1, g2⟩ := hx.2 b c hC
      have q_ := rkMd_ne (S_p := (bx_up S 480 21 (q + 1))) g1 ((bx_up_ne (by omega))) ((bx_up_ne (by omega))) (fun j => ⟨(bx_up_ne (by omega)), (bx_up_ne (by omega))⟩) (fun j => ⟨(bx_up_ne (by omega)), (bx_up_ne (by omega))⟩)
      exact ⟨q_.1, g2.tr q_.2⟩)⟩)⟩
theorem rxfLFK_5_0 {X : (Nat → Int → Int) → Prop} {S0 : Nat → Int → Int} {ws : List Int} (hP : rxPLFK S0 ws) : bx_obE rxL X S0 rxCLFK.2.2.1 (rxILFK S0 ws) (rxPSLFK S0 ws) 5 rxzLFK_5 rxeLFK_5_0 := by
  intro S S_p r r_p hinv hX hin hsm_ hseg
  obtain ⟨I0, I1, h0_, hr_, b_, f_, d_⟩ := bx_cl (evs := [(1, (0, 480), (0, 21), .inr (0, (10, 1)))]) (fvs := []) hseg (by decide +kernel) (by decide +kernel)
  have hinv : rxILFK_5 S0 ws S (r 8) (r 9) (r 10) := hinv
  rw [← hr_ 8 (by decide), ← hr_ 9 (by decide), ← hr_ 10 (by decide)] at hinv
  obtain ⟨⟨l8, u8⟩, ⟨l9, u9⟩, ⟨l10, u10⟩, -⟩ := b_
  obtain ⟨T0, w_, w0⟩ := d_
  subst w0
  subst w_
  have g := rxdLFK_5_0 hP hin hsm_ I0 I1 hinv l8 u8 l9 u9 l10 u10
  refine ⟨bx_narP_ok (l := []) g.1, ?_⟩
  exact g.2
theorem rxgCLFK {X : (Nat → Int → Int) → Prop} {S0 : Nat → Int → Int} {ws : List Int} (hP : rxPLFK S0 ws) : bx_allI (fun i q => rxULFK q = true ∨ bx_allP (fun o => bx_obC rxL X S0 rxCLFK.2.2.1 (rxILFK S0 ws) (rxmLFK S0 ws) i q.1 o) q.2.1) 0 rxYLFK := ⟨Or.inr ⟨rxgLFK_0_0 hP, rxgLFK_0_1 hP, rxgLFK_0_2 hP, trivial⟩, Or.inl rfl, Or.inr ⟨rxgLFK_2_0 hP, trivial⟩, Or.inl rfl, Or.inr ⟨rxgLFK_4_0 hP, trivial⟩, Or.inr trivial, trivial⟩
theorem rxgELFK {X : (Nat → Int → Int) → Prop} {S0 : Nat → Int → Int} {ws : List Int} (hP : rxPLFK S0 ws) : bx_allI (fun i q => rxULFK q = true ∨ bx_allP (fun E => bx_obE rxL X S0 rxCLFK.2.2.1 (rxILFK S0 ws) (rxPSLFK S0 ws) i q.1 E) q.2.2) 0 rxYLFK := ⟨Or.inr trivial, Or.inl rfl, Or.inr ⟨rxfLFK_2_0 hP, trivial⟩, Or.inl rfl, Or.inr trivial, Or.inr ⟨rxfLFK_5_0 hP, trivial⟩, trivial⟩
theorem rxuLFK {PX : State → Prop} {Dg : va_G} {A : Nat → Prop} {ad xa : Nat → Nat} {l : Launch} {X : (Nat → Int → Int) → Prop} (hPX : rx_PXOK rxNW A PX) (hX : ∀ S S1 : Nat → Int → Int, X S → bx_same rxL (bx_mdl rxCLFK.2.2.1) S S1 → X S1) (hQMUW : bx_ConP rxG rxNW rxAO PX Dg rxL X vwCl A ad l rxM265 rxCMUW rxPMUW rxPSMUW) (hQEM : bx_ConP rxG rxNW rxAO PX Dg rxL X vwCl A ad l rxM266 rxCEM rxPEM rxPSEM) {S0 : Nat → Int → Int} {ws : List Int} (hP : rxPLFK S0 ws) : ∀ (i : Nat) (q : bx_HE), rxYLFK[i]? = some q → rxULFK q = true → ∀ {p : Program} {e : Env} {R : Room} {s : State} {m : MethodId} {args : Array Value} {below : List Frame} {meth : Method} {c : Code} {Q : State → Prop} {H0 : Heap}, rx_Fr rxG rxNW rxAO PX p s m args meth c rxM273 → (∀ q, H0.size ≤ q → A q) → H0 = s.heap → rxM273.2.2.2.2.2.2.1 ≤ R.cells → rxM273.2.2.2.2.2.2.2 ≤ R.slots → rxCLFK.2.2.2.1 ≤ R.frames → rxCLFK.2.2.2.1 * 40 ≤ R.locals → bx_Step p l e R s m args below meth c Q Dg rxL X vwCl A xa H0 ad rxM273 rxYLFK (rxILFK S0 ws) (rxmLFK S0 ws) S0 rxCLFK.2.2.1 i q := by
  intro i q hq hus p e R s m args below meth c Q H0 hF hA hH0 hmc hms hd hdl
  match i, hq with
  | 0, hq =>
    cases hq
    exact absurd (show false = true from hus) Bool.false_ne_true
  | 1, hq =>
    cases hq
    exact rx_stepC (ins := .invokevirtual 284) (len := 3) (i_p := 2) (M_p := rxM265) (d := rxCLFK.2.2.2.1) (as := [.inr (3, (0, 480)), .inr (0, (10, 0))]) (t := []) (ct := rxCMUW) hPX hF rfl hA hH0 hmc hms hd hdl (by decide +kernel) rfl rfl (by decide +kernel) (by decide +kernel) hQMUW (by decide +kernel) rfl (Or.inl ⟨rfl, rfl, rfl⟩) (rxsLFK_1 hP)
  | 2, hq =>
    cases hq
    exact absurd (show false = true from hus) Bool.false_ne_true
  | 3, hq =>
    cases hq
    exact rx_stepC (ins := .invokevirtual 297) (len := 3) (i_p := 4) (M_p := rxM266) (d := rxCLFK.2.2.2.1) (as := [.inr (3, (0, 480)), .inr (0, (10, 0)), .inr (0, (11, 0))]) (t := []) (ct := rxCEM) hPX hF rfl hA hH0 hmc hms hd hdl (by decide +kernel) rfl rfl (by decide +kernel) (by decide +kernel) hQEM (by decide +kernel) rfl (Or.inl ⟨rfl, rfl, rfl⟩) (rxsLFK_3 hP)
  | 4, hq =>
    cases hq
    exact absurd (show false = true from hus) Bool.false_ne_true
  | 5, hq =>
    cases hq
    exact absurd (show false = true from hus) Bool.false_ne_true
  | n + 6, hq => cases hq
theorem rxQLFK {PX : State → Prop} {Dg : va_G} {A : Nat → Prop} {ad xa : Nat → Nat} {l : Launch} {X : (Nat → Int → Int) → Prop} (hPX : rx_PXOK rxNW A PX) (hsl : ∀ s : State, PX s → ∀ o idx n : Nat, rxSl o idx = some n → ∃ tx : String, vk_R (rxNm o) idx tx (ad n) s)
    (hX : ∀ S S_p : Nat → Int → Int, X S → bx_same rxL (bx_mdl rxCLFK.2.2.1) S S_p → X S_p)
    (ih : ∀ (j2 : Nat) (ct2 : bx_Ct) (M2 : rx_Mt), ct2 ∈ rxCnE j2 → ct2.2.2.2.1 + 1 ≤ rxCLFK.2.2.2.1 → rxT.2.2.2.2.2 j2 = some M2 → bx_Con rxG rxNW rxAO PX Dg rxL X vwCl A ad l M2 ct2) (hQMUW : bx_ConP rxG rxNW rxAO PX Dg rxL X vwCl A ad l rxM265 rxCMUW rxPMUW rxPSMUW) (hQEM : bx_ConP rxG rxNW rxAO PX Dg rxL X vwCl A ad l rxM266 rxCEM rxPEM rxPSEM) : bx_ConP rxG rxNW rxAO PX Dg rxL X vwCl A ad l rxM273 rxCLFK rxPLFK rxPSLFK :=
  rxQof (xa := xa) (Cn := rxCnE) (f := 30000) (j := 273) (tab := rxYLFK) (us := rxULFK) hPX hsl hX ih rfl rxYcLFK rxILFK rxmLFK
    (fun S0 ws r I0 I ht0 ht as he he1 hX0 hI0 hP hs ha => by
      have e := he.symm.trans (show bx_ent0 rxNP rxCLFK.1 bx_I0 [] = some ([(0, 0), (0, 0), (0, 0), (0, 0), (0, 0), (0, 0), (0, 0), (0, 0), (0, 1), (0, 8), (0, 1000)], [], [.inr (3, (0, 480)), .inr (0, (8, 0)), .inr (0, (9, 0)), .inr (0, (10, 0))]) from rfl)
      cases e
      subst ha
      have h0 : r 0 = 0 := hs.1
      show rxILFK_0 S0 _ S0 (r 8) (r 9) (r 10)
      refine ⟨⟨⟨rfl, ?_⟩, trivial⟩, trivial⟩
      simp only [List.map_cons, List.map_nil, bx_xv_ok h0]
      rfl)
    (fun S0 ws hP => rxuLFK (xa := xa) hPX hX hQMUW hQEM hP) (fun S0 ws hP => rxgCLFK hP) (fun S0 ws hP => rxgELFK hP)
