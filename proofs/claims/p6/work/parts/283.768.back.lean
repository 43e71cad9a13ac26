/-! CONTRACT BY HAND, by program (wip/sim/genhand.py): DeadUnderstudies.back -/
def rxCB0T : bx_Ct := ([(3, (1, 0, 0)), (0, (0, 0, 0))], some (0, (0, (-6), 0)), [(2, 0), (5, 0), (6, 0), (6, 4), (10, 0), (10, 5), (10, 10), (10, 14), (10, 15), (11, 8), (1000, 0), (1001, 0), (1003, 0), (1004, 0), (1005, 0), (1006, 0), (1007, 0), (1008, 0), (1010, 0), (1011, 0), (1012, 0), (1013, 0), (1015, 0), (1019, 0), (1020, 0), (1021, 0), (1022, 0), (1024, 0), (1025, 0), (1026, 0), (1027, 0), (1037, 0)], 3, [])
def rxIB0T_0 (S0 : Nat → Int → Int) (ws : List Int) (S : Nat → Int → Int) (ki : Int) : Prop := S = S0 ∧ ws = [0, ki]
def rxmB0T_0 (S0 : Nat → Int → Int) (ws : List Int) (S : Nat → Int → Int) (ki : Int) : Nat := 100
def rxzB0T_0 : rx_Z := ([(0, 0), (0, 0), (0, 0), (0, 0), (0, 0), (0, 0), (0, 0), (0, 0), (0, 0)], [], [], 0, 0, 0, [(0, .inr (3, (0, 0))), (1, .inr (0, (8, 0)))], [])
def rxIB0T_1 (S0 : Nat → Int → Int) (ws : List Int) (S : Nat → Int → Int) (ki : Int) : Prop := S = S0 ∧ S0 410 0 = 0
def rxmB0T_1 (S0 : Nat → Int → Int) (ws : List Int) (S : Nat → Int → Int) (ki : Int) : Nat := 50
def rxzB0T_1 : rx_Z := ([(0, 0), (0, 0), (0, 0), (0, 0), (0, 0), (0, 0), (0, 0), (0, 0), (0, 0)], [], [], 0, 0, 27, [(0, .inr (3, (0, 0))), (1, .inr (0, (8, 0)))], [.inr (0, (0, (-2))), .inr (3, (0, 0))])
def rxIB0T_2 (S0 : Nat → Int → Int) (ws : List Int) (S : Nat → Int → Int) (ki res : Int) : Prop := res = -2 ∧ S0 410 0 = 0 ∧ bx_same rxL (bx_mdl rxC110.2.2.1) S0 S
def rxmB0T_2 (S0 : Nat → Int → Int) (ws : List Int) (S : Nat → Int → Int) (ki res : Int) : Nat := 20
def rxzB0T_2 : rx_Z := ([(0, 0), (0, 0), (0, 0), (0, 0), (0, 0), (0, 0), (0, 0), (0, 0), (0, 0), ((-6), (-1))], [], [], 0, 0, 30, [(0, .inr (3, (0, 0))), (1, .inr (0, (8, 0)))], [.inr (0, (9, 0))])
def rxIB0T_3 (S0 : Nat → Int → Int) (ws : List Int) (S : Nat → Int → Int) (ki : Int) : Prop := S = S0 ∧ S0 410 0 ≠ 0
def rxmB0T_3 (S0 : Nat → Int → Int) (ws : List Int) (S : Nat → Int → Int) (ki : Int) : Nat := 50
def rxzB0T_3 : rx_Z := ([(0, 0), (0, 0), (0, 0), (0, 0), (0, 0), (0, 0), (0, 0), (0, 0), (0, 0)], [], [], 0, 0, 41, [(0, .inr (3, (0, 0))), (1, .inr (0, (8, 0)))], [.inr (3, (0, 138)), .inr (3, (0, 1))])
def rxIB0T_4 (S0 : Nat → Int → Int) (ws : List Int) (S : Nat → Int → Int) (ki : Int) : Prop := rxPSCZ1x138 S0 [1, 138] S none ∧ S0 410 0 ≠ 0
def rxmB0T_4 (S0 : Nat → Int → Int) (ws : List Int) (S : Nat → Int → Int) (ki : Int) : Nat := 20
def rxzB0T_4 : rx_Z := ([(0, 0), (0, 0), (0, 0), (0, 0), (0, 0), (0, 0), (0, 0), (0, 0), (0, 0)], [], [], 0, 0, 44, [(0, .inr (3, (0, 0))), (1, .inr (0, (8, 0)))], [])
def rxoB0T_0_0 : bx_HO := (([(0, 0), (0, 0), (0, 0), (0, 0), (0, 0), (0, 0), (0, 0), (0, 0), (0, 0), (0, 0)], [], [(((0, 0), 1851192626986356797424364830707437625680387377997778265106415616000000), .inr (0, (9, 0))), (((0, 410), 0), .inr (0, (9, 0))), (((0, 0), 2), .inr (3, (0, 410)))], 0, 0, 27, [(0, .inr (3, (0, 0))), (1, .inr (0, (8, 0)))], [.inr (0, (0, (-2))), .inr (3, (0, 0))]), [], [], [(0, 0), (0, 0), (0, 0), (0, 0), (0, 0), (0, 0), (0, 0), (0, 0), (8, 0)], 1)
def rxoB0T_0_1 : bx_HO := (([(0, 0), (0, 0), (0, 0), (0, 0), (0, 0), (0, 0), (0, 0), (0, 0), (0, 0), (1, 1)], [(3, (9, 0), (0, 0))], [(((0, 137), 0), .inr (3, (0, 138))), (((0, 0), 1), .inr (3, (0, 137))), (((0, 0), 0), .inr (3, (0, 1))), (((0, 0), 1851192626986356797424364830707437625680387377997778265106415616000000), .inr (0, (9, 0))), (((0, 410), 0), .inr (0, (9, 0))), (((0, 0), 2), .inr (3, (0, 410)))], 0, 0, 41, [(0, .inr (3, (0, 0))), (1, .inr (0, (8, 0)))], [.inr (3, (0, 138)), .inr (3, (0, 1))]), [], [], [(0, 0), (0, 0), (0, 0), (0, 0), (0, 0), (0, 0), (0, 0), (0, 0), (8, 0)], 3)
def rxeB0T_2_0 : rx_End × List (Nat × Int × Int) := (([(0, 0), (0, 0), (0, 0), (0, 0), (0, 0), (0, 0), (0, 0), (0, 0), (0, 0), ((-6), (-1))], [], [], some (.inr (0, (9, 0)))), [])
def rxeB0T_4_0 : rx_End × List (Nat × Int × Int) := (([(0, 0), (0, 0), (0, 0), (0, 0), (0, 0), (0, 0), (0, 0), (0, 0), (0, 0)], [], [(((0, 0), 1851192626986356799029993984671224184301589730656725205983952899000000), .inr (0, (0, 0))), (((0, 0), 8), .inr (0, (0, 0)))], some (.inr (0, (0, 0)))), [])
def rxYB0T : List bx_HE := [(rxzB0T_0, [rxoB0T_0_0, rxoB0T_0_1], []), (rxzB0T_1, [], []), (rxzB0T_2, [], [rxeB0T_2_0]), (rxzB0T_3, [], []), (rxzB0T_4, [], [rxeB0T_4_0])]
def rxUB0T (q : bx_HE) : Bool := Nat.beq (rx_zpc q.1) 27 || Nat.beq (rx_zpc q.1) 41
def rxYBB0T : bx_B := (rxV, rxNP, rxDmf, bx_mdH rxCB0T.2.2.1)
set_option maxRecDepth 100000 in
theorem rxYcB0T : bx_chkH rxYBB0T rxM210 rxCB0T rxYB0T (rxUB0T, fun cut z => rx_ex2 (rxCT rxYBB0T rxCnE) cut 30000 rxCB0T.2.2.2.1 210 z) = true := by decide +kernel
def rxIB0T (S0 : Nat → Int → Int) (ws : List Int) (i : Nat) : bx_SP := fun S r => match i with | 0 => rxIB0T_0 S0 ws S (r 8) | 1 => rxIB0T_1 S0 ws S (r 8) | 2 => rxIB0T_2 S0 ws S (r 8) (r 9) | 3 => rxIB0T_3 S0 ws S (r 8) | 4 => rxIB0T_4 S0 ws S (r 8) | _ => False
def rxmB0T (S0 : Nat → Int → Int) (ws : List Int) (i : Nat) (S : Nat → Int → Int) (r : Nat → Int) : Nat := match i with | 0 => rxmB0T_0 S0 ws S (r 8) | 1 => rxmB0T_1 S0 ws S (r 8) | 2 => rxmB0T_2 S0 ws S (r 8) (r 9) | 3 => rxmB0T_3 S0 ws S (r 8) | 4 => rxmB0T_4 S0 ws S (r 8) | _ => 0
def rxPB0T (S0 : Nat → Int → Int) (ws : List Int) : Prop := rkPl S0
def rxPSB0T (S0 : Nat → Int → Int) (ws : List Int) (S : Nat → Int → Int) (w : Option Int) : Prop := (S0 410 0 = 0 ∧ w = some (-2) ∧ bx_same rxL (bx_mdl rxC110.2.2.1) S0 S) ∨ (S0 410 0 ≠ 0 ∧ w = some 0 ∧ ∃ S1 : Nat → Int → Int, rxPSCZ1x138 S0 [1, 138] S1 none ∧ S = bx_up S1 0 8 0)
theorem rxkB0T_1 {S0 : Nat → Int → Int} {ws : List Int} {S : Nat → Int → Int} {ki : Int} (hP : rxPB0T S0 ws) (hin : bx_same rxL (bx_mdl rxCB0T.2.2.1) S0 S) (I0 : bx_Inv rxL S) (hinv : rxIB0T_1 S0 ws S ki) (l8 : 0 ≤ ki) (u8 : ki ≤ 0) : rxP110 S [0, (-2)] ∧ ∀ (S_p : Nat → Int → Int) (res : Int), (-6) ≤ res → res ≤ (-1) → rxPS110 S [0, (-2)] S_p (some res) → bx_Inv rxL S_p → bx_same rxL (bx_mdl rxC110.2.2.1) S S_p → rxIB0T_2 S0 ws S_p ki res ∧ rxmB0T_2 S0 ws S_p ki res < rxmB0T_1 S0 ws S ki := by
  obtain ⟨rfl, h1⟩ := hinv
  refine ⟨trivial, fun S_p res _ _ hq _ hsm => ⟨⟨?_, h1, hsm⟩, by unfold rxmB0T_1 rxmB0T_2; omega⟩⟩
  obtain ⟨c, hc, hr⟩ := hq
  simp only [List.cons.injEq, and_true, true_and] at hc
  simp only [Option.some.injEq] at hr
  omega
theorem rxsB0T_1 {X : (Nat → Int → Int) → Prop} {S0 : Nat → Int → Int} {ws : List Int} (hP : rxPB0T S0 ws) : rx_obK X S0 rxCB0T.2.2.1 rxC110.2.2.1 (rxIB0T S0 ws) (rxmB0T S0 ws) 1 2 rxzB0T_1 rxzB0T_2 [.inr (3, (0, 0)), .inr (0, (0, (-2)))] (some 9) rxP110 rxPS110 := by
  intro S r hinv hXS I0 hin hs_ hf_
  have b_ := bx_bds_sat hs_
  have f_ := bx_fcl_ok hs_.1 hf_
  obtain ⟨⟨l8, u8⟩, -⟩ := b_
  have g := rxkB0T_1 hP hin I0 hinv l8 u8
  have ea : List.map (bx_num r) [.inr (3, (0, 0)), .inr (0, (0, (-2)))] = [0, -2] := by
    simp only [List.map_cons, List.map_nil, bx_xv_ok hs_.1]
    rfl
  rw [ea]
  refine ⟨g.1, fun S_p w r_p hPS hX_p I1 hsm hr hw hs_p => ?_⟩
  have hw := hw _ rfl
  subst hw
  have b_p := hs_p.2.2 9 _ _ rfl
  have g2 := g.2 S_p (r_p 9) b_p.1 b_p.2 hPS I1 hsm
  show rxIB0T_2 S0 ws S_p (r_p 8) (r_p 9) ∧ rxmB0T_2 S0 ws S_p (r_p 8) (r_p 9) < _
  rw [hr 8 (by decide)]
  exact g2
theorem rxkB0T_3 {S0 : Nat → Int → Int} {ws : List Int} {S : Nat → Int → Int} {ki : Int} (hP : rxPB0T S0 ws) (hin : bx_same rxL (bx_mdl rxCB0T.2.2.1) S0 S) (I0 : bx_Inv rxL S) (hinv : rxIB0T_3 S0 ws S ki) (l8 : 0 ≤ ki) (u8 : ki ≤ 0) : rxPCZ1x138 S [1, 138] ∧ ∀ (S_p : Nat → Int → Int), rxPSCZ1x138 S [1, 138] S_p none → bx_Inv rxL S_p → bx_same rxL (bx_mdl rxCCZ1x138.2.2.1) S S_p → rxIB0T_4 S0 ws S_p ki ∧ rxmB0T_4 S0 ws S_p ki < rxmB0T_3 S0 ws S ki := by
  obtain ⟨rfl, h1⟩ := hinv
  exact ⟨hP, fun S_p hq _ hsm => ⟨⟨hq, h1⟩, by unfold rxmB0T_3 rxmB0T_4; omega⟩⟩
theorem rxsB0T_3 {X : (Nat → Int → Int) → Prop} {S0 : Nat → Int → Int} {ws : List Int} (hP : rxPB0T S0 ws) : rx_obK X S0 rxCB0T.2.2.1 rxCCZ1x138.2.2.1 (rxIB0T S0 ws) (rxmB0T S0 ws) 3 4 rxzB0T_3 rxzB0T_4 [.inr (3, (0, 1)), .inr (3, (0, 138))] none rxPCZ1x138 rxPSCZ1x138 := by
  intro S r hinv hXS I0 hin hs_ hf_
  have b_ := bx_bds_sat hs_
  have f_ := bx_fcl_ok hs_.1 hf_
  obtain ⟨⟨l8, u8⟩, -⟩ := b_
  have g := rxkB0T_3 hP hin I0 hinv l8 u8
  have ea : List.map (bx_num r) [.inr (3, (0, 1)), .inr (3, (0, 138))] = [1, 138] := by
    simp only [List.map_cons, List.map_nil, bx_xv_ok hs_.1]
    rfl
  rw [ea]
  refine ⟨g.1, fun S_p w r_p hPS hX_p I1 hsm hr hw hs_p => ?_⟩
  have hw : w = none := hPS.1
  subst hw
  have g2 := g.2 S_p hPS I1 hsm
  show rxIB0T_4 S0 ws S_p (r_p 8) ∧ rxmB0T_4 S0 ws S_p (r_p 8) < _
  rw [hr 8 (by decide)]
  exact g2
theorem rxcB0T_0_0 {S0 : Nat → Int → Int} {ws : List Int} {S : Nat → Int → Int} {ki x9 : Int} (hP : rxPB0T S0 ws) (hin : bx_same rxL (bx_mdl rxCB0T.2.2.1) S0 S) (I0 : bx_Inv rxL S) (hinv : rxIB0T_0 S0 ws S ki) (l8 : 0 ≤ ki) (u8 : ki ≤ 0) (l9 : 0 ≤ x9) (u9 : x9 ≤ 0) (e0 : S 410 ki = x9) : (True) ∧ (True) ∧ rxIB0T_1 S0 ws S ki ∧ rxmB0T_1 S0 ws S ki < rxmB0T_0 S0 ws S ki := by
  obtain ⟨rfl, hw⟩ := hinv
  have e : ki = 0 := by omega
  subst e
  exact ⟨trivial, trivial, ⟨rfl, by omega⟩, by unfold rxmB0T_0 rxmB0T_1; omega⟩
theorem rxgB0T_0_0 {X : (Nat → Int → Int) → Prop} {S0 : Nat → Int → Int} {ws : List Int} (hP : rxPB0T S0 ws) : bx_obC rxL X S0 rxCB0T.2.2.1 (rxIB0T S0 ws) (rxmB0T S0 ws) 0 rxzB0T_0 rxoB0T_0_0 := by
  intro S S_p r r_p hinv hX hin hsm_ hseg
  obtain ⟨I0, I1, h0_, hr_, b_, f_, d_⟩ := bx_cl (evs := [(0, (0, 410), (8, 0), .inr (0, (9, 0)))]) (fvs := []) hseg (by decide +kernel) (by decide +kernel)
  have hinv : rxIB0T_0 S0 ws S (r 8) := hinv
  rw [← hr_ 8 (by decide)] at hinv
  obtain ⟨⟨l8, u8⟩, ⟨l9, u9⟩, -⟩ := b_
  obtain ⟨e0, w_⟩ := d_
  subst w_
  have g := rxcB0T_0_0 hP hin I0 hinv l8 u8 l9 u9 e0
  refine ⟨bx_narP_ok (l := []) g.1, bx_nfP_ok h0_ (fvs := []) (by decide +kernel) g.2.1, ?_, ?_⟩
  · show rxIB0T_1 S0 ws S_p (bx_val [(0, 0), (0, 0), (0, 0), (0, 0), (0, 0), (0, 0), (0, 0), (0, 0), (8, 0)] r_p 8)
    rw [bx_val_x (n := 8) (e := (8, 0)) h0_ rfl]
    exact g.2.2.1
  · show rxmB0T_1 S0 ws S_p (bx_val [(0, 0), (0, 0), (0, 0), (0, 0), (0, 0), (0, 0), (0, 0), (0, 0), (8, 0)] r_p 8) < rxmB0T_0 S0 ws S_p (r 8)
    rw [bx_val_x (n := 8) (e := (8, 0)) h0_ rfl, ← hr_ 8 (by decide)]
    exact g.2.2.2
theorem rxcB0T_0_1 {S0 : Nat → Int → Int} {ws : List Int} {S : Nat → Int → Int} {ki x9 : Int} (hP : rxPB0T S0 ws) (hin : bx_same rxL (bx_mdl rxCB0T.2.2.1) S0 S) (I0 : bx_Inv rxL S) (hinv : rxIB0T_0 S0 ws S ki) (l8 : 0 ≤ ki) (u8 : ki ≤ 0) (l9 : 1 ≤ x9) (u9 : x9 ≤ 1) (f0 : x9 ≠ 0) (e0 : S 410 ki = x9) : (True) ∧ (True) ∧ rxIB0T_3 S0 ws S ki ∧ rxmB0T_3 S0 ws S ki < rxmB0T_0 S0 ws S ki := by
  obtain ⟨rfl, hw⟩ := hinv
  have e : ki = 0 := by omega
  subst e
  exact ⟨trivial, trivial, ⟨rfl, by omega⟩, by unfold rxmB0T_0 rxmB0T_3; omega⟩
theorem rxgB0T_0_1 {X : (Nat → Int → Int) → Prop} {S0 : Nat → Int → Int} {ws : List Int} (hP : rxPB0T S0 ws) : bx_obC rxL X S0 rxCB0T.2.2.1 (rxIB0T S0 ws) (rxmB0T S0 ws) 0 rxzB0T_0 rxoB0T_0_1 := by
  intro S S_p r r_p hinv hX hin hsm_ hseg
  obtain ⟨I0, I1, h0_, hr_, b_, f_, d_⟩ := bx_cl (evs := [(0, (0, 410), (8, 0), .inr (0, (9, 0)))]) (fvs := [(3, (9, 0), (0, 0), (0, 0))]) hseg (by decide +kernel) (by decide +kernel)
  have hinv : rxIB0T_0 S0 ws S (r 8) := hinv
  rw [← hr_ 8 (by decide)] at hinv
  obtain ⟨⟨l8, u8⟩, ⟨l9, u9⟩, -⟩ := b_
  obtain ⟨f0, -⟩ := f_
  obtain ⟨e0, w_⟩ := d_
  subst w_
  have g := rxcB0T_0_1 hP hin I0 hinv l8 u8 l9 u9 f0 e0
  refine ⟨bx_narP_ok (l := []) g.1, bx_nfP_ok h0_ (fvs := []) (by decide +kernel) g.2.1, ?_, ?_⟩
  · show rxIB0T_3 S0 ws S_p (bx_val [(0, 0), (0, 0), (0, 0), (0, 0), (0, 0), (0, 0), (0, 0), (0, 0), (8, 0)] r_p 8)
    rw [bx_val_x (n := 8) (e := (8, 0)) h0_ rfl]
    exact g.2.2.1
  · show rxmB0T_3 S0 ws S_p (bx_val [(0, 0), (0, 0), (0, 0), (0, 0), (0, 0), (0, 0), (0, 0), (0, 0), (8, 0)] r_p 8) < rxmB0T_0 S0 ws S_p (r 8)
    rw [bx_val_x (n := 8) (e := (8, 0)) h0_ rfl, ← hr_ 8 (by decide)]
    exact g.2.2.2
theorem rxdB0T_2_0 {S0 : Nat → Int → Int} {ws : List Int} {S : Nat → Int → Int} {ki res : Int} (hP : rxPB0T S0 ws) (hin : bx_same rxL (bx_mdl rxCB0T.2.2.1) S0 S) (hin2 : bx_same rxL (bx_mdl rxCB0T.2.2.1) S S) (I0 : bx_Inv rxL S) (I1 : bx_Inv rxL S) (hinv : rxIB0T_2 S0 ws S ki res) (l8 : 0 ≤ ki) (u8 : ki ≤ 0) (l9 : (-6) ≤ res) (u9 : res ≤ (-1)) : (True) ∧ rxPSB0T S0 ws S (some res) := by
  obtain ⟨h1, h2, h3⟩ := hinv
  exact ⟨trivial, Or.inl ⟨h2, congrArg some h1, h3⟩⟩
theorem rxfB0T_2_0 {X : (Nat → Int → Int) → Prop} {S0 : Nat → Int → Int} {ws : List Int} (hP : rxPB0T S0 ws) : bx_obE rxL X S0 rxCB0T.2.2.1 (rxIB0T S0 ws) (rxPSB0T S0 ws) 2 rxzB0T_2 rxeB0T_2_0 := by
  intro S S_p r r_p hinv hX hin hsm_ hseg
  obtain ⟨I0, I1, h0_, hr_, b_, f_, d_⟩ := bx_cl (evs := []) (fvs := []) hseg (by decide +kernel) (by decide +kernel)
  have hinv : rxIB0T_2 S0 ws S (r 8) (r 9) := hinv
  rw [← hr_ 8 (by decide), ← hr_ 9 (by decide)] at hinv
  obtain ⟨⟨l8, u8⟩, ⟨l9, u9⟩, -⟩ := b_
  have w_ := d_
  subst w_
  have g := rxdB0T_2_0 hP hin hsm_ I0 I1 hinv l8 u8 l9 u9
  refine ⟨bx_narP_ok (l := []) g.1, ?_⟩
  show rxPSB0T S0 ws S_p (some (bx_num r_p (.inr (0, (9, 0)))))
  rw [bx_xv_ok h0_]
  exact g.2
theorem rxdB0T_4_0 {S0 : Nat → Int → Int} {ws : List Int} {S : Nat → Int → Int} {ki : Int} (hP : rxPB0T S0 ws) (hin : bx_same rxL (bx_mdl rxCB0T.2.2.1) S0 S) (hin2 : bx_same rxL (bx_mdl rxCB0T.2.2.1) S (bx_up S 0 8 0)) (I0 : bx_Inv rxL S) (I1 : bx_Inv rxL (bx_up S 0 8 0)) (hinv : rxIB0T_4 S0 ws S ki) (l8 : 0 ≤ ki) (u8 : ki ≤ 0) : (True) ∧ rxPSB0T S0 ws (bx_up S 0 8 0) (some 0) := by
  obtain ⟨h1, h2⟩ := hinv
  exact ⟨trivial, Or.inr ⟨h2, rfl, S, h1, rfl⟩⟩
theorem rxfB0T_4_0 {X : (Nat → Int → Int) → Prop} {S0 : Nat → Int → Int} {ws : List Int} (hP : rxPB0T S0 ws) : bx_obE rxL X S0 rxCB0T.2.2.1 (rxIB0T S0 ws) (rxPSB0T S0 ws) 4 rxzB0T_4 rxeB0T_4_0 := by
  intro S S_p r r_p hinv hX hin hsm_ hseg
  obtain ⟨I0, I1, h0_, hr_, b_, f_, d_⟩ := bx_cl (evs := [(1, (0, 0), (0, 8), .inr (0, (0, 0)))]) (fvs := []) hseg (by decide +kernel) (by decide +kernel)
  have hinv : rxIB0T_4 S0 ws S (r 8) := hinv
  rw [← hr_ 8 (by decide)] at hinv
  obtain ⟨⟨l8, u8⟩, -⟩ := b_
  obtain ⟨T0, w_, w0⟩ := d_
  subst w0
  subst w_
  have g := rxdB0T_4_0 hP hin hsm_ I0 I1 hinv l8 u8
  refine ⟨bx_narP_ok (l := []) g.1, ?_⟩
  show rxPSB0T S0 ws (bx_up T0 0 (8) (0)) (some (bx_num r_p (.inr (0, (0, 0)))))
  rw [bx_xv_ok h0_]
  exact g.2
theorem rxgCB0T {X : (Nat → Int → Int) → Prop} {S0 : Nat → Int → Int} {ws : List Int} (hP : rxPB0T S0 ws) : bx_allI (fun i q => rxUB0T q = true ∨ bx_allP (fun o => bx_obC rxL X S0 rxCB0T.2.2.1 (rxIB0T S0 ws) (rxmB0T S0 ws) i q.1 o) q.2.1) 0 rxYB0T := ⟨Or.inr ⟨rxgB0T_0_0 hP, rxgB0T_0_1 hP, trivial⟩, Or.inl rfl, Or.inr trivial, Or.inl rfl, Or.inr trivial, trivial⟩
theorem rxgEB0T {X : (Nat → Int → Int) → Prop} {S0 : Nat → Int → Int} {ws : List Int} (hP : rxPB0T S0 ws) : bx_allI (fun i q => rxUB0T q = true ∨ bx_allP (fun E => bx_obE rxL X S0 rxCB0T.2.2.1 (rxIB0T S0 ws) (rxPSB0T S0 ws) i q.1 E) q.2.2) 0 rxYB0T := ⟨Or.inr trivial, Or.inl rfl, Or.inr ⟨rxfB0T_2_0 hP, trivial⟩, Or.inl rfl, Or.inr ⟨rxfB0T_4_0 hP, trivial⟩, trivial⟩
theorem rxuB0T {PX : State → Prop} {Dg : va_G} {A : Nat → Prop} {ad xa : Nat → Nat} {l : Launch} {X : (Nat → Int → Int) → Prop} (hPX : rx_PXOK rxNW A PX) (hX : ∀ S S1 : Nat → Int → Int, X S → bx_same rxL (bx_mdl rxCB0T.2.2.1) S S1 → X S1) (hQ110 : bx_ConP rxG rxNW rxAO PX Dg rxL X vwCl A ad l rxM110 rxC110 rxP110 rxPS110) (hQCZ1x138 : bx_ConP rxG rxNW rxAO PX Dg rxL X vwCl A ad l rxM154 rxCCZ1x138 rxPCZ1x138 rxPSCZ1x138) {S0 : Nat → Int → Int} {ws : List Int} (hP : rxPB0T S0 ws) : ∀ (i : Nat) (q : bx_HE), rxYB0T[i]? = some q → rxUB0T q = true → ∀ {p : Program} {e : Env} {R : Room} {s : State} {m : MethodId} {args : Array Value} {below : List Frame} {meth : Method} {c : Code} {Q : State → Prop} {H0 : Heap}, rx_Fr rxG rxNW rxAO PX p s m args meth c rxM210 → (∀ q, H0.size ≤ q → A q) → H0 = s.heap → rxM210.2.2.2.2.2.2.1 ≤ R.cells → rxM210.2.2.2.2.2.2.2 ≤ R.slots → rxCB0T.2.2.2.1 ≤ R.frames → rxCB0T.2.2.2.1 * 40 ≤ R.locals → bx_Step p l e R s m args below meth c Q Dg rxL X vwCl A xa H0 ad rxM210 rxYB0T (rxIB0T S0 ws) (rxmB0T S0 ws) S0 rxCB0T.2.2.1 i q := by
  intro i q hq hus p e R s m args below meth c Q H0 hF hA hH0 hmc hms hd hdl
  match i, hq with
  | 0, hq =>
    cases hq
    exact absurd (show false = true from hus) Bool.false_ne_true
  | 1, hq =>
    cases hq
    exact rx_stepC (ins := .invokevirtual 110) (len := 3) (i_p := 2) (M_p := rxM110) (d := rxCB0T.2.2.2.1) (as := [.inr (3, (0, 0)), .inr (0, (0, (-2)))]) (t := []) (ct := rxC110) hPX hF rfl hA hH0 hmc hms hd hdl (by decide +kernel) rfl rfl (by decide +kernel) (by decide +kernel) hQ110 (by decide +kernel) rfl (Or.inr ⟨_, _, _, 1, rfl, rfl, by omega, rfl, rfl, rfl⟩) (rxsB0T_1 hP)
  | 2, hq =>
    cases hq
    exact absurd (show false = true from hus) Bool.false_ne_true
  | 3, hq =>
    cases hq
    exact rx_stepC (ins := .invokevirtual 431) (len := 3) (i_p := 4) (M_p := rxM154) (d := rxCB0T.2.2.2.1) (as := [.inr (3, (0, 1)), .inr (3, (0, 138))]) (t := []) (ct := rxCCZ1x138) hPX hF rfl hA hH0 hmc hms hd hdl (by decide +kernel) rfl rfl (by decide +kernel) (by decide +kernel) hQCZ1x138 (by decide +kernel) rfl (Or.inl ⟨rfl, rfl, rfl⟩) (rxsB0T_3 hP)
  | 4, hq =>
    cases hq
    exact absurd (show false = true from hus) Bool.false_ne_true
  | n + 5, hq => cases hq
theorem rxQB0T {PX : State → Prop} {Dg : va_G} {A : Nat → Prop} {ad xa : Nat → Nat} {l : Launch} {X : (Nat → Int → Int) → Prop} (hPX : rx_PXOK rxNW A PX) (hsl : ∀ s : State, PX s → ∀ o idx n : Nat, rxSl o idx = some n → ∃ tx : String, vk_R (rxNm o) idx tx (ad n) s)
    (hX : ∀ S S_p : Nat → Int → Int, X S → bx_same rxL (bx_mdl rxCB0T.2.2.1) S S_p → X S_p)
    (ih : ∀ (j2 : Nat) (ct2 : bx_Ct) (M2 : rx_Mt), ct2 ∈ rxCnE j2 → ct2.2.2.2.1 + 1 ≤ rxCB0T.2.2.2.1 → rxT.2.2.2.2.2 j2 = some M2 → bx_Con rxG rxNW rxAO PX Dg rxL X vwCl A ad l M2 ct2) (hQ110 : bx_ConP rxG rxNW rxAO PX Dg rxL X vwCl A ad l rxM110 rxC110 rxP110 rxPS110) (hQCZ1x138 : bx_ConP rxG rxNW rxAO PX Dg rxL X vwCl A ad l rxM154 rxCCZ1x138 rxPCZ1x138 rxPSCZ1x138) : bx_ConP rxG rxNW rxAO PX Dg rxL X vwCl A ad l rxM210 rxCB0T rxPB0T rxPSB0T :=
  rxQof (xa := xa) (Cn := rxCnE) (f := 30000) (j := 210) (tab := rxYB0T) (us := rxUB0T) hPX hsl hX ih rfl rxYcB0T rxIB0T rxmB0T
    (fun S0 ws r I0 I ht0 ht as he he1 hX0 hI0 hP hs ha => by
      have e := he.symm.trans (show bx_ent0 rxNP rxCB0T.1 bx_I0 [] = some ([(0, 0), (0, 0), (0, 0), (0, 0), (0, 0), (0, 0), (0, 0), (0, 0), (0, 0)], [], [.inr (3, (0, 0)), .inr (0, (8, 0))]) from rfl)
      cases e
      subst ha
      have h0 : r 0 = 0 := hs.1
      show rxIB0T_0 S0 _ S0 (r 8)
      refine ⟨rfl, ?_⟩
      simp only [List.map_cons, List.map_nil, bx_xv_ok h0]
      rfl)
    (fun S0 ws hP => rxuB0T (xa := xa) hPX hX hQ110 hQCZ1x138 hP) (fun S0 ws hP => rxgCB0T hP) (fun S0 ws hP => rxgEB0T hP)
/-! CONTRACT BY HAND, by program (wip/sim/genhand.py): DeadUnderstudies.back -/
def rxCB1T : bx_Ct := ([(3, (1, 0, 0)), (0, (0, 1, 1))], some (0, (0, (-6), 0)), [(2, 0), (5, 0), (6, 0), (6, 4), (10, 0), (10, 5), (10, 10), (10, 14), (10, 15), (11, 8), (1000, 0), (1001, 0), (1003, 0), (1004, 0), (1005, 0), (1006, 0), (1007, 0), (1008, 0), (1010, 0), (1011, 0), (1012, 0), (1013, 0), (1015, 0), (1019, 0), (1020, 0), (1021, 0), (1022, 0), (1024, 0), (1025, 0), (1026, 0), (1027, 0), (1037, 0)], 3, [])
def rxIB1T_0 (S0 : Nat → Int → Int) (ws : List Int) (S : Nat → Int → Int) (ki : Int) : Prop := S = S0 ∧ ws = [0, ki]
def rxmB1T_0 (S0 : Nat → Int → Int) (ws : List Int) (S : Nat → Int → Int) (ki : Int) : Nat := 100
def rxzB1T_0 : rx_Z := ([(0, 0), (0, 0), (0, 0), (0, 0), (0, 0), (0, 0), (0, 0), (0, 0), (1, 1)], [], [], 0, 0, 0, [(0, .inr (3, (0, 0))), (1, .inr (0, (8, 0)))], [])
def rxIB1T_1 (S0 : Nat → Int → Int) (ws : List Int) (S : Nat → Int → Int) (ki : Int) : Prop := S = S0 ∧ S0 410 1 = 0
def rxmB1T_1 (S0 : Nat → Int → Int) (ws : List Int) (S : Nat → Int → Int) (ki : Int) : Nat := 50
def rxzB1T_1 : rx_Z := ([(0, 0), (0, 0), (0, 0), (0, 0), (0, 0), (0, 0), (0, 0), (0, 0), (1, 1)], [], [], 0, 0, 27, [(0, .inr (3, (0, 0))), (1, .inr (0, (8, 0)))], [.inr (0, (0, (-2))), .inr (3, (0, 0))])
def rxIB1T_2 (S0 : Nat → Int → Int) (ws : List Int) (S : Nat → Int → Int) (ki res : Int) : Prop := res = -2 ∧ S0 410 1 = 0 ∧ bx_same rxL (bx_mdl rxC110.2.2.1) S0 S
def rxmB1T_2 (S0 : Nat → Int → Int) (ws : List Int) (S : Nat → Int → Int) (ki res : Int) : Nat := 20
def rxzB1T_2 : rx_Z := ([(0, 0), (0, 0), (0, 0), (0, 0), (0, 0), (0, 0), (0, 0), (0, 0), (1, 1), ((-6), (-1))], [], [], 0, 0, 30, [(0, .inr (3, (0, 0))), (1, .inr (0, (8, 0)))], [.inr (0, (9, 0))])
def rxIB1T_3 (S0 : Nat → Int → Int) (ws : List Int) (S : Nat → Int → Int) (ki : Int) : Prop := S = S0 ∧ S0 410 1 ≠ 0
def rxmB1T_3 (S0 : Nat → Int → Int) (ws : List Int) (S : Nat → Int → Int) (ki : Int) : Nat := 50
def rxzB1T_3 : rx_Z := ([(0, 0), (0, 0), (0, 0), (0, 0), (0, 0), (0, 0), (0, 0), (0, 0), (1, 1)], [], [], 0, 0, 41, [(0, .inr (3, (0, 0))), (1, .inr (0, (8, 0)))], [.inr (3, (0, 274)), .inr (3, (0, 1))])
def rxIB1T_4 (S0 : Nat → Int → Int) (ws : List Int) (S : Nat → Int → Int) (ki : Int) : Prop := rxPSCZ1x274 S0 [1, 274] S none ∧ S0 410 1 ≠ 0
def rxmB1T_4 (S0 : Nat → Int → Int) (ws : List Int) (S : Nat → Int → Int) (ki : Int) : Nat := 20
def rxzB1T_4 : rx_Z := ([(0, 0), (0, 0), (0, 0), (0, 0), (0, 0), (0, 0), (0, 0), (0, 0), (1, 1)], [], [], 0, 0, 44, [(0, .inr (3, (0, 0))), (1, .inr (0, (8, 0)))], [])
def rxoB1T_0_0 : bx_HO := (([(0, 0), (0, 0), (0, 0), (0, 0), (0, 0), (0, 0), (0, 0), (0, 0), (1, 1), (0, 0)], [], [(((0, 0), 1851192626986356797424364830707437625680387377997778265106415616000000), .inr (0, (9, 0))), (((0, 410), 1), .inr (0, (9, 0))), (((0, 0), 2), .inr (3, (0, 410)))], 0, 0, 27, [(0, .inr (3, (0, 0))), (1, .inr (0, (8, 0)))], [.inr (0, (0, (-2))), .inr (3, (0, 0))]), [], [], [(0, 0), (0, 0), (0, 0), (0, 0), (0, 0), (0, 0), (0, 0), (0, 0), (8, 0)], 1)
def rxoB1T_0_1 : bx_HO := (([(0, 0), (0, 0), (0, 0), (0, 0), (0, 0), (0, 0), (0, 0), (0, 0), (1, 1), (1, 1)], [(3, (9, 0), (0, 0))], [(((0, 137), 1), .inr (3, (0, 274))), (((0, 0), 1), .inr (3, (0, 137))), (((0, 0), 0), .inr (3, (0, 1))), (((0, 0), 1851192626986356797424364830707437625680387377997778265106415616000000), .inr (0, (9, 0))), (((0, 410), 1), .inr (0, (9, 0))), (((0, 0), 2), .inr (3, (0, 410)))], 0, 0, 41, [(0, .inr (3, (0, 0))), (1, .inr (0, (8, 0)))], [.inr (3, (0, 274)), .inr (3, (0, 1))]), [], [], [(0, 0), (0, 0), (0, 0), (0, 0), (0, 0), (0, 0), (0, 0), (0, 0), (8, 0)], 3)
def rxeB1T_2_0 : rx_End × List (Nat × Int × Int) := (([(0, 0), (0, 0), (0, 0), (0, 0), (0, 0), (0, 0), (0, 0), (0, 0), (1, 1), ((-6), (-1))], [], [], some (.inr (0, (9, 0)))), [])
def rxeB1T_4_0 : rx_End × List (Nat × Int × Int) := (([(0, 0), (0, 0), (0, 0), (0, 0), (0, 0), (0, 0), (0, 0), (0, 0), (1, 1)], [], [(((0, 0), 1851192626986356799029993984671224184301589730656725205983952899000000), .inr (0, (0, 0))), (((0, 0), 8), .inr (0, (0, 0)))], some (.inr (0, (0, 0)))), [])
def rxYB1T : List bx_HE := [(rxzB1T_0, [rxoB1T_0_0, rxoB1T_0_1], []), (rxzB1T_1, [], []), (rxzB1T_2, [], [rxeB1T_2_0]), (rxzB1T_3, [], []), (rxzB1T_4, [], [rxeB1T_4_0])]
def rxUB1T (q : bx_HE) : Bool := Nat.beq (rx_zpc q.1) 27 || Nat.beq (rx_zpc q.1) 41
def rxYBB1T : bx_B := (rxV, rxNP, rxDmf, bx_mdH rxCB1T.2.2.1)
set_option maxRecDepth 100000 in
theorem rxYcB1T : bx_chkH rxYBB1T rxM210 rxCB1T rxYB1T (rxUB1T, fun cut z => rx_ex2 (rxCT rxYBB1T rxCnE) cut 30000 rxCB1T.2.2.2.1 210 z) = true := by decide +kernel
def rxIB1T (S0 : Nat → Int → Int) (ws : List Int) (i : Nat) : bx_SP := fun S r => match i with | 0 => rxIB1T_0 S0 ws S (r 8) | 1 => rxIB1T_1 S0 ws S (r 8) | 2 => rxIB1T_2 S0 ws S (r 8) (r 9) | 3 => rxIB1T_3 S0 ws S (r 8) | 4 => rxIB1T_4 S0 ws S (r 8) | _ => False
def rxmB1T (S0 : Nat → Int → Int) (ws : List Int) (i : Nat) (S : Nat → Int → Int) (r : Nat → Int) : Nat := match i with | 0 => rxmB1T_0 S0 ws S (r 8) | 1 => rxmB1T_1 S0 ws S (r 8) | 2 => rxmB1T_2 S0 ws S (r 8) (r 9) | 3 => rxmB1T_3 S0 ws S (r 8) | 4 => rxmB1T_4 S0 ws S (r 8) | _ => 0
def rxPB1T (S0 : Nat → Int → Int) (ws : List Int) : Prop := rkPl S0
def rxPSB1T (S0 : Nat → Int → Int) (ws : List Int) (S : Nat → Int → Int) (w : Option Int) : Prop := (S0 410 1 = 0 ∧ w = some (-2) ∧ bx_same rxL (bx_mdl rxC110.2.2.1) S0 S) ∨ (S0 410 1 ≠ 0 ∧ w = some 0 ∧ ∃ S1 : Nat → Int → Int, rxPSCZ1x274 S0 [1, 274] S1 none ∧ S = bx_up S1 0 8 0)
theorem rxkB1T_1 {S0 : Nat → Int → Int} {ws : List Int} {S : Nat → Int → Int} {ki : Int} (hP : rxPB1T S0 ws) (hin : bx_same rxL (bx_mdl rxCB1T.2.2.1) S0 S) (I0 : bx_Inv rxL S) (hinv : rxIB1T_1 S0 ws S ki) (l8 : 1 ≤ ki) (u8 : ki ≤ 1) : rxP110 S [0, (-2)] ∧ ∀ (S_p : Nat → Int → Int) (res : Int), (-6) ≤ res → res ≤ (-1) → rxPS110 S [0, (-2)] S_p (some res) → bx_Inv rxL S_p → bx_same rxL (bx_mdl rxC110.2.2.1) S S_p → rxIB1T_2 S0 ws S_p ki res ∧ rxmB1T_2 S0 ws S_p ki res < rxmB1T_1 S0 ws S ki := by
  obtain ⟨rfl, h1⟩ := hinv
  refine ⟨trivial, fun S_p res _ _ hq _ hsm => ⟨⟨?_, h1, hsm⟩, by unfold rxmB1T_1 rxmB1T_2; omega⟩⟩
  obtain ⟨c, hc, hr⟩ := hq
  simp only [List.cons.injEq, and_true, true_and] at hc
  simp only [Option.some.injEq] at hr
  omega
theorem rxsB1T_1 {X : (Nat → Int → Int) → Prop} {S0 : Nat → Int → Int} {ws : List Int} (hP : rxPB1T S0 ws) : rx_obK X S0 rxCB1T.2.2.1 rxC110.2.2.1 (rxIB1T S0 ws) (rxmB1T S0 ws) 1 2 rxzB1T_1 rxzB1T_2 [.inr (3, (0, 0)), .inr (0, (0, (-2)))] (some 9) rxP110 rxPS110 := by
  intro S r hinv hXS I0 hin hs_ hf_
  have b_ := bx_bds_sat hs_
  have f_ := bx_fcl_ok hs_.1 hf_
  obtain ⟨⟨l8, u8⟩, -⟩ := b_
  have g := rxkB1T_1 hP hin I0 hinv l8 u8
  have ea : List.map (bx_num r) [.inr (3, (0, 0)), .inr (0, (0, (-2)))] = [0, -2] := by
    simp only [List.map_cons, List.map_nil, bx_xv_ok hs_.1]
    rfl
  rw [ea]
  refine ⟨g.1, fun S_p w r_p hPS hX_p I1 hsm hr hw hs_p => ?_⟩
  have hw := hw _ rfl
  subst hw
  have b_p := hs_p.2.2 9 _ _ rfl
  have g2 := g.2 S_p (r_p 9) b_p.1 b_p.2 hPS I1 hsm
  show rxIB1T_2 S0 ws S_p (r_p 8) (r_p 9) ∧ rxmB1T_2 S0 ws S_p (r_p 8) (r_p 9) < _
  rw [hr 8 (by decide)]
  exact g2
theorem rxkB1T_3 {S0 : Nat → Int → Int} {ws : List Int} {S : Nat → Int → Int} {ki : Int} (hP : rxPB1T S0 ws) (hin : bx_same rxL (bx_mdl rxCB1T.2.2.1) S0 S) (I0 : bx_Inv rxL S) (hinv : rxIB1T_3 S0 ws S ki) (l8 : 1 ≤ ki) (u8 : ki ≤ 1) : rxPCZ1x274 S [1, 274] ∧ ∀ (S_p : Nat → Int → Int), rxPSCZ1x274 S [1, 274] S_p none → bx_Inv rxL S_p → bx_same rxL (bx_mdl rxCCZ1x274.2.2.1) S S_p → rxIB1T_4 S0 ws S_p ki ∧ rxmB1T_4 S0 ws S_p ki < rxmB1T_3 S0 ws S ki := by
  obtain ⟨rfl, h1⟩ := hinv
  exact ⟨hP, fun S_p hq _ hsm => ⟨⟨hq, h1⟩, by unfold rxmB1T_3 rxmB1T_4; omega⟩⟩
theorem rxsB1T_3 {X : (Nat → Int → Int) → Prop} {S0 : Nat → Int → Int} {ws : List Int} (hP : rxPB1T S0 ws) : rx_obK X S0 rxCB1T.2.2.1 rxCCZ1x274.2.2.1 (rxIB1T S0 ws) (rxmB1T S0 ws) 3 4 rxzB1T_3 rxzB1T_4 [.inr (3, (0, 1)), .inr (3, (0, 274))] none rxPCZ1x274 rxPSCZ1x274 := by
  intro S r hinv hXS I0 hin hs_ hf_
  have b_ := bx_bds_sat hs_
  have f_ := bx_fcl_ok hs_.1 hf_
  obtain ⟨⟨l8, u8⟩, -⟩ := b_
  have g := rxkB1T_3 hP hin I0 hinv l8 u8
  have ea : List.map (bx_num r) [.inr (3, (0, 1)), .inr (3, (0, 274))] = [1, 274] := by
    simp only [List.map_cons, List.map_nil, bx_xv_ok hs_.1]
    rfl
  rw [ea]
  refine ⟨g.1, fun S_p w r_p hPS hX_p I1 hsm hr hw hs_p => ?_⟩
  have hw : w = none := hPS.1
  subst hw
  have g2 := g.2 S_p hPS I1 hsm
  show rxIB1T_4 S0 ws S_p (r_p 8) ∧ rxmB1T_4 S0 ws S_p (r_p 8) < _
  rw [hr 8 (by decide)]
  exact g2
theorem rxcB1T_0_0 {S0 : Nat → Int → Int} {ws : List Int} {S : Nat → Int → Int} {ki x9 : Int} (hP : rxPB1T S0 ws) (hin : bx_same rxL (bx_mdl rxCB1T.2.2.1) S0 S) (I0 : bx_Inv rxL S) (hinv : rxIB1T_0 S0 ws S ki) (l8 : 1 ≤ ki) (u8 : ki ≤ 1) (l9 : 0 ≤ x9) (u9 : x9 ≤ 0) (e0 : S 410 ki = x9) : (True) ∧ (True) ∧ rxIB1T_1 S0 ws S ki ∧ rxmB1T_1 S0 ws S ki < rxmB1T_0 S0 ws S ki := by
  obtain ⟨rfl, hw⟩ := hinv
  have e : ki = 1 := by omega
  subst e
  exact ⟨trivial, trivial, ⟨rfl, by omega⟩, by unfold rxmB1T_0 rxmB1T_1; omega⟩
theorem rxgB1T_0_0 {X : (Nat → Int → Int) → Prop} {S0 : Nat → Int → Int} {ws : List Int} (hP : rxPB1T S0 ws) : bx_obC rxL X S0 rxCB1T.2.2.1 (rxIB1T S0 ws) (rxmB1T S0 ws) 0 rxzB1T_0 rxoB1T_0_0 := by
  intro S S_p r r_p hinv hX hin hsm_ hseg
  obtain ⟨I0, I1, h0_, hr_, b_, f_, d_⟩ := bx_cl (evs := [(0, (0, 410), (8, 0), .inr (0, (9, 0)))]) (fvs := []) hseg (by decide +kernel) (by decide +kernel)
  have hinv : rxIB1T_0 S0 ws S (r 8) := hinv
  rw [← hr_ 8 (by decide)] at hinv
  obtain ⟨⟨l8, u8⟩, ⟨l9, u9⟩, -⟩ := b_
  obtain ⟨e0, w_⟩ := d_
  subst w_
  have g := rxcB1T_0_0 hP hin I0 hinv l8 u8 l9 u9 e0
  refine ⟨bx_narP_ok (l := []) g.1, bx_nfP_ok h0_ (fvs := []) (by decide +kernel) g.2.1, ?_, ?_⟩
  · show rxIB1T_1 S0 ws S_p (bx_val [(0, 0), (0, 0), (0, 0), (0, 0), (0, 0), (0, 0), (0, 0), (0, 0), (8, 0)] r_p 8)
    rw [bx_val_x (n := 8) (e := (8, 0)) h0_ rfl]
    exact g.2.2.1
  · show rxmB1T_1 S0 ws S_p (bx_val [(0, 0), (0, 0), (0, 0), (0, 0), (0, 0), (0, 0), (0, 0), (0, 0), (8, 0)] r_p 8) < rxmB1T_0 S0 ws S_p (r 8)
    rw [bx_val_x (n := 8) (e := (8, 0)) h0_ rfl, ← hr_ 8 (by decide)]
    exact g.2.2.2
theorem rxcB1T_0_1 {S0 : Nat → Int → Int} {ws : List Int} {S : Nat → Int → Int} {ki x9 : Int} (hP : rxPB1T S0 ws) (hin : bx_same rxL (bx_mdl rxCB1T.2.2.1) S0 S) (I0 : bx_Inv rxL S) (hinv : rxIB1T_0 S0 ws S ki) (l8 : 1 ≤ ki) (u8 : ki ≤ 1) (l9 : 1 ≤ x9) (u9 : x9 ≤ 1) (f0 : x9 ≠ 0) (e0 : S 410 ki = x9) : (True) ∧ (True) ∧ rxIB1T_3 S0 ws S ki ∧ rxmB1T_3 S0 ws S ki < rxmB1T_0 S0 ws S ki := by
  obtain ⟨rfl, hw⟩ := hinv
  have e : ki = 1 := by omega
  subst e
  exact ⟨trivial, trivial, ⟨rfl, by omega⟩, by unfold rxmB1T_0 rxmB1T_3; omega⟩
theorem rxgB1T_0_1 {X : (Nat → Int → Int) → Prop} {S0 : Nat → Int → Int} {ws : List Int} (hP : rxPB1T S0 ws) : bx_obC rxL X S0 rxCB1T.2.2.1 (rxIB1T S0 ws) (rxmB1T S0 ws) 0 rxzB1T_0 rxoB1T_0_1 := by
  intro S S_p r r_p hinv hX hin hsm_ hseg
  obtain ⟨I0, I1, h0_, hr_, b_, f_, d_⟩ := bx_cl (evs := [(0, (0, 410), (8, 0), .inr (0, (9, 0)))]) (fvs := [(3, (9, 0), (0, 0), (0, 0))]) hseg (by decide +kernel) (by decide +kernel)
  have hinv : rxIB1T_0 S0 ws S (r 8) := hinv
  rw [← hr_ 8 (by decide)] at hinv
  obtain ⟨⟨l8, u8⟩, ⟨l9, u9⟩, -⟩ := b_
  obtain ⟨f0, -⟩ := f_
  obtain ⟨e0, w_⟩ := d_
  subst w_
  have g := rxcB1T_0_1 hP hin I0 hinv l8 u8 l9 u9 f0 e0
  refine ⟨bx_narP_ok (l := []) g.1, bx_nfP_ok h0_ (fvs := []) (by decide +kernel) g.2.1, ?_, ?_⟩
  · show rxIB1T_3 S0 ws S_p (bx_val [(0, 0), (0, 0), (0, 0), (0, 0), (0, 0), (0, 0), (0, 0), (0, 0), (8, 0)] r_p 8)
    rw [bx_val_x (n := 8) (e := (8, 0)) h0_ rfl]
    exact g.2.2.1
  · show rxmB1T_3 S0 ws S_p (bx_val [(0, 0), (0, 0), (0, 0), (0, 0), (0, 0), (0, 0), (0, 0), (0, 0), (8, 0)] r_p 8) < rxmB1T_0 S0 ws S_p (r 8)
    rw [bx_val_x (n := 8) (e := (8, 0)) h0_ rfl, ← hr_ 8 (by decide)]
    exact g.2.2.2
theorem rxdB1T_2_0 {S0 : Nat → Int → Int} {ws : List Int} {S : Nat → Int → Int} {ki res : Int} (hP : rxPB1T S0 ws) (hin : bx_same rxL (bx_mdl rxCB1T.2.2.1) S0 S) (hin2 : bx_same rxL (bx_mdl rxCB1T.2.2.1) S S) (I0 : bx_Inv rxL S) (I1 : bx_Inv rxL S) (hinv : rxIB1T_2 S0 ws S ki res) (l8 : 1 ≤ ki) (u8 : ki ≤ 1) (l9 : (-6) ≤ res) (u9 : res ≤ (-1)) : (True) ∧ rxPSB1T S0 ws S (some res) := by
  obtain ⟨h1, h2, h3⟩ := hinv
  exact ⟨trivial, Or.inl ⟨h2, congrArg some h1, h3⟩⟩
theorem rxfB1T_2_0 {X : (Nat → Int → Int) → Prop} {S0 : Nat → Int → Int} {ws : List Int} (hP : rxPB1T S0 ws) : bx_obE rxL X S0 rxCB1T.2.2.1 (rxIB1T S0 ws) (rxPSB1T S0 ws) 2 rxzB1T_2 rxeB1T_2_0 := by
  intro S S_p r r_p hinv hX hin hsm_ hseg
  obtain ⟨I0, I1, h0_, hr_, b_, f_, d_⟩ := bx_cl (evs := []) (fvs := []) hseg (by decide +kernel) (by decide +kernel)
  have hinv : rxIB1T_2 S0 ws S (r 8) (r 9) := hinv
  rw [← hr_ 8 (by decide), ← hr_ 9 (by decide)] at hinv
  obtain ⟨⟨l8, u8⟩, ⟨l9, u9⟩, -⟩ := b_
  have w_ := d_
  subst w_
  have g := rxdB1T_2_0 hP hin hsm_ I0 I1 hinv l8 u8 l9 u9
  refine ⟨bx_narP_ok (l := []) g.1, ?_⟩
  show rxPSB1T S0 ws S_p (some (bx_num r_p (.inr (0, (9, 0)))))
  rw [bx_xv_ok h0_]
  exact g.2
theorem rxdB1T_4_0 {S0 : Nat → Int → Int} {ws : List Int} {S : Nat → Int → Int} {ki : Int} (hP : rxPB1T S0 ws) (hin : bx_same rxL (bx_mdl rxCB1T.2.2.1) S0 S) (hin2 : bx_same rxL (bx_mdl rxCB1T.2.2.1) S (bx_up S 0 8 0)) (I0 : bx_Inv rxL S) (I1 : bx_Inv rxL (bx_up S 0 8 0)) (hinv : rxIB1T_4 S0 ws S ki) (l8 : 1 ≤ ki) (u8 : ki ≤ 1) : (True) ∧ rxPSB1T S0 ws (bx_up S 0 8 0) (some 0) := by
  obtain ⟨h1, h2⟩ := hinv
  exact ⟨trivial, Or.inr ⟨h2, rfl, S, h1, rfl⟩⟩
theorem rxfB1T_4_0 {X : (Nat → Int → Int) → Prop} {S0 : Nat → Int → Int} {ws : List Int} (hP : rxPB1T S0 ws) : bx_obE rxL X S0 rxCB1T.2.2.1 (rxIB1T S0 ws) (rxPSB1T S0 ws) 4 rxzB1T_4 rxeB1T_4_0 := by
  intro S S_p r r_p hinv hX hin hsm_ hseg
  obtain ⟨I0, I1, h0_, hr_, b_, f_, d_⟩ := bx_cl (evs := [(1, (0, 0), (0, 8), .inr (0, (0, 0)))]) (fvs := []) hseg (by decide +kernel) (by decide +kernel)
  have hinv : rxIB1T_4 S0 ws S (r 8) := hinv
  rw [← hr_ 8 (by decide)] at hinv
  obtain ⟨⟨l8, u8⟩, -⟩ := b_
  obtain ⟨T0, w_, w0⟩ := d_
  subst w0
  subst w_
  have g := rxdB1T_4_0 hP hin hsm_ I0 I1 hinv l8 u8
  refine ⟨bx_narP_ok (l := []) g.1, ?_⟩
  show rxPSB1T S0 ws (bx_up T0 0 (8) (0)) (some (bx_num r_p (.inr (0, (0, 0)))))
  rw [bx_xv_ok h0_]
  exact g.2
theorem rxgCB1T {X : (Nat → Int → Int) → Prop} {S0 : Nat → Int → Int} {ws : List Int} (hP : rxPB1T S0 ws) : bx_allI (fun i q => rxUB1T q = true ∨ bx_allP (fun o => bx_obC rxL X S0 rxCB1T.2.2.1 (rxIB1T S0 ws) (rxmB1T S0 ws) i q.1 o) q.2.1) 0 rxYB1T := ⟨Or.inr ⟨rxgB1T_0_0 hP, rxgB1T_0_1 hP, trivial⟩, Or.inl rfl, Or.inr trivial, Or.inl rfl, Or.inr trivial, trivial⟩
theorem rxgEB1T {X : (Nat → Int → Int) → Prop} {S0 : Nat → Int → Int} {ws : List Int} (hP : rxPB1T S0 ws) : bx_allI (fun i q => rxUB1T q = true ∨ bx_allP (fun E => bx_obE rxL X S0 rxCB1T.2.2.1 (rxIB1T S0 ws) (rxPSB1T S0 ws) i q.1 E) q.2.2) 0 rxYB1T := ⟨Or.inr trivial, Or.inl rfl, Or.inr ⟨rxfB1T_2_0 hP, trivial⟩, Or.inl rfl, Or.inr ⟨rxfB1T_4_0 hP, trivial⟩, trivial⟩
theorem rxuB1T {PX : State → Prop} {Dg : va_G} {A : Nat → Prop} {ad xa : Nat → Nat} {l : Launch} {X : (Nat → Int → Int) → Prop} (hPX : rx_PXOK rxNW A PX) (hX : ∀ S S1 : Nat → Int → Int, X S → bx_same rxL (bx_mdl rxCB1T.2.2.1) S S1 → X S1) (hQ110 : bx_ConP rxG rxNW rxAO PX Dg rxL X vwCl A ad l rxM110 rxC110 rxP110 rxPS110) (hQCZ1x274 : bx_ConP rxG rxNW rxAO PX Dg rxL X vwCl A ad l rxM154 rxCCZ1x274 rxPCZ1x274 rxPSCZ1x274) {S0 : Nat → Int → Int} {ws : List Int} (hP : rxPB1T S0 ws) : ∀ (i : Nat) (q : bx_HE), rxYB1T[i]? = some q → rxUB1T q = true → ∀ {p : Program} {e : Env} {R : Room} {s : State} {m : MethodId} {args : Array Value} {below : List Frame} {meth : Method} {c : Code} {Q : State → Prop} {H0 : Heap}, rx_Fr rxG rxNW rxAO PX p s m args meth c rxM210 → (∀ q, H0.size ≤ q → A q) → H0 = s.heap → rxM210.2.2.2.2.2.2.1 ≤ R.cells → rxM210.2.2.2.2.2.2.2 ≤ R.slots → rxCB1T.2.2.2.1 ≤ R.frames → rxCB1T.2.2.2.1 * 40 ≤ R.locals → bx_Step p l e R s m args below meth c Q Dg rxL X vwCl A xa H0 ad rxM210 rxYB1T (rxIB1T S0 ws) (rxmB1T S0 ws) S0 rxCB1T.2.2.1 i q := by
  intro i q hq hus p e R s m args below meth c Q H0 hF hA hH0 hmc hms hd hdl
  match i, hq with
  | 0, hq =>
    cases hq
    exact absurd (show false = true from hus) Bool.false_ne_true
  | 1, hq =>
    cases hq
    exact rx_stepC (ins := .invokevirtual 110) (len := 3) (i_p := 2) (M_p := rxM110) (d := rxCB1T.2.2.2.1) (as := [.inr (3, (0, 0)), .inr (0, (0, (-2)))]) (t := []) (ct := rxC110) hPX hF rfl hA hH0 hmc hms hd hdl (by decide +kernel) rfl rfl (by decide +kernel) (by decide +kernel) hQ110 (by decide +kernel) rfl (Or.inr ⟨_, _, _, 1, rfl, rfl, by omega, rfl, rfl, rfl⟩) (rxsB1T_1 hP)
  | 2, hq =>
    cases hq
    exact absurd (show false = true from hus) Bool.false_ne_true
  | 3, hq =>
    cases hq
    exact rx_stepC (ins := .invokevirtual 431) (len := 3) (i_p := 4) (M_p := rxM154) (d := rxCB1T.2.2.2.1) (as := [.inr (3, (0, 1)), .inr (3, (0, 274))]) (t := []) (ct := rxCCZ1x274) hPX hF rfl hA hH0 hmc hms hd hdl (by decide +kernel) rfl rfl (by decide +kernel) (by decide +kernel) hQCZ1x274 (by decide +kernel) rfl (Or.inl ⟨rfl, rfl, rfl⟩) (rxsB1T_3 hP)
  | 4, hq =>
    cases hq
    exact absurd (show false = true from hus) Bool.false_ne_true
  | n + 5, hq => cases hq
theorem rxQB1T {PX : State → Prop} {Dg : va_G} {A : Nat → Prop} {ad xa : Nat → Nat} {l : Launch} {X : (Nat → Int → Int) → Prop} (hPX : rx_PXOK rxNW A PX) (hsl : ∀ s : State, PX s → ∀ o idx n : Nat, rxSl o idx = some n → ∃ tx : String, vk_R (rxNm o) idx tx (ad n) s)
    (hX : ∀ S S_p : Nat → Int → Int, X S → bx_same rxL (bx_mdl rxCB1T.2.2.1) S S_p → X S_p)
    (ih : ∀ (j2 : Nat) (ct2 : bx_Ct) (M2 : rx_Mt), ct2 ∈ rxCnE j2 → ct2.2.2.2.1 + 1 ≤ rxCB1T.2.2.2.1 → rxT.2.2.2.2.2 j2 = some M2 → bx_Con rxG rxNW rxAO PX Dg rxL X vwCl A ad l M2 ct2) (hQ110 : bx_ConP rxG rxNW rxAO PX Dg rxL X vwCl A ad l rxM110 rxC110 rxP110 rxPS110) (hQCZ1x274 : bx_ConP rxG rxNW rxAO PX Dg rxL X vwCl A ad l rxM154 rxCCZ1x274 rxPCZ1x274 rxPSCZ1x274) : bx_ConP rxG rxNW rxAO PX Dg rxL X vwCl A ad l rxM210 rxCB1T rxPB1T rxPSB1T :=
  rxQof (xa := xa) (Cn := rxCnE) (f := 30000) (j := 210) (tab := rxYB1T) (us := rxUB1T) hPX hsl hX ih rfl rxYcB1T rxIB1T rxmB1T
    (fun S0 ws r I0 I ht0 ht as he he1 hX0 hI0 hP hs ha => by
      have e := he.symm.trans (show bx_ent0 rxNP rxCB1T.1 bx_I0 [] = some ([(0, 0), (0, 0), (0, 0), (0, 0), (0, 0), (0, 0), (0, 0), (0, 0), (1, 1)], [], [.inr (3, (0, 0)), .inr (0, (8, 0))]) from rfl)
      cases e
      subst ha
      have h0 : r 0 = 0 := hs.1
      show rxIB1T_0 S0 _ S0 (r 8)
      refine ⟨rfl, ?_⟩
      simp only [List.map_cons, List.map_nil, bx_xv_ok h0]
      rfl)
    (fun S0 ws hP => rxuB1T (xa := xa) hPX hX hQ110 hQCZ1x274 hP) (fun S0 ws hP => rxgCB1T hP) (fun S0 ws hP => rxgEB1T hP)
def rzPS210T (S0 : Nat → Int → Int) (ws : List Int) (S : Nat → Int → Int) (w : Option Int) : Prop := ∃ k : Int, ws = [0, k] ∧ ((k = 0 ∧ rxPSB0T S0 [0, 0] S w) ∨ (k = 1 ∧ rxPSB1T S0 [0, 1] S w) ∨ ((k < 0 ∨ 1 < k) ∧ rxPS210 S0 [0, k] S w))
set_option maxHeartbeats 2000000 in
theorem rzQ210T {PX : State → Prop} {Dg : va_G} {A : Nat → Prop} {ad : Nat → Nat} {l : Launch} (hPX : rx_PXOK rxNW A PX) (hsl : ∀ s : State, PX s → ∀ o idx n : Nat, rxSl o idx = some n → ∃ tx : String, vk_R (rxNm o) idx tx (ad n) s) (ih : ∀ (j : Nat) (ct : bx_Ct) (M : rx_Mt), ct ∈ rxCn j → rxT.2.2.2.2.2 j = some M → bx_Con rxG rxNW rxAO PX Dg rxL rxX vwCl A ad l M ct) : bx_ConP rxG rxNW rxAO PX Dg rxL rxX vwCl A ad l rxM210 rxC210 (fun S0 _ => rkPl S0) rzPS210T := by
  have q110 := rxQ110 (PX := PX) (Dg := Dg) (A := A) (ad := ad) (xa := fun n => n) (l := l) (X := rxX) hPX hsl (fun _ _ h hm => rxX_of (by decide +kernel) h hm) (fun _ _ _ h => absurd h List.not_mem_nil)
  have qsc := rxQSCZ (PX := PX) (Dg := Dg) (A := A) (ad := ad) (xa := fun n => n) (l := l) (X := rxX) hPX hsl (fun _ _ h hm => rxX_of (by decide +kernel) h hm) (fun _ _ _ h => absurd h List.not_mem_nil)
  have qqc := rxQQCZ (PX := PX) (Dg := Dg) (A := A) (ad := ad) (xa := fun n => n) (l := l) (X := rxX) hPX hsl (fun _ _ h hm => rxX_of (by decide +kernel) h hm) (fun _ _ _ h => absurd h List.not_mem_nil)
  have qp0 := rxQPC5x142 (PX := PX) (Dg := Dg) (A := A) (ad := ad) (xa := fun n => n) (l := l) (X := rxX) hPX hsl (fun _ _ h hm => rxX_of (by decide +kernel) h hm) (fun _ _ _ h => absurd h List.not_mem_nil)
  have qd0 := rxQDC14x151 (PX := PX) (Dg := Dg) (A := A) (ad := ad) (xa := fun n => n) (l := l) (X := rxX) hPX hsl (fun _ _ h hm => rxX_of (by decide +kernel) h hm) (fun _ _ _ h => absurd h List.not_mem_nil)
  have qc0 := rxQCZ1x138 (PX := PX) (Dg := Dg) (A := A) (ad := ad) (xa := fun n => n) (l := l) (X := rxX) hPX hsl (fun _ _ h hm => rxX_of (by decide +kernel) h hm) (fun _ _ _ h => absurd h List.not_mem_nil) qsc qp0 qd0 qqc
  have qi0 := rxQB0T (PX := PX) (Dg := Dg) (A := A) (ad := ad) (xa := fun n => n) (l := l) (X := rxX) hPX hsl (fun _ _ h hm => rxX_of (by decide +kernel) h hm) (fun _ _ _ h => absurd h List.not_mem_nil) q110 qc0
  have qp1 := rxQPC5x278 (PX := PX) (Dg := Dg) (A := A) (ad := ad) (xa := fun n => n) (l := l) (X := rxX) hPX hsl (fun _ _ h hm => rxX_of (by decide +kernel) h hm) (fun _ _ _ h => absurd h List.not_mem_nil)
  have qd1 := rxQDC14x287 (PX := PX) (Dg := Dg) (A := A) (ad := ad) (xa := fun n => n) (l := l) (X := rxX) hPX hsl (fun _ _ h hm => rxX_of (by decide +kernel) h hm) (fun _ _ _ h => absurd h List.not_mem_nil)
  have qc1 := rxQCZ1x274 (PX := PX) (Dg := Dg) (A := A) (ad := ad) (xa := fun n => n) (l := l) (X := rxX) hPX hsl (fun _ _ h hm => rxX_of (by decide +kernel) h hm) (fun _ _ _ h => absurd h List.not_mem_nil) qsc qp1 qd1 qqc
  have qi1 := rxQB1T (PX := PX) (Dg := Dg) (A := A) (ad := ad) (xa := fun n => n) (l := l) (X := rxX) hPX hsl (fun _ _ h hm => rxX_of (by decide +kernel) h hm) (fun _ _ _ h => absurd h List.not_mem_nil) q110 qc1
  have qg := rxQ210 (PX := PX) (Dg := Dg) (A := A) (ad := ad) (xa := fun n => n) (l := l) (X := rxX) hPX hsl (fun _ _ h hm => rxX_of (by decide +kernel) h hm) (fun j2 ct2 M2 hc hd hM => ih j2 ct2 M2 hc hM) q110
  intro S0 ws hX ha hpre hP Qc hQ
  obtain ⟨w0, wt, rfl, e0, k, wt2, rfl, hk, rfl⟩ := ha
  have e0 : w0 = 0 + 0 := e0
  have e1 : w0 = 0 := by omega
  subst e1
  rcases (show k = 0 ∨ k = 1 ∨ (k < 0 ∨ 1 < k) by omega) with rfl | rfl | h
  · refine qi0 S0 [0, 0] hX ⟨0, _, rfl, rfl, 0, _, rfl, (show (0 : Int) ≤ 0 ∧ (0 : Int) ≤ 0 from ⟨Int.le_refl _, Int.le_refl _⟩), rfl⟩ hpre hP Qc fun x st oc t h => hQ x st oc t ?_
    obtain ⟨⟨S_p, rv, g1, g2, g3, g4, g5, w, g6, g7⟩, g8⟩ := h
    exact ⟨⟨S_p, rv, g1, g2, g3, g4, g5, w, ⟨0, rfl, Or.inl ⟨rfl, g6⟩⟩, g7⟩, g8⟩
  · refine qi1 S0 [0, 1] hX ⟨0, _, rfl, rfl, 1, _, rfl, (show (1 : Int) ≤ 1 ∧ (1 : Int) ≤ 1 from ⟨Int.le_refl _, Int.le_refl _⟩), rfl⟩ hpre hP Qc fun x st oc t h => hQ x st oc t ?_
    obtain ⟨⟨S_p, rv, g1, g2, g3, g4, g5, w, g6, g7⟩, g8⟩ := h
    exact ⟨⟨S_p, rv, g1, g2, g3, g4, g5, w, ⟨1, rfl, Or.inr (Or.inl ⟨rfl, g6⟩)⟩, g7⟩, g8⟩
  · refine qg S0 [0, k] hX ⟨0, _, rfl, rfl, k, _, rfl, hk, rfl⟩ hpre ⟨k, rfl, h⟩ Qc fun x st oc t h2 => hQ x st oc t ?_
    obtain ⟨⟨S_p, rv, g1, g2, g3, g4, g5, w, g6, g7⟩, g8⟩ := h2
    exact ⟨⟨S_p, rv, g1, g2, g3, g4, g5, w, ⟨k, rfl, Or.inr (Or.inr ⟨h, g6⟩)⟩, g7⟩, g8⟩
