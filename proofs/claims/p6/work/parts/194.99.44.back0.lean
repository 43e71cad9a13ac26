/-! CONTRACT BY HAND, by program (wip/sim/genhand.py): DeadUnderstudies.back -/
def rxCB0 : bx_Ct := ([(3, (1, 0, 0)), (0, (0, 0, 0))], some (0, (0, (-6), 0)), [(2, 0), (5, 0), (6, 0), (6, 4), (10, 0), (10, 5), (10, 10), (10, 14), (10, 15), (11, 8), (1000, 0), (1001, 0), (1003, 0), (1004, 0), (1005, 0), (1006, 0), (1007, 0), (1008, 0), (1010, 0), (1011, 0), (1012, 0), (1013, 0), (1015, 0), (1019, 0), (1020, 0), (1021, 0), (1022, 0), (1024, 0), (1025, 0), (1026, 0), (1027, 0), (1037, 0)], 3, [])
def rxIB0_0 (S0 : Nat → Int → Int) (ws : List Int) (S : Nat → Int → Int) (ki : Int) : Prop := S = S0 ∧ ws = [0, ki]
def rxmB0_0 (S0 : Nat → Int → Int) (ws : List Int) (S : Nat → Int → Int) (ki : Int) : Nat := 100
def rxzB0_0 : rx_Z := ([(0, 0), (0, 0), (0, 0), (0, 0), (0, 0), (0, 0), (0, 0), (0, 0), (0, 0)], [], [], 0, 0, 0, [(0, .inr (3, (0, 0))), (1, .inr (0, (8, 0)))], [])
def rxIB0_1 (S0 : Nat → Int → Int) (ws : List Int) (S : Nat → Int → Int) (ki : Int) : Prop := S = S0 ∧ S0 410 0 = 0
def rxmB0_1 (S0 : Nat → Int → Int) (ws : List Int) (S : Nat → Int → Int) (ki : Int) : Nat := 50
def rxzB0_1 : rx_Z := ([(0, 0), (0, 0), (0, 0), (0, 0), (0, 0), (0, 0), (0, 0), (0, 0), (0, 0)], [], [], 0, 0, 27, [(0, .inr (3, (0, 0))), (1, .inr (0, (8, 0)))], [.inr (0, (0, (-2))), .inr (3, (0, 0))])
def rxIB0_2 (S0 : Nat → Int → Int) (ws : List Int) (S : Nat → Int → Int) (ki res : Int) : Prop := res = -2 ∧ S0 410 0 = 0 ∧ bx_same rxL (bx_mdl rxC110.2.2.1) S0 S
def rxmB0_2 (S0 : Nat → Int → Int) (ws : List Int) (S : Nat → Int → Int) (ki res : Int) : Nat := 20
def rxzB0_2 : rx_Z := ([(0, 0), (0, 0), (0, 0), (0, 0), (0, 0), (0, 0), (0, 0), (0, 0), (0, 0), ((-6), (-1))], [], [], 0, 0, 30, [(0, .inr (3, (0, 0))), (1, .inr (0, (8, 0)))], [.inr (0, (9, 0))])
def rxIB0_3 (S0 : Nat → Int → Int) (ws : List Int) (S : Nat → Int → Int) (ki : Int) : Prop := S = S0 ∧ S0 410 0 ≠ 0
def rxmB0_3 (S0 : Nat → Int → Int) (ws : List Int) (S : Nat → Int → Int) (ki : Int) : Nat := 50
def rxzB0_3 : rx_Z := ([(0, 0), (0, 0), (0, 0), (0, 0), (0, 0), (0, 0), (0, 0), (0, 0), (0, 0)], [], [], 0, 0, 41, [(0, .inr (3, (0, 0))), (1, .inr (0, (8, 0)))], [.inr (3, (0, 138)), .inr (3, (0, 1))])
def rxIB0_4 (S0 : Nat → Int → Int) (ws : List Int) (S : Nat → Int → Int) (ki : Int) : Prop := rxPSCF1x138 S0 [1, 138] S none ∧ S0 410 0 ≠ 0
def rxmB0_4 (S0 : Nat → Int → Int) (ws : List Int) (S : Nat → Int → Int) (ki : Int) : Nat := 20
def rxzB0_4 : rx_Z := ([(0, 0), (0, 0), (0, 0), (0, 0), (0, 0), (0, 0), (0, 0), (0, 0), (0, 0)], [], [], 0, 0, 44, [(0, .inr (3, (0, 0))), (1, .inr (0, (8, 0)))], [])
def rxoB0_0_0 : bx_HO := (([(0, 0), (0, 0), (0, 0), (0, 0), (0, 0), (0, 0), (0, 0), (0, 0), (0, 0), (0, 0)], [], [(((0, 0), 1851192626986356797424364830707437625680387377997778265106415616000000), .inr (0, (9, 0))), (((0, 410), 0), .inr (0, (9, 0))), (((0, 0), 2), .inr (3, (0, 410)))], 0, 0, 27, [(0, .inr (3, (0, 0))), (1, .inr (0, (8, 0)))], [.inr (0, (0, (-2))), .inr (3, (0, 0))]), [], [], [(0, 0), (0, 0), (0, 0), (0, 0), (0, 0), (0, 0), (0, 0), (0, 0), (8, 0)], 1)
def rxoB0_0_1 : bx_HO := (([(0, 0), (0, 0), (0, 0), (0, 0), (0, 0), (0, 0), (0, 0), (0, 0), (0, 0), (1, 1)], [(3, (9, 0), (0, 0))], [(((0, 137), 0), .inr (3, (0, 138))), (((0, 0), 1), .inr (3, (0, 137))), (((0, 0), 0), .inr (3, (0, 1))), (((0, 0), 1851192626986356797424364830707437625680387377997778265106415616000000), .inr (0, (9, 0))), (((0, 410), 0), .inr (0, (9, 0))), (((0, 0), 2), .inr (3, (0, 410)))], 0, 0, 41, [(0, .inr (3, (0, 0))), (1, .inr (0, (8, 0)))], [.inr (3, (0, 138)), .inr (3, (0, 1))]), [], [], [(0, 0), (0, 0), (0, 0), (0, 0), (0, 0), (0, 0), (0, 0), (0, 0), (8, 0)], 3)
def rxeB0_2_0 : rx_End × List (Nat × Int × Int) := (([(0, 0), (0, 0), (0, 0), (0, 0), (0, 0), (0, 0), (0, 0), (0, 0), (0, 0), ((-6), (-1))], [], [], some (.inr (0, (9, 0)))), [])
def rxeB0_4_0 : rx_End × List (Nat × Int × Int) := (([(0, 0), (0, 0), (0, 0), (0, 0), (0, 0), (0, 0), (0, 0), (0, 0), (0, 0)], [], [(((0, 0), 1851192626986356799029993984671224184301589730656725205983952899000000), .inr (0, (0, 0))), (((0, 0), 8), .inr (0, (0, 0)))], some (.inr (0, (0, 0)))), [])
def rxYB0 : List bx_HE := [(rxzB0_0, [rxoB0_0_0, rxoB0_0_1], []), (rxzB0_1, [], []), (rxzB0_2, [], [rxeB0_2_0]), (rxzB0_3, [], []), (rxzB0_4, [], [rxeB0_4_0])]
def rxUB0 (q : bx_HE) : Bool := Nat.beq (rx_zpc q.1) 27 || Nat.beq (rx_zpc q.1) 41
def rxYBB0 : bx_B := (rxV, rxNP, rxDmf, bx_mdH rxCB0.2.2.1)
set_option maxRecDepth 100000 in
theorem rxYcB0 : bx_chkH rxYBB0 rxM210 rxCB0 rxYB0 (rxUB0, fun cut z => rx_ex2 (rxCT rxYBB0 rxCnE) cut 30000 rxCB0.2.2.2.1 210 z) = true := by decide +kernel
def rxIB0 (S0 : Nat → Int → Int) (ws : List Int) (i : Nat) : bx_SP := fun S r => match i with | 0 => rxIB0_0 S0 ws S (r 8) | 1 => rxIB0_1 S0 ws S (r 8) | 2 => rxIB0_2 S0 ws S (r 8) (r 9) | 3 => rxIB0_3 S0 ws S (r 8) | 4 => rxIB0_4 S0 ws S (r 8) | _ => False
def rxmB0 (S0 : Nat → Int → Int) (ws : List Int) (i : Nat) (S : Nat → Int → Int) (r : Nat → Int) : Nat := match i with | 0 => rxmB0_0 S0 ws S (r 8) | 1 => rxmB0_1 S0 ws S (r 8) | 2 => rxmB0_2 S0 ws S (r 8) (r 9) | 3 => rxmB0_3 S0 ws S (r 8) | 4 => rxmB0_4 S0 ws S (r 8) | _ => 0
def rxPB0 (S0 : Nat → Int → Int) (ws : List Int) : Prop := True
def rxPSB0 (S0 : Nat → Int → Int) (ws : List Int) (S : Nat → Int → Int) (w : Option Int) : Prop := (S0 410 0 = 0 ∧ w = some (-2) ∧ bx_same rxL (bx_mdl rxC110.2.2.1) S0 S) ∨ (S0 410 0 ≠ 0 ∧ w = some 0 ∧ ∃ S1 : Nat → Int → Int, rxPSCF1x138 S0 [1, 138] S1 none ∧ S = bx_up S1 0 8 0)
theorem rxkB0_1 {S0 : Nat → Int → Int} {ws : List Int} {S : Nat → Int → Int} {ki : Int} (hP : rxPB0 S0 ws) (hin : bx_same rxL (bx_mdl rxCB0.2.2.1) S0 S) (I0 : bx_Inv rxL S) (hinv : rxIB0_1 S0 ws S ki) (l8 : 0 ≤ ki) (u8 : ki ≤ 0) : rxP110 S [0, (-2)] ∧ ∀ (S_p : Nat → Int → Int) (res : Int), (-6) ≤ res → res ≤ (-1) → rxPS110 S [0, (-2)] S_p (some res) → bx_Inv rxL S_p → bx_same rxL (bx_mdl rxC110.2.2.1) S S_p → rxIB0_2 S0 ws S_p ki res ∧ rxmB0_2 S0 ws S_p ki res < rxmB0_1 S0 ws S ki := by
  obtain ⟨rfl, h1⟩ := hinv
  refine ⟨trivial, fun S_p res _ _ hq _ hsm => ⟨⟨?_, h1, hsm⟩, by unfold rxmB0_1 rxmB0_2; omega⟩⟩
  obtain ⟨c, hc, hr⟩ := hq
  simp only [List.cons.injEq, and_true, true_and] at hc
  simp only [Option.some.injEq] at hr
  omega
theorem rxsB0_1 {X : (Nat → Int → Int) → Prop} {S0 : Nat → Int → Int} {ws : List Int} (hP : rxPB0 S0 ws) : rx_obK X S0 rxCB0.2.2.1 rxC110.2.2.1 (rxIB0 S0 ws) (rxmB0 S0 ws) 1 2 rxzB0_1 rxzB0_2 [.inr (3, (0, 0)), .inr (0, (0, (-2)))] (some 9) rxP110 rxPS110 := by
  intro S r hinv hXS I0 hin hs_ hf_
  have b_ := bx_bds_sat hs_
  have f_ := bx_fcl_ok hs_.1 hf_
  obtain ⟨⟨l8, u8⟩, -⟩ := b_
  have g := rxkB0_1 hP hin I0 hinv l8 u8
  have ea : List.map (bx_num r) [.inr (3, (0, 0)), .inr (0, (0, (-2)))] = [0, -2] := by
    simp only [List.map_cons, List.map_nil, bx_xv_ok hs_.1]
    rfl
  rw [ea]
  refine ⟨g.1, fun S_p w r_p hPS hX_p I1 hsm hr hw hs_p => ?_⟩
  have hw := hw _ rfl
  subst hw
  have b_p := hs_p.2.2 9 _ _ rfl
  have g2 := g.2 S_p (r_p 9) b_p.1 b_p.2 hPS I1 hsm
  show rxIB0_2 S0 ws S_p (r_p 8) (r_p 9) ∧ rxmB0_2 S0 ws S_p (r_p 8) (r_p 9) < _
  rw [hr 8 (by decide)]
  exact g2
theorem rxkB0_3 {S0 : Nat → Int → Int} {ws : List Int} {S : Nat → Int → Int} {ki : Int} (hP : rxPB0 S0 ws) (hin : bx_same rxL (bx_mdl rxCB0.2.2.1) S0 S) (I0 : bx_Inv rxL S) (hinv : rxIB0_3 S0 ws S ki) (l8 : 0 ≤ ki) (u8 : ki ≤ 0) : rxPCF1x138 S [1, 138] ∧ ∀ (S_p : Nat → Int → Int), rxPSCF1x138 S [1, 138] S_p none → bx_Inv rxL S_p → bx_same rxL (bx_mdl rxCCF1x138.2.2.1) S S_p → rxIB0_4 S0 ws S_p ki ∧ rxmB0_4 S0 ws S_p ki < rxmB0_3 S0 ws S ki := by
  obtain ⟨rfl, h1⟩ := hinv
  exact ⟨trivial, fun S_p hq _ hsm => ⟨⟨hq, h1⟩, by unfold rxmB0_3 rxmB0_4; omega⟩⟩
theorem rxsB0_3 {X : (Nat → Int → Int) → Prop} {S0 : Nat → Int → Int} {ws : List Int} (hP : rxPB0 S0 ws) : rx_obK X S0 rxCB0.2.2.1 rxCCF1x138.2.2.1 (rxIB0 S0 ws) (rxmB0 S0 ws) 3 4 rxzB0_3 rxzB0_4 [.inr (3, (0, 1)), .inr (3, (0, 138))] none rxPCF1x138 rxPSCF1x138 := by
  intro S r hinv hXS I0 hin hs_ hf_
  have b_ := bx_bds_sat hs_
  have f_ := bx_fcl_ok hs_.1 hf_
  obtain ⟨⟨l8, u8⟩, -⟩ := b_
  have g := rxkB0_3 hP hin I0 hinv l8 u8
  have ea : List.map (bx_num r) [.inr (3, (0, 1)), .inr (3, (0, 138))] = [1, 138] := by
    simp only [List.map_cons, List.map_nil, bx_xv_ok hs_.1]
    rfl
  rw [ea]
  refine ⟨g.1, fun S_p w r_p hPS hX_p I1 hsm hr hw hs_p => ?_⟩
  have hw : w = none := hPS.1
  subst hw
  have g2 := g.2 S_p hPS I1 hsm
  show rxIB0_4 S0 ws S_p (r_p 8) ∧ rxmB0_4 S0 ws S_p (r_p 8) < _
  rw [hr 8 (by decide)]
  exact g2
theorem rxcB0_0_0 {S0 : Nat → Int → Int} {ws : List Int} {S : Nat → Int → Int} {ki x9 : Int} (hP : rxPB0 S0 ws) (hin : bx_same rxL (bx_mdl rxCB0.2.2.1) S0 S) (I0 : bx_Inv rxL S) (hinv : rxIB0_0 S0 ws S ki) (l8 : 0 ≤ ki) (u8 : ki ≤ 0) (l9 : 0 ≤ x9) (u9 : x9 ≤ 0) (e0 : S 410 ki = x9) : (True) ∧ (True) ∧ rxIB0_1 S0 ws S ki ∧ rxmB0_1 S0 ws S ki < rxmB0_0 S0 ws S ki := by
  obtain ⟨rfl, hw⟩ := hinv
  have e : ki = 0 := by omega
  subst e
  exact ⟨trivial, trivial, ⟨rfl, by omega⟩, by unfold rxmB0_0 rxmB0_1; omega⟩
theorem rxgB0_0_0 {X : (Nat → Int → Int) → Prop} {S0 : Nat → Int → Int} {ws : List Int} (hP : rxPB0 S0 ws) : bx_obC rxL X S0 rxCB0.2.2.1 (rxIB0 S0 ws) (rxmB0 S0 ws) 0 rxzB0_0 rxoB0_0_0 := by
  intro S S_p r r_p hinv hX hin hsm_ hseg
  obtain ⟨I0, I1, h0_, hr_, b_, f_, d_⟩ := bx_cl (evs := [(0, (0, 410), (8, 0), .inr (0, (9, 0)))]) (fvs := []) hseg (by decide +kernel) (by decide +kernel)
  have hinv : rxIB0_0 S0 ws S (r 8) := hinv
  rw [← hr_ 8 (by decide)] at hinv
  obtain ⟨⟨l8, u8⟩, ⟨l9, u9⟩, -⟩ := b_
  obtain ⟨e0, w_⟩ := d_
  subst w_
  have g := rxcB0_0_0 hP hin I0 hinv l8 u8 l9 u9 e0
  refine ⟨bx_narP_ok (l := []) g.1, bx_nfP_ok h0_ (fvs := []) (by decide +kernel) g.2.1, ?_, ?_⟩
  · show rxIB0_1 S0 ws S_p (bx_val [(0, 0), (0, 0), (0, 0), (0, 0), (0, 0), (0, 0), (0, 0), (0, 0), (8, 0)] r_p 8)
    rw [bx_val_x (n := 8) (e := (8, 0)) h0_ rfl]
    exact g.2.2.1
  · show rxmB0_1 S0 ws S_p (bx_val [(0, 0), (0, 0), (0, 0), (0, 0), (0, 0), (0, 0), (0, 0), (0, 0), (8, 0)] r_p 8) < rxmB0_0 S0 ws S_p (r 8)
    rw [bx_val_x (n := 8) (e := (8, 0)) h0_ rfl, ← hr_ 8 (by decide)]
    exact g.2.2.2
theorem rxcB0_0_1 {S0 : Nat → Int → Int} {ws : List Int} {S : Nat → Int → Int} {ki x9 : Int} (hP : rxPB0 S0 ws) (hin : bx_same rxL (bx_mdl rxCB0.2.2.1) S0 S) (I0 : bx_Inv rxL S) (hinv : rxIB0_0 S0 ws S ki) (l8 : 0 ≤ ki) (u8 : ki ≤ 0) (l9 : 1 ≤ x9) (u9 : x9 ≤ 1) (f0 : x9 ≠ 0) (e0 : S 410 ki = x9) : (True) ∧ (True) ∧ rxIB0_3 S0 ws S ki ∧ rxmB0_3 S0 ws S ki < rxmB0_0 S0 ws S ki := by
  obtain ⟨rfl, hw⟩ := hinv
  have e : ki = 0 := by omega
  subst e
  exact ⟨trivial, trivial, ⟨rfl, by omega⟩, by unfold rxmB0_0 rxmB0_3; omega⟩
theorem rxgB0_0_1 {X : (Nat → Int → Int) → Prop} {S0 : Nat → Int → Int} {ws : List Int} (hP : rxPB0 S0 ws) : bx_obC rxL X S0 rxCB0.2.2.1 (rxIB0 S0 ws) (rxmB0 S0 ws) 0 rxzB0_0 rxoB0_0_1 := by
  intro S S_p r r_p hinv hX hin hsm_ hseg
  obtain ⟨I0, I1, h0_, hr_, b_, f_, d_⟩ := bx_cl (evs := [(0, (0, 410), (8, 0), .inr (0, (9, 0)))]) (fvs := [(3, (9, 0), (0, 0), (0, 0))]) hseg (by decide +kernel) (by decide +kernel)
  have hinv : rxIB0_0 S0 ws S (r 8) := hinv
  rw [← hr_ 8 (by decide)] at hinv
  obtain ⟨⟨l8, u8⟩, ⟨l9, u9⟩, -⟩ := b_
  obtain ⟨f0, -⟩ := f_
  obtain ⟨e0, w_⟩ := d_
  subst w_
  have g := rxcB0_0_1 hP hin I0 hinv l8 u8 l9 u9 f0 e0
  refine ⟨bx_narP_ok (l := []) g.1, bx_nfP_ok h0_ (fvs := []) (by decide +kernel) g.2.1, ?_, ?_⟩
  · show rxIB0_3 S0 ws S_p (bx_val [(0, 0), (0, 0), (0, 0), (0, 0), (0, 0), (0, 0), (0, 0), (0, 0), (8, 0)] r_p 8)
    rw [bx_val_x (n := 8) (e := (8, 0)) h0_ rfl]
    exact g.2.2.1
  · show rxmB0_3 S0 ws S_p (bx_val [(0, 0), (0, 0), (0, 0), (0, 0), (0, 0), (0, 0), (0, 0), (0, 0), (8, 0)] r_p 8) < rxmB0_0 S0 ws S_p (r 8)
    rw [bx_val_x (n := 8) (e := (8, 0)) h0_ rfl, ← hr_ 8 (by decide)]
    exact g.2.2.2
theorem rxdB0_2_0 {S0 : Nat → Int → Int} {ws : List Int} {S : Nat → Int → Int} {ki res : Int} (hP : rxPB0 S0 ws) (hin : bx_same rxL (bx_mdl rxCB0.2.2.1) S0 S) (hin2 : bx_same rxL (bx_mdl rxCB0.2.2.1) S S) (I0 : bx_Inv rxL S) (I1 : bx_Inv rxL S) (hinv : rxIB0_2 S0 ws S ki res) (l8 : 0 ≤ ki) (u8 : ki ≤ 0) (l9 : (-6) ≤ res) (u9 : res ≤ (-1)) : (True) ∧ rxPSB0 S0 ws S (some res) := by
  obtain ⟨h1, h2, h3⟩ := hinv
  exact ⟨trivial, Or.inl ⟨h2, congrArg some h1, h3⟩⟩
theorem rxfB0_2_0 {X : (Nat → Int → Int) → Prop} {S0 : Nat → Int → Int} {ws : List Int} (hP : rxPB0 S0 ws) : bx_obE rxL X S0 rxCB0.2.2.1 (rxIB0 S0 ws) (rxPSB0 S0 ws) 2 rxzB0_2 rxeB0_2_0 := by
  intro S S_p r r_p hinv hX hin hsm_ hseg
  obtain ⟨I0, I1, h0_, hr_, b_, f_, d_⟩ := bx_cl (evs := []) (fvs := []) hseg (by decide +kernel) (by decide +kernel)
  have hinv : rxIB0_2 S0 ws S (r 8) (r 9) := hinv
  rw [← hr_ 8 (by decide), ← hr_ 9 (by decide)] at hinv
  obtain ⟨⟨l8, u8⟩, ⟨l9, u9⟩, -⟩ := b_
  have w_ := d_
  subst w_
  have g := rxdB0_2_0 hP hin hsm_ I0 I1 hinv l8 u8 l9 u9
  refine ⟨bx_narP_ok (l := []) g.1, ?_⟩
  show rxPSB0 S0 ws S_p (some (bx_num r_p (.inr (0, (9, 0)))))
  rw [bx_xv_ok h0_]
  exact g.2
theorem rxdB0_4_0 {S0 : Nat → Int → Int} {ws : List Int} {S : Nat → Int → Int} {ki : Int} (hP : rxPB0 S0 ws) (hin : bx_same rxL (bx_mdl rxCB0.2.2.1) S0 S) (hin2 : bx_same rxL (bx_mdl rxCB0.2.2.1) S (bx_up S 0 8 0)) (I0 : bx_Inv rxL S) (I1 : bx_Inv rxL (bx_up S 0 8 0)) (hinv : rxIB0_4 S0 ws S ki) (l8 : 0 ≤ ki) (u8 : ki ≤ 0) : (True) ∧ rxPSB0 S0 ws (bx_up S 0 8 0) (some 0) := by
  obtain ⟨h1, h2⟩ := hinv
  exact ⟨trivial, Or.inr ⟨h2, rfl, S, h1, rfl⟩⟩
theorem rxfB0_4_0 {X : (Nat → Int → Int) → Prop} {S0 : Nat → Int → Int} {ws : List Int} (hP : rxPB0 S0 ws) : bx_obE rxL X S0 rxCB0.2.2.1 (rxIB0 S0 ws) (rxPSB0 S0 ws) 4 rxzB0_4 rxeB0_4_0 := by
  intro S S_p r r_p hinv hX hin hsm_ hseg
  obtain ⟨I0, I1, h0_, hr_, b_, f_, d_⟩ := bx_cl (evs := [(1, (0, 0), (0, 8), .inr (0, (0, 0)))]) (fvs := []) hseg (by decide +kernel) (by decide +kernel)
  have hinv : rxIB0_4 S0 ws S (r 8) := hinv
  rw [← hr_ 8 (by decide)] at hinv
  obtain ⟨⟨l8, u8⟩, -⟩ := b_
  obtain ⟨T0, w_, w0⟩ := d_
  subst w0
  subst w_
  have g := rxdB0_4_0 hP hin hsm_ I0 I1 hinv l8 u8
  refine ⟨bx_narP_ok (l := []) g.1, ?_⟩
  show rxPSB0 S0 ws (bx_up T0 0 (8) (0)) (some (bx_num r_p (.inr (0, (0, 0)))))
  rw [bx_xv_ok h0_]
  exact g.2
theorem rxgCB0 {X : (Nat → Int → Int) → Prop} {S0 : Nat → Int → Int} {ws : List Int} (hP : rxPB0 S0 ws) : bx_allI (fun i q => rxUB0 q = true ∨ bx_allP (fun o => bx_obC rxL X S0 rxCB0.2.2.1 (rxIB0 S0 ws) (rxmB0 S0 ws) i q.1 o) q.2.1) 0 rxYB0 := ⟨Or.inr ⟨rxgB0_0_0 hP, rxgB0_0_1 hP, trivial⟩, Or.inl rfl, Or.inr trivial, Or.inl rfl, Or.inr trivial, trivial⟩
theorem rxgEB0 {X : (Nat → Int → Int) → Prop} {S0 : Nat → Int → Int} {ws : List Int} (hP : rxPB0 S0 ws) : bx_allI (fun i q => rxUB0 q = true ∨ bx_allP (fun E => bx_obE rxL X S0 rxCB0.2.2.1 (rxIB0 S0 ws) (rxPSB0 S0 ws) i q.1 E) q.2.2) 0 rxYB0 := ⟨Or.inr trivial, Or.inl rfl, Or.inr ⟨rxfB0_2_0 hP, trivial⟩, Or.inl rfl, Or.inr ⟨rxfB0_4_0 hP, trivial⟩, trivial⟩
theorem rxuB0 {PX : State → Prop} {Dg : va_G} {A : Nat → Prop} {ad xa : Nat → Nat} {l : Launch} {X : (Nat → Int → Int) → Prop} (hPX : rx_PXOK rxNW A PX) (hX : ∀ S S1 : Nat → Int → Int, X S → bx_same rxL (bx_mdl rxCB0.2.2.1) S S1 → X S1) (hQ110 : bx_ConP rxG rxNW rxAO PX Dg rxL X vwCl A ad l rxM110 rxC110 rxP110 rxPS110) (hQCF1x138 : bx_ConP rxG rxNW rxAO PX Dg rxL X vwCl A ad l rxM154 rxCCF1x138 rxPCF1x138 rxPSCF1x138) {S0 : Nat → Int → Int} {ws : List Int} (hP : rxPB0 S0 ws) : ∀ (i : Nat) (q : bx_HE), rxYB0[i]? = some q → rxUB0 q = true → ∀ {p : Program} {e : Env} {R : Room} {s : State} {m : MethodId} {args : Array Value} {below : List Frame} {meth : Method} {c : Code} {Q : State → Prop} {H0 : Heap}, rx_Fr rxG rxNW rxAO PX p s m args meth c rxM210 → (∀ q, H0.size ≤ q → A q) → H0 = s.heap → rxM210.2.2.2.2.2.2.1 ≤ R.cells → rxM210.2.2.2.2.2.2.2 ≤ R.slots → rxCB0.2.2.2.1 ≤ R.frames → rxCB0.2.2.2.1 * 40 ≤ R.locals → bx_Step p l e R s m args below meth c Q Dg rxL X vwCl A xa H0 ad rxM210 rxYB0 (rxIB0 S0 ws) (rxmB0 S0 ws) S0 rxCB0.2.2.1 i q := by
  intro i q hq hus p e R s m args below meth c Q H0 hF hA hH0 hmc hms hd hdl
  match i, hq with
  | 0, hq =>
    cases hq
    exact absurd (show false = true from hus) Bool.false_ne_true
  | 1, hq =>
    cases hq
    exact rx_stepC (ins := .invokevirtual 110) (len := 3) (i_p := 2) (M_p := rxM110) (d := rxCB0.2.2.2.1) (as := [.inr (3, (0, 0)), .inr (0, (0, (-2)))]) (t := []) (ct := rxC110) hPX hF rfl hA hH0 hmc hms hd hdl (by decide +kernel) rfl rfl (by decide +kernel) (by decide +kernel) hQ110 (by decide +kernel) rfl (Or.inr ⟨_, _, _, 1, rfl, rfl, by omega, rfl, rfl, rfl⟩) (rxsB0_1 hP)
  | 2, hq =>
    cases hq
    exact absurd (show false = true from hus) Bool.false_ne_true
  | 3, hq =>
    cases hq
    exact rx_stepC (ins := .invokevirtual 431) (len := 3) (i_p := 4) (M_p := rxM154) (d := rxCB0.2.2.2.1) (as := [.inr (3, (0, 1)), .inr (3, (0, 138))]) (t := []) (ct := rxCCF1x138) hPX hF rfl hA hH0 hmc hms hd hdl (by decide +kernel) rfl rfl (by decide +kernel) (by decide +kernel) hQCF1x138 (by decide +kernel) rfl (Or.inl ⟨rfl, rfl, rfl⟩) (rxsB0_3 hP)
  | 4, hq =>
    cases hq
    exact absurd (show false = true from hus) Bool.false_ne_true
  | n + 5, hq => cases hq
theorem rxQB0 {PX : State → Prop} {Dg : va_G} {A : Nat → Prop} {ad xa : Nat → Nat} {l : Launch} {X : (Nat → Int → Int) → Prop} (hPX : rx_PXOK rxNW A PX) (hsl : ∀ s : State, PX s → ∀ o idx n : Nat, rxSl o idx = some n → ∃ tx : String, vk_R (rxNm o) idx tx (ad n) s)
    (hX : ∀ S S_p : Nat → Int → Int, X S → bx_same rxL (bx_mdl rxCB0.2.2.1) S S_p → X S_p)
    (ih : ∀ (j2 : Nat) (ct2 : bx_Ct) (M2 : rx_Mt), ct2 ∈ rxCnE j2 → ct2.2.2.2.1 + 1 ≤ rxCB0.2.2.2.1 → rxT.2.2.2.2.2 j2 = some M2 → bx_Con rxG rxNW rxAO PX Dg rxL X vwCl A ad l M2 ct2) (hQ110 : bx_ConP rxG rxNW rxAO PX Dg rxL X vwCl A ad l rxM110 rxC110 rxP110 rxPS110) (hQCF1x138 : bx_ConP rxG rxNW rxAO PX Dg rxL X vwCl A ad l rxM154 rxCCF1x138 rxPCF1x138 rxPSCF1x138) : bx_ConP rxG rxNW rxAO PX Dg rxL X vwCl A ad l rxM210 rxCB0 rxPB0 rxPSB0 :=
  rxQof (xa := xa) (Cn := rxCnE) (f := 30000) (j := 210) (tab := rxYB0) (us := rxUB0) hPX hsl hX ih rfl rxYcB0 rxIB0 rxmB0
    (fun S0 ws r I0 I ht0 ht as he he1 hX0 hI0 hP hs ha => by
      have e := he.symm.trans (show bx_ent0 rxNP rxCB0.1 bx_I0 [] = some ([(0, 0), (0, 0), (0, 0), (0, 0), (0, 0), (0, 0), (0, 0), (0, 0), (0, 0)], [], [.inr (3, (0, 0)), .inr (0, (8, 0))]) from rfl)
      cases e
      subst ha
      have h0 : r 0 = 0 := hs.1
      show rxIB0_0 S0 _ S0 (r 8)
      refine ⟨rfl, ?_⟩
      simp only [List.map_cons, List.map_nil, bx_xv_ok h0]
      rfl)
    (fun S0 ws hP => rxuB0 (xa := xa) hPX hX hQ110 hQCF1x138 hP) (fun S0 ws hP => rxgCB0 hP) (fun S0 ws hP => rxgEB0 hP)
