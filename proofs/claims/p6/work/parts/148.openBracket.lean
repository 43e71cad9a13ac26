/-! CONTRACT BY HAND, by program (wip/sim/genhand.py): DeadUnderstudiesModel.openBracket -/
def rxCOB : bx_Ct := ([(3, (1, 480, 0)), (0, (0, 31, 32))], none, [(12, 9), (12, 10), (12, 11), (12, 12), (12, 13), (12, 14), (12, 24), (12, 25), (1070, 0), (1071, 0)], 3, [])
def rxIOB_0 (S0 : Nat → Int → Int) (ws : List Int) (S : Nat → Int → Int) (op : Int) : Prop := S = S0 ∧ ws = [480, op]
def rxmOB_0 (S0 : Nat → Int → Int) (ws : List Int) (S : Nat → Int → Int) (op : Int) : Nat := 100
def rxzOB_0 : rx_Z := ([(0, 0), (0, 0), (0, 0), (0, 0), (0, 0), (0, 0), (0, 0), (0, 0), (31, 32)], [], [], 0, 0, 0, [(0, .inr (3, (0, 480))), (1, .inr (0, (8, 0)))], [])
def rxIOB_1 (S0 : Nat → Int → Int) (ws : List Int) (S : Nat → Int → Int) (op is : Int) : Prop := S = S0 ∧ ws = [480, op] ∧ (is = 1 → S 480 25 < 8)
def rxmOB_1 (S0 : Nat → Int → Int) (ws : List Int) (S : Nat → Int → Int) (op is : Int) : Nat := 90
def rxzOB_1 : rx_Z := ([(0, 0), (0, 0), (0, 0), (0, 0), (0, 0), (0, 0), (0, 0), (0, 0), (31, 32), (0, 1)], [], [], 0, 0, 15, [(0, .inr (3, (0, 480))), (1, .inr (0, (8, 0)))], [.inr (0, (9, 0)), .inr (3, (0, 480))])
def rxIOB_2 (S0 : Nat → Int → Int) (ws : List Int) (S : Nat → Int → Int) (op is : Int) : Prop := ws = [480, op] ∧ rxTk S ∧ rxSm S0 S ∧ (S 480 14 = 0 → S 480 25 < 8 ∧ S0 480 10 ≤ S 480 9) ∧ (S 480 14 ≠ 0 → S 480 9 = S0 480 9)
def rxmOB_2 (S0 : Nat → Int → Int) (ws : List Int) (S : Nat → Int → Int) (op is : Int) : Nat := 80
def rxzOB_2 : rx_Z := ([(0, 0), (0, 0), (0, 0), (0, 0), (0, 0), (0, 0), (0, 0), (0, 0), (31, 32), (0, 1)], [], [], 0, 0, 18, [(0, .inr (3, (0, 480))), (1, .inr (0, (8, 0)))], [])
def rxIOB_3 (S0 : Nat → Int → Int) (ws : List Int) (S : Nat → Int → Int) (op q : Int) : Prop := ws = [480, op] ∧ q = S 480 25 ∧ rxTk S ∧ rxSm S0 S ∧ S 480 14 = 0 ∧ S0 480 10 ≤ S 480 9
def rxmOB_3 (S0 : Nat → Int → Int) (ws : List Int) (S : Nat → Int → Int) (op q : Int) : Nat := 70
def rxzOB_3 : rx_Z := ([(0, 0), (0, 0), (0, 0), (0, 0), (0, 0), (0, 0), (0, 0), (0, 0), (31, 32), (0, 7)], [], [], 0, 0, 30, [(0, .inr (3, (0, 480))), (1, .inr (0, (8, 0)))], [.inr (0, (9, 0)), .inr (3, (0, 480))])
def rxIOB_4 (S0 : Nat → Int → Int) (ws : List Int) (S : Nat → Int → Int) (op op2 : Int) : Prop := op2 = op ∧ ws = [480, op] ∧ ∃ S1 : Nat → Int → Int, S = bx_up S1 480 25 (S1 480 25 + 1) ∧ rxTk S1 ∧ rxSm S0 S1 ∧ S1 480 14 = 0 ∧ S0 480 10 ≤ S1 480 9
def rxmOB_4 (S0 : Nat → Int → Int) (ws : List Int) (S : Nat → Int → Int) (op op2 : Int) : Nat := 60
def rxzOB_4 : rx_Z := ([(0, 0), (0, 0), (0, 0), (0, 0), (0, 0), (0, 0), (0, 0), (0, 0), (31, 32), (31, 32)], [], [], 0, 0, 38, [(0, .inr (3, (0, 480))), (1, .inr (0, (8, 0)))], [.inr (0, (0, 0)), .inr (0, (9, 0)), .inr (3, (0, 480))])
def rxIOB_5 (S0 : Nat → Int → Int) (ws : List Int) (S : Nat → Int → Int) (op op2 : Int) : Prop := rxTk S ∧ rxPz S ∧ 0 ≤ S 480 24 ∧ S 480 18 + S 480 24 ≤ S 480 9 ∧ (S 480 14 = 0 → rxEf S0 S 0 0 ∧ (S0 480 9 < S 480 9 ∧ (op ≠ 32 → rxNoSq S0 → rxNoSq S))) ∧ ws = [480, op]
def rxmOB_5 (S0 : Nat → Int → Int) (ws : List Int) (S : Nat → Int → Int) (op op2 : Int) : Nat := 50
def rxzOB_5 : rx_Z := ([(0, 0), (0, 0), (0, 0), (0, 0), (0, 0), (0, 0), (0, 0), (0, 0), (31, 32), (31, 32)], [], [], 0, 0, 41, [(0, .inr (3, (0, 480))), (1, .inr (0, (8, 0)))], [])
def rxoOB_0_0 : bx_HO := (([(0, 0), (0, 0), (0, 0), (0, 0), (0, 0), (0, 0), (0, 0), (0, 0), (31, 32), (0, 7)], [], [(((0, 0), 1851192626986356802442008000046409524956554626371924516682072064000000), .inr (0, (9, 0))), (((0, 480), 25), .inr (0, (9, 0)))], 0, 0, 15, [(0, .inr (3, (0, 480))), (1, .inr (0, (8, 0)))], [.inr (0, (0, 1)), .inr (3, (0, 480))]), [], [], [(0, 0), (0, 0), (0, 0), (0, 0), (0, 0), (0, 0), (0, 0), (0, 0), (8, 0), (0, 1)], 1)
def rxoOB_0_1 : bx_HO := (([(0, 0), (0, 0), (0, 0), (0, 0), (0, 0), (0, 0), (0, 0), (0, 0), (31, 32), (8, 8)], [], [(((0, 0), 1851192626986356802442008000046409524956554626371924516682072064000000), .inr (0, (9, 0))), (((0, 480), 25), .inr (0, (9, 0)))], 0, 0, 15, [(0, .inr (3, (0, 480))), (1, .inr (0, (8, 0)))], [.inr (0, (0, 0)), .inr (3, (0, 480))]), [], [], [(0, 0), (0, 0), (0, 0), (0, 0), (0, 0), (0, 0), (0, 0), (0, 0), (8, 0), (0, 0)], 1)
def rxoOB_2_0 : bx_HO := (([(0, 0), (0, 0), (0, 0), (0, 0), (0, 0), (0, 0), (0, 0), (0, 0), (31, 32), (0, 1), (0, 0), (0, 8)], [], [(((0, 0), 1851192626986356802442008000046409524956554626371924516682072064000000), .inr (0, (11, 0))), (((0, 480), 25), .inr (0, (11, 0))), (((0, 0), 1851192626986356800234234225391877833944518517379736727590010880000000), .inr (0, (10, 0))), (((0, 480), 14), .inr (0, (10, 0)))], 0, 0, 30, [(0, .inr (3, (0, 480))), (1, .inr (0, (8, 0)))], [.inr (0, (11, 0)), .inr (3, (0, 480))]), [(11, 0, 7)], [], [(0, 0), (0, 0), (0, 0), (0, 0), (0, 0), (0, 0), (0, 0), (0, 0), (8, 0), (11, 0)], 3)
def rxeOB_2_0 : rx_End × List (Nat × Int × Int) := (([(0, 0), (0, 0), (0, 0), (0, 0), (0, 0), (0, 0), (0, 0), (0, 0), (31, 32), (0, 1), (1, 1)], [(3, (10, 0), (0, 0))], [(((0, 0), 1851192626986356800234234225391877833944518517379736727590010880000000), .inr (0, (10, 0))), (((0, 480), 14), .inr (0, (10, 0)))], none), [])
def rxoOB_3_0 : bx_HO := (([(0, 0), (0, 0), (0, 0), (0, 0), (0, 0), (0, 0), (0, 0), (0, 0), (31, 32), (0, 7)], [], [(((0, 0), 1851192626986356802442008000046409524956554626371924516682072067000000), .inr (0, (9, 1))), (((0, 480), 25), .inr (0, (9, 1)))], 0, 0, 38, [(0, .inr (3, (0, 480))), (1, .inr (0, (8, 0)))], [.inr (0, (0, 0)), .inr (0, (8, 0)), .inr (3, (0, 480))]), [], [], [(0, 0), (0, 0), (0, 0), (0, 0), (0, 0), (0, 0), (0, 0), (0, 0), (8, 0), (8, 0)], 4)
def rxeOB_5_0 : rx_End × List (Nat × Int × Int) := (([(0, 0), (0, 0), (0, 0), (0, 0), (0, 0), (0, 0), (0, 0), (0, 0), (31, 32), (31, 32)], [], [], none), [])
def rxYOB : List bx_HE := [(rxzOB_0, [rxoOB_0_0, rxoOB_0_1], []), (rxzOB_1, [], []), (rxzOB_2, [rxoOB_2_0], [rxeOB_2_0]), (rxzOB_3, [rxoOB_3_0], []), (rxzOB_4, [], []), (rxzOB_5, [], [rxeOB_5_0])]
def rxUOB (q : bx_HE) : Bool := Nat.beq (rx_zpc q.1) 15 || Nat.beq (rx_zpc q.1) 38
def rxYBOB : bx_B := (rxV, rxNP, rxDmf, bx_mdH rxCOB.2.2.1)
set_option maxRecDepth 100000 in
theorem rxYcOB : bx_chkH rxYBOB rxM270 rxCOB rxYOB (rxUOB, fun cut z => rx_ex2 (rxCT rxYBOB rxCnE) cut 30000 rxCOB.2.2.2.1 270 z) = true := by decide +kernel
def rxIOB (S0 : Nat → Int → Int) (ws : List Int) (i : Nat) : bx_SP := fun S r => match i with | 0 => rxIOB_0 S0 ws S (r 8) | 1 => rxIOB_1 S0 ws S (r 8) (r 9) | 2 => rxIOB_2 S0 ws S (r 8) (r 9) | 3 => rxIOB_3 S0 ws S (r 8) (r 9) | 4 => rxIOB_4 S0 ws S (r 8) (r 9) | 5 => rxIOB_5 S0 ws S (r 8) (r 9) | _ => False
def rxmOB (S0 : Nat → Int → Int) (ws : List Int) (i : Nat) (S : Nat → Int → Int) (r : Nat → Int) : Nat := match i with | 0 => rxmOB_0 S0 ws S (r 8) | 1 => rxmOB_1 S0 ws S (r 8) (r 9) | 2 => rxmOB_2 S0 ws S (r 8) (r 9) | 3 => rxmOB_3 S0 ws S (r 8) (r 9) | 4 => rxmOB_4 S0 ws S (r 8) (r 9) | 5 => rxmOB_5 S0 ws S (r 8) (r 9) | _ => 0
def rxPOB (S0 : Nat → Int → Int) (ws : List Int) : Prop := rxPt S0 ∧ S0 480 14 = 0 ∧ S0 480 11 ≠ 0 ∧ ∃ op : Int, ws = [480, op] ∧ (op = 32 ∨ rxNoSq S0)
def rxPSOB (S0 : Nat → Int → Int) (ws : List Int) (S : Nat → Int → Int) (w : Option Int) : Prop := w = none ∧ ∃ op : Int, ws = [480, op] ∧ rxTk S ∧ rxPz S ∧ 0 ≤ S 480 24 ∧ S 480 18 + S 480 24 ≤ S 480 9 ∧ (S 480 14 = 0 → rxEf S0 S 0 0 ∧ (S0 480 9 < S 480 9 ∧ (op ≠ 32 → rxNoSq S0 → rxNoSq S)))
theorem rxkOB_1 {S0 : Nat → Int → Int} {ws : List Int} {S : Nat → Int → Int} {op is : Int} (hP : rxPOB S0 ws) (hin : bx_same rxL (bx_mdl rxCOB.2.2.1) S0 S) (I0 : bx_Inv rxL S) (hinv : rxIOB_1 S0 ws S op is) (l8 : 31 ≤ op) (u8 : op ≤ 32) (l9 : 0 ≤ is) (u9 : is ≤ 1) : rxPMU S [480, is] ∧ ∀ (S_p : Nat → Int → Int), rxPSMU S [480, is] S_p none → bx_Inv rxL S_p → bx_same rxL (bx_mdl rxCMU.2.2.1) S S_p → rxIOB_2 S0 ws S_p op is ∧ rxmOB_2 S0 ws S_p op is < rxmOB_1 S0 ws S op is := by
  obtain ⟨rfl, hw, h8⟩ := hinv
  obtain ⟨⟨p1, p2, p3, p4⟩, p5, p6, p7⟩ := hP
  refine ⟨p1, fun S_p hq I1 hsm => ⟨⟨hw, hq.2.1, rxSm_of hsm (by decide +kernel), fun g => ?_, fun g => ?_⟩, by unfold rxmOB_1 rxmOB_2; omega⟩⟩
  · obtain ⟨-, -, is', hw2, hc⟩ := hq
    have he : is = is' := Option.some.inj (congrArg (fun l => l[1]?) hw2)
    have hs := rxSm_of hsm (by decide +kernel)
    have h25 := hs.2.2.1
    rcases hc with ⟨c1, c2, c3, c4⟩ | ⟨c1, c2, c3⟩
    · exact ⟨by rw [h25]; exact h8 (by omega), c4⟩
    · omega
  · obtain ⟨-, -, is', hw2, hc⟩ := hq
    rcases hc with ⟨c1, c2, c3, c4⟩ | ⟨c1, c2, c3, -⟩
    · omega
    · exact c3
theorem rxsOB_1 {X : (Nat → Int → Int) → Prop} {S0 : Nat → Int → Int} {ws : List Int} (hP : rxPOB S0 ws) : rx_obK X S0 rxCOB.2.2.1 rxCMU.2.2.1 (rxIOB S0 ws) (rxmOB S0 ws) 1 2 rxzOB_1 rxzOB_2 [.inr (3, (0, 480)), .inr (0, (9, 0))] none rxPMU rxPSMU := by
  intro S r hinv hXS I0 hin hs_ hf_
  have b_ := bx_bds_sat hs_
  have f_ := bx_fcl_ok hs_.1 hf_
  obtain ⟨⟨l8, u8⟩, ⟨l9, u9⟩, -⟩ := b_
  have g := rxkOB_1 hP hin I0 hinv l8 u8 l9 u9
  have ea : List.map (bx_num r) [.inr (3, (0, 480)), .inr (0, (9, 0))] = [480, (r 9)] := by
    simp only [List.map_cons, List.map_nil, bx_xv_ok hs_.1]
    rfl
  rw [ea]
  refine ⟨g.1, fun S_p w r_p hPS hX_p I1 hsm hr hw hs_p => ?_⟩
  have hw : w = none := hPS.1
  subst hw
  have g2 := g.2 S_p hPS I1 hsm
  show rxIOB_2 S0 ws S_p (r_p 8) (r_p 9) ∧ rxmOB_2 S0 ws S_p (r_p 8) (r_p 9) < _
  rw [hr 8 (by decide), hr 9 (by decide)]
  exact g2
theorem rxkOB_4 {S0 : Nat → Int → Int} {ws : List Int} {S : Nat → Int → Int} {op op2 : Int} (hP : rxPOB S0 ws) (hin : bx_same rxL (bx_mdl rxCOB.2.2.1) S0 S) (I0 : bx_Inv rxL S) (hinv : rxIOB_4 S0 ws S op op2) (l8 : 31 ≤ op) (u8 : op ≤ 32) (l9 : 31 ≤ op2) (u9 : op2 ≤ 32) : rxPPU S [480, op2, 0] ∧ ∀ (S_p : Nat → Int → Int), rxPSPU S [480, op2, 0] S_p none → bx_Inv rxL S_p → bx_same rxL (bx_mdl rxCPU.2.2.1) S S_p → rxIOB_5 S0 ws S_p op op2 ∧ rxmOB_5 S0 ws S_p op op2 < rxmOB_4 S0 ws S op op2 := by
  obtain ⟨rfl, hw, S1, rfl, h1, h2, h3, h4⟩ := hinv
  obtain ⟨⟨p1, p2, p3, p4⟩, p5, p6, op', hw2, p7⟩ := hP
  have he : op2 = op' := Option.some.inj (congrArg (fun l => l[1]?) (hw.symm.trans hw2))
  subst he
  have b24 : 0 ≤ S1 480 24 ∧ S1 480 24 ≤ 400 := by have := rxBox24 I0; simpa [bx_up] using this
  have b18 : 0 ≤ S1 480 18 ∧ S1 480 18 ≤ 400 := by have := rxBox18 I0; simpa [bx_up] using this
  have hz := h2.pz p2 (by have := h2.2.1; omega)
  have e24 : bx_up S1 480 25 (S1 480 25 + 1) 480 24 = S1 480 24 := by simp [bx_up]
  have e8 : bx_up S1 480 25 (S1 480 25 + 1) 480 8 = S1 480 8 := by simp [bx_up]
  have b8 := rxBox8 I0
  have tk := h1.2.1
  have tk2 := h1.2.2.1
  have tk0 := p1.2.2.2.1 p6
  have k18 := h2.1
  have k24 := h2.2.1
  refine ⟨by show bx_up S1 480 25 (S1 480 25 + 1) 480 24 ≤ 399; omega, fun S_p hq I1 hsm => ?_⟩
  obtain ⟨-, o', a', hw3, rfl⟩ := hq
  have ho : op2 = o' := Option.some.inj (congrArg (fun l => l[1]?) hw3)
  have ha : (0 : Int) = a' := Option.some.inj (congrArg (fun l => l[2]?) hw3)
  subst ho
  subst ha
  have f9 : rxPuE (bx_up S1 480 25 (S1 480 25 + 1)) op2 0 480 9 = S1 480 9 := by unfold rxPuE; simp [bx_up]
  have f18 : rxPuE (bx_up S1 480 25 (S1 480 25 + 1)) op2 0 480 18 = S1 480 18 := by unfold rxPuE; simp [bx_up]
  have f24 : rxPuE (bx_up S1 480 25 (S1 480 25 + 1)) op2 0 480 24 = S1 480 24 + 1 := by unfold rxPuE; simp [bx_up]
  have hTk : rxTk (rxPuE (bx_up S1 480 25 (S1 480 25 + 1)) op2 0) := by
    unfold rxTk rxPuE
    simp [bx_up]
    unfold rxTk at h1
    omega
  have hsq : op2 = 32 ∨ rxNoSq S1 := p7.imp id fun q => q.sm h2 (by omega)
  have hz2 := rxPuB_pz (op := op2) hz (by omega) (by omega) hsq
  refine ⟨⟨hTk, hz2, by show 0 ≤ rxPuE (bx_up S1 480 25 (S1 480 25 + 1)) op2 0 480 24; omega, by show rxPuE (bx_up S1 480 25 (S1 480 25 + 1)) op2 0 480 18 + rxPuE (bx_up S1 480 25 (S1 480 25 + 1)) op2 0 480 24 ≤ rxPuE (bx_up S1 480 25 (S1 480 25 + 1)) op2 0 480 9; omega, fun _ => ⟨(h2.ef (by omega) (by omega) 0).tr (rxPuB_ef (by omega) (by omega)), by show S0 480 9 < rxPuE (bx_up S1 480 25 (S1 480 25 + 1)) op2 0 480 9; omega, fun q1 q2 => ?_⟩, hw⟩, by unfold rxmOB_4 rxmOB_5; omega⟩
  refine rxPuE_sq (S := bx_up S1 480 25 (S1 480 25 + 1)) (fun i a b => ?_) q1
  rw [show bx_up S1 480 25 (S1 480 25 + 1) 489 i = S1 489 i by simp [bx_up]]
  rw [e24] at b
  exact q2.sm h2 (by omega) i a b
theorem rxsOB_4 {X : (Nat → Int → Int) → Prop} {S0 : Nat → Int → Int} {ws : List Int} (hP : rxPOB S0 ws) : rx_obK X S0 rxCOB.2.2.1 rxCPU.2.2.1 (rxIOB S0 ws) (rxmOB S0 ws) 4 5 rxzOB_4 rxzOB_5 [.inr (3, (0, 480)), .inr (0, (9, 0)), .inr (0, (0, 0))] none rxPPU rxPSPU := by
  intro S r hinv hXS I0 hin hs_ hf_
  have b_ := bx_bds_sat hs_
  have f_ := bx_fcl_ok hs_.1 hf_
  obtain ⟨⟨l8, u8⟩, ⟨l9, u9⟩, -⟩ := b_
  have g := rxkOB_4 hP hin I0 hinv l8 u8 l9 u9
  have ea : List.map (bx_num r) [.inr (3, (0, 480)), .inr (0, (9, 0)), .inr (0, (0, 0))] = [480, (r 9), 0] := by
    simp only [List.map_cons, List.map_nil, bx_xv_ok hs_.1]
    rfl
  rw [ea]
  refine ⟨g.1, fun S_p w r_p hPS hX_p I1 hsm hr hw hs_p => ?_⟩
  have hw : w = none := hPS.1
  subst hw
  have g2 := g.2 S_p hPS I1 hsm
  show rxIOB_5 S0 ws S_p (r_p 8) (r_p 9) ∧ rxmOB_5 S0 ws S_p (r_p 8) (r_p 9) < _
  rw [hr 8 (by decide), hr 9 (by decide)]
  exact g2
theorem rxcOB_0_0 {S0 : Nat → Int → Int} {ws : List Int} {S : Nat → Int → Int} {op x9 : Int} (hP : rxPOB S0 ws) (hin : bx_same rxL (bx_mdl rxCOB.2.2.1) S0 S) (I0 : bx_Inv rxL S) (hinv : rxIOB_0 S0 ws S op) (l8 : 31 ≤ op) (u8 : op ≤ 32) (l9 : 0 ≤ x9) (u9 : x9 ≤ 7) (e0 : S 480 25 = x9) : (True) ∧ (True) ∧ rxIOB_1 S0 ws S op 1 ∧ rxmOB_1 S0 ws S op 1 < rxmOB_0 S0 ws S op := by
  obtain ⟨rfl, hw⟩ := hinv
  exact ⟨trivial, trivial, ⟨rfl, hw, fun q => by omega⟩, by unfold rxmOB_0 rxmOB_1; omega⟩
theorem rxgOB_0_0 {X : (Nat → Int → Int) → Prop} {S0 : Nat → Int → Int} {ws : List Int} (hP : rxPOB S0 ws) : bx_obC rxL X S0 rxCOB.2.2.1 (rxIOB S0 ws) (rxmOB S0 ws) 0 rxzOB_0 rxoOB_0_0 := by
  intro S S_p r r_p hinv hX hin hsm_ hseg
  obtain ⟨I0, I1, h0_, hr_, b_, f_, d_⟩ := bx_cl (evs := [(0, (0, 480), (0, 25), .inr (0, (9, 0)))]) (fvs := []) hseg (by decide +kernel) (by decide +kernel)
  have hinv : rxIOB_0 S0 ws S (r 8) := hinv
  rw [← hr_ 8 (by decide)] at hinv
  obtain ⟨⟨l8, u8⟩, ⟨l9, u9⟩, -⟩ := b_
  obtain ⟨e0, w_⟩ := d_
  subst w_
  have g := rxcOB_0_0 hP hin I0 hinv l8 u8 l9 u9 e0
  refine ⟨bx_narP_ok (l := []) g.1, bx_nfP_ok h0_ (fvs := []) (by decide +kernel) g.2.1, ?_, ?_⟩
  · show rxIOB_1 S0 ws S_p (bx_val [(0, 0), (0, 0), (0, 0), (0, 0), (0, 0), (0, 0), (0, 0), (0, 0), (8, 0), (0, 1)] r_p 8) (bx_val [(0, 0), (0, 0), (0, 0), (0, 0), (0, 0), (0, 0), (0, 0), (0, 0), (8, 0), (0, 1)] r_p 9)
    rw [bx_val_x (n := 8) (e := (8, 0)) h0_ rfl, bx_val_x (n := 9) (e := (0, 1)) h0_ rfl]
    exact g.2.2.1
  · show rxmOB_1 S0 ws S_p (bx_val [(0, 0), (0, 0), (0, 0), (0, 0), (0, 0), (0, 0), (0, 0), (0, 0), (8, 0), (0, 1)] r_p 8) (bx_val [(0, 0), (0, 0), (0, 0), (0, 0), (0, 0), (0, 0), (0, 0), (0, 0), (8, 0), (0, 1)] r_p 9) < rxmOB_0 S0 ws S_p (r 8)
    rw [bx_val_x (n := 8) (e := (8, 0)) h0_ rfl, bx_val_x (n := 9) (e := (0, 1)) h0_ rfl, ← hr_ 8 (by decide)]
    exact g.2.2.2
theorem rxcOB_0_1 {S0 : Nat → Int → Int} {ws : List Int} {S : Nat → Int → Int} {op x9 : Int} (hP : rxPOB S0 ws) (hin : bx_same rxL (bx_mdl rxCOB.2.2.1) S0 S) (I0 : bx_Inv rxL S) (hinv : rxIOB_0 S0 ws S op) (l8 : 31 ≤ op) (u8 : op ≤ 32) (l9 : 8 ≤ x9) (u9 : x9 ≤ 8) (e0 : S 480 25 = x9) : (True) ∧ (True) ∧ rxIOB_1 S0 ws S op 0 ∧ rxmOB_1 S0 ws S op 0 < rxmOB_0 S0 ws S op := by
  obtain ⟨rfl, hw⟩ := hinv
  exact ⟨trivial, trivial, ⟨rfl, hw, fun q => by omega⟩, by unfold rxmOB_0 rxmOB_1; omega⟩
theorem rxgOB_0_1 {X : (Nat → Int → Int) → Prop} {S0 : Nat → Int → Int} {ws : List Int} (hP : rxPOB S0 ws) : bx_obC rxL X S0 rxCOB.2.2.1 (rxIOB S0 ws) (rxmOB S0 ws) 0 rxzOB_0 rxoOB_0_1 := by
  intro S S_p r r_p hinv hX hin hsm_ hseg
  obtain ⟨I0, I1, h0_, hr_, b_, f_, d_⟩ := bx_cl (evs := [(0, (0, 480), (0, 25), .inr (0, (9, 0)))]) (fvs := []) hseg (by decide +kernel) (by decide +kernel)
  have hinv : rxIOB_0 S0 ws S (r 8) := hinv
  rw [← hr_ 8 (by decide)] at hinv
  obtain ⟨⟨l8, u8⟩, ⟨l9, u9⟩, -⟩ := b_
  obtain ⟨e0, w_⟩ := d_
  subst w_
  have g := rxcOB_0_1 hP hin I0 hinv l8 u8 l9 u9 e0
  refine ⟨bx_narP_ok (l := []) g.1, bx_nfP_ok h0_ (fvs := []) (by decide +kernel) g.2.1, ?_, ?_⟩
  · show rxIOB_1 S0 ws S_p (bx_val [(0, 0), (0, 0), (0, 0), (0, 0), (0, 0), (0, 0), (0, 0), (0, 0), (8, 0), (0, 0)] r_p 8) (bx_val [(0, 0), (0, 0), (0, 0), (0, 0), (0, 0), (0, 0), (0, 0), (0, 0), (8, 0), (0, 0)] r_p 9)
    rw [bx_val_x (n := 8) (e := (8, 0)) h0_ rfl, bx_val_x (n := 9) (e := (0, 0)) h0_ rfl]
    exact g.2.2.1
  · show rxmOB_1 S0 ws S_p (bx_val [(0, 0), (0, 0), (0, 0), (0, 0), (0, 0), (0, 0), (0, 0), (0, 0), (8, 0), (0, 0)] r_p 8) (bx_val [(0, 0), (0, 0), (0, 0), (0, 0), (0, 0), (0, 0), (0, 0), (0, 0), (8, 0), (0, 0)] r_p 9) < rxmOB_0 S0 ws S_p (r 8)
    rw [bx_val_x (n := 8) (e := (8, 0)) h0_ rfl, bx_val_x (n := 9) (e := (0, 0)) h0_ rfl, ← hr_ 8 (by decide)]
    exact g.2.2.2
theorem rxcOB_2_0 {S0 : Nat → Int → Int} {ws : List Int} {S : Nat → Int → Int} {op is x10 x11 : Int} (hP : rxPOB S0 ws) (hin : bx_same rxL (bx_mdl rxCOB.2.2.1) S0 S) (I0 : bx_Inv rxL S) (hinv : rxIOB_2 S0 ws S op is) (l8 : 31 ≤ op) (u8 : op ≤ 32) (l9 : 0 ≤ is) (u9 : is ≤ 1) (l10 : 0 ≤ x10) (u10 : x10 ≤ 0) (l11 : 0 ≤ x11) (u11 : x11 ≤ 8) (e1 : S 480 14 = x10) (e0 : S 480 25 = x11) : ((0 ≤ x11 ∧ x11 ≤ 7) ∧ True) ∧ (True) ∧ rxIOB_3 S0 ws S op x11 ∧ rxmOB_3 S0 ws S op x11 < rxmOB_2 S0 ws S op is := by
  obtain ⟨hw, h1, h2, h3, h4⟩ := hinv
  have h5 := h3 (by omega)
  exact ⟨⟨by omega, trivial⟩, trivial, ⟨hw, by omega, h1, h2, by omega, h5.2⟩, by unfold rxmOB_2 rxmOB_3; omega⟩
theorem rxgOB_2_0 {X : (Nat → Int → Int) → Prop} {S0 : Nat → Int → Int} {ws : List Int} (hP : rxPOB S0 ws) : bx_obC rxL X S0 rxCOB.2.2.1 (rxIOB S0 ws) (rxmOB S0 ws) 2 rxzOB_2 rxoOB_2_0 := by
  intro S S_p r r_p hinv hX hin hsm_ hseg
  obtain ⟨I0, I1, h0_, hr_, b_, f_, d_⟩ := bx_cl (evs := [(0, (0, 480), (0, 25), .inr (0, (11, 0))), (0, (0, 480), (0, 14), .inr (0, (10, 0)))]) (fvs := []) hseg (by decide +kernel) (by decide +kernel)
  have hinv : rxIOB_2 S0 ws S (r 8) (r 9) := hinv
  rw [← hr_ 8 (by decide), ← hr_ 9 (by decide)] at hinv
  obtain ⟨⟨l8, u8⟩, ⟨l9, u9⟩, ⟨l10, u10⟩, ⟨l11, u11⟩, -⟩ := b_
  obtain ⟨e0, ⟨e1, w_⟩⟩ := d_
  subst w_
  have g := rxcOB_2_0 hP hin I0 hinv l8 u8 l9 u9 l10 u10 l11 u11 e1 e0
  refine ⟨bx_narP_ok (l := [(11, 0, 7)]) g.1, bx_nfP_ok h0_ (fvs := []) (by decide +kernel) g.2.1, ?_, ?_⟩
  · show rxIOB_3 S0 ws S_p (bx_val [(0, 0), (0, 0), (0, 0), (0, 0), (0, 0), (0, 0), (0, 0), (0, 0), (8, 0), (11, 0)] r_p 8) (bx_val [(0, 0), (0, 0), (0, 0), (0, 0), (0, 0), (0, 0), (0, 0), (0, 0), (8, 0), (11, 0)] r_p 9)
    rw [bx_val_x (n := 8) (e := (8, 0)) h0_ rfl, bx_val_x (n := 9) (e := (11, 0)) h0_ rfl]
    exact g.2.2.1
  · show rxmOB_3 S0 ws S_p (bx_val [(0, 0), (0, 0), (0, 0), (0, 0), (0, 0), (0, 0), (0, 0), (0, 0), (8, 0), (11, 0)] r_p 8) (bx_val [(0, 0), (0, 0), (0, 0), (0, 0), (0, 0), (0, 0), (0, 0), (0, 0), (8, 0), (11, 0)] r_p 9) < rxmOB_2 S0 ws S_p (r 8) (r 9)
    rw [bx_val_x (n := 8) (e := (8, 0)) h0_ rfl, bx_val_x (n := 9) (e := (11, 0)) h0_ rfl, ← hr_ 8 (by decide), ← hr_ 9 (by decide)]
    exact g.2.2.2
theorem rxdOB_2_0 {S0 : Nat → Int → Int} {ws : List Int} {S : Nat → Int → Int} {op is x10 : Int} (hP : rxPOB S0 ws) (hin : bx_same rxL (bx_mdl rxCOB.2.2.1) S0 S) (hin2 : bx_same rxL (bx_mdl rxCOB.2.2.1) S S) (I0 : bx_Inv rxL S) (I1 : bx_Inv rxL S) (hinv : rxIOB_2 S0 ws S op is) (l8 : 31 ≤ op) (u8 : op ≤ 32) (l9 : 0 ≤ is) (u9 : is ≤ 1) (l10 : 1 ≤ x10) (u10 : x10 ≤ 1) (f0 : x10 ≠ 0) (e0 : S 480 14 = x10) : (True) ∧ rxPSOB S0 ws S none := by
  obtain ⟨hw, h1, h2, h3, h4⟩ := hinv
  obtain ⟨⟨p1, p2, p3, p4⟩, p5, p6, -⟩ := hP
  have k18 := h2.1
  have k24 := h2.2.1
  have b24 := rxBox24 I0
  have g := h4 (by omega)
  exact ⟨trivial, rfl, op, hw, h1, h2.pz p2 (by omega), by omega, by omega, fun q => by omega⟩
theorem rxfOB_2_0 {X : (Nat → Int → Int) → Prop} {S0 : Nat → Int → Int} {ws : List Int} (hP : rxPOB S0 ws) : bx_obE rxL X S0 rxCOB.2.2.1 (rxIOB S0 ws) (rxPSOB S0 ws) 2 rxzOB_2 rxeOB_2_0 := by
  intro S S_p r r_p hinv hX hin hsm_ hseg
  obtain ⟨I0, I1, h0_, hr_, b_, f_, d_⟩ := bx_cl (evs := [(0, (0, 480), (0, 14), .inr (0, (10, 0)))]) (fvs := [(3, (10, 0), (0, 0), (0, 0))]) hseg (by decide +kernel) (by decide +kernel)
  have hinv : rxIOB_2 S0 ws S (r 8) (r 9) := hinv
  rw [← hr_ 8 (by decide), ← hr_ 9 (by decide)] at hinv
  obtain ⟨⟨l8, u8⟩, ⟨l9, u9⟩, ⟨l10, u10⟩, -⟩ := b_
  obtain ⟨f0, -⟩ := f_
  obtain ⟨e0, w_⟩ := d_
  subst w_
  have g := rxdOB_2_0 hP hin hsm_ I0 I1 hinv l8 u8 l9 u9 l10 u10 f0 e0
  refine ⟨bx_narP_ok (l := []) g.1, ?_⟩
  exact g.2
theorem rxcOB_3_0 {S0 : Nat → Int → Int} {ws : List Int} {S : Nat → Int → Int} {op q : Int} (hP : rxPOB S0 ws) (hin : bx_same rxL (bx_mdl rxCOB.2.2.1) S0 S) (I0 : bx_Inv rxL S) (hinv : rxIOB_3 S0 ws S op q) (l8 : 31 ≤ op) (u8 : op ≤ 32) (l9 : 0 ≤ q) (u9 : q ≤ 7) : (True) ∧ (True) ∧ rxIOB_4 S0 ws (bx_up S 480 25 (q + 1)) op op ∧ rxmOB_4 S0 ws (bx_up S 480 25 (q + 1)) op op < rxmOB_3 S0 ws S op q := by
  obtain ⟨hw, hq, h1, h2, h3, h4⟩ := hinv
  exact ⟨trivial, trivial, ⟨rfl, hw, S, by rw [hq], h1, h2, h3, h4⟩, by unfold rxmOB_3 rxmOB_4; omega⟩
theorem rxgOB_3_0 {X : (Nat → Int → Int) → Prop} {S0 : Nat → Int → Int} {ws : List Int} (hP : rxPOB S0 ws) : bx_obC rxL X S0 rxCOB.2.2.1 (rxIOB S0 ws) (rxmOB S0 ws) 3 rxzOB_3 rxoOB_3_0 := by
  intro S S_p r r_p hinv hX hin hsm_ hseg
  obtain ⟨I0, I1, h0_, hr_, b_, f_, d_⟩ := bx_cl (evs := [(1, (0, 480), (0, 25), .inr (0, (9, 1)))]) (fvs := []) hseg (by decide +kernel) (by decide +kernel)
  have hinv : rxIOB_3 S0 ws S (r 8) (r 9) := hinv
  rw [← hr_ 8 (by decide), ← hr_ 9 (by decide)] at hinv
  obtain ⟨⟨l8, u8⟩, ⟨l9, u9⟩, -⟩ := b_
  obtain ⟨T0, w_, w0⟩ := d_
  subst w0
  subst w_
  have g := rxcOB_3_0 hP hin I0 hinv l8 u8 l9 u9
  refine ⟨bx_narP_ok (l := []) g.1, bx_nfP_ok h0_ (fvs := []) (by decide +kernel) g.2.1, ?_, ?_⟩
  · show rxIOB_4 S0 ws (bx_up T0 480 (25) (r_p 9 + 1)) (bx_val [(0, 0), (0, 0), (0, 0), (0, 0), (0, 0), (0, 0), (0, 0), (0, 0), (8, 0), (8, 0)] r_p 8) (bx_val [(0, 0), (0, 0), (0, 0), (0, 0), (0, 0), (0, 0), (0, 0), (0, 0), (8, 0), (8, 0)] r_p 9)
    rw [bx_val_x (n := 8) (e := (8, 0)) h0_ rfl, bx_val_x (n := 9) (e := (8, 0)) h0_ rfl]
    exact g.2.2.1
  · show rxmOB_4 S0 ws (bx_up T0 480 (25) (r_p 9 + 1)) (bx_val [(0, 0), (0, 0), (0, 0), (0, 0), (0, 0), (0, 0), (0, 0), (0, 0), (8, 0), (8, 0)] r_p 8) (bx_val [(0, 0), (0, 0), (0, 0), (0, 0), (0, 0), (0, 0), (0, 0), (0, 0), (8, 0), (8, 0)] r_p 9) < rxmOB_3 S0 ws T0 (r 8) (r 9)
    rw [bx_val_x (n := 8) (e := (8, 0)) h0_ rfl, bx_val_x (n := 9) (e := (8, 0)) h0_ rfl, ← hr_ 8 (by decide), ← hr_ 9 (by decide)]
    exact g.2.2.2
theorem rxdOB_5_0 {S0 : Nat → Int → Int} {ws : List Int} {S : Nat → Int → Int} {op op2 : Int} (hP : rxPOB S0 ws) (hin : bx_same rxL (bx_mdl rxCOB.2.2.1) S0 S) (hin2 : bx_same rxL (bx_mdl rxCOB.2.2.1) S S) (I0 : bx_Inv rxL S) (I1 : bx_Inv rxL S) (hinv : rxIOB_5 S0 ws S op op2) (l8 : 31 ≤ op) (u8 : op ≤ 32) (l9 : 31 ≤ op2) (u9 : op2 ≤ 32) : (True) ∧ rxPSOB S0 ws S none := by
  obtain ⟨h1, h2, h3, h4, h5, hw⟩ := hinv
  exact ⟨trivial, rfl, op, hw, h1, h2, h3, h4, h5⟩
theorem rxfOB_5_0 {X : (Nat → Int → Int) → Prop} {S0 : Nat → Int → Int} {ws : List Int} (hP : rxPOB S0 ws) : bx_obE rxL X S0 rxCOB.2.2.1 (rxIOB S0 ws) (rxPSOB S0 ws) 5 rxzOB_5 rxeOB_5_0 := by
  intro S S_p r r_p hinv hX hin hsm_ hseg
  obtain ⟨I0, I1, h0_, hr_, b_, f_, d_⟩ := bx_cl (evs := []) (fvs := []) hseg (by decide +kernel) (by decide +kernel)
  have hinv : rxIOB_5 S0 ws S (r 8) (r 9) := hinv
  rw [← hr_ 8 (by decide), ← hr_ 9 (by decide)] at hinv
  obtain ⟨⟨l8, u8⟩, ⟨l9, u9⟩, -⟩ := b_
  have w_ := d_
  subst w_
  have g := rxdOB_5_0 hP hin hsm_ I0 I1 hinv l8 u8 l9 u9
  refine ⟨bx_narP_ok (l := []) g.1, ?_⟩
  exact g.2
theorem rxgCOB {X : (Nat → Int → Int) → Prop} {S0 : Nat → Int → Int} {ws : List Int} (hP : rxPOB S0 ws) : bx_allI (fun i q => rxUOB q = true ∨ bx_allP (fun o => bx_obC rxL X S0 rxCOB.2.2.1 (rxIOB S0 ws) (rxmOB S0 ws) i q.1 o) q.2.1) 0 rxYOB := ⟨Or.inr ⟨rxgOB_0_0 hP, rxgOB_0_1 hP, trivial⟩, Or.inl rfl, Or.inr ⟨rxgOB_2_0 hP, trivial⟩, Or.inr ⟨rxgOB_3_0 hP, trivial⟩, Or.inl rfl, Or.inr trivial, trivial⟩
theorem rxgEOB {X : (Nat → Int → Int) → Prop} {S0 : Nat → Int → Int} {ws : List Int} (hP : rxPOB S0 ws) : bx_allI (fun i q => rxUOB q = true ∨ bx_allP (fun E => bx_obE rxL X S0 rxCOB.2.2.1 (rxIOB S0 ws) (rxPSOB S0 ws) i q.1 E) q.2.2) 0 rxYOB := ⟨Or.inr trivial, Or.inl rfl, Or.inr ⟨rxfOB_2_0 hP, trivial⟩, Or.inr trivial, Or.inl rfl, Or.inr ⟨rxfOB_5_0 hP, trivial⟩, trivial⟩
theorem rxuOB {PX : State → Prop} {Dg : va_G} {A : Nat → Prop} {ad xa : Nat → Nat} {l : Launch} {X : (Nat → Int → Int) → Prop} (hPX : rx_PXOK rxNW A PX) (hX : ∀ S S1 : Nat → Int → Int, X S → bx_same rxL (bx_mdl rxCOB.2.2.1) S S1 → X S1) (hQMU : bx_ConP rxG rxNW rxAO PX Dg rxL X vwCl A ad l rxM265 rxCMU rxPMU rxPSMU) (hQPU : bx_ConP rxG rxNW rxAO PX Dg rxL X vwCl A ad l rxM268 rxCPU rxPPU rxPSPU) {S0 : Nat → Int → Int} {ws : List Int} (hP : rxPOB S0 ws) : ∀ (i : Nat) (q : bx_HE), rxYOB[i]? = some q → rxUOB q = true → ∀ {p : Program} {e : Env} {R : Room} {s : State} {m : MethodId} {args : Array Value} {below : List Frame} {meth : Method} {c : Code} {Q : State → Prop} {H0 : Heap}, rx_Fr rxG rxNW rxAO PX p s m args meth c rxM270 → (∀ q, H0.size ≤ q → A q) → H0 = s.heap → rxM270.2.2.2.2.2.2.1 ≤ R.cells → rxM270.2.2.2.2.2.2.2 ≤ R.slots → rxCOB.2.2.2.1 ≤ R.frames → rxCOB.2.2.2.1 * 40 ≤ R.locals → bx_Step p l e R s m args below meth c Q Dg rxL X vwCl A xa H0 ad rxM270 rxYOB (rxIOB S0 ws) (rxmOB S0 ws) S0 rxCOB.2.2.1 i q := by
  intro i q hq hus p e R s m args below meth c Q H0 hF hA hH0 hmc hms hd hdl
  match i, hq with
  | 0, hq =>
    cases hq
    exact absurd (show false = true from hus) Bool.false_ne_true
  | 1, hq =>
    cases hq
    exact rx_stepC (ins := .invokevirtual 284) (len := 3) (i_p := 2) (M_p := rxM265) (d := rxCOB.2.2.2.1) (as := [.inr (3, (0, 480)), .inr (0, (9, 0))]) (t := []) (ct := rxCMU) hPX hF rfl hA hH0 hmc hms hd hdl (by decide +kernel) rfl rfl (by decide +kernel) (by decide +kernel) hQMU (by decide +kernel) rfl (Or.inl ⟨rfl, rfl, rfl⟩) (rxsOB_1 hP)
  | 2, hq =>
    cases hq
    exact absurd (show false = true from hus) Bool.false_ne_true
  | 3, hq =>
    cases hq
    exact absurd (show false = true from hus) Bool.false_ne_true
  | 4, hq =>
    cases hq
    exact rx_stepC (ins := .invokevirtual 314) (len := 3) (i_p := 5) (M_p := rxM268) (d := rxCOB.2.2.2.1) (as := [.inr (3, (0, 480)), .inr (0, (9, 0)), .inr (0, (0, 0))]) (t := []) (ct := rxCPU) hPX hF rfl hA hH0 hmc hms hd hdl (by decide +kernel) rfl rfl (by decide +kernel) (by decide +kernel) hQPU (by decide +kernel) rfl (Or.inl ⟨rfl, rfl, rfl⟩) (rxsOB_4 hP)
  | 5, hq =>
    cases hq
    exact absurd (show false = true from hus) Bool.false_ne_true
  | n + 6, hq => cases hq
theorem rxQOB {PX : State → Prop} {Dg : va_G} {A : Nat → Prop} {ad xa : Nat → Nat} {l : Launch} {X : (Nat → Int → Int) → Prop} (hPX : rx_PXOK rxNW A PX) (hsl : ∀ s : State, PX s → ∀ o idx n : Nat, rxSl o idx = some n → ∃ tx : String, vk_R (rxNm o) idx tx (ad n) s)
    (hX : ∀ S S_p : Nat → Int → Int, X S → bx_same rxL (bx_mdl rxCOB.2.2.1) S S_p → X S_p)
    (ih : ∀ (j2 : Nat) (ct2 : bx_Ct) (M2 : rx_Mt), ct2 ∈ rxCnE j2 → ct2.2.2.2.1 + 1 ≤ rxCOB.2.2.2.1 → rxT.2.2.2.2.2 j2 = some M2 → bx_Con rxG rxNW rxAO PX Dg rxL X vwCl A ad l M2 ct2) (hQMU : bx_ConP rxG rxNW rxAO PX Dg rxL X vwCl A ad l rxM265 rxCMU rxPMU rxPSMU) (hQPU : bx_ConP rxG rxNW rxAO PX Dg rxL X vwCl A ad l rxM268 rxCPU rxPPU rxPSPU) : bx_ConP rxG rxNW rxAO PX Dg rxL X vwCl A ad l rxM270 rxCOB rxPOB rxPSOB :=
  rxQof (xa := xa) (Cn := rxCnE) (f := 30000) (j := 270) (tab := rxYOB) (us := rxUOB) hPX hsl hX ih rfl rxYcOB rxIOB rxmOB
    (fun S0 ws r I0 I ht0 ht as he he1 hX0 hI0 hP hs ha => by
      have e := he.symm.trans (show bx_ent0 rxNP rxCOB.1 bx_I0 [] = some ([(0, 0), (0, 0), (0, 0), (0, 0), (0, 0), (0, 0), (0, 0), (0, 0), (31, 32)], [], [.inr (3, (0, 480)), .inr (0, (8, 0))]) from rfl)
      cases e
      subst ha
      have h0 : r 0 = 0 := hs.1
      show rxIOB_0 S0 _ S0 (r 8)
      refine ⟨rfl, ?_⟩
      simp only [List.map_cons, List.map_nil, bx_xv_ok h0]
      rfl)
    (fun S0 ws hP => rxuOB (xa := xa) hPX hX hQMU hQPU hP) (fun S0 ws hP => rxgCOB hP) (fun S0 ws hP => rxgEOB hP)
