/-! CONTRACT BY HAND, by program (wip/sim/genhand.py): DeadUnderstudiesModel.leaf -/
def rxCLF : bx_Ct := ([(3, (1, 480, 0)), (0, (0, 0, 1)), (0, (0, 0, 8)), (0, (0, 0, 1000))], none, [(12, 9), (12, 10), (12, 11), (12, 12), (12, 13), (12, 14), (12, 18), (12, 21), (1068, 0), (1069, 0)], 3, [])
def rxILF_0 (S0 : Nat → Int → Int) (ws : List Int) (S : Nat → Int → Int) (is op arg : Int) : Prop := S = S0 ∧ ws = [480, is, op, arg]
def rxmLF_0 (S0 : Nat → Int → Int) (ws : List Int) (S : Nat → Int → Int) (is op arg : Int) : Nat := 100
def rxzLF_0 : rx_Z := ([(0, 0), (0, 0), (0, 0), (0, 0), (0, 0), (0, 0), (0, 0), (0, 0), (0, 1), (0, 8), (0, 1000)], [], [], 0, 0, 0, [(0, .inr (3, (0, 480))), (1, .inr (0, (8, 0))), (2, .inr (0, (9, 0))), (3, .inr (0, (10, 0)))], [])
def rxILF_1 (S0 : Nat → Int → Int) (ws : List Int) (S : Nat → Int → Int) (op arg is2 : Int) : Prop := S = S0 ∧ (is2 = 1 → S 480 21 < 50 ∧ S 480 11 ≠ 0)
def rxmLF_1 (S0 : Nat → Int → Int) (ws : List Int) (S : Nat → Int → Int) (op arg is2 : Int) : Nat := 90
def rxzLF_1 : rx_Z := ([(0, 0), (0, 0), (0, 0), (0, 0), (0, 0), (0, 0), (0, 0), (0, 0), (0, 8), (0, 1000), (0, 1)], [], [], 0, 0, 19, [(0, .inr (3, (0, 480))), (2, .inr (0, (8, 0))), (3, .inr (0, (9, 0)))], [.inr (0, (10, 0)), .inr (3, (0, 480))])
def rxILF_2 (S0 : Nat → Int → Int) (ws : List Int) (S : Nat → Int → Int) (op arg is2 : Int) : Prop := rxTk S ∧ rxSm S0 S ∧ (S 480 14 = 0 → S 480 21 < 50 ∧ S0 480 11 ≠ 0 ∧ S0 480 10 ≤ S 480 9) ∧ (S 480 14 ≠ 0 → S 480 9 = S0 480 9)
def rxmLF_2 (S0 : Nat → Int → Int) (ws : List Int) (S : Nat → Int → Int) (op arg is2 : Int) : Nat := 80
def rxzLF_2 : rx_Z := ([(0, 0), (0, 0), (0, 0), (0, 0), (0, 0), (0, 0), (0, 0), (0, 0), (0, 8), (0, 1000), (0, 1)], [], [], 0, 0, 22, [(0, .inr (3, (0, 480))), (2, .inr (0, (8, 0))), (3, .inr (0, (9, 0)))], [])
def rxILF_3 (S0 : Nat → Int → Int) (ws : List Int) (S : Nat → Int → Int) (op arg op2 arg2 : Int) : Prop := op2 = op ∧ rxTk S ∧ rxSm S0 S ∧ S 480 14 = 0 ∧ S 480 21 < 50 ∧ S0 480 11 ≠ 0 ∧ S0 480 10 ≤ S 480 9
def rxmLF_3 (S0 : Nat → Int → Int) (ws : List Int) (S : Nat → Int → Int) (op arg op2 arg2 : Int) : Nat := 70
def rxzLF_3 : rx_Z := ([(0, 0), (0, 0), (0, 0), (0, 0), (0, 0), (0, 0), (0, 0), (0, 0), (0, 8), (0, 1000), (0, 8), (0, 1000)], [], [], 0, 0, 32, [(0, .inr (3, (0, 480))), (2, .inr (0, (8, 0))), (3, .inr (0, (9, 0)))], [.inr (0, (11, 0)), .inr (0, (10, 0)), .inr (3, (0, 480))])
def rxILF_4 (S0 : Nat → Int → Int) (ws : List Int) (S : Nat → Int → Int) (op arg op2 arg2 : Int) : Prop := S 480 21 < 50 ∧ rxTk S ∧ rxPz S ∧ 0 ≤ S 480 24 ∧ S 480 18 + S 480 24 ≤ S 480 9 ∧ (S 480 14 = 0 → rxEf S0 S 0 1 ∧ S0 480 9 < S 480 9)
def rxmLF_4 (S0 : Nat → Int → Int) (ws : List Int) (S : Nat → Int → Int) (op arg op2 arg2 : Int) : Nat := 60
def rxzLF_4 : rx_Z := ([(0, 0), (0, 0), (0, 0), (0, 0), (0, 0), (0, 0), (0, 0), (0, 0), (0, 8), (0, 1000), (0, 8), (0, 1000)], [], [], 0, 0, 35, [(0, .inr (3, (0, 480))), (2, .inr (0, (8, 0))), (3, .inr (0, (9, 0)))], [])
def rxILF_5 (S0 : Nat → Int → Int) (ws : List Int) (S : Nat → Int → Int) (op arg q : Int) : Prop := rxTk S ∧ rxPz S ∧ 0 ≤ S 480 24 ∧ S 480 18 + S 480 24 ≤ S 480 9 ∧ (S 480 14 = 0 → rxEf S0 S 0 1 ∧ S0 480 9 < S 480 9)
def rxmLF_5 (S0 : Nat → Int → Int) (ws : List Int) (S : Nat → Int → Int) (op arg q : Int) : Nat := 50
def rxzLF_5 : rx_Z := ([(0, 0), (0, 0), (0, 0), (0, 0), (0, 0), (0, 0), (0, 0), (0, 0), (0, 8), (0, 1000), (0, 49)], [], [], 0, 0, 40, [(0, .inr (3, (0, 480))), (2, .inr (0, (8, 0))), (3, .inr (0, (9, 0)))], [.inr (0, (10, 0)), .inr (3, (0, 480))])
def rxoLF_0_0 : bx_HO := (([(0, 0), (0, 0), (0, 0), (0, 0), (0, 0), (0, 0), (0, 0), (0, 0), (1, 1), (0, 8), (0, 1000), (0, 49)], [(3, (8, 0), (0, 0))], [(((0, 0), 1851192626986356801639181172899307091861268768556583502466777088000000), .inr (0, (11, 0))), (((0, 480), 21), .inr (0, (11, 0)))], 0, 0, 19, [(0, .inr (3, (0, 480))), (1, .inr (0, (8, 0))), (2, .inr (0, (9, 0))), (3, .inr (0, (10, 0)))], [.inr (0, (0, 1)), .inr (3, (0, 480))]), [], [], [(0, 0), (0, 0), (0, 0), (0, 0), (0, 0), (0, 0), (0, 0), (0, 0), (9, 0), (10, 0), (0, 1)], 1)
def rxoLF_0_1 : bx_HO := (([(0, 0), (0, 0), (0, 0), (0, 0), (0, 0), (0, 0), (0, 0), (0, 0), (1, 1), (0, 8), (0, 1000), (50, 50)], [(3, (8, 0), (0, 0))], [(((0, 0), 1851192626986356801639181172899307091861268768556583502466777088000000), .inr (0, (11, 0))), (((0, 480), 21), .inr (0, (11, 0)))], 0, 0, 19, [(0, .inr (3, (0, 480))), (1, .inr (0, (8, 0))), (2, .inr (0, (9, 0))), (3, .inr (0, (10, 0)))], [.inr (0, (0, 0)), .inr (3, (0, 480))]), [], [], [(0, 0), (0, 0), (0, 0), (0, 0), (0, 0), (0, 0), (0, 0), (0, 0), (9, 0), (10, 0), (0, 0)], 1)
def rxoLF_0_2 : bx_HO := (([(0, 0), (0, 0), (0, 0), (0, 0), (0, 0), (0, 0), (0, 0), (0, 0), (0, 0), (0, 8), (0, 1000)], [], [], 0, 0, 19, [(0, .inr (3, (0, 480))), (1, .inr (0, (8, 0))), (2, .inr (0, (9, 0))), (3, .inr (0, (10, 0)))], [.inr (0, (0, 0)), .inr (3, (0, 480))]), [], [], [(0, 0), (0, 0), (0, 0), (0, 0), (0, 0), (0, 0), (0, 0), (0, 0), (9, 0), (10, 0), (0, 0)], 1)
def rxoLF_2_0 : bx_HO := (([(0, 0), (0, 0), (0, 0), (0, 0), (0, 0), (0, 0), (0, 0), (0, 0), (0, 8), (0, 1000), (0, 1), (0, 0)], [], [(((0, 0), 1851192626986356800234234225391877833944518517379736727590010880000000), .inr (0, (11, 0))), (((0, 480), 14), .inr (0, (11, 0)))], 0, 0, 32, [(0, .inr (3, (0, 480))), (2, .inr (0, (8, 0))), (3, .inr (0, (9, 0)))], [.inr (0, (9, 0)), .inr (0, (8, 0)), .inr (3, (0, 480))]), [], [], [(0, 0), (0, 0), (0, 0), (0, 0), (0, 0), (0, 0), (0, 0), (0, 0), (8, 0), (9, 0), (8, 0), (9, 0)], 3)
def rxeLF_2_0 : rx_End × List (Nat × Int × Int) := (([(0, 0), (0, 0), (0, 0), (0, 0), (0, 0), (0, 0), (0, 0), (0, 0), (0, 8), (0, 1000), (0, 1), (1, 1)], [(3, (11, 0), (0, 0))], [(((0, 0), 1851192626986356800234234225391877833944518517379736727590010880000000), .inr (0, (11, 0))), (((0, 480), 14), .inr (0, (11, 0)))], none), [])
def rxoLF_4_0 : bx_HO := (([(0, 0), (0, 0), (0, 0), (0, 0), (0, 0), (0, 0), (0, 0), (0, 0), (0, 8), (0, 1000), (0, 8), (0, 1000), (0, 50)], [], [(((0, 0), 1851192626986356801639181172899307091861268768556583502466777088000000), .inr (0, (12, 0))), (((0, 480), 21), .inr (0, (12, 0)))], 0, 0, 40, [(0, .inr (3, (0, 480))), (2, .inr (0, (8, 0))), (3, .inr (0, (9, 0)))], [.inr (0, (12, 0)), .inr (3, (0, 480))]), [(12, 0, 49)], [], [(0, 0), (0, 0), (0, 0), (0, 0), (0, 0), (0, 0), (0, 0), (0, 0), (8, 0), (9, 0), (12, 0)], 5)
def rxeLF_5_0 : rx_End × List (Nat × Int × Int) := (([(0, 0), (0, 0), (0, 0), (0, 0), (0, 0), (0, 0), (0, 0), (0, 0), (0, 8), (0, 1000), (0, 49)], [], [(((0, 0), 1851192626986356801639181172899307091861268768556583502466777091000000), .inr (0, (10, 1))), (((0, 480), 21), .inr (0, (10, 1)))], none), [])
def rxYLF : List bx_HE := [(rxzLF_0, [rxoLF_0_0, rxoLF_0_1, rxoLF_0_2], []), (rxzLF_1, [], []), (rxzLF_2, [rxoLF_2_0], [rxeLF_2_0]), (rxzLF_3, [], []), (rxzLF_4, [rxoLF_4_0], []), (rxzLF_5, [], [rxeLF_5_0])]
def rxULF (q : bx_HE) : Bool := Nat.beq (rx_zpc q.1) 19 || Nat.beq (rx_zpc q.1) 32
def rxYBLF : bx_B := (rxV, rxNP, rxDmf, bx_mdH rxCLF.2.2.1)
set_option maxRecDepth 100000 in
theorem rxYcLF : bx_chkH rxYBLF rxM273 rxCLF rxYLF (rxULF, fun cut z => rx_ex2 (rxCT rxYBLF rxCnE) cut 30000 rxCLF.2.2.2.1 273 z) = true := by decide +kernel
def rxILF (S0 : Nat → Int → Int) (ws : List Int) (i : Nat) : bx_SP := fun S r => match i with | 0 => rxILF_0 S0 ws S (r 8) (r 9) (r 10) | 1 => rxILF_1 S0 ws S (r 8) (r 9) (r 10) | 2 => rxILF_2 S0 ws S (r 8) (r 9) (r 10) | 3 => rxILF_3 S0 ws S (r 8) (r 9) (r 10) (r 11) | 4 => rxILF_4 S0 ws S (r 8) (r 9) (r 10) (r 11) | 5 => rxILF_5 S0 ws S (r 8) (r 9) (r 10) | _ => False
def rxmLF (S0 : Nat → Int → Int) (ws : List Int) (i : Nat) (S : Nat → Int → Int) (r : Nat → Int) : Nat := match i with | 0 => rxmLF_0 S0 ws S (r 8) (r 9) (r 10) | 1 => rxmLF_1 S0 ws S (r 8) (r 9) (r 10) | 2 => rxmLF_2 S0 ws S (r 8) (r 9) (r 10) | 3 => rxmLF_3 S0 ws S (r 8) (r 9) (r 10) (r 11) | 4 => rxmLF_4 S0 ws S (r 8) (r 9) (r 10) (r 11) | 5 => rxmLF_5 S0 ws S (r 8) (r 9) (r 10) | _ => 0
def rxPLF (S0 : Nat → Int → Int) (ws : List Int) : Prop := rxPt S0 ∧ S0 480 14 = 0 ∧ ∃ is op arg : Int, ws = [480, is, op, arg] ∧ (is = 1 → S0 480 11 ≠ 0)
def rxPSLF (S0 : Nat → Int → Int) (ws : List Int) (S : Nat → Int → Int) (w : Option Int) : Prop := w = none ∧ rxTk S ∧ rxPz S ∧ 0 ≤ S 480 24 ∧ S 480 18 + S 480 24 ≤ S 480 9 ∧ (S 480 14 = 0 → rxEf S0 S 0 1 ∧ S0 480 9 < S 480 9)
theorem rxkLF_1 {S0 : Nat → Int → Int} {ws : List Int} {S : Nat → Int → Int} {op arg is2 : Int} (hP : rxPLF S0 ws) (hin : bx_same rxL (bx_mdl rxCLF.2.2.1) S0 S) (I0 : bx_Inv rxL S) (hinv : rxILF_1 S0 ws S op arg is2) (l8 : 0 ≤ op) (u8 : op ≤ 8) (l9 : 0 ≤ arg) (u9 : arg ≤ 1000) (l10 : 0 ≤ is2) (u10 : is2 ≤ 1) : rxPMU S [480, is2] ∧ ∀ (S_p : Nat → Int → Int), rxPSMU S [480, is2] S_p none → bx_Inv rxL S_p → bx_same rxL (bx_mdl rxCMU.2.2.1) S S_p → rxILF_2 S0 ws S_p op arg is2 ∧ rxmLF_2 S0 ws S_p op arg is2 < rxmLF_1 S0 ws S op arg is2 := by
  obtain ⟨rfl, h8⟩ := hinv
  obtain ⟨⟨p1, p2, p3, p4⟩, p5, -⟩ := hP
  refine ⟨p1, fun S_p hq I1 hsm => ⟨⟨hq.2.1, rxSm_of hsm (by decide +kernel), fun g => ?_, fun g => ?_⟩, by unfold rxmLF_1 rxmLF_2; omega⟩⟩
  · obtain ⟨-, -, is', hw2, hc⟩ := hq
    have he : is2 = is' := Option.some.inj (congrArg (fun l => l[1]?) hw2)
    have h21 : S_p 480 21 = S 480 21 := rx_sameO hsm (p := 480) (j := 21) rfl (by omega) (by decide +kernel) (by decide)
    rcases hc with ⟨c1, c2, c3, c4⟩ | ⟨c1, c2, c3⟩
    · exact ⟨by rw [h21]; exact (h8 (by omega)).1, (h8 (by omega)).2, c4⟩
    · omega
  · obtain ⟨-, -, is', hw2, hc⟩ := hq
    rcases hc with ⟨c1, c2, c3, c4⟩ | ⟨c1, c2, c3, -⟩
    · omega
    · exact c3
theorem rxsLF_1 {X : (Nat → Int → Int) → Prop} {S0 : Nat → Int → Int} {ws : List Int} (hP : rxPLF S0 ws) : rx_obK X S0 rxCLF.2.2.1 rxCMU.2.2.1 (rxILF S0 ws) (rxmLF S0 ws) 1 2 rxzLF_1 rxzLF_2 [.inr (3, (0, 480)), .inr (0, (10, 0))] none rxPMU rxPSMU := by
  intro S r hinv hXS I0 hin hs_ hf_
  have b_ := bx_bds_sat hs_
  have f_ := bx_fcl_ok hs_.1 hf_
  obtain ⟨⟨l8, u8⟩, ⟨l9, u9⟩, ⟨l10, u10⟩, -⟩ := b_
  have g := rxkLF_1 hP hin I0 hinv l8 u8 l9 u9 l10 u10
  have ea : List.map (bx_num r) [.inr (3, (0, 480)), .inr (0, (10, 0))] = [480, (r 10)] := by
    simp only [List.map_cons, List.map_nil, bx_xv_ok hs_.1]
    rfl
  rw [ea]
  refine ⟨g.1, fun S_p w r_p hPS hX_p I1 hsm hr hw hs_p => ?_⟩
  have hw : w = none := hPS.1
  subst hw
  have g2 := g.2 S_p hPS I1 hsm
  show rxILF_2 S0 ws S_p (r_p 8) (r_p 9) (r_p 10) ∧ rxmLF_2 S0 ws S_p (r_p 8) (r_p 9) (r_p 10) < _
  rw [hr 8 (by decide), hr 9 (by decide), hr 10 (by decide)]
  exact g2
theorem rxkLF_3 {S0 : Nat → Int → Int} {ws : List Int} {S : Nat → Int → Int} {op arg op2 arg2 : Int} (hP : rxPLF S0 ws) (hin : bx_same rxL (bx_mdl rxCLF.2.2.1) S0 S) (I0 : bx_Inv rxL S) (hinv : rxILF_3 S0 ws S op arg op2 arg2) (l8 : 0 ≤ op) (u8 : op ≤ 8) (l9 : 0 ≤ arg) (u9 : arg ≤ 1000) (l10 : 0 ≤ op2) (u10 : op2 ≤ 8) (l11 : 0 ≤ arg2) (u11 : arg2 ≤ 1000) : rxPEM S [480, op2, arg2] ∧ ∀ (S_p : Nat → Int → Int), rxPSEM S [480, op2, arg2] S_p none → bx_Inv rxL S_p → bx_same rxL (bx_mdl rxCEM.2.2.1) S S_p → rxILF_4 S0 ws S_p op arg op2 arg2 ∧ rxmLF_4 S0 ws S_p op arg op2 arg2 < rxmLF_3 S0 ws S op arg op2 arg2 := by
  obtain ⟨rfl, h1, h2, h3, h21, hs0, h4⟩ := hinv
  obtain ⟨⟨p1, p2, p3, p4⟩, p5, -⟩ := hP
  have b8 := rxBox8 I0
  have tk := h1.2.1
  have tk2 := h1.2.2.1
  have tk0 := p1.2.2.2.1 hs0
  have k18 := h2.1
  have k24 := h2.2.1
  have b24 := rxBox24 I0
  have b18 := rxBox18 I0
  have hz := h2.pz p2 (by omega)
  refine ⟨by show S 480 18 ≤ 399; omega, fun S_p hq I1 hsm => ?_⟩
  obtain ⟨-, o', a', hw3, rfl⟩ := hq
  have ho : op2 = o' := Option.some.inj (congrArg (fun l => l[1]?) hw3)
  subst ho
  have f9 : rxEmE S op2 a' 480 9 = S 480 9 := by unfold rxEmE; simp [bx_up]
  have f18 : rxEmE S op2 a' 480 18 = S 480 18 + 1 := by unfold rxEmE; simp [bx_up]
  have f24 : rxEmE S op2 a' 480 24 = S 480 24 := by unfold rxEmE; simp [bx_up]
  have f21 : rxEmE S op2 a' 480 21 = S 480 21 := by unfold rxEmE; simp [bx_up]
  have hTk : rxTk (rxEmE S op2 a') := by
    unfold rxTk rxEmE
    simp [bx_up]
    unfold rxTk at h1
    omega
  refine ⟨⟨by show rxEmE S op2 a' 480 21 < 50; omega, hTk, rxEmE_pz hz, by show 0 ≤ rxEmE S op2 a' 480 24; omega, by show rxEmE S op2 a' 480 18 + rxEmE S op2 a' 480 24 ≤ rxEmE S op2 a' 480 9; omega, fun _ => ⟨(h2.ef (by omega) (by omega) 0).tr (rxLeaf_ef ⟨by omega, by omega⟩), by show S0 480 9 < rxEmE S op2 a' 480 9; omega⟩⟩, by unfold rxmLF_3 rxmLF_4; omega⟩
theorem rxsLF_3 {X : (Nat → Int → Int) → Prop} {S0 : Nat → Int → Int} {ws : List Int} (hP : rxPLF S0 ws) : rx_obK X S0 rxCLF.2.2.1 rxCEM.2.2.1 (rxILF S0 ws) (rxmLF S0 ws) 3 4 rxzLF_3 rxzLF_4 [.inr (3, (0, 480)), .inr (0, (10, 0)), .inr (0, (11, 0))] none rxPEM rxPSEM := by
  intro S r hinv hXS I0 hin hs_ hf_
  have b_ := bx_bds_sat hs_
  have f_ := bx_fcl_ok hs_.1 hf_
  obtain ⟨⟨l8, u8⟩, ⟨l9, u9⟩, ⟨l10, u10⟩, ⟨l11, u11⟩, -⟩ := b_
  have g := rxkLF_3 hP hin I0 hinv l8 u8 l9 u9 l10 u10 l11 u11
  have ea : List.map (bx_num r) [.inr (3, (0, 480)), .inr (0, (10, 0)), .inr (0, (11, 0))] = [480, (r 10), (r 11)] := by
    simp only [List.map_cons, List.map_nil, bx_xv_ok hs_.1]
    rfl
  rw [ea]
  refine ⟨g.1, fun S_p w r_p hPS hX_p I1 hsm hr hw hs_p => ?_⟩
  have hw : w = none := hPS.1
  subst hw
  have g2 := g.2 S_p hPS I1 hsm
  show rxILF_4 S0 ws S_p (r_p 8) (r_p 9) (r_p 10) (r_p 11) ∧ rxmLF_4 S0 ws S_p (r_p 8) (r_p 9) (r_p 10) (r_p 11) < _
  rw [hr 8 (by decide), hr 9 (by decide), hr 10 (by decide), hr 11 (by decide)]
  exact g2
theorem rxcLF_0_0 {S0 : Nat → Int → Int} {ws : List Int} {S : Nat → Int → Int} {is op arg x11 : Int} (hP : rxPLF S0 ws) (hin : bx_same rxL (bx_mdl rxCLF.2.2.1) S0 S) (I0 : bx_Inv rxL S) (hinv : rxILF_0 S0 ws S is op arg) (l8 : 1 ≤ is) (u8 : is ≤ 1) (l9 : 0 ≤ op) (u9 : op ≤ 8) (l10 : 0 ≤ arg) (u10 : arg ≤ 1000) (l11 : 0 ≤ x11) (u11 : x11 ≤ 49) (f0 : is ≠ 0) (e0 : S 480 21 = x11) : (True) ∧ (True) ∧ rxILF_1 S0 ws S op arg 1 ∧ rxmLF_1 S0 ws S op arg 1 < rxmLF_0 S0 ws S is op arg := by
  obtain ⟨rfl, hw⟩ := hinv
  obtain ⟨p0, p5, is', op', arg', hw2, p7⟩ := hP
  have he : is = is' := Option.some.inj (congrArg (fun l => l[1]?) (hw.symm.trans hw2))
  exact ⟨trivial, trivial, ⟨rfl, fun q => by first | omega | exact ⟨by omega, p7 (by omega)⟩⟩, by unfold rxmLF_0 rxmLF_1; omega⟩
theorem rxgLF_0_0 {X : (Nat → Int → Int) → Prop} {S0 : Nat → Int → Int} {ws : List Int} (hP : rxPLF S0 ws) : bx_obC rxL X S0 rxCLF.2.2.1 (rxILF S0 ws) (rxmLF S0 ws) 0 rxzLF_0 rxoLF_0_0 := by
  intro S S_p r r_p hinv hX hin hsm_ hseg
  obtain ⟨I0, I1, h0_, hr_, b_, f_, d_⟩ := bx_cl (evs := [(0, (0, 480), (0, 21), .inr (0, (11, 0)))]) (fvs := [(3, (8, 0), (0, 0), (0, 0))]) hseg (by decide +kernel) (by decide +kernel)
  have hinv : rxILF_0 S0 ws S (r 8) (r 9) (r 10) := hinv
  rw [← hr_ 8 (by decide), ← hr_ 9 (by decide), ← hr_ 10 (by decide)] at hinv
  obtain ⟨⟨l8, u8⟩, ⟨l9, u9⟩, ⟨l10, u10⟩, ⟨l11, u11⟩, -⟩ := b_
  obtain ⟨f0, -⟩ := f_
  obtain ⟨e0, w_⟩ := d_
  subst w_
  have g := rxcLF_0_0 hP hin I0 hinv l8 u8 l9 u9 l10 u10 l11 u11 f0 e0
  refine ⟨bx_narP_ok (l := []) g.1, bx_nfP_ok h0_ (fvs := []) (by decide +kernel) g.2.1, ?_, ?_⟩
  · show rxILF_1 S0 ws S_p (bx_val [(0, 0), (0, 0), (0, 0), (0, 0), (0, 0), (0, 0), (0, 0), (0, 0), (9, 0), (10, 0), (0, 1)] r_p 8) (bx_val [(0, 0), (0, 0), (0, 0), (0, 0), (0, 0), (0, 0), (0, 0), (0, 0), (9, 0), (10, 0), (0, 1)] r_p 9) (bx_val [(0, 0), (0, 0), (0, 0), (0, 0), (0, 0), (0, 0), (0, 0), (0, 0), (9, 0), (10, 0), (0, 1)] r_p 10)
    rw [bx_val_x (n := 8) (e := (9, 0)) h0_ rfl, bx_val_x (n := 9) (e := (10, 0)) h0_ rfl, bx_val_x (n := 10) (e := (0, 1)) h0_ rfl]
    exact g.2.2.1
  · show rxmLF_1 S0 ws S_p (bx_val [(0, 0), (0, 0), (0, 0), (0, 0), (0, 0), (0, 0), (0, 0), (0, 0), (9, 0), (10, 0), (0, 1)] r_p 8) (bx_val [(0, 0), (0, 0), (0, 0), (0, 0), (0, 0), (0, 0), (0, 0), (0, 0), (9, 0), (10, 0), (0, 1)] r_p 9) (bx_val [(0, 0), (0, 0), (0, 0), (0, 0), (0, 0), (0, 0), (0, 0), (0, 0), (9, 0), (10, 0), (0, 1)] r_p 10) < rxmLF_0 S0 ws S_p (r 8) (r 9) (r 10)
    rw [bx_val_x (n := 8) (e := (9, 0)) h0_ rfl, bx_val_x (n := 9) (e := (10, 0)) h0_ rfl, bx_val_x (n := 10) (e := (0, 1)) h0_ rfl, ← hr_ 8 (by decide), ← hr_ 9 (by decide), ← hr_ 10 (by decide)]
    exact g.2.2.2
theorem rxcLF_0_1 {S0 : Nat → Int → Int} {ws : List Int} {S : Nat → Int → Int} {is op arg x11 : Int} (hP : rxPLF S0 ws) (hin : bx_same rxL (bx_mdl rxCLF.2.2.1) S0 S) (I0 : bx_Inv rxL S) (hinv : rxILF_0 S0 ws S is op arg) (l8 : 1 ≤ is) (u8 : is ≤ 1) (l9 : 0 ≤ op) (u9 : op ≤ 8) (l10 : 0 ≤ arg) (u10 : arg ≤ 1000) (l11 : 50 ≤ x11) (u11 : x11 ≤ 50) (f0 : is ≠ 0) (e0 : S 480 21 = x11) : (True) ∧ (True) ∧ rxILF_1 S0 ws S op arg 0 ∧ rxmLF_1 S0 ws S op arg 0 < rxmLF_0 S0 ws S is op arg := by
  obtain ⟨rfl, hw⟩ := hinv
  obtain ⟨p0, p5, is', op', arg', hw2, p7⟩ := hP
  have he : is = is' := Option.some.inj (congrArg (fun l => l[1]?) (hw.symm.trans hw2))
  exact ⟨trivial, trivial, ⟨rfl, fun q => by first | omega | exact ⟨by omega, p7 (by omega)⟩⟩, by unfold rxmLF_0 rxmLF_1; omega⟩
theorem rxgLF_0_1 {X : (Nat → Int → Int) → Prop} {S0 : Nat → Int → Int} {ws : List Int} (hP : rxPLF S0 ws) : bx_obC rxL X S0 rxCLF.2.2.1 (rxILF S0 ws) (rxmLF S0 ws) 0 rxzLF_0 rxoLF_0_1 := by
  intro S S_p r r_p hinv hX hin hsm_ hseg
  obtain ⟨I0, I1, h0_, hr_, b_, f_, d_⟩ := bx_cl (evs := [(0, (0, 480), (0, 21), .inr (0, (11, 0)))]) (fvs := [(3, (8, 0), (0, 0), (0, 0))]) hseg (by decide +kernel) (by decide +kernel)
  have hinv : rxILF_0 S0 ws S (r 8) (r 9) (r 10) := hinv
  rw [← hr_ 8 (by decide), ← hr_ 9 (by decide), ← hr_ 10 (by decide)] at hinv
  obtain ⟨⟨l8, u8⟩, ⟨l9, u9⟩, ⟨l10, u10⟩, ⟨l11, u11⟩, -⟩ := b_
  obtain ⟨f0, -⟩ := f_
  obtain ⟨e0, w_⟩ := d_
  subst w_
  have g := rxcLF_0_1 hP hin I0 hinv l8 u8 l9 u9 l10 u10 l11 u11 f0 e0
  refine ⟨bx_narP_ok (l := []) g.1, bx_nfP_ok h0_ (fvs := []) (by decide +kernel) g.2.1, ?_, ?_⟩
  · show rxILF_1 S0 ws S_p (bx_val [(0, 0), (0, 0), (0, 0), (0, 0), (0, 0), (0, 0), (0, 0), (0, 0), (9, 0), (10, 0), (0, 0)] r_p 8) (bx_val [(0, 0), (0, 0), (0, 0), (0, 0), (0, 0), (0, 0), (0, 0), (0, 0), (9, 0), (10, 0), (0, 0)] r_p 9) (bx_val [(0, 0), (0, 0), (0, 0), (0, 0), (0, 0), (0, 0), (0, 0), (0, 0), (9, 0), (10, 0), (0, 0)] r_p 10)
    rw [bx_val_x (n := 8) (e := (9, 0)) h0_ rfl, bx_val_x (n := 9) (e := (10, 0)) h0_ rfl, bx_val_x (n := 10) (e := (0, 0)) h0_ rfl]
    exact g.2.2.1
  · show rxmLF_1 S0 ws S_p (bx_val [(0, 0), (0, 0), (0, 0), (0, 0), (0, 0), (0, 0), (0, 0), (0, 0), (9, 0), (10, 0), (0, 0)] r_p 8) (bx_val [(0, 0), (0, 0), (0, 0), (0, 0), (0, 0), (0, 0), (0, 0), (0, 0), (9, 0), (10, 0), (0, 0)] r_p 9) (bx_val [(0, 0), (0, 0), (0, 0), (0, 0), (0, 0), (0, 0), (0, 0), (0, 0), (9, 0), (10, 0), (0, 0)] r_p 10) < rxmLF_0 S0 ws S_p (r 8) (r 9) (r 10)
    rw [bx_val_x (n := 8) (e := (9, 0)) h0_ rfl, bx_val_x (n := 9) (e := (10, 0)) h0_ rfl, bx_val_x (n := 10) (e := (0, 0)) h0_ rfl, ← hr_ 8 (by decide), ← hr_ 9 (by decide), ← hr_ 10 (by decide)]
    exact g.2.2.2
theorem rxcLF_0_2 {S0 : Nat → Int → Int} {ws : List Int} {S : Nat → Int → Int} {is op arg : Int} (hP : rxPLF S0 ws) (hin : bx_same rxL (bx_mdl rxCLF.2.2.1) S0 S) (I0 : bx_Inv rxL S) (hinv : rxILF_0 S0 ws S is op arg) (l8 : 0 ≤ is) (u8 : is ≤ 0) (l9 : 0 ≤ op) (u9 : op ≤ 8) (l10 : 0 ≤ arg) (u10 : arg ≤ 1000) : (True) ∧ (True) ∧ rxILF_1 S0 ws S op arg 0 ∧ rxmLF_1 S0 ws S op arg 0 < rxmLF_0 S0 ws S is op arg := by
  obtain ⟨rfl, hw⟩ := hinv
  obtain ⟨p0, p5, is', op', arg', hw2, p7⟩ := hP
  have he : is = is' := Option.some.inj (congrArg (fun l => l[1]?) (hw.symm.trans hw2))
  exact ⟨trivial, trivial, ⟨rfl, fun q => by first | omega | exact ⟨by omega, p7 (by omega)⟩⟩, by unfold rxmLF_0 rxmLF_1; omega⟩
theorem rxgLF_0_2 {X : (Nat → Int → Int) → Prop} {S0 : Nat → Int → Int} {ws : List Int} (hP : rxPLF S0 ws) : bx_obC rxL X S0 rxCLF.2.2.1 (rxILF S0 ws) (rxmLF S0 ws) 0 rxzLF_0 rxoLF_0_2 := by
  intro S S_p r r_p hinv hX hin hsm_ hseg
  obtain ⟨I0, I1, h0_, hr_, b_, f_, d_⟩ := bx_cl (evs := []) (fvs := []) hseg (by decide +kernel) (by decide +kernel)
  have hinv : rxILF_0 S0 ws S (r 8) (r 9) (r 10) := hinv
  rw [← hr_ 8 (by decide), ← hr_ 9 (by decide), ← hr_ 10 (by decide)] at hinv
  obtain ⟨⟨l8, u8⟩, ⟨l9, u9⟩, ⟨l10, u10⟩, -⟩ := b_
  have w_ := d_
  subst w_
  have g := rxcLF_0_2 hP hin I0 hinv l8 u8 l9 u9 l10 u10
  refine ⟨bx_narP_ok (l := []) g.1, bx_nfP_ok h0_ (fvs := []) (by decide +kernel) g.2.1, ?_, ?_⟩
  · show rxILF_1 S0 ws S_p (bx_val [(0, 0), (0, 0), (0, 0), (0, 0), (0, 0), (0, 0), (0, 0), (0, 0), (9, 0), (10, 0), (0, 0)] r_p 8) (bx_val [(0, 0), (0, 0), (0, 0), (0, 0), (0, 0), (0, 0), (0, 0), (0, 0), (9, 0), (10, 0), (0, 0)] r_p 9) (bx_val [(0, 0), (0, 0), (0, 0), (0, 0), (0, 0), (0, 0), (0, 0), (0, 0), (9, 0), (10, 0), (0, 0)] r_p 10)
    rw [bx_val_x (n := 8) (e := (9, 0)) h0_ rfl, bx_val_x (n := 9) (e := (10, 0)) h0_ rfl, bx_val_x (n := 10) (e := (0, 0)) h0_ rfl]
    exact g.2.2.1
  · show rxmLF_1 S0 ws S_p (bx_val [(0, 0), (0, 0), (0, 0), (0, 0), (0, 0), (0, 0), (0, 0), (0, 0), (9, 0), (10, 0), (0, 0)] r_p 8) (bx_val [(0, 0), (0, 0), (0, 0), (0, 0), (0, 0), (0, 0), (0, 0), (0, 0), (9, 0), (10, 0), (0, 0)] r_p 9) (bx_val [(0, 0), (0, 0), (0, 0), (0, 0), (0, 0), (0, 0), (0, 0), (0, 0), (9, 0), (10, 0), (0, 0)] r_p 10) < rxmLF_0 S0 ws S_p (r 8) (r 9) (r 10)
    rw [bx_val_x (n := 8) (e := (9, 0)) h0_ rfl, bx_val_x (n := 9) (e := (10, 0)) h0_ rfl, bx_val_x (n := 10) (e := (0, 0)) h0_ rfl, ← hr_ 8 (by decide), ← hr_ 9 (by decide), ← hr_ 10 (by decide)]
    exact g.2.2.2
theorem rxcLF_2_0 {S0 : Nat → Int → Int} {ws : List Int} {S : Nat → Int → Int} {op arg is2 x11 : Int} (hP : rxPLF S0 ws) (hin : bx_same rxL (bx_mdl rxCLF.2.2.1) S0 S) (I0 : bx_Inv rxL S) (hinv : rxILF_2 S0 ws S op arg is2) (l8 : 0 ≤ op) (u8 : op ≤ 8) (l9 : 0 ≤ arg) (u9 : arg ≤ 1000) (l10 : 0 ≤ is2) (u10 : is2 ≤ 1) (l11 : 0 ≤ x11) (u11 : x11 ≤ 0) (e0 : S 480 14 = x11) : (True) ∧ (True) ∧ rxILF_3 S0 ws S op arg op arg ∧ rxmLF_3 S0 ws S op arg op arg < rxmLF_2 S0 ws S op arg is2 := by
  obtain ⟨h1, h2, h3, h4⟩ := hinv
  have h5 := h3 (by omega)
  exact ⟨trivial, trivial, ⟨rfl, h1, h2, by omega, h5.1, h5.2.1, h5.2.2⟩, by unfold rxmLF_2 rxmLF_3; omega⟩
theorem rxgLF_2_0 {X : (Nat → Int → Int) → Prop} {S0 : Nat → Int → Int} {ws : List Int} (hP : rxPLF S0 ws) : bx_obC rxL X S0 rxCLF.2.2.1 (rxILF S0 ws) (rxmLF S0 ws) 2 rxzLF_2 rxoLF_2_0 := by
  intro S S_p r r_p hinv hX hin hsm_ hseg
  obtain ⟨I0, I1, h0_, hr_, b_, f_, d_⟩ := bx_cl (evs := [(0, (0, 480), (0, 14), .inr (0, (11, 0)))]) (fvs := []) hseg (by decide +kernel) (by decide +kernel)
  have hinv : rxILF_2 S0 ws S (r 8) (r 9) (r 10) := hinv
  rw [← hr_ 8 (by decide), ← hr_ 9 (by decide), ← hr_ 10 (by decide)] at hinv
  obtain ⟨⟨l8, u8⟩, ⟨l9, u9⟩, ⟨l10, u10⟩, ⟨l11, u11⟩, -⟩ := b_
  obtain ⟨e0, w_⟩ := d_
  subst w_
  have g := rxcLF_2_0 hP hin I0 hinv l8 u8 l9 u9 l10 u10 l11 u11 e0
  refine ⟨bx_narP_ok (l := []) g.1, bx_nfP_ok h0_ (fvs := []) (by decide +kernel) g.2.1, ?_, ?_⟩
  · show rxILF_3 S0 ws S_p (bx_val [(0, 0), (0, 0), (0, 0), (0, 0), (0, 0), (0, 0), (0, 0), (0, 0), (8, 0), (9, 0), (8, 0), (9, 0)] r_p 8) (bx_val [(0, 0), (0, 0), (0, 0), (0, 0), (0, 0), (0, 0), (0, 0), (0, 0), (8, 0), (9, 0), (8, 0), (9, 0)] r_p 9) (bx_val [(0, 0), (0, 0), (0, 0), (0, 0), (0, 0), (0, 0), (0, 0), (0, 0), (8, 0), (9, 0), (8, 0), (9, 0)] r_p 10) (bx_val [(0, 0), (0, 0), (0, 0), (0, 0), (0, 0), (0, 0), (0, 0), (0, 0), (8, 0), (9, 0), (8, 0), (9, 0)] r_p 11)
    rw [bx_val_x (n := 8) (e := (8, 0)) h0_ rfl, bx_val_x (n := 9) (e := (9, 0)) h0_ rfl, bx_val_x (n := 10) (e := (8, 0)) h0_ rfl, bx_val_x (n := 11) (e := (9, 0)) h0_ rfl]
    exact g.2.2.1
  · show rxmLF_3 S0 ws S_p (bx_val [(0, 0), (0, 0), (0, 0), (0, 0), (0, 0), (0, 0), (0, 0), (0, 0), (8, 0), (9, 0), (8, 0), (9, 0)] r_p 8) (bx_val [(0, 0), (0, 0), (0, 0), (0, 0), (0, 0), (0, 0), (0, 0), (0, 0), (8, 0), (9, 0), (8, 0), (9, 0)] r_p 9) (bx_val [(0, 0), (0, 0), (0, 0), (0, 0), (0, 0), (0, 0), (0, 0), (0, 0), (8, 0), (9, 0), (8, 0), (9, 0)] r_p 10) (bx_val [(0, 0), (0, 0), (0, 0), (0, 0), (0, 0), (0, 0), (0, 0), (0, 0), (8, 0), (9, 0), (8, 0), (9, 0)] r_p 11) < rxmLF_2 S0 ws S_p (r 8) (r 9) (r 10)
    rw [bx_val_x (n := 8) (e := (8, 0)) h0_ rfl, bx_val_x (n := 9) (e := (9, 0)) h0_ rfl, bx_val_x (n := 10) (e := (8, 0)) h0_ rfl, bx_val_x (n := 11) (e := (9, 0)) h0_ rfl, ← hr_ 8 (by decide), ← hr_ 9 (by decide), ← hr_ 10 (by decide)]
    exact g.2.2.2
theorem rxdLF_2_0 {S0 : Nat → Int → Int} {ws : List Int} {S : Nat → Int → Int} {op arg is2 x11 : Int} (hP : rxPLF S0 ws) (hin : bx_same rxL (bx_mdl rxCLF.2.2.1) S0 S) (hin2 : bx_same rxL (bx_mdl rxCLF.2.2.1) S S) (I0 : bx_Inv rxL S) (I1 : bx_Inv rxL S) (hinv : rxILF_2 S0 ws S op arg is2) (l8 : 0 ≤ op) (u8 : op ≤ 8) (l9 : 0 ≤ arg) (u9 : arg ≤ 1000) (l10 : 0 ≤ is2) (u10 : is2 ≤ 1) (l11 : 1 ≤ x11) (u11 : x11 ≤ 1) (f0 : x11 ≠ 0) (e0 : S 480 14 = x11) : (True) ∧ rxPSLF S0 ws S none := by
  obtain ⟨h1, h2, h3, h4⟩ := hinv
  obtain ⟨⟨p1, p2, p3, p4⟩, p5, -⟩ := hP
  have k18 := h2.1
  have k24 := h2.2.1
  have b24 := rxBox24 I0
  have g := h4 (by omega)
  exact ⟨trivial, rfl, h1, h2.pz p2 (by omega), by omega, by omega, fun q => by omega⟩
theorem rxfLF_2_0 {X : (Nat → Int → Int) → Prop} {S0 : Nat → Int → Int} {ws : List Int} (hP : rxPLF S0 ws) : bx_obE rxL X S0 rxCLF.2.2.1 (rxILF S0 ws) (rxPSLF S0 ws) 2 rxzLF_2 rxeLF_2_0 := by
  intro S S_p r r_p hinv hX hin hsm_ hseg
  obtain ⟨I0, I1, h0_, hr_, b_, f_, d_⟩ := bx_cl (evs := [(0, (0, 480), (0, 14), .inr (0, (11, 0)))]) (fvs := [(3, (11, 0), (0, 0), (0, 0))]) hseg (by decide +kernel) (by decide +kernel)
  have hinv : rxILF_2 S0 ws S (r 8) (r 9) (r 10) := hinv
  rw [← hr_ 8 (by decide), ← hr_ 9 (by decide), ← hr_ 10 (by decide)] at hinv
  obtain ⟨⟨l8, u8⟩, ⟨l9, u9⟩, ⟨l10, u10⟩, ⟨l11, u11⟩, -⟩ := b_
  obtain ⟨f0, -⟩ := f_
  obtain ⟨e0, w_⟩ := d_
  subst w_
  have g := rxdLF_2_0 hP hin hsm_ I0 I1 hinv l8 u8 l9 u9 l10 u10 l11 u11 f0 e0
  refine ⟨bx_narP_ok (l := []) g.1, ?_⟩
  exact g.2
theorem rxcLF_4_0 {S0 : Nat → Int → Int} {ws : List Int} {S : Nat → Int → Int} {op arg op2 arg2 x12 : Int} (hP : rxPLF S0 ws) (hin : bx_same rxL (bx_mdl rxCLF.2.2.1) S0 S) (I0 : bx_Inv rxL S) (hinv : rxILF_4 S0 ws S op arg op2 arg2) (l8 : 0 ≤ op) (u8 : op ≤ 8) (l9 : 0 ≤ arg) (u9 : arg ≤ 1000) (l10 : 0 ≤ op2) (u10 : op2 ≤ 8) (l11 : 0 ≤ arg2) (u11 : arg2 ≤ 1000) (l12 : 0 ≤ x12) (u12 : x12 ≤ 50) (e0 : S 480 21 = x12) : ((0 ≤ x12 ∧ x12 ≤ 49) ∧ True) ∧ (True) ∧ rxILF_5 S0 ws S op arg x12 ∧ rxmLF_5 S0 ws S op arg x12 < rxmLF_4 S0 ws S op arg op2 arg2 := by
  obtain ⟨h1, h2⟩ := hinv
  exact ⟨⟨by omega, trivial⟩, trivial, h2, by unfold rxmLF_4 rxmLF_5; omega⟩
theorem rxgLF_4_0 {X : (Nat → Int → Int) → Prop} {S0 : Nat → Int → Int} {ws : List Int} (hP : rxPLF S0 ws) : bx_obC rxL X S0 rxCLF.2.2.1 (rxILF S0 ws) (rxmLF S0 ws) 4 rxzLF_4 rxoLF_4_0 := by
  intro S S_p r r_p hinv hX hin hsm_ hseg
  obtain ⟨I0, I1, h0_, hr_, b_, f_, d_⟩ := bx_cl (evs := [(0, (0, 480), (0, 21), .inr (0, (12, 0)))]) (fvs := []) hseg (by decide +kernel) (by decide +kernel)
  have hinv : rxILF_4 S0 ws S (r 8) (r 9) (r 10) (r 11) := hinv
  rw [← hr_ 8 (by decide), ← hr_ 9 (by decide), ← hr_ 10 (by decide), ← hr_ 11 (by decide)] at hinv
  obtain ⟨⟨l8, u8⟩, ⟨l9, u9⟩, ⟨l10, u10⟩, ⟨l11, u11⟩, ⟨l12, u12⟩, -⟩ := b_
  obtain ⟨e0, w_⟩ := d_
  subst w_
  have g := rxcLF_4_0 hP hin I0 hinv l8 u8 l9 u9 l10 u10 l11 u11 l12 u12 e0
  refine ⟨bx_narP_ok (l := [(12, 0, 49)]) g.1, bx_nfP_ok h0_ (fvs := []) (by decide +kernel) g.2.1, ?_, ?_⟩
  · show rxILF_5 S0 ws S_p (bx_val [(0, 0), (0, 0), (0, 0), (0, 0), (0, 0), (0, 0), (0, 0), (0, 0), (8, 0), (9, 0), (12, 0)] r_p 8) (bx_val [(0, 0), (0, 0), (0, 0), (0, 0), (0, 0), (0, 0), (0, 0), (0, 0), (8, 0), (9, 0), (12, 0)] r_p 9) (bx_val [(0, 0), (0, 0), (0, 0), (0, 0), (0, 0), (0, 0), (0, 0), (0, 0), (8, 0), (9, 0), (12, 0)] r_p 10)
    rw [bx_val_x (n := 8) (e := (8, 0)) h0_ rfl, bx_val_x (n := 9) (e := (9, 0)) h0_ rfl, bx_val_x (n := 10) (e := (12, 0)) h0_ rfl]
    exact g.2.2.1
  · show rxmLF_5 S0 ws S_p (bx_val [(0, 0), (0, 0), (0, 0), (0, 0), (0, 0), (0, 0), (0, 0), (0, 0), (8, 0), (9, 0), (12, 0)] r_p 8) (bx_val [(0, 0), (0, 0), (0, 0), (0, 0), (0, 0), (0, 0), (0, 0), (0, 0), (8, 0), (9, 0), (12, 0)] r_p 9) (bx_val [(0, 0), (0, 0), (0, 0), (0, 0), (0, 0), (0, 0), (0, 0), (0, 0), (8, 0), (9, 0), (12, 0)] r_p 10) < rxmLF_4 S0 ws S_p (r 8) (r 9) (r 10) (r 11)
    rw [bx_val_x (n := 8) (e := (8, 0)) h0_ rfl, bx_val_x (n := 9) (e := (9, 0)) h0_ rfl, bx_val_x (n := 10) (e := (12, 0)) h0_ rfl, ← hr_ 8 (by decide), ← hr_ 9 (by decide), ← hr_ 10 (by decide), ← hr_ 11 (by decide)]
    exact g.2.2.2
theorem rxdLF_5_0 {S0 : Nat → Int → Int} {ws : List Int} {S : Nat → Int → Int} {op arg q : Int} (hP : rxPLF S0 ws) (hin : bx_same rxL (bx_mdl rxCLF.2.2.1) S0 S) (hin2 : bx_same rxL (bx_mdl rxCLF.2.2.1) S (bx_up S 480 21 (q + 1))) (I0 : bx_Inv rxL S) (I1 : bx_Inv rxL (bx_up S 480 21 (q + 1))) (hinv : rxILF_5 S0 ws S op arg q) (l8 : 0 ≤ op) (u8 : op ≤ 8) (l9 : 0 ≤ arg) (u9 : arg ≤ 1000) (l10 : 0 ≤ q) (u10 : q ≤ 49) : (True) ∧ rxPSLF S0 ws (bx_up S 480 21 (q + 1)) none := by
  obtain ⟨h1, h2, h3, h4, h5⟩ := hinv
  have f9 : (bx_up S 480 21 (q + 1)) 480 9 = S 480 9 := by simp [bx_up]
  have f14 : (bx_up S 480 21 (q + 1)) 480 14 = S 480 14 := by simp [bx_up]
  have f18 : (bx_up S 480 21 (q + 1)) 480 18 = S 480 18 := by simp [bx_up]
  have f24 : (bx_up S 480 21 (q + 1)) 480 24 = S 480 24 := by simp [bx_up]
  have hTk : rxTk (bx_up S 480 21 (q + 1)) := by
    unfold rxTk
    simp [bx_up]
    unfold rxTk at h1
    omega
  have hsm : rxSm S (bx_up S 480 21 (q + 1)) := ⟨f18, f24, by simp [bx_up], fun i _ _ => ⟨by simp [bx_up], by simp [bx_up], by simp [bx_up], by simp [bx_up]⟩⟩
  have b18 := rxBox18 I0
  have b24 := rxBox24 I0
  exact ⟨trivial, rfl, hTk, hsm.pz h2 b24.2, by omega, by omega, fun q => ⟨(h5 (by omega)).1.tr (hsm.ef b24.2 b18.2 1), by have := (h5 (by omega)).2; omega⟩⟩
theorem rxfLF_5_0 {X : (Nat → Int → Int) → Prop} {S0 : Nat → Int → Int} {ws : List Int} (hP : rxPLF S0 ws) : bx_obE rxL X S0 rxCLF.2.2.1 (rxILF S0 ws) (rxPSLF S0 ws) 5 rxzLF_5 rxeLF_5_0 := by
  intro S S_p r r_p hinv hX hin hsm_ hseg
  obtain ⟨I0, I1, h0_, hr_, b_, f_, d_⟩ := bx_cl (evs := [(1, (0, 480), (0, 21), .inr (0, (10, 1)))]) (fvs := []) hseg (by decide +kernel) (by decide +kernel)
  have hinv : rxILF_5 S0 ws S (r 8) (r 9) (r 10) := hinv
  rw [← hr_ 8 (by decide), ← hr_ 9 (by decide), ← hr_ 10 (by decide)] at hinv
  obtain ⟨⟨l8, u8⟩, ⟨l9, u9⟩, ⟨l10, u10⟩, -⟩ := b_
  obtain ⟨T0, w_, w0⟩ := d_
  subst w0
  subst w_
  have g := rxdLF_5_0 hP hin hsm_ I0 I1 hinv l8 u8 l9 u9 l10 u10
  refine ⟨bx_narP_ok (l := []) g.1, ?_⟩
  exact g.2
theorem rxgCLF {X : (Nat → Int → Int) → Prop} {S0 : Nat → Int → Int} {ws : List Int} (hP : rxPLF S0 ws) : bx_allI (fun i q => rxULF q = true ∨ bx_allP (fun o => bx_obC rxL X S0 rxCLF.2.2.1 (rxILF S0 ws) (rxmLF S0 ws) i q.1 o) q.2.1) 0 rxYLF := ⟨Or.inr ⟨rxgLF_0_0 hP, rxgLF_0_1 hP, rxgLF_0_2 hP, trivial⟩, Or.inl rfl, Or.inr ⟨rxgLF_2_0 hP, trivial⟩, Or.inl rfl, Or.inr ⟨rxgLF_4_0 hP, trivial⟩, Or.inr trivial, trivial⟩
theorem rxgELF {X : (Nat → Int → Int) → Prop} {S0 : Nat → Int → Int} {ws : List Int} (hP : rxPLF S0 ws) : bx_allI (fun i q => rxULF q = true ∨ bx_allP (fun E => bx_obE rxL X S0 rxCLF.2.2.1 (rxILF S0 ws) (rxPSLF S0 ws) i q.1 E) q.2.2) 0 rxYLF := ⟨Or.inr trivial, Or.inl rfl, Or.inr ⟨rxfLF_2_0 hP, trivial⟩, Or.inl rfl, Or.inr trivial, Or.inr ⟨rxfLF_5_0 hP, trivial⟩, trivial⟩
theorem rxuLF {PX : State → Prop} {Dg : va_G} {A : Nat → Prop} {ad xa : Nat → Nat} {l : Launch} {X : (Nat → Int → Int) → Prop} (hPX : rx_PXOK rxNW A PX) (hX : ∀ S S1 : Nat → Int → Int, X S → bx_same rxL (bx_mdl rxCLF.2.2.1) S S1 → X S1) (hQMU : bx_ConP rxG rxNW rxAO PX Dg rxL X vwCl A ad l rxM265 rxCMU rxPMU rxPSMU) (hQEM : bx_ConP rxG rxNW rxAO PX Dg rxL X vwCl A ad l rxM266 rxCEM rxPEM rxPSEM) {S0 : Nat → Int → Int} {ws : List Int} (hP : rxPLF S0 ws) : ∀ (i : Nat) (q : bx_HE), rxYLF[i]? = some q → rxULF q = true → ∀ {p : Program} {e : Env} {R : Room} {s : State} {m : MethodId} {args : Array Value} {below : List Frame} {meth : Method} {c : Code} {Q : State → Prop} {H0 : Heap}, rx_Fr rxG rxNW rxAO PX p s m args meth c rxM273 → (∀ q, H0.size ≤ q → A q) → H0 = s.heap → rxM273.2.2.2.2.2.2.1 ≤ R.cells → rxM273.2.2.2.2.2.2.2 ≤ R.slots → rxCLF.2.2.2.1 ≤ R.frames → rxCLF.2.2.2.1 * 40 ≤ R.locals → bx_Step p l e R s m args below meth c Q Dg rxL X vwCl A xa H0 ad rxM273 rxYLF (rxILF S0 ws) (rxmLF S0 ws) S0 rxCLF.2.2.1 i q := by
  intro i q hq hus p e R s m args below meth c Q H0 hF hA hH0 hmc hms hd hdl
  match i, hq with
  | 0, hq =>
    cases hq
    exact absurd (show false = true from hus) Bool.false_ne_true
  | 1, hq =>
    cases hq
    exact rx_stepC (ins := .invokevirtual 284) (len := 3) (i_p := 2) (M_p := rxM265) (d := rxCLF.2.2.2.1) (as := [.inr (3, (0, 480)), .inr (0, (10, 0))]) (t := []) (ct := rxCMU) hPX hF rfl hA hH0 hmc hms hd hdl (by decide +kernel) rfl rfl (by decide +kernel) (by decide +kernel) hQMU (by decide +kernel) rfl (Or.inl ⟨rfl, rfl, rfl⟩) (rxsLF_1 hP)
  | 2, hq =>
    cases hq
    exact absurd (show false = true from hus) Bool.false_ne_true
  | 3, hq =>
    cases hq
    exact rx_stepC (ins := .invokevirtual 297) (len := 3) (i_p := 4) (M_p := rxM266) (d := rxCLF.2.2.2.1) (as := [.inr (3, (0, 480)), .inr (0, (10, 0)), .inr (0, (11, 0))]) (t := []) (ct := rxCEM) hPX hF rfl hA hH0 hmc hms hd hdl (by decide +kernel) rfl rfl (by decide +kernel) (by decide +kernel) hQEM (by decide +kernel) rfl (Or.inl ⟨rfl, rfl, rfl⟩) (rxsLF_3 hP)
  | 4, hq =>
    cases hq
    exact absurd (show false = true from hus) Bool.false_ne_true
  | 5, hq =>
    cases hq
    exact absurd (show false = true from hus) Bool.false_ne_true
  | n + 6, hq => cases hq
theorem rxQLF {PX : State → Prop} {Dg : va_G} {A : Nat → Prop} {ad xa : Nat → Nat} {l : Launch} {X : (Nat → Int → Int) → Prop} (hPX : rx_PXOK rxNW A PX) (hsl : ∀ s : State, PX s → ∀ o idx n : Nat, rxSl o idx = some n → ∃ tx : String, vk_R (rxNm o) idx tx (ad n) s)
    (hX : ∀ S S_p : Nat → Int → Int, X S → bx_same rxL (bx_mdl rxCLF.2.2.1) S S_p → X S_p)
    (ih : ∀ (j2 : Nat) (ct2 : bx_Ct) (M2 : rx_Mt), ct2 ∈ rxCnE j2 → ct2.2.2.2.1 + 1 ≤ rxCLF.2.2.2.1 → rxT.2.2.2.2.2 j2 = some M2 → bx_Con rxG rxNW rxAO PX Dg rxL X vwCl A ad l M2 ct2) (hQMU : bx_ConP rxG rxNW rxAO PX Dg rxL X vwCl A ad l rxM265 rxCMU rxPMU rxPSMU) (hQEM : bx_ConP rxG rxNW rxAO PX Dg rxL X vwCl A ad l rxM266 rxCEM rxPEM rxPSEM) : bx_ConP rxG rxNW rxAO PX Dg rxL X vwCl A ad l rxM273 rxCLF rxPLF rxPSLF :=
  rxQof (xa := xa) (Cn := rxCnE) (f := 30000) (j := 273) (tab := rxYLF) (us := rxULF) hPX hsl hX ih rfl rxYcLF rxILF rxmLF
    (fun S0 ws r I0 I ht0 ht as he he1 hX0 hI0 hP hs ha => by
      have e := he.symm.trans (show bx_ent0 rxNP rxCLF.1 bx_I0 [] = some ([(0, 0), (0, 0), (0, 0), (0, 0), (0, 0), (0, 0), (0, 0), (0, 0), (0, 1), (0, 8), (0, 1000)], [], [.inr (3, (0, 480)), .inr (0, (8, 0)), .inr (0, (9, 0)), .inr (0, (10, 0))]) from rfl)
      cases e
      subst ha
      have h0 : r 0 = 0 := hs.1
      show rxILF_0 S0 _ S0 (r 8) (r 9) (r 10)
      refine ⟨rfl, ?_⟩
      simp only [List.map_cons, List.map_nil, bx_xv_ok h0]
      rfl)
    (fun S0 ws hP => rxuLF (xa := xa) hPX hX hQMU hQEM hP) (fun S0 ws hP => rxgCLF hP) (fun S0 ws hP => rxgELF hP)
