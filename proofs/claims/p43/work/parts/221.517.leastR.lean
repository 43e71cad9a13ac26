/-! CONTRACT BY HAND, by program (wip/sim/genhand.py): DeadUnderstudiesModel.least -/
def rxILLR_0 (S0 : Nat → Int → Int) (ws : List Int) (S : Nat → Int → Int) (what : Int) : Prop := S = S0 ∧ ws = [480, what]
def rxmLLR_0 (S0 : Nat → Int → Int) (ws : List Int) (S : Nat → Int → Int) (what : Int) : Nat := 100
def rxzLLR_0 : rx_Z := ([(0, 0), (0, 0), (0, 0), (0, 0), (0, 0), (0, 0), (0, 0), (0, 0), ((-2147483648), 2147483647)], [], [], 0, 0, 0, [(0, .inr (3, (0, 480))), (1, .inr (0, (8, 0)))], [])
def rxILLR_1 (S0 : Nat → Int → Int) (ws : List Int) (S : Nat → Int → Int) (wh : Int) : Prop := (∀ (p : Nat) (j : Int), p ≠ 480 → S p j = S0 p j) ∧ ws = [480, wh]
def rxmLLR_1 (S0 : Nat → Int → Int) (ws : List Int) (S : Nat → Int → Int) (wh : Int) : Nat := 90
def rxzLLR_1 : rx_Z := ([(0, 0), (0, 0), (0, 0), (0, 0), (0, 0), (0, 0), (0, 0), (0, 0), (0, 1)], [], [], 0, 0, 20, [(0, .inr (3, (0, 480))), (1, .inr (0, (8, 0)))], [.inr (0, (0, 0)), .inr (0, (0, 0)), .inr (3, (0, 480))])
def rxILLR_2 (S0 : Nat → Int → Int) (ws : List Int) (S : Nat → Int → Int) (wh v : Int) : Prop := ws = [480, wh] ∧ ldW (ldN (S0 482 6) (ldrr S0) (ldrc S0) (ldrw S0)) v ∧ (v = -1 → S 480 69 = 0) ∧ (v ≠ -1 → S 480 69 = (ldN (S0 482 6) (ldrr S0) (ldrc S0) (ldrw S0) v : Nat))
def rxmLLR_2 (S0 : Nat → Int → Int) (ws : List Int) (S : Nat → Int → Int) (wh v : Int) : Nat := 80
def rxzLLR_2 : rx_Z := ([(0, 0), (0, 0), (0, 0), (0, 0), (0, 0), (0, 0), (0, 0), (0, 0), (0, 1), ((-1), 3)], [], [], 0, 0, 23, [(0, .inr (3, (0, 480))), (1, .inr (0, (8, 0)))], [.inr (0, (9, 0))])
def rxoLLR_0_0 : bx_HO := (([(0, 0), (0, 0), (0, 0), (0, 0), (0, 0), (0, 0), (0, 0), (0, 0), (0, 1)], [], [(((0, 0), 1851192626986356797424340330377019318111018015026043177836478467000000), .inr (0, (0, 0))), (((0, 480), 0), .inr (0, (0, 0)))], 0, 0, 20, [(0, .inr (3, (0, 480))), (1, .inr (0, (8, 0)))], [.inr (0, (0, 0)), .inr (0, (0, 0)), .inr (3, (0, 480))]), [], [], [(0, 0), (0, 0), (0, 0), (0, 0), (0, 0), (0, 0), (0, 0), (0, 0), (8, 0)], 1)
def rxeLLR_0_0 : rx_End × List (Nat × Int × Int) := (([(0, 0), (0, 0), (0, 0), (0, 0), (0, 0), (0, 0), (0, 0), (0, 0), ((-2147483648), (-1))], [], [(((0, 0), 1851192626986356797424340330377019318111018015026043177836478467000000), .inr (0, (0, 0))), (((0, 480), 0), .inr (0, (0, 0)))], some (.inr (0, (0, (-1))))), [])
def rxeLLR_0_1 : rx_End × List (Nat × Int × Int) := (([(0, 0), (0, 0), (0, 0), (0, 0), (0, 0), (0, 0), (0, 0), (0, 0), (2, 2147483647)], [], [(((0, 0), 1851192626986356797424340330377019318111018015026043177836478467000000), .inr (0, (0, 0))), (((0, 480), 0), .inr (0, (0, 0)))], some (.inr (0, (0, (-1))))), [])
def rxeLLR_2_0 : rx_End × List (Nat × Int × Int) := (([(0, 0), (0, 0), (0, 0), (0, 0), (0, 0), (0, 0), (0, 0), (0, 0), (0, 0), ((-1), 3)], [], [], some (.inr (0, (9, 0)))), [])
def rxeLLR_2_1 : rx_End × List (Nat × Int × Int) := (([(0, 0), (0, 0), (0, 0), (0, 0), (0, 0), (0, 0), (0, 0), (0, 0), (1, 1), ((-1), 3), ((-2147483648), 2147483647)], [(3, (8, 0), (0, 0))], [(((0, 0), 1851192626986356811273103098664536289004699062340675673050316800000000), .inr (0, (10, 0))), (((0, 480), 69), .inr (0, (10, 0)))], some (.inr (0, (10, 0)))), [])
def rxYLLR : List bx_HE := [(rxzLLR_0, [rxoLLR_0_0], [rxeLLR_0_0, rxeLLR_0_1]), (rxzLLR_1, [], []), (rxzLLR_2, [], [rxeLLR_2_0, rxeLLR_2_1])]
def rxULLR (q : bx_HE) : Bool := Nat.beq (rx_zpc q.1) 20
def rxYBLLR : bx_B := (rxV, rxNP, rxDmf, bx_mdH rxC201.2.2.1)
set_option maxRecDepth 100000 in
theorem rxYcLLR : bx_chkH rxYBLLR rxM201 rxC201 rxYLLR (rxULLR, fun cut z => rx_ex2 (rxCT rxYBLLR rxCnE) cut 30000 rxC201.2.2.2.1 201 z) = true := by decide +kernel
def rxILLR (S0 : Nat → Int → Int) (ws : List Int) (i : Nat) : bx_SP := fun S r => match i with | 0 => rxILLR_0 S0 ws S (r 8) | 1 => rxILLR_1 S0 ws S (r 8) | 2 => rxILLR_2 S0 ws S (r 8) (r 9) | _ => False
def rxmLLR (S0 : Nat → Int → Int) (ws : List Int) (i : Nat) (S : Nat → Int → Int) (r : Nat → Int) : Nat := match i with | 0 => rxmLLR_0 S0 ws S (r 8) | 1 => rxmLLR_1 S0 ws S (r 8) | 2 => rxmLLR_2 S0 ws S (r 8) (r 9) | _ => 0
def rxPLLR (S0 : Nat → Int → Int) (ws : List Int) : Prop := True
def rxPSLLR (S0 : Nat → Int → Int) (ws : List Int) (S : Nat → Int → Int) (w : Option Int) : Prop := ∃ what v : Int, ws = [480, what] ∧ w = some v ∧ ldAl (S0 482 6) (ldrr S0) (ldrc S0) (ldrw S0) what v
theorem rxkLLR_1 {S0 : Nat → Int → Int} {ws : List Int} {S : Nat → Int → Int} {wh : Int} (hP : rxPLLR S0 ws) (hin : bx_same rxL (bx_mdl rxC201.2.2.1) S0 S) (I0 : bx_Inv rxL S) (hinv : rxILLR_1 S0 ws S wh) (l8 : 0 ≤ wh) (u8 : wh ≤ 1) : rxPLFL S [480, 0, 0] ∧ ∀ (S' : Nat → Int → Int) (v : Int), (-1) ≤ v → v ≤ 3 → rxPSLFL S [480, 0, 0] S' (some v) → bx_Inv rxL S' → bx_same rxL (bx_mdl rxCLFL.2.2.1) S S' → rxILLR_2 S0 ws S' wh v ∧ rxmLLR_2 S0 ws S' wh v < rxmLLR_1 S0 ws S wh := by
  obtain ⟨h1, hw⟩ := hinv
  refine ⟨trivial, fun S' v g0 g1 hq I1 hsm => ?_⟩
  obtain ⟨r9, c9, v9, hw9, hv, hW, ha, hb⟩ := hq
  have hv := Option.some.inj hv
  subst hv
  have e : ∀ p : Nat, p ≠ 480 → S p = S0 p := fun p hp => funext fun j => h1 p j hp
  have er : ldrr S = ldrr S0 := by
    unfold ldrr
    rw [e 482 (by omega)]
  have ec : ldrc S = ldrc S0 := by
    unfold ldrc
    rw [e 482 (by omega)]
  have ew : ldrw S = ldrw S0 := by
    unfold ldrw
    rw [e 482 (by omega)]
  rw [e 482 (by omega), er, ec, ew] at hW hb
  exact ⟨⟨hw, hW, ha, fun q => (hb q).1⟩, by unfold rxmLLR_1 rxmLLR_2; omega⟩
theorem rxsLLR_1 {X : (Nat → Int → Int) → Prop} {S0 : Nat → Int → Int} {ws : List Int} (hP : rxPLLR S0 ws) : rx_obK X S0 rxC201.2.2.1 rxCLFL.2.2.1 (rxILLR S0 ws) (rxmLLR S0 ws) 1 2 rxzLLR_1 rxzLLR_2 [.inr (3, (0, 480)), .inr (0, (0, 0)), .inr (0, (0, 0))] (some 9) rxPLFL rxPSLFL := by
  intro S r hinv hXS I0 hin hs_ hf_
  have b_ := bx_bds_sat hs_
  have f_ := bx_fcl_ok hs_.1 hf_
  obtain ⟨⟨l8, u8⟩, -⟩ := b_
  have g := rxkLLR_1 hP hin I0 hinv l8 u8
  have ea : List.map (bx_num r) [.inr (3, (0, 480)), .inr (0, (0, 0)), .inr (0, (0, 0))] = [480, 0, 0] := by
    simp only [List.map_cons, List.map_nil, bx_xv_ok hs_.1]
    rfl
  rw [ea]
  refine ⟨g.1, fun S' w r' hPS hX' I1 hsm hr hw hs' => ?_⟩
  have hw := hw _ rfl
  subst hw
  have b' := hs'.2.2 9 _ _ rfl
  have g2 := g.2 S' (r' 9) b'.1 b'.2 hPS I1 hsm
  show rxILLR_2 S0 ws S' (r' 8) (r' 9) ∧ rxmLLR_2 S0 ws S' (r' 8) (r' 9) < _
  rw [hr 8 (by decide)]
  exact g2
theorem rxcLLR_0_0 {S0 : Nat → Int → Int} {ws : List Int} {S : Nat → Int → Int} {what : Int} (hP : rxPLLR S0 ws) (hin : bx_same rxL (bx_mdl rxC201.2.2.1) S0 S) (I0 : bx_Inv rxL S) (hinv : rxILLR_0 S0 ws S what) (l8 : 0 ≤ what) (u8 : what ≤ 1) : (True) ∧ (True) ∧ rxILLR_1 S0 ws (bx_up S 480 0 0) what ∧ rxmLLR_1 S0 ws (bx_up S 480 0 0) what < rxmLLR_0 S0 ws S what := by
  obtain ⟨rfl, hw⟩ := hinv
  exact ⟨by first | trivial | exact ⟨by omega, trivial⟩, trivial, ⟨fun p j hp => bx_up_ne (fun q => hp q.1), hw⟩, by unfold rxmLLR_0 rxmLLR_1; omega⟩
theorem rxgLLR_0_0 {X : (Nat → Int → Int) → Prop} {S0 : Nat → Int → Int} {ws : List Int} (hP : rxPLLR S0 ws) : bx_obC rxL X S0 rxC201.2.2.1 (rxILLR S0 ws) (rxmLLR S0 ws) 0 rxzLLR_0 rxoLLR_0_0 := by
  intro S S' r r' hinv hX hin hsm_ hseg
  obtain ⟨I0, I1, h0_, hr_, b_, f_, d_⟩ := bx_cl (evs := [(1, (0, 480), (0, 0), .inr (0, (0, 0)))]) (fvs := []) hseg (by decide +kernel) (by decide +kernel)
  have hinv : rxILLR_0 S0 ws S (r 8) := hinv
  rw [← hr_ 8 (by decide)] at hinv
  obtain ⟨⟨l8, u8⟩, -⟩ := b_
  obtain ⟨T0, w_, w0⟩ := d_
  subst w0
  subst w_
  have g := rxcLLR_0_0 hP hin I0 hinv l8 u8
  refine ⟨bx_narP_ok (l := []) g.1, bx_nfP_ok h0_ (fvs := []) (by decide +kernel) g.2.1, ?_, ?_⟩
  · show rxILLR_1 S0 ws (bx_up T0 480 (0) (0)) (bx_val [(0, 0), (0, 0), (0, 0), (0, 0), (0, 0), (0, 0), (0, 0), (0, 0), (8, 0)] r' 8)
    rw [bx_val_x (n := 8) (e := (8, 0)) h0_ rfl]
    exact g.2.2.1
  · show rxmLLR_1 S0 ws (bx_up T0 480 (0) (0)) (bx_val [(0, 0), (0, 0), (0, 0), (0, 0), (0, 0), (0, 0), (0, 0), (0, 0), (8, 0)] r' 8) < rxmLLR_0 S0 ws T0 (r 8)
    rw [bx_val_x (n := 8) (e := (8, 0)) h0_ rfl, ← hr_ 8 (by decide)]
    exact g.2.2.2
theorem rxdLLR_0_0 {S0 : Nat → Int → Int} {ws : List Int} {S : Nat → Int → Int} {what : Int} (hP : rxPLLR S0 ws) (hin : bx_same rxL (bx_mdl rxC201.2.2.1) S0 S) (hin2 : bx_same rxL (bx_mdl rxC201.2.2.1) S (bx_up S 480 0 0)) (I0 : bx_Inv rxL S) (I1 : bx_Inv rxL (bx_up S 480 0 0)) (hinv : rxILLR_0 S0 ws S what) (l8 : (-2147483648) ≤ what) (u8 : what ≤ (-1)) : (True) ∧ rxPSLLR S0 ws (bx_up S 480 0 0) (some ((-1))) := by
  obtain ⟨rfl, hw⟩ := hinv
  exact ⟨trivial, what, _, hw, rfl, fun _ => rfl, fun q => by omega, fun q => by omega⟩
theorem rxfLLR_0_0 {X : (Nat → Int → Int) → Prop} {S0 : Nat → Int → Int} {ws : List Int} (hP : rxPLLR S0 ws) : bx_obE rxL X S0 rxC201.2.2.1 (rxILLR S0 ws) (rxPSLLR S0 ws) 0 rxzLLR_0 rxeLLR_0_0 := by
  intro S S' r r' hinv hX hin hsm_ hseg
  obtain ⟨I0, I1, h0_, hr_, b_, f_, d_⟩ := bx_cl (evs := [(1, (0, 480), (0, 0), .inr (0, (0, 0)))]) (fvs := []) hseg (by decide +kernel) (by decide +kernel)
  have hinv : rxILLR_0 S0 ws S (r 8) := hinv
  rw [← hr_ 8 (by decide)] at hinv
  obtain ⟨⟨l8, u8⟩, -⟩ := b_
  obtain ⟨T0, w_, w0⟩ := d_
  subst w0
  subst w_
  have g := rxdLLR_0_0 hP hin hsm_ I0 I1 hinv l8 u8
  refine ⟨bx_narP_ok (l := []) g.1, ?_⟩
  show rxPSLLR S0 ws (bx_up T0 480 (0) (0)) (some (bx_num r' (.inr (0, (0, (-1))))))
  rw [bx_xv_ok h0_]
  exact g.2
theorem rxdLLR_0_1 {S0 : Nat → Int → Int} {ws : List Int} {S : Nat → Int → Int} {what : Int} (hP : rxPLLR S0 ws) (hin : bx_same rxL (bx_mdl rxC201.2.2.1) S0 S) (hin2 : bx_same rxL (bx_mdl rxC201.2.2.1) S (bx_up S 480 0 0)) (I0 : bx_Inv rxL S) (I1 : bx_Inv rxL (bx_up S 480 0 0)) (hinv : rxILLR_0 S0 ws S what) (l8 : 2 ≤ what) (u8 : what ≤ 2147483647) : (True) ∧ rxPSLLR S0 ws (bx_up S 480 0 0) (some ((-1))) := by
  obtain ⟨rfl, hw⟩ := hinv
  exact ⟨trivial, what, _, hw, rfl, fun _ => rfl, fun q => by omega, fun q => by omega⟩
theorem rxfLLR_0_1 {X : (Nat → Int → Int) → Prop} {S0 : Nat → Int → Int} {ws : List Int} (hP : rxPLLR S0 ws) : bx_obE rxL X S0 rxC201.2.2.1 (rxILLR S0 ws) (rxPSLLR S0 ws) 0 rxzLLR_0 rxeLLR_0_1 := by
  intro S S' r r' hinv hX hin hsm_ hseg
  obtain ⟨I0, I1, h0_, hr_, b_, f_, d_⟩ := bx_cl (evs := [(1, (0, 480), (0, 0), .inr (0, (0, 0)))]) (fvs := []) hseg (by decide +kernel) (by decide +kernel)
  have hinv : rxILLR_0 S0 ws S (r 8) := hinv
  rw [← hr_ 8 (by decide)] at hinv
  obtain ⟨⟨l8, u8⟩, -⟩ := b_
  obtain ⟨T0, w_, w0⟩ := d_
  subst w0
  subst w_
  have g := rxdLLR_0_1 hP hin hsm_ I0 I1 hinv l8 u8
  refine ⟨bx_narP_ok (l := []) g.1, ?_⟩
  show rxPSLLR S0 ws (bx_up T0 480 (0) (0)) (some (bx_num r' (.inr (0, (0, (-1))))))
  rw [bx_xv_ok h0_]
  exact g.2
theorem rxdLLR_2_0 {S0 : Nat → Int → Int} {ws : List Int} {S : Nat → Int → Int} {wh v : Int} (hP : rxPLLR S0 ws) (hin : bx_same rxL (bx_mdl rxC201.2.2.1) S0 S) (hin2 : bx_same rxL (bx_mdl rxC201.2.2.1) S S) (I0 : bx_Inv rxL S) (I1 : bx_Inv rxL S) (hinv : rxILLR_2 S0 ws S wh v) (l8 : 0 ≤ wh) (u8 : wh ≤ 0) (l9 : (-1) ≤ v) (u9 : v ≤ 3) : (True) ∧ rxPSLLR S0 ws S (some v) := by
  obtain ⟨hw, hW, ha, hb⟩ := hinv
  rcases (show wh = 0 ∨ wh = 1 by omega) with q | q
  · first
      | (exfalso; omega)
      | exact ⟨trivial, wh, v, hw, rfl, fun q => by omega, fun _ => hW, fun q => by omega⟩
  · first
      | (exfalso; omega)
      | (refine ⟨trivial, wh, _, hw, rfl, fun q => by omega, fun q => by omega, fun _ => ⟨v, hW, ?_⟩⟩
         by_cases hv : v = -1
         · rw [if_pos (by omega)]
           have := ha hv
           omega
         · have := hb hv
           unfold ldW at hW
           rw [if_neg (by omega)]
           omega)
theorem rxfLLR_2_0 {X : (Nat → Int → Int) → Prop} {S0 : Nat → Int → Int} {ws : List Int} (hP : rxPLLR S0 ws) : bx_obE rxL X S0 rxC201.2.2.1 (rxILLR S0 ws) (rxPSLLR S0 ws) 2 rxzLLR_2 rxeLLR_2_0 := by
  intro S S' r r' hinv hX hin hsm_ hseg
  obtain ⟨I0, I1, h0_, hr_, b_, f_, d_⟩ := bx_cl (evs := []) (fvs := []) hseg (by decide +kernel) (by decide +kernel)
  have hinv : rxILLR_2 S0 ws S (r 8) (r 9) := hinv
  rw [← hr_ 8 (by decide), ← hr_ 9 (by decide)] at hinv
  obtain ⟨⟨l8, u8⟩, ⟨l9, u9⟩, -⟩ := b_
  have w_ := d_
  subst w_
  have g := rxdLLR_2_0 hP hin hsm_ I0 I1 hinv l8 u8 l9 u9
  refine ⟨bx_narP_ok (l := []) g.1, ?_⟩
  show rxPSLLR S0 ws S' (some (bx_num r' (.inr (0, (9, 0)))))
  rw [bx_xv_ok h0_]
  exact g.2
theorem rxdLLR_2_1 {S0 : Nat → Int → Int} {ws : List Int} {S : Nat → Int → Int} {wh v x10 : Int} (hP : rxPLLR S0 ws) (hin : bx_same rxL (bx_mdl rxC201.2.2.1) S0 S) (hin2 : bx_same rxL (bx_mdl rxC201.2.2.1) S S) (I0 : bx_Inv rxL S) (I1 : bx_Inv rxL S) (hinv : rxILLR_2 S0 ws S wh v) (l8 : 1 ≤ wh) (u8 : wh ≤ 1) (l9 : (-1) ≤ v) (u9 : v ≤ 3) (l10 : (-2147483648) ≤ x10) (u10 : x10 ≤ 2147483647) (f0 : wh ≠ 0) (e0 : S 480 69 = x10) : (True) ∧ rxPSLLR S0 ws S (some x10) := by
  obtain ⟨hw, hW, ha, hb⟩ := hinv
  rcases (show wh = 0 ∨ wh = 1 by omega) with q | q
  · first
      | (exfalso; omega)
      | exact ⟨trivial, wh, v, hw, rfl, fun q => by omega, fun _ => hW, fun q => by omega⟩
  · first
      | (exfalso; omega)
      | (refine ⟨trivial, wh, _, hw, rfl, fun q => by omega, fun q => by omega, fun _ => ⟨v, hW, ?_⟩⟩
         by_cases hv : v = -1
         · rw [if_pos (by omega)]
           have := ha hv
           omega
         · have := hb hv
           unfold ldW at hW
           rw [if_neg (by omega)]
           omega)
theorem rxfLLR_2_1 {X : (Nat → Int → Int) → Prop} {S0 : Nat → Int → Int} {ws : List Int} (hP : rxPLLR S0 ws) : bx_obE rxL X S0 rxC201.2.2.1 (rxILLR S0 ws) (rxPSLLR S0 ws) 2 rxzLLR_2 rxeLLR_2_1 := by
  intro S S' r r' hinv hX hin hsm_ hseg
  obtain ⟨I0, I1, h0_, hr_, b_, f_, d_⟩ := bx_cl (evs := [(0, (0, 480), (0, 69), .inr (0, (10, 0)))]) (fvs := [(3, (8, 0), (0, 0), (0, 0))]) hseg (by decide +kernel) (by decide +kernel)
  have hinv : rxILLR_2 S0 ws S (r 8) (r 9) := hinv
  rw [← hr_ 8 (by decide), ← hr_ 9 (by decide)] at hinv
  obtain ⟨⟨l8, u8⟩, ⟨l9, u9⟩, ⟨l10, u10⟩, -⟩ := b_
  obtain ⟨f0, -⟩ := f_
  obtain ⟨e0, w_⟩ := d_
  subst w_
  have g := rxdLLR_2_1 hP hin hsm_ I0 I1 hinv l8 u8 l9 u9 l10 u10 f0 e0
  refine ⟨bx_narP_ok (l := []) g.1, ?_⟩
  show rxPSLLR S0 ws S' (some (bx_num r' (.inr (0, (10, 0)))))
  rw [bx_xv_ok h0_]
  exact g.2
theorem rxgCLLR {X : (Nat → Int → Int) → Prop} {S0 : Nat → Int → Int} {ws : List Int} (hP : rxPLLR S0 ws) : bx_allI (fun i q => rxULLR q = true ∨ bx_allP (fun o => bx_obC rxL X S0 rxC201.2.2.1 (rxILLR S0 ws) (rxmLLR S0 ws) i q.1 o) q.2.1) 0 rxYLLR := ⟨Or.inr ⟨rxgLLR_0_0 hP, trivial⟩, Or.inl rfl, Or.inr trivial, trivial⟩
theorem rxgELLR {X : (Nat → Int → Int) → Prop} {S0 : Nat → Int → Int} {ws : List Int} (hP : rxPLLR S0 ws) : bx_allI (fun i q => rxULLR q = true ∨ bx_allP (fun E => bx_obE rxL X S0 rxC201.2.2.1 (rxILLR S0 ws) (rxPSLLR S0 ws) i q.1 E) q.2.2) 0 rxYLLR := ⟨Or.inr ⟨rxfLLR_0_0 hP, rxfLLR_0_1 hP, trivial⟩, Or.inl rfl, Or.inr ⟨rxfLLR_2_0 hP, rxfLLR_2_1 hP, trivial⟩, trivial⟩
theorem rxuLLR {PX : State → Prop} {Dg : va_G} {A : Nat → Prop} {ad xa : Nat → Nat} {l : Launch} {X : (Nat → Int → Int) → Prop} (hPX : rx_PXOK rxNW A PX) (hX : ∀ S S1 : Nat → Int → Int, X S → bx_same rxL (bx_mdl rxC201.2.2.1) S S1 → X S1) (hQLFL : bx_ConP rxG rxNW rxAO PX Dg rxL X vwCl A ad l rxM324 rxCLFL rxPLFL rxPSLFL) {S0 : Nat → Int → Int} {ws : List Int} (hP : rxPLLR S0 ws) : ∀ (i : Nat) (q : bx_HE), rxYLLR[i]? = some q → rxULLR q = true → ∀ {p : Program} {e : Env} {R : Room} {s : State} {m : MethodId} {args : Array Value} {below : List Frame} {meth : Method} {c : Code} {Q : State → Prop} {H0 : Heap}, rx_Fr rxG rxNW rxAO PX p s m args meth c rxM201 → (∀ q, H0.size ≤ q → A q) → H0 = s.heap → rxM201.2.2.2.2.2.2.1 ≤ R.cells → rxM201.2.2.2.2.2.2.2 ≤ R.slots → rxC201.2.2.2.1 ≤ R.frames → rxC201.2.2.2.1 * 40 ≤ R.locals → bx_Step p l e R s m args below meth c Q Dg rxL X vwCl A xa H0 ad rxM201 rxYLLR (rxILLR S0 ws) (rxmLLR S0 ws) S0 rxC201.2.2.1 i q := by
  intro i q hq hus p e R s m args below meth c Q H0 hF hA hH0 hmc hms hd hdl
  match i, hq with
  | 0, hq =>
    cases hq
    exact absurd (show false = true from hus) Bool.false_ne_true
  | 1, hq =>
    cases hq
    exact rx_stepC (ins := .invokevirtual 601) (len := 3) (i' := 2) (M' := rxM324) (d := rxC201.2.2.2.1) (as := [.inr (3, (0, 480)), .inr (0, (0, 0)), .inr (0, (0, 0))]) (t := []) (ct := rxCLFL) hPX hF rfl hA hH0 hmc hms hd hdl (by decide +kernel) rfl rfl (by decide +kernel) (by decide +kernel) hQLFL (by decide +kernel) rfl (Or.inr ⟨_, _, _, 1, rfl, rfl, by omega, rfl, rfl, rfl⟩) (rxsLLR_1 hP)
  | 2, hq =>
    cases hq
    exact absurd (show false = true from hus) Bool.false_ne_true
  | n + 3, hq => cases hq
theorem rxQLLR {PX : State → Prop} {Dg : va_G} {A : Nat → Prop} {ad xa : Nat → Nat} {l : Launch} {X : (Nat → Int → Int) → Prop} (hPX : rx_PXOK rxNW A PX) (hsl : ∀ s : State, PX s → ∀ o idx n : Nat, rxSl o idx = some n → ∃ tx : String, vk_R (rxNm o) idx tx (ad n) s)
    (hX : ∀ S S' : Nat → Int → Int, X S → bx_same rxL (bx_mdl rxC201.2.2.1) S S' → X S')
    (ih : ∀ (j2 : Nat) (ct2 : bx_Ct) (M2 : rx_Mt), ct2 ∈ rxCnE j2 → ct2.2.2.2.1 + 1 ≤ rxC201.2.2.2.1 → rxT.2.2.2.2.2 j2 = some M2 → bx_Con rxG rxNW rxAO PX Dg rxL X vwCl A ad l M2 ct2) (hQLFL : bx_ConP rxG rxNW rxAO PX Dg rxL X vwCl A ad l rxM324 rxCLFL rxPLFL rxPSLFL) : bx_ConP rxG rxNW rxAO PX Dg rxL X vwCl A ad l rxM201 rxC201 rxPLLR rxPSLLR :=
  rxQof (xa := xa) (Cn := rxCnE) (f := 30000) (j := 201) (tab := rxYLLR) (us := rxULLR) hPX hsl hX ih rfl rxYcLLR rxILLR rxmLLR
    (fun S0 ws r I0 I ht0 ht as he he1 hX0 hI0 hP hs ha => by
      have e := he.symm.trans (show bx_ent0 rxNP rxC201.1 bx_I0 [] = some ([(0, 0), (0, 0), (0, 0), (0, 0), (0, 0), (0, 0), (0, 0), (0, 0), ((-2147483648), 2147483647)], [], [.inr (3, (0, 480)), .inr (0, (8, 0))]) from rfl)
      cases e
      subst ha
      have h0 : r 0 = 0 := hs.1
      show rxILLR_0 S0 _ S0 (r 8)
      refine ⟨rfl, ?_⟩
      simp only [List.map_cons, List.map_nil, bx_xv_ok h0]
      rfl)
    (fun S0 ws hP => rxuLLR (xa := xa) hPX hX hQLFL hP) (fun S0 ws hP => rxgCLLR hP) (fun S0 ws hP => rxgELLR hP)
/-! CONTRACT BY HAND, by program (wip/sim/genhand.py): DeadUnderstudiesModel.would -/
def rxILWR_0 (S0 : Nat → Int → Int) (ws : List Int) (S : Nat → Int → Int) (row cue : Int) : Prop := S = S0 ∧ ws = [480, row, cue]
def rxmLWR_0 (S0 : Nat → Int → Int) (ws : List Int) (S : Nat → Int → Int) (row cue : Int) : Nat := 100
def rxzLWR_0 : rx_Z := ([(0, 0), (0, 0), (0, 0), (0, 0), (0, 0), (0, 0), (0, 0), (0, 0), ((-2147483648), 2147483647), ((-2147483648), 2147483647)], [], [], 0, 0, 0, [(0, .inr (3, (0, 480))), (1, .inr (0, (8, 0))), (2, .inr (0, (9, 0)))], [])
def rxILWR_1 (S0 : Nat → Int → Int) (ws : List Int) (S : Nat → Int → Int) (row cue a b : Int) : Prop := a = row ∧ b = cue ∧ (∀ (p : Nat) (j : Int), p ≠ 480 → S p j = S0 p j) ∧ ws = [480, row, cue]
def rxmLWR_1 (S0 : Nat → Int → Int) (ws : List Int) (S : Nat → Int → Int) (row cue a b : Int) : Nat := 90
def rxzLWR_1 : rx_Z := ([(0, 0), (0, 0), (0, 0), (0, 0), (0, 0), (0, 0), (0, 0), (0, 0), (0, 3), (0, 5), (0, 3), (0, 5)], [], [], 0, 0, 34, [(0, .inr (3, (0, 480))), (1, .inr (0, (8, 0))), (2, .inr (0, (9, 0)))], [.inr (0, (11, 0)), .inr (0, (10, 0)), .inr (3, (0, 480))])
def rxILWR_2 (S0 : Nat → Int → Int) (ws : List Int) (S : Nat → Int → Int) (row cue a b v : Int) : Prop := ws = [480, row, cue] ∧ ldW (ldN (S0 482 6) (ldrr S0) (ldrc S0) (ldrw S0)) v ∧ (v ≠ -1 → ∀ z : Int, ldRZ S0 row z → S 480 70 = (ldU (S0 482 6) (ldrr S0) (ldrc S0) (ldrw S0) v cue z : Nat))
def rxmLWR_2 (S0 : Nat → Int → Int) (ws : List Int) (S : Nat → Int → Int) (row cue a b v : Int) : Nat := 80
def rxzLWR_2 : rx_Z := ([(0, 0), (0, 0), (0, 0), (0, 0), (0, 0), (0, 0), (0, 0), (0, 0), (0, 3), (0, 5), (0, 3), (0, 5), ((-1), 3)], [], [], 0, 0, 37, [(0, .inr (3, (0, 480))), (1, .inr (0, (8, 0))), (2, .inr (0, (9, 0)))], [.inr (0, (12, 0))])
def rxoLWR_0_0 : bx_HO := (([(0, 0), (0, 0), (0, 0), (0, 0), (0, 0), (0, 0), (0, 0), (0, 0), (0, 3), (0, 5)], [], [(((0, 0), 1851192626986356797424340330377019318111018015026043177836478467000000), .inr (0, (0, 0))), (((0, 480), 0), .inr (0, (0, 0)))], 0, 0, 34, [(0, .inr (3, (0, 480))), (1, .inr (0, (8, 0))), (2, .inr (0, (9, 0)))], [.inr (0, (9, 0)), .inr (0, (8, 0)), .inr (3, (0, 480))]), [], [], [(0, 0), (0, 0), (0, 0), (0, 0), (0, 0), (0, 0), (0, 0), (0, 0), (8, 0), (9, 0), (8, 0), (9, 0)], 1)
def rxeLWR_0_0 : rx_End × List (Nat × Int × Int) := (([(0, 0), (0, 0), (0, 0), (0, 0), (0, 0), (0, 0), (0, 0), (0, 0), ((-2147483648), (-1)), ((-2147483648), 2147483647)], [], [(((0, 0), 1851192626986356797424340330377019318111018015026043177836478467000000), .inr (0, (0, 0))), (((0, 480), 0), .inr (0, (0, 0)))], some (.inr (0, (0, (-1))))), [])
def rxeLWR_0_1 : rx_End × List (Nat × Int × Int) := (([(0, 0), (0, 0), (0, 0), (0, 0), (0, 0), (0, 0), (0, 0), (0, 0), (4, 2147483647), ((-2147483648), 2147483647)], [], [(((0, 0), 1851192626986356797424340330377019318111018015026043177836478467000000), .inr (0, (0, 0))), (((0, 480), 0), .inr (0, (0, 0)))], some (.inr (0, (0, (-1))))), [])
def rxeLWR_0_2 : rx_End × List (Nat × Int × Int) := (([(0, 0), (0, 0), (0, 0), (0, 0), (0, 0), (0, 0), (0, 0), (0, 0), (0, 3), ((-2147483648), (-1))], [], [(((0, 0), 1851192626986356797424340330377019318111018015026043177836478467000000), .inr (0, (0, 0))), (((0, 480), 0), .inr (0, (0, 0)))], some (.inr (0, (0, (-1))))), [])
def rxeLWR_0_3 : rx_End × List (Nat × Int × Int) := (([(0, 0), (0, 0), (0, 0), (0, 0), (0, 0), (0, 0), (0, 0), (0, 0), (0, 3), (6, 2147483647)], [], [(((0, 0), 1851192626986356797424340330377019318111018015026043177836478467000000), .inr (0, (0, 0))), (((0, 480), 0), .inr (0, (0, 0)))], some (.inr (0, (0, (-1))))), [])
def rxeLWR_2_0 : rx_End × List (Nat × Int × Int) := (([(0, 0), (0, 0), (0, 0), (0, 0), (0, 0), (0, 0), (0, 0), (0, 0), (0, 3), (0, 5), (0, 3), (0, 5), ((-1), (-1))], [], [], some (.inr (0, (0, (-1))))), [])
def rxeLWR_2_1 : rx_End × List (Nat × Int × Int) := (([(0, 0), (0, 0), (0, 0), (0, 0), (0, 0), (0, 0), (0, 0), (0, 0), (0, 3), (0, 5), (0, 3), (0, 5), (0, 3), (0, 1023)], [(3, (12, 0), (0, (-1)))], [(((0, 0), 1851192626986356811473809805451311897278520526794510926604140544000000), .inr (0, (13, 0))), (((0, 480), 70), .inr (0, (13, 0)))], some (.inr (0, (13, 0)))), [])
def rxYLWR : List bx_HE := [(rxzLWR_0, [rxoLWR_0_0], [rxeLWR_0_0, rxeLWR_0_1, rxeLWR_0_2, rxeLWR_0_3]), (rxzLWR_1, [], []), (rxzLWR_2, [], [rxeLWR_2_0, rxeLWR_2_1])]
def rxULWR (q : bx_HE) : Bool := Nat.beq (rx_zpc q.1) 34
def rxYBLWR : bx_B := (rxV, rxNP, rxDmf, bx_mdH rxC203.2.2.1)
set_option maxRecDepth 100000 in
theorem rxYcLWR : bx_chkH rxYBLWR rxM203 rxC203 rxYLWR (rxULWR, fun cut z => rx_ex2 (rxCT rxYBLWR rxCnE) cut 30000 rxC203.2.2.2.1 203 z) = true := by decide +kernel
def rxILWR (S0 : Nat → Int → Int) (ws : List Int) (i : Nat) : bx_SP := fun S r => match i with | 0 => rxILWR_0 S0 ws S (r 8) (r 9) | 1 => rxILWR_1 S0 ws S (r 8) (r 9) (r 10) (r 11) | 2 => rxILWR_2 S0 ws S (r 8) (r 9) (r 10) (r 11) (r 12) | _ => False
def rxmLWR (S0 : Nat → Int → Int) (ws : List Int) (i : Nat) (S : Nat → Int → Int) (r : Nat → Int) : Nat := match i with | 0 => rxmLWR_0 S0 ws S (r 8) (r 9) | 1 => rxmLWR_1 S0 ws S (r 8) (r 9) (r 10) (r 11) | 2 => rxmLWR_2 S0 ws S (r 8) (r 9) (r 10) (r 11) (r 12) | _ => 0
def rxPLWR (S0 : Nat → Int → Int) (ws : List Int) : Prop := True
def rxPSLWR (S0 : Nat → Int → Int) (ws : List Int) (S : Nat → Int → Int) (w : Option Int) : Prop := ∃ row cue v : Int, ws = [480, row, cue] ∧ w = some v ∧ ldAw (S0 482 6) (ldrr S0) (ldrc S0) (ldrw S0) row cue v
theorem rxkLWR_1 {S0 : Nat → Int → Int} {ws : List Int} {S : Nat → Int → Int} {row cue a b : Int} (hP : rxPLWR S0 ws) (hin : bx_same rxL (bx_mdl rxC203.2.2.1) S0 S) (I0 : bx_Inv rxL S) (hinv : rxILWR_1 S0 ws S row cue a b) (l8 : 0 ≤ row) (u8 : row ≤ 3) (l9 : 0 ≤ cue) (u9 : cue ≤ 5) (l10 : 0 ≤ a) (u10 : a ≤ 3) (l11 : 0 ≤ b) (u11 : b ≤ 5) : rxPLFL S [480, a, b] ∧ ∀ (S' : Nat → Int → Int) (v : Int), (-1) ≤ v → v ≤ 3 → rxPSLFL S [480, a, b] S' (some v) → bx_Inv rxL S' → bx_same rxL (bx_mdl rxCLFL.2.2.1) S S' → rxILWR_2 S0 ws S' row cue a b v ∧ rxmLWR_2 S0 ws S' row cue a b v < rxmLWR_1 S0 ws S row cue a b := by
  obtain ⟨ha, hb, h1, hw⟩ := hinv
  refine ⟨trivial, fun S' v g0 g1 hq I1 hsm => ?_⟩
  obtain ⟨r9, c9, v9, hw9, hv, hW, -, hB⟩ := hq
  have hv := Option.some.inj hv
  subst hv
  simp only [List.cons.injEq, and_true, true_and] at hw9
  obtain ⟨e1, e2⟩ := hw9
  have e : ∀ p : Nat, p ≠ 480 → S p = S0 p := fun p hp => funext fun j => h1 p j hp
  have er : ldrr S = ldrr S0 := by
    unfold ldrr
    rw [e 482 (by omega)]
  have ec : ldrc S = ldrc S0 := by
    unfold ldrc
    rw [e 482 (by omega)]
  have ew : ldrw S = ldrw S0 := by
    unfold ldrw
    rw [e 482 (by omega)]
  unfold ldRZ at hB
  rw [e 482 (by omega), er, ec, ew, ← e1, ← e2, ha, hb] at hB
  rw [e 482 (by omega), er, ec, ew] at hW
  exact ⟨⟨hw, hW, fun q => (hB q).2⟩, by unfold rxmLWR_1 rxmLWR_2; omega⟩
theorem rxsLWR_1 {X : (Nat → Int → Int) → Prop} {S0 : Nat → Int → Int} {ws : List Int} (hP : rxPLWR S0 ws) : rx_obK X S0 rxC203.2.2.1 rxCLFL.2.2.1 (rxILWR S0 ws) (rxmLWR S0 ws) 1 2 rxzLWR_1 rxzLWR_2 [.inr (3, (0, 480)), .inr (0, (10, 0)), .inr (0, (11, 0))] (some 12) rxPLFL rxPSLFL := by
  intro S r hinv hXS I0 hin hs_ hf_
  have b_ := bx_bds_sat hs_
  have f_ := bx_fcl_ok hs_.1 hf_
  obtain ⟨⟨l8, u8⟩, ⟨l9, u9⟩, ⟨l10, u10⟩, ⟨l11, u11⟩, -⟩ := b_
  have g := rxkLWR_1 hP hin I0 hinv l8 u8 l9 u9 l10 u10 l11 u11
  have ea : List.map (bx_num r) [.inr (3, (0, 480)), .inr (0, (10, 0)), .inr (0, (11, 0))] = [480, (r 10), (r 11)] := by
    simp only [List.map_cons, List.map_nil, bx_xv_ok hs_.1]
    rfl
  rw [ea]
  refine ⟨g.1, fun S' w r' hPS hX' I1 hsm hr hw hs' => ?_⟩
  have hw := hw _ rfl
  subst hw
  have b' := hs'.2.2 12 _ _ rfl
  have g2 := g.2 S' (r' 12) b'.1 b'.2 hPS I1 hsm
  show rxILWR_2 S0 ws S' (r' 8) (r' 9) (r' 10) (r' 11) (r' 12) ∧ rxmLWR_2 S0 ws S' (r' 8) (r' 9) (r' 10) (r' 11) (r' 12) < _
  rw [hr 8 (by decide), hr 9 (by decide), hr 10 (by decide), hr 11 (by decide)]
  exact g2
theorem rxcLWR_0_0 {S0 : Nat → Int → Int} {ws : List Int} {S : Nat → Int → Int} {row cue : Int} (hP : rxPLWR S0 ws) (hin : bx_same rxL (bx_mdl rxC203.2.2.1) S0 S) (I0 : bx_Inv rxL S) (hinv : rxILWR_0 S0 ws S row cue) (l8 : 0 ≤ row) (u8 : row ≤ 3) (l9 : 0 ≤ cue) (u9 : cue ≤ 5) : (True) ∧ (True) ∧ rxILWR_1 S0 ws (bx_up S 480 0 0) row cue row cue ∧ rxmLWR_1 S0 ws (bx_up S 480 0 0) row cue row cue < rxmLWR_0 S0 ws S row cue := by
  obtain ⟨rfl, hw⟩ := hinv
  exact ⟨by first | trivial | exact ⟨by omega, trivial⟩, trivial, ⟨rfl, rfl, fun p j hp => bx_up_ne (fun q => hp q.1), hw⟩, by unfold rxmLWR_0 rxmLWR_1; omega⟩
theorem rxgLWR_0_0 {X : (Nat → Int → Int) → Prop} {S0 : Nat → Int → Int} {ws : List Int} (hP : rxPLWR S0 ws) : bx_obC rxL X S0 rxC203.2.2.1 (rxILWR S0 ws) (rxmLWR S0 ws) 0 rxzLWR_0 rxoLWR_0_0 := by
  intro S S' r r' hinv hX hin hsm_ hseg
  obtain ⟨I0, I1, h0_, hr_, b_, f_, d_⟩ := bx_cl (evs := [(1, (0, 480), (0, 0), .inr (0, (0, 0)))]) (fvs := []) hseg (by decide +kernel) (by decide +kernel)
  have hinv : rxILWR_0 S0 ws S (r 8) (r 9) := hinv
  rw [← hr_ 8 (by decide), ← hr_ 9 (by decide)] at hinv
  obtain ⟨⟨l8, u8⟩, ⟨l9, u9⟩, -⟩ := b_
  obtain ⟨T0, w_, w0⟩ := d_
  subst w0
  subst w_
  have g := rxcLWR_0_0 hP hin I0 hinv l8 u8 l9 u9
  refine ⟨bx_narP_ok (l := []) g.1, bx_nfP_ok h0_ (fvs := []) (by decide +kernel) g.2.1, ?_, ?_⟩
  · show rxILWR_1 S0 ws (bx_up T0 480 (0) (0)) (bx_val [(0, 0), (0, 0), (0, 0), (0, 0), (0, 0), (0, 0), (0, 0), (0, 0), (8, 0), (9, 0), (8, 0), (9, 0)] r' 8) (bx_val [(0, 0), (0, 0), (0, 0), (0, 0), (0, 0), (0, 0), (0, 0), (0, 0), (8, 0), (9, 0), (8, 0), (9, 0)] r' 9) (bx_val [(0, 0), (0, 0), (0, 0), (0, 0), (0, 0), (0, 0), (0, 0), (0, 0), (8, 0), (9, 0), (8, 0), (9, 0)] r' 10) (bx_val [(0, 0), (0, 0), (0, 0), (0, 0), (0, 0), (0, 0), (0, 0), (0, 0), (8, 0), (9, 0), (8, 0), (9, 0)] r' 11)
    rw [bx_val_x (n := 8) (e := (8, 0)) h0_ rfl, bx_val_x (n := 9) (e := (9, 0)) h0_ rfl, bx_val_x (n := 10) (e := (8, 0)) h0_ rfl, bx_val_x (n := 11) (e := (9, 0)) h0_ rfl]
    exact g.2.2.1
  · show rxmLWR_1 S0 ws (bx_up T0 480 (0) (0)) (bx_val [(0, 0), (0, 0), (0, 0), (0, 0), (0, 0), (0, 0), (0, 0), (0, 0), (8, 0), (9, 0), (8, 0), (9, 0)] r' 8) (bx_val [(0, 0), (0, 0), (0, 0), (0, 0), (0, 0), (0, 0), (0, 0), (0, 0), (8, 0), (9, 0), (8, 0), (9, 0)] r' 9) (bx_val [(0, 0), (0, 0), (0, 0), (0, 0), (0, 0), (0, 0), (0, 0), (0, 0), (8, 0), (9, 0), (8, 0), (9, 0)] r' 10) (bx_val [(0, 0), (0, 0), (0, 0), (0, 0), (0, 0), (0, 0), (0, 0), (0, 0), (8, 0), (9, 0), (8, 0), (9, 0)] r' 11) < rxmLWR_0 S0 ws T0 (r 8) (r 9)
    rw [bx_val_x (n := 8) (e := (8, 0)) h0_ rfl, bx_val_x (n := 9) (e := (9, 0)) h0_ rfl, bx_val_x (n := 10) (e := (8, 0)) h0_ rfl, bx_val_x (n := 11) (e := (9, 0)) h0_ rfl, ← hr_ 8 (by decide), ← hr_ 9 (by decide)]
    exact g.2.2.2
theorem rxdLWR_0_0 {S0 : Nat → Int → Int} {ws : List Int} {S : Nat → Int → Int} {row cue : Int} (hP : rxPLWR S0 ws) (hin : bx_same rxL (bx_mdl rxC203.2.2.1) S0 S) (hin2 : bx_same rxL (bx_mdl rxC203.2.2.1) S (bx_up S 480 0 0)) (I0 : bx_Inv rxL S) (I1 : bx_Inv rxL (bx_up S 480 0 0)) (hinv : rxILWR_0 S0 ws S row cue) (l8 : (-2147483648) ≤ row) (u8 : row ≤ (-1)) (l9 : (-2147483648) ≤ cue) (u9 : cue ≤ 2147483647) : (True) ∧ rxPSLWR S0 ws (bx_up S 480 0 0) (some ((-1))) := by
  obtain ⟨rfl, hw⟩ := hinv
  exact ⟨trivial, row, cue, _, hw, rfl, fun _ => rfl, fun q => by omega⟩
theorem rxfLWR_0_0 {X : (Nat → Int → Int) → Prop} {S0 : Nat → Int → Int} {ws : List Int} (hP : rxPLWR S0 ws) : bx_obE rxL X S0 rxC203.2.2.1 (rxILWR S0 ws) (rxPSLWR S0 ws) 0 rxzLWR_0 rxeLWR_0_0 := by
  intro S S' r r' hinv hX hin hsm_ hseg
  obtain ⟨I0, I1, h0_, hr_, b_, f_, d_⟩ := bx_cl (evs := [(1, (0, 480), (0, 0), .inr (0, (0, 0)))]) (fvs := []) hseg (by decide +kernel) (by decide +kernel)
  have hinv : rxILWR_0 S0 ws S (r 8) (r 9) := hinv
  rw [← hr_ 8 (by decide), ← hr_ 9 (by decide)] at hinv
  obtain ⟨⟨l8, u8⟩, ⟨l9, u9⟩, -⟩ := b_
  obtain ⟨T0, w_, w0⟩ := d_
  subst w0
  subst w_
  have g := rxdLWR_0_0 hP hin hsm_ I0 I1 hinv l8 u8 l9 u9
  refine ⟨bx_narP_ok (l := []) g.1, ?_⟩
  show rxPSLWR S0 ws (bx_up T0 480 (0) (0)) (some (bx_num r' (.inr (0, (0, (-1))))))
  rw [bx_xv_ok h0_]
  exact g.2
theorem rxdLWR_0_1 {S0 : Nat → Int → Int} {ws : List Int} {S : Nat → Int → Int} {row cue : Int} (hP : rxPLWR S0 ws) (hin : bx_same rxL (bx_mdl rxC203.2.2.1) S0 S) (hin2 : bx_same rxL (bx_mdl rxC203.2.2.1) S (bx_up S 480 0 0)) (I0 : bx_Inv rxL S) (I1 : bx_Inv rxL (bx_up S 480 0 0)) (hinv : rxILWR_0 S0 ws S row cue) (l8 : 4 ≤ row) (u8 : row ≤ 2147483647) (l9 : (-2147483648) ≤ cue) (u9 : cue ≤ 2147483647) : (True) ∧ rxPSLWR S0 ws (bx_up S 480 0 0) (some ((-1))) := by
  obtain ⟨rfl, hw⟩ := hinv
  exact ⟨trivial, row, cue, _, hw, rfl, fun _ => rfl, fun q => by omega⟩
theorem rxfLWR_0_1 {X : (Nat → Int → Int) → Prop} {S0 : Nat → Int → Int} {ws : List Int} (hP : rxPLWR S0 ws) : bx_obE rxL X S0 rxC203.2.2.1 (rxILWR S0 ws) (rxPSLWR S0 ws) 0 rxzLWR_0 rxeLWR_0_1 := by
  intro S S' r r' hinv hX hin hsm_ hseg
  obtain ⟨I0, I1, h0_, hr_, b_, f_, d_⟩ := bx_cl (evs := [(1, (0, 480), (0, 0), .inr (0, (0, 0)))]) (fvs := []) hseg (by decide +kernel) (by decide +kernel)
  have hinv : rxILWR_0 S0 ws S (r 8) (r 9) := hinv
  rw [← hr_ 8 (by decide), ← hr_ 9 (by decide)] at hinv
  obtain ⟨⟨l8, u8⟩, ⟨l9, u9⟩, -⟩ := b_
  obtain ⟨T0, w_, w0⟩ := d_
  subst w0
  subst w_
  have g := rxdLWR_0_1 hP hin hsm_ I0 I1 hinv l8 u8 l9 u9
  refine ⟨bx_narP_ok (l := []) g.1, ?_⟩
  show rxPSLWR S0 ws (bx_up T0 480 (0) (0)) (some (bx_num r' (.inr (0, (0, (-1))))))
  rw [bx_xv_ok h0_]
  exact g.2
theorem rxdLWR_0_2 {S0 : Nat → Int → Int} {ws : List Int} {S : Nat → Int → Int} {row cue : Int} (hP : rxPLWR S0 ws) (hin : bx_same rxL (bx_mdl rxC203.2.2.1) S0 S) (hin2 : bx_same rxL (bx_mdl rxC203.2.2.1) S (bx_up S 480 0 0)) (I0 : bx_Inv rxL S) (I1 : bx_Inv rxL (bx_up S 480 0 0)) (hinv : rxILWR_0 S0 ws S row cue) (l8 : 0 ≤ row) (u8 : row ≤ 3) (l9 : (-2147483648) ≤ cue) (u9 : cue ≤ (-1)) : (True) ∧ rxPSLWR S0 ws (bx_up S 480 0 0) (some ((-1))) := by
  obtain ⟨rfl, hw⟩ := hinv
  exact ⟨trivial, row, cue, _, hw, rfl, fun _ => rfl, fun q => by omega⟩
theorem rxfLWR_0_2 {X : (Nat → Int → Int) → Prop} {S0 : Nat → Int → Int} {ws : List Int} (hP : rxPLWR S0 ws) : bx_obE rxL X S0 rxC203.2.2.1 (rxILWR S0 ws) (rxPSLWR S0 ws) 0 rxzLWR_0 rxeLWR_0_2 := by
  intro S S' r r' hinv hX hin hsm_ hseg
  obtain ⟨I0, I1, h0_, hr_, b_, f_, d_⟩ := bx_cl (evs := [(1, (0, 480), (0, 0), .inr (0, (0, 0)))]) (fvs := []) hseg (by decide +kernel) (by decide +kernel)
  have hinv : rxILWR_0 S0 ws S (r 8) (r 9) := hinv
  rw [← hr_ 8 (by decide), ← hr_ 9 (by decide)] at hinv
  obtain ⟨⟨l8, u8⟩, ⟨l9, u9⟩, -⟩ := b_
  obtain ⟨T0, w_, w0⟩ := d_
  subst w0
  subst w_
  have g := rxdLWR_0_2 hP hin hsm_ I0 I1 hinv l8 u8 l9 u9
  refine ⟨bx_narP_ok (l := []) g.1, ?_⟩
  show rxPSLWR S0 ws (bx_up T0 480 (0) (0)) (some (bx_num r' (.inr (0, (0, (-1))))))
  rw [bx_xv_ok h0_]
  exact g.2
theorem rxdLWR_0_3 {S0 : Nat → Int → Int} {ws : List Int} {S : Nat → Int → Int} {row cue : Int} (hP : rxPLWR S0 ws) (hin : bx_same rxL (bx_mdl rxC203.2.2.1) S0 S) (hin2 : bx_same rxL (bx_mdl rxC203.2.2.1) S (bx_up S 480 0 0)) (I0 : bx_Inv rxL S) (I1 : bx_Inv rxL (bx_up S 480 0 0)) (hinv : rxILWR_0 S0 ws S row cue) (l8 : 0 ≤ row) (u8 : row ≤ 3) (l9 : 6 ≤ cue) (u9 : cue ≤ 2147483647) : (True) ∧ rxPSLWR S0 ws (bx_up S 480 0 0) (some ((-1))) := by
  obtain ⟨rfl, hw⟩ := hinv
  exact ⟨trivial, row, cue, _, hw, rfl, fun _ => rfl, fun q => by omega⟩
theorem rxfLWR_0_3 {X : (Nat → Int → Int) → Prop} {S0 : Nat → Int → Int} {ws : List Int} (hP : rxPLWR S0 ws) : bx_obE rxL X S0 rxC203.2.2.1 (rxILWR S0 ws) (rxPSLWR S0 ws) 0 rxzLWR_0 rxeLWR_0_3 := by
  intro S S' r r' hinv hX hin hsm_ hseg
  obtain ⟨I0, I1, h0_, hr_, b_, f_, d_⟩ := bx_cl (evs := [(1, (0, 480), (0, 0), .inr (0, (0, 0)))]) (fvs := []) hseg (by decide +kernel) (by decide +kernel)
  have hinv : rxILWR_0 S0 ws S (r 8) (r 9) := hinv
  rw [← hr_ 8 (by decide), ← hr_ 9 (by decide)] at hinv
  obtain ⟨⟨l8, u8⟩, ⟨l9, u9⟩, -⟩ := b_
  obtain ⟨T0, w_, w0⟩ := d_
  subst w0
  subst w_
  have g := rxdLWR_0_3 hP hin hsm_ I0 I1 hinv l8 u8 l9 u9
  refine ⟨bx_narP_ok (l := []) g.1, ?_⟩
  show rxPSLWR S0 ws (bx_up T0 480 (0) (0)) (some (bx_num r' (.inr (0, (0, (-1))))))
  rw [bx_xv_ok h0_]
  exact g.2
theorem rxdLWR_2_0 {S0 : Nat → Int → Int} {ws : List Int} {S : Nat → Int → Int} {row cue a b v : Int} (hP : rxPLWR S0 ws) (hin : bx_same rxL (bx_mdl rxC203.2.2.1) S0 S) (hin2 : bx_same rxL (bx_mdl rxC203.2.2.1) S S) (I0 : bx_Inv rxL S) (I1 : bx_Inv rxL S) (hinv : rxILWR_2 S0 ws S row cue a b v) (l8 : 0 ≤ row) (u8 : row ≤ 3) (l9 : 0 ≤ cue) (u9 : cue ≤ 5) (l10 : 0 ≤ a) (u10 : a ≤ 3) (l11 : 0 ≤ b) (u11 : b ≤ 5) (l12 : (-1) ≤ v) (u12 : v ≤ (-1)) : (True) ∧ rxPSLWR S0 ws S (some ((-1))) := by
  obtain ⟨hw, hW, hB⟩ := hinv
  have h6 := rxN6 I0
  have e6 : S 482 6 = S0 482 6 := rx_sameR hin (tc := 0) (n := 6180) (g := 63) rfl (by omega) (by decide +kernel) (by decide +kernel) (by omega) (by omega)
  obtain ⟨z, hz⟩ := ldZ_ex (R := ldt (S0 482 6) (ldF (ldQ (ldt (S0 482 6) (ldrr S0)) (S0 482 6).toNat 4) (ldrr S0))) (row := row) (S0 482 6).toNat
  rw [show (((S0 482 6).toNat : Nat) : Int) = S0 482 6 by omega] at hz
  refine ⟨trivial, row, cue, _, hw, rfl, fun q => by omega, fun _ => ⟨z, v, hW, hz, ?_⟩⟩
  have hW2 := hW
  unfold ldW at hW2
  by_cases hv : v = -1
  · rw [if_pos (by omega)]
    try omega
  · have := hB hv z hz
    rw [if_neg (by omega)]
    omega
theorem rxfLWR_2_0 {X : (Nat → Int → Int) → Prop} {S0 : Nat → Int → Int} {ws : List Int} (hP : rxPLWR S0 ws) : bx_obE rxL X S0 rxC203.2.2.1 (rxILWR S0 ws) (rxPSLWR S0 ws) 2 rxzLWR_2 rxeLWR_2_0 := by
  intro S S' r r' hinv hX hin hsm_ hseg
  obtain ⟨I0, I1, h0_, hr_, b_, f_, d_⟩ := bx_cl (evs := []) (fvs := []) hseg (by decide +kernel) (by decide +kernel)
  have hinv : rxILWR_2 S0 ws S (r 8) (r 9) (r 10) (r 11) (r 12) := hinv
  rw [← hr_ 8 (by decide), ← hr_ 9 (by decide), ← hr_ 10 (by decide), ← hr_ 11 (by decide), ← hr_ 12 (by decide)] at hinv
  obtain ⟨⟨l8, u8⟩, ⟨l9, u9⟩, ⟨l10, u10⟩, ⟨l11, u11⟩, ⟨l12, u12⟩, -⟩ := b_
  have w_ := d_
  subst w_
  have g := rxdLWR_2_0 hP hin hsm_ I0 I1 hinv l8 u8 l9 u9 l10 u10 l11 u11 l12 u12
  refine ⟨bx_narP_ok (l := []) g.1, ?_⟩
  show rxPSLWR S0 ws S' (some (bx_num r' (.inr (0, (0, (-1))))))
  rw [bx_xv_ok h0_]
  exact g.2
theorem rxdLWR_2_1 {S0 : Nat → Int → Int} {ws : List Int} {S : Nat → Int → Int} {row cue a b v x13 : Int} (hP : rxPLWR S0 ws) (hin : bx_same rxL (bx_mdl rxC203.2.2.1) S0 S) (hin2 : bx_same rxL (bx_mdl rxC203.2.2.1) S S) (I0 : bx_Inv rxL S) (I1 : bx_Inv rxL S) (hinv : rxILWR_2 S0 ws S row cue a b v) (l8 : 0 ≤ row) (u8 : row ≤ 3) (l9 : 0 ≤ cue) (u9 : cue ≤ 5) (l10 : 0 ≤ a) (u10 : a ≤ 3) (l11 : 0 ≤ b) (u11 : b ≤ 5) (l12 : 0 ≤ v) (u12 : v ≤ 3) (l13 : 0 ≤ x13) (u13 : x13 ≤ 1023) (f0 : v ≠ (-1)) (e0 : S 480 70 = x13) : (True) ∧ rxPSLWR S0 ws S (some x13) := by
  obtain ⟨hw, hW, hB⟩ := hinv
  have h6 := rxN6 I0
  have e6 : S 482 6 = S0 482 6 := rx_sameR hin (tc := 0) (n := 6180) (g := 63) rfl (by omega) (by decide +kernel) (by decide +kernel) (by omega) (by omega)
  obtain ⟨z, hz⟩ := ldZ_ex (R := ldt (S0 482 6) (ldF (ldQ (ldt (S0 482 6) (ldrr S0)) (S0 482 6).toNat 4) (ldrr S0))) (row := row) (S0 482 6).toNat
  rw [show (((S0 482 6).toNat : Nat) : Int) = S0 482 6 by omega] at hz
  refine ⟨trivial, row, cue, _, hw, rfl, fun q => by omega, fun _ => ⟨z, v, hW, hz, ?_⟩⟩
  have hW2 := hW
  unfold ldW at hW2
  by_cases hv : v = -1
  · rw [if_pos (by omega)]
    try omega
  · have := hB hv z hz
    rw [if_neg (by omega)]
    omega
theorem rxfLWR_2_1 {X : (Nat → Int → Int) → Prop} {S0 : Nat → Int → Int} {ws : List Int} (hP : rxPLWR S0 ws) : bx_obE rxL X S0 rxC203.2.2.1 (rxILWR S0 ws) (rxPSLWR S0 ws) 2 rxzLWR_2 rxeLWR_2_1 := by
  intro S S' r r' hinv hX hin hsm_ hseg
  obtain ⟨I0, I1, h0_, hr_, b_, f_, d_⟩ := bx_cl (evs := [(0, (0, 480), (0, 70), .inr (0, (13, 0)))]) (fvs := [(3, (12, 0), (0, (-1)), (0, 0))]) hseg (by decide +kernel) (by decide +kernel)
  have hinv : rxILWR_2 S0 ws S (r 8) (r 9) (r 10) (r 11) (r 12) := hinv
  rw [← hr_ 8 (by decide), ← hr_ 9 (by decide), ← hr_ 10 (by decide), ← hr_ 11 (by decide), ← hr_ 12 (by decide)] at hinv
  obtain ⟨⟨l8, u8⟩, ⟨l9, u9⟩, ⟨l10, u10⟩, ⟨l11, u11⟩, ⟨l12, u12⟩, ⟨l13, u13⟩, -⟩ := b_
  obtain ⟨f0, -⟩ := f_
  obtain ⟨e0, w_⟩ := d_
  subst w_
  have g := rxdLWR_2_1 hP hin hsm_ I0 I1 hinv l8 u8 l9 u9 l10 u10 l11 u11 l12 u12 l13 u13 f0 e0
  refine ⟨bx_narP_ok (l := []) g.1, ?_⟩
  show rxPSLWR S0 ws S' (some (bx_num r' (.inr (0, (13, 0)))))
  rw [bx_xv_ok h0_]
  exact g.2
theorem rxgCLWR {X : (Nat → Int → Int) → Prop} {S0 : Nat → Int → Int} {ws : List Int} (hP : rxPLWR S0 ws) : bx_allI (fun i q => rxULWR q = true ∨ bx_allP (fun o => bx_obC rxL X S0 rxC203.2.2.1 (rxILWR S0 ws) (rxmLWR S0 ws) i q.1 o) q.2.1) 0 rxYLWR := ⟨Or.inr ⟨rxgLWR_0_0 hP, trivial⟩, Or.inl rfl, Or.inr trivial, trivial⟩
theorem rxgELWR {X : (Nat → Int → Int) → Prop} {S0 : Nat → Int → Int} {ws : List Int} (hP : rxPLWR S0 ws) : bx_allI (fun i q => rxULWR q = true ∨ bx_allP (fun E => bx_obE rxL X S0 rxC203.2.2.1 (rxILWR S0 ws) (rxPSLWR S0 ws) i q.1 E) q.2.2) 0 rxYLWR := ⟨Or.inr ⟨rxfLWR_0_0 hP, rxfLWR_0_1 hP, rxfLWR_0_2 hP, rxfLWR_0_3 hP, trivial⟩, Or.inl rfl, Or.inr ⟨rxfLWR_2_0 hP, rxfLWR_2_1 hP, trivial⟩, trivial⟩
theorem rxuLWR {PX : State → Prop} {Dg : va_G} {A : Nat → Prop} {ad xa : Nat → Nat} {l : Launch} {X : (Nat → Int → Int) → Prop} (hPX : rx_PXOK rxNW A PX) (hX : ∀ S S1 : Nat → Int → Int, X S → bx_same rxL (bx_mdl rxC203.2.2.1) S S1 → X S1) (hQLFL : bx_ConP rxG rxNW rxAO PX Dg rxL X vwCl A ad l rxM324 rxCLFL rxPLFL rxPSLFL) {S0 : Nat → Int → Int} {ws : List Int} (hP : rxPLWR S0 ws) : ∀ (i : Nat) (q : bx_HE), rxYLWR[i]? = some q → rxULWR q = true → ∀ {p : Program} {e : Env} {R : Room} {s : State} {m : MethodId} {args : Array Value} {below : List Frame} {meth : Method} {c : Code} {Q : State → Prop} {H0 : Heap}, rx_Fr rxG rxNW rxAO PX p s m args meth c rxM203 → (∀ q, H0.size ≤ q → A q) → H0 = s.heap → rxM203.2.2.2.2.2.2.1 ≤ R.cells → rxM203.2.2.2.2.2.2.2 ≤ R.slots → rxC203.2.2.2.1 ≤ R.frames → rxC203.2.2.2.1 * 40 ≤ R.locals → bx_Step p l e R s m args below meth c Q Dg rxL X vwCl A xa H0 ad rxM203 rxYLWR (rxILWR S0 ws) (rxmLWR S0 ws) S0 rxC203.2.2.1 i q := by
  intro i q hq hus p e R s m args below meth c Q H0 hF hA hH0 hmc hms hd hdl
  match i, hq with
  | 0, hq =>
    cases hq
    exact absurd (show false = true from hus) Bool.false_ne_true
  | 1, hq =>
    cases hq
    exact rx_stepC (ins := .invokevirtual 601) (len := 3) (i' := 2) (M' := rxM324) (d := rxC203.2.2.2.1) (as := [.inr (3, (0, 480)), .inr (0, (10, 0)), .inr (0, (11, 0))]) (t := []) (ct := rxCLFL) hPX hF rfl hA hH0 hmc hms hd hdl (by decide +kernel) rfl rfl (by decide +kernel) (by decide +kernel) hQLFL (by decide +kernel) rfl (Or.inr ⟨_, _, _, 1, rfl, rfl, by omega, rfl, rfl, rfl⟩) (rxsLWR_1 hP)
  | 2, hq =>
    cases hq
    exact absurd (show false = true from hus) Bool.false_ne_true
  | n + 3, hq => cases hq
theorem rxQLWR {PX : State → Prop} {Dg : va_G} {A : Nat → Prop} {ad xa : Nat → Nat} {l : Launch} {X : (Nat → Int → Int) → Prop} (hPX : rx_PXOK rxNW A PX) (hsl : ∀ s : State, PX s → ∀ o idx n : Nat, rxSl o idx = some n → ∃ tx : String, vk_R (rxNm o) idx tx (ad n) s)
    (hX : ∀ S S' : Nat → Int → Int, X S → bx_same rxL (bx_mdl rxC203.2.2.1) S S' → X S')
    (ih : ∀ (j2 : Nat) (ct2 : bx_Ct) (M2 : rx_Mt), ct2 ∈ rxCnE j2 → ct2.2.2.2.1 + 1 ≤ rxC203.2.2.2.1 → rxT.2.2.2.2.2 j2 = some M2 → bx_Con rxG rxNW rxAO PX Dg rxL X vwCl A ad l M2 ct2) (hQLFL : bx_ConP rxG rxNW rxAO PX Dg rxL X vwCl A ad l rxM324 rxCLFL rxPLFL rxPSLFL) : bx_ConP rxG rxNW rxAO PX Dg rxL X vwCl A ad l rxM203 rxC203 rxPLWR rxPSLWR :=
  rxQof (xa := xa) (Cn := rxCnE) (f := 30000) (j := 203) (tab := rxYLWR) (us := rxULWR) hPX hsl hX ih rfl rxYcLWR rxILWR rxmLWR
    (fun S0 ws r I0 I ht0 ht as he he1 hX0 hI0 hP hs ha => by
      have e := he.symm.trans (show bx_ent0 rxNP rxC203.1 bx_I0 [] = some ([(0, 0), (0, 0), (0, 0), (0, 0), (0, 0), (0, 0), (0, 0), (0, 0), ((-2147483648), 2147483647), ((-2147483648), 2147483647)], [], [.inr (3, (0, 480)), .inr (0, (8, 0)), .inr (0, (9, 0))]) from rfl)
      cases e
      subst ha
      have h0 : r 0 = 0 := hs.1
      show rxILWR_0 S0 _ S0 (r 8) (r 9)
      refine ⟨rfl, ?_⟩
      simp only [List.map_cons, List.map_nil, bx_xv_ok h0]
      rfl)
    (fun S0 ws hP => rxuLWR (xa := xa) hPX hX hQLFL hP) (fun S0 ws hP => rxgCLWR hP) (fun S0 ws hP => rxgELWR hP)
