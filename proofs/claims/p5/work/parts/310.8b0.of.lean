/-! CONTRACT BY HAND, by program (wip/sim/genhand.py): DeadUnderstudiesModel.ofRule -/
def rxCOFL : bx_Ct := ([(0, (0, (-1), 59)), (0, (0, (-2147483648), 2147483647))], some (0, (0, (-1), 9)), [], 1, [])
def rxIOFL_0 (S0 : Nat → Int → Int) (ws : List Int) (S : Nat → Int → Int) (r q : Int) : Prop := S = S0 ∧ ws = [r, q]
def rxmOFL_0 (S0 : Nat → Int → Int) (ws : List Int) (S : Nat → Int → Int) (r q : Int) : Nat := 100
def rxzOFL_0 : rx_Z := ([(0, 0), (0, 0), (0, 0), (0, 0), (0, 0), (0, 0), (0, 0), (0, 0), ((-1), 59), ((-2147483648), 2147483647)], [], [], 0, 0, 0, [(0, .inr (0, (8, 0))), (1, .inr (0, (9, 0)))], [])
def rxIOFL_1 (S0 : Nat → Int → Int) (ws : List Int) (S : Nat → Int → Int) (r q : Int) : Prop := S = S0 ∧ ws = [r, q]
def rxmOFL_1 (S0 : Nat → Int → Int) (ws : List Int) (S : Nat → Int → Int) (r q : Int) : Nat := 90
def rxzOFL_1 : rx_Z := ([(0, 0), (0, 0), (0, 0), (0, 0), (0, 0), (0, 0), (0, 0), (0, 0), ((-1), 59), (0, 0)], [], [], 0, 0, 5, [(0, .inr (0, (8, 0))), (1, .inr (0, (9, 0)))], [.inr (0, (8, 0))])
def rxIOFL_2 (S0 : Nat → Int → Int) (ws : List Int) (S : Nat → Int → Int) (r q wo : Int) : Prop := S = S0 ∧ ws = [r, q] ∧ wo = rjWo r
def rxmOFL_2 (S0 : Nat → Int → Int) (ws : List Int) (S : Nat → Int → Int) (r q wo : Int) : Nat := 80
def rxzOFL_2 : rx_Z := ([(0, 0), (0, 0), (0, 0), (0, 0), (0, 0), (0, 0), (0, 0), (0, 0), ((-1), 59), (0, 0), ((-1), 9)], [], [], 0, 0, 8, [(0, .inr (0, (8, 0))), (1, .inr (0, (9, 0)))], [.inr (0, (10, 0))])
def rxIOFL_3 (S0 : Nat → Int → Int) (ws : List Int) (S : Nat → Int → Int) (r q : Int) : Prop := S = S0 ∧ ws = [r, q] ∧ q ≠ 0
def rxmOFL_3 (S0 : Nat → Int → Int) (ws : List Int) (S : Nat → Int → Int) (r q : Int) : Nat := 90
def rxzOFL_3 : rx_Z := ([(0, 0), (0, 0), (0, 0), (0, 0), (0, 0), (0, 0), (0, 0), (0, 0), ((-1), 59), ((-2147483648), 2147483647)], [], [], 0, 0, 12, [(0, .inr (0, (8, 0))), (1, .inr (0, (9, 0)))], [.inr (0, (8, 0))])
def rxIOFL_4 (S0 : Nat → Int → Int) (ws : List Int) (S : Nat → Int → Int) (r q ne : Int) : Prop := S = S0 ∧ ws = [r, q] ∧ q ≠ 0 ∧ ne = rjNx r
def rxmOFL_4 (S0 : Nat → Int → Int) (ws : List Int) (S : Nat → Int → Int) (r q ne : Int) : Nat := 80
def rxzOFL_4 : rx_Z := ([(0, 0), (0, 0), (0, 0), (0, 0), (0, 0), (0, 0), (0, 0), (0, 0), ((-1), 59), ((-2147483648), 2147483647), ((-1), 5)], [], [], 0, 0, 15, [(0, .inr (0, (8, 0))), (1, .inr (0, (9, 0)))], [.inr (0, (10, 0))])
def rxoOFL_0_0 : bx_HO := (([(0, 0), (0, 0), (0, 0), (0, 0), (0, 0), (0, 0), (0, 0), (0, 0), ((-1), 59), (0, 0)], [], [], 0, 0, 5, [(0, .inr (0, (8, 0))), (1, .inr (0, (9, 0)))], [.inr (0, (8, 0))]), [], [], [(0, 0), (0, 0), (0, 0), (0, 0), (0, 0), (0, 0), (0, 0), (0, 0), (8, 0), (9, 0)], 1)
def rxoOFL_0_1 : bx_HO := (([(0, 0), (0, 0), (0, 0), (0, 0), (0, 0), (0, 0), (0, 0), (0, 0), ((-1), 59), ((-2147483648), 2147483647)], [(3, (9, 0), (0, 0))], [], 0, 0, 12, [(0, .inr (0, (8, 0))), (1, .inr (0, (9, 0)))], [.inr (0, (8, 0))]), [], [], [(0, 0), (0, 0), (0, 0), (0, 0), (0, 0), (0, 0), (0, 0), (0, 0), (8, 0), (9, 0)], 3)
def rxeOFL_2_0 : rx_End × List (Nat × Int × Int) := (([(0, 0), (0, 0), (0, 0), (0, 0), (0, 0), (0, 0), (0, 0), (0, 0), ((-1), 59), (0, 0), ((-1), 9)], [], [], some (.inr (0, (10, 0)))), [])
def rxeOFL_4_0 : rx_End × List (Nat × Int × Int) := (([(0, 0), (0, 0), (0, 0), (0, 0), (0, 0), (0, 0), (0, 0), (0, 0), ((-1), 59), ((-2147483648), 2147483647), ((-1), 5)], [], [], some (.inr (0, (10, 0)))), [])
def rxYOFL : List bx_HE := [(rxzOFL_0, [rxoOFL_0_0, rxoOFL_0_1], []), (rxzOFL_1, [], []), (rxzOFL_2, [], [rxeOFL_2_0]), (rxzOFL_3, [], []), (rxzOFL_4, [], [rxeOFL_4_0])]
def rxUOFL (q : bx_HE) : Bool := Nat.beq (rx_zpc q.1) 5 || Nat.beq (rx_zpc q.1) 12
def rxYBOFL : bx_B := (rxV, rxNP, rxDmf, bx_mdH rxCOFL.2.2.1)
set_option maxRecDepth 100000 in
theorem rxYcOFL : bx_chkH rxYBOFL rxM21 rxCOFL rxYOFL (rxUOFL, fun cut z => rx_ex2 (rxCT rxYBOFL rxCnE) cut 30000 rxCOFL.2.2.2.1 21 z) = true := by decide +kernel
def rxIOFL (S0 : Nat → Int → Int) (ws : List Int) (i : Nat) : bx_SP := fun S r => match i with | 0 => rxIOFL_0 S0 ws S (r 8) (r 9) | 1 => rxIOFL_1 S0 ws S (r 8) (r 9) | 2 => rxIOFL_2 S0 ws S (r 8) (r 9) (r 10) | 3 => rxIOFL_3 S0 ws S (r 8) (r 9) | 4 => rxIOFL_4 S0 ws S (r 8) (r 9) (r 10) | _ => False
def rxmOFL (S0 : Nat → Int → Int) (ws : List Int) (i : Nat) (S : Nat → Int → Int) (r : Nat → Int) : Nat := match i with | 0 => rxmOFL_0 S0 ws S (r 8) (r 9) | 1 => rxmOFL_1 S0 ws S (r 8) (r 9) | 2 => rxmOFL_2 S0 ws S (r 8) (r 9) (r 10) | 3 => rxmOFL_3 S0 ws S (r 8) (r 9) | 4 => rxmOFL_4 S0 ws S (r 8) (r 9) (r 10) | _ => 0
def rxPOFL (S0 : Nat → Int → Int) (ws : List Int) : Prop := True
def rxPSOFL (S0 : Nat → Int → Int) (ws : List Int) (S : Nat → Int → Int) (w : Option Int) : Prop := S = S0 ∧ ∃ r q : Int, ws = [r, q] ∧ w = some (if q = 0 then rjWo r else rjNx r)
theorem rxkOFL_1 {S0 : Nat → Int → Int} {ws : List Int} {S : Nat → Int → Int} {r q : Int} (hP : rxPOFL S0 ws) (hin : bx_same rxL (bx_mdl rxCOFL.2.2.1) S0 S) (I0 : bx_Inv rxL S) (hinv : rxIOFL_1 S0 ws S r q) (l8 : (-1) ≤ r) (u8 : r ≤ 59) (l9 : 0 ≤ q) (u9 : q ≤ 0) : rxPWOK S [r] ∧ ∀ (S_p : Nat → Int → Int) (wo : Int), (-1) ≤ wo → wo ≤ 9 → rxPSWOK S [r] S_p (some wo) → bx_Inv rxL S_p → bx_same rxL (bx_mdl rxCWOK.2.2.1) S S_p → rxIOFL_2 S0 ws S_p r q wo ∧ rxmOFL_2 S0 ws S_p r q wo < rxmOFL_1 S0 ws S r q := by
  obtain ⟨rfl, hw⟩ := hinv
  refine ⟨trivial, fun S_p wo _ _ hq _ hsm => ⟨?_, by unfold rxmOFL_1 rxmOFL_2; omega⟩⟩
  obtain ⟨hS, r2, hw3, hr⟩ := hq
  subst hS
  have k1 : r = r2 := Option.some.inj (congrArg (fun l : List Int => l[0]?) hw3)
  subst k1
  exact ⟨rfl, hw, Option.some.inj hr⟩
theorem rxsOFL_1 {X : (Nat → Int → Int) → Prop} {S0 : Nat → Int → Int} {ws : List Int} (hP : rxPOFL S0 ws) : rx_obK X S0 rxCOFL.2.2.1 rxCWOK.2.2.1 (rxIOFL S0 ws) (rxmOFL S0 ws) 1 2 rxzOFL_1 rxzOFL_2 [.inr (0, (8, 0))] (some 10) rxPWOK rxPSWOK := by
  intro S r hinv hXS I0 hin hs_ hf_
  have b_ := bx_bds_sat hs_
  have f_ := bx_fcl_ok hs_.1 hf_
  obtain ⟨⟨l8, u8⟩, ⟨l9, u9⟩, -⟩ := b_
  have g := rxkOFL_1 hP hin I0 hinv l8 u8 l9 u9
  have ea : List.map (bx_num r) [.inr (0, (8, 0))] = [(r 8)] := by
    simp only [List.map_cons, List.map_nil, bx_xv_ok hs_.1]
    rfl
  rw [ea]
  refine ⟨g.1, fun S_p w r_p hPS hX_p I1 hsm hr hw hs_p => ?_⟩
  have hw := hw _ rfl
  subst hw
  have b_p := hs_p.2.2 10 _ _ rfl
  have g2 := g.2 S_p (r_p 10) b_p.1 b_p.2 hPS I1 hsm
  show rxIOFL_2 S0 ws S_p (r_p 8) (r_p 9) (r_p 10) ∧ rxmOFL_2 S0 ws S_p (r_p 8) (r_p 9) (r_p 10) < _
  rw [hr 8 (by decide), hr 9 (by decide)]
  exact g2
theorem rxkOFL_3 {S0 : Nat → Int → Int} {ws : List Int} {S : Nat → Int → Int} {r q : Int} (hP : rxPOFL S0 ws) (hin : bx_same rxL (bx_mdl rxCOFL.2.2.1) S0 S) (I0 : bx_Inv rxL S) (hinv : rxIOFL_3 S0 ws S r q) (l8 : (-1) ≤ r) (u8 : r ≤ 59) (l9 : (-2147483648) ≤ q) (u9 : q ≤ 2147483647) : rxPNOK S [r] ∧ ∀ (S_p : Nat → Int → Int) (ne : Int), (-1) ≤ ne → ne ≤ 5 → rxPSNOK S [r] S_p (some ne) → bx_Inv rxL S_p → bx_same rxL (bx_mdl rxCNOK.2.2.1) S S_p → rxIOFL_4 S0 ws S_p r q ne ∧ rxmOFL_4 S0 ws S_p r q ne < rxmOFL_3 S0 ws S r q := by
  obtain ⟨rfl, hw, hq0⟩ := hinv
  refine ⟨trivial, fun S_p ne _ _ hq _ hsm => ⟨?_, by unfold rxmOFL_3 rxmOFL_4; omega⟩⟩
  obtain ⟨hS, r2, hw3, hr⟩ := hq
  subst hS
  have k1 : r = r2 := Option.some.inj (congrArg (fun l : List Int => l[0]?) hw3)
  subst k1
  exact ⟨rfl, hw, hq0, Option.some.inj hr⟩
theorem rxsOFL_3 {X : (Nat → Int → Int) → Prop} {S0 : Nat → Int → Int} {ws : List Int} (hP : rxPOFL S0 ws) : rx_obK X S0 rxCOFL.2.2.1 rxCNOK.2.2.1 (rxIOFL S0 ws) (rxmOFL S0 ws) 3 4 rxzOFL_3 rxzOFL_4 [.inr (0, (8, 0))] (some 10) rxPNOK rxPSNOK := by
  intro S r hinv hXS I0 hin hs_ hf_
  have b_ := bx_bds_sat hs_
  have f_ := bx_fcl_ok hs_.1 hf_
  obtain ⟨⟨l8, u8⟩, ⟨l9, u9⟩, -⟩ := b_
  have g := rxkOFL_3 hP hin I0 hinv l8 u8 l9 u9
  have ea : List.map (bx_num r) [.inr (0, (8, 0))] = [(r 8)] := by
    simp only [List.map_cons, List.map_nil, bx_xv_ok hs_.1]
    rfl
  rw [ea]
  refine ⟨g.1, fun S_p w r_p hPS hX_p I1 hsm hr hw hs_p => ?_⟩
  have hw := hw _ rfl
  subst hw
  have b_p := hs_p.2.2 10 _ _ rfl
  have g2 := g.2 S_p (r_p 10) b_p.1 b_p.2 hPS I1 hsm
  show rxIOFL_4 S0 ws S_p (r_p 8) (r_p 9) (r_p 10) ∧ rxmOFL_4 S0 ws S_p (r_p 8) (r_p 9) (r_p 10) < _
  rw [hr 8 (by decide), hr 9 (by decide)]
  exact g2
theorem rxcOFL_0_0 {S0 : Nat → Int → Int} {ws : List Int} {S : Nat → Int → Int} {r q : Int} (hP : rxPOFL S0 ws) (hin : bx_same rxL (bx_mdl rxCOFL.2.2.1) S0 S) (I0 : bx_Inv rxL S) (hinv : rxIOFL_0 S0 ws S r q) (l8 : (-1) ≤ r) (u8 : r ≤ 59) (l9 : 0 ≤ q) (u9 : q ≤ 0) : (True) ∧ (True) ∧ rxIOFL_1 S0 ws S r q ∧ rxmOFL_1 S0 ws S r q < rxmOFL_0 S0 ws S r q := by
  obtain ⟨rfl, hw⟩ := hinv
  exact ⟨trivial, trivial, ⟨rfl, hw⟩, by unfold rxmOFL_0 rxmOFL_1; omega⟩
theorem rxgOFL_0_0 {X : (Nat → Int → Int) → Prop} {S0 : Nat → Int → Int} {ws : List Int} (hP : rxPOFL S0 ws) : bx_obC rxL X S0 rxCOFL.2.2.1 (rxIOFL S0 ws) (rxmOFL S0 ws) 0 rxzOFL_0 rxoOFL_0_0 := by
  intro S S_p r r_p hinv hX hin hsm_ hseg
  obtain ⟨I0, I1, h0_, hr_, b_, f_, d_⟩ := bx_cl (evs := []) (fvs := []) hseg (by decide +kernel) (by decide +kernel)
  have hinv : rxIOFL_0 S0 ws S (r 8) (r 9) := hinv
  rw [← hr_ 8 (by decide), ← hr_ 9 (by decide)] at hinv
  obtain ⟨⟨l8, u8⟩, ⟨l9, u9⟩, -⟩ := b_
  have w_ := d_
  subst w_
  have g := rxcOFL_0_0 hP hin I0 hinv l8 u8 l9 u9
  refine ⟨bx_narP_ok (l := []) g.1, bx_nfP_ok h0_ (fvs := []) (by decide +kernel) g.2.1, ?_, ?_⟩
  · show rxIOFL_1 S0 ws S_p (bx_val [(0, 0), (0, 0), (0, 0), (0, 0), (0, 0), (0, 0), (0, 0), (0, 0), (8, 0), (9, 0)] r_p 8) (bx_val [(0, 0), (0, 0), (0, 0), (0, 0), (0, 0), (0, 0), (0, 0), (0, 0), (8, 0), (9, 0)] r_p 9)
    rw [bx_val_x (n := 8) (e := (8, 0)) h0_ rfl, bx_val_x (n := 9) (e := (9, 0)) h0_ rfl]
    exact g.2.2.1
  · show rxmOFL_1 S0 ws S_p (bx_val [(0, 0), (0, 0), (0, 0), (0, 0), (0, 0), (0, 0), (0, 0), (0, 0), (8, 0), (9, 0)] r_p 8) (bx_val [(0, 0), (0, 0), (0, 0), (0, 0), (0, 0), (0, 0), (0, 0), (0, 0), (8, 0), (9, 0)] r_p 9) < rxmOFL_0 S0 ws S_p (r 8) (r 9)
    rw [bx_val_x (n := 8) (e := (8, 0)) h0_ rfl, bx_val_x (n := 9) (e := (9, 0)) h0_ rfl, ← hr_ 8 (by decide), ← hr_ 9 (by decide)]
    exact g.2.2.2
theorem rxcOFL_0_1 {S0 : Nat → Int → Int} {ws : List Int} {S : Nat → Int → Int} {r q : Int} (hP : rxPOFL S0 ws) (hin : bx_same rxL (bx_mdl rxCOFL.2.2.1) S0 S) (I0 : bx_Inv rxL S) (hinv : rxIOFL_0 S0 ws S r q) (l8 : (-1) ≤ r) (u8 : r ≤ 59) (l9 : (-2147483648) ≤ q) (u9 : q ≤ 2147483647) (f0 : q ≠ 0) : (True) ∧ (True) ∧ rxIOFL_3 S0 ws S r q ∧ rxmOFL_3 S0 ws S r q < rxmOFL_0 S0 ws S r q := by
  obtain ⟨rfl, hw⟩ := hinv
  exact ⟨trivial, trivial, ⟨rfl, hw, by omega⟩, by unfold rxmOFL_0 rxmOFL_3; omega⟩
theorem rxgOFL_0_1 {X : (Nat → Int → Int) → Prop} {S0 : Nat → Int → Int} {ws : List Int} (hP : rxPOFL S0 ws) : bx_obC rxL X S0 rxCOFL.2.2.1 (rxIOFL S0 ws) (rxmOFL S0 ws) 0 rxzOFL_0 rxoOFL_0_1 := by
  intro S S_p r r_p hinv hX hin hsm_ hseg
  obtain ⟨I0, I1, h0_, hr_, b_, f_, d_⟩ := bx_cl (evs := []) (fvs := [(3, (9, 0), (0, 0), (0, 0))]) hseg (by decide +kernel) (by decide +kernel)
  have hinv : rxIOFL_0 S0 ws S (r 8) (r 9) := hinv
  rw [← hr_ 8 (by decide), ← hr_ 9 (by decide)] at hinv
  obtain ⟨⟨l8, u8⟩, ⟨l9, u9⟩, -⟩ := b_
  obtain ⟨f0, -⟩ := f_
  have w_ := d_
  subst w_
  have g := rxcOFL_0_1 hP hin I0 hinv l8 u8 l9 u9 f0
  refine ⟨bx_narP_ok (l := []) g.1, bx_nfP_ok h0_ (fvs := []) (by decide +kernel) g.2.1, ?_, ?_⟩
  · show rxIOFL_3 S0 ws S_p (bx_val [(0, 0), (0, 0), (0, 0), (0, 0), (0, 0), (0, 0), (0, 0), (0, 0), (8, 0), (9, 0)] r_p 8) (bx_val [(0, 0), (0, 0), (0, 0), (0, 0), (0, 0), (0, 0), (0, 0), (0, 0), (8, 0), (9, 0)] r_p 9)
    rw [bx_val_x (n := 8) (e := (8, 0)) h0_ rfl, bx_val_x (n := 9) (e := (9, 0)) h0_ rfl]
    exact g.2.2.1
  · show rxmOFL_3 S0 ws S_p (bx_val [(0, 0), (0, 0), (0, 0), (0, 0), (0, 0), (0, 0), (0, 0), (0, 0), (8, 0), (9, 0)] r_p 8) (bx_val [(0, 0), (0, 0), (0, 0), (0, 0), (0, 0), (0, 0), (0, 0), (0, 0), (8, 0), (9, 0)] r_p 9) < rxmOFL_0 S0 ws S_p (r 8) (r 9)
    rw [bx_val_x (n := 8) (e := (8, 0)) h0_ rfl, bx_val_x (n := 9) (e := (9, 0)) h0_ rfl, ← hr_ 8 (by decide), ← hr_ 9 (by decide)]
    exact g.2.2.2
theorem rxdOFL_2_0 {S0 : Nat → Int → Int} {ws : List Int} {S : Nat → Int → Int} {r q wo : Int} (hP : rxPOFL S0 ws) (hin : bx_same rxL (bx_mdl rxCOFL.2.2.1) S0 S) (hin2 : bx_same rxL (bx_mdl rxCOFL.2.2.1) S S) (I0 : bx_Inv rxL S) (I1 : bx_Inv rxL S) (hinv : rxIOFL_2 S0 ws S r q wo) (l8 : (-1) ≤ r) (u8 : r ≤ 59) (l9 : 0 ≤ q) (u9 : q ≤ 0) (l10 : (-1) ≤ wo) (u10 : wo ≤ 9) : (True) ∧ rxPSOFL S0 ws S (some wo) := by
  obtain ⟨rfl, hw, hv⟩ := hinv
  exact ⟨trivial, rfl, r, q, hw, congrArg some (hv.trans (if_pos (by omega)).symm)⟩
theorem rxfOFL_2_0 {X : (Nat → Int → Int) → Prop} {S0 : Nat → Int → Int} {ws : List Int} (hP : rxPOFL S0 ws) : bx_obE rxL X S0 rxCOFL.2.2.1 (rxIOFL S0 ws) (rxPSOFL S0 ws) 2 rxzOFL_2 rxeOFL_2_0 := by
  intro S S_p r r_p hinv hX hin hsm_ hseg
  obtain ⟨I0, I1, h0_, hr_, b_, f_, d_⟩ := bx_cl (evs := []) (fvs := []) hseg (by decide +kernel) (by decide +kernel)
  have hinv : rxIOFL_2 S0 ws S (r 8) (r 9) (r 10) := hinv
  rw [← hr_ 8 (by decide), ← hr_ 9 (by decide), ← hr_ 10 (by decide)] at hinv
  obtain ⟨⟨l8, u8⟩, ⟨l9, u9⟩, ⟨l10, u10⟩, -⟩ := b_
  have w_ := d_
  subst w_
  have g := rxdOFL_2_0 hP hin hsm_ I0 I1 hinv l8 u8 l9 u9 l10 u10
  refine ⟨bx_narP_ok (l := []) g.1, ?_⟩
  show rxPSOFL S0 ws S_p (some (bx_num r_p (.inr (0, (10, 0)))))
  rw [bx_xv_ok h0_]
  exact g.2
theorem rxdOFL_4_0 {S0 : Nat → Int → Int} {ws : List Int} {S : Nat → Int → Int} {r q ne : Int} (hP : rxPOFL S0 ws) (hin : bx_same rxL (bx_mdl rxCOFL.2.2.1) S0 S) (hin2 : bx_same rxL (bx_mdl rxCOFL.2.2.1) S S) (I0 : bx_Inv rxL S) (I1 : bx_Inv rxL S) (hinv : rxIOFL_4 S0 ws S r q ne) (l8 : (-1) ≤ r) (u8 : r ≤ 59) (l9 : (-2147483648) ≤ q) (u9 : q ≤ 2147483647) (l10 : (-1) ≤ ne) (u10 : ne ≤ 5) : (True) ∧ rxPSOFL S0 ws S (some ne) := by
  obtain ⟨rfl, hw, hq0, hv⟩ := hinv
  exact ⟨trivial, rfl, r, q, hw, congrArg some (hv.trans (if_neg hq0).symm)⟩
theorem rxfOFL_4_0 {X : (Nat → Int → Int) → Prop} {S0 : Nat → Int → Int} {ws : List Int} (hP : rxPOFL S0 ws) : bx_obE rxL X S0 rxCOFL.2.2.1 (rxIOFL S0 ws) (rxPSOFL S0 ws) 4 rxzOFL_4 rxeOFL_4_0 := by
  intro S S_p r r_p hinv hX hin hsm_ hseg
  obtain ⟨I0, I1, h0_, hr_, b_, f_, d_⟩ := bx_cl (evs := []) (fvs := []) hseg (by decide +kernel) (by decide +kernel)
  have hinv : rxIOFL_4 S0 ws S (r 8) (r 9) (r 10) := hinv
  rw [← hr_ 8 (by decide), ← hr_ 9 (by decide), ← hr_ 10 (by decide)] at hinv
  obtain ⟨⟨l8, u8⟩, ⟨l9, u9⟩, ⟨l10, u10⟩, -⟩ := b_
  have w_ := d_
  subst w_
  have g := rxdOFL_4_0 hP hin hsm_ I0 I1 hinv l8 u8 l9 u9 l10 u10
  refine ⟨bx_narP_ok (l := []) g.1, ?_⟩
  show rxPSOFL S0 ws S_p (some (bx_num r_p (.inr (0, (10, 0)))))
  rw [bx_xv_ok h0_]
  exact g.2
theorem rxgCOFL {X : (Nat → Int → Int) → Prop} {S0 : Nat → Int → Int} {ws : List Int} (hP : rxPOFL S0 ws) : bx_allI (fun i q => rxUOFL q = true ∨ bx_allP (fun o => bx_obC rxL X S0 rxCOFL.2.2.1 (rxIOFL S0 ws) (rxmOFL S0 ws) i q.1 o) q.2.1) 0 rxYOFL := ⟨Or.inr ⟨rxgOFL_0_0 hP, rxgOFL_0_1 hP, trivial⟩, Or.inl rfl, Or.inr trivial, Or.inl rfl, Or.inr trivial, trivial⟩
theorem rxgEOFL {X : (Nat → Int → Int) → Prop} {S0 : Nat → Int → Int} {ws : List Int} (hP : rxPOFL S0 ws) : bx_allI (fun i q => rxUOFL q = true ∨ bx_allP (fun E => bx_obE rxL X S0 rxCOFL.2.2.1 (rxIOFL S0 ws) (rxPSOFL S0 ws) i q.1 E) q.2.2) 0 rxYOFL := ⟨Or.inr trivial, Or.inl rfl, Or.inr ⟨rxfOFL_2_0 hP, trivial⟩, Or.inl rfl, Or.inr ⟨rxfOFL_4_0 hP, trivial⟩, trivial⟩
theorem rxuOFL {PX : State → Prop} {Dg : va_G} {A : Nat → Prop} {ad xa : Nat → Nat} {l : Launch} {X : (Nat → Int → Int) → Prop} (hPX : rx_PXOK rxNW A PX) (hX : ∀ S S1 : Nat → Int → Int, X S → bx_same rxL (bx_mdl rxCOFL.2.2.1) S S1 → X S1) (hQWOK : bx_ConP rxG rxNW rxAO PX Dg rxL X vwCl A ad l rxM17 rxCWOK rxPWOK rxPSWOK) (hQNOK : bx_ConP rxG rxNW rxAO PX Dg rxL X vwCl A ad l rxM20 rxCNOK rxPNOK rxPSNOK) {S0 : Nat → Int → Int} {ws : List Int} (hP : rxPOFL S0 ws) : ∀ (i : Nat) (q : bx_HE), rxYOFL[i]? = some q → rxUOFL q = true → ∀ {p : Program} {e : Env} {R : Room} {s : State} {m : MethodId} {args : Array Value} {below : List Frame} {meth : Method} {c : Code} {Q : State → Prop} {H0 : Heap}, rx_Fr rxG rxNW rxAO PX p s m args meth c rxM21 → (∀ q, H0.size ≤ q → A q) → H0 = s.heap → rxM21.2.2.2.2.2.2.1 ≤ R.cells → rxM21.2.2.2.2.2.2.2 ≤ R.slots → rxCOFL.2.2.2.1 ≤ R.frames → rxCOFL.2.2.2.1 * 40 ≤ R.locals → bx_Step p l e R s m args below meth c Q Dg rxL X vwCl A xa H0 ad rxM21 rxYOFL (rxIOFL S0 ws) (rxmOFL S0 ws) S0 rxCOFL.2.2.1 i q := by
  intro i q hq hus p e R s m args below meth c Q H0 hF hA hH0 hmc hms hd hdl
  match i, hq with
  | 0, hq =>
    cases hq
    exact absurd (show false = true from hus) Bool.false_ne_true
  | 1, hq =>
    cases hq
    exact rx_stepC (ins := .invokestatic 191) (len := 3) (i_p := 2) (M_p := rxM17) (d := rxCOFL.2.2.2.1) (as := [.inr (0, (8, 0))]) (t := []) (ct := rxCWOK) hPX hF rfl hA hH0 hmc hms hd hdl (by decide +kernel) rfl rfl (by decide +kernel) (by decide +kernel) hQWOK (by decide +kernel) rfl (Or.inr ⟨_, _, _, 1, rfl, rfl, by omega, rfl, rfl, rfl⟩) (rxsOFL_1 hP)
  | 2, hq =>
    cases hq
    exact absurd (show false = true from hus) Bool.false_ne_true
  | 3, hq =>
    cases hq
    exact rx_stepC (ins := .invokestatic 212) (len := 3) (i_p := 4) (M_p := rxM20) (d := rxCOFL.2.2.2.1) (as := [.inr (0, (8, 0))]) (t := []) (ct := rxCNOK) hPX hF rfl hA hH0 hmc hms hd hdl (by decide +kernel) rfl rfl (by decide +kernel) (by decide +kernel) hQNOK (by decide +kernel) rfl (Or.inr ⟨_, _, _, 1, rfl, rfl, by omega, rfl, rfl, rfl⟩) (rxsOFL_3 hP)
  | 4, hq =>
    cases hq
    exact absurd (show false = true from hus) Bool.false_ne_true
  | n + 5, hq => cases hq
theorem rxQOFL {PX : State → Prop} {Dg : va_G} {A : Nat → Prop} {ad xa : Nat → Nat} {l : Launch} {X : (Nat → Int → Int) → Prop} (hPX : rx_PXOK rxNW A PX) (hsl : ∀ s : State, PX s → ∀ o idx n : Nat, rxSl o idx = some n → ∃ tx : String, vk_R (rxNm o) idx tx (ad n) s)
    (hX : ∀ S S_p : Nat → Int → Int, X S → bx_same rxL (bx_mdl rxCOFL.2.2.1) S S_p → X S_p)
    (ih : ∀ (j2 : Nat) (ct2 : bx_Ct) (M2 : rx_Mt), ct2 ∈ rxCnE j2 → ct2.2.2.2.1 + 1 ≤ rxCOFL.2.2.2.1 → rxT.2.2.2.2.2 j2 = some M2 → bx_Con rxG rxNW rxAO PX Dg rxL X vwCl A ad l M2 ct2) (hQWOK : bx_ConP rxG rxNW rxAO PX Dg rxL X vwCl A ad l rxM17 rxCWOK rxPWOK rxPSWOK) (hQNOK : bx_ConP rxG rxNW rxAO PX Dg rxL X vwCl A ad l rxM20 rxCNOK rxPNOK rxPSNOK) : bx_ConP rxG rxNW rxAO PX Dg rxL X vwCl A ad l rxM21 rxCOFL rxPOFL rxPSOFL :=
  rxQof (xa := xa) (Cn := rxCnE) (f := 30000) (j := 21) (tab := rxYOFL) (us := rxUOFL) hPX hsl hX ih rfl rxYcOFL rxIOFL rxmOFL
    (fun S0 ws r I0 I ht0 ht as he he1 hX0 hI0 hP hs ha => by
      have e := he.symm.trans (show bx_ent0 rxNP rxCOFL.1 bx_I0 [] = some ([(0, 0), (0, 0), (0, 0), (0, 0), (0, 0), (0, 0), (0, 0), (0, 0), ((-1), 59), ((-2147483648), 2147483647)], [], [.inr (0, (8, 0)), .inr (0, (9, 0))]) from rfl)
      cases e
      subst ha
      have h0 : r 0 = 0 := hs.1
      show rxIOFL_0 S0 _ S0 (r 8) (r 9)
      refine ⟨rfl, ?_⟩
      simp only [List.map_cons, List.map_nil, bx_xv_ok h0]
      rfl)
    (fun S0 ws hP => rxuOFL (xa := xa) hPX hX hQWOK hQNOK hP) (fun S0 ws hP => rxgCOFL hP) (fun S0 ws hP => rxgEOFL hP)
/-! CONTRACT BY HAND, by program (wip/sim/genhand.py): DeadUnderstudies.of -/
def rxIOFD_0 (S0 : Nat → Int → Int) (ws : List Int) (S : Nat → Int → Int) (pa st cu wh : Int) : Prop := S = S0 ∧ ws = [0, pa, st, cu, wh]
def rxmOFD_0 (S0 : Nat → Int → Int) (ws : List Int) (S : Nat → Int → Int) (pa st cu wh : Int) : Nat := 100
def rxzOFD_0 : rx_Z := ([(0, 0), (0, 0), (0, 0), (0, 0), (0, 0), (0, 0), (0, 0), (0, 0), ((-2147483648), 2147483647), ((-2147483648), 2147483647), ((-2147483648), 2147483647), ((-2147483648), 2147483647)], [], [], 0, 0, 0, [(0, .inr (3, (0, 0))), (1, .inr (0, (8, 0))), (2, .inr (0, (9, 0))), (3, .inr (0, (10, 0))), (4, .inr (0, (11, 0)))], [])
def rxeOFD_0_0 : rx_End × List (Nat × Int × Int) := (([(0, 0), (0, 0), (0, 0), (0, 0), (0, 0), (0, 0), (0, 0), (0, 0), ((-2147483648), (-1)), ((-2147483648), 2147483647), ((-2147483648), 2147483647), ((-2147483648), 2147483647)], [], [(((0, 0), 0), .inr (3, (0, 1)))], some (.inr (0, (0, (-1))))), [])
def rxeOFD_0_1 : rx_End × List (Nat × Int × Int) := (([(0, 0), (0, 0), (0, 0), (0, 0), (0, 0), (0, 0), (0, 0), (0, 0), (0, 2147483647), ((-2147483648), 2147483647), ((-2147483648), 2147483647), ((-2147483648), 2147483647), (0, 6)], [(1, (12, 0), (8, 0))], [(((0, 0), 1851192626986356797424340330377019318111018015026043177553952768000000), .inr (0, (12, 0))), (((0, 1), 0), .inr (0, (12, 0))), (((0, 0), 0), .inr (3, (0, 1)))], some (.inr (0, (0, (-1))))), [])
def rxeOFD_0_2 : rx_End × List (Nat × Int × Int) := (([(0, 0), (0, 0), (0, 0), (0, 0), (0, 0), (0, 0), (0, 0), (0, 0), (0, 5), ((-2147483648), 2147483647), ((-2147483648), 2147483647), ((-2147483648), 2147483647), (1, 6), (0, 1522)], [(3, (11, 0), (0, 1)), (3, (11, 0), (0, 0)), (0, (8, 0), (12, 0))], [(((0, 0), 1851192626986356797424364830707437625680387377997778264866947072000000), .inr (3, (13, 0))), (((13, 0), 1000010), .inl none), (((0, 1), 3), .inr (3, (0, 4))), (((0, 0), 1851192626986356797424340330377019318111018015026043177553952768000000), .inr (0, (12, 0))), (((0, 1), 0), .inr (0, (12, 0))), (((0, 0), 0), .inr (3, (0, 1)))], some (.inr (0, (0, (-1))))), [])
def rxeOFD_0_3 : rx_End × List (Nat × Int × Int) := (([(0, 0), (0, 0), (0, 0), (0, 0), (0, 0), (0, 0), (0, 0), (0, 0), (0, 5), ((-2147483648), (-1)), ((-2147483648), 2147483647), (1, 1), (1, 6), (0, 1522)], [(3, (11, 0), (0, 0)), (0, (8, 0), (12, 0))], [(((0, 0), 1851192626986356797424364830707437625680387377997778264866947072000000), .inr (3, (13, 0))), (((13, 0), 1000010), .inl none), (((0, 1), 3), .inr (3, (0, 4))), (((0, 0), 1851192626986356797424340330377019318111018015026043177553952768000000), .inr (0, (12, 0))), (((0, 1), 0), .inr (0, (12, 0))), (((0, 0), 0), .inr (3, (0, 1)))], some (.inr (0, (0, (-1))))), [])
def rxeOFD_0_4 : rx_End × List (Nat × Int × Int) := (([(0, 0), (0, 0), (0, 0), (0, 0), (0, 0), (0, 0), (0, 0), (0, 0), (0, 5), (6, 2147483647), ((-2147483648), 2147483647), (1, 1), (1, 6), (0, 1522)], [(3, (11, 0), (0, 0)), (0, (8, 0), (12, 0))], [(((0, 0), 1851192626986356797424364830707437625680387377997778264866947072000000), .inr (3, (13, 0))), (((13, 0), 1000010), .inl none), (((0, 1), 3), .inr (3, (0, 4))), (((0, 0), 1851192626986356797424340330377019318111018015026043177553952768000000), .inr (0, (12, 0))), (((0, 1), 0), .inr (0, (12, 0))), (((0, 0), 0), .inr (3, (0, 1)))], some (.inr (0, (0, (-1))))), [])
def rxeOFD_0_5 : rx_End × List (Nat × Int × Int) := (([(0, 0), (0, 0), (0, 0), (0, 0), (0, 0), (0, 0), (0, 0), (0, 0), (0, 5), (0, 5), ((-2147483648), (-1)), (1, 1), (1, 6), (0, 1522)], [(3, (11, 0), (0, 0)), (0, (8, 0), (12, 0))], [(((0, 0), 1851192626986356797424364830707437625680387377997778264866947072000000), .inr (3, (13, 0))), (((13, 0), 1000010), .inl none), (((0, 1), 3), .inr (3, (0, 4))), (((0, 0), 1851192626986356797424340330377019318111018015026043177553952768000000), .inr (0, (12, 0))), (((0, 1), 0), .inr (0, (12, 0))), (((0, 0), 0), .inr (3, (0, 1)))], some (.inr (0, (0, (-1))))), [])
def rxeOFD_0_6 : rx_End × List (Nat × Int × Int) := (([(0, 0), (0, 0), (0, 0), (0, 0), (0, 0), (0, 0), (0, 0), (0, 0), (0, 5), (0, 5), (6, 2147483647), (1, 1), (1, 6), (0, 1522)], [(3, (11, 0), (0, 0)), (0, (8, 0), (12, 0))], [(((0, 0), 1851192626986356797424364830707437625680387377997778264866947072000000), .inr (3, (13, 0))), (((13, 0), 1000010), .inl none), (((0, 1), 3), .inr (3, (0, 4))), (((0, 0), 1851192626986356797424340330377019318111018015026043177553952768000000), .inr (0, (12, 0))), (((0, 1), 0), .inr (0, (12, 0))), (((0, 0), 0), .inr (3, (0, 1)))], some (.inr (0, (0, (-1))))), [])
def rxeOFD_0_7 : rx_End × List (Nat × Int × Int) := (([(0, 0), (0, 0), (0, 0), (0, 0), (0, 0), (0, 0), (0, 0), (0, 0), (0, 5), (0, 5), (0, 5), (1, 1), (1, 6), (0, 1522), (0, 1522), (0, 30), (0, 35), ((-1), 5)], [(604462909807314587353098000000, (16, 0), (15, 0)), (10, (15, 0), (9, 0)), (3, (11, 0), (0, 0)), (0, (8, 0), (12, 0))], [(((0, 0), 1851192626986356797424389331037855933249756740969513352175812734000000), .inr (0, (17, 0))), (((0, 0), 1851192626986356797625047037163794926384839479479878431107186805000000), .inr (3, (14, 0))), (((13, 0), 1), .inr (3, (14, 0))), (((14, 0), 1000018), .inl none), (((0, 0), 1851192626986356797424364830707437625680387377997778264866947072000000), .inr (3, (13, 0))), (((13, 0), 1000010), .inl none), (((0, 1), 3), .inr (3, (0, 4))), (((0, 0), 1851192626986356797424340330377019318111018015026043177553952768000000), .inr (0, (12, 0))), (((0, 1), 0), .inr (0, (12, 0))), (((0, 0), 0), .inr (3, (0, 1)))], some (.inr (0, (17, 0)))), [])
def rxeOFD_0_8 : rx_End × List (Nat × Int × Int) := (([(0, 0), (0, 0), (0, 0), (0, 0), (0, 0), (0, 0), (0, 0), (0, 0), (0, 5), ((-2147483648), (-1)), ((-2147483648), 2147483647), (0, 0), (1, 6), (0, 1522)], [(0, (8, 0), (12, 0))], [(((0, 0), 1851192626986356797424364830707437625680387377997778264866947072000000), .inr (3, (13, 0))), (((13, 0), 1000010), .inl none), (((0, 1), 3), .inr (3, (0, 4))), (((0, 0), 1851192626986356797424340330377019318111018015026043177553952768000000), .inr (0, (12, 0))), (((0, 1), 0), .inr (0, (12, 0))), (((0, 0), 0), .inr (3, (0, 1)))], some (.inr (0, (0, (-1))))), [])
def rxeOFD_0_9 : rx_End × List (Nat × Int × Int) := (([(0, 0), (0, 0), (0, 0), (0, 0), (0, 0), (0, 0), (0, 0), (0, 0), (0, 5), (6, 2147483647), ((-2147483648), 2147483647), (0, 0), (1, 6), (0, 1522)], [(0, (8, 0), (12, 0))], [(((0, 0), 1851192626986356797424364830707437625680387377997778264866947072000000), .inr (3, (13, 0))), (((13, 0), 1000010), .inl none), (((0, 1), 3), .inr (3, (0, 4))), (((0, 0), 1851192626986356797424340330377019318111018015026043177553952768000000), .inr (0, (12, 0))), (((0, 1), 0), .inr (0, (12, 0))), (((0, 0), 0), .inr (3, (0, 1)))], some (.inr (0, (0, (-1))))), [])
def rxeOFD_0_10 : rx_End × List (Nat × Int × Int) := (([(0, 0), (0, 0), (0, 0), (0, 0), (0, 0), (0, 0), (0, 0), (0, 0), (0, 5), (0, 5), ((-2147483648), (-1)), (0, 0), (1, 6), (0, 1522)], [(0, (8, 0), (12, 0))], [(((0, 0), 1851192626986356797424364830707437625680387377997778264866947072000000), .inr (3, (13, 0))), (((13, 0), 1000010), .inl none), (((0, 1), 3), .inr (3, (0, 4))), (((0, 0), 1851192626986356797424340330377019318111018015026043177553952768000000), .inr (0, (12, 0))), (((0, 1), 0), .inr (0, (12, 0))), (((0, 0), 0), .inr (3, (0, 1)))], some (.inr (0, (0, (-1))))), [])
def rxeOFD_0_11 : rx_End × List (Nat × Int × Int) := (([(0, 0), (0, 0), (0, 0), (0, 0), (0, 0), (0, 0), (0, 0), (0, 0), (0, 5), (0, 5), (6, 2147483647), (0, 0), (1, 6), (0, 1522)], [(0, (8, 0), (12, 0))], [(((0, 0), 1851192626986356797424364830707437625680387377997778264866947072000000), .inr (3, (13, 0))), (((13, 0), 1000010), .inl none), (((0, 1), 3), .inr (3, (0, 4))), (((0, 0), 1851192626986356797424340330377019318111018015026043177553952768000000), .inr (0, (12, 0))), (((0, 1), 0), .inr (0, (12, 0))), (((0, 0), 0), .inr (3, (0, 1)))], some (.inr (0, (0, (-1))))), [])
def rxeOFD_0_12 : rx_End × List (Nat × Int × Int) := (([(0, 0), (0, 0), (0, 0), (0, 0), (0, 0), (0, 0), (0, 0), (0, 0), (0, 5), (0, 5), (0, 5), (0, 0), (1, 6), (0, 1522), (0, 1522), (0, 30), (0, 35), ((-1), 9)], [(604462909807314587353098000000, (16, 0), (15, 0)), (10, (15, 0), (9, 0)), (0, (8, 0), (12, 0))], [(((0, 0), 1851192626986356797424389331037855933249756740969513352175812734000000), .inr (0, (17, 0))), (((0, 0), 1851192626986356797424340330377019318111018015026043177553363061000000), .inr (3, (14, 0))), (((13, 0), 0), .inr (3, (14, 0))), (((14, 0), 1000019), .inl none), (((0, 0), 1851192626986356797424364830707437625680387377997778264866947072000000), .inr (3, (13, 0))), (((13, 0), 1000010), .inl none), (((0, 1), 3), .inr (3, (0, 4))), (((0, 0), 1851192626986356797424340330377019318111018015026043177553952768000000), .inr (0, (12, 0))), (((0, 1), 0), .inr (0, (12, 0))), (((0, 0), 0), .inr (3, (0, 1)))], some (.inr (0, (17, 0)))), [])
def rxYOFD : List bx_HE := [(rxzOFD_0, [], [rxeOFD_0_0, rxeOFD_0_1, rxeOFD_0_2, rxeOFD_0_3, rxeOFD_0_4, rxeOFD_0_5, rxeOFD_0_6, rxeOFD_0_7, rxeOFD_0_8, rxeOFD_0_9, rxeOFD_0_10, rxeOFD_0_11, rxeOFD_0_12])]
def rxUOFD (q : bx_HE) : Bool := false
def rxYBOFD : bx_B := (rxV, rxNP, rxDmf, bx_mdH rxC219.2.2.1)
set_option maxRecDepth 100000 in
theorem rxYcOFD : bx_chkH rxYBOFD rxM219 rxC219 rxYOFD (rxUOFD, fun cut z => rx_ex2 (rxCT rxYBOFD rxCnE) cut 30000 rxC219.2.2.2.1 219 z) = true := by decide +kernel
def rxIOFD (S0 : Nat → Int → Int) (ws : List Int) (i : Nat) : bx_SP := fun S r => match i with | 0 => rxIOFD_0 S0 ws S (r 8) (r 9) (r 10) (r 11) | _ => False
def rxmOFD (S0 : Nat → Int → Int) (ws : List Int) (i : Nat) (S : Nat → Int → Int) (r : Nat → Int) : Nat := match i with | 0 => rxmOFD_0 S0 ws S (r 8) (r 9) (r 10) (r 11) | _ => 0
def rxPOFD (S0 : Nat → Int → Int) (ws : List Int) : Prop := rkPl S0
def rxPSOFD (S0 : Nat → Int → Int) (ws : List Int) (S : Nat → Int → Int) (w : Option Int) : Prop := ∃ pa st cu wh : Int, ws = [0, pa, st, cu, wh] ∧ (((pa < 0 ∨ S0 1 0 ≤ pa ∨ st < 0 ∨ 5 < st ∨ cu < 0 ∨ 5 < cu ∨ wh < 0 ∨ 1 < wh) ∧ w = some (-1)) ∨ ((0 ≤ pa ∧ pa < S0 1 0 ∧ 0 ≤ st ∧ st ≤ 5 ∧ 0 ≤ cu ∧ cu ≤ 5) ∧ wh = 0 ∧ w = some (S0 (24 + 3 * pa).toNat (6 * st + cu))) ∨ ((0 ≤ pa ∧ pa < S0 1 0 ∧ 0 ≤ st ∧ st ≤ 5 ∧ 0 ≤ cu ∧ cu ≤ 5) ∧ wh = 1 ∧ w = some (S0 (25 + 3 * pa).toNat (6 * st + cu))))
theorem rxdOFD_0_0 {S0 : Nat → Int → Int} {ws : List Int} {S : Nat → Int → Int} {pa st cu wh : Int} (hP : rxPOFD S0 ws) (hin : bx_same rxL (bx_mdl rxC219.2.2.1) S0 S) (hin2 : bx_same rxL (bx_mdl rxC219.2.2.1) S S) (I0 : bx_Inv rxL S) (I1 : bx_Inv rxL S) (hinv : rxIOFD_0 S0 ws S pa st cu wh) (l8 : (-2147483648) ≤ pa) (u8 : pa ≤ (-1)) (l9 : (-2147483648) ≤ st) (u9 : st ≤ 2147483647) (l10 : (-2147483648) ≤ cu) (u10 : cu ≤ 2147483647) (l11 : (-2147483648) ≤ wh) (u11 : wh ≤ 2147483647) : (True) ∧ rxPSOFD S0 ws S (some ((-1))) := by
  obtain ⟨rfl, hw⟩ := hinv
  exact ⟨trivial, pa, st, cu, wh, hw, Or.inl ⟨by omega, rfl⟩⟩
theorem rxfOFD_0_0 {X : (Nat → Int → Int) → Prop} {S0 : Nat → Int → Int} {ws : List Int} (hP : rxPOFD S0 ws) : bx_obE rxL X S0 rxC219.2.2.1 (rxIOFD S0 ws) (rxPSOFD S0 ws) 0 rxzOFD_0 rxeOFD_0_0 := by
  intro S S_p r r_p hinv hX hin hsm_ hseg
  obtain ⟨I0, I1, h0_, hr_, b_, f_, d_⟩ := bx_cl (evs := []) (fvs := []) hseg (by decide +kernel) (by decide +kernel)
  have hinv : rxIOFD_0 S0 ws S (r 8) (r 9) (r 10) (r 11) := hinv
  rw [← hr_ 8 (by decide), ← hr_ 9 (by decide), ← hr_ 10 (by decide), ← hr_ 11 (by decide)] at hinv
  obtain ⟨⟨l8, u8⟩, ⟨l9, u9⟩, ⟨l10, u10⟩, ⟨l11, u11⟩, -⟩ := b_
  have w_ := d_
  subst w_
  have g := rxdOFD_0_0 hP hin hsm_ I0 I1 hinv l8 u8 l9 u9 l10 u10 l11 u11
  refine ⟨bx_narP_ok (l := []) g.1, ?_⟩
  show rxPSOFD S0 ws S_p (some (bx_num r_p (.inr (0, (0, (-1))))))
  rw [bx_xv_ok h0_]
  exact g.2
theorem rxdOFD_0_1 {S0 : Nat → Int → Int} {ws : List Int} {S : Nat → Int → Int} {pa st cu wh x12 : Int} (hP : rxPOFD S0 ws) (hin : bx_same rxL (bx_mdl rxC219.2.2.1) S0 S) (hin2 : bx_same rxL (bx_mdl rxC219.2.2.1) S S) (I0 : bx_Inv rxL S) (I1 : bx_Inv rxL S) (hinv : rxIOFD_0 S0 ws S pa st cu wh) (l8 : 0 ≤ pa) (u8 : pa ≤ 2147483647) (l9 : (-2147483648) ≤ st) (u9 : st ≤ 2147483647) (l10 : (-2147483648) ≤ cu) (u10 : cu ≤ 2147483647) (l11 : (-2147483648) ≤ wh) (u11 : wh ≤ 2147483647) (l12 : 0 ≤ x12) (u12 : x12 ≤ 6) (f0 : x12 ≤ pa) (e0 : S 1 0 = x12) : (True) ∧ rxPSOFD S0 ws S (some ((-1))) := by
  obtain ⟨rfl, hw⟩ := hinv
  exact ⟨trivial, pa, st, cu, wh, hw, Or.inl ⟨by omega, rfl⟩⟩
theorem rxfOFD_0_1 {X : (Nat → Int → Int) → Prop} {S0 : Nat → Int → Int} {ws : List Int} (hP : rxPOFD S0 ws) : bx_obE rxL X S0 rxC219.2.2.1 (rxIOFD S0 ws) (rxPSOFD S0 ws) 0 rxzOFD_0 rxeOFD_0_1 := by
  intro S S_p r r_p hinv hX hin hsm_ hseg
  obtain ⟨I0, I1, h0_, hr_, b_, f_, d_⟩ := bx_cl (evs := [(0, (0, 1), (0, 0), .inr (0, (12, 0)))]) (fvs := [(1, (12, 0), (8, 0), (0, 0))]) hseg (by decide +kernel) (by decide +kernel)
  have hinv : rxIOFD_0 S0 ws S (r 8) (r 9) (r 10) (r 11) := hinv
  rw [← hr_ 8 (by decide), ← hr_ 9 (by decide), ← hr_ 10 (by decide), ← hr_ 11 (by decide)] at hinv
  obtain ⟨⟨l8, u8⟩, ⟨l9, u9⟩, ⟨l10, u10⟩, ⟨l11, u11⟩, ⟨l12, u12⟩, -⟩ := b_
  obtain ⟨f0, -⟩ := f_
  obtain ⟨e0, w_⟩ := d_
  subst w_
  have g := rxdOFD_0_1 hP hin hsm_ I0 I1 hinv l8 u8 l9 u9 l10 u10 l11 u11 l12 u12 f0 e0
  refine ⟨bx_narP_ok (l := []) g.1, ?_⟩
  show rxPSOFD S0 ws S_p (some (bx_num r_p (.inr (0, (0, (-1))))))
  rw [bx_xv_ok h0_]
  exact g.2
theorem rxdOFD_0_2 {S0 : Nat → Int → Int} {ws : List Int} {S : Nat → Int → Int} {pa st cu wh x12 x13 : Int} (hP : rxPOFD S0 ws) (hin : bx_same rxL (bx_mdl rxC219.2.2.1) S0 S) (hin2 : bx_same rxL (bx_mdl rxC219.2.2.1) S S) (I0 : bx_Inv rxL S) (I1 : bx_Inv rxL S) (hinv : rxIOFD_0 S0 ws S pa st cu wh) (l8 : 0 ≤ pa) (u8 : pa ≤ 5) (l9 : (-2147483648) ≤ st) (u9 : st ≤ 2147483647) (l10 : (-2147483648) ≤ cu) (u10 : cu ≤ 2147483647) (l11 : (-2147483648) ≤ wh) (u11 : wh ≤ 2147483647) (l12 : 1 ≤ x12) (u12 : x12 ≤ 6) (l13 : 0 ≤ x13) (u13 : x13 ≤ 1522) (f0 : wh ≠ 1) (f1 : wh ≠ 0) (f2 : pa < x12) (e1 : S 1 0 = x12) (e0 : S 4 pa = x13) : (True) ∧ rxPSOFD S0 ws S (some ((-1))) := by
  obtain ⟨rfl, hw⟩ := hinv
  exact ⟨trivial, pa, st, cu, wh, hw, Or.inl ⟨by omega, rfl⟩⟩
theorem rxfOFD_0_2 {X : (Nat → Int → Int) → Prop} {S0 : Nat → Int → Int} {ws : List Int} (hP : rxPOFD S0 ws) : bx_obE rxL X S0 rxC219.2.2.1 (rxIOFD S0 ws) (rxPSOFD S0 ws) 0 rxzOFD_0 rxeOFD_0_2 := by
  intro S S_p r r_p hinv hX hin hsm_ hseg
  obtain ⟨I0, I1, h0_, hr_, b_, f_, d_⟩ := bx_cl (evs := [(0, (0, 4), (8, 0), .inr (3, (13, 0))), (0, (0, 1), (0, 0), .inr (0, (12, 0)))]) (fvs := [(3, (11, 0), (0, 1), (0, 0)), (3, (11, 0), (0, 0), (0, 0)), (0, (8, 0), (12, 0), (0, 0))]) hseg (by decide +kernel) (by decide +kernel)
  have hinv : rxIOFD_0 S0 ws S (r 8) (r 9) (r 10) (r 11) := hinv
  rw [← hr_ 8 (by decide), ← hr_ 9 (by decide), ← hr_ 10 (by decide), ← hr_ 11 (by decide)] at hinv
  obtain ⟨⟨l8, u8⟩, ⟨l9, u9⟩, ⟨l10, u10⟩, ⟨l11, u11⟩, ⟨l12, u12⟩, ⟨l13, u13⟩, -⟩ := b_
  obtain ⟨f0, f1, f2, -⟩ := f_
  obtain ⟨e0, ⟨e1, w_⟩⟩ := d_
  subst w_
  have g := rxdOFD_0_2 hP hin hsm_ I0 I1 hinv l8 u8 l9 u9 l10 u10 l11 u11 l12 u12 l13 u13 f0 f1 f2 e1 e0
  refine ⟨bx_narP_ok (l := []) g.1, ?_⟩
  show rxPSOFD S0 ws S_p (some (bx_num r_p (.inr (0, (0, (-1))))))
  rw [bx_xv_ok h0_]
  exact g.2
theorem rxdOFD_0_3 {S0 : Nat → Int → Int} {ws : List Int} {S : Nat → Int → Int} {pa st cu wh x12 x13 : Int} (hP : rxPOFD S0 ws) (hin : bx_same rxL (bx_mdl rxC219.2.2.1) S0 S) (hin2 : bx_same rxL (bx_mdl rxC219.2.2.1) S S) (I0 : bx_Inv rxL S) (I1 : bx_Inv rxL S) (hinv : rxIOFD_0 S0 ws S pa st cu wh) (l8 : 0 ≤ pa) (u8 : pa ≤ 5) (l9 : (-2147483648) ≤ st) (u9 : st ≤ (-1)) (l10 : (-2147483648) ≤ cu) (u10 : cu ≤ 2147483647) (l11 : 1 ≤ wh) (u11 : wh ≤ 1) (l12 : 1 ≤ x12) (u12 : x12 ≤ 6) (l13 : 0 ≤ x13) (u13 : x13 ≤ 1522) (f0 : wh ≠ 0) (f1 : pa < x12) (e1 : S 1 0 = x12) (e0 : S 4 pa = x13) : (True) ∧ rxPSOFD S0 ws S (some ((-1))) := by
  obtain ⟨rfl, hw⟩ := hinv
  exact ⟨trivial, pa, st, cu, wh, hw, Or.inl ⟨by omega, rfl⟩⟩
theorem rxfOFD_0_3 {X : (Nat → Int → Int) → Prop} {S0 : Nat → Int → Int} {ws : List Int} (hP : rxPOFD S0 ws) : bx_obE rxL X S0 rxC219.2.2.1 (rxIOFD S0 ws) (rxPSOFD S0 ws) 0 rxzOFD_0 rxeOFD_0_3 := by
  intro S S_p r r_p hinv hX hin hsm_ hseg
  obtain ⟨I0, I1, h0_, hr_, b_, f_, d_⟩ := bx_cl (evs := [(0, (0, 4), (8, 0), .inr (3, (13, 0))), (0, (0, 1), (0, 0), .inr (0, (12, 0)))]) (fvs := [(3, (11, 0), (0, 0), (0, 0)), (0, (8, 0), (12, 0), (0, 0))]) hseg (by decide +kernel) (by decide +kernel)
  have hinv : rxIOFD_0 S0 ws S (r 8) (r 9) (r 10) (r 11) := hinv
  rw [← hr_ 8 (by decide), ← hr_ 9 (by decide), ← hr_ 10 (by decide), ← hr_ 11 (by decide)] at hinv
  obtain ⟨⟨l8, u8⟩, ⟨l9, u9⟩, ⟨l10, u10⟩, ⟨l11, u11⟩, ⟨l12, u12⟩, ⟨l13, u13⟩, -⟩ := b_
  obtain ⟨f0, f1, -⟩ := f_
  obtain ⟨e0, ⟨e1, w_⟩⟩ := d_
  subst w_
  have g := rxdOFD_0_3 hP hin hsm_ I0 I1 hinv l8 u8 l9 u9 l10 u10 l11 u11 l12 u12 l13 u13 f0 f1 e1 e0
  refine ⟨bx_narP_ok (l := []) g.1, ?_⟩
  show rxPSOFD S0 ws S_p (some (bx_num r_p (.inr (0, (0, (-1))))))
  rw [bx_xv_ok h0_]
  exact g.2
theorem rxdOFD_0_4 {S0 : Nat → Int → Int} {ws : List Int} {S : Nat → Int → Int} {pa st cu wh x12 x13 : Int} (hP : rxPOFD S0 ws) (hin : bx_same rxL (bx_mdl rxC219.2.2.1) S0 S) (hin2 : bx_same rxL (bx_mdl rxC219.2.2.1) S S) (I0 : bx_Inv rxL S) (I1 : bx_Inv rxL S) (hinv : rxIOFD_0 S0 ws S pa st cu wh) (l8 : 0 ≤ pa) (u8 : pa ≤ 5) (l9 : 6 ≤ st) (u9 : st ≤ 2147483647) (l10 : (-2147483648) ≤ cu) (u10 : cu ≤ 2147483647) (l11 : 1 ≤ wh) (u11 : wh ≤ 1) (l12 : 1 ≤ x12) (u12 : x12 ≤ 6) (l13 : 0 ≤ x13) (u13 : x13 ≤ 1522) (f0 : wh ≠ 0) (f1 : pa < x12) (e1 : S 1 0 = x12) (e0 : S 4 pa = x13) : (True) ∧ rxPSOFD S0 ws S (some ((-1))) := by
  obtain ⟨rfl, hw⟩ := hinv
  exact ⟨trivial, pa, st, cu, wh, hw, Or.inl ⟨by omega, rfl⟩⟩
theorem rxfOFD_0_4 {X : (Nat → Int → Int) → Prop} {S0 : Nat → Int → Int} {ws : List Int} (hP : rxPOFD S0 ws) : bx_obE rxL X S0 rxC219.2.2.1 (rxIOFD S0 ws) (rxPSOFD S0 ws) 0 rxzOFD_0 rxeOFD_0_4 := by
  intro S S_p r r_p hinv hX hin hsm_ hseg
  obtain ⟨I0, I1, h0_, hr_, b_, f_, d_⟩ := bx_cl (evs := [(0, (0, 4), (8, 0), .inr (3, (13, 0))), (0, (0, 1), (0, 0), .inr (0, (12, 0)))]) (fvs := [(3, (11, 0), (0, 0), (0, 0)), (0, (8, 0), (12, 0), (0, 0))]) hseg (by decide +kernel) (by decide +kernel)
  have hinv : rxIOFD_0 S0 ws S (r 8) (r 9) (r 10) (r 11) := hinv
  rw [← hr_ 8 (by decide), ← hr_ 9 (by decide), ← hr_ 10 (by decide), ← hr_ 11 (by decide)] at hinv
  obtain ⟨⟨l8, u8⟩, ⟨l9, u9⟩, ⟨l10, u10⟩, ⟨l11, u11⟩, ⟨l12, u12⟩, ⟨l13, u13⟩, -⟩ := b_
  obtain ⟨f0, f1, -⟩ := f_
  obtain ⟨e0, ⟨e1, w_⟩⟩ := d_
  subst w_
  have g := rxdOFD_0_4 hP hin hsm_ I0 I1 hinv l8 u8 l9 u9 l10 u10 l11 u11 l12 u12 l13 u13 f0 f1 e1 e0
  refine ⟨bx_narP_ok (l := []) g.1, ?_⟩
  show rxPSOFD S0 ws S_p (some (bx_num r_p (.inr (0, (0, (-1))))))
  rw [bx_xv_ok h0_]
  exact g.2
theorem rxdOFD_0_5 {S0 : Nat → Int → Int} {ws : List Int} {S : Nat → Int → Int} {pa st cu wh x12 x13 : Int} (hP : rxPOFD S0 ws) (hin : bx_same rxL (bx_mdl rxC219.2.2.1) S0 S) (hin2 : bx_same rxL (bx_mdl rxC219.2.2.1) S S) (I0 : bx_Inv rxL S) (I1 : bx_Inv rxL S) (hinv : rxIOFD_0 S0 ws S pa st cu wh) (l8 : 0 ≤ pa) (u8 : pa ≤ 5) (l9 : 0 ≤ st) (u9 : st ≤ 5) (l10 : (-2147483648) ≤ cu) (u10 : cu ≤ (-1)) (l11 : 1 ≤ wh) (u11 : wh ≤ 1) (l12 : 1 ≤ x12) (u12 : x12 ≤ 6) (l13 : 0 ≤ x13) (u13 : x13 ≤ 1522) (f0 : wh ≠ 0) (f1 : pa < x12) (e1 : S 1 0 = x12) (e0 : S 4 pa = x13) : (True) ∧ rxPSOFD S0 ws S (some ((-1))) := by
  obtain ⟨rfl, hw⟩ := hinv
  exact ⟨trivial, pa, st, cu, wh, hw, Or.inl ⟨by omega, rfl⟩⟩
theorem rxfOFD_0_5 {X : (Nat → Int → Int) → Prop} {S0 : Nat → Int → Int} {ws : List Int} (hP : rxPOFD S0 ws) : bx_obE rxL X S0 rxC219.2.2.1 (rxIOFD S0 ws) (rxPSOFD S0 ws) 0 rxzOFD_0 rxeOFD_0_5 := by
  intro S S_p r r_p hinv hX hin hsm_ hseg
  obtain ⟨I0, I1, h0_, hr_, b_, f_, d_⟩ := bx_cl (evs := [(0, (0, 4), (8, 0), .inr (3, (13, 0))), (0, (0, 1), (0, 0), .inr (0, (12, 0)))]) (fvs := [(3, (11, 0), (0, 0), (0, 0)), (0, (8, 0), (12, 0), (0, 0))]) hseg (by decide +kernel) (by decide +kernel)
  have hinv : rxIOFD_0 S0 ws S (r 8) (r 9) (r 10) (r 11) := hinv
  rw [← hr_ 8 (by decide), ← hr_ 9 (by decide), ← hr_ 10 (by decide), ← hr_ 11 (by decide)] at hinv
  obtain ⟨⟨l8, u8⟩, ⟨l9, u9⟩, ⟨l10, u10⟩, ⟨l11, u11⟩, ⟨l12, u12⟩, ⟨l13, u13⟩, -⟩ := b_
  obtain ⟨f0, f1, -⟩ := f_
  obtain ⟨e0, ⟨e1, w_⟩⟩ := d_
  subst w_
  have g := rxdOFD_0_5 hP hin hsm_ I0 I1 hinv l8 u8 l9 u9 l10 u10 l11 u11 l12 u12 l13 u13 f0 f1 e1 e0
  refine ⟨bx_narP_ok (l := []) g.1, ?_⟩
  show rxPSOFD S0 ws S_p (some (bx_num r_p (.inr (0, (0, (-1))))))
  rw [bx_xv_ok h0_]
  exact g.2
theorem rxdOFD_0_6 {S0 : Nat → Int → Int} {ws : List Int} {S : Nat → Int → Int} {pa st cu wh x12 x13 : Int} (hP : rxPOFD S0 ws) (hin : bx_same rxL (bx_mdl rxC219.2.2.1) S0 S) (hin2 : bx_same rxL (bx_mdl rxC219.2.2.1) S S) (I0 : bx_Inv rxL S) (I1 : bx_Inv rxL S) (hinv : rxIOFD_0 S0 ws S pa st cu wh) (l8 : 0 ≤ pa) (u8 : pa ≤ 5) (l9 : 0 ≤ st) (u9 : st ≤ 5) (l10 : 6 ≤ cu) (u10 : cu ≤ 2147483647) (l11 : 1 ≤ wh) (u11 : wh ≤ 1) (l12 : 1 ≤ x12) (u12 : x12 ≤ 6) (l13 : 0 ≤ x13) (u13 : x13 ≤ 1522) (f0 : wh ≠ 0) (f1 : pa < x12) (e1 : S 1 0 = x12) (e0 : S 4 pa = x13) : (True) ∧ rxPSOFD S0 ws S (some ((-1))) := by
  obtain ⟨rfl, hw⟩ := hinv
  exact ⟨trivial, pa, st, cu, wh, hw, Or.inl ⟨by omega, rfl⟩⟩
theorem rxfOFD_0_6 {X : (Nat → Int → Int) → Prop} {S0 : Nat → Int → Int} {ws : List Int} (hP : rxPOFD S0 ws) : bx_obE rxL X S0 rxC219.2.2.1 (rxIOFD S0 ws) (rxPSOFD S0 ws) 0 rxzOFD_0 rxeOFD_0_6 := by
  intro S S_p r r_p hinv hX hin hsm_ hseg
  obtain ⟨I0, I1, h0_, hr_, b_, f_, d_⟩ := bx_cl (evs := [(0, (0, 4), (8, 0), .inr (3, (13, 0))), (0, (0, 1), (0, 0), .inr (0, (12, 0)))]) (fvs := [(3, (11, 0), (0, 0), (0, 0)), (0, (8, 0), (12, 0), (0, 0))]) hseg (by decide +kernel) (by decide +kernel)
  have hinv : rxIOFD_0 S0 ws S (r 8) (r 9) (r 10) (r 11) := hinv
  rw [← hr_ 8 (by decide), ← hr_ 9 (by decide), ← hr_ 10 (by decide), ← hr_ 11 (by decide)] at hinv
  obtain ⟨⟨l8, u8⟩, ⟨l9, u9⟩, ⟨l10, u10⟩, ⟨l11, u11⟩, ⟨l12, u12⟩, ⟨l13, u13⟩, -⟩ := b_
  obtain ⟨f0, f1, -⟩ := f_
  obtain ⟨e0, ⟨e1, w_⟩⟩ := d_
  subst w_
  have g := rxdOFD_0_6 hP hin hsm_ I0 I1 hinv l8 u8 l9 u9 l10 u10 l11 u11 l12 u12 l13 u13 f0 f1 e1 e0
  refine ⟨bx_narP_ok (l := []) g.1, ?_⟩
  show rxPSOFD S0 ws S_p (some (bx_num r_p (.inr (0, (0, (-1))))))
  rw [bx_xv_ok h0_]
  exact g.2
theorem rxdOFD_0_7 {S0 : Nat → Int → Int} {ws : List Int} {S : Nat → Int → Int} {pa st cu wh x12 x13 x14 x15 x16 x17 : Int} (hP : rxPOFD S0 ws) (hin : bx_same rxL (bx_mdl rxC219.2.2.1) S0 S) (hin2 : bx_same rxL (bx_mdl rxC219.2.2.1) S S) (I0 : bx_Inv rxL S) (I1 : bx_Inv rxL S) (hinv : rxIOFD_0 S0 ws S pa st cu wh) (l8 : 0 ≤ pa) (u8 : pa ≤ 5) (l9 : 0 ≤ st) (u9 : st ≤ 5) (l10 : 0 ≤ cu) (u10 : cu ≤ 5) (l11 : 1 ≤ wh) (u11 : wh ≤ 1) (l12 : 1 ≤ x12) (u12 : x12 ≤ 6) (l13 : 0 ≤ x13) (u13 : x13 ≤ 1522) (l14 : 0 ≤ x14) (u14 : x14 ≤ 1522) (l15 : 0 ≤ x15) (u15 : x15 ≤ 30) (l16 : 0 ≤ x16) (u16 : x16 ≤ 35) (l17 : (-1) ≤ x17) (u17 : x17 ≤ 5) (f0 : x16 = x15 + cu) (f1 : x15 = 6 * (st)) (f2 : wh ≠ 0) (f3 : pa < x12) (e3 : S 1 0 = x12) (e2 : S 4 pa = x13) (e1 : S (x13).toNat 1 = x14) (e0 : S (x14).toNat x16 = x17) : (True) ∧ rxPSOFD S0 ws S (some x17) := by
  obtain ⟨rfl, hw⟩ := hinv
  have hpl : rkPl S := hP
  obtain ⟨z4, -⟩ := hpl.2.1.1 pa.toNat (by omega)
  rw [Int.toNat_of_nonneg (show 0 ≤ pa by omega)] at z4
  obtain ⟨z0, z1⟩ := rjd_px hpl (a := pa) (by omega) (by omega)
  have a0 : x13 = 23 + 3 * pa := e2.symm.trans (z4.trans (by omega))
  subst a0
  have a1 : x14 = 25 + 3 * pa := e1.symm.trans (z1.trans (by omega))
  subst a1
  have a2 : x16 = 6 * st + cu := by omega
  subst a2
  exact ⟨trivial, pa, st, cu, wh, hw, Or.inr (Or.inr ⟨⟨by omega, by omega, by omega, by omega, by omega, by omega⟩, by omega, congrArg some e0.symm⟩)⟩
theorem rxfOFD_0_7 {X : (Nat → Int → Int) → Prop} {S0 : Nat → Int → Int} {ws : List Int} (hP : rxPOFD S0 ws) : bx_obE rxL X S0 rxC219.2.2.1 (rxIOFD S0 ws) (rxPSOFD S0 ws) 0 rxzOFD_0 rxeOFD_0_7 := by
  intro S S_p r r_p hinv hX hin hsm_ hseg
  obtain ⟨I0, I1, h0_, hr_, b_, f_, d_⟩ := bx_cl (evs := [(0, (14, 0), (16, 0), .inr (0, (17, 0))), (0, (13, 0), (0, 1), .inr (3, (14, 0))), (0, (0, 4), (8, 0), .inr (3, (13, 0))), (0, (0, 1), (0, 0), .inr (0, (12, 0)))]) (fvs := [(5, (16, 0), (15, 0), (10, 0)), (4, (15, 0), (9, 0), (0, 6)), (3, (11, 0), (0, 0), (0, 0)), (0, (8, 0), (12, 0), (0, 0))]) hseg (by decide +kernel) (by decide +kernel)
  have hinv : rxIOFD_0 S0 ws S (r 8) (r 9) (r 10) (r 11) := hinv
  rw [← hr_ 8 (by decide), ← hr_ 9 (by decide), ← hr_ 10 (by decide), ← hr_ 11 (by decide)] at hinv
  obtain ⟨⟨l8, u8⟩, ⟨l9, u9⟩, ⟨l10, u10⟩, ⟨l11, u11⟩, ⟨l12, u12⟩, ⟨l13, u13⟩, ⟨l14, u14⟩, ⟨l15, u15⟩, ⟨l16, u16⟩, ⟨l17, u17⟩, -⟩ := b_
  obtain ⟨f0, f1, f2, f3, -⟩ := f_
  obtain ⟨e0, ⟨e1, ⟨e2, ⟨e3, w_⟩⟩⟩⟩ := d_
  subst w_
  have g := rxdOFD_0_7 hP hin hsm_ I0 I1 hinv l8 u8 l9 u9 l10 u10 l11 u11 l12 u12 l13 u13 l14 u14 l15 u15 l16 u16 l17 u17 f0 f1 f2 f3 e3 e2 e1 e0
  refine ⟨bx_narP_ok (l := []) g.1, ?_⟩
  show rxPSOFD S0 ws S_p (some (bx_num r_p (.inr (0, (17, 0)))))
  rw [bx_xv_ok h0_]
  exact g.2
theorem rxdOFD_0_8 {S0 : Nat → Int → Int} {ws : List Int} {S : Nat → Int → Int} {pa st cu wh x12 x13 : Int} (hP : rxPOFD S0 ws) (hin : bx_same rxL (bx_mdl rxC219.2.2.1) S0 S) (hin2 : bx_same rxL (bx_mdl rxC219.2.2.1) S S) (I0 : bx_Inv rxL S) (I1 : bx_Inv rxL S) (hinv : rxIOFD_0 S0 ws S pa st cu wh) (l8 : 0 ≤ pa) (u8 : pa ≤ 5) (l9 : (-2147483648) ≤ st) (u9 : st ≤ (-1)) (l10 : (-2147483648) ≤ cu) (u10 : cu ≤ 2147483647) (l11 : 0 ≤ wh) (u11 : wh ≤ 0) (l12 : 1 ≤ x12) (u12 : x12 ≤ 6) (l13 : 0 ≤ x13) (u13 : x13 ≤ 1522) (f0 : pa < x12) (e1 : S 1 0 = x12) (e0 : S 4 pa = x13) : (True) ∧ rxPSOFD S0 ws S (some ((-1))) := by
  obtain ⟨rfl, hw⟩ := hinv
  exact ⟨trivial, pa, st, cu, wh, hw, Or.inl ⟨by omega, rfl⟩⟩
theorem rxfOFD_0_8 {X : (Nat → Int → Int) → Prop} {S0 : Nat → Int → Int} {ws : List Int} (hP : rxPOFD S0 ws) : bx_obE rxL X S0 rxC219.2.2.1 (rxIOFD S0 ws) (rxPSOFD S0 ws) 0 rxzOFD_0 rxeOFD_0_8 := by
  intro S S_p r r_p hinv hX hin hsm_ hseg
  obtain ⟨I0, I1, h0_, hr_, b_, f_, d_⟩ := bx_cl (evs := [(0, (0, 4), (8, 0), .inr (3, (13, 0))), (0, (0, 1), (0, 0), .inr (0, (12, 0)))]) (fvs := [(0, (8, 0), (12, 0), (0, 0))]) hseg (by decide +kernel) (by decide +kernel)
  have hinv : rxIOFD_0 S0 ws S (r 8) (r 9) (r 10) (r 11) := hinv
  rw [← hr_ 8 (by decide), ← hr_ 9 (by decide), ← hr_ 10 (by decide), ← hr_ 11 (by decide)] at hinv
  obtain ⟨⟨l8, u8⟩, ⟨l9, u9⟩, ⟨l10, u10⟩, ⟨l11, u11⟩, ⟨l12, u12⟩, ⟨l13, u13⟩, -⟩ := b_
  obtain ⟨f0, -⟩ := f_
  obtain ⟨e0, ⟨e1, w_⟩⟩ := d_
  subst w_
  have g := rxdOFD_0_8 hP hin hsm_ I0 I1 hinv l8 u8 l9 u9 l10 u10 l11 u11 l12 u12 l13 u13 f0 e1 e0
  refine ⟨bx_narP_ok (l := []) g.1, ?_⟩
  show rxPSOFD S0 ws S_p (some (bx_num r_p (.inr (0, (0, (-1))))))
  rw [bx_xv_ok h0_]
  exact g.2
theorem rxdOFD_0_9 {S0 : Nat → Int → Int} {ws : List Int} {S : Nat → Int → Int} {pa st cu wh x12 x13 : Int} (hP : rxPOFD S0 ws) (hin : bx_same rxL (bx_mdl rxC219.2.2.1) S0 S) (hin2 : bx_same rxL (bx_mdl rxC219.2.2.1) S S) (I0 : bx_Inv rxL S) (I1 : bx_Inv rxL S) (hinv : rxIOFD_0 S0 ws S pa st cu wh) (l8 : 0 ≤ pa) (u8 : pa ≤ 5) (l9 : 6 ≤ st) (u9 : st ≤ 2147483647) (l10 : (-2147483648) ≤ cu) (u10 : cu ≤ 2147483647) (l11 : 0 ≤ wh) (u11 : wh ≤ 0) (l12 : 1 ≤ x12) (u12 : x12 ≤ 6) (l13 : 0 ≤ x13) (u13 : x13 ≤ 1522) (f0 : pa < x12) (e1 : S 1 0 = x12) (e0 : S 4 pa = x13) : (True) ∧ rxPSOFD S0 ws S (some ((-1))) := by
  obtain ⟨rfl, hw⟩ := hinv
  exact ⟨trivial, pa, st, cu, wh, hw, Or.inl ⟨by omega, rfl⟩⟩
theorem rxfOFD_0_9 {X : (Nat → Int → Int) → Prop} {S0 : Nat → Int → Int} {ws : List Int} (hP : rxPOFD S0 ws) : bx_obE rxL X S0 rxC219.2.2.1 (rxIOFD S0 ws) (rxPSOFD S0 ws) 0 rxzOFD_0 rxeOFD_0_9 := by
  intro S S_p r r_p hinv hX hin hsm_ hseg
  obtain ⟨I0, I1, h0_, hr_, b_, f_, d_⟩ := bx_cl (evs := [(0, (0, 4), (8, 0), .inr (3, (13, 0))), (0, (0, 1), (0, 0), .inr (0, (12, 0)))]) (fvs := [(0, (8, 0), (12, 0), (0, 0))]) hseg (by decide +kernel) (by decide +kernel)
  have hinv : rxIOFD_0 S0 ws S (r 8) (r 9) (r 10) (r 11) := hinv
  rw [← hr_ 8 (by decide), ← hr_ 9 (by decide), ← hr_ 10 (by decide), ← hr_ 11 (by decide)] at hinv
  obtain ⟨⟨l8, u8⟩, ⟨l9, u9⟩, ⟨l10, u10⟩, ⟨l11, u11⟩, ⟨l12, u12⟩, ⟨l13, u13⟩, -⟩ := b_
  obtain ⟨f0, -⟩ := f_
  obtain ⟨e0, ⟨e1, w_⟩⟩ := d_
  subst w_
  have g := rxdOFD_0_9 hP hin hsm_ I0 I1 hinv l8 u8 l9 u9 l10 u10 l11 u11 l12 u12 l13 u13 f0 e1 e0
  refine ⟨bx_narP_ok (l := []) g.1, ?_⟩
  show rxPSOFD S0 ws S_p (some (bx_num r_p (.inr (0, (0, (-1))))))
  rw [bx_xv_ok h0_]
  exact g.2
theorem rxdOFD_0_10 {S0 : Nat → Int → Int} {ws : List Int} {S : Nat → Int → Int} {pa st cu wh x12 x13 : Int} (hP : rxPOFD S0 ws) (hin : bx_same rxL (bx_mdl rxC219.2.2.1) S0 S) (hin2 : bx_same rxL (bx_mdl rxC219.2.2.1) S S) (I0 : bx_Inv rxL S) (I1 : bx_Inv rxL S) (hinv : rxIOFD_0 S0 ws S pa st cu wh) (l8 : 0 ≤ pa) (u8 : pa ≤ 5) (l9 : 0 ≤ st) (u9 : st ≤ 5) (l10 : (-2147483648) ≤ cu) (u10 : cu ≤ (-1)) (l11 : 0 ≤ wh) (u11 : wh ≤ 0) (l12 : 1 ≤ x12) (u12 : x12 ≤ 6) (l13 : 0 ≤ x13) (u13 : x13 ≤ 1522) (f0 : pa < x12) (e1 : S 1 0 = x12) (e0 : S 4 pa = x13) : (True) ∧ rxPSOFD S0 ws S (some ((-1))) := by
  obtain ⟨rfl, hw⟩ := hinv
  exact ⟨trivial, pa, st, cu, wh, hw, Or.inl ⟨by omega, rfl⟩⟩
theorem rxfOFD_0_10 {X : (Nat → Int → Int) → Prop} {S0 : Nat → Int → Int} {ws : List Int} (hP : rxPOFD S0 ws) : bx_obE rxL X S0 rxC219.2.2.1 (rxIOFD S0 ws) (rxPSOFD S0 ws) 0 rxzOFD_0 rxeOFD_0_10 := by
  intro S S_p r r_p hinv hX hin hsm_ hseg
  obtain ⟨I0, I1, h0_, hr_, b_, f_, d_⟩ := bx_cl (evs := [(0, (0, 4), (8, 0), .inr (3, (13, 0))), (0, (0, 1), (0, 0), .inr (0, (12, 0)))]) (fvs := [(0, (8, 0), (12, 0), (0, 0))]) hseg (by decide +kernel) (by decide +kernel)
  have hinv : rxIOFD_0 S0 ws S (r 8) (r 9) (r 10) (r 11) := hinv
  rw [← hr_ 8 (by decide), ← hr_ 9 (by decide), ← hr_ 10 (by decide), ← hr_ 11 (by decide)] at hinv
  obtain ⟨⟨l8, u8⟩, ⟨l9, u9⟩, ⟨l10, u10⟩, ⟨l11, u11⟩, ⟨l12, u12⟩, ⟨l13, u13⟩, -⟩ := b_
  obtain ⟨f0, -⟩ := f_
  obtain ⟨e0, ⟨e1, w_⟩⟩ := d_
  subst w_
  have g := rxdOFD_0_10 hP hin hsm_ I0 I1 hinv l8 u8 l9 u9 l10 u10 l11 u11 l12 u12 l13 u13 f0 e1 e0
  refine ⟨bx_narP_ok (l := []) g.1, ?_⟩
  show rxPSOFD S0 ws S_p (some (bx_num r_p (.inr (0, (0, (-1))))))
  rw [bx_xv_ok h0_]
  exact g.2
theorem rxdOFD_0_11 {S0 : Nat → Int → Int} {ws : List Int} {S : Nat → Int → Int} {pa st cu wh x12 x13 : Int} (hP : rxPOFD S0 ws) (hin : bx_same rxL (bx_mdl rxC219.2.2.1) S0 S) (hin2 : bx_same rxL (bx_mdl rxC219.2.2.1) S S) (I0 : bx_Inv rxL S) (I1 : bx_Inv rxL S) (hinv : rxIOFD_0 S0 ws S pa st cu wh) (l8 : 0 ≤ pa) (u8 : pa ≤ 5) (l9 : 0 ≤ st) (u9 : st ≤ 5) (l10 : 6 ≤ cu) (u10 : cu ≤ 2147483647) (l11 : 0 ≤ wh) (u11 : wh ≤ 0) (l12 : 1 ≤ x12) (u12 : x12 ≤ 6) (l13 : 0 ≤ x13) (u13 : x13 ≤ 1522) (f0 : pa < x12) (e1 : S 1 0 = x12) (e0 : S 4 pa = x13) : (True) ∧ rxPSOFD S0 ws S (some ((-1))) := by
  obtain ⟨rfl, hw⟩ := hinv
  exact ⟨trivial, pa, st, cu, wh, hw, Or.inl ⟨by omega, rfl⟩⟩
theorem rxfOFD_0_11 {X : (Nat → Int → Int) → Prop} {S0 : Nat → Int → Int} {ws : List Int} (hP : rxPOFD S0 ws) : bx_obE rxL X S0 rxC219.2.2.1 (rxIOFD S0 ws) (rxPSOFD S0 ws) 0 rxzOFD_0 rxeOFD_0_11 := by
  intro S S_p r r_p hinv hX hin hsm_ hseg
  obtain ⟨I0, I1, h0_, hr_, b_, f_, d_⟩ := bx_cl (evs := [(0, (0, 4), (8, 0), .inr (3, (13, 0))), (0, (0, 1), (0, 0), .inr (0, (12, 0)))]) (fvs := [(0, (8, 0), (12, 0), (0, 0))]) hseg (by decide +kernel) (by decide +kernel)
  have hinv : rxIOFD_0 S0 ws S (r 8) (r 9) (r 10) (r 11) := hinv
  rw [← hr_ 8 (by decide), ← hr_ 9 (by decide), ← hr_ 10 (by decide), ← hr_ 11 (by decide)] at hinv
  obtain ⟨⟨l8, u8⟩, ⟨l9, u9⟩, ⟨l10, u10⟩, ⟨l11, u11⟩, ⟨l12, u12⟩, ⟨l13, u13⟩, -⟩ := b_
  obtain ⟨f0, -⟩ := f_
  obtain ⟨e0, ⟨e1, w_⟩⟩ := d_
  subst w_
  have g := rxdOFD_0_11 hP hin hsm_ I0 I1 hinv l8 u8 l9 u9 l10 u10 l11 u11 l12 u12 l13 u13 f0 e1 e0
  refine ⟨bx_narP_ok (l := []) g.1, ?_⟩
  show rxPSOFD S0 ws S_p (some (bx_num r_p (.inr (0, (0, (-1))))))
  rw [bx_xv_ok h0_]
  exact g.2
theorem rxdOFD_0_12 {S0 : Nat → Int → Int} {ws : List Int} {S : Nat → Int → Int} {pa st cu wh x12 x13 x14 x15 x16 x17 : Int} (hP : rxPOFD S0 ws) (hin : bx_same rxL (bx_mdl rxC219.2.2.1) S0 S) (hin2 : bx_same rxL (bx_mdl rxC219.2.2.1) S S) (I0 : bx_Inv rxL S) (I1 : bx_Inv rxL S) (hinv : rxIOFD_0 S0 ws S pa st cu wh) (l8 : 0 ≤ pa) (u8 : pa ≤ 5) (l9 : 0 ≤ st) (u9 : st ≤ 5) (l10 : 0 ≤ cu) (u10 : cu ≤ 5) (l11 : 0 ≤ wh) (u11 : wh ≤ 0) (l12 : 1 ≤ x12) (u12 : x12 ≤ 6) (l13 : 0 ≤ x13) (u13 : x13 ≤ 1522) (l14 : 0 ≤ x14) (u14 : x14 ≤ 1522) (l15 : 0 ≤ x15) (u15 : x15 ≤ 30) (l16 : 0 ≤ x16) (u16 : x16 ≤ 35) (l17 : (-1) ≤ x17) (u17 : x17 ≤ 9) (f0 : x16 = x15 + cu) (f1 : x15 = 6 * (st)) (f2 : pa < x12) (e3 : S 1 0 = x12) (e2 : S 4 pa = x13) (e1 : S (x13).toNat 0 = x14) (e0 : S (x14).toNat x16 = x17) : (True) ∧ rxPSOFD S0 ws S (some x17) := by
  obtain ⟨rfl, hw⟩ := hinv
  have hpl : rkPl S := hP
  obtain ⟨z4, -⟩ := hpl.2.1.1 pa.toNat (by omega)
  rw [Int.toNat_of_nonneg (show 0 ≤ pa by omega)] at z4
  obtain ⟨z0, z1⟩ := rjd_px hpl (a := pa) (by omega) (by omega)
  have a0 : x13 = 23 + 3 * pa := e2.symm.trans (z4.trans (by omega))
  subst a0
  have a1 : x14 = 24 + 3 * pa := e1.symm.trans (z0.trans (by omega))
  subst a1
  have a2 : x16 = 6 * st + cu := by omega
  subst a2
  exact ⟨trivial, pa, st, cu, wh, hw, Or.inr (Or.inl ⟨⟨by omega, by omega, by omega, by omega, by omega, by omega⟩, by omega, congrArg some e0.symm⟩)⟩
theorem rxfOFD_0_12 {X : (Nat → Int → Int) → Prop} {S0 : Nat → Int → Int} {ws : List Int} (hP : rxPOFD S0 ws) : bx_obE rxL X S0 rxC219.2.2.1 (rxIOFD S0 ws) (rxPSOFD S0 ws) 0 rxzOFD_0 rxeOFD_0_12 := by
  intro S S_p r r_p hinv hX hin hsm_ hseg
  obtain ⟨I0, I1, h0_, hr_, b_, f_, d_⟩ := bx_cl (evs := [(0, (14, 0), (16, 0), .inr (0, (17, 0))), (0, (13, 0), (0, 0), .inr (3, (14, 0))), (0, (0, 4), (8, 0), .inr (3, (13, 0))), (0, (0, 1), (0, 0), .inr (0, (12, 0)))]) (fvs := [(5, (16, 0), (15, 0), (10, 0)), (4, (15, 0), (9, 0), (0, 6)), (0, (8, 0), (12, 0), (0, 0))]) hseg (by decide +kernel) (by decide +kernel)
  have hinv : rxIOFD_0 S0 ws S (r 8) (r 9) (r 10) (r 11) := hinv
  rw [← hr_ 8 (by decide), ← hr_ 9 (by decide), ← hr_ 10 (by decide), ← hr_ 11 (by decide)] at hinv
  obtain ⟨⟨l8, u8⟩, ⟨l9, u9⟩, ⟨l10, u10⟩, ⟨l11, u11⟩, ⟨l12, u12⟩, ⟨l13, u13⟩, ⟨l14, u14⟩, ⟨l15, u15⟩, ⟨l16, u16⟩, ⟨l17, u17⟩, -⟩ := b_
  obtain ⟨f0, f1, f2, -⟩ := f_
  obtain ⟨e0, ⟨e1, ⟨e2, ⟨e3, w_⟩⟩⟩⟩ := d_
  subst w_
  have g := rxdOFD_0_12 hP hin hsm_ I0 I1 hinv l8 u8 l9 u9 l10 u10 l11 u11 l12 u12 l13 u13 l14 u14 l15 u15 l16 u16 l17 u17 f0 f1 f2 e3 e2 e1 e0
  refine ⟨bx_narP_ok (l := []) g.1, ?_⟩
  show rxPSOFD S0 ws S_p (some (bx_num r_p (.inr (0, (17, 0)))))
  rw [bx_xv_ok h0_]
  exact g.2
theorem rxgCOFD {X : (Nat → Int → Int) → Prop} {S0 : Nat → Int → Int} {ws : List Int} (hP : rxPOFD S0 ws) : bx_allI (fun i q => rxUOFD q = true ∨ bx_allP (fun o => bx_obC rxL X S0 rxC219.2.2.1 (rxIOFD S0 ws) (rxmOFD S0 ws) i q.1 o) q.2.1) 0 rxYOFD := ⟨Or.inr trivial, trivial⟩
theorem rxgEOFD {X : (Nat → Int → Int) → Prop} {S0 : Nat → Int → Int} {ws : List Int} (hP : rxPOFD S0 ws) : bx_allI (fun i q => rxUOFD q = true ∨ bx_allP (fun E => bx_obE rxL X S0 rxC219.2.2.1 (rxIOFD S0 ws) (rxPSOFD S0 ws) i q.1 E) q.2.2) 0 rxYOFD := ⟨Or.inr ⟨rxfOFD_0_0 hP, rxfOFD_0_1 hP, rxfOFD_0_2 hP, rxfOFD_0_3 hP, rxfOFD_0_4 hP, rxfOFD_0_5 hP, rxfOFD_0_6 hP, rxfOFD_0_7 hP, rxfOFD_0_8 hP, rxfOFD_0_9 hP, rxfOFD_0_10 hP, rxfOFD_0_11 hP, rxfOFD_0_12 hP, trivial⟩, trivial⟩
theorem rxQOFD {PX : State → Prop} {Dg : va_G} {A : Nat → Prop} {ad xa : Nat → Nat} {l : Launch} {X : (Nat → Int → Int) → Prop} (hPX : rx_PXOK rxNW A PX) (hsl : ∀ s : State, PX s → ∀ o idx n : Nat, rxSl o idx = some n → ∃ tx : String, vk_R (rxNm o) idx tx (ad n) s)
    (hX : ∀ S S_p : Nat → Int → Int, X S → bx_same rxL (bx_mdl rxC219.2.2.1) S S_p → X S_p)
    (ih : ∀ (j2 : Nat) (ct2 : bx_Ct) (M2 : rx_Mt), ct2 ∈ rxCnE j2 → ct2.2.2.2.1 + 1 ≤ rxC219.2.2.2.1 → rxT.2.2.2.2.2 j2 = some M2 → bx_Con rxG rxNW rxAO PX Dg rxL X vwCl A ad l M2 ct2) : bx_ConP rxG rxNW rxAO PX Dg rxL X vwCl A ad l rxM219 rxC219 rxPOFD rxPSOFD :=
  rxQof (xa := xa) (Cn := rxCnE) (f := 30000) (j := 219) (tab := rxYOFD) (us := rxUOFD) hPX hsl hX ih rfl rxYcOFD rxIOFD rxmOFD
    (fun S0 ws r I0 I ht0 ht as he he1 hX0 hI0 hP hs ha => by
      have e := he.symm.trans (show bx_ent0 rxNP rxC219.1 bx_I0 [] = some ([(0, 0), (0, 0), (0, 0), (0, 0), (0, 0), (0, 0), (0, 0), (0, 0), ((-2147483648), 2147483647), ((-2147483648), 2147483647), ((-2147483648), 2147483647), ((-2147483648), 2147483647)], [], [.inr (3, (0, 0)), .inr (0, (8, 0)), .inr (0, (9, 0)), .inr (0, (10, 0)), .inr (0, (11, 0))]) from rfl)
      cases e
      subst ha
      have h0 : r 0 = 0 := hs.1
      show rxIOFD_0 S0 _ S0 (r 8) (r 9) (r 10) (r 11)
      refine ⟨rfl, ?_⟩
      simp only [List.map_cons, List.map_nil, bx_xv_ok h0]
      rfl)
    (fun S0 ws hP => fun i q hq hus => absurd (show false = true from hus) Bool.false_ne_true) (fun S0 ws hP => rxgCOFD hP) (fun S0 ws hP => rxgEOFD hP)
/-! CONTRACT BY HAND, by program (wip/sim/genhand.py): DeadUnderstudiesModel.of -/
def rxIOFR_0 (S0 : Nat → Int → Int) (ws : List Int) (S : Nat → Int → Int) (pa st cu wh : Int) : Prop := S = S0 ∧ ws = [480, pa, st, cu, wh]
def rxmOFR_0 (S0 : Nat → Int → Int) (ws : List Int) (S : Nat → Int → Int) (pa st cu wh : Int) : Nat := 100
def rxzOFR_0 : rx_Z := ([(0, 0), (0, 0), (0, 0), (0, 0), (0, 0), (0, 0), (0, 0), (0, 0), ((-2147483648), 2147483647), ((-2147483648), 2147483647), ((-2147483648), 2147483647), ((-2147483648), 2147483647)], [], [], 0, 0, 0, [(0, .inr (3, (0, 480))), (1, .inr (0, (8, 0))), (2, .inr (0, (9, 0))), (3, .inr (0, (10, 0))), (4, .inr (0, (11, 0)))], [])
def rxIOFR_1 (S0 : Nat → Int → Int) (ws : List Int) (S : Nat → Int → Int) (pa st cu wh r : Int) : Prop := ws = [480, pa, st, cu, wh] ∧ pa < S0 482 0 ∧ r = S0 482 (22 + 36 * pa + (6 * st + cu))
def rxmOFR_1 (S0 : Nat → Int → Int) (ws : List Int) (S : Nat → Int → Int) (pa st cu wh r : Int) : Nat := 90
def rxzOFR_1 : rx_Z := ([(0, 0), (0, 0), (0, 0), (0, 0), (0, 0), (0, 0), (0, 0), (0, 0), (0, 5), (0, 5), (0, 5), (0, 1), ((-1), 59)], [], [], 0, 0, 53, [(0, .inr (3, (0, 480))), (1, .inr (0, (8, 0))), (2, .inr (0, (9, 0))), (3, .inr (0, (10, 0))), (4, .inr (0, (11, 0)))], [.inr (0, (11, 0)), .inr (0, (12, 0))])
def rxIOFR_2 (S0 : Nat → Int → Int) (ws : List Int) (S : Nat → Int → Int) (pa st cu wh r an : Int) : Prop := ws = [480, pa, st, cu, wh] ∧ pa < S0 482 0 ∧ r = S0 482 (22 + 36 * pa + (6 * st + cu)) ∧ an = (if wh = 0 then rjWo r else rjNx r)
def rxmOFR_2 (S0 : Nat → Int → Int) (ws : List Int) (S : Nat → Int → Int) (pa st cu wh r an : Int) : Nat := 80
def rxzOFR_2 : rx_Z := ([(0, 0), (0, 0), (0, 0), (0, 0), (0, 0), (0, 0), (0, 0), (0, 0), (0, 5), (0, 5), (0, 5), (0, 1), ((-1), 59), ((-1), 9)], [], [], 0, 0, 56, [(0, .inr (3, (0, 480))), (1, .inr (0, (8, 0))), (2, .inr (0, (9, 0))), (3, .inr (0, (10, 0))), (4, .inr (0, (11, 0)))], [.inr (0, (13, 0))])
def rxoOFR_0_0 : bx_HO := (([(0, 0), (0, 0), (0, 0), (0, 0), (0, 0), (0, 0), (0, 0), (0, 0), (0, 5), (0, 5), (0, 5), (0, 1), (1, 6), (0, 180), (0, 30), (22, 232), (22, 237), ((-1), 59)], [(604462909807314587353098000000, (16, 0), (15, 0)), (604462909807314587353102000000, (15, 0), (13, 22)), (10, (14, 0), (9, 0)), (40, (13, 0), (8, 0)), (1, (8, 0), (12, (-1)))], [(((0, 0), 1851192626986356797424389331037855933249756740969513352460107776000000), .inr (0, (17, 0))), (((0, 0), 1851192626986356797424340330377019318111018015026043177837658112000000), .inr (0, (12, 0))), (((0, 482), 0), .inr (0, (12, 0))), (((0, 480), 3), .inr (3, (0, 482))), (((0, 0), 1851192626986356797424340330377019318111018015026043177836478467000000), .inr (0, (0, 0))), (((0, 480), 0), .inr (0, (0, 0)))], 0, 0, 53, [(0, .inr (3, (0, 480))), (1, .inr (0, (8, 0))), (2, .inr (0, (9, 0))), (3, .inr (0, (10, 0))), (4, .inr (0, (11, 0)))], [.inr (0, (11, 0)), .inr (0, (17, 0))]), [], [], [(0, 0), (0, 0), (0, 0), (0, 0), (0, 0), (0, 0), (0, 0), (0, 0), (8, 0), (9, 0), (10, 0), (11, 0), (17, 0)], 1)
def rxeOFR_0_0 : rx_End × List (Nat × Int × Int) := (([(0, 0), (0, 0), (0, 0), (0, 0), (0, 0), (0, 0), (0, 0), (0, 0), (0, 5), (0, 5), (0, 5), ((-2147483648), (-1)), (1, 6)], [(1, (8, 0), (12, (-1)))], [(((0, 0), 1851192626986356797424340330377019318111018015026043177837658112000000), .inr (0, (12, 0))), (((0, 482), 0), .inr (0, (12, 0))), (((0, 480), 3), .inr (3, (0, 482))), (((0, 0), 1851192626986356797424340330377019318111018015026043177836478467000000), .inr (0, (0, 0))), (((0, 480), 0), .inr (0, (0, 0)))], some (.inr (0, (0, (-1))))), [])
def rxeOFR_0_1 : rx_End × List (Nat × Int × Int) := (([(0, 0), (0, 0), (0, 0), (0, 0), (0, 0), (0, 0), (0, 0), (0, 0), (0, 5), (0, 5), (0, 5), (2, 2147483647), (1, 6)], [(1, (8, 0), (12, (-1)))], [(((0, 0), 1851192626986356797424340330377019318111018015026043177837658112000000), .inr (0, (12, 0))), (((0, 482), 0), .inr (0, (12, 0))), (((0, 480), 3), .inr (3, (0, 482))), (((0, 0), 1851192626986356797424340330377019318111018015026043177836478467000000), .inr (0, (0, 0))), (((0, 480), 0), .inr (0, (0, 0)))], some (.inr (0, (0, (-1))))), [])
def rxeOFR_0_2 : rx_End × List (Nat × Int × Int) := (([(0, 0), (0, 0), (0, 0), (0, 0), (0, 0), (0, 0), (0, 0), (0, 0), (0, 5), (0, 5), (6, 2147483647), ((-2147483648), 2147483647), (1, 6)], [(1, (8, 0), (12, (-1)))], [(((0, 0), 1851192626986356797424340330377019318111018015026043177837658112000000), .inr (0, (12, 0))), (((0, 482), 0), .inr (0, (12, 0))), (((0, 480), 3), .inr (3, (0, 482))), (((0, 0), 1851192626986356797424340330377019318111018015026043177836478467000000), .inr (0, (0, 0))), (((0, 480), 0), .inr (0, (0, 0)))], some (.inr (0, (0, (-1))))), [])
def rxeOFR_0_3 : rx_End × List (Nat × Int × Int) := (([(0, 0), (0, 0), (0, 0), (0, 0), (0, 0), (0, 0), (0, 0), (0, 0), (0, 5), (0, 5), ((-2147483648), (-1)), ((-2147483648), 2147483647), (1, 6)], [(1, (8, 0), (12, (-1)))], [(((0, 0), 1851192626986356797424340330377019318111018015026043177837658112000000), .inr (0, (12, 0))), (((0, 482), 0), .inr (0, (12, 0))), (((0, 480), 3), .inr (3, (0, 482))), (((0, 0), 1851192626986356797424340330377019318111018015026043177836478467000000), .inr (0, (0, 0))), (((0, 480), 0), .inr (0, (0, 0)))], some (.inr (0, (0, (-1))))), [])
def rxeOFR_0_4 : rx_End × List (Nat × Int × Int) := (([(0, 0), (0, 0), (0, 0), (0, 0), (0, 0), (0, 0), (0, 0), (0, 0), (0, 5), (6, 2147483647), ((-2147483648), 2147483647), ((-2147483648), 2147483647), (1, 6)], [(1, (8, 0), (12, (-1)))], [(((0, 0), 1851192626986356797424340330377019318111018015026043177837658112000000), .inr (0, (12, 0))), (((0, 482), 0), .inr (0, (12, 0))), (((0, 480), 3), .inr (3, (0, 482))), (((0, 0), 1851192626986356797424340330377019318111018015026043177836478467000000), .inr (0, (0, 0))), (((0, 480), 0), .inr (0, (0, 0)))], some (.inr (0, (0, (-1))))), [])
def rxeOFR_0_5 : rx_End × List (Nat × Int × Int) := (([(0, 0), (0, 0), (0, 0), (0, 0), (0, 0), (0, 0), (0, 0), (0, 0), (0, 5), ((-2147483648), (-1)), ((-2147483648), 2147483647), ((-2147483648), 2147483647), (1, 6)], [(1, (8, 0), (12, (-1)))], [(((0, 0), 1851192626986356797424340330377019318111018015026043177837658112000000), .inr (0, (12, 0))), (((0, 482), 0), .inr (0, (12, 0))), (((0, 480), 3), .inr (3, (0, 482))), (((0, 0), 1851192626986356797424340330377019318111018015026043177836478467000000), .inr (0, (0, 0))), (((0, 480), 0), .inr (0, (0, 0)))], some (.inr (0, (0, (-1))))), [])
def rxeOFR_0_6 : rx_End × List (Nat × Int × Int) := (([(0, 0), (0, 0), (0, 0), (0, 0), (0, 0), (0, 0), (0, 0), (0, 0), (0, 2147483647), ((-2147483648), 2147483647), ((-2147483648), 2147483647), ((-2147483648), 2147483647), (0, 6)], [(0, (12, (-1)), (8, 0))], [(((0, 0), 1851192626986356797424340330377019318111018015026043177837658112000000), .inr (0, (12, 0))), (((0, 482), 0), .inr (0, (12, 0))), (((0, 480), 3), .inr (3, (0, 482))), (((0, 0), 1851192626986356797424340330377019318111018015026043177836478467000000), .inr (0, (0, 0))), (((0, 480), 0), .inr (0, (0, 0)))], some (.inr (0, (0, (-1))))), [])
def rxeOFR_0_7 : rx_End × List (Nat × Int × Int) := (([(0, 0), (0, 0), (0, 0), (0, 0), (0, 0), (0, 0), (0, 0), (0, 0), ((-2147483648), (-1)), ((-2147483648), 2147483647), ((-2147483648), 2147483647), ((-2147483648), 2147483647), (0, 6)], [], [(((0, 0), 1851192626986356797424340330377019318111018015026043177837658112000000), .inr (0, (12, 0))), (((0, 482), 0), .inr (0, (12, 0))), (((0, 480), 3), .inr (3, (0, 482))), (((0, 0), 1851192626986356797424340330377019318111018015026043177836478467000000), .inr (0, (0, 0))), (((0, 480), 0), .inr (0, (0, 0)))], some (.inr (0, (0, (-1))))), [])
def rxeOFR_2_0 : rx_End × List (Nat × Int × Int) := (([(0, 0), (0, 0), (0, 0), (0, 0), (0, 0), (0, 0), (0, 0), (0, 0), (0, 5), (0, 5), (0, 5), (0, 1), ((-1), 59), ((-1), 9)], [], [], some (.inr (0, (13, 0)))), [])
def rxYOFR : List bx_HE := [(rxzOFR_0, [rxoOFR_0_0], [rxeOFR_0_0, rxeOFR_0_1, rxeOFR_0_2, rxeOFR_0_3, rxeOFR_0_4, rxeOFR_0_5, rxeOFR_0_6, rxeOFR_0_7]), (rxzOFR_1, [], []), (rxzOFR_2, [], [rxeOFR_2_0])]
def rxUOFR (q : bx_HE) : Bool := Nat.beq (rx_zpc q.1) 53
def rxYBOFR : bx_B := (rxV, rxNP, rxDmf, bx_mdH rxC220.2.2.1)
set_option maxRecDepth 100000 in
theorem rxYcOFR : bx_chkH rxYBOFR rxM220 rxC220 rxYOFR (rxUOFR, fun cut z => rx_ex2 (rxCT rxYBOFR rxCnE) cut 30000 rxC220.2.2.2.1 220 z) = true := by decide +kernel
def rxIOFR (S0 : Nat → Int → Int) (ws : List Int) (i : Nat) : bx_SP := fun S r => match i with | 0 => rxIOFR_0 S0 ws S (r 8) (r 9) (r 10) (r 11) | 1 => rxIOFR_1 S0 ws S (r 8) (r 9) (r 10) (r 11) (r 12) | 2 => rxIOFR_2 S0 ws S (r 8) (r 9) (r 10) (r 11) (r 12) (r 13) | _ => False
def rxmOFR (S0 : Nat → Int → Int) (ws : List Int) (i : Nat) (S : Nat → Int → Int) (r : Nat → Int) : Nat := match i with | 0 => rxmOFR_0 S0 ws S (r 8) (r 9) (r 10) (r 11) | 1 => rxmOFR_1 S0 ws S (r 8) (r 9) (r 10) (r 11) (r 12) | 2 => rxmOFR_2 S0 ws S (r 8) (r 9) (r 10) (r 11) (r 12) (r 13) | _ => 0
def rxPOFR (S0 : Nat → Int → Int) (ws : List Int) : Prop := True
def rxPSOFR (S0 : Nat → Int → Int) (ws : List Int) (S : Nat → Int → Int) (w : Option Int) : Prop := ∃ pa st cu wh : Int, ws = [480, pa, st, cu, wh] ∧ (((pa < 0 ∨ S0 482 0 ≤ pa ∨ st < 0 ∨ 5 < st ∨ cu < 0 ∨ 5 < cu ∨ wh < 0 ∨ 1 < wh) ∧ w = some (-1)) ∨ ((0 ≤ pa ∧ pa < S0 482 0 ∧ 0 ≤ st ∧ st ≤ 5 ∧ 0 ≤ cu ∧ cu ≤ 5) ∧ wh = 0 ∧ w = some (rjWo (S0 482 (22 + 36 * pa + (6 * st + cu))))) ∨ ((0 ≤ pa ∧ pa < S0 482 0 ∧ 0 ≤ st ∧ st ≤ 5 ∧ 0 ≤ cu ∧ cu ≤ 5) ∧ wh = 1 ∧ w = some (rjNx (S0 482 (22 + 36 * pa + (6 * st + cu))))))
theorem rxkOFR_1 {S0 : Nat → Int → Int} {ws : List Int} {S : Nat → Int → Int} {pa st cu wh r : Int} (hP : rxPOFR S0 ws) (hin : bx_same rxL (bx_mdl rxC220.2.2.1) S0 S) (I0 : bx_Inv rxL S) (hinv : rxIOFR_1 S0 ws S pa st cu wh r) (l8 : 0 ≤ pa) (u8 : pa ≤ 5) (l9 : 0 ≤ st) (u9 : st ≤ 5) (l10 : 0 ≤ cu) (u10 : cu ≤ 5) (l11 : 0 ≤ wh) (u11 : wh ≤ 1) (l12 : (-1) ≤ r) (u12 : r ≤ 59) : rxPOFL S [r, wh] ∧ ∀ (S_p : Nat → Int → Int) (an : Int), (-1) ≤ an → an ≤ 9 → rxPSOFL S [r, wh] S_p (some an) → bx_Inv rxL S_p → bx_same rxL (bx_mdl rxCOFL.2.2.1) S S_p → rxIOFR_2 S0 ws S_p pa st cu wh r an ∧ rxmOFR_2 S0 ws S_p pa st cu wh r an < rxmOFR_1 S0 ws S pa st cu wh r := by
  obtain ⟨hw, hp, hr⟩ := hinv
  refine ⟨trivial, fun S_p an _ _ hq _ hsm => ⟨⟨hw, hp, hr, ?_⟩, by unfold rxmOFR_1 rxmOFR_2; omega⟩⟩
  obtain ⟨hS, r2, q2, hw3, ha⟩ := hq
  have k1 : r = r2 := Option.some.inj (congrArg (fun l : List Int => l[0]?) hw3)
  have k2 : wh = q2 := Option.some.inj (congrArg (fun l : List Int => l[1]?) hw3)
  subst k1
  subst k2
  exact Option.some.inj ha
theorem rxsOFR_1 {X : (Nat → Int → Int) → Prop} {S0 : Nat → Int → Int} {ws : List Int} (hP : rxPOFR S0 ws) : rx_obK X S0 rxC220.2.2.1 rxCOFL.2.2.1 (rxIOFR S0 ws) (rxmOFR S0 ws) 1 2 rxzOFR_1 rxzOFR_2 [.inr (0, (12, 0)), .inr (0, (11, 0))] (some 13) rxPOFL rxPSOFL := by
  intro S r hinv hXS I0 hin hs_ hf_
  have b_ := bx_bds_sat hs_
  have f_ := bx_fcl_ok hs_.1 hf_
  obtain ⟨⟨l8, u8⟩, ⟨l9, u9⟩, ⟨l10, u10⟩, ⟨l11, u11⟩, ⟨l12, u12⟩, -⟩ := b_
  have g := rxkOFR_1 hP hin I0 hinv l8 u8 l9 u9 l10 u10 l11 u11 l12 u12
  have ea : List.map (bx_num r) [.inr (0, (12, 0)), .inr (0, (11, 0))] = [(r 12), (r 11)] := by
    simp only [List.map_cons, List.map_nil, bx_xv_ok hs_.1]
    rfl
  rw [ea]
  refine ⟨g.1, fun S_p w r_p hPS hX_p I1 hsm hr hw hs_p => ?_⟩
  have hw := hw _ rfl
  subst hw
  have b_p := hs_p.2.2 13 _ _ rfl
  have g2 := g.2 S_p (r_p 13) b_p.1 b_p.2 hPS I1 hsm
  show rxIOFR_2 S0 ws S_p (r_p 8) (r_p 9) (r_p 10) (r_p 11) (r_p 12) (r_p 13) ∧ rxmOFR_2 S0 ws S_p (r_p 8) (r_p 9) (r_p 10) (r_p 11) (r_p 12) (r_p 13) < _
  rw [hr 8 (by decide), hr 9 (by decide), hr 10 (by decide), hr 11 (by decide), hr 12 (by decide)]
  exact g2
theorem rxcOFR_0_0 {S0 : Nat → Int → Int} {ws : List Int} {S : Nat → Int → Int} {pa st cu wh x12 x13 x14 x15 x16 x17 : Int} (hP : rxPOFR S0 ws) (hin : bx_same rxL (bx_mdl rxC220.2.2.1) S0 S) (I0 : bx_Inv rxL S) (hinv : rxIOFR_0 S0 ws S pa st cu wh) (l8 : 0 ≤ pa) (u8 : pa ≤ 5) (l9 : 0 ≤ st) (u9 : st ≤ 5) (l10 : 0 ≤ cu) (u10 : cu ≤ 5) (l11 : 0 ≤ wh) (u11 : wh ≤ 1) (l12 : 1 ≤ x12) (u12 : x12 ≤ 6) (l13 : 0 ≤ x13) (u13 : x13 ≤ 180) (l14 : 0 ≤ x14) (u14 : x14 ≤ 30) (l15 : 22 ≤ x15) (u15 : x15 ≤ 232) (l16 : 22 ≤ x16) (u16 : x16 ≤ 237) (l17 : (-1) ≤ x17) (u17 : x17 ≤ 59) (f0 : x16 = x15 + cu) (f1 : x15 = x13 + 22 + x14) (f2 : x14 = 6 * (st)) (f3 : x13 = 36 * (pa)) (f4 : pa ≤ x12 + (-1)) (e1 : (bx_up S 480 0 0) 482 0 = x12) (e0 : (bx_up S 480 0 0) 482 x16 = x17) : (True) ∧ (True) ∧ rxIOFR_1 S0 ws (bx_up S 480 0 0) pa st cu wh x17 ∧ rxmOFR_1 S0 ws (bx_up S 480 0 0) pa st cu wh x17 < rxmOFR_0 S0 ws S pa st cu wh := by
  obtain ⟨rfl, hw⟩ := hinv
  have qe1 := e1
  rw [bx_up_ne (by omega)] at qe1
  have qe0 := e0
  rw [bx_up_ne (by omega)] at qe0
  have ix : x16 = 22 + 36 * pa + (6 * st + cu) := by omega
  rw [ix] at qe0
  exact ⟨trivial, trivial, ⟨hw, by omega, qe0.symm⟩, by unfold rxmOFR_0 rxmOFR_1; omega⟩
theorem rxgOFR_0_0 {X : (Nat → Int → Int) → Prop} {S0 : Nat → Int → Int} {ws : List Int} (hP : rxPOFR S0 ws) : bx_obC rxL X S0 rxC220.2.2.1 (rxIOFR S0 ws) (rxmOFR S0 ws) 0 rxzOFR_0 rxoOFR_0_0 := by
  intro S S_p r r_p hinv hX hin hsm_ hseg
  obtain ⟨I0, I1, h0_, hr_, b_, f_, d_⟩ := bx_cl (evs := [(0, (0, 482), (16, 0), .inr (0, (17, 0))), (0, (0, 482), (0, 0), .inr (0, (12, 0))), (1, (0, 480), (0, 0), .inr (0, (0, 0)))]) (fvs := [(5, (16, 0), (15, 0), (10, 0)), (5, (15, 0), (13, 22), (14, 0)), (4, (14, 0), (9, 0), (0, 6)), (4, (13, 0), (8, 0), (0, 36)), (1, (8, 0), (12, (-1)), (0, 0))]) hseg (by decide +kernel) (by decide +kernel)
  have hinv : rxIOFR_0 S0 ws S (r 8) (r 9) (r 10) (r 11) := hinv
  rw [← hr_ 8 (by decide), ← hr_ 9 (by decide), ← hr_ 10 (by decide), ← hr_ 11 (by decide)] at hinv
  obtain ⟨⟨l8, u8⟩, ⟨l9, u9⟩, ⟨l10, u10⟩, ⟨l11, u11⟩, ⟨l12, u12⟩, ⟨l13, u13⟩, ⟨l14, u14⟩, ⟨l15, u15⟩, ⟨l16, u16⟩, ⟨l17, u17⟩, -⟩ := b_
  obtain ⟨f0, f1, f2, f3, f4, -⟩ := f_
  obtain ⟨e0, ⟨e1, ⟨T2, w_, w2⟩⟩⟩ := d_
  subst w2
  subst w_
  have g := rxcOFR_0_0 hP hin I0 hinv l8 u8 l9 u9 l10 u10 l11 u11 l12 u12 l13 u13 l14 u14 l15 u15 l16 u16 l17 u17 f0 f1 f2 f3 f4 e1 e0
  refine ⟨bx_narP_ok (l := []) g.1, bx_nfP_ok h0_ (fvs := []) (by decide +kernel) g.2.1, ?_, ?_⟩
  · show rxIOFR_1 S0 ws (bx_up T2 480 (0) (0)) (bx_val [(0, 0), (0, 0), (0, 0), (0, 0), (0, 0), (0, 0), (0, 0), (0, 0), (8, 0), (9, 0), (10, 0), (11, 0), (17, 0)] r_p 8) (bx_val [(0, 0), (0, 0), (0, 0), (0, 0), (0, 0), (0, 0), (0, 0), (0, 0), (8, 0), (9, 0), (10, 0), (11, 0), (17, 0)] r_p 9) (bx_val [(0, 0), (0, 0), (0, 0), (0, 0), (0, 0), (0, 0), (0, 0), (0, 0), (8, 0), (9, 0), (10, 0), (11, 0), (17, 0)] r_p 10) (bx_val [(0, 0), (0, 0), (0, 0), (0, 0), (0, 0), (0, 0), (0, 0), (0, 0), (8, 0), (9, 0), (10, 0), (11, 0), (17, 0)] r_p 11) (bx_val [(0, 0), (0, 0), (0, 0), (0, 0), (0, 0), (0, 0), (0, 0), (0, 0), (8, 0), (9, 0), (10, 0), (11, 0), (17, 0)] r_p 12)
    rw [bx_val_x (n := 8) (e := (8, 0)) h0_ rfl, bx_val_x (n := 9) (e := (9, 0)) h0_ rfl, bx_val_x (n := 10) (e := (10, 0)) h0_ rfl, bx_val_x (n := 11) (e := (11, 0)) h0_ rfl, bx_val_x (n := 12) (e := (17, 0)) h0_ rfl]
    exact g.2.2.1
  · show rxmOFR_1 S0 ws (bx_up T2 480 (0) (0)) (bx_val [(0, 0), (0, 0), (0, 0), (0, 0), (0, 0), (0, 0), (0, 0), (0, 0), (8, 0), (9, 0), (10, 0), (11, 0), (17, 0)] r_p 8) (bx_val [(0, 0), (0, 0), (0, 0), (0, 0), (0, 0), (0, 0), (0, 0), (0, 0), (8, 0), (9, 0), (10, 0), (11, 0), (17, 0)] r_p 9) (bx_val [(0, 0), (0, 0), (0, 0), (0, 0), (0, 0), (0, 0), (0, 0), (0, 0), (8, 0), (9, 0), (10, 0), (11, 0), (17, 0)] r_p 10) (bx_val [(0, 0), (0, 0), (0, 0), (0, 0), (0, 0), (0, 0), (0, 0), (0, 0), (8, 0), (9, 0), (10, 0), (11, 0), (17, 0)] r_p 11) (bx_val [(0, 0), (0, 0), (0, 0), (0, 0), (0, 0), (0, 0), (0, 0), (0, 0), (8, 0), (9, 0), (10, 0), (11, 0), (17, 0)] r_p 12) < rxmOFR_0 S0 ws T2 (r 8) (r 9) (r 10) (r 11)
    rw [bx_val_x (n := 8) (e := (8, 0)) h0_ rfl, bx_val_x (n := 9) (e := (9, 0)) h0_ rfl, bx_val_x (n := 10) (e := (10, 0)) h0_ rfl, bx_val_x (n := 11) (e := (11, 0)) h0_ rfl, bx_val_x (n := 12) (e := (17, 0)) h0_ rfl, ← hr_ 8 (by decide), ← hr_ 9 (by decide), ← hr_ 10 (by decide), ← hr_ 11 (by decide)]
    exact g.2.2.2
theorem rxdOFR_0_0 {S0 : Nat → Int → Int} {ws : List Int} {S : Nat → Int → Int} {pa st cu wh x12 : Int} (hP : rxPOFR S0 ws) (hin : bx_same rxL (bx_mdl rxC220.2.2.1) S0 S) (hin2 : bx_same rxL (bx_mdl rxC220.2.2.1) S (bx_up S 480 0 0)) (I0 : bx_Inv rxL S) (I1 : bx_Inv rxL (bx_up S 480 0 0)) (hinv : rxIOFR_0 S0 ws S pa st cu wh) (l8 : 0 ≤ pa) (u8 : pa ≤ 5) (l9 : 0 ≤ st) (u9 : st ≤ 5) (l10 : 0 ≤ cu) (u10 : cu ≤ 5) (l11 : (-2147483648) ≤ wh) (u11 : wh ≤ (-1)) (l12 : 1 ≤ x12) (u12 : x12 ≤ 6) (f0 : pa ≤ x12 + (-1)) (e0 : (bx_up S 480 0 0) 482 0 = x12) : (True) ∧ rxPSOFR S0 ws (bx_up S 480 0 0) (some ((-1))) := by
  obtain ⟨rfl, hw⟩ := hinv
  have qe0 := e0
  rw [bx_up_ne (by omega)] at qe0
  exact ⟨trivial, pa, st, cu, wh, hw, Or.inl ⟨by omega, rfl⟩⟩
theorem rxfOFR_0_0 {X : (Nat → Int → Int) → Prop} {S0 : Nat → Int → Int} {ws : List Int} (hP : rxPOFR S0 ws) : bx_obE rxL X S0 rxC220.2.2.1 (rxIOFR S0 ws) (rxPSOFR S0 ws) 0 rxzOFR_0 rxeOFR_0_0 := by
  intro S S_p r r_p hinv hX hin hsm_ hseg
  obtain ⟨I0, I1, h0_, hr_, b_, f_, d_⟩ := bx_cl (evs := [(0, (0, 482), (0, 0), .inr (0, (12, 0))), (1, (0, 480), (0, 0), .inr (0, (0, 0)))]) (fvs := [(1, (8, 0), (12, (-1)), (0, 0))]) hseg (by decide +kernel) (by decide +kernel)
  have hinv : rxIOFR_0 S0 ws S (r 8) (r 9) (r 10) (r 11) := hinv
  rw [← hr_ 8 (by decide), ← hr_ 9 (by decide), ← hr_ 10 (by decide), ← hr_ 11 (by decide)] at hinv
  obtain ⟨⟨l8, u8⟩, ⟨l9, u9⟩, ⟨l10, u10⟩, ⟨l11, u11⟩, ⟨l12, u12⟩, -⟩ := b_
  obtain ⟨f0, -⟩ := f_
  obtain ⟨e0, ⟨T1, w_, w1⟩⟩ := d_
  subst w1
  subst w_
  have g := rxdOFR_0_0 hP hin hsm_ I0 I1 hinv l8 u8 l9 u9 l10 u10 l11 u11 l12 u12 f0 e0
  refine ⟨bx_narP_ok (l := []) g.1, ?_⟩
  show rxPSOFR S0 ws (bx_up T1 480 (0) (0)) (some (bx_num r_p (.inr (0, (0, (-1))))))
  rw [bx_xv_ok h0_]
  exact g.2
theorem rxdOFR_0_1 {S0 : Nat → Int → Int} {ws : List Int} {S : Nat → Int → Int} {pa st cu wh x12 : Int} (hP : rxPOFR S0 ws) (hin : bx_same rxL (bx_mdl rxC220.2.2.1) S0 S) (hin2 : bx_same rxL (bx_mdl rxC220.2.2.1) S (bx_up S 480 0 0)) (I0 : bx_Inv rxL S) (I1 : bx_Inv rxL (bx_up S 480 0 0)) (hinv : rxIOFR_0 S0 ws S pa st cu wh) (l8 : 0 ≤ pa) (u8 : pa ≤ 5) (l9 : 0 ≤ st) (u9 : st ≤ 5) (l10 : 0 ≤ cu) (u10 : cu ≤ 5) (l11 : 2 ≤ wh) (u11 : wh ≤ 2147483647) (l12 : 1 ≤ x12) (u12 : x12 ≤ 6) (f0 : pa ≤ x12 + (-1)) (e0 : (bx_up S 480 0 0) 482 0 = x12) : (True) ∧ rxPSOFR S0 ws (bx_up S 480 0 0) (some ((-1))) := by
  obtain ⟨rfl, hw⟩ := hinv
  have qe0 := e0
  rw [bx_up_ne (by omega)] at qe0
  exact ⟨trivial, pa, st, cu, wh, hw, Or.inl ⟨by omega, rfl⟩⟩
theorem rxfOFR_0_1 {X : (Nat → Int → Int) → Prop} {S0 : Nat → Int → Int} {ws : List Int} (hP : rxPOFR S0 ws) : bx_obE rxL X S0 rxC220.2.2.1 (rxIOFR S0 ws) (rxPSOFR S0 ws) 0 rxzOFR_0 rxeOFR_0_1 := by
  intro S S_p r r_p hinv hX hin hsm_ hseg
  obtain ⟨I0, I1, h0_, hr_, b_, f_, d_⟩ := bx_cl (evs := [(0, (0, 482), (0, 0), .inr (0, (12, 0))), (1, (0, 480), (0, 0), .inr (0, (0, 0)))]) (fvs := [(1, (8, 0), (12, (-1)), (0, 0))]) hseg (by decide +kernel) (by decide +kernel)
  have hinv : rxIOFR_0 S0 ws S (r 8) (r 9) (r 10) (r 11) := hinv
  rw [← hr_ 8 (by decide), ← hr_ 9 (by decide), ← hr_ 10 (by decide), ← hr_ 11 (by decide)] at hinv
  obtain ⟨⟨l8, u8⟩, ⟨l9, u9⟩, ⟨l10, u10⟩, ⟨l11, u11⟩, ⟨l12, u12⟩, -⟩ := b_
  obtain ⟨f0, -⟩ := f_
  obtain ⟨e0, ⟨T1, w_, w1⟩⟩ := d_
  subst w1
  subst w_
  have g := rxdOFR_0_1 hP hin hsm_ I0 I1 hinv l8 u8 l9 u9 l10 u10 l11 u11 l12 u12 f0 e0
  refine ⟨bx_narP_ok (l := []) g.1, ?_⟩
  show rxPSOFR S0 ws (bx_up T1 480 (0) (0)) (some (bx_num r_p (.inr (0, (0, (-1))))))
  rw [bx_xv_ok h0_]
  exact g.2
theorem rxdOFR_0_2 {S0 : Nat → Int → Int} {ws : List Int} {S : Nat → Int → Int} {pa st cu wh x12 : Int} (hP : rxPOFR S0 ws) (hin : bx_same rxL (bx_mdl rxC220.2.2.1) S0 S) (hin2 : bx_same rxL (bx_mdl rxC220.2.2.1) S (bx_up S 480 0 0)) (I0 : bx_Inv rxL S) (I1 : bx_Inv rxL (bx_up S 480 0 0)) (hinv : rxIOFR_0 S0 ws S pa st cu wh) (l8 : 0 ≤ pa) (u8 : pa ≤ 5) (l9 : 0 ≤ st) (u9 : st ≤ 5) (l10 : 6 ≤ cu) (u10 : cu ≤ 2147483647) (l11 : (-2147483648) ≤ wh) (u11 : wh ≤ 2147483647) (l12 : 1 ≤ x12) (u12 : x12 ≤ 6) (f0 : pa ≤ x12 + (-1)) (e0 : (bx_up S 480 0 0) 482 0 = x12) : (True) ∧ rxPSOFR S0 ws (bx_up S 480 0 0) (some ((-1))) := by
  obtain ⟨rfl, hw⟩ := hinv
  have qe0 := e0
  rw [bx_up_ne (by omega)] at qe0
  exact ⟨trivial, pa, st, cu, wh, hw, Or.inl ⟨by omega, rfl⟩⟩
theorem rxfOFR_0_2 {X : (Nat → Int → Int) → Prop} {S0 : Nat → Int → Int} {ws : List Int} (hP : rxPOFR S0 ws) : bx_obE rxL X S0 rxC220.2.2.1 (rxIOFR S0 ws) (rxPSOFR S0 ws) 0 rxzOFR_0 rxeOFR_0_2 := by
  intro S S_p r r_p hinv hX hin hsm_ hseg
  obtain ⟨I0, I1, h0_, hr_, b_, f_, d_⟩ := bx_cl (evs := [(0, (0, 482), (0, 0), .inr (0, (12, 0))), (1, (0, 480), (0, 0), .inr (0, (0, 0)))]) (fvs := [(1, (8, 0), (12, (-1)), (0, 0))]) hseg (by decide +kernel) (by decide +kernel)
  have hinv : rxIOFR_0 S0 ws S (r 8) (r 9) (r 10) (r 11) := hinv
  rw [← hr_ 8 (by decide), ← hr_ 9 (by decide), ← hr_ 10 (by decide), ← hr_ 11 (by decide)] at hinv
  obtain ⟨⟨l8, u8⟩, ⟨l9, u9⟩, ⟨l10, u10⟩, ⟨l11, u11⟩, ⟨l12, u12⟩, -⟩ := b_
  obtain ⟨f0, -⟩ := f_
  obtain ⟨e0, ⟨T1, w_, w1⟩⟩ := d_
  subst w1
  subst w_
  have g := rxdOFR_0_2 hP hin hsm_ I0 I1 hinv l8 u8 l9 u9 l10 u10 l11 u11 l12 u12 f0 e0
  refine ⟨bx_narP_ok (l := []) g.1, ?_⟩
  show rxPSOFR S0 ws (bx_up T1 480 (0) (0)) (some (bx_num r_p (.inr (0, (0, (-1))))))
  rw [bx_xv_ok h0_]
  exact g.2
theorem rxdOFR_0_3 {S0 : Nat → Int → Int} {ws : List Int} {S : Nat → Int → Int} {pa st cu wh x12 : Int} (hP : rxPOFR S0 ws) (hin : bx_same rxL (bx_mdl rxC220.2.2.1) S0 S) (hin2 : bx_same rxL (bx_mdl rxC220.2.2.1) S (bx_up S 480 0 0)) (I0 : bx_Inv rxL S) (I1 : bx_Inv rxL (bx_up S 480 0 0)) (hinv : rxIOFR_0 S0 ws S pa st cu wh) (l8 : 0 ≤ pa) (u8 : pa ≤ 5) (l9 : 0 ≤ st) (u9 : st ≤ 5) (l10 : (-2147483648) ≤ cu) (u10 : cu ≤ (-1)) (l11 : (-2147483648) ≤ wh) (u11 : wh ≤ 2147483647) (l12 : 1 ≤ x12) (u12 : x12 ≤ 6) (f0 : pa ≤ x12 + (-1)) (e0 : (bx_up S 480 0 0) 482 0 = x12) : (True) ∧ rxPSOFR S0 ws (bx_up S 480 0 0) (some ((-1))) := by
  obtain ⟨rfl, hw⟩ := hinv
  have qe0 := e0
  rw [bx_up_ne (by omega)] at qe0
  exact ⟨trivial, pa, st, cu, wh, hw, Or.inl ⟨by omega, rfl⟩⟩
theorem rxfOFR_0_3 {X : (Nat → Int → Int) → Prop} {S0 : Nat → Int → Int} {ws : List Int} (hP : rxPOFR S0 ws) : bx_obE rxL X S0 rxC220.2.2.1 (rxIOFR S0 ws) (rxPSOFR S0 ws) 0 rxzOFR_0 rxeOFR_0_3 := by
  intro S S_p r r_p hinv hX hin hsm_ hseg
  obtain ⟨I0, I1, h0_, hr_, b_, f_, d_⟩ := bx_cl (evs := [(0, (0, 482), (0, 0), .inr (0, (12, 0))), (1, (0, 480), (0, 0), .inr (0, (0, 0)))]) (fvs := [(1, (8, 0), (12, (-1)), (0, 0))]) hseg (by decide +kernel) (by decide +kernel)
  have hinv : rxIOFR_0 S0 ws S (r 8) (r 9) (r 10) (r 11) := hinv
  rw [← hr_ 8 (by decide), ← hr_ 9 (by decide), ← hr_ 10 (by decide), ← hr_ 11 (by decide)] at hinv
  obtain ⟨⟨l8, u8⟩, ⟨l9, u9⟩, ⟨l10, u10⟩, ⟨l11, u11⟩, ⟨l12, u12⟩, -⟩ := b_
  obtain ⟨f0, -⟩ := f_
  obtain ⟨e0, ⟨T1, w_, w1⟩⟩ := d_
  subst w1
  subst w_
  have g := rxdOFR_0_3 hP hin hsm_ I0 I1 hinv l8 u8 l9 u9 l10 u10 l11 u11 l12 u12 f0 e0
  refine ⟨bx_narP_ok (l := []) g.1, ?_⟩
  show rxPSOFR S0 ws (bx_up T1 480 (0) (0)) (some (bx_num r_p (.inr (0, (0, (-1))))))
  rw [bx_xv_ok h0_]
  exact g.2
theorem rxdOFR_0_4 {S0 : Nat → Int → Int} {ws : List Int} {S : Nat → Int → Int} {pa st cu wh x12 : Int} (hP : rxPOFR S0 ws) (hin : bx_same rxL (bx_mdl rxC220.2.2.1) S0 S) (hin2 : bx_same rxL (bx_mdl rxC220.2.2.1) S (bx_up S 480 0 0)) (I0 : bx_Inv rxL S) (I1 : bx_Inv rxL (bx_up S 480 0 0)) (hinv : rxIOFR_0 S0 ws S pa st cu wh) (l8 : 0 ≤ pa) (u8 : pa ≤ 5) (l9 : 6 ≤ st) (u9 : st ≤ 2147483647) (l10 : (-2147483648) ≤ cu) (u10 : cu ≤ 2147483647) (l11 : (-2147483648) ≤ wh) (u11 : wh ≤ 2147483647) (l12 : 1 ≤ x12) (u12 : x12 ≤ 6) (f0 : pa ≤ x12 + (-1)) (e0 : (bx_up S 480 0 0) 482 0 = x12) : (True) ∧ rxPSOFR S0 ws (bx_up S 480 0 0) (some ((-1))) := by
  obtain ⟨rfl, hw⟩ := hinv
  have qe0 := e0
  rw [bx_up_ne (by omega)] at qe0
  exact ⟨trivial, pa, st, cu, wh, hw, Or.inl ⟨by omega, rfl⟩⟩
theorem rxfOFR_0_4 {X : (Nat → Int → Int) → Prop} {S0 : Nat → Int → Int} {ws : List Int} (hP : rxPOFR S0 ws) : bx_obE rxL X S0 rxC220.2.2.1 (rxIOFR S0 ws) (rxPSOFR S0 ws) 0 rxzOFR_0 rxeOFR_0_4 := by
  intro S S_p r r_p hinv hX hin hsm_ hseg
  obtain ⟨I0, I1, h0_, hr_, b_, f_, d_⟩ := bx_cl (evs := [(0, (0, 482), (0, 0), .inr (0, (12, 0))), (1, (0, 480), (0, 0), .inr (0, (0, 0)))]) (fvs := [(1, (8, 0), (12, (-1)), (0, 0))]) hseg (by decide +kernel) (by decide +kernel)
  have hinv : rxIOFR_0 S0 ws S (r 8) (r 9) (r 10) (r 11) := hinv
  rw [← hr_ 8 (by decide), ← hr_ 9 (by decide), ← hr_ 10 (by decide), ← hr_ 11 (by decide)] at hinv
  obtain ⟨⟨l8, u8⟩, ⟨l9, u9⟩, ⟨l10, u10⟩, ⟨l11, u11⟩, ⟨l12, u12⟩, -⟩ := b_
  obtain ⟨f0, -⟩ := f_
  obtain ⟨e0, ⟨T1, w_, w1⟩⟩ := d_
  subst w1
  subst w_
  have g := rxdOFR_0_4 hP hin hsm_ I0 I1 hinv l8 u8 l9 u9 l10 u10 l11 u11 l12 u12 f0 e0
  refine ⟨bx_narP_ok (l := []) g.1, ?_⟩
  show rxPSOFR S0 ws (bx_up T1 480 (0) (0)) (some (bx_num r_p (.inr (0, (0, (-1))))))
  rw [bx_xv_ok h0_]
  exact g.2
theorem rxdOFR_0_5 {S0 : Nat → Int → Int} {ws : List Int} {S : Nat → Int → Int} {pa st cu wh x12 : Int} (hP : rxPOFR S0 ws) (hin : bx_same rxL (bx_mdl rxC220.2.2.1) S0 S) (hin2 : bx_same rxL (bx_mdl rxC220.2.2.1) S (bx_up S 480 0 0)) (I0 : bx_Inv rxL S) (I1 : bx_Inv rxL (bx_up S 480 0 0)) (hinv : rxIOFR_0 S0 ws S pa st cu wh) (l8 : 0 ≤ pa) (u8 : pa ≤ 5) (l9 : (-2147483648) ≤ st) (u9 : st ≤ (-1)) (l10 : (-2147483648) ≤ cu) (u10 : cu ≤ 2147483647) (l11 : (-2147483648) ≤ wh) (u11 : wh ≤ 2147483647) (l12 : 1 ≤ x12) (u12 : x12 ≤ 6) (f0 : pa ≤ x12 + (-1)) (e0 : (bx_up S 480 0 0) 482 0 = x12) : (True) ∧ rxPSOFR S0 ws (bx_up S 480 0 0) (some ((-1))) := by
  obtain ⟨rfl, hw⟩ := hinv
  have qe0 := e0
  rw [bx_up_ne (by omega)] at qe0
  exact ⟨trivial, pa, st, cu, wh, hw, Or.inl ⟨by omega, rfl⟩⟩
theorem rxfOFR_0_5 {X : (Nat → Int → Int) → Prop} {S0 : Nat → Int → Int} {ws : List Int} (hP : rxPOFR S0 ws) : bx_obE rxL X S0 rxC220.2.2.1 (rxIOFR S0 ws) (rxPSOFR S0 ws) 0 rxzOFR_0 rxeOFR_0_5 := by
  intro S S_p r r_p hinv hX hin hsm_ hseg
  obtain ⟨I0, I1, h0_, hr_, b_, f_, d_⟩ := bx_cl (evs := [(0, (0, 482), (0, 0), .inr (0, (12, 0))), (1, (0, 480), (0, 0), .inr (0, (0, 0)))]) (fvs := [(1, (8, 0), (12, (-1)), (0, 0))]) hseg (by decide +kernel) (by decide +kernel)
  have hinv : rxIOFR_0 S0 ws S (r 8) (r 9) (r 10) (r 11) := hinv
  rw [← hr_ 8 (by decide), ← hr_ 9 (by decide), ← hr_ 10 (by decide), ← hr_ 11 (by decide)] at hinv
  obtain ⟨⟨l8, u8⟩, ⟨l9, u9⟩, ⟨l10, u10⟩, ⟨l11, u11⟩, ⟨l12, u12⟩, -⟩ := b_
  obtain ⟨f0, -⟩ := f_
  obtain ⟨e0, ⟨T1, w_, w1⟩⟩ := d_
  subst w1
  subst w_
  have g := rxdOFR_0_5 hP hin hsm_ I0 I1 hinv l8 u8 l9 u9 l10 u10 l11 u11 l12 u12 f0 e0
  refine ⟨bx_narP_ok (l := []) g.1, ?_⟩
  show rxPSOFR S0 ws (bx_up T1 480 (0) (0)) (some (bx_num r_p (.inr (0, (0, (-1))))))
  rw [bx_xv_ok h0_]
  exact g.2
theorem rxdOFR_0_6 {S0 : Nat → Int → Int} {ws : List Int} {S : Nat → Int → Int} {pa st cu wh x12 : Int} (hP : rxPOFR S0 ws) (hin : bx_same rxL (bx_mdl rxC220.2.2.1) S0 S) (hin2 : bx_same rxL (bx_mdl rxC220.2.2.1) S (bx_up S 480 0 0)) (I0 : bx_Inv rxL S) (I1 : bx_Inv rxL (bx_up S 480 0 0)) (hinv : rxIOFR_0 S0 ws S pa st cu wh) (l8 : 0 ≤ pa) (u8 : pa ≤ 2147483647) (l9 : (-2147483648) ≤ st) (u9 : st ≤ 2147483647) (l10 : (-2147483648) ≤ cu) (u10 : cu ≤ 2147483647) (l11 : (-2147483648) ≤ wh) (u11 : wh ≤ 2147483647) (l12 : 0 ≤ x12) (u12 : x12 ≤ 6) (f0 : x12 + (-1) < pa) (e0 : (bx_up S 480 0 0) 482 0 = x12) : (True) ∧ rxPSOFR S0 ws (bx_up S 480 0 0) (some ((-1))) := by
  obtain ⟨rfl, hw⟩ := hinv
  have qe0 := e0
  rw [bx_up_ne (by omega)] at qe0
  exact ⟨trivial, pa, st, cu, wh, hw, Or.inl ⟨by omega, rfl⟩⟩
theorem rxfOFR_0_6 {X : (Nat → Int → Int) → Prop} {S0 : Nat → Int → Int} {ws : List Int} (hP : rxPOFR S0 ws) : bx_obE rxL X S0 rxC220.2.2.1 (rxIOFR S0 ws) (rxPSOFR S0 ws) 0 rxzOFR_0 rxeOFR_0_6 := by
  intro S S_p r r_p hinv hX hin hsm_ hseg
  obtain ⟨I0, I1, h0_, hr_, b_, f_, d_⟩ := bx_cl (evs := [(0, (0, 482), (0, 0), .inr (0, (12, 0))), (1, (0, 480), (0, 0), .inr (0, (0, 0)))]) (fvs := [(0, (12, (-1)), (8, 0), (0, 0))]) hseg (by decide +kernel) (by decide +kernel)
  have hinv : rxIOFR_0 S0 ws S (r 8) (r 9) (r 10) (r 11) := hinv
  rw [← hr_ 8 (by decide), ← hr_ 9 (by decide), ← hr_ 10 (by decide), ← hr_ 11 (by decide)] at hinv
  obtain ⟨⟨l8, u8⟩, ⟨l9, u9⟩, ⟨l10, u10⟩, ⟨l11, u11⟩, ⟨l12, u12⟩, -⟩ := b_
  obtain ⟨f0, -⟩ := f_
  obtain ⟨e0, ⟨T1, w_, w1⟩⟩ := d_
  subst w1
  subst w_
  have g := rxdOFR_0_6 hP hin hsm_ I0 I1 hinv l8 u8 l9 u9 l10 u10 l11 u11 l12 u12 f0 e0
  refine ⟨bx_narP_ok (l := []) g.1, ?_⟩
  show rxPSOFR S0 ws (bx_up T1 480 (0) (0)) (some (bx_num r_p (.inr (0, (0, (-1))))))
  rw [bx_xv_ok h0_]
  exact g.2
theorem rxdOFR_0_7 {S0 : Nat → Int → Int} {ws : List Int} {S : Nat → Int → Int} {pa st cu wh x12 : Int} (hP : rxPOFR S0 ws) (hin : bx_same rxL (bx_mdl rxC220.2.2.1) S0 S) (hin2 : bx_same rxL (bx_mdl rxC220.2.2.1) S (bx_up S 480 0 0)) (I0 : bx_Inv rxL S) (I1 : bx_Inv rxL (bx_up S 480 0 0)) (hinv : rxIOFR_0 S0 ws S pa st cu wh) (l8 : (-2147483648) ≤ pa) (u8 : pa ≤ (-1)) (l9 : (-2147483648) ≤ st) (u9 : st ≤ 2147483647) (l10 : (-2147483648) ≤ cu) (u10 : cu ≤ 2147483647) (l11 : (-2147483648) ≤ wh) (u11 : wh ≤ 2147483647) (l12 : 0 ≤ x12) (u12 : x12 ≤ 6) (e0 : (bx_up S 480 0 0) 482 0 = x12) : (True) ∧ rxPSOFR S0 ws (bx_up S 480 0 0) (some ((-1))) := by
  obtain ⟨rfl, hw⟩ := hinv
  have qe0 := e0
  rw [bx_up_ne (by omega)] at qe0
  exact ⟨trivial, pa, st, cu, wh, hw, Or.inl ⟨by omega, rfl⟩⟩
theorem rxfOFR_0_7 {X : (Nat → Int → Int) → Prop} {S0 : Nat → Int → Int} {ws : List Int} (hP : rxPOFR S0 ws) : bx_obE rxL X S0 rxC220.2.2.1 (rxIOFR S0 ws) (rxPSOFR S0 ws) 0 rxzOFR_0 rxeOFR_0_7 := by
  intro S S_p r r_p hinv hX hin hsm_ hseg
  obtain ⟨I0, I1, h0_, hr_, b_, f_, d_⟩ := bx_cl (evs := [(0, (0, 482), (0, 0), .inr (0, (12, 0))), (1, (0, 480), (0, 0), .inr (0, (0, 0)))]) (fvs := []) hseg (by decide +kernel) (by decide +kernel)
  have hinv : rxIOFR_0 S0 ws S (r 8) (r 9) (r 10) (r 11) := hinv
  rw [← hr_ 8 (by decide), ← hr_ 9 (by decide), ← hr_ 10 (by decide), ← hr_ 11 (by decide)] at hinv
  obtain ⟨⟨l8, u8⟩, ⟨l9, u9⟩, ⟨l10, u10⟩, ⟨l11, u11⟩, ⟨l12, u12⟩, -⟩ := b_
  obtain ⟨e0, ⟨T1, w_, w1⟩⟩ := d_
  subst w1
  subst w_
  have g := rxdOFR_0_7 hP hin hsm_ I0 I1 hinv l8 u8 l9 u9 l10 u10 l11 u11 l12 u12 e0
  refine ⟨bx_narP_ok (l := []) g.1, ?_⟩
  show rxPSOFR S0 ws (bx_up T1 480 (0) (0)) (some (bx_num r_p (.inr (0, (0, (-1))))))
  rw [bx_xv_ok h0_]
  exact g.2
theorem rxdOFR_2_0 {S0 : Nat → Int → Int} {ws : List Int} {S : Nat → Int → Int} {pa st cu wh r an : Int} (hP : rxPOFR S0 ws) (hin : bx_same rxL (bx_mdl rxC220.2.2.1) S0 S) (hin2 : bx_same rxL (bx_mdl rxC220.2.2.1) S S) (I0 : bx_Inv rxL S) (I1 : bx_Inv rxL S) (hinv : rxIOFR_2 S0 ws S pa st cu wh r an) (l8 : 0 ≤ pa) (u8 : pa ≤ 5) (l9 : 0 ≤ st) (u9 : st ≤ 5) (l10 : 0 ≤ cu) (u10 : cu ≤ 5) (l11 : 0 ≤ wh) (u11 : wh ≤ 1) (l12 : (-1) ≤ r) (u12 : r ≤ 59) (l13 : (-1) ≤ an) (u13 : an ≤ 9) : (True) ∧ rxPSOFR S0 ws S (some an) := by
  obtain ⟨hw, hp, hr, ha⟩ := hinv
  subst hr
  by_cases c : wh = 0
  · rw [if_pos c] at ha
    exact ⟨trivial, pa, st, cu, wh, hw, Or.inr (Or.inl ⟨⟨by omega, hp, by omega, by omega, by omega, by omega⟩, c, congrArg some ha⟩)⟩
  · rw [if_neg c] at ha
    exact ⟨trivial, pa, st, cu, wh, hw, Or.inr (Or.inr ⟨⟨by omega, hp, by omega, by omega, by omega, by omega⟩, by omega, congrArg some ha⟩)⟩
theorem rxfOFR_2_0 {X : (Nat → Int → Int) → Prop} {S0 : Nat → Int → Int} {ws : List Int} (hP : rxPOFR S0 ws) : bx_obE rxL X S0 rxC220.2.2.1 (rxIOFR S0 ws) (rxPSOFR S0 ws) 2 rxzOFR_2 rxeOFR_2_0 := by
  intro S S_p r r_p hinv hX hin hsm_ hseg
  obtain ⟨I0, I1, h0_, hr_, b_, f_, d_⟩ := bx_cl (evs := []) (fvs := []) hseg (by decide +kernel) (by decide +kernel)
  have hinv : rxIOFR_2 S0 ws S (r 8) (r 9) (r 10) (r 11) (r 12) (r 13) := hinv
  rw [← hr_ 8 (by decide), ← hr_ 9 (by decide), ← hr_ 10 (by decide), ← hr_ 11 (by decide), ← hr_ 12 (by decide), ← hr_ 13 (by decide)] at hinv
  obtain ⟨⟨l8, u8⟩, ⟨l9, u9⟩, ⟨l10, u10⟩, ⟨l11, u11⟩, ⟨l12, u12⟩, ⟨l13, u13⟩, -⟩ := b_
  have w_ := d_
  subst w_
  have g := rxdOFR_2_0 hP hin hsm_ I0 I1 hinv l8 u8 l9 u9 l10 u10 l11 u11 l12 u12 l13 u13
  refine ⟨bx_narP_ok (l := []) g.1, ?_⟩
  show rxPSOFR S0 ws S_p (some (bx_num r_p (.inr (0, (13, 0)))))
  rw [bx_xv_ok h0_]
  exact g.2
theorem rxgCOFR {X : (Nat → Int → Int) → Prop} {S0 : Nat → Int → Int} {ws : List Int} (hP : rxPOFR S0 ws) : bx_allI (fun i q => rxUOFR q = true ∨ bx_allP (fun o => bx_obC rxL X S0 rxC220.2.2.1 (rxIOFR S0 ws) (rxmOFR S0 ws) i q.1 o) q.2.1) 0 rxYOFR := ⟨Or.inr ⟨rxgOFR_0_0 hP, trivial⟩, Or.inl rfl, Or.inr trivial, trivial⟩
theorem rxgEOFR {X : (Nat → Int → Int) → Prop} {S0 : Nat → Int → Int} {ws : List Int} (hP : rxPOFR S0 ws) : bx_allI (fun i q => rxUOFR q = true ∨ bx_allP (fun E => bx_obE rxL X S0 rxC220.2.2.1 (rxIOFR S0 ws) (rxPSOFR S0 ws) i q.1 E) q.2.2) 0 rxYOFR := ⟨Or.inr ⟨rxfOFR_0_0 hP, rxfOFR_0_1 hP, rxfOFR_0_2 hP, rxfOFR_0_3 hP, rxfOFR_0_4 hP, rxfOFR_0_5 hP, rxfOFR_0_6 hP, rxfOFR_0_7 hP, trivial⟩, Or.inl rfl, Or.inr ⟨rxfOFR_2_0 hP, trivial⟩, trivial⟩
theorem rxuOFR {PX : State → Prop} {Dg : va_G} {A : Nat → Prop} {ad xa : Nat → Nat} {l : Launch} {X : (Nat → Int → Int) → Prop} (hPX : rx_PXOK rxNW A PX) (hX : ∀ S S1 : Nat → Int → Int, X S → bx_same rxL (bx_mdl rxC220.2.2.1) S S1 → X S1) (hQOFL : bx_ConP rxG rxNW rxAO PX Dg rxL X vwCl A ad l rxM21 rxCOFL rxPOFL rxPSOFL) {S0 : Nat → Int → Int} {ws : List Int} (hP : rxPOFR S0 ws) : ∀ (i : Nat) (q : bx_HE), rxYOFR[i]? = some q → rxUOFR q = true → ∀ {p : Program} {e : Env} {R : Room} {s : State} {m : MethodId} {args : Array Value} {below : List Frame} {meth : Method} {c : Code} {Q : State → Prop} {H0 : Heap}, rx_Fr rxG rxNW rxAO PX p s m args meth c rxM220 → (∀ q, H0.size ≤ q → A q) → H0 = s.heap → rxM220.2.2.2.2.2.2.1 ≤ R.cells → rxM220.2.2.2.2.2.2.2 ≤ R.slots → rxC220.2.2.2.1 ≤ R.frames → rxC220.2.2.2.1 * 40 ≤ R.locals → bx_Step p l e R s m args below meth c Q Dg rxL X vwCl A xa H0 ad rxM220 rxYOFR (rxIOFR S0 ws) (rxmOFR S0 ws) S0 rxC220.2.2.1 i q := by
  intro i q hq hus p e R s m args below meth c Q H0 hF hA hH0 hmc hms hd hdl
  match i, hq with
  | 0, hq =>
    cases hq
    exact absurd (show false = true from hus) Bool.false_ne_true
  | 1, hq =>
    cases hq
    exact rx_stepC (ins := .invokestatic 215) (len := 3) (i_p := 2) (M_p := rxM21) (d := rxC220.2.2.2.1) (as := [.inr (0, (12, 0)), .inr (0, (11, 0))]) (t := []) (ct := rxCOFL) hPX hF rfl hA hH0 hmc hms hd hdl (by decide +kernel) rfl rfl (by decide +kernel) (by decide +kernel) hQOFL (by decide +kernel) rfl (Or.inr ⟨_, _, _, 1, rfl, rfl, by omega, rfl, rfl, rfl⟩) (rxsOFR_1 hP)
  | 2, hq =>
    cases hq
    exact absurd (show false = true from hus) Bool.false_ne_true
  | n + 3, hq => cases hq
theorem rxQOFR {PX : State → Prop} {Dg : va_G} {A : Nat → Prop} {ad xa : Nat → Nat} {l : Launch} {X : (Nat → Int → Int) → Prop} (hPX : rx_PXOK rxNW A PX) (hsl : ∀ s : State, PX s → ∀ o idx n : Nat, rxSl o idx = some n → ∃ tx : String, vk_R (rxNm o) idx tx (ad n) s)
    (hX : ∀ S S_p : Nat → Int → Int, X S → bx_same rxL (bx_mdl rxC220.2.2.1) S S_p → X S_p)
    (ih : ∀ (j2 : Nat) (ct2 : bx_Ct) (M2 : rx_Mt), ct2 ∈ rxCnE j2 → ct2.2.2.2.1 + 1 ≤ rxC220.2.2.2.1 → rxT.2.2.2.2.2 j2 = some M2 → bx_Con rxG rxNW rxAO PX Dg rxL X vwCl A ad l M2 ct2) (hQOFL : bx_ConP rxG rxNW rxAO PX Dg rxL X vwCl A ad l rxM21 rxCOFL rxPOFL rxPSOFL) : bx_ConP rxG rxNW rxAO PX Dg rxL X vwCl A ad l rxM220 rxC220 rxPOFR rxPSOFR :=
  rxQof (xa := xa) (Cn := rxCnE) (f := 30000) (j := 220) (tab := rxYOFR) (us := rxUOFR) hPX hsl hX ih rfl rxYcOFR rxIOFR rxmOFR
    (fun S0 ws r I0 I ht0 ht as he he1 hX0 hI0 hP hs ha => by
      have e := he.symm.trans (show bx_ent0 rxNP rxC220.1 bx_I0 [] = some ([(0, 0), (0, 0), (0, 0), (0, 0), (0, 0), (0, 0), (0, 0), (0, 0), ((-2147483648), 2147483647), ((-2147483648), 2147483647), ((-2147483648), 2147483647), ((-2147483648), 2147483647)], [], [.inr (3, (0, 480)), .inr (0, (8, 0)), .inr (0, (9, 0)), .inr (0, (10, 0)), .inr (0, (11, 0))]) from rfl)
      cases e
      subst ha
      have h0 : r 0 = 0 := hs.1
      show rxIOFR_0 S0 _ S0 (r 8) (r 9) (r 10) (r 11)
      refine ⟨rfl, ?_⟩
      simp only [List.map_cons, List.map_nil, bx_xv_ok h0]
      rfl)
    (fun S0 ws hP => rxuOFR (xa := xa) hPX hX hQOFL hP) (fun S0 ws hP => rxgCOFR hP) (fun S0 ws hP => rxgEOFR hP)
