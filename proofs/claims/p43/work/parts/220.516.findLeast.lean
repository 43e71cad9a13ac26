/-! LEAST, the reference: in the deeds' words -/
def ldFy (S0 S : Nat → Int → Int) : Prop := S 482 6 = S0 482 6 ∧ ldt (S0 482 6) (ldrR S) = ldt (S0 482 6) (ldF (ldQ (ldt (S0 482 6) (ldrr S0)) (S0 482 6).toNat 4) (ldrr S0)) ∧ ldt (S0 482 6) (ldrC S) = ldt (S0 482 6) (ldF (ldQ (ldt (S0 482 6) (ldrr S0)) (S0 482 6).toNat 4) (ldrc S0)) ∧ ldt (S0 482 6) (ldrW S) = ldt (S0 482 6) (ldF (ldQ (ldt (S0 482 6) (ldrr S0)) (S0 482 6).toNat 4) (ldrw S0))
theorem ldFy_of {ms : List (Nat × Nat)} {S0 S : Nat → Int → Int} (h : bx_same rxL (bx_mdl ms) S0 S) (h1 : bx_noG ms (1000 + 63) = true) (hI : bx_Inv rxL S) (hR : ldRy S (ldLq (S 482 6) (ldrr S) 4)) : ldFy S0 S := by
  have h6 := rxN6 hI
  have e6 : S 482 6 = S0 482 6 := rx_sameR h (tc := 0) (n := 6180) (g := 63) rfl (by omega) h1 h1 (by omega) (by omega)
  have hj : ∀ i : Int, 0 ≤ i → i < 6180 → S 482 i = S0 482 i := fun i a b => rx_sameR h (tc := 0) (n := 6180) (g := 63) rfl (by omega) h1 h1 a b
  obtain ⟨d1, d2, d3⟩ := ldRy_D hI hR
  have r1 : ldt (S0 482 6) (ldrr S) = ldt (S0 482 6) (ldrr S0) := ldt_cg fun j a b => hj _ (by omega) (by omega)
  have d1 : ldt (S 482 6) (ldrR S) = ldt (S 482 6) (ldF (ldQ (ldt (S 482 6) (ldrr S)) (S 482 6).toNat 4) (ldrr S)) := d1
  have d2 : ldt (S 482 6) (ldrC S) = ldt (S 482 6) (ldF (ldQ (ldt (S 482 6) (ldrr S)) (S 482 6).toNat 4) (ldrc S)) := d2
  have d3 : ldt (S 482 6) (ldrW S) = ldt (S 482 6) (ldF (ldQ (ldt (S 482 6) (ldrr S)) (S 482 6).toNat 4) (ldrw S)) := d3
  rw [e6, r1] at d1 d2 d3
  exact ⟨e6, d1.trans (ldF_cg fun j a b => hj _ (by omega) (by omega)), d2.trans (ldF_cg fun j a b => hj _ (by omega) (by omega)), d3.trans (ldF_cg fun j a b => hj _ (by omega) (by omega))⟩
theorem ldFy_x {S0 S S' : Nat → Int → Int} (h : ldFy S0 S) (x : ldFx S S') : ldFy S0 S' := by
  obtain ⟨h1, h2, h3, h4⟩ := h
  obtain ⟨x1, -, x2, x3, x4⟩ := x
  rw [h1] at x1 x2 x3 x4
  exact ⟨x1, x4.trans h2, x2.trans h3, x3.trans h4⟩
theorem ldN_f {n m : Int} {r c w : Int → Int} {f : (Int → Int) → (Int → Int) → (Int → Int) → Nat} : (ldA (ldDs n r c w m f)).length = ldN n r c w m := ldT_lenf _ _ _ _ _ _ _
theorem ldFy_D {S0 S : Nat → Int → Int} {m cue z : Int} (h : ldFy S0 S) : ldRD S m cue z = ldDs (S0 482 6) (ldrr S0) (ldrc S0) (ldrw S0) m (ldl m cue z (ldt (S0 482 6) (ldF (ldQ (ldt (S0 482 6) (ldrr S0)) (S0 482 6).toNat 4) (ldrc S0)))) := by
  obtain ⟨h1, h2, h3, h4⟩ := h
  unfold ldRD ldDs
  rw [h1, h2, h3, h4]
def ldRZ (S0 : Nat → Int → Int) (row z : Int) : Prop := ldZ (S0 482 6) (ldt (S0 482 6) (ldF (ldQ (ldt (S0 482 6) (ldrr S0)) (S0 482 6).toNat 4) (ldrr S0))) row z
theorem ldFy_F {S0 S S' : Nat → Int → Int} {m row cue : Int} (h0 : 0 ≤ S0 482 6) (h : ldFy S0 S) (hq : ∀ z : Int, ldZ (S 482 6) (ldt (S 482 6) (ldrR S)) row z → ldFin (ldRD S m cue z) S') : S' 480 69 = (ldN (S0 482 6) (ldrr S0) (ldrc S0) (ldrw S0) m : Nat) ∧ ∀ z : Int, ldRZ S0 row z → S' 480 70 = (ldU (S0 482 6) (ldrr S0) (ldrc S0) (ldrw S0) m cue z : Nat) := by
  have hz : ∀ z : Int, ldRZ S0 row z → ldFin (ldRD S m cue z) S' := fun z hz => hq z (by
    rw [h.1, h.2.1]
    exact hz)
  constructor
  · obtain ⟨z, hz2⟩ := ldZ_ex (R := ldt (S0 482 6) (ldF (ldQ (ldt (S0 482 6) (ldrr S0)) (S0 482 6).toNat 4) (ldrr S0))) (row := row) (S0 482 6).toNat
    rw [show (((S0 482 6).toNat : Nat) : Int) = S0 482 6 by omega] at hz2
    have q := (hz z hz2).1
    rw [ldFy_D h, ldN_f] at q
    exact q
  · intro z hz2
    have q := (hz z hz2).2
    rw [ldFy_D h] at q
    exact q
/-! CONTRACT BY HAND, by program (wip/sim/genhand.py): DeadUnderstudiesModel.findLeast -/
def rxCLFL : bx_Ct := ([(3, (1, 480, 0)), (0, (0, 0, 3)), (0, (0, 0, 5))], some (0, (0, (-1), 3)), [(12, 69), (12, 70), (1093, 0), (1094, 0), (1095, 0), (1096, 0), (1097, 0), (1098, 0), (1099, 0), (1100, 0)], 3, [])
def rxILFL_0 (S0 : Nat → Int → Int) (ws : List Int) (S : Nat → Int → Int) (row1 cue : Int) : Prop := S = S0 ∧ ws = [480, row1, cue]
def rxmLFL_0 (S0 : Nat → Int → Int) (ws : List Int) (S : Nat → Int → Int) (row1 cue : Int) : Nat := 1000
def rxzLFL_0 : rx_Z := ([(0, 0), (0, 0), (0, 0), (0, 0), (0, 0), (0, 0), (0, 0), (0, 0), (0, 3), (0, 5)], [], [], 0, 0, 0, [(0, .inr (3, (0, 480))), (1, .inr (0, (8, 0))), (2, .inr (0, (9, 0)))], [])
def rxILFL_1 (S0 : Nat → Int → Int) (ws : List Int) (S : Nat → Int → Int) (row1 cue : Int) : Prop := S = S0 ∧ ws = [480, row1, cue]
def rxmLFL_1 (S0 : Nat → Int → Int) (ws : List Int) (S : Nat → Int → Int) (row1 cue : Int) : Nat := 900
def rxzLFL_1 : rx_Z := ([(0, 0), (0, 0), (0, 0), (0, 0), (0, 0), (0, 0), (0, 0), (0, 0), (0, 3), (0, 5)], [], [], 0, 0, 1, [(0, .inr (3, (0, 480))), (1, .inr (0, (8, 0))), (2, .inr (0, (9, 0)))], [.inr (3, (0, 480))])
def rxILFL_2 (S0 : Nat → Int → Int) (ws : List Int) (S : Nat → Int → Int) (row1 cue : Int) : Prop := ws = [480, row1, cue] ∧ ldFy S0 S ∧ rxOrd S
def rxmLFL_2 (S0 : Nat → Int → Int) (ws : List Int) (S : Nat → Int → Int) (row1 cue : Int) : Nat := 800
def rxzLFL_2 : rx_Z := ([(0, 0), (0, 0), (0, 0), (0, 0), (0, 0), (0, 0), (0, 0), (0, 0), (0, 3), (0, 5)], [], [], 0, 0, 4, [(0, .inr (3, (0, 480))), (1, .inr (0, (8, 0))), (2, .inr (0, (9, 0)))], [])
def rxILFL_3 (S0 : Nat → Int → Int) (ws : List Int) (S : Nat → Int → Int) (row1 cue s : Int) : Prop := ws = [480, row1, cue] ∧ ldFy S0 S ∧ rxOrd S ∧ ((1 < s → ldN (S0 482 6) (ldrr S0) (ldrc S0) (ldrw S0) 1 = 0) ∧ (2 < s → ldN (S0 482 6) (ldrr S0) (ldrc S0) (ldrw S0) 2 = 0) ∧ (3 < s → ldN (S0 482 6) (ldrr S0) (ldrc S0) (ldrw S0) 3 = 0)) ∧ (3 < s → S 480 69 = 0)
def rxmLFL_3 (S0 : Nat → Int → Int) (ws : List Int) (S : Nat → Int → Int) (row1 cue s : Int) : Nat := 10 * (20 - s).toNat + 9
def rxzLFL_3 : rx_Z := ([(0, 0), (0, 0), (0, 0), (0, 0), (0, 0), (0, 0), (0, 0), (0, 0), (0, 3), (0, 5), (1, 4)], [], [], 0, 0, 6, [(0, .inr (3, (0, 480))), (1, .inr (0, (8, 0))), (2, .inr (0, (9, 0))), (3, .inr (0, (10, 0)))], [])
def rxILFL_4 (S0 : Nat → Int → Int) (ws : List Int) (S : Nat → Int → Int) (row1 cue s a b c : Int) : Prop := (a = s ∧ b = row1 ∧ c = cue) ∧ ws = [480, row1, cue] ∧ ldFy S0 S ∧ rxOrd S ∧ ((1 < s → ldN (S0 482 6) (ldrr S0) (ldrc S0) (ldrw S0) 1 = 0) ∧ (2 < s → ldN (S0 482 6) (ldrr S0) (ldrc S0) (ldrw S0) 2 = 0) ∧ (3 < s → ldN (S0 482 6) (ldrr S0) (ldrc S0) (ldrw S0) 3 = 0))
def rxmLFL_4 (S0 : Nat → Int → Int) (ws : List Int) (S : Nat → Int → Int) (row1 cue s a b c : Int) : Nat := 10 * (20 - s).toNat + 8
def rxzLFL_4 : rx_Z := ([(0, 0), (0, 0), (0, 0), (0, 0), (0, 0), (0, 0), (0, 0), (0, 0), (0, 3), (0, 5), (1, 3), (1, 3), (0, 3), (0, 5)], [], [], 0, 0, 15, [(0, .inr (3, (0, 480))), (1, .inr (0, (8, 0))), (2, .inr (0, (9, 0))), (3, .inr (0, (10, 0)))], [.inr (0, (13, 0)), .inr (0, (12, 0)), .inr (0, (11, 0)), .inr (3, (0, 480))])
def rxILFL_5 (S0 : Nat → Int → Int) (ws : List Int) (S : Nat → Int → Int) (row1 cue s a b c : Int) : Prop := ws = [480, row1, cue] ∧ ldFy S0 S ∧ rxOrd S ∧ ((1 < s → ldN (S0 482 6) (ldrr S0) (ldrc S0) (ldrw S0) 1 = 0) ∧ (2 < s → ldN (S0 482 6) (ldrr S0) (ldrc S0) (ldrw S0) 2 = 0) ∧ (3 < s → ldN (S0 482 6) (ldrr S0) (ldrc S0) (ldrw S0) 3 = 0)) ∧ S 480 69 = (ldN (S0 482 6) (ldrr S0) (ldrc S0) (ldrw S0) s : Nat) ∧ (∀ z : Int, ldRZ S0 row1 z → S 480 70 = (ldU (S0 482 6) (ldrr S0) (ldrc S0) (ldrw S0) s cue z : Nat))
def rxmLFL_5 (S0 : Nat → Int → Int) (ws : List Int) (S : Nat → Int → Int) (row1 cue s a b c : Int) : Nat := 10 * (20 - s).toNat + 7
def rxzLFL_5 : rx_Z := ([(0, 0), (0, 0), (0, 0), (0, 0), (0, 0), (0, 0), (0, 0), (0, 0), (0, 3), (0, 5), (1, 3), (1, 3), (0, 3), (0, 5)], [], [], 0, 0, 18, [(0, .inr (3, (0, 480))), (1, .inr (0, (8, 0))), (2, .inr (0, (9, 0))), (3, .inr (0, (10, 0)))], [])
def rxoLFL_0_0 : bx_HO := (([(0, 0), (0, 0), (0, 0), (0, 0), (0, 0), (0, 0), (0, 0), (0, 0), (0, 3), (0, 5)], [], [], 0, 0, 1, [(0, .inr (3, (0, 480))), (1, .inr (0, (8, 0))), (2, .inr (0, (9, 0)))], [.inr (3, (0, 480))]), [], [], [(0, 0), (0, 0), (0, 0), (0, 0), (0, 0), (0, 0), (0, 0), (0, 0), (8, 0), (9, 0)], 1)
def rxoLFL_2_0 : bx_HO := (([(0, 0), (0, 0), (0, 0), (0, 0), (0, 0), (0, 0), (0, 0), (0, 0), (0, 3), (0, 5)], [], [], 0, 0, 6, [(3, .inr (0, (0, 1))), (0, .inr (3, (0, 480))), (1, .inr (0, (8, 0))), (2, .inr (0, (9, 0)))], []), [], [], [(0, 0), (0, 0), (0, 0), (0, 0), (0, 0), (0, 0), (0, 0), (0, 0), (8, 0), (9, 0), (0, 1)], 3)
def rxoLFL_3_0 : bx_HO := (([(0, 0), (0, 0), (0, 0), (0, 0), (0, 0), (0, 0), (0, 0), (0, 0), (0, 3), (0, 5), (1, 3)], [], [], 0, 0, 15, [(0, .inr (3, (0, 480))), (1, .inr (0, (8, 0))), (2, .inr (0, (9, 0))), (3, .inr (0, (10, 0)))], [.inr (0, (9, 0)), .inr (0, (8, 0)), .inr (0, (10, 0)), .inr (3, (0, 480))]), [], [], [(0, 0), (0, 0), (0, 0), (0, 0), (0, 0), (0, 0), (0, 0), (0, 0), (8, 0), (9, 0), (10, 0), (10, 0), (8, 0), (9, 0)], 4)
def rxeLFL_3_0 : rx_End × List (Nat × Int × Int) := (([(0, 0), (0, 0), (0, 0), (0, 0), (0, 0), (0, 0), (0, 0), (0, 0), (0, 3), (0, 5), (4, 4)], [], [], some (.inr (0, (0, (-1))))), [])
def rxoLFL_5_0 : bx_HO := (([(0, 0), (0, 0), (0, 0), (0, 0), (0, 0), (0, 0), (0, 0), (0, 0), (0, 3), (0, 5), (1, 3), (1, 3), (0, 3), (0, 5), ((-2147483648), 0)], [], [(((0, 0), 1851192626986356811273103098664536289004699062340675673050316800000000), .inr (0, (14, 0))), (((0, 480), 69), .inr (0, (14, 0)))], 0, 0, 6, [(3, .inr (0, (10, 1))), (0, .inr (3, (0, 480))), (1, .inr (0, (8, 0))), (2, .inr (0, (9, 0)))], []), [], [], [(0, 0), (0, 0), (0, 0), (0, 0), (0, 0), (0, 0), (0, 0), (0, 0), (8, 0), (9, 0), (10, 1)], 3)
def rxeLFL_5_0 : rx_End × List (Nat × Int × Int) := (([(0, 0), (0, 0), (0, 0), (0, 0), (0, 0), (0, 0), (0, 0), (0, 0), (0, 3), (0, 5), (1, 3), (1, 3), (0, 3), (0, 5), (1, 2147483647)], [], [(((0, 0), 1851192626986356811273103098664536289004699062340675673050316800000000), .inr (0, (14, 0))), (((0, 480), 69), .inr (0, (14, 0)))], some (.inr (0, (10, 0)))), [])
def rxYLFL : List bx_HE := [(rxzLFL_0, [rxoLFL_0_0], []), (rxzLFL_1, [], []), (rxzLFL_2, [rxoLFL_2_0], []), (rxzLFL_3, [rxoLFL_3_0], [rxeLFL_3_0]), (rxzLFL_4, [], []), (rxzLFL_5, [rxoLFL_5_0], [rxeLFL_5_0])]
def rxULFL (q : bx_HE) : Bool := Nat.beq (rx_zpc q.1) 1 || Nat.beq (rx_zpc q.1) 15
def rxYBLFL : bx_B := (rxV, rxNP, rxDmf, bx_mdH rxCLFL.2.2.1)
set_option maxRecDepth 100000 in
theorem rxYcLFL : bx_chkH rxYBLFL rxM324 rxCLFL rxYLFL (rxULFL, fun cut z => rx_ex2 (rxCT rxYBLFL rxCnE) cut 30000 rxCLFL.2.2.2.1 324 z) = true := by decide +kernel
def rxILFL (S0 : Nat → Int → Int) (ws : List Int) (i : Nat) : bx_SP := fun S r => match i with | 0 => rxILFL_0 S0 ws S (r 8) (r 9) | 1 => rxILFL_1 S0 ws S (r 8) (r 9) | 2 => rxILFL_2 S0 ws S (r 8) (r 9) | 3 => rxILFL_3 S0 ws S (r 8) (r 9) (r 10) | 4 => rxILFL_4 S0 ws S (r 8) (r 9) (r 10) (r 11) (r 12) (r 13) | 5 => rxILFL_5 S0 ws S (r 8) (r 9) (r 10) (r 11) (r 12) (r 13) | _ => False
def rxmLFL (S0 : Nat → Int → Int) (ws : List Int) (i : Nat) (S : Nat → Int → Int) (r : Nat → Int) : Nat := match i with | 0 => rxmLFL_0 S0 ws S (r 8) (r 9) | 1 => rxmLFL_1 S0 ws S (r 8) (r 9) | 2 => rxmLFL_2 S0 ws S (r 8) (r 9) | 3 => rxmLFL_3 S0 ws S (r 8) (r 9) (r 10) | 4 => rxmLFL_4 S0 ws S (r 8) (r 9) (r 10) (r 11) (r 12) (r 13) | 5 => rxmLFL_5 S0 ws S (r 8) (r 9) (r 10) (r 11) (r 12) (r 13) | _ => 0
def rxPLFL (S0 : Nat → Int → Int) (ws : List Int) : Prop := True
def rxPSLFL (S0 : Nat → Int → Int) (ws : List Int) (S : Nat → Int → Int) (w : Option Int) : Prop := ∃ row1 cue v : Int, ws = [480, row1, cue] ∧ w = some v ∧ ldW (ldN (S0 482 6) (ldrr S0) (ldrc S0) (ldrw S0)) v ∧ (v = -1 → S 480 69 = 0) ∧ (v ≠ -1 → S 480 69 = (ldN (S0 482 6) (ldrr S0) (ldrc S0) (ldrw S0) v : Nat) ∧ ∀ z : Int, ldRZ S0 row1 z → S 480 70 = (ldU (S0 482 6) (ldrr S0) (ldrc S0) (ldrw S0) v cue z : Nat))
theorem rxkLFL_1 {S0 : Nat → Int → Int} {ws : List Int} {S : Nat → Int → Int} {row1 cue : Int} (hP : rxPLFL S0 ws) (hin : bx_same rxL (bx_mdl rxCLFL.2.2.1) S0 S) (I0 : bx_Inv rxL S) (hinv : rxILFL_1 S0 ws S row1 cue) (l8 : 0 ≤ row1) (u8 : row1 ≤ 3) (l9 : 0 ≤ cue) (u9 : cue ≤ 5) : rxPLFO S [480] ∧ ∀ (S' : Nat → Int → Int), rxPSLFO S [480] S' none → bx_Inv rxL S' → bx_same rxL (bx_mdl rxCLFO.2.2.1) S S' → rxILFL_2 S0 ws S' row1 cue ∧ rxmLFL_2 S0 ws S' row1 cue < rxmLFL_1 S0 ws S row1 cue := by
  obtain ⟨h1, hw⟩ := hinv
  subst h1
  exact ⟨trivial, fun S' hq I1 hsm => ⟨⟨hw, ldFy_of hsm (by decide +kernel) I1 hq.2, ldRy_O I1 hq.2⟩, by unfold rxmLFL_1 rxmLFL_2; omega⟩⟩
theorem rxsLFL_1 {X : (Nat → Int → Int) → Prop} {S0 : Nat → Int → Int} {ws : List Int} (hP : rxPLFL S0 ws) : rx_obK X S0 rxCLFL.2.2.1 rxCLFO.2.2.1 (rxILFL S0 ws) (rxmLFL S0 ws) 1 2 rxzLFL_1 rxzLFL_2 [.inr (3, (0, 480))] none rxPLFO rxPSLFO := by
  intro S r hinv hXS I0 hin hs_ hf_
  have b_ := bx_bds_sat hs_
  have f_ := bx_fcl_ok hs_.1 hf_
  obtain ⟨⟨l8, u8⟩, ⟨l9, u9⟩, -⟩ := b_
  have g := rxkLFL_1 hP hin I0 hinv l8 u8 l9 u9
  have ea : List.map (bx_num r) [.inr (3, (0, 480))] = [480] := by
    simp only [List.map_cons, List.map_nil, bx_xv_ok hs_.1]
    rfl
  rw [ea]
  refine ⟨g.1, fun S' w r' hPS hX' I1 hsm hr hw hs' => ?_⟩
  have hw : w = none := hPS.1
  subst hw
  have g2 := g.2 S' hPS I1 hsm
  show rxILFL_2 S0 ws S' (r' 8) (r' 9) ∧ rxmLFL_2 S0 ws S' (r' 8) (r' 9) < _
  rw [hr 8 (by decide), hr 9 (by decide)]
  exact g2
theorem rxkLFL_4 {S0 : Nat → Int → Int} {ws : List Int} {S : Nat → Int → Int} {row1 cue s a b c : Int} (hP : rxPLFL S0 ws) (hin : bx_same rxL (bx_mdl rxCLFL.2.2.1) S0 S) (I0 : bx_Inv rxL S) (hinv : rxILFL_4 S0 ws S row1 cue s a b c) (l8 : 0 ≤ row1) (u8 : row1 ≤ 3) (l9 : 0 ≤ cue) (u9 : cue ≤ 5) (l10 : 1 ≤ s) (u10 : s ≤ 3) (l11 : 1 ≤ a) (u11 : a ≤ 3) (l12 : 0 ≤ b) (u12 : b ≤ 3) (l13 : 0 ≤ c) (u13 : c ≤ 5) : rxPLFW S [480, a, b, c] ∧ ∀ (S' : Nat → Int → Int), rxPSLFW S [480, a, b, c] S' none → bx_Inv rxL S' → bx_same rxL (bx_mdl rxCLFW.2.2.1) S S' → rxILFL_5 S0 ws S' row1 cue s a b c ∧ rxmLFL_5 S0 ws S' row1 cue s a b c < rxmLFL_4 S0 ws S row1 cue s a b c := by
  obtain ⟨⟨ha, hb, hc⟩, hw, hy, ho, hp⟩ := hinv
  refine ⟨ho, fun S' hq I1 hsm => ?_⟩
  obtain ⟨-, ⟨-, ho2⟩, m9, r9, c9, hw9, hF⟩ := hq
  simp only [List.cons.injEq, and_true, true_and] at hw9
  obtain ⟨e1, e2, e3⟩ := hw9
  have h6 := rxN6 I0
  have e6 := hy.1
  have x := ldFx_of hsm (by decide +kernel) (by decide +kernel) I1 ho2
  have q := ldFy_F (by omega) hy hF
  rw [← e1, ← e2, ← e3, ha, hb, hc] at q
  exact ⟨⟨hw, ldFy_x hy x, ho2, hp, q.1, q.2⟩, by unfold rxmLFL_4 rxmLFL_5; omega⟩
theorem rxsLFL_4 {X : (Nat → Int → Int) → Prop} {S0 : Nat → Int → Int} {ws : List Int} (hP : rxPLFL S0 ws) : rx_obK X S0 rxCLFL.2.2.1 rxCLFW.2.2.1 (rxILFL S0 ws) (rxmLFL S0 ws) 4 5 rxzLFL_4 rxzLFL_5 [.inr (3, (0, 480)), .inr (0, (11, 0)), .inr (0, (12, 0)), .inr (0, (13, 0))] none rxPLFW rxPSLFW := by
  intro S r hinv hXS I0 hin hs_ hf_
  have b_ := bx_bds_sat hs_
  have f_ := bx_fcl_ok hs_.1 hf_
  obtain ⟨⟨l8, u8⟩, ⟨l9, u9⟩, ⟨l10, u10⟩, ⟨l11, u11⟩, ⟨l12, u12⟩, ⟨l13, u13⟩, -⟩ := b_
  have g := rxkLFL_4 hP hin I0 hinv l8 u8 l9 u9 l10 u10 l11 u11 l12 u12 l13 u13
  have ea : List.map (bx_num r) [.inr (3, (0, 480)), .inr (0, (11, 0)), .inr (0, (12, 0)), .inr (0, (13, 0))] = [480, (r 11), (r 12), (r 13)] := by
    simp only [List.map_cons, List.map_nil, bx_xv_ok hs_.1]
    rfl
  rw [ea]
  refine ⟨g.1, fun S' w r' hPS hX' I1 hsm hr hw hs' => ?_⟩
  have hw : w = none := hPS.1
  subst hw
  have g2 := g.2 S' hPS I1 hsm
  show rxILFL_5 S0 ws S' (r' 8) (r' 9) (r' 10) (r' 11) (r' 12) (r' 13) ∧ rxmLFL_5 S0 ws S' (r' 8) (r' 9) (r' 10) (r' 11) (r' 12) (r' 13) < _
  rw [hr 8 (by decide), hr 9 (by decide), hr 10 (by decide), hr 11 (by decide), hr 12 (by decide), hr 13 (by decide)]
  exact g2
theorem rxcLFL_0_0 {S0 : Nat → Int → Int} {ws : List Int} {S : Nat → Int → Int} {row1 cue : Int} (hP : rxPLFL S0 ws) (hin : bx_same rxL (bx_mdl rxCLFL.2.2.1) S0 S) (I0 : bx_Inv rxL S) (hinv : rxILFL_0 S0 ws S row1 cue) (l8 : 0 ≤ row1) (u8 : row1 ≤ 3) (l9 : 0 ≤ cue) (u9 : cue ≤ 5) : (True) ∧ (True) ∧ rxILFL_1 S0 ws S row1 cue ∧ rxmLFL_1 S0 ws S row1 cue < rxmLFL_0 S0 ws S row1 cue := by
  obtain ⟨rfl, hw⟩ := hinv
  exact ⟨trivial, trivial, ⟨rfl, hw⟩, by unfold rxmLFL_0 rxmLFL_1; omega⟩
theorem rxgLFL_0_0 {X : (Nat → Int → Int) → Prop} {S0 : Nat → Int → Int} {ws : List Int} (hP : rxPLFL S0 ws) : bx_obC rxL X S0 rxCLFL.2.2.1 (rxILFL S0 ws) (rxmLFL S0 ws) 0 rxzLFL_0 rxoLFL_0_0 := by
  intro S S' r r' hinv hX hin hsm_ hseg
  obtain ⟨I0, I1, h0_, hr_, b_, f_, d_⟩ := bx_cl (evs := []) (fvs := []) hseg (by decide +kernel) (by decide +kernel)
  have hinv : rxILFL_0 S0 ws S (r 8) (r 9) := hinv
  rw [← hr_ 8 (by decide), ← hr_ 9 (by decide)] at hinv
  obtain ⟨⟨l8, u8⟩, ⟨l9, u9⟩, -⟩ := b_
  have w_ := d_
  subst w_
  have g := rxcLFL_0_0 hP hin I0 hinv l8 u8 l9 u9
  refine ⟨bx_narP_ok (l := []) g.1, bx_nfP_ok h0_ (fvs := []) (by decide +kernel) g.2.1, ?_, ?_⟩
  · show rxILFL_1 S0 ws S' (bx_val [(0, 0), (0, 0), (0, 0), (0, 0), (0, 0), (0, 0), (0, 0), (0, 0), (8, 0), (9, 0)] r' 8) (bx_val [(0, 0), (0, 0), (0, 0), (0, 0), (0, 0), (0, 0), (0, 0), (0, 0), (8, 0), (9, 0)] r' 9)
    rw [bx_val_x (n := 8) (e := (8, 0)) h0_ rfl, bx_val_x (n := 9) (e := (9, 0)) h0_ rfl]
    exact g.2.2.1
  · show rxmLFL_1 S0 ws S' (bx_val [(0, 0), (0, 0), (0, 0), (0, 0), (0, 0), (0, 0), (0, 0), (0, 0), (8, 0), (9, 0)] r' 8) (bx_val [(0, 0), (0, 0), (0, 0), (0, 0), (0, 0), (0, 0), (0, 0), (0, 0), (8, 0), (9, 0)] r' 9) < rxmLFL_0 S0 ws S' (r 8) (r 9)
    rw [bx_val_x (n := 8) (e := (8, 0)) h0_ rfl, bx_val_x (n := 9) (e := (9, 0)) h0_ rfl, ← hr_ 8 (by decide), ← hr_ 9 (by decide)]
    exact g.2.2.2
theorem rxcLFL_2_0 {S0 : Nat → Int → Int} {ws : List Int} {S : Nat → Int → Int} {row1 cue : Int} (hP : rxPLFL S0 ws) (hin : bx_same rxL (bx_mdl rxCLFL.2.2.1) S0 S) (I0 : bx_Inv rxL S) (hinv : rxILFL_2 S0 ws S row1 cue) (l8 : 0 ≤ row1) (u8 : row1 ≤ 3) (l9 : 0 ≤ cue) (u9 : cue ≤ 5) : (True) ∧ (True) ∧ rxILFL_3 S0 ws S row1 cue 1 ∧ rxmLFL_3 S0 ws S row1 cue 1 < rxmLFL_2 S0 ws S row1 cue := by
  obtain ⟨hw, hy, ho⟩ := hinv
  exact ⟨trivial, trivial, ⟨hw, hy, ho, ⟨fun q => by omega, fun q => by omega, fun q => by omega⟩, fun q => by omega⟩, by unfold rxmLFL_2 rxmLFL_3; omega⟩
theorem rxgLFL_2_0 {X : (Nat → Int → Int) → Prop} {S0 : Nat → Int → Int} {ws : List Int} (hP : rxPLFL S0 ws) : bx_obC rxL X S0 rxCLFL.2.2.1 (rxILFL S0 ws) (rxmLFL S0 ws) 2 rxzLFL_2 rxoLFL_2_0 := by
  intro S S' r r' hinv hX hin hsm_ hseg
  obtain ⟨I0, I1, h0_, hr_, b_, f_, d_⟩ := bx_cl (evs := []) (fvs := []) hseg (by decide +kernel) (by decide +kernel)
  have hinv : rxILFL_2 S0 ws S (r 8) (r 9) := hinv
  rw [← hr_ 8 (by decide), ← hr_ 9 (by decide)] at hinv
  obtain ⟨⟨l8, u8⟩, ⟨l9, u9⟩, -⟩ := b_
  have w_ := d_
  subst w_
  have g := rxcLFL_2_0 hP hin I0 hinv l8 u8 l9 u9
  refine ⟨bx_narP_ok (l := []) g.1, bx_nfP_ok h0_ (fvs := []) (by decide +kernel) g.2.1, ?_, ?_⟩
  · show rxILFL_3 S0 ws S' (bx_val [(0, 0), (0, 0), (0, 0), (0, 0), (0, 0), (0, 0), (0, 0), (0, 0), (8, 0), (9, 0), (0, 1)] r' 8) (bx_val [(0, 0), (0, 0), (0, 0), (0, 0), (0, 0), (0, 0), (0, 0), (0, 0), (8, 0), (9, 0), (0, 1)] r' 9) (bx_val [(0, 0), (0, 0), (0, 0), (0, 0), (0, 0), (0, 0), (0, 0), (0, 0), (8, 0), (9, 0), (0, 1)] r' 10)
    rw [bx_val_x (n := 8) (e := (8, 0)) h0_ rfl, bx_val_x (n := 9) (e := (9, 0)) h0_ rfl, bx_val_x (n := 10) (e := (0, 1)) h0_ rfl]
    exact g.2.2.1
  · show rxmLFL_3 S0 ws S' (bx_val [(0, 0), (0, 0), (0, 0), (0, 0), (0, 0), (0, 0), (0, 0), (0, 0), (8, 0), (9, 0), (0, 1)] r' 8) (bx_val [(0, 0), (0, 0), (0, 0), (0, 0), (0, 0), (0, 0), (0, 0), (0, 0), (8, 0), (9, 0), (0, 1)] r' 9) (bx_val [(0, 0), (0, 0), (0, 0), (0, 0), (0, 0), (0, 0), (0, 0), (0, 0), (8, 0), (9, 0), (0, 1)] r' 10) < rxmLFL_2 S0 ws S' (r 8) (r 9)
    rw [bx_val_x (n := 8) (e := (8, 0)) h0_ rfl, bx_val_x (n := 9) (e := (9, 0)) h0_ rfl, bx_val_x (n := 10) (e := (0, 1)) h0_ rfl, ← hr_ 8 (by decide), ← hr_ 9 (by decide)]
    exact g.2.2.2
theorem rxcLFL_3_0 {S0 : Nat → Int → Int} {ws : List Int} {S : Nat → Int → Int} {row1 cue s : Int} (hP : rxPLFL S0 ws) (hin : bx_same rxL (bx_mdl rxCLFL.2.2.1) S0 S) (I0 : bx_Inv rxL S) (hinv : rxILFL_3 S0 ws S row1 cue s) (l8 : 0 ≤ row1) (u8 : row1 ≤ 3) (l9 : 0 ≤ cue) (u9 : cue ≤ 5) (l10 : 1 ≤ s) (u10 : s ≤ 3) : (True) ∧ (True) ∧ rxILFL_4 S0 ws S row1 cue s s row1 cue ∧ rxmLFL_4 S0 ws S row1 cue s s row1 cue < rxmLFL_3 S0 ws S row1 cue s := by
  obtain ⟨hw, hy, ho, hp, -⟩ := hinv
  exact ⟨by first | trivial | exact ⟨by omega, trivial⟩, trivial, ⟨⟨rfl, rfl, rfl⟩, hw, hy, ho, hp⟩, by unfold rxmLFL_3 rxmLFL_4; omega⟩
theorem rxgLFL_3_0 {X : (Nat → Int → Int) → Prop} {S0 : Nat → Int → Int} {ws : List Int} (hP : rxPLFL S0 ws) : bx_obC rxL X S0 rxCLFL.2.2.1 (rxILFL S0 ws) (rxmLFL S0 ws) 3 rxzLFL_3 rxoLFL_3_0 := by
  intro S S' r r' hinv hX hin hsm_ hseg
  obtain ⟨I0, I1, h0_, hr_, b_, f_, d_⟩ := bx_cl (evs := []) (fvs := []) hseg (by decide +kernel) (by decide +kernel)
  have hinv : rxILFL_3 S0 ws S (r 8) (r 9) (r 10) := hinv
  rw [← hr_ 8 (by decide), ← hr_ 9 (by decide), ← hr_ 10 (by decide)] at hinv
  obtain ⟨⟨l8, u8⟩, ⟨l9, u9⟩, ⟨l10, u10⟩, -⟩ := b_
  have w_ := d_
  subst w_
  have g := rxcLFL_3_0 hP hin I0 hinv l8 u8 l9 u9 l10 u10
  refine ⟨bx_narP_ok (l := []) g.1, bx_nfP_ok h0_ (fvs := []) (by decide +kernel) g.2.1, ?_, ?_⟩
  · show rxILFL_4 S0 ws S' (bx_val [(0, 0), (0, 0), (0, 0), (0, 0), (0, 0), (0, 0), (0, 0), (0, 0), (8, 0), (9, 0), (10, 0), (10, 0), (8, 0), (9, 0)] r' 8) (bx_val [(0, 0), (0, 0), (0, 0), (0, 0), (0, 0), (0, 0), (0, 0), (0, 0), (8, 0), (9, 0), (10, 0), (10, 0), (8, 0), (9, 0)] r' 9) (bx_val [(0, 0), (0, 0), (0, 0), (0, 0), (0, 0), (0, 0), (0, 0), (0, 0), (8, 0), (9, 0), (10, 0), (10, 0), (8, 0), (9, 0)] r' 10) (bx_val [(0, 0), (0, 0), (0, 0), (0, 0), (0, 0), (0, 0), (0, 0), (0, 0), (8, 0), (9, 0), (10, 0), (10, 0), (8, 0), (9, 0)] r' 11) (bx_val [(0, 0), (0, 0), (0, 0), (0, 0), (0, 0), (0, 0), (0, 0), (0, 0), (8, 0), (9, 0), (10, 0), (10, 0), (8, 0), (9, 0)] r' 12) (bx_val [(0, 0), (0, 0), (0, 0), (0, 0), (0, 0), (0, 0), (0, 0), (0, 0), (8, 0), (9, 0), (10, 0), (10, 0), (8, 0), (9, 0)] r' 13)
    rw [bx_val_x (n := 8) (e := (8, 0)) h0_ rfl, bx_val_x (n := 9) (e := (9, 0)) h0_ rfl, bx_val_x (n := 10) (e := (10, 0)) h0_ rfl, bx_val_x (n := 11) (e := (10, 0)) h0_ rfl, bx_val_x (n := 12) (e := (8, 0)) h0_ rfl, bx_val_x (n := 13) (e := (9, 0)) h0_ rfl]
    exact g.2.2.1
  · show rxmLFL_4 S0 ws S' (bx_val [(0, 0), (0, 0), (0, 0), (0, 0), (0, 0), (0, 0), (0, 0), (0, 0), (8, 0), (9, 0), (10, 0), (10, 0), (8, 0), (9, 0)] r' 8) (bx_val [(0, 0), (0, 0), (0, 0), (0, 0), (0, 0), (0, 0), (0, 0), (0, 0), (8, 0), (9, 0), (10, 0), (10, 0), (8, 0), (9, 0)] r' 9) (bx_val [(0, 0), (0, 0), (0, 0), (0, 0), (0, 0), (0, 0), (0, 0), (0, 0), (8, 0), (9, 0), (10, 0), (10, 0), (8, 0), (9, 0)] r' 10) (bx_val [(0, 0), (0, 0), (0, 0), (0, 0), (0, 0), (0, 0), (0, 0), (0, 0), (8, 0), (9, 0), (10, 0), (10, 0), (8, 0), (9, 0)] r' 11) (bx_val [(0, 0), (0, 0), (0, 0), (0, 0), (0, 0), (0, 0), (0, 0), (0, 0), (8, 0), (9, 0), (10, 0), (10, 0), (8, 0), (9, 0)] r' 12) (bx_val [(0, 0), (0, 0), (0, 0), (0, 0), (0, 0), (0, 0), (0, 0), (0, 0), (8, 0), (9, 0), (10, 0), (10, 0), (8, 0), (9, 0)] r' 13) < rxmLFL_3 S0 ws S' (r 8) (r 9) (r 10)
    rw [bx_val_x (n := 8) (e := (8, 0)) h0_ rfl, bx_val_x (n := 9) (e := (9, 0)) h0_ rfl, bx_val_x (n := 10) (e := (10, 0)) h0_ rfl, bx_val_x (n := 11) (e := (10, 0)) h0_ rfl, bx_val_x (n := 12) (e := (8, 0)) h0_ rfl, bx_val_x (n := 13) (e := (9, 0)) h0_ rfl, ← hr_ 8 (by decide), ← hr_ 9 (by decide), ← hr_ 10 (by decide)]
    exact g.2.2.2
theorem rxdLFL_3_0 {S0 : Nat → Int → Int} {ws : List Int} {S : Nat → Int → Int} {row1 cue s : Int} (hP : rxPLFL S0 ws) (hin : bx_same rxL (bx_mdl rxCLFL.2.2.1) S0 S) (hin2 : bx_same rxL (bx_mdl rxCLFL.2.2.1) S S) (I0 : bx_Inv rxL S) (I1 : bx_Inv rxL S) (hinv : rxILFL_3 S0 ws S row1 cue s) (l8 : 0 ≤ row1) (u8 : row1 ≤ 3) (l9 : 0 ≤ cue) (u9 : cue ≤ 5) (l10 : 4 ≤ s) (u10 : s ≤ 4) : (True) ∧ rxPSLFL S0 ws S (some ((-1))) := by
  obtain ⟨hw, hy, ho, ⟨h1, h2, h3⟩, h4⟩ := hinv
  exact ⟨trivial, row1, cue, _, hw, rfl, Or.inl ⟨rfl, h1 (by omega), h2 (by omega), h3 (by omega)⟩, fun _ => h4 (by omega), fun q => absurd rfl q⟩
theorem rxfLFL_3_0 {X : (Nat → Int → Int) → Prop} {S0 : Nat → Int → Int} {ws : List Int} (hP : rxPLFL S0 ws) : bx_obE rxL X S0 rxCLFL.2.2.1 (rxILFL S0 ws) (rxPSLFL S0 ws) 3 rxzLFL_3 rxeLFL_3_0 := by
  intro S S' r r' hinv hX hin hsm_ hseg
  obtain ⟨I0, I1, h0_, hr_, b_, f_, d_⟩ := bx_cl (evs := []) (fvs := []) hseg (by decide +kernel) (by decide +kernel)
  have hinv : rxILFL_3 S0 ws S (r 8) (r 9) (r 10) := hinv
  rw [← hr_ 8 (by decide), ← hr_ 9 (by decide), ← hr_ 10 (by decide)] at hinv
  obtain ⟨⟨l8, u8⟩, ⟨l9, u9⟩, ⟨l10, u10⟩, -⟩ := b_
  have w_ := d_
  subst w_
  have g := rxdLFL_3_0 hP hin hsm_ I0 I1 hinv l8 u8 l9 u9 l10 u10
  refine ⟨bx_narP_ok (l := []) g.1, ?_⟩
  show rxPSLFL S0 ws S' (some (bx_num r' (.inr (0, (0, (-1))))))
  rw [bx_xv_ok h0_]
  exact g.2
theorem rxcLFL_5_0 {S0 : Nat → Int → Int} {ws : List Int} {S : Nat → Int → Int} {row1 cue s a b c x14 : Int} (hP : rxPLFL S0 ws) (hin : bx_same rxL (bx_mdl rxCLFL.2.2.1) S0 S) (I0 : bx_Inv rxL S) (hinv : rxILFL_5 S0 ws S row1 cue s a b c) (l8 : 0 ≤ row1) (u8 : row1 ≤ 3) (l9 : 0 ≤ cue) (u9 : cue ≤ 5) (l10 : 1 ≤ s) (u10 : s ≤ 3) (l11 : 1 ≤ a) (u11 : a ≤ 3) (l12 : 0 ≤ b) (u12 : b ≤ 3) (l13 : 0 ≤ c) (u13 : c ≤ 5) (l14 : (-2147483648) ≤ x14) (u14 : x14 ≤ 0) (e0 : S 480 69 = x14) : (True) ∧ (True) ∧ rxILFL_3 S0 ws S row1 cue (s + 1) ∧ rxmLFL_3 S0 ws S row1 cue (s + 1) < rxmLFL_5 S0 ws S row1 cue s a b c := by
  obtain ⟨hw, hy, ho, ⟨h1, h2, h3⟩, h4, h5⟩ := hinv
  have hs : s = 1 ∨ s = 2 ∨ s = 3 := by omega
  refine ⟨trivial, trivial, ⟨hw, hy, ho, ⟨fun q => ?_, fun q => ?_, fun q => ?_⟩, fun q => by omega⟩, by unfold rxmLFL_5 rxmLFL_3; omega⟩
  · rcases hs with rfl | rfl | rfl
    · omega
    · exact h1 (by omega)
    · exact h1 (by omega)
  · rcases hs with rfl | rfl | rfl
    · omega
    · omega
    · exact h2 (by omega)
  · rcases hs with rfl | rfl | rfl <;> omega
theorem rxgLFL_5_0 {X : (Nat → Int → Int) → Prop} {S0 : Nat → Int → Int} {ws : List Int} (hP : rxPLFL S0 ws) : bx_obC rxL X S0 rxCLFL.2.2.1 (rxILFL S0 ws) (rxmLFL S0 ws) 5 rxzLFL_5 rxoLFL_5_0 := by
  intro S S' r r' hinv hX hin hsm_ hseg
  obtain ⟨I0, I1, h0_, hr_, b_, f_, d_⟩ := bx_cl (evs := [(0, (0, 480), (0, 69), .inr (0, (14, 0)))]) (fvs := []) hseg (by decide +kernel) (by decide +kernel)
  have hinv : rxILFL_5 S0 ws S (r 8) (r 9) (r 10) (r 11) (r 12) (r 13) := hinv
  rw [← hr_ 8 (by decide), ← hr_ 9 (by decide), ← hr_ 10 (by decide), ← hr_ 11 (by decide), ← hr_ 12 (by decide), ← hr_ 13 (by decide)] at hinv
  obtain ⟨⟨l8, u8⟩, ⟨l9, u9⟩, ⟨l10, u10⟩, ⟨l11, u11⟩, ⟨l12, u12⟩, ⟨l13, u13⟩, ⟨l14, u14⟩, -⟩ := b_
  obtain ⟨e0, w_⟩ := d_
  subst w_
  have g := rxcLFL_5_0 hP hin I0 hinv l8 u8 l9 u9 l10 u10 l11 u11 l12 u12 l13 u13 l14 u14 e0
  refine ⟨bx_narP_ok (l := []) g.1, bx_nfP_ok h0_ (fvs := []) (by decide +kernel) g.2.1, ?_, ?_⟩
  · show rxILFL_3 S0 ws S' (bx_val [(0, 0), (0, 0), (0, 0), (0, 0), (0, 0), (0, 0), (0, 0), (0, 0), (8, 0), (9, 0), (10, 1)] r' 8) (bx_val [(0, 0), (0, 0), (0, 0), (0, 0), (0, 0), (0, 0), (0, 0), (0, 0), (8, 0), (9, 0), (10, 1)] r' 9) (bx_val [(0, 0), (0, 0), (0, 0), (0, 0), (0, 0), (0, 0), (0, 0), (0, 0), (8, 0), (9, 0), (10, 1)] r' 10)
    rw [bx_val_x (n := 8) (e := (8, 0)) h0_ rfl, bx_val_x (n := 9) (e := (9, 0)) h0_ rfl, bx_val_x (n := 10) (e := (10, 1)) h0_ rfl]
    exact g.2.2.1
  · show rxmLFL_3 S0 ws S' (bx_val [(0, 0), (0, 0), (0, 0), (0, 0), (0, 0), (0, 0), (0, 0), (0, 0), (8, 0), (9, 0), (10, 1)] r' 8) (bx_val [(0, 0), (0, 0), (0, 0), (0, 0), (0, 0), (0, 0), (0, 0), (0, 0), (8, 0), (9, 0), (10, 1)] r' 9) (bx_val [(0, 0), (0, 0), (0, 0), (0, 0), (0, 0), (0, 0), (0, 0), (0, 0), (8, 0), (9, 0), (10, 1)] r' 10) < rxmLFL_5 S0 ws S' (r 8) (r 9) (r 10) (r 11) (r 12) (r 13)
    rw [bx_val_x (n := 8) (e := (8, 0)) h0_ rfl, bx_val_x (n := 9) (e := (9, 0)) h0_ rfl, bx_val_x (n := 10) (e := (10, 1)) h0_ rfl, ← hr_ 8 (by decide), ← hr_ 9 (by decide), ← hr_ 10 (by decide), ← hr_ 11 (by decide), ← hr_ 12 (by decide), ← hr_ 13 (by decide)]
    exact g.2.2.2
theorem rxdLFL_5_0 {S0 : Nat → Int → Int} {ws : List Int} {S : Nat → Int → Int} {row1 cue s a b c x14 : Int} (hP : rxPLFL S0 ws) (hin : bx_same rxL (bx_mdl rxCLFL.2.2.1) S0 S) (hin2 : bx_same rxL (bx_mdl rxCLFL.2.2.1) S S) (I0 : bx_Inv rxL S) (I1 : bx_Inv rxL S) (hinv : rxILFL_5 S0 ws S row1 cue s a b c) (l8 : 0 ≤ row1) (u8 : row1 ≤ 3) (l9 : 0 ≤ cue) (u9 : cue ≤ 5) (l10 : 1 ≤ s) (u10 : s ≤ 3) (l11 : 1 ≤ a) (u11 : a ≤ 3) (l12 : 0 ≤ b) (u12 : b ≤ 3) (l13 : 0 ≤ c) (u13 : c ≤ 5) (l14 : 1 ≤ x14) (u14 : x14 ≤ 2147483647) (e0 : S 480 69 = x14) : (True) ∧ rxPSLFL S0 ws S (some s) := by
  obtain ⟨hw, hy, ho, ⟨h1, h2, h3⟩, h4, h5⟩ := hinv
  refine ⟨trivial, row1, cue, _, hw, rfl, ?_, fun q => by omega, fun _ => ⟨h4, h5⟩⟩
  have hs : s = 1 ∨ s = 2 ∨ s = 3 := by omega
  rcases hs with rfl | rfl | rfl
  · exact Or.inr (Or.inl ⟨rfl, by omega⟩)
  · exact Or.inr (Or.inr (Or.inl ⟨rfl, h1 (by omega), by omega⟩))
  · exact Or.inr (Or.inr (Or.inr ⟨rfl, h1 (by omega), h2 (by omega), by omega⟩))
theorem rxfLFL_5_0 {X : (Nat → Int → Int) → Prop} {S0 : Nat → Int → Int} {ws : List Int} (hP : rxPLFL S0 ws) : bx_obE rxL X S0 rxCLFL.2.2.1 (rxILFL S0 ws) (rxPSLFL S0 ws) 5 rxzLFL_5 rxeLFL_5_0 := by
  intro S S' r r' hinv hX hin hsm_ hseg
  obtain ⟨I0, I1, h0_, hr_, b_, f_, d_⟩ := bx_cl (evs := [(0, (0, 480), (0, 69), .inr (0, (14, 0)))]) (fvs := []) hseg (by decide +kernel) (by decide +kernel)
  have hinv : rxILFL_5 S0 ws S (r 8) (r 9) (r 10) (r 11) (r 12) (r 13) := hinv
  rw [← hr_ 8 (by decide), ← hr_ 9 (by decide), ← hr_ 10 (by decide), ← hr_ 11 (by decide), ← hr_ 12 (by decide), ← hr_ 13 (by decide)] at hinv
  obtain ⟨⟨l8, u8⟩, ⟨l9, u9⟩, ⟨l10, u10⟩, ⟨l11, u11⟩, ⟨l12, u12⟩, ⟨l13, u13⟩, ⟨l14, u14⟩, -⟩ := b_
  obtain ⟨e0, w_⟩ := d_
  subst w_
  have g := rxdLFL_5_0 hP hin hsm_ I0 I1 hinv l8 u8 l9 u9 l10 u10 l11 u11 l12 u12 l13 u13 l14 u14 e0
  refine ⟨bx_narP_ok (l := []) g.1, ?_⟩
  show rxPSLFL S0 ws S' (some (bx_num r' (.inr (0, (10, 0)))))
  rw [bx_xv_ok h0_]
  exact g.2
theorem rxgCLFL {X : (Nat → Int → Int) → Prop} {S0 : Nat → Int → Int} {ws : List Int} (hP : rxPLFL S0 ws) : bx_allI (fun i q => rxULFL q = true ∨ bx_allP (fun o => bx_obC rxL X S0 rxCLFL.2.2.1 (rxILFL S0 ws) (rxmLFL S0 ws) i q.1 o) q.2.1) 0 rxYLFL := ⟨Or.inr ⟨rxgLFL_0_0 hP, trivial⟩, Or.inl rfl, Or.inr ⟨rxgLFL_2_0 hP, trivial⟩, Or.inr ⟨rxgLFL_3_0 hP, trivial⟩, Or.inl rfl, Or.inr ⟨rxgLFL_5_0 hP, trivial⟩, trivial⟩
theorem rxgELFL {X : (Nat → Int → Int) → Prop} {S0 : Nat → Int → Int} {ws : List Int} (hP : rxPLFL S0 ws) : bx_allI (fun i q => rxULFL q = true ∨ bx_allP (fun E => bx_obE rxL X S0 rxCLFL.2.2.1 (rxILFL S0 ws) (rxPSLFL S0 ws) i q.1 E) q.2.2) 0 rxYLFL := ⟨Or.inr trivial, Or.inl rfl, Or.inr trivial, Or.inr ⟨rxfLFL_3_0 hP, trivial⟩, Or.inl rfl, Or.inr ⟨rxfLFL_5_0 hP, trivial⟩, trivial⟩
theorem rxuLFL {PX : State → Prop} {Dg : va_G} {A : Nat → Prop} {ad xa : Nat → Nat} {l : Launch} {X : (Nat → Int → Int) → Prop} (hPX : rx_PXOK rxNW A PX) (hX : ∀ S S1 : Nat → Int → Int, X S → bx_same rxL (bx_mdl rxCLFL.2.2.1) S S1 → X S1) (hQLFO : bx_ConP rxG rxNW rxAO PX Dg rxL X vwCl A ad l rxM322 rxCLFO rxPLFO rxPSLFO) (hQLFW : bx_ConP rxG rxNW rxAO PX Dg rxL X vwCl A ad l rxM323 rxCLFW rxPLFW rxPSLFW) {S0 : Nat → Int → Int} {ws : List Int} (hP : rxPLFL S0 ws) : ∀ (i : Nat) (q : bx_HE), rxYLFL[i]? = some q → rxULFL q = true → ∀ {p : Program} {e : Env} {R : Room} {s : State} {m : MethodId} {args : Array Value} {below : List Frame} {meth : Method} {c : Code} {Q : State → Prop} {H0 : Heap}, rx_Fr rxG rxNW rxAO PX p s m args meth c rxM324 → (∀ q, H0.size ≤ q → A q) → H0 = s.heap → rxM324.2.2.2.2.2.2.1 ≤ R.cells → rxM324.2.2.2.2.2.2.2 ≤ R.slots → rxCLFL.2.2.2.1 ≤ R.frames → rxCLFL.2.2.2.1 * 40 ≤ R.locals → bx_Step p l e R s m args below meth c Q Dg rxL X vwCl A xa H0 ad rxM324 rxYLFL (rxILFL S0 ws) (rxmLFL S0 ws) S0 rxCLFL.2.2.1 i q := by
  intro i q hq hus p e R s m args below meth c Q H0 hF hA hH0 hmc hms hd hdl
  match i, hq with
  | 0, hq =>
    cases hq
    exact absurd (show false = true from hus) Bool.false_ne_true
  | 1, hq =>
    cases hq
    exact rx_stepC (ins := .invokevirtual 595) (len := 3) (i' := 2) (M' := rxM322) (d := rxCLFL.2.2.2.1) (as := [.inr (3, (0, 480))]) (t := []) (ct := rxCLFO) hPX hF rfl hA hH0 hmc hms hd hdl (by decide +kernel) rfl rfl (by decide +kernel) (by decide +kernel) hQLFO (by decide +kernel) rfl (Or.inl ⟨rfl, rfl, rfl⟩) (rxsLFL_1 hP)
  | 2, hq =>
    cases hq
    exact absurd (show false = true from hus) Bool.false_ne_true
  | 3, hq =>
    cases hq
    exact absurd (show false = true from hus) Bool.false_ne_true
  | 4, hq =>
    cases hq
    exact rx_stepC (ins := .invokevirtual 598) (len := 3) (i' := 5) (M' := rxM323) (d := rxCLFL.2.2.2.1) (as := [.inr (3, (0, 480)), .inr (0, (11, 0)), .inr (0, (12, 0)), .inr (0, (13, 0))]) (t := []) (ct := rxCLFW) hPX hF rfl hA hH0 hmc hms hd hdl (by decide +kernel) rfl rfl (by decide +kernel) (by decide +kernel) hQLFW (by decide +kernel) rfl (Or.inl ⟨rfl, rfl, rfl⟩) (rxsLFL_4 hP)
  | 5, hq =>
    cases hq
    exact absurd (show false = true from hus) Bool.false_ne_true
  | n + 6, hq => cases hq
theorem rxQLFL {PX : State → Prop} {Dg : va_G} {A : Nat → Prop} {ad xa : Nat → Nat} {l : Launch} {X : (Nat → Int → Int) → Prop} (hPX : rx_PXOK rxNW A PX) (hsl : ∀ s : State, PX s → ∀ o idx n : Nat, rxSl o idx = some n → ∃ tx : String, vk_R (rxNm o) idx tx (ad n) s)
    (hX : ∀ S S' : Nat → Int → Int, X S → bx_same rxL (bx_mdl rxCLFL.2.2.1) S S' → X S')
    (ih : ∀ (j2 : Nat) (ct2 : bx_Ct) (M2 : rx_Mt), ct2 ∈ rxCnE j2 → ct2.2.2.2.1 + 1 ≤ rxCLFL.2.2.2.1 → rxT.2.2.2.2.2 j2 = some M2 → bx_Con rxG rxNW rxAO PX Dg rxL X vwCl A ad l M2 ct2) (hQLFO : bx_ConP rxG rxNW rxAO PX Dg rxL X vwCl A ad l rxM322 rxCLFO rxPLFO rxPSLFO) (hQLFW : bx_ConP rxG rxNW rxAO PX Dg rxL X vwCl A ad l rxM323 rxCLFW rxPLFW rxPSLFW) : bx_ConP rxG rxNW rxAO PX Dg rxL X vwCl A ad l rxM324 rxCLFL rxPLFL rxPSLFL :=
  rxQof (xa := xa) (Cn := rxCnE) (f := 30000) (j := 324) (tab := rxYLFL) (us := rxULFL) hPX hsl hX ih rfl rxYcLFL rxILFL rxmLFL
    (fun S0 ws r I0 I ht0 ht as he he1 hX0 hI0 hP hs ha => by
      have e := he.symm.trans (show bx_ent0 rxNP rxCLFL.1 bx_I0 [] = some ([(0, 0), (0, 0), (0, 0), (0, 0), (0, 0), (0, 0), (0, 0), (0, 0), (0, 3), (0, 5)], [], [.inr (3, (0, 480)), .inr (0, (8, 0)), .inr (0, (9, 0))]) from rfl)
      cases e
      subst ha
      have h0 : r 0 = 0 := hs.1
      show rxILFL_0 S0 _ S0 (r 8) (r 9)
      refine ⟨rfl, ?_⟩
      simp only [List.map_cons, List.map_nil, bx_xv_ok h0]
      rfl)
    (fun S0 ws hP => rxuLFL (xa := xa) hPX hX hQLFO hQLFW hP) (fun S0 ws hP => rxgCLFL hP) (fun S0 ws hP => rxgELFL hP)
