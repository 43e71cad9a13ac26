/-! LEAST: what is answered -/
def ldAl (n : Int) (r c w : Int → Int) (what v : Int) : Prop := (what < 0 ∨ 1 < what → v = -1) ∧ (what = 0 → ldW (ldN n r c w) v) ∧ (what = 1 → ∃ z : Int, ldW (ldN n r c w) z ∧ v = if z < 0 then 0 else ((ldN n r c w z : Nat) : Int))
def ldAw (n : Int) (r c w : Int → Int) (row cue v : Int) : Prop := (¬ (0 ≤ row ∧ row < 4 ∧ 0 ≤ cue ∧ cue < 6) → v = -1) ∧ ((0 ≤ row ∧ row < 4 ∧ 0 ≤ cue ∧ cue < 6) → ∃ z x : Int, ldW (ldN n r c w) x ∧ ldZ n (ldt n (ldF (ldQ (ldt n r) n.toNat 4) r)) row z ∧ v = if x < 0 then -1 else ((ldU n r c w x cue z : Nat) : Int))
theorem ldAl_eq {n : Int} {r c w : Int → Int} {what v v' : Int} (h : ldAl n r c w what v) (h' : ldAl n r c w what v') : v = v' := by
  obtain ⟨a1, a2, a3⟩ := h
  obtain ⟨b1, b2, b3⟩ := h'
  rcases (show (what < 0 ∨ 1 < what) ∨ what = 0 ∨ what = 1 by omega) with q | q | q
  · rw [a1 q, b1 q]
  · exact ldW_eq (a2 q) (b2 q)
  · obtain ⟨z, c1, c2⟩ := a3 q
    obtain ⟨z', d1, d2⟩ := b3 q
    rw [c2, d2, ldW_eq c1 d1]
theorem ldAw_eq {n : Int} {r c w : Int → Int} {row cue v v' : Int} (h : ldAw n r c w row cue v) (h' : ldAw n r c w row cue v') : v = v' := by
  obtain ⟨a1, a2⟩ := h
  obtain ⟨b1, b2⟩ := h'
  by_cases q : 0 ≤ row ∧ row < 4 ∧ 0 ≤ cue ∧ cue < 6
  · obtain ⟨z, x, c1, c2, c3⟩ := a2 q
    obtain ⟨z', x', d1, d2, d3⟩ := b2 q
    rw [c3, d3, ldW_eq c1 d1, ldZ_eq c2 d2]
  · rw [a1 q, b1 q]
theorem ldAl_cg {n : Int} {r c w r' c' w' : Int → Int} {what v : Int} (hr : ∀ j : Int, 0 ≤ j → j < n → r j = r' j) (hc : ∀ j : Int, 0 ≤ j → j < n → c j = c' j) (hw : ∀ j : Int, 0 ≤ j → j < n → w j = w' j) (h : ldAl n r c w what v) : ldAl n r' c' w' what v := by
  have e : ldN n r c w = ldN n r' c' w' := funext fun m => ldN_cg hr hc hw
  unfold ldAl at h ⊢
  rw [← e]
  exact h
theorem ldAw_cg {n : Int} {r c w r' c' w' : Int → Int} {row cue v : Int} (hr : ∀ j : Int, 0 ≤ j → j < n → r j = r' j) (hc : ∀ j : Int, 0 ≤ j → j < n → c j = c' j) (hw : ∀ j : Int, 0 ≤ j → j < n → w j = w' j) (h : ldAw n r c w row cue v) : ldAw n r' c' w' row cue v := by
  have e : ldN n r c w = ldN n r' c' w' := funext fun m => ldN_cg hr hc hw
  refine ⟨h.1, fun q => ?_⟩
  obtain ⟨z, x, c1, c2, c3⟩ := h.2 q
  rw [e] at c1
  rw [ldt_cg hr, ldF_cg hr] at c2
  rw [ldU_cg hr hc hw] at c3
  exact ⟨z, x, c1, c2, c3⟩
theorem ldNs_N {S0 S : Nat → Int → Int} {m : Int} (hr : ∀ j : Int, 0 ≤ j → j < S0 14 0 → 0 ≤ S0 15 j ∧ S0 15 j < 4) (h0 : 0 ≤ S0 14 0) (h : ldLy S0 S (ldLq (S0 14 0) (S0 15) 4)) : ldNs S m = ldN (S0 14 0) (S0 15) (S0 16) (S0 17) m := by
  obtain ⟨a0, a2, a3, a4⟩ := ldLy_D hr h0 h
  unfold ldNs
  rw [a2, a3, a4, a0]
  rfl
theorem ldDm_D {S0 S : Nat → Int → Int} {m row cue : Int} (hr : ∀ j : Int, 0 ≤ j → j < S0 14 0 → 0 ≤ S0 15 j ∧ S0 15 j < 4) (h0 : 0 ≤ S0 14 0) (h : ldLy S0 S (ldLq (S0 14 0) (S0 15) 4)) (q0 : 0 ≤ row) (q4 : row < 4) : ((ldB 0 (ldA (ldDm S m row cue)) : Nat) : Int) = ((ldU (S0 14 0) (S0 15) (S0 16) (S0 17) m cue (S 455 row) : Nat) : Int) := by
  obtain ⟨a0, a2, a3, a4⟩ := ldLy_D hr h0 h
  unfold ldDm
  rw [a2, a3, a4, a0, ldt_at q0 q4]
  rfl
theorem ldZ_cg {n row z : Int} {R R' : Int → Int} (h : ldZ n R row z) (hR : ∀ i : Int, 0 ≤ i → i < n → R' i = R i) : ldZ n R' row z := by
  rcases h with ⟨a1, a2⟩ | ⟨a1, a2, a3, a4⟩
  · exact Or.inl ⟨a1, fun i b c => by rw [hR i b c]; exact a2 i b c⟩
  · exact Or.inr ⟨a1, a2, by rw [hR z a1 a2]; exact a3, fun i b c => by rw [hR i (by omega) c]; exact a4 i b c⟩
theorem ldLr_Z {S0 S : Nat → Int → Int} {row : Int} (hr : ∀ j : Int, 0 ≤ j → j < S0 14 0 → 0 ≤ S0 15 j ∧ S0 15 j < 4) (h0 : 0 ≤ S0 14 0) (h : ldLy S0 S (ldLq (S0 14 0) (S0 15) 4)) (hR : ldLr S 4) (q0 : 0 ≤ row) (q4 : row < 4) : ldZ (S0 14 0) (ldt (S0 14 0) (ldF (ldQ (ldt (S0 14 0) (S0 15)) (S0 14 0).toNat 4) (S0 15))) row (S 455 row) := by
  obtain ⟨a0, a2, a3, a4⟩ := ldLy_D hr h0 h
  have z := hR row q0 q4
  have a2 : ldt (S 451 0) (S 452) = ldt (S0 14 0) (ldF (ldQ (ldt (S0 14 0) (S0 15)) (S0 14 0).toNat 4) (S0 15)) := a2
  rw [← a2, ← a0]
  exact ldZ_cg z fun i b c => ldt_at b c
/-! CONTRACT BY HAND, by program (wip/sim/genhand.py): DeadUnderstudies.least -/
def rxILLE_0 (S0 : Nat → Int → Int) (ws : List Int) (S : Nat → Int → Int) (what : Int) : Prop := S = S0 ∧ ws = [0, what]
def rxmLLE_0 (S0 : Nat → Int → Int) (ws : List Int) (S : Nat → Int → Int) (what : Int) : Nat := 100
def rxzLLE_0 : rx_Z := ([(0, 0), (0, 0), (0, 0), (0, 0), (0, 0), (0, 0), (0, 0), (0, 0), ((-2147483648), 2147483647)], [], [], 0, 0, 0, [(0, .inr (3, (0, 0))), (1, .inr (0, (8, 0)))], [])
def rxILLE_1 (S0 : Nat → Int → Int) (ws : List Int) (S : Nat → Int → Int) (wh : Int) : Prop := S = S0 ∧ ws = [0, wh]
def rxmLLE_1 (S0 : Nat → Int → Int) (ws : List Int) (S : Nat → Int → Int) (wh : Int) : Nat := 90
def rxzLLE_1 : rx_Z := ([(0, 0), (0, 0), (0, 0), (0, 0), (0, 0), (0, 0), (0, 0), (0, 0), (0, 1)], [], [], 0, 0, 22, [(0, .inr (3, (0, 0))), (1, .inr (0, (8, 0)))], [.inr (3, (0, 14)), .inr (3, (0, 451))])
def rxILLE_2 (S0 : Nat → Int → Int) (ws : List Int) (S : Nat → Int → Int) (wh : Int) : Prop := ws = [0, wh] ∧ (∀ m : Int, ldNs S m = ldN (S0 14 0) (S0 15) (S0 16) (S0 17) m)
def rxmLLE_2 (S0 : Nat → Int → Int) (ws : List Int) (S : Nat → Int → Int) (wh : Int) : Nat := 80
def rxzLLE_2 : rx_Z := ([(0, 0), (0, 0), (0, 0), (0, 0), (0, 0), (0, 0), (0, 0), (0, 0), (0, 1)], [], [], 0, 0, 25, [(0, .inr (3, (0, 0))), (1, .inr (0, (8, 0)))], [])
def rxILLE_3 (S0 : Nat → Int → Int) (ws : List Int) (S : Nat → Int → Int) (wh : Int) : Prop := ws = [0, wh] ∧ (∀ m : Int, ldNs S m = ldN (S0 14 0) (S0 15) (S0 16) (S0 17) m)
def rxmLLE_3 (S0 : Nat → Int → Int) (ws : List Int) (S : Nat → Int → Int) (wh : Int) : Nat := 70
def rxzLLE_3 : rx_Z := ([(0, 0), (0, 0), (0, 0), (0, 0), (0, 0), (0, 0), (0, 0), (0, 0), (0, 1)], [], [], 0, 0, 29, [(0, .inr (3, (0, 0))), (1, .inr (0, (8, 0)))], [.inr (3, (0, 451))])
def rxILLE_4 (S0 : Nat → Int → Int) (ws : List Int) (S : Nat → Int → Int) (wh z : Int) : Prop := ws = [0, wh] ∧ (∀ m : Int, ldNs S m = ldN (S0 14 0) (S0 15) (S0 16) (S0 17) m) ∧ ldW (ldN (S0 14 0) (S0 15) (S0 16) (S0 17)) z
def rxmLLE_4 (S0 : Nat → Int → Int) (ws : List Int) (S : Nat → Int → Int) (wh z : Int) : Nat := 60
def rxzLLE_4 : rx_Z := ([(0, 0), (0, 0), (0, 0), (0, 0), (0, 0), (0, 0), (0, 0), (0, 0), (0, 1), ((-1), 3)], [], [], 0, 0, 32, [(0, .inr (3, (0, 0))), (1, .inr (0, (8, 0)))], [.inr (0, (9, 0))])
def rxILLE_5 (S0 : Nat → Int → Int) (ws : List Int) (S : Nat → Int → Int) (wh z m : Int) : Prop := m = z ∧ ws = [0, wh] ∧ (∀ m : Int, ldNs S m = ldN (S0 14 0) (S0 15) (S0 16) (S0 17) m) ∧ ldW (ldN (S0 14 0) (S0 15) (S0 16) (S0 17)) z
def rxmLLE_5 (S0 : Nat → Int → Int) (ws : List Int) (S : Nat → Int → Int) (wh z m : Int) : Nat := 50
def rxzLLE_5 : rx_Z := ([(0, 0), (0, 0), (0, 0), (0, 0), (0, 0), (0, 0), (0, 0), (0, 0), (1, 1), (1, 3), (1, 3)], [], [], 0, 0, 52, [(0, .inr (3, (0, 0))), (1, .inr (0, (8, 0))), (2, .inr (0, (9, 0)))], [.inr (0, (10, 0)), .inr (3, (0, 451))])
def rxILLE_6 (S0 : Nat → Int → Int) (ws : List Int) (S : Nat → Int → Int) (wh z m v : Int) : Prop := ws = [0, wh] ∧ ldW (ldN (S0 14 0) (S0 15) (S0 16) (S0 17)) z ∧ v = (ldN (S0 14 0) (S0 15) (S0 16) (S0 17) z : Nat)
def rxmLLE_6 (S0 : Nat → Int → Int) (ws : List Int) (S : Nat → Int → Int) (wh z m v : Int) : Nat := 40
def rxzLLE_6 : rx_Z := ([(0, 0), (0, 0), (0, 0), (0, 0), (0, 0), (0, 0), (0, 0), (0, 0), (1, 1), (1, 3), (1, 3), ((-2147483648), 2147483647)], [], [], 0, 0, 55, [(0, .inr (3, (0, 0))), (1, .inr (0, (8, 0))), (2, .inr (0, (9, 0)))], [.inr (0, (11, 0))])
def rxoLLE_0_0 : bx_HO := (([(0, 0), (0, 0), (0, 0), (0, 0), (0, 0), (0, 0), (0, 0), (0, 0), (0, 1)], [], [(((0, 1), 12), .inr (3, (0, 14))), (((0, 0), 0), .inr (3, (0, 1))), (((0, 0), 12), .inr (3, (0, 451)))], 0, 0, 22, [(0, .inr (3, (0, 0))), (1, .inr (0, (8, 0)))], [.inr (3, (0, 14)), .inr (3, (0, 451))]), [], [], [(0, 0), (0, 0), (0, 0), (0, 0), (0, 0), (0, 0), (0, 0), (0, 0), (8, 0)], 1)
def rxeLLE_0_0 : rx_End × List (Nat × Int × Int) := (([(0, 0), (0, 0), (0, 0), (0, 0), (0, 0), (0, 0), (0, 0), (0, 0), (2, 2147483647)], [], [], some (.inr (0, (0, (-1))))), [])
def rxeLLE_0_1 : rx_End × List (Nat × Int × Int) := (([(0, 0), (0, 0), (0, 0), (0, 0), (0, 0), (0, 0), (0, 0), (0, 0), ((-2147483648), (-1))], [], [], some (.inr (0, (0, (-1))))), [])
def rxoLLE_2_0 : bx_HO := (([(0, 0), (0, 0), (0, 0), (0, 0), (0, 0), (0, 0), (0, 0), (0, 0), (0, 1)], [], [(((0, 0), 12), .inr (3, (0, 451)))], 0, 0, 29, [(0, .inr (3, (0, 0))), (1, .inr (0, (8, 0)))], [.inr (3, (0, 451))]), [], [], [(0, 0), (0, 0), (0, 0), (0, 0), (0, 0), (0, 0), (0, 0), (0, 0), (8, 0)], 3)
def rxoLLE_4_0 : bx_HO := (([(0, 0), (0, 0), (0, 0), (0, 0), (0, 0), (0, 0), (0, 0), (0, 0), (1, 1), (0, 3)], [(3, (8, 0), (0, 0))], [(((0, 0), 12), .inr (3, (0, 451)))], 0, 0, 52, [(2, .inr (0, (9, 0))), (0, .inr (3, (0, 0))), (1, .inr (0, (8, 0)))], [.inr (0, (9, 0)), .inr (3, (0, 451))]), [(9, 1, 3), (9, 1, 3)], [], [(0, 0), (0, 0), (0, 0), (0, 0), (0, 0), (0, 0), (0, 0), (0, 0), (8, 0), (9, 0), (9, 0)], 5)
def rxeLLE_4_0 : rx_End × List (Nat × Int × Int) := (([(0, 0), (0, 0), (0, 0), (0, 0), (0, 0), (0, 0), (0, 0), (0, 0), (0, 0), ((-1), 3)], [], [], some (.inr (0, (9, 0)))), [])
def rxeLLE_4_1 : rx_End × List (Nat × Int × Int) := (([(0, 0), (0, 0), (0, 0), (0, 0), (0, 0), (0, 0), (0, 0), (0, 0), (1, 1), ((-1), (-1))], [(3, (8, 0), (0, 0))], [], some (.inr (0, (0, 0)))), [])
def rxeLLE_6_0 : rx_End × List (Nat × Int × Int) := (([(0, 0), (0, 0), (0, 0), (0, 0), (0, 0), (0, 0), (0, 0), (0, 0), (1, 1), (1, 3), (1, 3), ((-2147483648), 2147483647)], [], [], some (.inr (0, (11, 0)))), [])
def rxYLLE : List bx_HE := [(rxzLLE_0, [rxoLLE_0_0], [rxeLLE_0_0, rxeLLE_0_1]), (rxzLLE_1, [], []), (rxzLLE_2, [rxoLLE_2_0], []), (rxzLLE_3, [], []), (rxzLLE_4, [rxoLLE_4_0], [rxeLLE_4_0, rxeLLE_4_1]), (rxzLLE_5, [], []), (rxzLLE_6, [], [rxeLLE_6_0])]
def rxULLE (q : bx_HE) : Bool := Nat.beq (rx_zpc q.1) 22 || Nat.beq (rx_zpc q.1) 29 || Nat.beq (rx_zpc q.1) 52
def rxYBLLE : bx_B := (rxV, rxNP, rxDmf, bx_mdH rxC200.2.2.1)
set_option maxRecDepth 100000 in
theorem rxYcLLE : bx_chkH rxYBLLE rxM200 rxC200 rxYLLE (rxULLE, fun cut z => rx_ex2 (rxCT rxYBLLE rxCnE) cut 30000 rxC200.2.2.2.1 200 z) = true := by decide +kernel
def rxILLE (S0 : Nat → Int → Int) (ws : List Int) (i : Nat) : bx_SP := fun S r => match i with | 0 => rxILLE_0 S0 ws S (r 8) | 1 => rxILLE_1 S0 ws S (r 8) | 2 => rxILLE_2 S0 ws S (r 8) | 3 => rxILLE_3 S0 ws S (r 8) | 4 => rxILLE_4 S0 ws S (r 8) (r 9) | 5 => rxILLE_5 S0 ws S (r 8) (r 9) (r 10) | 6 => rxILLE_6 S0 ws S (r 8) (r 9) (r 10) (r 11) | _ => False
def rxmLLE (S0 : Nat → Int → Int) (ws : List Int) (i : Nat) (S : Nat → Int → Int) (r : Nat → Int) : Nat := match i with | 0 => rxmLLE_0 S0 ws S (r 8) | 1 => rxmLLE_1 S0 ws S (r 8) | 2 => rxmLLE_2 S0 ws S (r 8) | 3 => rxmLLE_3 S0 ws S (r 8) | 4 => rxmLLE_4 S0 ws S (r 8) (r 9) | 5 => rxmLLE_5 S0 ws S (r 8) (r 9) (r 10) | 6 => rxmLLE_6 S0 ws S (r 8) (r 9) (r 10) (r 11) | _ => 0
def rxPLLE (S0 : Nat → Int → Int) (ws : List Int) : Prop := True
def rxPSLLE (S0 : Nat → Int → Int) (ws : List Int) (S : Nat → Int → Int) (w : Option Int) : Prop := ∃ what v : Int, ws = [0, what] ∧ w = some v ∧ ldAl (S0 14 0) (S0 15) (S0 16) (S0 17) what v
theorem rxkLLE_1 {S0 : Nat → Int → Int} {ws : List Int} {S : Nat → Int → Int} {wh : Int} (hP : rxPLLE S0 ws) (hin : bx_same rxL (bx_mdl rxC200.2.2.1) S0 S) (I0 : bx_Inv rxL S) (hinv : rxILLE_1 S0 ws S wh) (l8 : 0 ≤ wh) (u8 : wh ≤ 1) : rxPLLY S [451, 14] ∧ ∀ (S' : Nat → Int → Int), rxPSLLY S [451, 14] S' none → bx_Inv rxL S' → bx_same rxL (bx_mdl rxCLLY.2.2.1) S S' → rxILLE_2 S0 ws S' wh ∧ rxmLLE_2 S0 ws S' wh < rxmLLE_1 S0 ws S wh := by
  obtain ⟨h1, hw⟩ := hinv
  subst h1
  have hb := ld14 I0
  have hr : ∀ j : Int, 0 ≤ j → j < S 14 0 → 0 ≤ S 15 j ∧ S 15 j < 4 := fun j a b => by
    have q := ld15 I0 (j := j) a (by omega)
    omega
  exact ⟨trivial, fun S' hq I1 hsm => ⟨⟨hw, fun m => ldNs_N hr hb.1 hq.2.1⟩, by unfold rxmLLE_1 rxmLLE_2; omega⟩⟩
theorem rxsLLE_1 {X : (Nat → Int → Int) → Prop} {S0 : Nat → Int → Int} {ws : List Int} (hP : rxPLLE S0 ws) : rx_obK X S0 rxC200.2.2.1 rxCLLY.2.2.1 (rxILLE S0 ws) (rxmLLE S0 ws) 1 2 rxzLLE_1 rxzLLE_2 [.inr (3, (0, 451)), .inr (3, (0, 14))] none rxPLLY rxPSLLY := by
  intro S r hinv hXS I0 hin hs_ hf_
  have b_ := bx_bds_sat hs_
  have f_ := bx_fcl_ok hs_.1 hf_
  obtain ⟨⟨l8, u8⟩, -⟩ := b_
  have g := rxkLLE_1 hP hin I0 hinv l8 u8
  have ea : List.map (bx_num r) [.inr (3, (0, 451)), .inr (3, (0, 14))] = [451, 14] := by
    simp only [List.map_cons, List.map_nil, bx_xv_ok hs_.1]
    rfl
  rw [ea]
  refine ⟨g.1, fun S' w r' hPS hX' I1 hsm hr hw hs' => ?_⟩
  have hw : w = none := hPS.1
  subst hw
  have g2 := g.2 S' hPS I1 hsm
  show rxILLE_2 S0 ws S' (r' 8) ∧ rxmLLE_2 S0 ws S' (r' 8) < _
  rw [hr 8 (by decide)]
  exact g2
theorem rxkLLE_3 {S0 : Nat → Int → Int} {ws : List Int} {S : Nat → Int → Int} {wh : Int} (hP : rxPLLE S0 ws) (hin : bx_same rxL (bx_mdl rxC200.2.2.1) S0 S) (I0 : bx_Inv rxL S) (hinv : rxILLE_3 S0 ws S wh) (l8 : 0 ≤ wh) (u8 : wh ≤ 1) : rxPLFS S [451] ∧ ∀ (S' : Nat → Int → Int) (z : Int), (-1) ≤ z → z ≤ 3 → rxPSLFS S [451] S' (some z) → bx_Inv rxL S' → bx_same rxL (bx_mdl rxCLFS.2.2.1) S S' → rxILLE_4 S0 ws S' wh z ∧ rxmLLE_4 S0 ws S' wh z < rxmLLE_3 S0 ws S wh := by
  obtain ⟨hw, hN⟩ := hinv
  have hb9 := ld451 I0
  refine ⟨trivial, fun S' z g0 g1 hq I1 hsm => ?_⟩
  obtain ⟨z', e, hz⟩ := hq
  have e := Option.some.inj e
  subst e
  refine ⟨⟨hw, fun m => (ldNs_fr (by omega) (ldFq_of hsm)).trans (hN m), ?_⟩, by unfold rxmLLE_3 rxmLLE_4; omega⟩
  rw [show ldNs S = ldN (S0 14 0) (S0 15) (S0 16) (S0 17) from funext hN] at hz
  exact hz
theorem rxsLLE_3 {X : (Nat → Int → Int) → Prop} {S0 : Nat → Int → Int} {ws : List Int} (hP : rxPLLE S0 ws) : rx_obK X S0 rxC200.2.2.1 rxCLFS.2.2.1 (rxILLE S0 ws) (rxmLLE S0 ws) 3 4 rxzLLE_3 rxzLLE_4 [.inr (3, (0, 451))] (some 9) rxPLFS rxPSLFS := by
  intro S r hinv hXS I0 hin hs_ hf_
  have b_ := bx_bds_sat hs_
  have f_ := bx_fcl_ok hs_.1 hf_
  obtain ⟨⟨l8, u8⟩, -⟩ := b_
  have g := rxkLLE_3 hP hin I0 hinv l8 u8
  have ea : List.map (bx_num r) [.inr (3, (0, 451))] = [451] := by
    simp only [List.map_cons, List.map_nil, bx_xv_ok hs_.1]
    rfl
  rw [ea]
  refine ⟨g.1, fun S' w r' hPS hX' I1 hsm hr hw hs' => ?_⟩
  have hw := hw _ rfl
  subst hw
  have b' := hs'.2.2 9 _ _ rfl
  have g2 := g.2 S' (r' 9) b'.1 b'.2 hPS I1 hsm
  show rxILLE_4 S0 ws S' (r' 8) (r' 9) ∧ rxmLLE_4 S0 ws S' (r' 8) (r' 9) < _
  rw [hr 8 (by decide)]
  exact g2
theorem rxkLLE_5 {S0 : Nat → Int → Int} {ws : List Int} {S : Nat → Int → Int} {wh z m : Int} (hP : rxPLLE S0 ws) (hin : bx_same rxL (bx_mdl rxC200.2.2.1) S0 S) (I0 : bx_Inv rxL S) (hinv : rxILLE_5 S0 ws S wh z m) (l8 : 1 ≤ wh) (u8 : wh ≤ 1) (l9 : 1 ≤ z) (u9 : z ≤ 3) (l10 : 1 ≤ m) (u10 : m ≤ 3) : rxPLCW S [451, m] ∧ ∀ (S' : Nat → Int → Int) (v : Int), (-2147483648) ≤ v → v ≤ 2147483647 → rxPSLCW S [451, m] S' (some v) → bx_Inv rxL S' → bx_same rxL (bx_mdl rxCLCW.2.2.1) S S' → rxILLE_6 S0 ws S' wh z m v ∧ rxmLLE_6 S0 ws S' wh z m v < rxmLLE_5 S0 ws S wh z m := by
  obtain ⟨hm, hw, hN, hz⟩ := hinv
  refine ⟨trivial, fun S' v g0 g1 hq I1 hsm => ?_⟩
  obtain ⟨m9, hw9, hv⟩ := hq
  have e : m = m9 := Option.some.inj (congrArg (fun l => l[1]?) hw9)
  subst e
  have hv := Option.some.inj hv
  rw [hN] at hv
  exact ⟨⟨hw, hz, by rw [← hm]; exact hv⟩, by unfold rxmLLE_5 rxmLLE_6; omega⟩
theorem rxsLLE_5 {X : (Nat → Int → Int) → Prop} {S0 : Nat → Int → Int} {ws : List Int} (hP : rxPLLE S0 ws) : rx_obK X S0 rxC200.2.2.1 rxCLCW.2.2.1 (rxILLE S0 ws) (rxmLLE S0 ws) 5 6 rxzLLE_5 rxzLLE_6 [.inr (3, (0, 451)), .inr (0, (10, 0))] (some 11) rxPLCW rxPSLCW := by
  intro S r hinv hXS I0 hin hs_ hf_
  have b_ := bx_bds_sat hs_
  have f_ := bx_fcl_ok hs_.1 hf_
  obtain ⟨⟨l8, u8⟩, ⟨l9, u9⟩, ⟨l10, u10⟩, -⟩ := b_
  have g := rxkLLE_5 hP hin I0 hinv l8 u8 l9 u9 l10 u10
  have ea : List.map (bx_num r) [.inr (3, (0, 451)), .inr (0, (10, 0))] = [451, (r 10)] := by
    simp only [List.map_cons, List.map_nil, bx_xv_ok hs_.1]
    rfl
  rw [ea]
  refine ⟨g.1, fun S' w r' hPS hX' I1 hsm hr hw hs' => ?_⟩
  have hw := hw _ rfl
  subst hw
  have b' := hs'.2.2 11 _ _ rfl
  have g2 := g.2 S' (r' 11) b'.1 b'.2 hPS I1 hsm
  show rxILLE_6 S0 ws S' (r' 8) (r' 9) (r' 10) (r' 11) ∧ rxmLLE_6 S0 ws S' (r' 8) (r' 9) (r' 10) (r' 11) < _
  rw [hr 8 (by decide), hr 9 (by decide), hr 10 (by decide)]
  exact g2
theorem rxcLLE_0_0 {S0 : Nat → Int → Int} {ws : List Int} {S : Nat → Int → Int} {what : Int} (hP : rxPLLE S0 ws) (hin : bx_same rxL (bx_mdl rxC200.2.2.1) S0 S) (I0 : bx_Inv rxL S) (hinv : rxILLE_0 S0 ws S what) (l8 : 0 ≤ what) (u8 : what ≤ 1) : (True) ∧ (True) ∧ rxILLE_1 S0 ws S what ∧ rxmLLE_1 S0 ws S what < rxmLLE_0 S0 ws S what := by
  obtain ⟨rfl, hw⟩ := hinv
  exact ⟨by first | trivial | exact ⟨by omega, trivial⟩, trivial, ⟨rfl, hw⟩, by unfold rxmLLE_0 rxmLLE_1; omega⟩
theorem rxgLLE_0_0 {X : (Nat → Int → Int) → Prop} {S0 : Nat → Int → Int} {ws : List Int} (hP : rxPLLE S0 ws) : bx_obC rxL X S0 rxC200.2.2.1 (rxILLE S0 ws) (rxmLLE S0 ws) 0 rxzLLE_0 rxoLLE_0_0 := by
  intro S S' r r' hinv hX hin hsm_ hseg
  obtain ⟨I0, I1, h0_, hr_, b_, f_, d_⟩ := bx_cl (evs := []) (fvs := []) hseg (by decide +kernel) (by decide +kernel)
  have hinv : rxILLE_0 S0 ws S (r 8) := hinv
  rw [← hr_ 8 (by decide)] at hinv
  obtain ⟨⟨l8, u8⟩, -⟩ := b_
  have w_ := d_
  subst w_
  have g := rxcLLE_0_0 hP hin I0 hinv l8 u8
  refine ⟨bx_narP_ok (l := []) g.1, bx_nfP_ok h0_ (fvs := []) (by decide +kernel) g.2.1, ?_, ?_⟩
  · show rxILLE_1 S0 ws S' (bx_val [(0, 0), (0, 0), (0, 0), (0, 0), (0, 0), (0, 0), (0, 0), (0, 0), (8, 0)] r' 8)
    rw [bx_val_x (n := 8) (e := (8, 0)) h0_ rfl]
    exact g.2.2.1
  · show rxmLLE_1 S0 ws S' (bx_val [(0, 0), (0, 0), (0, 0), (0, 0), (0, 0), (0, 0), (0, 0), (0, 0), (8, 0)] r' 8) < rxmLLE_0 S0 ws S' (r 8)
    rw [bx_val_x (n := 8) (e := (8, 0)) h0_ rfl, ← hr_ 8 (by decide)]
    exact g.2.2.2
theorem rxdLLE_0_0 {S0 : Nat → Int → Int} {ws : List Int} {S : Nat → Int → Int} {what : Int} (hP : rxPLLE S0 ws) (hin : bx_same rxL (bx_mdl rxC200.2.2.1) S0 S) (hin2 : bx_same rxL (bx_mdl rxC200.2.2.1) S S) (I0 : bx_Inv rxL S) (I1 : bx_Inv rxL S) (hinv : rxILLE_0 S0 ws S what) (l8 : 2 ≤ what) (u8 : what ≤ 2147483647) : (True) ∧ rxPSLLE S0 ws S (some ((-1))) := by
  obtain ⟨rfl, hw⟩ := hinv
  exact ⟨trivial, what, _, hw, rfl, fun _ => rfl, fun q => by omega, fun q => by omega⟩
theorem rxfLLE_0_0 {X : (Nat → Int → Int) → Prop} {S0 : Nat → Int → Int} {ws : List Int} (hP : rxPLLE S0 ws) : bx_obE rxL X S0 rxC200.2.2.1 (rxILLE S0 ws) (rxPSLLE S0 ws) 0 rxzLLE_0 rxeLLE_0_0 := by
  intro S S' r r' hinv hX hin hsm_ hseg
  obtain ⟨I0, I1, h0_, hr_, b_, f_, d_⟩ := bx_cl (evs := []) (fvs := []) hseg (by decide +kernel) (by decide +kernel)
  have hinv : rxILLE_0 S0 ws S (r 8) := hinv
  rw [← hr_ 8 (by decide)] at hinv
  obtain ⟨⟨l8, u8⟩, -⟩ := b_
  have w_ := d_
  subst w_
  have g := rxdLLE_0_0 hP hin hsm_ I0 I1 hinv l8 u8
  refine ⟨bx_narP_ok (l := []) g.1, ?_⟩
  show rxPSLLE S0 ws S' (some (bx_num r' (.inr (0, (0, (-1))))))
  rw [bx_xv_ok h0_]
  exact g.2
theorem rxdLLE_0_1 {S0 : Nat → Int → Int} {ws : List Int} {S : Nat → Int → Int} {what : Int} (hP : rxPLLE S0 ws) (hin : bx_same rxL (bx_mdl rxC200.2.2.1) S0 S) (hin2 : bx_same rxL (bx_mdl rxC200.2.2.1) S S) (I0 : bx_Inv rxL S) (I1 : bx_Inv rxL S) (hinv : rxILLE_0 S0 ws S what) (l8 : (-2147483648) ≤ what) (u8 : what ≤ (-1)) : (True) ∧ rxPSLLE S0 ws S (some ((-1))) := by
  obtain ⟨rfl, hw⟩ := hinv
  exact ⟨trivial, what, _, hw, rfl, fun _ => rfl, fun q => by omega, fun q => by omega⟩
theorem rxfLLE_0_1 {X : (Nat → Int → Int) → Prop} {S0 : Nat → Int → Int} {ws : List Int} (hP : rxPLLE S0 ws) : bx_obE rxL X S0 rxC200.2.2.1 (rxILLE S0 ws) (rxPSLLE S0 ws) 0 rxzLLE_0 rxeLLE_0_1 := by
  intro S S' r r' hinv hX hin hsm_ hseg
  obtain ⟨I0, I1, h0_, hr_, b_, f_, d_⟩ := bx_cl (evs := []) (fvs := []) hseg (by decide +kernel) (by decide +kernel)
  have hinv : rxILLE_0 S0 ws S (r 8) := hinv
  rw [← hr_ 8 (by decide)] at hinv
  obtain ⟨⟨l8, u8⟩, -⟩ := b_
  have w_ := d_
  subst w_
  have g := rxdLLE_0_1 hP hin hsm_ I0 I1 hinv l8 u8
  refine ⟨bx_narP_ok (l := []) g.1, ?_⟩
  show rxPSLLE S0 ws S' (some (bx_num r' (.inr (0, (0, (-1))))))
  rw [bx_xv_ok h0_]
  exact g.2
theorem rxcLLE_2_0 {S0 : Nat → Int → Int} {ws : List Int} {S : Nat → Int → Int} {wh : Int} (hP : rxPLLE S0 ws) (hin : bx_same rxL (bx_mdl rxC200.2.2.1) S0 S) (I0 : bx_Inv rxL S) (hinv : rxILLE_2 S0 ws S wh) (l8 : 0 ≤ wh) (u8 : wh ≤ 1) : (True) ∧ (True) ∧ rxILLE_3 S0 ws S wh ∧ rxmLLE_3 S0 ws S wh < rxmLLE_2 S0 ws S wh := by
  exact ⟨trivial, trivial, hinv, by unfold rxmLLE_2 rxmLLE_3; omega⟩
theorem rxgLLE_2_0 {X : (Nat → Int → Int) → Prop} {S0 : Nat → Int → Int} {ws : List Int} (hP : rxPLLE S0 ws) : bx_obC rxL X S0 rxC200.2.2.1 (rxILLE S0 ws) (rxmLLE S0 ws) 2 rxzLLE_2 rxoLLE_2_0 := by
  intro S S' r r' hinv hX hin hsm_ hseg
  obtain ⟨I0, I1, h0_, hr_, b_, f_, d_⟩ := bx_cl (evs := []) (fvs := []) hseg (by decide +kernel) (by decide +kernel)
  have hinv : rxILLE_2 S0 ws S (r 8) := hinv
  rw [← hr_ 8 (by decide)] at hinv
  obtain ⟨⟨l8, u8⟩, -⟩ := b_
  have w_ := d_
  subst w_
  have g := rxcLLE_2_0 hP hin I0 hinv l8 u8
  refine ⟨bx_narP_ok (l := []) g.1, bx_nfP_ok h0_ (fvs := []) (by decide +kernel) g.2.1, ?_, ?_⟩
  · show rxILLE_3 S0 ws S' (bx_val [(0, 0), (0, 0), (0, 0), (0, 0), (0, 0), (0, 0), (0, 0), (0, 0), (8, 0)] r' 8)
    rw [bx_val_x (n := 8) (e := (8, 0)) h0_ rfl]
    exact g.2.2.1
  · show rxmLLE_3 S0 ws S' (bx_val [(0, 0), (0, 0), (0, 0), (0, 0), (0, 0), (0, 0), (0, 0), (0, 0), (8, 0)] r' 8) < rxmLLE_2 S0 ws S' (r 8)
    rw [bx_val_x (n := 8) (e := (8, 0)) h0_ rfl, ← hr_ 8 (by decide)]
    exact g.2.2.2
theorem rxcLLE_4_0 {S0 : Nat → Int → Int} {ws : List Int} {S : Nat → Int → Int} {wh z : Int} (hP : rxPLLE S0 ws) (hin : bx_same rxL (bx_mdl rxC200.2.2.1) S0 S) (I0 : bx_Inv rxL S) (hinv : rxILLE_4 S0 ws S wh z) (l8 : 1 ≤ wh) (u8 : wh ≤ 1) (l9 : 0 ≤ z) (u9 : z ≤ 3) (f0 : wh ≠ 0) : ((1 ≤ z ∧ z ≤ 3) ∧ (1 ≤ z ∧ z ≤ 3) ∧ True) ∧ (True) ∧ rxILLE_5 S0 ws S wh z z ∧ rxmLLE_5 S0 ws S wh z z < rxmLLE_4 S0 ws S wh z := by
  obtain ⟨hw, hN, hz⟩ := hinv
  have hz2 := hz
  unfold ldW at hz2
  exact ⟨by first | trivial | exact ⟨by omega, trivial⟩ | exact ⟨by omega, by omega, trivial⟩ | exact ⟨by omega, by omega, by omega, trivial⟩, trivial, ⟨rfl, hw, hN, hz⟩, by unfold rxmLLE_4 rxmLLE_5; omega⟩
theorem rxgLLE_4_0 {X : (Nat → Int → Int) → Prop} {S0 : Nat → Int → Int} {ws : List Int} (hP : rxPLLE S0 ws) : bx_obC rxL X S0 rxC200.2.2.1 (rxILLE S0 ws) (rxmLLE S0 ws) 4 rxzLLE_4 rxoLLE_4_0 := by
  intro S S' r r' hinv hX hin hsm_ hseg
  obtain ⟨I0, I1, h0_, hr_, b_, f_, d_⟩ := bx_cl (evs := []) (fvs := [(3, (8, 0), (0, 0), (0, 0))]) hseg (by decide +kernel) (by decide +kernel)
  have hinv : rxILLE_4 S0 ws S (r 8) (r 9) := hinv
  rw [← hr_ 8 (by decide), ← hr_ 9 (by decide)] at hinv
  obtain ⟨⟨l8, u8⟩, ⟨l9, u9⟩, -⟩ := b_
  obtain ⟨f0, -⟩ := f_
  have w_ := d_
  subst w_
  have g := rxcLLE_4_0 hP hin I0 hinv l8 u8 l9 u9 f0
  refine ⟨bx_narP_ok (l := [(9, 1, 3), (9, 1, 3)]) g.1, bx_nfP_ok h0_ (fvs := []) (by decide +kernel) g.2.1, ?_, ?_⟩
  · show rxILLE_5 S0 ws S' (bx_val [(0, 0), (0, 0), (0, 0), (0, 0), (0, 0), (0, 0), (0, 0), (0, 0), (8, 0), (9, 0), (9, 0)] r' 8) (bx_val [(0, 0), (0, 0), (0, 0), (0, 0), (0, 0), (0, 0), (0, 0), (0, 0), (8, 0), (9, 0), (9, 0)] r' 9) (bx_val [(0, 0), (0, 0), (0, 0), (0, 0), (0, 0), (0, 0), (0, 0), (0, 0), (8, 0), (9, 0), (9, 0)] r' 10)
    rw [bx_val_x (n := 8) (e := (8, 0)) h0_ rfl, bx_val_x (n := 9) (e := (9, 0)) h0_ rfl, bx_val_x (n := 10) (e := (9, 0)) h0_ rfl]
    exact g.2.2.1
  · show rxmLLE_5 S0 ws S' (bx_val [(0, 0), (0, 0), (0, 0), (0, 0), (0, 0), (0, 0), (0, 0), (0, 0), (8, 0), (9, 0), (9, 0)] r' 8) (bx_val [(0, 0), (0, 0), (0, 0), (0, 0), (0, 0), (0, 0), (0, 0), (0, 0), (8, 0), (9, 0), (9, 0)] r' 9) (bx_val [(0, 0), (0, 0), (0, 0), (0, 0), (0, 0), (0, 0), (0, 0), (0, 0), (8, 0), (9, 0), (9, 0)] r' 10) < rxmLLE_4 S0 ws S' (r 8) (r 9)
    rw [bx_val_x (n := 8) (e := (8, 0)) h0_ rfl, bx_val_x (n := 9) (e := (9, 0)) h0_ rfl, bx_val_x (n := 10) (e := (9, 0)) h0_ rfl, ← hr_ 8 (by decide), ← hr_ 9 (by decide)]
    exact g.2.2.2
theorem rxdLLE_4_0 {S0 : Nat → Int → Int} {ws : List Int} {S : Nat → Int → Int} {wh z : Int} (hP : rxPLLE S0 ws) (hin : bx_same rxL (bx_mdl rxC200.2.2.1) S0 S) (hin2 : bx_same rxL (bx_mdl rxC200.2.2.1) S S) (I0 : bx_Inv rxL S) (I1 : bx_Inv rxL S) (hinv : rxILLE_4 S0 ws S wh z) (l8 : 0 ≤ wh) (u8 : wh ≤ 0) (l9 : (-1) ≤ z) (u9 : z ≤ 3) : (True) ∧ rxPSLLE S0 ws S (some z) := by
  obtain ⟨hw, hN, hz⟩ := hinv
  rcases (show wh = 0 ∨ wh = 1 by omega) with q | q
  · first
      | (exfalso; omega)
      | exact ⟨trivial, wh, z, hw, rfl, fun q => by omega, fun _ => hz, fun q => by omega⟩
  · first
      | (exfalso; omega)
      | exact ⟨trivial, wh, _, hw, rfl, fun q => by omega, fun q => by omega, fun _ => ⟨z, hz, by rw [if_pos (by omega)]⟩⟩
theorem rxfLLE_4_0 {X : (Nat → Int → Int) → Prop} {S0 : Nat → Int → Int} {ws : List Int} (hP : rxPLLE S0 ws) : bx_obE rxL X S0 rxC200.2.2.1 (rxILLE S0 ws) (rxPSLLE S0 ws) 4 rxzLLE_4 rxeLLE_4_0 := by
  intro S S' r r' hinv hX hin hsm_ hseg
  obtain ⟨I0, I1, h0_, hr_, b_, f_, d_⟩ := bx_cl (evs := []) (fvs := []) hseg (by decide +kernel) (by decide +kernel)
  have hinv : rxILLE_4 S0 ws S (r 8) (r 9) := hinv
  rw [← hr_ 8 (by decide), ← hr_ 9 (by decide)] at hinv
  obtain ⟨⟨l8, u8⟩, ⟨l9, u9⟩, -⟩ := b_
  have w_ := d_
  subst w_
  have g := rxdLLE_4_0 hP hin hsm_ I0 I1 hinv l8 u8 l9 u9
  refine ⟨bx_narP_ok (l := []) g.1, ?_⟩
  show rxPSLLE S0 ws S' (some (bx_num r' (.inr (0, (9, 0)))))
  rw [bx_xv_ok h0_]
  exact g.2
theorem rxdLLE_4_1 {S0 : Nat → Int → Int} {ws : List Int} {S : Nat → Int → Int} {wh z : Int} (hP : rxPLLE S0 ws) (hin : bx_same rxL (bx_mdl rxC200.2.2.1) S0 S) (hin2 : bx_same rxL (bx_mdl rxC200.2.2.1) S S) (I0 : bx_Inv rxL S) (I1 : bx_Inv rxL S) (hinv : rxILLE_4 S0 ws S wh z) (l8 : 1 ≤ wh) (u8 : wh ≤ 1) (l9 : (-1) ≤ z) (u9 : z ≤ (-1)) (f0 : wh ≠ 0) : (True) ∧ rxPSLLE S0 ws S (some 0) := by
  obtain ⟨hw, hN, hz⟩ := hinv
  rcases (show wh = 0 ∨ wh = 1 by omega) with q | q
  · first
      | (exfalso; omega)
      | exact ⟨trivial, wh, z, hw, rfl, fun q => by omega, fun _ => hz, fun q => by omega⟩
  · first
      | (exfalso; omega)
      | exact ⟨trivial, wh, _, hw, rfl, fun q => by omega, fun q => by omega, fun _ => ⟨z, hz, by rw [if_pos (by omega)]⟩⟩
theorem rxfLLE_4_1 {X : (Nat → Int → Int) → Prop} {S0 : Nat → Int → Int} {ws : List Int} (hP : rxPLLE S0 ws) : bx_obE rxL X S0 rxC200.2.2.1 (rxILLE S0 ws) (rxPSLLE S0 ws) 4 rxzLLE_4 rxeLLE_4_1 := by
  intro S S' r r' hinv hX hin hsm_ hseg
  obtain ⟨I0, I1, h0_, hr_, b_, f_, d_⟩ := bx_cl (evs := []) (fvs := [(3, (8, 0), (0, 0), (0, 0))]) hseg (by decide +kernel) (by decide +kernel)
  have hinv : rxILLE_4 S0 ws S (r 8) (r 9) := hinv
  rw [← hr_ 8 (by decide), ← hr_ 9 (by decide)] at hinv
  obtain ⟨⟨l8, u8⟩, ⟨l9, u9⟩, -⟩ := b_
  obtain ⟨f0, -⟩ := f_
  have w_ := d_
  subst w_
  have g := rxdLLE_4_1 hP hin hsm_ I0 I1 hinv l8 u8 l9 u9 f0
  refine ⟨bx_narP_ok (l := []) g.1, ?_⟩
  show rxPSLLE S0 ws S' (some (bx_num r' (.inr (0, (0, 0)))))
  rw [bx_xv_ok h0_]
  exact g.2
theorem rxdLLE_6_0 {S0 : Nat → Int → Int} {ws : List Int} {S : Nat → Int → Int} {wh z m v : Int} (hP : rxPLLE S0 ws) (hin : bx_same rxL (bx_mdl rxC200.2.2.1) S0 S) (hin2 : bx_same rxL (bx_mdl rxC200.2.2.1) S S) (I0 : bx_Inv rxL S) (I1 : bx_Inv rxL S) (hinv : rxILLE_6 S0 ws S wh z m v) (l8 : 1 ≤ wh) (u8 : wh ≤ 1) (l9 : 1 ≤ z) (u9 : z ≤ 3) (l10 : 1 ≤ m) (u10 : m ≤ 3) (l11 : (-2147483648) ≤ v) (u11 : v ≤ 2147483647) : (True) ∧ rxPSLLE S0 ws S (some v) := by
  obtain ⟨hw, hz, hv⟩ := hinv
  exact ⟨trivial, wh, v, hw, rfl, fun q => by omega, fun q => by omega, fun _ => ⟨z, hz, by rw [if_neg (by omega)]; exact hv⟩⟩
theorem rxfLLE_6_0 {X : (Nat → Int → Int) → Prop} {S0 : Nat → Int → Int} {ws : List Int} (hP : rxPLLE S0 ws) : bx_obE rxL X S0 rxC200.2.2.1 (rxILLE S0 ws) (rxPSLLE S0 ws) 6 rxzLLE_6 rxeLLE_6_0 := by
  intro S S' r r' hinv hX hin hsm_ hseg
  obtain ⟨I0, I1, h0_, hr_, b_, f_, d_⟩ := bx_cl (evs := []) (fvs := []) hseg (by decide +kernel) (by decide +kernel)
  have hinv : rxILLE_6 S0 ws S (r 8) (r 9) (r 10) (r 11) := hinv
  rw [← hr_ 8 (by decide), ← hr_ 9 (by decide), ← hr_ 10 (by decide), ← hr_ 11 (by decide)] at hinv
  obtain ⟨⟨l8, u8⟩, ⟨l9, u9⟩, ⟨l10, u10⟩, ⟨l11, u11⟩, -⟩ := b_
  have w_ := d_
  subst w_
  have g := rxdLLE_6_0 hP hin hsm_ I0 I1 hinv l8 u8 l9 u9 l10 u10 l11 u11
  refine ⟨bx_narP_ok (l := []) g.1, ?_⟩
  show rxPSLLE S0 ws S' (some (bx_num r' (.inr (0, (11, 0)))))
  rw [bx_xv_ok h0_]
  exact g.2
theorem rxgCLLE {X : (Nat → Int → Int) → Prop} {S0 : Nat → Int → Int} {ws : List Int} (hP : rxPLLE S0 ws) : bx_allI (fun i q => rxULLE q = true ∨ bx_allP (fun o => bx_obC rxL X S0 rxC200.2.2.1 (rxILLE S0 ws) (rxmLLE S0 ws) i q.1 o) q.2.1) 0 rxYLLE := ⟨Or.inr ⟨rxgLLE_0_0 hP, trivial⟩, Or.inl rfl, Or.inr ⟨rxgLLE_2_0 hP, trivial⟩, Or.inl rfl, Or.inr ⟨rxgLLE_4_0 hP, trivial⟩, Or.inl rfl, Or.inr trivial, trivial⟩
theorem rxgELLE {X : (Nat → Int → Int) → Prop} {S0 : Nat → Int → Int} {ws : List Int} (hP : rxPLLE S0 ws) : bx_allI (fun i q => rxULLE q = true ∨ bx_allP (fun E => bx_obE rxL X S0 rxC200.2.2.1 (rxILLE S0 ws) (rxPSLLE S0 ws) i q.1 E) q.2.2) 0 rxYLLE := ⟨Or.inr ⟨rxfLLE_0_0 hP, rxfLLE_0_1 hP, trivial⟩, Or.inl rfl, Or.inr trivial, Or.inl rfl, Or.inr ⟨rxfLLE_4_0 hP, rxfLLE_4_1 hP, trivial⟩, Or.inl rfl, Or.inr ⟨rxfLLE_6_0 hP, trivial⟩, trivial⟩
theorem rxuLLE {PX : State → Prop} {Dg : va_G} {A : Nat → Prop} {ad xa : Nat → Nat} {l : Launch} {X : (Nat → Int → Int) → Prop} (hPX : rx_PXOK rxNW A PX) (hX : ∀ S S1 : Nat → Int → Int, X S → bx_same rxL (bx_mdl rxC200.2.2.1) S S1 → X S1) (hQLLY : bx_ConP rxG rxNW rxAO PX Dg rxL X vwCl A ad l rxM147 rxCLLY rxPLLY rxPSLLY) (hQLFS : bx_ConP rxG rxNW rxAO PX Dg rxL X vwCl A ad l rxM148 rxCLFS rxPLFS rxPSLFS) (hQLCW : bx_ConP rxG rxNW rxAO PX Dg rxL X vwCl A ad l rxM149 rxCLCW rxPLCW rxPSLCW) {S0 : Nat → Int → Int} {ws : List Int} (hP : rxPLLE S0 ws) : ∀ (i : Nat) (q : bx_HE), rxYLLE[i]? = some q → rxULLE q = true → ∀ {p : Program} {e : Env} {R : Room} {s : State} {m : MethodId} {args : Array Value} {below : List Frame} {meth : Method} {c : Code} {Q : State → Prop} {H0 : Heap}, rx_Fr rxG rxNW rxAO PX p s m args meth c rxM200 → (∀ q, H0.size ≤ q → A q) → H0 = s.heap → rxM200.2.2.2.2.2.2.1 ≤ R.cells → rxM200.2.2.2.2.2.2.2 ≤ R.slots → rxC200.2.2.2.1 ≤ R.frames → rxC200.2.2.2.1 * 40 ≤ R.locals → bx_Step p l e R s m args below meth c Q Dg rxL X vwCl A xa H0 ad rxM200 rxYLLE (rxILLE S0 ws) (rxmLLE S0 ws) S0 rxC200.2.2.1 i q := by
  intro i q hq hus p e R s m args below meth c Q H0 hF hA hH0 hmc hms hd hdl
  match i, hq with
  | 0, hq =>
    cases hq
    exact absurd (show false = true from hus) Bool.false_ne_true
  | 1, hq =>
    cases hq
    exact rx_stepC (ins := .invokevirtual 408) (len := 3) (i' := 2) (M' := rxM147) (d := rxC200.2.2.2.1) (as := [.inr (3, (0, 451)), .inr (3, (0, 14))]) (t := []) (ct := rxCLLY) hPX hF rfl hA hH0 hmc hms hd hdl (by decide +kernel) rfl rfl (by decide +kernel) (by decide +kernel) hQLLY (by decide +kernel) rfl (Or.inl ⟨rfl, rfl, rfl⟩) (rxsLLE_1 hP)
  | 2, hq =>
    cases hq
    exact absurd (show false = true from hus) Bool.false_ne_true
  | 3, hq =>
    cases hq
    exact rx_stepC (ins := .invokevirtual 411) (len := 3) (i' := 4) (M' := rxM148) (d := rxC200.2.2.2.1) (as := [.inr (3, (0, 451))]) (t := []) (ct := rxCLFS) hPX hF rfl hA hH0 hmc hms hd hdl (by decide +kernel) rfl rfl (by decide +kernel) (by decide +kernel) hQLFS (by decide +kernel) rfl (Or.inr ⟨_, _, _, 1, rfl, rfl, by omega, rfl, rfl, rfl⟩) (rxsLLE_3 hP)
  | 4, hq =>
    cases hq
    exact absurd (show false = true from hus) Bool.false_ne_true
  | 5, hq =>
    cases hq
    exact rx_stepC (ins := .invokevirtual 414) (len := 3) (i' := 6) (M' := rxM149) (d := rxC200.2.2.2.1) (as := [.inr (3, (0, 451)), .inr (0, (10, 0))]) (t := []) (ct := rxCLCW) hPX hF rfl hA hH0 hmc hms hd hdl (by decide +kernel) rfl rfl (by decide +kernel) (by decide +kernel) hQLCW (by decide +kernel) rfl (Or.inr ⟨_, _, _, 1, rfl, rfl, by omega, rfl, rfl, rfl⟩) (rxsLLE_5 hP)
  | 6, hq =>
    cases hq
    exact absurd (show false = true from hus) Bool.false_ne_true
  | n + 7, hq => cases hq
theorem rxQLLE {PX : State → Prop} {Dg : va_G} {A : Nat → Prop} {ad xa : Nat → Nat} {l : Launch} {X : (Nat → Int → Int) → Prop} (hPX : rx_PXOK rxNW A PX) (hsl : ∀ s : State, PX s → ∀ o idx n : Nat, rxSl o idx = some n → ∃ tx : String, vk_R (rxNm o) idx tx (ad n) s)
    (hX : ∀ S S' : Nat → Int → Int, X S → bx_same rxL (bx_mdl rxC200.2.2.1) S S' → X S')
    (ih : ∀ (j2 : Nat) (ct2 : bx_Ct) (M2 : rx_Mt), ct2 ∈ rxCnE j2 → ct2.2.2.2.1 + 1 ≤ rxC200.2.2.2.1 → rxT.2.2.2.2.2 j2 = some M2 → bx_Con rxG rxNW rxAO PX Dg rxL X vwCl A ad l M2 ct2) (hQLLY : bx_ConP rxG rxNW rxAO PX Dg rxL X vwCl A ad l rxM147 rxCLLY rxPLLY rxPSLLY) (hQLFS : bx_ConP rxG rxNW rxAO PX Dg rxL X vwCl A ad l rxM148 rxCLFS rxPLFS rxPSLFS) (hQLCW : bx_ConP rxG rxNW rxAO PX Dg rxL X vwCl A ad l rxM149 rxCLCW rxPLCW rxPSLCW) : bx_ConP rxG rxNW rxAO PX Dg rxL X vwCl A ad l rxM200 rxC200 rxPLLE rxPSLLE :=
  rxQof (xa := xa) (Cn := rxCnE) (f := 30000) (j := 200) (tab := rxYLLE) (us := rxULLE) hPX hsl hX ih rfl rxYcLLE rxILLE rxmLLE
    (fun S0 ws r I0 I ht0 ht as he he1 hX0 hI0 hP hs ha => by
      have e := he.symm.trans (show bx_ent0 rxNP rxC200.1 bx_I0 [] = some ([(0, 0), (0, 0), (0, 0), (0, 0), (0, 0), (0, 0), (0, 0), (0, 0), ((-2147483648), 2147483647)], [], [.inr (3, (0, 0)), .inr (0, (8, 0))]) from rfl)
      cases e
      subst ha
      have h0 : r 0 = 0 := hs.1
      show rxILLE_0 S0 _ S0 (r 8)
      refine ⟨rfl, ?_⟩
      simp only [List.map_cons, List.map_nil, bx_xv_ok h0]
      rfl)
    (fun S0 ws hP => rxuLLE (xa := xa) hPX hX hQLLY hQLFS hQLCW hP) (fun S0 ws hP => rxgCLLE hP) (fun S0 ws hP => rxgELLE hP)
/-! CONTRACT BY HAND, by program (wip/sim/genhand.py): DeadUnderstudies.would -/
def rxILWU_0 (S0 : Nat → Int → Int) (ws : List Int) (S : Nat → Int → Int) (row cue : Int) : Prop := S = S0 ∧ ws = [0, row, cue]
def rxmLWU_0 (S0 : Nat → Int → Int) (ws : List Int) (S : Nat → Int → Int) (row cue : Int) : Nat := 100
def rxzLWU_0 : rx_Z := ([(0, 0), (0, 0), (0, 0), (0, 0), (0, 0), (0, 0), (0, 0), (0, 0), ((-2147483648), 2147483647), ((-2147483648), 2147483647)], [], [], 0, 0, 0, [(0, .inr (3, (0, 0))), (1, .inr (0, (8, 0))), (2, .inr (0, (9, 0)))], [])
def rxILWU_1 (S0 : Nat → Int → Int) (ws : List Int) (S : Nat → Int → Int) (row cue : Int) : Prop := S = S0 ∧ ws = [0, row, cue]
def rxmLWU_1 (S0 : Nat → Int → Int) (ws : List Int) (S : Nat → Int → Int) (row cue : Int) : Nat := 90
def rxzLWU_1 : rx_Z := ([(0, 0), (0, 0), (0, 0), (0, 0), (0, 0), (0, 0), (0, 0), (0, 0), (0, 3), (0, 5)], [], [], 0, 0, 32, [(0, .inr (3, (0, 0))), (1, .inr (0, (8, 0))), (2, .inr (0, (9, 0)))], [.inr (3, (0, 14)), .inr (3, (0, 451))])
def rxILWU_2 (S0 : Nat → Int → Int) (ws : List Int) (S : Nat → Int → Int) (row cue : Int) : Prop := ws = [0, row, cue] ∧ (∀ m : Int, ldNs S m = ldN (S0 14 0) (S0 15) (S0 16) (S0 17) m) ∧ (∀ m cu : Int, ((ldB 0 (ldA (ldDm S m row cu)) : Nat) : Int) = ((ldU (S0 14 0) (S0 15) (S0 16) (S0 17) m cu (S 455 row) : Nat) : Int)) ∧ ldZ (S0 14 0) (ldt (S0 14 0) (ldF (ldQ (ldt (S0 14 0) (S0 15)) (S0 14 0).toNat 4) (S0 15))) row (S 455 row) ∧ S 451 0 = S0 14 0
def rxmLWU_2 (S0 : Nat → Int → Int) (ws : List Int) (S : Nat → Int → Int) (row cue : Int) : Nat := 80
def rxzLWU_2 : rx_Z := ([(0, 0), (0, 0), (0, 0), (0, 0), (0, 0), (0, 0), (0, 0), (0, 0), (0, 3), (0, 5)], [], [], 0, 0, 35, [(0, .inr (3, (0, 0))), (1, .inr (0, (8, 0))), (2, .inr (0, (9, 0)))], [])
def rxILWU_3 (S0 : Nat → Int → Int) (ws : List Int) (S : Nat → Int → Int) (row cue : Int) : Prop := ws = [0, row, cue] ∧ (∀ m : Int, ldNs S m = ldN (S0 14 0) (S0 15) (S0 16) (S0 17) m) ∧ (∀ m cu : Int, ((ldB 0 (ldA (ldDm S m row cu)) : Nat) : Int) = ((ldU (S0 14 0) (S0 15) (S0 16) (S0 17) m cu (S 455 row) : Nat) : Int)) ∧ ldZ (S0 14 0) (ldt (S0 14 0) (ldF (ldQ (ldt (S0 14 0) (S0 15)) (S0 14 0).toNat 4) (S0 15))) row (S 455 row) ∧ S 451 0 = S0 14 0
def rxmLWU_3 (S0 : Nat → Int → Int) (ws : List Int) (S : Nat → Int → Int) (row cue : Int) : Nat := 70
def rxzLWU_3 : rx_Z := ([(0, 0), (0, 0), (0, 0), (0, 0), (0, 0), (0, 0), (0, 0), (0, 0), (0, 3), (0, 5)], [], [], 0, 0, 39, [(0, .inr (3, (0, 0))), (1, .inr (0, (8, 0))), (2, .inr (0, (9, 0)))], [.inr (3, (0, 451))])
def rxILWU_4 (S0 : Nat → Int → Int) (ws : List Int) (S : Nat → Int → Int) (row cue z : Int) : Prop := ws = [0, row, cue] ∧ ldW (ldN (S0 14 0) (S0 15) (S0 16) (S0 17)) z ∧ (∀ m cu : Int, ((ldB 0 (ldA (ldDm S m row cu)) : Nat) : Int) = ((ldU (S0 14 0) (S0 15) (S0 16) (S0 17) m cu (S 455 row) : Nat) : Int)) ∧ ldZ (S0 14 0) (ldt (S0 14 0) (ldF (ldQ (ldt (S0 14 0) (S0 15)) (S0 14 0).toNat 4) (S0 15))) row (S 455 row) ∧ S 451 0 = S0 14 0
def rxmLWU_4 (S0 : Nat → Int → Int) (ws : List Int) (S : Nat → Int → Int) (row cue z : Int) : Nat := 60
def rxzLWU_4 : rx_Z := ([(0, 0), (0, 0), (0, 0), (0, 0), (0, 0), (0, 0), (0, 0), (0, 0), (0, 3), (0, 5), ((-1), 3)], [], [], 0, 0, 42, [(0, .inr (3, (0, 0))), (1, .inr (0, (8, 0))), (2, .inr (0, (9, 0)))], [.inr (0, (10, 0))])
def rxILWU_5 (S0 : Nat → Int → Int) (ws : List Int) (S : Nat → Int → Int) (row cue z m r1 c1 : Int) : Prop := m = z ∧ r1 = row ∧ c1 = cue ∧ ws = [0, row, cue] ∧ ldW (ldN (S0 14 0) (S0 15) (S0 16) (S0 17)) z ∧ (∀ m cu : Int, ((ldB 0 (ldA (ldDm S m row cu)) : Nat) : Int) = ((ldU (S0 14 0) (S0 15) (S0 16) (S0 17) m cu (S 455 row) : Nat) : Int)) ∧ ldZ (S0 14 0) (ldt (S0 14 0) (ldF (ldQ (ldt (S0 14 0) (S0 15)) (S0 14 0).toNat 4) (S0 15))) row (S 455 row) ∧ S 451 0 = S0 14 0
def rxmLWU_5 (S0 : Nat → Int → Int) (ws : List Int) (S : Nat → Int → Int) (row cue z m r1 c1 : Int) : Nat := 50
def rxzLWU_5 : rx_Z := ([(0, 0), (0, 0), (0, 0), (0, 0), (0, 0), (0, 0), (0, 0), (0, 0), (0, 3), (0, 5), (1, 3), (1, 3), (0, 3), (0, 5)], [], [], 0, 0, 58, [(0, .inr (3, (0, 0))), (1, .inr (0, (8, 0))), (2, .inr (0, (9, 0))), (3, .inr (0, (10, 0)))], [.inr (0, (13, 0)), .inr (0, (12, 0)), .inr (0, (11, 0)), .inr (3, (0, 451))])
def rxILWU_6 (S0 : Nat → Int → Int) (ws : List Int) (S : Nat → Int → Int) (row cue z m r1 c1 v : Int) : Prop := ws = [0, row, cue] ∧ ldW (ldN (S0 14 0) (S0 15) (S0 16) (S0 17)) z ∧ ∃ y : Int, ldZ (S0 14 0) (ldt (S0 14 0) (ldF (ldQ (ldt (S0 14 0) (S0 15)) (S0 14 0).toNat 4) (S0 15))) row y ∧ v = (ldU (S0 14 0) (S0 15) (S0 16) (S0 17) z cue y : Nat)
def rxmLWU_6 (S0 : Nat → Int → Int) (ws : List Int) (S : Nat → Int → Int) (row cue z m r1 c1 v : Int) : Nat := 40
def rxzLWU_6 : rx_Z := ([(0, 0), (0, 0), (0, 0), (0, 0), (0, 0), (0, 0), (0, 0), (0, 0), (0, 3), (0, 5), (1, 3), (1, 3), (0, 3), (0, 5), ((-2147483648), 2147483647)], [], [], 0, 0, 61, [(0, .inr (3, (0, 0))), (1, .inr (0, (8, 0))), (2, .inr (0, (9, 0))), (3, .inr (0, (10, 0)))], [.inr (0, (14, 0))])
def rxoLWU_0_0 : bx_HO := (([(0, 0), (0, 0), (0, 0), (0, 0), (0, 0), (0, 0), (0, 0), (0, 0), (0, 3), (0, 5)], [], [(((0, 1), 12), .inr (3, (0, 14))), (((0, 0), 0), .inr (3, (0, 1))), (((0, 0), 12), .inr (3, (0, 451)))], 0, 0, 32, [(0, .inr (3, (0, 0))), (1, .inr (0, (8, 0))), (2, .inr (0, (9, 0)))], [.inr (3, (0, 14)), .inr (3, (0, 451))]), [], [], [(0, 0), (0, 0), (0, 0), (0, 0), (0, 0), (0, 0), (0, 0), (0, 0), (8, 0), (9, 0)], 1)
def rxeLWU_0_0 : rx_End × List (Nat × Int × Int) := (([(0, 0), (0, 0), (0, 0), (0, 0), (0, 0), (0, 0), (0, 0), (0, 0), (0, 3), (6, 2147483647)], [], [], some (.inr (0, (0, (-1))))), [])
def rxeLWU_0_1 : rx_End × List (Nat × Int × Int) := (([(0, 0), (0, 0), (0, 0), (0, 0), (0, 0), (0, 0), (0, 0), (0, 0), (0, 3), ((-2147483648), (-1))], [], [], some (.inr (0, (0, (-1))))), [])
def rxeLWU_0_2 : rx_End × List (Nat × Int × Int) := (([(0, 0), (0, 0), (0, 0), (0, 0), (0, 0), (0, 0), (0, 0), (0, 0), (4, 2147483647), ((-2147483648), 2147483647)], [], [], some (.inr (0, (0, (-1))))), [])
def rxeLWU_0_3 : rx_End × List (Nat × Int × Int) := (([(0, 0), (0, 0), (0, 0), (0, 0), (0, 0), (0, 0), (0, 0), (0, 0), ((-2147483648), (-1)), ((-2147483648), 2147483647)], [], [], some (.inr (0, (0, (-1))))), [])
def rxoLWU_2_0 : bx_HO := (([(0, 0), (0, 0), (0, 0), (0, 0), (0, 0), (0, 0), (0, 0), (0, 0), (0, 3), (0, 5)], [], [(((0, 0), 12), .inr (3, (0, 451)))], 0, 0, 39, [(0, .inr (3, (0, 0))), (1, .inr (0, (8, 0))), (2, .inr (0, (9, 0)))], [.inr (3, (0, 451))]), [], [], [(0, 0), (0, 0), (0, 0), (0, 0), (0, 0), (0, 0), (0, 0), (0, 0), (8, 0), (9, 0)], 3)
def rxoLWU_4_0 : bx_HO := (([(0, 0), (0, 0), (0, 0), (0, 0), (0, 0), (0, 0), (0, 0), (0, 0), (0, 3), (0, 5), (0, 3)], [], [(((0, 0), 12), .inr (3, (0, 451)))], 0, 0, 58, [(3, .inr (0, (10, 0))), (0, .inr (3, (0, 0))), (1, .inr (0, (8, 0))), (2, .inr (0, (9, 0)))], [.inr (0, (9, 0)), .inr (0, (8, 0)), .inr (0, (10, 0)), .inr (3, (0, 451))]), [(10, 1, 3), (10, 1, 3)], [], [(0, 0), (0, 0), (0, 0), (0, 0), (0, 0), (0, 0), (0, 0), (0, 0), (8, 0), (9, 0), (10, 0), (10, 0), (8, 0), (9, 0)], 5)
def rxeLWU_4_0 : rx_End × List (Nat × Int × Int) := (([(0, 0), (0, 0), (0, 0), (0, 0), (0, 0), (0, 0), (0, 0), (0, 0), (0, 3), (0, 5), ((-1), (-1))], [], [], some (.inr (0, (0, (-1))))), [])
def rxeLWU_6_0 : rx_End × List (Nat × Int × Int) := (([(0, 0), (0, 0), (0, 0), (0, 0), (0, 0), (0, 0), (0, 0), (0, 0), (0, 3), (0, 5), (1, 3), (1, 3), (0, 3), (0, 5), ((-2147483648), 2147483647)], [], [], some (.inr (0, (14, 0)))), [])
def rxYLWU : List bx_HE := [(rxzLWU_0, [rxoLWU_0_0], [rxeLWU_0_0, rxeLWU_0_1, rxeLWU_0_2, rxeLWU_0_3]), (rxzLWU_1, [], []), (rxzLWU_2, [rxoLWU_2_0], []), (rxzLWU_3, [], []), (rxzLWU_4, [rxoLWU_4_0], [rxeLWU_4_0]), (rxzLWU_5, [], []), (rxzLWU_6, [], [rxeLWU_6_0])]
def rxULWU (q : bx_HE) : Bool := Nat.beq (rx_zpc q.1) 32 || Nat.beq (rx_zpc q.1) 39 || Nat.beq (rx_zpc q.1) 58
def rxYBLWU : bx_B := (rxV, rxNP, rxDmf, bx_mdH rxC202.2.2.1)
set_option maxRecDepth 100000 in
theorem rxYcLWU : bx_chkH rxYBLWU rxM202 rxC202 rxYLWU (rxULWU, fun cut z => rx_ex2 (rxCT rxYBLWU rxCnE) cut 30000 rxC202.2.2.2.1 202 z) = true := by decide +kernel
def rxILWU (S0 : Nat → Int → Int) (ws : List Int) (i : Nat) : bx_SP := fun S r => match i with | 0 => rxILWU_0 S0 ws S (r 8) (r 9) | 1 => rxILWU_1 S0 ws S (r 8) (r 9) | 2 => rxILWU_2 S0 ws S (r 8) (r 9) | 3 => rxILWU_3 S0 ws S (r 8) (r 9) | 4 => rxILWU_4 S0 ws S (r 8) (r 9) (r 10) | 5 => rxILWU_5 S0 ws S (r 8) (r 9) (r 10) (r 11) (r 12) (r 13) | 6 => rxILWU_6 S0 ws S (r 8) (r 9) (r 10) (r 11) (r 12) (r 13) (r 14) | _ => False
def rxmLWU (S0 : Nat → Int → Int) (ws : List Int) (i : Nat) (S : Nat → Int → Int) (r : Nat → Int) : Nat := match i with | 0 => rxmLWU_0 S0 ws S (r 8) (r 9) | 1 => rxmLWU_1 S0 ws S (r 8) (r 9) | 2 => rxmLWU_2 S0 ws S (r 8) (r 9) | 3 => rxmLWU_3 S0 ws S (r 8) (r 9) | 4 => rxmLWU_4 S0 ws S (r 8) (r 9) (r 10) | 5 => rxmLWU_5 S0 ws S (r 8) (r 9) (r 10) (r 11) (r 12) (r 13) | 6 => rxmLWU_6 S0 ws S (r 8) (r 9) (r 10) (r 11) (r 12) (r 13) (r 14) | _ => 0
def rxPLWU (S0 : Nat → Int → Int) (ws : List Int) : Prop := True
def rxPSLWU (S0 : Nat → Int → Int) (ws : List Int) (S : Nat → Int → Int) (w : Option Int) : Prop := ∃ row cue v : Int, ws = [0, row, cue] ∧ w = some v ∧ ldAw (S0 14 0) (S0 15) (S0 16) (S0 17) row cue v
theorem rxkLWU_1 {S0 : Nat → Int → Int} {ws : List Int} {S : Nat → Int → Int} {row cue : Int} (hP : rxPLWU S0 ws) (hin : bx_same rxL (bx_mdl rxC202.2.2.1) S0 S) (I0 : bx_Inv rxL S) (hinv : rxILWU_1 S0 ws S row cue) (l8 : 0 ≤ row) (u8 : row ≤ 3) (l9 : 0 ≤ cue) (u9 : cue ≤ 5) : rxPLLY S [451, 14] ∧ ∀ (S' : Nat → Int → Int), rxPSLLY S [451, 14] S' none → bx_Inv rxL S' → bx_same rxL (bx_mdl rxCLLY.2.2.1) S S' → rxILWU_2 S0 ws S' row cue ∧ rxmLWU_2 S0 ws S' row cue < rxmLWU_1 S0 ws S row cue := by
  obtain ⟨h1, hw⟩ := hinv
  subst h1
  have hb := ld14 I0
  have hr : ∀ j : Int, 0 ≤ j → j < S 14 0 → 0 ≤ S 15 j ∧ S 15 j < 4 := fun j a b => by
    have q := ld15 I0 (j := j) a (by omega)
    omega
  exact ⟨trivial, fun S' hq I1 hsm => ⟨⟨hw, fun m => ldNs_N hr hb.1 hq.2.1, fun m cu => ldDm_D hr hb.1 hq.2.1 l8 (by omega), ldLr_Z hr hb.1 hq.2.1 hq.2.2 l8 (by omega), (ldLy_D hr hb.1 hq.2.1).1⟩, by unfold rxmLWU_1 rxmLWU_2; omega⟩⟩
theorem rxsLWU_1 {X : (Nat → Int → Int) → Prop} {S0 : Nat → Int → Int} {ws : List Int} (hP : rxPLWU S0 ws) : rx_obK X S0 rxC202.2.2.1 rxCLLY.2.2.1 (rxILWU S0 ws) (rxmLWU S0 ws) 1 2 rxzLWU_1 rxzLWU_2 [.inr (3, (0, 451)), .inr (3, (0, 14))] none rxPLLY rxPSLLY := by
  intro S r hinv hXS I0 hin hs_ hf_
  have b_ := bx_bds_sat hs_
  have f_ := bx_fcl_ok hs_.1 hf_
  obtain ⟨⟨l8, u8⟩, ⟨l9, u9⟩, -⟩ := b_
  have g := rxkLWU_1 hP hin I0 hinv l8 u8 l9 u9
  have ea : List.map (bx_num r) [.inr (3, (0, 451)), .inr (3, (0, 14))] = [451, 14] := by
    simp only [List.map_cons, List.map_nil, bx_xv_ok hs_.1]
    rfl
  rw [ea]
  refine ⟨g.1, fun S' w r' hPS hX' I1 hsm hr hw hs' => ?_⟩
  have hw : w = none := hPS.1
  subst hw
  have g2 := g.2 S' hPS I1 hsm
  show rxILWU_2 S0 ws S' (r' 8) (r' 9) ∧ rxmLWU_2 S0 ws S' (r' 8) (r' 9) < _
  rw [hr 8 (by decide), hr 9 (by decide)]
  exact g2
theorem rxkLWU_3 {S0 : Nat → Int → Int} {ws : List Int} {S : Nat → Int → Int} {row cue : Int} (hP : rxPLWU S0 ws) (hin : bx_same rxL (bx_mdl rxC202.2.2.1) S0 S) (I0 : bx_Inv rxL S) (hinv : rxILWU_3 S0 ws S row cue) (l8 : 0 ≤ row) (u8 : row ≤ 3) (l9 : 0 ≤ cue) (u9 : cue ≤ 5) : rxPLFS S [451] ∧ ∀ (S' : Nat → Int → Int) (z : Int), (-1) ≤ z → z ≤ 3 → rxPSLFS S [451] S' (some z) → bx_Inv rxL S' → bx_same rxL (bx_mdl rxCLFS.2.2.1) S S' → rxILWU_4 S0 ws S' row cue z ∧ rxmLWU_4 S0 ws S' row cue z < rxmLWU_3 S0 ws S row cue := by
  obtain ⟨hw, hN, hU, hZ, h0⟩ := hinv
  have hb9 := ld451 I0
  refine ⟨trivial, fun S' z g0 g1 hq I1 hsm => ?_⟩
  obtain ⟨z', e, hz⟩ := hq
  have e := Option.some.inj e
  subst e
  have fq := ldFq_of hsm
  have e5 := fq.2.2.2.2 row l8 (by omega)
  refine ⟨⟨hw, ?_, fun m cu => by rw [ldDm_fr (by omega) fq, e5]; exact hU m cu, by rw [e5]; exact hZ, fq.1.trans h0⟩, by unfold rxmLWU_3 rxmLWU_4; omega⟩
  rw [show ldNs S = ldN (S0 14 0) (S0 15) (S0 16) (S0 17) from funext hN] at hz
  exact hz
theorem rxsLWU_3 {X : (Nat → Int → Int) → Prop} {S0 : Nat → Int → Int} {ws : List Int} (hP : rxPLWU S0 ws) : rx_obK X S0 rxC202.2.2.1 rxCLFS.2.2.1 (rxILWU S0 ws) (rxmLWU S0 ws) 3 4 rxzLWU_3 rxzLWU_4 [.inr (3, (0, 451))] (some 10) rxPLFS rxPSLFS := by
  intro S r hinv hXS I0 hin hs_ hf_
  have b_ := bx_bds_sat hs_
  have f_ := bx_fcl_ok hs_.1 hf_
  obtain ⟨⟨l8, u8⟩, ⟨l9, u9⟩, -⟩ := b_
  have g := rxkLWU_3 hP hin I0 hinv l8 u8 l9 u9
  have ea : List.map (bx_num r) [.inr (3, (0, 451))] = [451] := by
    simp only [List.map_cons, List.map_nil, bx_xv_ok hs_.1]
    rfl
  rw [ea]
  refine ⟨g.1, fun S' w r' hPS hX' I1 hsm hr hw hs' => ?_⟩
  have hw := hw _ rfl
  subst hw
  have b' := hs'.2.2 10 _ _ rfl
  have g2 := g.2 S' (r' 10) b'.1 b'.2 hPS I1 hsm
  show rxILWU_4 S0 ws S' (r' 8) (r' 9) (r' 10) ∧ rxmLWU_4 S0 ws S' (r' 8) (r' 9) (r' 10) < _
  rw [hr 8 (by decide), hr 9 (by decide)]
  exact g2
theorem rxkLWU_5 {S0 : Nat → Int → Int} {ws : List Int} {S : Nat → Int → Int} {row cue z m r1 c1 : Int} (hP : rxPLWU S0 ws) (hin : bx_same rxL (bx_mdl rxC202.2.2.1) S0 S) (I0 : bx_Inv rxL S) (hinv : rxILWU_5 S0 ws S row cue z m r1 c1) (l8 : 0 ≤ row) (u8 : row ≤ 3) (l9 : 0 ≤ cue) (u9 : cue ≤ 5) (l10 : 1 ≤ z) (u10 : z ≤ 3) (l11 : 1 ≤ m) (u11 : m ≤ 3) (l12 : 0 ≤ r1) (u12 : r1 ≤ 3) (l13 : 0 ≤ c1) (u13 : c1 ≤ 5) : rxPLWB S [451, m, r1, c1] ∧ ∀ (S' : Nat → Int → Int) (v : Int), (-2147483648) ≤ v → v ≤ 2147483647 → rxPSLWB S [451, m, r1, c1] S' (some v) → bx_Inv rxL S' → bx_same rxL (bx_mdl rxCLWB.2.2.1) S S' → rxILWU_6 S0 ws S' row cue z m r1 c1 v ∧ rxmLWU_6 S0 ws S' row cue z m r1 c1 v < rxmLWU_5 S0 ws S row cue z m r1 c1 := by
  obtain ⟨hm, hr, hc, hw, hz, hU, hZ, h0⟩ := hinv
  refine ⟨⟨m, r1, c1, rfl, ?_⟩, fun S' v g0 g1 hq I1 hsm => ?_⟩
  · rw [hr, h0]
    rcases hZ with ⟨a1, a2⟩ | ⟨a1, a2, a3⟩
    · have hb := ld451 I0
      omega
    · exact a2
  · obtain ⟨m9, r9, c9, hw9, hv⟩ := hq
    simp only [List.cons.injEq, and_true, true_and] at hw9
    obtain ⟨e1, e2, e3⟩ := hw9
    have hv := Option.some.inj hv
    rw [← e1, ← e2, ← e3, hr, hU, hm, hc] at hv
    exact ⟨⟨hw, hz, _, hZ, hv⟩, by unfold rxmLWU_5 rxmLWU_6; omega⟩
theorem rxsLWU_5 {X : (Nat → Int → Int) → Prop} {S0 : Nat → Int → Int} {ws : List Int} (hP : rxPLWU S0 ws) : rx_obK X S0 rxC202.2.2.1 rxCLWB.2.2.1 (rxILWU S0 ws) (rxmLWU S0 ws) 5 6 rxzLWU_5 rxzLWU_6 [.inr (3, (0, 451)), .inr (0, (11, 0)), .inr (0, (12, 0)), .inr (0, (13, 0))] (some 14) rxPLWB rxPSLWB := by
  intro S r hinv hXS I0 hin hs_ hf_
  have b_ := bx_bds_sat hs_
  have f_ := bx_fcl_ok hs_.1 hf_
  obtain ⟨⟨l8, u8⟩, ⟨l9, u9⟩, ⟨l10, u10⟩, ⟨l11, u11⟩, ⟨l12, u12⟩, ⟨l13, u13⟩, -⟩ := b_
  have g := rxkLWU_5 hP hin I0 hinv l8 u8 l9 u9 l10 u10 l11 u11 l12 u12 l13 u13
  have ea : List.map (bx_num r) [.inr (3, (0, 451)), .inr (0, (11, 0)), .inr (0, (12, 0)), .inr (0, (13, 0))] = [451, (r 11), (r 12), (r 13)] := by
    simp only [List.map_cons, List.map_nil, bx_xv_ok hs_.1]
    rfl
  rw [ea]
  refine ⟨g.1, fun S' w r' hPS hX' I1 hsm hr hw hs' => ?_⟩
  have hw := hw _ rfl
  subst hw
  have b' := hs'.2.2 14 _ _ rfl
  have g2 := g.2 S' (r' 14) b'.1 b'.2 hPS I1 hsm
  show rxILWU_6 S0 ws S' (r' 8) (r' 9) (r' 10) (r' 11) (r' 12) (r' 13) (r' 14) ∧ rxmLWU_6 S0 ws S' (r' 8) (r' 9) (r' 10) (r' 11) (r' 12) (r' 13) (r' 14) < _
  rw [hr 8 (by decide), hr 9 (by decide), hr 10 (by decide), hr 11 (by decide), hr 12 (by decide), hr 13 (by decide)]
  exact g2
theorem rxcLWU_0_0 {S0 : Nat → Int → Int} {ws : List Int} {S : Nat → Int → Int} {row cue : Int} (hP : rxPLWU S0 ws) (hin : bx_same rxL (bx_mdl rxC202.2.2.1) S0 S) (I0 : bx_Inv rxL S) (hinv : rxILWU_0 S0 ws S row cue) (l8 : 0 ≤ row) (u8 : row ≤ 3) (l9 : 0 ≤ cue) (u9 : cue ≤ 5) : (True) ∧ (True) ∧ rxILWU_1 S0 ws S row cue ∧ rxmLWU_1 S0 ws S row cue < rxmLWU_0 S0 ws S row cue := by
  obtain ⟨rfl, hw⟩ := hinv
  exact ⟨by first | trivial | exact ⟨by omega, trivial⟩, trivial, ⟨rfl, hw⟩, by unfold rxmLWU_0 rxmLWU_1; omega⟩
theorem rxgLWU_0_0 {X : (Nat → Int → Int) → Prop} {S0 : Nat → Int → Int} {ws : List Int} (hP : rxPLWU S0 ws) : bx_obC rxL X S0 rxC202.2.2.1 (rxILWU S0 ws) (rxmLWU S0 ws) 0 rxzLWU_0 rxoLWU_0_0 := by
  intro S S' r r' hinv hX hin hsm_ hseg
  obtain ⟨I0, I1, h0_, hr_, b_, f_, d_⟩ := bx_cl (evs := []) (fvs := []) hseg (by decide +kernel) (by decide +kernel)
  have hinv : rxILWU_0 S0 ws S (r 8) (r 9) := hinv
  rw [← hr_ 8 (by decide), ← hr_ 9 (by decide)] at hinv
  obtain ⟨⟨l8, u8⟩, ⟨l9, u9⟩, -⟩ := b_
  have w_ := d_
  subst w_
  have g := rxcLWU_0_0 hP hin I0 hinv l8 u8 l9 u9
  refine ⟨bx_narP_ok (l := []) g.1, bx_nfP_ok h0_ (fvs := []) (by decide +kernel) g.2.1, ?_, ?_⟩
  · show rxILWU_1 S0 ws S' (bx_val [(0, 0), (0, 0), (0, 0), (0, 0), (0, 0), (0, 0), (0, 0), (0, 0), (8, 0), (9, 0)] r' 8) (bx_val [(0, 0), (0, 0), (0, 0), (0, 0), (0, 0), (0, 0), (0, 0), (0, 0), (8, 0), (9, 0)] r' 9)
    rw [bx_val_x (n := 8) (e := (8, 0)) h0_ rfl, bx_val_x (n := 9) (e := (9, 0)) h0_ rfl]
    exact g.2.2.1
  · show rxmLWU_1 S0 ws S' (bx_val [(0, 0), (0, 0), (0, 0), (0, 0), (0, 0), (0, 0), (0, 0), (0, 0), (8, 0), (9, 0)] r' 8) (bx_val [(0, 0), (0, 0), (0, 0), (0, 0), (0, 0), (0, 0), (0, 0), (0, 0), (8, 0), (9, 0)] r' 9) < rxmLWU_0 S0 ws S' (r 8) (r 9)
    rw [bx_val_x (n := 8) (e := (8, 0)) h0_ rfl, bx_val_x (n := 9) (e := (9, 0)) h0_ rfl, ← hr_ 8 (by decide), ← hr_ 9 (by decide)]
    exact g.2.2.2
theorem rxdLWU_0_0 {S0 : Nat → Int → Int} {ws : List Int} {S : Nat → Int → Int} {row cue : Int} (hP : rxPLWU S0 ws) (hin : bx_same rxL (bx_mdl rxC202.2.2.1) S0 S) (hin2 : bx_same rxL (bx_mdl rxC202.2.2.1) S S) (I0 : bx_Inv rxL S) (I1 : bx_Inv rxL S) (hinv : rxILWU_0 S0 ws S row cue) (l8 : 0 ≤ row) (u8 : row ≤ 3) (l9 : 6 ≤ cue) (u9 : cue ≤ 2147483647) : (True) ∧ rxPSLWU S0 ws S (some ((-1))) := by
  obtain ⟨rfl, hw⟩ := hinv
  exact ⟨trivial, row, cue, _, hw, rfl, fun _ => rfl, fun q => by omega⟩
theorem rxfLWU_0_0 {X : (Nat → Int → Int) → Prop} {S0 : Nat → Int → Int} {ws : List Int} (hP : rxPLWU S0 ws) : bx_obE rxL X S0 rxC202.2.2.1 (rxILWU S0 ws) (rxPSLWU S0 ws) 0 rxzLWU_0 rxeLWU_0_0 := by
  intro S S' r r' hinv hX hin hsm_ hseg
  obtain ⟨I0, I1, h0_, hr_, b_, f_, d_⟩ := bx_cl (evs := []) (fvs := []) hseg (by decide +kernel) (by decide +kernel)
  have hinv : rxILWU_0 S0 ws S (r 8) (r 9) := hinv
  rw [← hr_ 8 (by decide), ← hr_ 9 (by decide)] at hinv
  obtain ⟨⟨l8, u8⟩, ⟨l9, u9⟩, -⟩ := b_
  have w_ := d_
  subst w_
  have g := rxdLWU_0_0 hP hin hsm_ I0 I1 hinv l8 u8 l9 u9
  refine ⟨bx_narP_ok (l := []) g.1, ?_⟩
  show rxPSLWU S0 ws S' (some (bx_num r' (.inr (0, (0, (-1))))))
  rw [bx_xv_ok h0_]
  exact g.2
theorem rxdLWU_0_1 {S0 : Nat → Int → Int} {ws : List Int} {S : Nat → Int → Int} {row cue : Int} (hP : rxPLWU S0 ws) (hin : bx_same rxL (bx_mdl rxC202.2.2.1) S0 S) (hin2 : bx_same rxL (bx_mdl rxC202.2.2.1) S S) (I0 : bx_Inv rxL S) (I1 : bx_Inv rxL S) (hinv : rxILWU_0 S0 ws S row cue) (l8 : 0 ≤ row) (u8 : row ≤ 3) (l9 : (-2147483648) ≤ cue) (u9 : cue ≤ (-1)) : (True) ∧ rxPSLWU S0 ws S (some ((-1))) := by
  obtain ⟨rfl, hw⟩ := hinv
  exact ⟨trivial, row, cue, _, hw, rfl, fun _ => rfl, fun q => by omega⟩
theorem rxfLWU_0_1 {X : (Nat → Int → Int) → Prop} {S0 : Nat → Int → Int} {ws : List Int} (hP : rxPLWU S0 ws) : bx_obE rxL X S0 rxC202.2.2.1 (rxILWU S0 ws) (rxPSLWU S0 ws) 0 rxzLWU_0 rxeLWU_0_1 := by
  intro S S' r r' hinv hX hin hsm_ hseg
  obtain ⟨I0, I1, h0_, hr_, b_, f_, d_⟩ := bx_cl (evs := []) (fvs := []) hseg (by decide +kernel) (by decide +kernel)
  have hinv : rxILWU_0 S0 ws S (r 8) (r 9) := hinv
  rw [← hr_ 8 (by decide), ← hr_ 9 (by decide)] at hinv
  obtain ⟨⟨l8, u8⟩, ⟨l9, u9⟩, -⟩ := b_
  have w_ := d_
  subst w_
  have g := rxdLWU_0_1 hP hin hsm_ I0 I1 hinv l8 u8 l9 u9
  refine ⟨bx_narP_ok (l := []) g.1, ?_⟩
  show rxPSLWU S0 ws S' (some (bx_num r' (.inr (0, (0, (-1))))))
  rw [bx_xv_ok h0_]
  exact g.2
theorem rxdLWU_0_2 {S0 : Nat → Int → Int} {ws : List Int} {S : Nat → Int → Int} {row cue : Int} (hP : rxPLWU S0 ws) (hin : bx_same rxL (bx_mdl rxC202.2.2.1) S0 S) (hin2 : bx_same rxL (bx_mdl rxC202.2.2.1) S S) (I0 : bx_Inv rxL S) (I1 : bx_Inv rxL S) (hinv : rxILWU_0 S0 ws S row cue) (l8 : 4 ≤ row) (u8 : row ≤ 2147483647) (l9 : (-2147483648) ≤ cue) (u9 : cue ≤ 2147483647) : (True) ∧ rxPSLWU S0 ws S (some ((-1))) := by
  obtain ⟨rfl, hw⟩ := hinv
  exact ⟨trivial, row, cue, _, hw, rfl, fun _ => rfl, fun q => by omega⟩
theorem rxfLWU_0_2 {X : (Nat → Int → Int) → Prop} {S0 : Nat → Int → Int} {ws : List Int} (hP : rxPLWU S0 ws) : bx_obE rxL X S0 rxC202.2.2.1 (rxILWU S0 ws) (rxPSLWU S0 ws) 0 rxzLWU_0 rxeLWU_0_2 := by
  intro S S' r r' hinv hX hin hsm_ hseg
  obtain ⟨I0, I1, h0_, hr_, b_, f_, d_⟩ := bx_cl (evs := []) (fvs := []) hseg (by decide +kernel) (by decide +kernel)
  have hinv : rxILWU_0 S0 ws S (r 8) (r 9) := hinv
  rw [← hr_ 8 (by decide), ← hr_ 9 (by decide)] at hinv
  obtain ⟨⟨l8, u8⟩, ⟨l9, u9⟩, -⟩ := b_
  have w_ := d_
  subst w_
  have g := rxdLWU_0_2 hP hin hsm_ I0 I1 hinv l8 u8 l9 u9
  refine ⟨bx_narP_ok (l := []) g.1, ?_⟩
  show rxPSLWU S0 ws S' (some (bx_num r' (.inr (0, (0, (-1))))))
  rw [bx_xv_ok h0_]
  exact g.2
theorem rxdLWU_0_3 {S0 : Nat → Int → Int} {ws : List Int} {S : Nat → Int → Int} {row cue : Int} (hP : rxPLWU S0 ws) (hin : bx_same rxL (bx_mdl rxC202.2.2.1) S0 S) (hin2 : bx_same rxL (bx_mdl rxC202.2.2.1) S S) (I0 : bx_Inv rxL S) (I1 : bx_Inv rxL S) (hinv : rxILWU_0 S0 ws S row cue) (l8 : (-2147483648) ≤ row) (u8 : row ≤ (-1)) (l9 : (-2147483648) ≤ cue) (u9 : cue ≤ 2147483647) : (True) ∧ rxPSLWU S0 ws S (some ((-1))) := by
  obtain ⟨rfl, hw⟩ := hinv
  exact ⟨trivial, row, cue, _, hw, rfl, fun _ => rfl, fun q => by omega⟩
theorem rxfLWU_0_3 {X : (Nat → Int → Int) → Prop} {S0 : Nat → Int → Int} {ws : List Int} (hP : rxPLWU S0 ws) : bx_obE rxL X S0 rxC202.2.2.1 (rxILWU S0 ws) (rxPSLWU S0 ws) 0 rxzLWU_0 rxeLWU_0_3 := by
  intro S S' r r' hinv hX hin hsm_ hseg
  obtain ⟨I0, I1, h0_, hr_, b_, f_, d_⟩ := bx_cl (evs := []) (fvs := []) hseg (by decide +kernel) (by decide +kernel)
  have hinv : rxILWU_0 S0 ws S (r 8) (r 9) := hinv
  rw [← hr_ 8 (by decide), ← hr_ 9 (by decide)] at hinv
  obtain ⟨⟨l8, u8⟩, ⟨l9, u9⟩, -⟩ := b_
  have w_ := d_
  subst w_
  have g := rxdLWU_0_3 hP hin hsm_ I0 I1 hinv l8 u8 l9 u9
  refine ⟨bx_narP_ok (l := []) g.1, ?_⟩
  show rxPSLWU S0 ws S' (some (bx_num r' (.inr (0, (0, (-1))))))
  rw [bx_xv_ok h0_]
  exact g.2
theorem rxcLWU_2_0 {S0 : Nat → Int → Int} {ws : List Int} {S : Nat → Int → Int} {row cue : Int} (hP : rxPLWU S0 ws) (hin : bx_same rxL (bx_mdl rxC202.2.2.1) S0 S) (I0 : bx_Inv rxL S) (hinv : rxILWU_2 S0 ws S row cue) (l8 : 0 ≤ row) (u8 : row ≤ 3) (l9 : 0 ≤ cue) (u9 : cue ≤ 5) : (True) ∧ (True) ∧ rxILWU_3 S0 ws S row cue ∧ rxmLWU_3 S0 ws S row cue < rxmLWU_2 S0 ws S row cue := by
  exact ⟨trivial, trivial, hinv, by unfold rxmLWU_2 rxmLWU_3; omega⟩
theorem rxgLWU_2_0 {X : (Nat → Int → Int) → Prop} {S0 : Nat → Int → Int} {ws : List Int} (hP : rxPLWU S0 ws) : bx_obC rxL X S0 rxC202.2.2.1 (rxILWU S0 ws) (rxmLWU S0 ws) 2 rxzLWU_2 rxoLWU_2_0 := by
  intro S S' r r' hinv hX hin hsm_ hseg
  obtain ⟨I0, I1, h0_, hr_, b_, f_, d_⟩ := bx_cl (evs := []) (fvs := []) hseg (by decide +kernel) (by decide +kernel)
  have hinv : rxILWU_2 S0 ws S (r 8) (r 9) := hinv
  rw [← hr_ 8 (by decide), ← hr_ 9 (by decide)] at hinv
  obtain ⟨⟨l8, u8⟩, ⟨l9, u9⟩, -⟩ := b_
  have w_ := d_
  subst w_
  have g := rxcLWU_2_0 hP hin I0 hinv l8 u8 l9 u9
  refine ⟨bx_narP_ok (l := []) g.1, bx_nfP_ok h0_ (fvs := []) (by decide +kernel) g.2.1, ?_, ?_⟩
  · show rxILWU_3 S0 ws S' (bx_val [(0, 0), (0, 0), (0, 0), (0, 0), (0, 0), (0, 0), (0, 0), (0, 0), (8, 0), (9, 0)] r' 8) (bx_val [(0, 0), (0, 0), (0, 0), (0, 0), (0, 0), (0, 0), (0, 0), (0, 0), (8, 0), (9, 0)] r' 9)
    rw [bx_val_x (n := 8) (e := (8, 0)) h0_ rfl, bx_val_x (n := 9) (e := (9, 0)) h0_ rfl]
    exact g.2.2.1
  · show rxmLWU_3 S0 ws S' (bx_val [(0, 0), (0, 0), (0, 0), (0, 0), (0, 0), (0, 0), (0, 0), (0, 0), (8, 0), (9, 0)] r' 8) (bx_val [(0, 0), (0, 0), (0, 0), (0, 0), (0, 0), (0, 0), (0, 0), (0, 0), (8, 0), (9, 0)] r' 9) < rxmLWU_2 S0 ws S' (r 8) (r 9)
    rw [bx_val_x (n := 8) (e := (8, 0)) h0_ rfl, bx_val_x (n := 9) (e := (9, 0)) h0_ rfl, ← hr_ 8 (by decide), ← hr_ 9 (by decide)]
    exact g.2.2.2
theorem rxcLWU_4_0 {S0 : Nat → Int → Int} {ws : List Int} {S : Nat → Int → Int} {row cue z : Int} (hP : rxPLWU S0 ws) (hin : bx_same rxL (bx_mdl rxC202.2.2.1) S0 S) (I0 : bx_Inv rxL S) (hinv : rxILWU_4 S0 ws S row cue z) (l8 : 0 ≤ row) (u8 : row ≤ 3) (l9 : 0 ≤ cue) (u9 : cue ≤ 5) (l10 : 0 ≤ z) (u10 : z ≤ 3) : ((1 ≤ z ∧ z ≤ 3) ∧ (1 ≤ z ∧ z ≤ 3) ∧ True) ∧ (True) ∧ rxILWU_5 S0 ws S row cue z z row cue ∧ rxmLWU_5 S0 ws S row cue z z row cue < rxmLWU_4 S0 ws S row cue z := by
  obtain ⟨hw, hz, hU⟩ := hinv
  have hz2 := hz
  unfold ldW at hz2
  exact ⟨by first | trivial | exact ⟨by omega, trivial⟩ | exact ⟨by omega, by omega, trivial⟩, trivial, ⟨rfl, rfl, rfl, hw, hz, hU⟩, by unfold rxmLWU_4 rxmLWU_5; omega⟩
theorem rxgLWU_4_0 {X : (Nat → Int → Int) → Prop} {S0 : Nat → Int → Int} {ws : List Int} (hP : rxPLWU S0 ws) : bx_obC rxL X S0 rxC202.2.2.1 (rxILWU S0 ws) (rxmLWU S0 ws) 4 rxzLWU_4 rxoLWU_4_0 := by
  intro S S' r r' hinv hX hin hsm_ hseg
  obtain ⟨I0, I1, h0_, hr_, b_, f_, d_⟩ := bx_cl (evs := []) (fvs := []) hseg (by decide +kernel) (by decide +kernel)
  have hinv : rxILWU_4 S0 ws S (r 8) (r 9) (r 10) := hinv
  rw [← hr_ 8 (by decide), ← hr_ 9 (by decide), ← hr_ 10 (by decide)] at hinv
  obtain ⟨⟨l8, u8⟩, ⟨l9, u9⟩, ⟨l10, u10⟩, -⟩ := b_
  have w_ := d_
  subst w_
  have g := rxcLWU_4_0 hP hin I0 hinv l8 u8 l9 u9 l10 u10
  refine ⟨bx_narP_ok (l := [(10, 1, 3), (10, 1, 3)]) g.1, bx_nfP_ok h0_ (fvs := []) (by decide +kernel) g.2.1, ?_, ?_⟩
  · show rxILWU_5 S0 ws S' (bx_val [(0, 0), (0, 0), (0, 0), (0, 0), (0, 0), (0, 0), (0, 0), (0, 0), (8, 0), (9, 0), (10, 0), (10, 0), (8, 0), (9, 0)] r' 8) (bx_val [(0, 0), (0, 0), (0, 0), (0, 0), (0, 0), (0, 0), (0, 0), (0, 0), (8, 0), (9, 0), (10, 0), (10, 0), (8, 0), (9, 0)] r' 9) (bx_val [(0, 0), (0, 0), (0, 0), (0, 0), (0, 0), (0, 0), (0, 0), (0, 0), (8, 0), (9, 0), (10, 0), (10, 0), (8, 0), (9, 0)] r' 10) (bx_val [(0, 0), (0, 0), (0, 0), (0, 0), (0, 0), (0, 0), (0, 0), (0, 0), (8, 0), (9, 0), (10, 0), (10, 0), (8, 0), (9, 0)] r' 11) (bx_val [(0, 0), (0, 0), (0, 0), (0, 0), (0, 0), (0, 0), (0, 0), (0, 0), (8, 0), (9, 0), (10, 0), (10, 0), (8, 0), (9, 0)] r' 12) (bx_val [(0, 0), (0, 0), (0, 0), (0, 0), (0, 0), (0, 0), (0, 0), (0, 0), (8, 0), (9, 0), (10, 0), (10, 0), (8, 0), (9, 0)] r' 13)
    rw [bx_val_x (n := 8) (e := (8, 0)) h0_ rfl, bx_val_x (n := 9) (e := (9, 0)) h0_ rfl, bx_val_x (n := 10) (e := (10, 0)) h0_ rfl, bx_val_x (n := 11) (e := (10, 0)) h0_ rfl, bx_val_x (n := 12) (e := (8, 0)) h0_ rfl, bx_val_x (n := 13) (e := (9, 0)) h0_ rfl]
    exact g.2.2.1
  · show rxmLWU_5 S0 ws S' (bx_val [(0, 0), (0, 0), (0, 0), (0, 0), (0, 0), (0, 0), (0, 0), (0, 0), (8, 0), (9, 0), (10, 0), (10, 0), (8, 0), (9, 0)] r' 8) (bx_val [(0, 0), (0, 0), (0, 0), (0, 0), (0, 0), (0, 0), (0, 0), (0, 0), (8, 0), (9, 0), (10, 0), (10, 0), (8, 0), (9, 0)] r' 9) (bx_val [(0, 0), (0, 0), (0, 0), (0, 0), (0, 0), (0, 0), (0, 0), (0, 0), (8, 0), (9, 0), (10, 0), (10, 0), (8, 0), (9, 0)] r' 10) (bx_val [(0, 0), (0, 0), (0, 0), (0, 0), (0, 0), (0, 0), (0, 0), (0, 0), (8, 0), (9, 0), (10, 0), (10, 0), (8, 0), (9, 0)] r' 11) (bx_val [(0, 0), (0, 0), (0, 0), (0, 0), (0, 0), (0, 0), (0, 0), (0, 0), (8, 0), (9, 0), (10, 0), (10, 0), (8, 0), (9, 0)] r' 12) (bx_val [(0, 0), (0, 0), (0, 0), (0, 0), (0, 0), (0, 0), (0, 0), (0, 0), (8, 0), (9, 0), (10, 0), (10, 0), (8, 0), (9, 0)] r' 13) < rxmLWU_4 S0 ws S' (r 8) (r 9) (r 10)
    rw [bx_val_x (n := 8) (e := (8, 0)) h0_ rfl, bx_val_x (n := 9) (e := (9, 0)) h0_ rfl, bx_val_x (n := 10) (e := (10, 0)) h0_ rfl, bx_val_x (n := 11) (e := (10, 0)) h0_ rfl, bx_val_x (n := 12) (e := (8, 0)) h0_ rfl, bx_val_x (n := 13) (e := (9, 0)) h0_ rfl, ← hr_ 8 (by decide), ← hr_ 9 (by decide), ← hr_ 10 (by decide)]
    exact g.2.2.2
theorem rxdLWU_4_0 {S0 : Nat → Int → Int} {ws : List Int} {S : Nat → Int → Int} {row cue z : Int} (hP : rxPLWU S0 ws) (hin : bx_same rxL (bx_mdl rxC202.2.2.1) S0 S) (hin2 : bx_same rxL (bx_mdl rxC202.2.2.1) S S) (I0 : bx_Inv rxL S) (I1 : bx_Inv rxL S) (hinv : rxILWU_4 S0 ws S row cue z) (l8 : 0 ≤ row) (u8 : row ≤ 3) (l9 : 0 ≤ cue) (u9 : cue ≤ 5) (l10 : (-1) ≤ z) (u10 : z ≤ (-1)) : (True) ∧ rxPSLWU S0 ws S (some ((-1))) := by
  obtain ⟨hw, hz, hU, hZ, h0⟩ := hinv
  exact ⟨trivial, row, cue, _, hw, rfl, fun q => by omega, fun _ => ⟨_, z, hz, hZ, by rw [if_pos (by omega)]⟩⟩
theorem rxfLWU_4_0 {X : (Nat → Int → Int) → Prop} {S0 : Nat → Int → Int} {ws : List Int} (hP : rxPLWU S0 ws) : bx_obE rxL X S0 rxC202.2.2.1 (rxILWU S0 ws) (rxPSLWU S0 ws) 4 rxzLWU_4 rxeLWU_4_0 := by
  intro S S' r r' hinv hX hin hsm_ hseg
  obtain ⟨I0, I1, h0_, hr_, b_, f_, d_⟩ := bx_cl (evs := []) (fvs := []) hseg (by decide +kernel) (by decide +kernel)
  have hinv : rxILWU_4 S0 ws S (r 8) (r 9) (r 10) := hinv
  rw [← hr_ 8 (by decide), ← hr_ 9 (by decide), ← hr_ 10 (by decide)] at hinv
  obtain ⟨⟨l8, u8⟩, ⟨l9, u9⟩, ⟨l10, u10⟩, -⟩ := b_
  have w_ := d_
  subst w_
  have g := rxdLWU_4_0 hP hin hsm_ I0 I1 hinv l8 u8 l9 u9 l10 u10
  refine ⟨bx_narP_ok (l := []) g.1, ?_⟩
  show rxPSLWU S0 ws S' (some (bx_num r' (.inr (0, (0, (-1))))))
  rw [bx_xv_ok h0_]
  exact g.2
theorem rxdLWU_6_0 {S0 : Nat → Int → Int} {ws : List Int} {S : Nat → Int → Int} {row cue z m r1 c1 v : Int} (hP : rxPLWU S0 ws) (hin : bx_same rxL (bx_mdl rxC202.2.2.1) S0 S) (hin2 : bx_same rxL (bx_mdl rxC202.2.2.1) S S) (I0 : bx_Inv rxL S) (I1 : bx_Inv rxL S) (hinv : rxILWU_6 S0 ws S row cue z m r1 c1 v) (l8 : 0 ≤ row) (u8 : row ≤ 3) (l9 : 0 ≤ cue) (u9 : cue ≤ 5) (l10 : 1 ≤ z) (u10 : z ≤ 3) (l11 : 1 ≤ m) (u11 : m ≤ 3) (l12 : 0 ≤ r1) (u12 : r1 ≤ 3) (l13 : 0 ≤ c1) (u13 : c1 ≤ 5) (l14 : (-2147483648) ≤ v) (u14 : v ≤ 2147483647) : (True) ∧ rxPSLWU S0 ws S (some v) := by
  obtain ⟨hw, hz, y, hy, hv⟩ := hinv
  exact ⟨trivial, row, cue, v, hw, rfl, fun q => by omega, fun _ => ⟨y, z, hz, hy, by rw [if_neg (by omega)]; exact hv⟩⟩
theorem rxfLWU_6_0 {X : (Nat → Int → Int) → Prop} {S0 : Nat → Int → Int} {ws : List Int} (hP : rxPLWU S0 ws) : bx_obE rxL X S0 rxC202.2.2.1 (rxILWU S0 ws) (rxPSLWU S0 ws) 6 rxzLWU_6 rxeLWU_6_0 := by
  intro S S' r r' hinv hX hin hsm_ hseg
  obtain ⟨I0, I1, h0_, hr_, b_, f_, d_⟩ := bx_cl (evs := []) (fvs := []) hseg (by decide +kernel) (by decide +kernel)
  have hinv : rxILWU_6 S0 ws S (r 8) (r 9) (r 10) (r 11) (r 12) (r 13) (r 14) := hinv
  rw [← hr_ 8 (by decide), ← hr_ 9 (by decide), ← hr_ 10 (by decide), ← hr_ 11 (by decide), ← hr_ 12 (by decide), ← hr_ 13 (by decide), ← hr_ 14 (by decide)] at hinv
  obtain ⟨⟨l8, u8⟩, ⟨l9, u9⟩, ⟨l10, u10⟩, ⟨l11, u11⟩, ⟨l12, u12⟩, ⟨l13, u13⟩, ⟨l14, u14⟩, -⟩ := b_
  have w_ := d_
  subst w_
  have g := rxdLWU_6_0 hP hin hsm_ I0 I1 hinv l8 u8 l9 u9 l10 u10 l11 u11 l12 u12 l13 u13 l14 u14
  refine ⟨bx_narP_ok (l := []) g.1, ?_⟩
  show rxPSLWU S0 ws S' (some (bx_num r' (.inr (0, (14, 0)))))
  rw [bx_xv_ok h0_]
  exact g.2
theorem rxgCLWU {X : (Nat → Int → Int) → Prop} {S0 : Nat → Int → Int} {ws : List Int} (hP : rxPLWU S0 ws) : bx_allI (fun i q => rxULWU q = true ∨ bx_allP (fun o => bx_obC rxL X S0 rxC202.2.2.1 (rxILWU S0 ws) (rxmLWU S0 ws) i q.1 o) q.2.1) 0 rxYLWU := ⟨Or.inr ⟨rxgLWU_0_0 hP, trivial⟩, Or.inl rfl, Or.inr ⟨rxgLWU_2_0 hP, trivial⟩, Or.inl rfl, Or.inr ⟨rxgLWU_4_0 hP, trivial⟩, Or.inl rfl, Or.inr trivial, trivial⟩
theorem rxgELWU {X : (Nat → Int → Int) → Prop} {S0 : Nat → Int → Int} {ws : List Int} (hP : rxPLWU S0 ws) : bx_allI (fun i q => rxULWU q = true ∨ bx_allP (fun E => bx_obE rxL X S0 rxC202.2.2.1 (rxILWU S0 ws) (rxPSLWU S0 ws) i q.1 E) q.2.2) 0 rxYLWU := ⟨Or.inr ⟨rxfLWU_0_0 hP, rxfLWU_0_1 hP, rxfLWU_0_2 hP, rxfLWU_0_3 hP, trivial⟩, Or.inl rfl, Or.inr trivial, Or.inl rfl, Or.inr ⟨rxfLWU_4_0 hP, trivial⟩, Or.inl rfl, Or.inr ⟨rxfLWU_6_0 hP, trivial⟩, trivial⟩
theorem rxuLWU {PX : State → Prop} {Dg : va_G} {A : Nat → Prop} {ad xa : Nat → Nat} {l : Launch} {X : (Nat → Int → Int) → Prop} (hPX : rx_PXOK rxNW A PX) (hX : ∀ S S1 : Nat → Int → Int, X S → bx_same rxL (bx_mdl rxC202.2.2.1) S S1 → X S1) (hQLLY : bx_ConP rxG rxNW rxAO PX Dg rxL X vwCl A ad l rxM147 rxCLLY rxPLLY rxPSLLY) (hQLFS : bx_ConP rxG rxNW rxAO PX Dg rxL X vwCl A ad l rxM148 rxCLFS rxPLFS rxPSLFS) (hQLWB : bx_ConP rxG rxNW rxAO PX Dg rxL X vwCl A ad l rxM150 rxCLWB rxPLWB rxPSLWB) {S0 : Nat → Int → Int} {ws : List Int} (hP : rxPLWU S0 ws) : ∀ (i : Nat) (q : bx_HE), rxYLWU[i]? = some q → rxULWU q = true → ∀ {p : Program} {e : Env} {R : Room} {s : State} {m : MethodId} {args : Array Value} {below : List Frame} {meth : Method} {c : Code} {Q : State → Prop} {H0 : Heap}, rx_Fr rxG rxNW rxAO PX p s m args meth c rxM202 → (∀ q, H0.size ≤ q → A q) → H0 = s.heap → rxM202.2.2.2.2.2.2.1 ≤ R.cells → rxM202.2.2.2.2.2.2.2 ≤ R.slots → rxC202.2.2.2.1 ≤ R.frames → rxC202.2.2.2.1 * 40 ≤ R.locals → bx_Step p l e R s m args below meth c Q Dg rxL X vwCl A xa H0 ad rxM202 rxYLWU (rxILWU S0 ws) (rxmLWU S0 ws) S0 rxC202.2.2.1 i q := by
  intro i q hq hus p e R s m args below meth c Q H0 hF hA hH0 hmc hms hd hdl
  match i, hq with
  | 0, hq =>
    cases hq
    exact absurd (show false = true from hus) Bool.false_ne_true
  | 1, hq =>
    cases hq
    exact rx_stepC (ins := .invokevirtual 408) (len := 3) (i' := 2) (M' := rxM147) (d := rxC202.2.2.2.1) (as := [.inr (3, (0, 451)), .inr (3, (0, 14))]) (t := []) (ct := rxCLLY) hPX hF rfl hA hH0 hmc hms hd hdl (by decide +kernel) rfl rfl (by decide +kernel) (by decide +kernel) hQLLY (by decide +kernel) rfl (Or.inl ⟨rfl, rfl, rfl⟩) (rxsLWU_1 hP)
  | 2, hq =>
    cases hq
    exact absurd (show false = true from hus) Bool.false_ne_true
  | 3, hq =>
    cases hq
    exact rx_stepC (ins := .invokevirtual 411) (len := 3) (i' := 4) (M' := rxM148) (d := rxC202.2.2.2.1) (as := [.inr (3, (0, 451))]) (t := []) (ct := rxCLFS) hPX hF rfl hA hH0 hmc hms hd hdl (by decide +kernel) rfl rfl (by decide +kernel) (by decide +kernel) hQLFS (by decide +kernel) rfl (Or.inr ⟨_, _, _, 1, rfl, rfl, by omega, rfl, rfl, rfl⟩) (rxsLWU_3 hP)
  | 4, hq =>
    cases hq
    exact absurd (show false = true from hus) Bool.false_ne_true
  | 5, hq =>
    cases hq
    exact rx_stepC (ins := .invokevirtual 417) (len := 3) (i' := 6) (M' := rxM150) (d := rxC202.2.2.2.1) (as := [.inr (3, (0, 451)), .inr (0, (11, 0)), .inr (0, (12, 0)), .inr (0, (13, 0))]) (t := []) (ct := rxCLWB) hPX hF rfl hA hH0 hmc hms hd hdl (by decide +kernel) rfl rfl (by decide +kernel) (by decide +kernel) hQLWB (by decide +kernel) rfl (Or.inr ⟨_, _, _, 1, rfl, rfl, by omega, rfl, rfl, rfl⟩) (rxsLWU_5 hP)
  | 6, hq =>
    cases hq
    exact absurd (show false = true from hus) Bool.false_ne_true
  | n + 7, hq => cases hq
theorem rxQLWU {PX : State → Prop} {Dg : va_G} {A : Nat → Prop} {ad xa : Nat → Nat} {l : Launch} {X : (Nat → Int → Int) → Prop} (hPX : rx_PXOK rxNW A PX) (hsl : ∀ s : State, PX s → ∀ o idx n : Nat, rxSl o idx = some n → ∃ tx : String, vk_R (rxNm o) idx tx (ad n) s)
    (hX : ∀ S S' : Nat → Int → Int, X S → bx_same rxL (bx_mdl rxC202.2.2.1) S S' → X S')
    (ih : ∀ (j2 : Nat) (ct2 : bx_Ct) (M2 : rx_Mt), ct2 ∈ rxCnE j2 → ct2.2.2.2.1 + 1 ≤ rxC202.2.2.2.1 → rxT.2.2.2.2.2 j2 = some M2 → bx_Con rxG rxNW rxAO PX Dg rxL X vwCl A ad l M2 ct2) (hQLLY : bx_ConP rxG rxNW rxAO PX Dg rxL X vwCl A ad l rxM147 rxCLLY rxPLLY rxPSLLY) (hQLFS : bx_ConP rxG rxNW rxAO PX Dg rxL X vwCl A ad l rxM148 rxCLFS rxPLFS rxPSLFS) (hQLWB : bx_ConP rxG rxNW rxAO PX Dg rxL X vwCl A ad l rxM150 rxCLWB rxPLWB rxPSLWB) : bx_ConP rxG rxNW rxAO PX Dg rxL X vwCl A ad l rxM202 rxC202 rxPLWU rxPSLWU :=
  rxQof (xa := xa) (Cn := rxCnE) (f := 30000) (j := 202) (tab := rxYLWU) (us := rxULWU) hPX hsl hX ih rfl rxYcLWU rxILWU rxmLWU
    (fun S0 ws r I0 I ht0 ht as he he1 hX0 hI0 hP hs ha => by
      have e := he.symm.trans (show bx_ent0 rxNP rxC202.1 bx_I0 [] = some ([(0, 0), (0, 0), (0, 0), (0, 0), (0, 0), (0, 0), (0, 0), (0, 0), ((-2147483648), 2147483647), ((-2147483648), 2147483647)], [], [.inr (3, (0, 0)), .inr (0, (8, 0)), .inr (0, (9, 0))]) from rfl)
      cases e
      subst ha
      have h0 : r 0 = 0 := hs.1
      show rxILWU_0 S0 _ S0 (r 8) (r 9)
      refine ⟨rfl, ?_⟩
      simp only [List.map_cons, List.map_nil, bx_xv_ok h0]
      rfl)
    (fun S0 ws hP => rxuLWU (xa := xa) hPX hX hQLLY hQLFS hQLWB hP) (fun S0 ws hP => rxgCLWU hP) (fun S0 ws hP => rxgELWU hP)
