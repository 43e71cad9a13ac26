/-! CONTRACT BY HAND, by program (wip/sim/genhand.py): DeadUnderstudies$Least.fewestStates -/
def rxCLFS : bx_Ct := ([(3, (1, 451, 0))], some (0, (0, (-1), 3)), [(4, 5), (4, 6), (4, 7), (4, 8), (4, 9), (4, 10), (1047, 0), (1048, 0), (1049, 0)], 29, [])
def rxILFS_0 (S0 : Nat → Int → Int) (ws : List Int) (S : Nat → Int → Int) : Prop := S = S0 ∧ ws = [451]
def rxmLFS_0 (S0 : Nat → Int → Int) (ws : List Int) (S : Nat → Int → Int) : Nat := 1000
def rxzLFS_0 : rx_Z := ([(0, 0), (0, 0), (0, 0), (0, 0), (0, 0), (0, 0), (0, 0), (0, 0)], [], [], 0, 0, 0, [(0, .inr (3, (0, 451)))], [])
def rxILFS_1 (S0 : Nat → Int → Int) (ws : List Int) (S : Nat → Int → Int) (s : Int) : Prop := (1 < s → ldNs S0 1 = 0) ∧ (2 < s → ldNs S0 2 = 0) ∧ (3 < s → ldNs S0 3 = 0)
def rxmLFS_1 (S0 : Nat → Int → Int) (ws : List Int) (S : Nat → Int → Int) (s : Int) : Nat := 10 * (20 - s).toNat + 9
def rxzLFS_1 : rx_Z := ([(0, 0), (0, 0), (0, 0), (0, 0), (0, 0), (0, 0), (0, 0), (0, 0), (1, 4)], [], [], 0, 0, 2, [(0, .inr (3, (0, 451))), (1, .inr (0, (8, 0)))], [])
def rxILFS_2 (S0 : Nat → Int → Int) (ws : List Int) (S : Nat → Int → Int) (s m : Int) : Prop := m = s ∧ (1 < s → ldNs S0 1 = 0) ∧ (2 < s → ldNs S0 2 = 0) ∧ (3 < s → ldNs S0 3 = 0)
def rxmLFS_2 (S0 : Nat → Int → Int) (ws : List Int) (S : Nat → Int → Int) (s m : Int) : Nat := 10 * (20 - s).toNat + 8
def rxzLFS_2 : rx_Z := ([(0, 0), (0, 0), (0, 0), (0, 0), (0, 0), (0, 0), (0, 0), (0, 0), (1, 3), (1, 3)], [], [], 0, 0, 12, [(0, .inr (3, (0, 451))), (1, .inr (0, (8, 0)))], [.inr (0, (0, 1)), .inr (0, (0, (-1))), .inr (0, (0, (-1))), .inr (0, (9, 0)), .inr (3, (0, 451))])
def rxILFS_3 (S0 : Nat → Int → Int) (ws : List Int) (S : Nat → Int → Int) (s m : Int) : Prop := (0 < S 451 9 ↔ ldNs S0 s ≠ 0) ∧ (1 < s → ldNs S0 1 = 0) ∧ (2 < s → ldNs S0 2 = 0) ∧ (3 < s → ldNs S0 3 = 0)
def rxmLFS_3 (S0 : Nat → Int → Int) (ws : List Int) (S : Nat → Int → Int) (s m : Int) : Nat := 10 * (20 - s).toNat + 7
def rxzLFS_3 : rx_Z := ([(0, 0), (0, 0), (0, 0), (0, 0), (0, 0), (0, 0), (0, 0), (0, 0), (1, 3), (1, 3)], [], [], 0, 0, 15, [(0, .inr (3, (0, 451))), (1, .inr (0, (8, 0)))], [])
def rxoLFS_0_0 : bx_HO := (([(0, 0), (0, 0), (0, 0), (0, 0), (0, 0), (0, 0), (0, 0), (0, 0)], [], [], 0, 0, 2, [(1, .inr (0, (0, 1))), (0, .inr (3, (0, 451)))], []), [], [], [(0, 0), (0, 0), (0, 0), (0, 0), (0, 0), (0, 0), (0, 0), (0, 0), (0, 1)], 1)
def rxoLFS_1_0 : bx_HO := (([(0, 0), (0, 0), (0, 0), (0, 0), (0, 0), (0, 0), (0, 0), (0, 0), (1, 3)], [], [], 0, 0, 12, [(0, .inr (3, (0, 451))), (1, .inr (0, (8, 0)))], [.inr (0, (0, 1)), .inr (0, (0, (-1))), .inr (0, (0, (-1))), .inr (0, (8, 0)), .inr (3, (0, 451))]), [], [], [(0, 0), (0, 0), (0, 0), (0, 0), (0, 0), (0, 0), (0, 0), (0, 0), (8, 0), (8, 0)], 2)
def rxeLFS_1_0 : rx_End × List (Nat × Int × Int) := (([(0, 0), (0, 0), (0, 0), (0, 0), (0, 0), (0, 0), (0, 0), (0, 0), (4, 4)], [], [], some (.inr (0, (0, (-1))))), [])
def rxoLFS_3_0 : bx_HO := (([(0, 0), (0, 0), (0, 0), (0, 0), (0, 0), (0, 0), (0, 0), (0, 0), (1, 3), (1, 3), ((-2147483648), 0)], [], [(((0, 0), 1851192626986356799230700691457999792575411195110560459803787264000000), .inr (0, (10, 0))), (((0, 451), 9), .inr (0, (10, 0)))], 0, 0, 2, [(1, .inr (0, (8, 1))), (0, .inr (3, (0, 451)))], []), [], [], [(0, 0), (0, 0), (0, 0), (0, 0), (0, 0), (0, 0), (0, 0), (0, 0), (8, 1)], 1)
def rxeLFS_3_0 : rx_End × List (Nat × Int × Int) := (([(0, 0), (0, 0), (0, 0), (0, 0), (0, 0), (0, 0), (0, 0), (0, 0), (1, 3), (1, 3), (1, 2147483647)], [], [(((0, 0), 1851192626986356799230700691457999792575411195110560459803787264000000), .inr (0, (10, 0))), (((0, 451), 9), .inr (0, (10, 0)))], some (.inr (0, (8, 0)))), [])
def rxYLFS : List bx_HE := [(rxzLFS_0, [rxoLFS_0_0], []), (rxzLFS_1, [rxoLFS_1_0], [rxeLFS_1_0]), (rxzLFS_2, [], []), (rxzLFS_3, [rxoLFS_3_0], [rxeLFS_3_0])]
def rxULFS (q : bx_HE) : Bool := Nat.beq (rx_zpc q.1) 12
def rxYBLFS : bx_B := (rxV, rxNP, rxDmf, bx_mdH rxCLFS.2.2.1)
set_option maxRecDepth 100000 in
theorem rxYcLFS : bx_chkH rxYBLFS rxM148 rxCLFS rxYLFS (rxULFS, fun cut z => rx_ex2 (rxCT rxYBLFS rxCnE) cut 30000 rxCLFS.2.2.2.1 148 z) = true := by decide +kernel
def rxILFS (S0 : Nat → Int → Int) (ws : List Int) (i : Nat) : bx_SP := fun S r => match i with | 0 => rxILFS_0 S0 ws S | 1 => rxILFS_1 S0 ws S (r 8) | 2 => rxILFS_2 S0 ws S (r 8) (r 9) | 3 => rxILFS_3 S0 ws S (r 8) (r 9) | _ => False
def rxmLFS (S0 : Nat → Int → Int) (ws : List Int) (i : Nat) (S : Nat → Int → Int) (r : Nat → Int) : Nat := match i with | 0 => rxmLFS_0 S0 ws S | 1 => rxmLFS_1 S0 ws S (r 8) | 2 => rxmLFS_2 S0 ws S (r 8) (r 9) | 3 => rxmLFS_3 S0 ws S (r 8) (r 9) | _ => 0
def rxPLFS (S0 : Nat → Int → Int) (ws : List Int) : Prop := True
def rxPSLFS (S0 : Nat → Int → Int) (ws : List Int) (S : Nat → Int → Int) (w : Option Int) : Prop := ∃ z : Int, w = some z ∧ ldW (ldNs S0) z
theorem rxkLFS_2 {S0 : Nat → Int → Int} {ws : List Int} {S : Nat → Int → Int} {s m : Int} (hP : rxPLFS S0 ws) (hin : bx_same rxL (bx_mdl rxCLFS.2.2.1) S0 S) (I0 : bx_Inv rxL S) (hinv : rxILFS_2 S0 ws S s m) (l8 : 1 ≤ s) (u8 : s ≤ 3) (l9 : 1 ≤ m) (u9 : m ≤ 3) : rxPLSE S [451, m, (-1), (-1), 1] ∧ ∀ (S' : Nat → Int → Int), rxPSLSE S [451, m, (-1), (-1), 1] S' none → bx_Inv rxL S' → bx_same rxL (bx_mdl rxCLSE.2.2.1) S S' → rxILFS_3 S0 ws S' s m ∧ rxmLFS_3 S0 ws S' s m < rxmLFS_2 S0 ws S s m := by
  obtain ⟨hm, h1, h2, h3⟩ := hinv
  have fq := ldFq_of hin
  have hb9 := ld451 I0
  have f0 := fq.1
  have hn : S0 451 0 ≤ 12 := by omega
  subst hm
  refine ⟨⟨m, -1, -1, 1, rfl, fun _ => by omega, fun q => by omega⟩, fun S' hq I1 hsm => ?_⟩
  obtain ⟨-, m9, row9, cue9, one9, hw8, h4⟩ := hq
  simp only [List.cons.injEq, and_true, true_and] at hw8
  obtain ⟨e1, e2, e3, e4⟩ := hw8
  rw [← e1, ← e2, ← e3, ← e4, ldDm_fr hn fq] at h4
  refine ⟨⟨?_, h1, h2, h3⟩, by unfold rxmLFS_2 rxmLFS_3; omega⟩
  rw [h4.2.2.1 (by omega), ldNe, ldNs_m]
  exact ⟨fun q => q.elim (fun q => by omega) id, Or.inr⟩
theorem rxsLFS_2 {X : (Nat → Int → Int) → Prop} {S0 : Nat → Int → Int} {ws : List Int} (hP : rxPLFS S0 ws) : rx_obK X S0 rxCLFS.2.2.1 rxCLSE.2.2.1 (rxILFS S0 ws) (rxmLFS S0 ws) 2 3 rxzLFS_2 rxzLFS_3 [.inr (3, (0, 451)), .inr (0, (9, 0)), .inr (0, (0, (-1))), .inr (0, (0, (-1))), .inr (0, (0, 1))] none rxPLSE rxPSLSE := by
  intro S r hinv hXS I0 hin hs_ hf_
  have b_ := bx_bds_sat hs_
  have f_ := bx_fcl_ok hs_.1 hf_
  obtain ⟨⟨l8, u8⟩, ⟨l9, u9⟩, -⟩ := b_
  have g := rxkLFS_2 hP hin I0 hinv l8 u8 l9 u9
  have ea : List.map (bx_num r) [.inr (3, (0, 451)), .inr (0, (9, 0)), .inr (0, (0, (-1))), .inr (0, (0, (-1))), .inr (0, (0, 1))] = [451, (r 9), -1, -1, 1] := by
    simp only [List.map_cons, List.map_nil, bx_xv_ok hs_.1]
    rfl
  rw [ea]
  refine ⟨g.1, fun S' w r' hPS hX' I1 hsm hr hw hs' => ?_⟩
  have hw : w = none := hPS.1
  subst hw
  have g2 := g.2 S' hPS I1 hsm
  show rxILFS_3 S0 ws S' (r' 8) (r' 9) ∧ rxmLFS_3 S0 ws S' (r' 8) (r' 9) < _
  rw [hr 8 (by decide), hr 9 (by decide)]
  exact g2
theorem rxcLFS_0_0 {S0 : Nat → Int → Int} {ws : List Int} {S : Nat → Int → Int} (hP : rxPLFS S0 ws) (hin : bx_same rxL (bx_mdl rxCLFS.2.2.1) S0 S) (I0 : bx_Inv rxL S) (hinv : rxILFS_0 S0 ws S)  : (True) ∧ (True) ∧ rxILFS_1 S0 ws S 1 ∧ rxmLFS_1 S0 ws S 1 < rxmLFS_0 S0 ws S := by
  exact ⟨trivial, trivial, ⟨fun q => by omega, fun q => by omega, fun q => by omega⟩, by unfold rxmLFS_0 rxmLFS_1; omega⟩
theorem rxgLFS_0_0 {X : (Nat → Int → Int) → Prop} {S0 : Nat → Int → Int} {ws : List Int} (hP : rxPLFS S0 ws) : bx_obC rxL X S0 rxCLFS.2.2.1 (rxILFS S0 ws) (rxmLFS S0 ws) 0 rxzLFS_0 rxoLFS_0_0 := by
  intro S S' r r' hinv hX hin hsm_ hseg
  obtain ⟨I0, I1, h0_, hr_, b_, f_, d_⟩ := bx_cl (evs := []) (fvs := []) hseg (by decide +kernel) (by decide +kernel)
  have hinv : rxILFS_0 S0 ws S := hinv
  have w_ := d_
  subst w_
  have g := rxcLFS_0_0 hP hin I0 hinv 
  refine ⟨bx_narP_ok (l := []) g.1, bx_nfP_ok h0_ (fvs := []) (by decide +kernel) g.2.1, ?_, ?_⟩
  · show rxILFS_1 S0 ws S' (bx_val [(0, 0), (0, 0), (0, 0), (0, 0), (0, 0), (0, 0), (0, 0), (0, 0), (0, 1)] r' 8)
    rw [bx_val_x (n := 8) (e := (0, 1)) h0_ rfl]
    exact g.2.2.1
  · show rxmLFS_1 S0 ws S' (bx_val [(0, 0), (0, 0), (0, 0), (0, 0), (0, 0), (0, 0), (0, 0), (0, 0), (0, 1)] r' 8) < rxmLFS_0 S0 ws S'
    rw [bx_val_x (n := 8) (e := (0, 1)) h0_ rfl]
    exact g.2.2.2
theorem rxcLFS_1_0 {S0 : Nat → Int → Int} {ws : List Int} {S : Nat → Int → Int} {s : Int} (hP : rxPLFS S0 ws) (hin : bx_same rxL (bx_mdl rxCLFS.2.2.1) S0 S) (I0 : bx_Inv rxL S) (hinv : rxILFS_1 S0 ws S s) (l8 : 1 ≤ s) (u8 : s ≤ 3) : (True) ∧ (True) ∧ rxILFS_2 S0 ws S s s ∧ rxmLFS_2 S0 ws S s s < rxmLFS_1 S0 ws S s := by
  exact ⟨by first | trivial | exact ⟨by omega, trivial⟩, trivial, ⟨rfl, hinv⟩, by unfold rxmLFS_1 rxmLFS_2; omega⟩
theorem rxgLFS_1_0 {X : (Nat → Int → Int) → Prop} {S0 : Nat → Int → Int} {ws : List Int} (hP : rxPLFS S0 ws) : bx_obC rxL X S0 rxCLFS.2.2.1 (rxILFS S0 ws) (rxmLFS S0 ws) 1 rxzLFS_1 rxoLFS_1_0 := by
  intro S S' r r' hinv hX hin hsm_ hseg
  obtain ⟨I0, I1, h0_, hr_, b_, f_, d_⟩ := bx_cl (evs := []) (fvs := []) hseg (by decide +kernel) (by decide +kernel)
  have hinv : rxILFS_1 S0 ws S (r 8) := hinv
  rw [← hr_ 8 (by decide)] at hinv
  obtain ⟨⟨l8, u8⟩, -⟩ := b_
  have w_ := d_
  subst w_
  have g := rxcLFS_1_0 hP hin I0 hinv l8 u8
  refine ⟨bx_narP_ok (l := []) g.1, bx_nfP_ok h0_ (fvs := []) (by decide +kernel) g.2.1, ?_, ?_⟩
  · show rxILFS_2 S0 ws S' (bx_val [(0, 0), (0, 0), (0, 0), (0, 0), (0, 0), (0, 0), (0, 0), (0, 0), (8, 0), (8, 0)] r' 8) (bx_val [(0, 0), (0, 0), (0, 0), (0, 0), (0, 0), (0, 0), (0, 0), (0, 0), (8, 0), (8, 0)] r' 9)
    rw [bx_val_x (n := 8) (e := (8, 0)) h0_ rfl, bx_val_x (n := 9) (e := (8, 0)) h0_ rfl]
    exact g.2.2.1
  · show rxmLFS_2 S0 ws S' (bx_val [(0, 0), (0, 0), (0, 0), (0, 0), (0, 0), (0, 0), (0, 0), (0, 0), (8, 0), (8, 0)] r' 8) (bx_val [(0, 0), (0, 0), (0, 0), (0, 0), (0, 0), (0, 0), (0, 0), (0, 0), (8, 0), (8, 0)] r' 9) < rxmLFS_1 S0 ws S' (r 8)
    rw [bx_val_x (n := 8) (e := (8, 0)) h0_ rfl, bx_val_x (n := 9) (e := (8, 0)) h0_ rfl, ← hr_ 8 (by decide)]
    exact g.2.2.2
theorem rxdLFS_1_0 {S0 : Nat → Int → Int} {ws : List Int} {S : Nat → Int → Int} {s : Int} (hP : rxPLFS S0 ws) (hin : bx_same rxL (bx_mdl rxCLFS.2.2.1) S0 S) (hin2 : bx_same rxL (bx_mdl rxCLFS.2.2.1) S S) (I0 : bx_Inv rxL S) (I1 : bx_Inv rxL S) (hinv : rxILFS_1 S0 ws S s) (l8 : 4 ≤ s) (u8 : s ≤ 4) : (True) ∧ rxPSLFS S0 ws S (some ((-1))) := by
  obtain ⟨h1, h2, h3⟩ := hinv
  exact ⟨trivial, _, rfl, Or.inl ⟨rfl, h1 (by omega), h2 (by omega), h3 (by omega)⟩⟩
theorem rxfLFS_1_0 {X : (Nat → Int → Int) → Prop} {S0 : Nat → Int → Int} {ws : List Int} (hP : rxPLFS S0 ws) : bx_obE rxL X S0 rxCLFS.2.2.1 (rxILFS S0 ws) (rxPSLFS S0 ws) 1 rxzLFS_1 rxeLFS_1_0 := by
  intro S S' r r' hinv hX hin hsm_ hseg
  obtain ⟨I0, I1, h0_, hr_, b_, f_, d_⟩ := bx_cl (evs := []) (fvs := []) hseg (by decide +kernel) (by decide +kernel)
  have hinv : rxILFS_1 S0 ws S (r 8) := hinv
  rw [← hr_ 8 (by decide)] at hinv
  obtain ⟨⟨l8, u8⟩, -⟩ := b_
  have w_ := d_
  subst w_
  have g := rxdLFS_1_0 hP hin hsm_ I0 I1 hinv l8 u8
  refine ⟨bx_narP_ok (l := []) g.1, ?_⟩
  show rxPSLFS S0 ws S' (some (bx_num r' (.inr (0, (0, (-1))))))
  rw [bx_xv_ok h0_]
  exact g.2
theorem rxcLFS_3_0 {S0 : Nat → Int → Int} {ws : List Int} {S : Nat → Int → Int} {s m x10 : Int} (hP : rxPLFS S0 ws) (hin : bx_same rxL (bx_mdl rxCLFS.2.2.1) S0 S) (I0 : bx_Inv rxL S) (hinv : rxILFS_3 S0 ws S s m) (l8 : 1 ≤ s) (u8 : s ≤ 3) (l9 : 1 ≤ m) (u9 : m ≤ 3) (l10 : (-2147483648) ≤ x10) (u10 : x10 ≤ 0) (e0 : S 451 9 = x10) : (True) ∧ (True) ∧ rxILFS_1 S0 ws S (s + 1) ∧ rxmLFS_1 S0 ws S (s + 1) < rxmLFS_3 S0 ws S s m := by
  obtain ⟨h0, h1, h2, h3⟩ := hinv
  have h0 : ldNs S0 s = 0 := Classical.byContradiction fun q => by
    have := h0.mpr q
    omega
  have hs : s = 1 ∨ s = 2 ∨ s = 3 := by omega
  refine ⟨trivial, trivial, ⟨fun q => ?_, fun q => ?_, fun q => ?_⟩, by unfold rxmLFS_3 rxmLFS_1; omega⟩ <;> rcases hs with rfl | rfl | rfl <;> first | exact h0 | exact h1 (by omega) | exact h2 (by omega) | exact h3 (by omega) | (exfalso; omega)
theorem rxgLFS_3_0 {X : (Nat → Int → Int) → Prop} {S0 : Nat → Int → Int} {ws : List Int} (hP : rxPLFS S0 ws) : bx_obC rxL X S0 rxCLFS.2.2.1 (rxILFS S0 ws) (rxmLFS S0 ws) 3 rxzLFS_3 rxoLFS_3_0 := by
  intro S S' r r' hinv hX hin hsm_ hseg
  obtain ⟨I0, I1, h0_, hr_, b_, f_, d_⟩ := bx_cl (evs := [(0, (0, 451), (0, 9), .inr (0, (10, 0)))]) (fvs := []) hseg (by decide +kernel) (by decide +kernel)
  have hinv : rxILFS_3 S0 ws S (r 8) (r 9) := hinv
  rw [← hr_ 8 (by decide), ← hr_ 9 (by decide)] at hinv
  obtain ⟨⟨l8, u8⟩, ⟨l9, u9⟩, ⟨l10, u10⟩, -⟩ := b_
  obtain ⟨e0, w_⟩ := d_
  subst w_
  have g := rxcLFS_3_0 hP hin I0 hinv l8 u8 l9 u9 l10 u10 e0
  refine ⟨bx_narP_ok (l := []) g.1, bx_nfP_ok h0_ (fvs := []) (by decide +kernel) g.2.1, ?_, ?_⟩
  · show rxILFS_1 S0 ws S' (bx_val [(0, 0), (0, 0), (0, 0), (0, 0), (0, 0), (0, 0), (0, 0), (0, 0), (8, 1)] r' 8)
    rw [bx_val_x (n := 8) (e := (8, 1)) h0_ rfl]
    exact g.2.2.1
  · show rxmLFS_1 S0 ws S' (bx_val [(0, 0), (0, 0), (0, 0), (0, 0), (0, 0), (0, 0), (0, 0), (0, 0), (8, 1)] r' 8) < rxmLFS_3 S0 ws S' (r 8) (r 9)
    rw [bx_val_x (n := 8) (e := (8, 1)) h0_ rfl, ← hr_ 8 (by decide), ← hr_ 9 (by decide)]
    exact g.2.2.2
theorem rxdLFS_3_0 {S0 : Nat → Int → Int} {ws : List Int} {S : Nat → Int → Int} {s m x10 : Int} (hP : rxPLFS S0 ws) (hin : bx_same rxL (bx_mdl rxCLFS.2.2.1) S0 S) (hin2 : bx_same rxL (bx_mdl rxCLFS.2.2.1) S S) (I0 : bx_Inv rxL S) (I1 : bx_Inv rxL S) (hinv : rxILFS_3 S0 ws S s m) (l8 : 1 ≤ s) (u8 : s ≤ 3) (l9 : 1 ≤ m) (u9 : m ≤ 3) (l10 : 1 ≤ x10) (u10 : x10 ≤ 2147483647) (e0 : S 451 9 = x10) : (True) ∧ rxPSLFS S0 ws S (some s) := by
  obtain ⟨h0, h1, h2, h3⟩ := hinv
  have h0 := h0.mp (by omega)
  refine ⟨trivial, _, rfl, ?_⟩
  unfold ldW
  have hs : s = 1 ∨ s = 2 ∨ s = 3 := by omega
  rcases hs with rfl | rfl | rfl
  · exact Or.inr (Or.inl ⟨rfl, h0⟩)
  · exact Or.inr (Or.inr (Or.inl ⟨rfl, h1 (by omega), h0⟩))
  · exact Or.inr (Or.inr (Or.inr ⟨rfl, h1 (by omega), h2 (by omega), h0⟩))
theorem rxfLFS_3_0 {X : (Nat → Int → Int) → Prop} {S0 : Nat → Int → Int} {ws : List Int} (hP : rxPLFS S0 ws) : bx_obE rxL X S0 rxCLFS.2.2.1 (rxILFS S0 ws) (rxPSLFS S0 ws) 3 rxzLFS_3 rxeLFS_3_0 := by
  intro S S' r r' hinv hX hin hsm_ hseg
  obtain ⟨I0, I1, h0_, hr_, b_, f_, d_⟩ := bx_cl (evs := [(0, (0, 451), (0, 9), .inr (0, (10, 0)))]) (fvs := []) hseg (by decide +kernel) (by decide +kernel)
  have hinv : rxILFS_3 S0 ws S (r 8) (r 9) := hinv
  rw [← hr_ 8 (by decide), ← hr_ 9 (by decide)] at hinv
  obtain ⟨⟨l8, u8⟩, ⟨l9, u9⟩, ⟨l10, u10⟩, -⟩ := b_
  obtain ⟨e0, w_⟩ := d_
  subst w_
  have g := rxdLFS_3_0 hP hin hsm_ I0 I1 hinv l8 u8 l9 u9 l10 u10 e0
  refine ⟨bx_narP_ok (l := []) g.1, ?_⟩
  show rxPSLFS S0 ws S' (some (bx_num r' (.inr (0, (8, 0)))))
  rw [bx_xv_ok h0_]
  exact g.2
theorem rxgCLFS {X : (Nat → Int → Int) → Prop} {S0 : Nat → Int → Int} {ws : List Int} (hP : rxPLFS S0 ws) : bx_allI (fun i q => rxULFS q = true ∨ bx_allP (fun o => bx_obC rxL X S0 rxCLFS.2.2.1 (rxILFS S0 ws) (rxmLFS S0 ws) i q.1 o) q.2.1) 0 rxYLFS := ⟨Or.inr ⟨rxgLFS_0_0 hP, trivial⟩, Or.inr ⟨rxgLFS_1_0 hP, trivial⟩, Or.inl rfl, Or.inr ⟨rxgLFS_3_0 hP, trivial⟩, trivial⟩
theorem rxgELFS {X : (Nat → Int → Int) → Prop} {S0 : Nat → Int → Int} {ws : List Int} (hP : rxPLFS S0 ws) : bx_allI (fun i q => rxULFS q = true ∨ bx_allP (fun E => bx_obE rxL X S0 rxCLFS.2.2.1 (rxILFS S0 ws) (rxPSLFS S0 ws) i q.1 E) q.2.2) 0 rxYLFS := ⟨Or.inr trivial, Or.inr ⟨rxfLFS_1_0 hP, trivial⟩, Or.inl rfl, Or.inr ⟨rxfLFS_3_0 hP, trivial⟩, trivial⟩
theorem rxuLFS {PX : State → Prop} {Dg : va_G} {A : Nat → Prop} {ad xa : Nat → Nat} {l : Launch} {X : (Nat → Int → Int) → Prop} (hPX : rx_PXOK rxNW A PX) (hX : ∀ S S1 : Nat → Int → Int, X S → bx_same rxL (bx_mdl rxCLFS.2.2.1) S S1 → X S1) (hQLSE : bx_ConP rxG rxNW rxAO PX Dg rxL X vwCl A ad l rxM52 rxCLSE rxPLSE rxPSLSE) {S0 : Nat → Int → Int} {ws : List Int} (hP : rxPLFS S0 ws) : ∀ (i : Nat) (q : bx_HE), rxYLFS[i]? = some q → rxULFS q = true → ∀ {p : Program} {e : Env} {R : Room} {s : State} {m : MethodId} {args : Array Value} {below : List Frame} {meth : Method} {c : Code} {Q : State → Prop} {H0 : Heap}, rx_Fr rxG rxNW rxAO PX p s m args meth c rxM148 → (∀ q, H0.size ≤ q → A q) → H0 = s.heap → rxM148.2.2.2.2.2.2.1 ≤ R.cells → rxM148.2.2.2.2.2.2.2 ≤ R.slots → rxCLFS.2.2.2.1 ≤ R.frames → rxCLFS.2.2.2.1 * 40 ≤ R.locals → bx_Step p l e R s m args below meth c Q Dg rxL X vwCl A xa H0 ad rxM148 rxYLFS (rxILFS S0 ws) (rxmLFS S0 ws) S0 rxCLFS.2.2.1 i q := by
  intro i q hq hus p e R s m args below meth c Q H0 hF hA hH0 hmc hms hd hdl
  match i, hq with
  | 0, hq =>
    cases hq
    exact absurd (show false = true from hus) Bool.false_ne_true
  | 1, hq =>
    cases hq
    exact absurd (show false = true from hus) Bool.false_ne_true
  | 2, hq =>
    cases hq
    exact rx_stepC (ins := .invokevirtual 62) (len := 3) (i' := 3) (M' := rxM52) (d := rxCLFS.2.2.2.1) (as := [.inr (3, (0, 451)), .inr (0, (9, 0)), .inr (0, (0, (-1))), .inr (0, (0, (-1))), .inr (0, (0, 1))]) (t := []) (ct := rxCLSE) hPX hF rfl hA hH0 hmc hms hd hdl (by decide +kernel) rfl rfl (by decide +kernel) (by decide +kernel) hQLSE (by decide +kernel) rfl (Or.inl ⟨rfl, rfl, rfl⟩) (rxsLFS_2 hP)
  | 3, hq =>
    cases hq
    exact absurd (show false = true from hus) Bool.false_ne_true
  | n + 4, hq => cases hq
theorem rxQLFS {PX : State → Prop} {Dg : va_G} {A : Nat → Prop} {ad xa : Nat → Nat} {l : Launch} {X : (Nat → Int → Int) → Prop} (hPX : rx_PXOK rxNW A PX) (hsl : ∀ s : State, PX s → ∀ o idx n : Nat, rxSl o idx = some n → ∃ tx : String, vk_R (rxNm o) idx tx (ad n) s)
    (hX : ∀ S S' : Nat → Int → Int, X S → bx_same rxL (bx_mdl rxCLFS.2.2.1) S S' → X S')
    (ih : ∀ (j2 : Nat) (ct2 : bx_Ct) (M2 : rx_Mt), ct2 ∈ rxCnE j2 → ct2.2.2.2.1 + 1 ≤ rxCLFS.2.2.2.1 → rxT.2.2.2.2.2 j2 = some M2 → bx_Con rxG rxNW rxAO PX Dg rxL X vwCl A ad l M2 ct2) (hQLSE : bx_ConP rxG rxNW rxAO PX Dg rxL X vwCl A ad l rxM52 rxCLSE rxPLSE rxPSLSE) : bx_ConP rxG rxNW rxAO PX Dg rxL X vwCl A ad l rxM148 rxCLFS rxPLFS rxPSLFS :=
  rxQof (xa := xa) (Cn := rxCnE) (f := 30000) (j := 148) (tab := rxYLFS) (us := rxULFS) hPX hsl hX ih rfl rxYcLFS rxILFS rxmLFS
    (fun S0 ws r I0 I ht0 ht as he he1 hX0 hI0 hP hs ha => by
      have e := he.symm.trans (show bx_ent0 rxNP rxCLFS.1 bx_I0 [] = some ([(0, 0), (0, 0), (0, 0), (0, 0), (0, 0), (0, 0), (0, 0), (0, 0)], [], [.inr (3, (0, 451))]) from rfl)
      cases e
      subst ha
      have h0 : r 0 = 0 := hs.1
      show rxILFS_0 S0 _ S0
      refine ⟨rfl, ?_⟩
      simp only [List.map_cons, List.map_nil, bx_xv_ok h0]
      rfl)
    (fun S0 ws hP => rxuLFS (xa := xa) hPX hX hQLSE hP) (fun S0 ws hP => rxgCLFS hP) (fun S0 ws hP => rxgELFS hP)
/-! CONTRACT BY HAND, by program (wip/sim/genhand.py): DeadUnderstudies$Least.countWays -/
def rxCLCW : bx_Ct := ([(3, (1, 451, 0)), (0, (0, 1, 3))], some (0, (0, (-2147483648), 2147483647)), [(4, 5), (4, 6), (4, 7), (4, 8), (4, 9), (4, 10), (1047, 0), (1048, 0), (1049, 0)], 29, [])
def rxILCW_0 (S0 : Nat → Int → Int) (ws : List Int) (S : Nat → Int → Int) (m : Int) : Prop := S = S0 ∧ ws = [451, m]
def rxmLCW_0 (S0 : Nat → Int → Int) (ws : List Int) (S : Nat → Int → Int) (m : Int) : Nat := 100
def rxzLCW_0 : rx_Z := ([(0, 0), (0, 0), (0, 0), (0, 0), (0, 0), (0, 0), (0, 0), (0, 0), (1, 3)], [], [], 0, 0, 0, [(0, .inr (3, (0, 451))), (1, .inr (0, (8, 0)))], [])
def rxILCW_1 (S0 : Nat → Int → Int) (ws : List Int) (S : Nat → Int → Int) (m m1 : Int) : Prop := m1 = m ∧ ws = [451, m]
def rxmLCW_1 (S0 : Nat → Int → Int) (ws : List Int) (S : Nat → Int → Int) (m m1 : Int) : Nat := 90
def rxzLCW_1 : rx_Z := ([(0, 0), (0, 0), (0, 0), (0, 0), (0, 0), (0, 0), (0, 0), (0, 0), (1, 3), (1, 3)], [], [], 0, 0, 5, [(0, .inr (3, (0, 451))), (1, .inr (0, (8, 0)))], [.inr (0, (0, 0)), .inr (0, (0, (-1))), .inr (0, (0, (-1))), .inr (0, (9, 0)), .inr (3, (0, 451))])
def rxILCW_2 (S0 : Nat → Int → Int) (ws : List Int) (S : Nat → Int → Int) (m m1 : Int) : Prop := ws = [451, m] ∧ S 451 9 = (ldNs S0 m : Nat)
def rxmLCW_2 (S0 : Nat → Int → Int) (ws : List Int) (S : Nat → Int → Int) (m m1 : Int) : Nat := 80
def rxzLCW_2 : rx_Z := ([(0, 0), (0, 0), (0, 0), (0, 0), (0, 0), (0, 0), (0, 0), (0, 0), (1, 3), (1, 3)], [], [], 0, 0, 8, [(0, .inr (3, (0, 451))), (1, .inr (0, (8, 0)))], [])
def rxoLCW_0_0 : bx_HO := (([(0, 0), (0, 0), (0, 0), (0, 0), (0, 0), (0, 0), (0, 0), (0, 0), (1, 3)], [], [], 0, 0, 5, [(0, .inr (3, (0, 451))), (1, .inr (0, (8, 0)))], [.inr (0, (0, 0)), .inr (0, (0, (-1))), .inr (0, (0, (-1))), .inr (0, (8, 0)), .inr (3, (0, 451))]), [], [], [(0, 0), (0, 0), (0, 0), (0, 0), (0, 0), (0, 0), (0, 0), (0, 0), (8, 0), (8, 0)], 1)
def rxeLCW_2_0 : rx_End × List (Nat × Int × Int) := (([(0, 0), (0, 0), (0, 0), (0, 0), (0, 0), (0, 0), (0, 0), (0, 0), (1, 3), (1, 3), ((-2147483648), 2147483647)], [], [(((0, 0), 1851192626986356799230700691457999792575411195110560459803787264000000), .inr (0, (10, 0))), (((0, 451), 9), .inr (0, (10, 0)))], some (.inr (0, (10, 0)))), [])
def rxYLCW : List bx_HE := [(rxzLCW_0, [rxoLCW_0_0], []), (rxzLCW_1, [], []), (rxzLCW_2, [], [rxeLCW_2_0])]
def rxULCW (q : bx_HE) : Bool := Nat.beq (rx_zpc q.1) 5
def rxYBLCW : bx_B := (rxV, rxNP, rxDmf, bx_mdH rxCLCW.2.2.1)
set_option maxRecDepth 100000 in
theorem rxYcLCW : bx_chkH rxYBLCW rxM149 rxCLCW rxYLCW (rxULCW, fun cut z => rx_ex2 (rxCT rxYBLCW rxCnE) cut 30000 rxCLCW.2.2.2.1 149 z) = true := by decide +kernel
def rxILCW (S0 : Nat → Int → Int) (ws : List Int) (i : Nat) : bx_SP := fun S r => match i with | 0 => rxILCW_0 S0 ws S (r 8) | 1 => rxILCW_1 S0 ws S (r 8) (r 9) | 2 => rxILCW_2 S0 ws S (r 8) (r 9) | _ => False
def rxmLCW (S0 : Nat → Int → Int) (ws : List Int) (i : Nat) (S : Nat → Int → Int) (r : Nat → Int) : Nat := match i with | 0 => rxmLCW_0 S0 ws S (r 8) | 1 => rxmLCW_1 S0 ws S (r 8) (r 9) | 2 => rxmLCW_2 S0 ws S (r 8) (r 9) | _ => 0
def rxPLCW (S0 : Nat → Int → Int) (ws : List Int) : Prop := True
def rxPSLCW (S0 : Nat → Int → Int) (ws : List Int) (S : Nat → Int → Int) (w : Option Int) : Prop := ∃ m : Int, ws = [451, m] ∧ w = some ((ldNs S0 m : Nat) : Int)
theorem rxkLCW_1 {S0 : Nat → Int → Int} {ws : List Int} {S : Nat → Int → Int} {m m1 : Int} (hP : rxPLCW S0 ws) (hin : bx_same rxL (bx_mdl rxCLCW.2.2.1) S0 S) (I0 : bx_Inv rxL S) (hinv : rxILCW_1 S0 ws S m m1) (l8 : 1 ≤ m) (u8 : m ≤ 3) (l9 : 1 ≤ m1) (u9 : m1 ≤ 3) : rxPLSE S [451, m1, (-1), (-1), 0] ∧ ∀ (S' : Nat → Int → Int), rxPSLSE S [451, m1, (-1), (-1), 0] S' none → bx_Inv rxL S' → bx_same rxL (bx_mdl rxCLSE.2.2.1) S S' → rxILCW_2 S0 ws S' m m1 ∧ rxmLCW_2 S0 ws S' m m1 < rxmLCW_1 S0 ws S m m1 := by
  obtain ⟨hm, hw⟩ := hinv
  have fq := ldFq_of hin
  have hb9 := ld451 I0
  have f0 := fq.1
  have hn : S0 451 0 ≤ 12 := by omega
  subst hm
  refine ⟨⟨m1, -1, -1, 0, rfl, fun q => absurd rfl q, fun q => by omega⟩, fun S' hq I1 hsm => ?_⟩
  obtain ⟨-, m9, row9, cue9, one9, hw8, h4⟩ := hq
  simp only [List.cons.injEq, and_true, true_and] at hw8
  obtain ⟨e1, e2, e3, e4⟩ := hw8
  rw [← e1, ← e2, ← e3, ← e4, ldDm_fr hn fq] at h4
  have h5 := h4.2.2.2.1 rfl (by omega)
  rw [ldNs_m] at h5
  exact ⟨⟨hw, by omega⟩, by unfold rxmLCW_1 rxmLCW_2; omega⟩
theorem rxsLCW_1 {X : (Nat → Int → Int) → Prop} {S0 : Nat → Int → Int} {ws : List Int} (hP : rxPLCW S0 ws) : rx_obK X S0 rxCLCW.2.2.1 rxCLSE.2.2.1 (rxILCW S0 ws) (rxmLCW S0 ws) 1 2 rxzLCW_1 rxzLCW_2 [.inr (3, (0, 451)), .inr (0, (9, 0)), .inr (0, (0, (-1))), .inr (0, (0, (-1))), .inr (0, (0, 0))] none rxPLSE rxPSLSE := by
  intro S r hinv hXS I0 hin hs_ hf_
  have b_ := bx_bds_sat hs_
  have f_ := bx_fcl_ok hs_.1 hf_
  obtain ⟨⟨l8, u8⟩, ⟨l9, u9⟩, -⟩ := b_
  have g := rxkLCW_1 hP hin I0 hinv l8 u8 l9 u9
  have ea : List.map (bx_num r) [.inr (3, (0, 451)), .inr (0, (9, 0)), .inr (0, (0, (-1))), .inr (0, (0, (-1))), .inr (0, (0, 0))] = [451, (r 9), -1, -1, 0] := by
    simp only [List.map_cons, List.map_nil, bx_xv_ok hs_.1]
    rfl
  rw [ea]
  refine ⟨g.1, fun S' w r' hPS hX' I1 hsm hr hw hs' => ?_⟩
  have hw : w = none := hPS.1
  subst hw
  have g2 := g.2 S' hPS I1 hsm
  show rxILCW_2 S0 ws S' (r' 8) (r' 9) ∧ rxmLCW_2 S0 ws S' (r' 8) (r' 9) < _
  rw [hr 8 (by decide), hr 9 (by decide)]
  exact g2
theorem rxcLCW_0_0 {S0 : Nat → Int → Int} {ws : List Int} {S : Nat → Int → Int} {m : Int} (hP : rxPLCW S0 ws) (hin : bx_same rxL (bx_mdl rxCLCW.2.2.1) S0 S) (I0 : bx_Inv rxL S) (hinv : rxILCW_0 S0 ws S m) (l8 : 1 ≤ m) (u8 : m ≤ 3) : (True) ∧ (True) ∧ rxILCW_1 S0 ws S m m ∧ rxmLCW_1 S0 ws S m m < rxmLCW_0 S0 ws S m := by
  obtain ⟨rfl, hw⟩ := hinv
  exact ⟨by first | trivial | exact ⟨by omega, trivial⟩, trivial, ⟨rfl, hw⟩, by unfold rxmLCW_0 rxmLCW_1; omega⟩
theorem rxgLCW_0_0 {X : (Nat → Int → Int) → Prop} {S0 : Nat → Int → Int} {ws : List Int} (hP : rxPLCW S0 ws) : bx_obC rxL X S0 rxCLCW.2.2.1 (rxILCW S0 ws) (rxmLCW S0 ws) 0 rxzLCW_0 rxoLCW_0_0 := by
  intro S S' r r' hinv hX hin hsm_ hseg
  obtain ⟨I0, I1, h0_, hr_, b_, f_, d_⟩ := bx_cl (evs := []) (fvs := []) hseg (by decide +kernel) (by decide +kernel)
  have hinv : rxILCW_0 S0 ws S (r 8) := hinv
  rw [← hr_ 8 (by decide)] at hinv
  obtain ⟨⟨l8, u8⟩, -⟩ := b_
  have w_ := d_
  subst w_
  have g := rxcLCW_0_0 hP hin I0 hinv l8 u8
  refine ⟨bx_narP_ok (l := []) g.1, bx_nfP_ok h0_ (fvs := []) (by decide +kernel) g.2.1, ?_, ?_⟩
  · show rxILCW_1 S0 ws S' (bx_val [(0, 0), (0, 0), (0, 0), (0, 0), (0, 0), (0, 0), (0, 0), (0, 0), (8, 0), (8, 0)] r' 8) (bx_val [(0, 0), (0, 0), (0, 0), (0, 0), (0, 0), (0, 0), (0, 0), (0, 0), (8, 0), (8, 0)] r' 9)
    rw [bx_val_x (n := 8) (e := (8, 0)) h0_ rfl, bx_val_x (n := 9) (e := (8, 0)) h0_ rfl]
    exact g.2.2.1
  · show rxmLCW_1 S0 ws S' (bx_val [(0, 0), (0, 0), (0, 0), (0, 0), (0, 0), (0, 0), (0, 0), (0, 0), (8, 0), (8, 0)] r' 8) (bx_val [(0, 0), (0, 0), (0, 0), (0, 0), (0, 0), (0, 0), (0, 0), (0, 0), (8, 0), (8, 0)] r' 9) < rxmLCW_0 S0 ws S' (r 8)
    rw [bx_val_x (n := 8) (e := (8, 0)) h0_ rfl, bx_val_x (n := 9) (e := (8, 0)) h0_ rfl, ← hr_ 8 (by decide)]
    exact g.2.2.2
theorem rxdLCW_2_0 {S0 : Nat → Int → Int} {ws : List Int} {S : Nat → Int → Int} {m m1 x10 : Int} (hP : rxPLCW S0 ws) (hin : bx_same rxL (bx_mdl rxCLCW.2.2.1) S0 S) (hin2 : bx_same rxL (bx_mdl rxCLCW.2.2.1) S S) (I0 : bx_Inv rxL S) (I1 : bx_Inv rxL S) (hinv : rxILCW_2 S0 ws S m m1) (l8 : 1 ≤ m) (u8 : m ≤ 3) (l9 : 1 ≤ m1) (u9 : m1 ≤ 3) (l10 : (-2147483648) ≤ x10) (u10 : x10 ≤ 2147483647) (e0 : S 451 9 = x10) : (True) ∧ rxPSLCW S0 ws S (some x10) := by
  obtain ⟨hw, h⟩ := hinv
  exact ⟨trivial, m, hw, congrArg some (e0.symm.trans h)⟩
theorem rxfLCW_2_0 {X : (Nat → Int → Int) → Prop} {S0 : Nat → Int → Int} {ws : List Int} (hP : rxPLCW S0 ws) : bx_obE rxL X S0 rxCLCW.2.2.1 (rxILCW S0 ws) (rxPSLCW S0 ws) 2 rxzLCW_2 rxeLCW_2_0 := by
  intro S S' r r' hinv hX hin hsm_ hseg
  obtain ⟨I0, I1, h0_, hr_, b_, f_, d_⟩ := bx_cl (evs := [(0, (0, 451), (0, 9), .inr (0, (10, 0)))]) (fvs := []) hseg (by decide +kernel) (by decide +kernel)
  have hinv : rxILCW_2 S0 ws S (r 8) (r 9) := hinv
  rw [← hr_ 8 (by decide), ← hr_ 9 (by decide)] at hinv
  obtain ⟨⟨l8, u8⟩, ⟨l9, u9⟩, ⟨l10, u10⟩, -⟩ := b_
  obtain ⟨e0, w_⟩ := d_
  subst w_
  have g := rxdLCW_2_0 hP hin hsm_ I0 I1 hinv l8 u8 l9 u9 l10 u10 e0
  refine ⟨bx_narP_ok (l := []) g.1, ?_⟩
  show rxPSLCW S0 ws S' (some (bx_num r' (.inr (0, (10, 0)))))
  rw [bx_xv_ok h0_]
  exact g.2
theorem rxgCLCW {X : (Nat → Int → Int) → Prop} {S0 : Nat → Int → Int} {ws : List Int} (hP : rxPLCW S0 ws) : bx_allI (fun i q => rxULCW q = true ∨ bx_allP (fun o => bx_obC rxL X S0 rxCLCW.2.2.1 (rxILCW S0 ws) (rxmLCW S0 ws) i q.1 o) q.2.1) 0 rxYLCW := ⟨Or.inr ⟨rxgLCW_0_0 hP, trivial⟩, Or.inl rfl, Or.inr trivial, trivial⟩
theorem rxgELCW {X : (Nat → Int → Int) → Prop} {S0 : Nat → Int → Int} {ws : List Int} (hP : rxPLCW S0 ws) : bx_allI (fun i q => rxULCW q = true ∨ bx_allP (fun E => bx_obE rxL X S0 rxCLCW.2.2.1 (rxILCW S0 ws) (rxPSLCW S0 ws) i q.1 E) q.2.2) 0 rxYLCW := ⟨Or.inr trivial, Or.inl rfl, Or.inr ⟨rxfLCW_2_0 hP, trivial⟩, trivial⟩
theorem rxuLCW {PX : State → Prop} {Dg : va_G} {A : Nat → Prop} {ad xa : Nat → Nat} {l : Launch} {X : (Nat → Int → Int) → Prop} (hPX : rx_PXOK rxNW A PX) (hX : ∀ S S1 : Nat → Int → Int, X S → bx_same rxL (bx_mdl rxCLCW.2.2.1) S S1 → X S1) (hQLSE : bx_ConP rxG rxNW rxAO PX Dg rxL X vwCl A ad l rxM52 rxCLSE rxPLSE rxPSLSE) {S0 : Nat → Int → Int} {ws : List Int} (hP : rxPLCW S0 ws) : ∀ (i : Nat) (q : bx_HE), rxYLCW[i]? = some q → rxULCW q = true → ∀ {p : Program} {e : Env} {R : Room} {s : State} {m : MethodId} {args : Array Value} {below : List Frame} {meth : Method} {c : Code} {Q : State → Prop} {H0 : Heap}, rx_Fr rxG rxNW rxAO PX p s m args meth c rxM149 → (∀ q, H0.size ≤ q → A q) → H0 = s.heap → rxM149.2.2.2.2.2.2.1 ≤ R.cells → rxM149.2.2.2.2.2.2.2 ≤ R.slots → rxCLCW.2.2.2.1 ≤ R.frames → rxCLCW.2.2.2.1 * 40 ≤ R.locals → bx_Step p l e R s m args below meth c Q Dg rxL X vwCl A xa H0 ad rxM149 rxYLCW (rxILCW S0 ws) (rxmLCW S0 ws) S0 rxCLCW.2.2.1 i q := by
  intro i q hq hus p e R s m args below meth c Q H0 hF hA hH0 hmc hms hd hdl
  match i, hq with
  | 0, hq =>
    cases hq
    exact absurd (show false = true from hus) Bool.false_ne_true
  | 1, hq =>
    cases hq
    exact rx_stepC (ins := .invokevirtual 62) (len := 3) (i' := 2) (M' := rxM52) (d := rxCLCW.2.2.2.1) (as := [.inr (3, (0, 451)), .inr (0, (9, 0)), .inr (0, (0, (-1))), .inr (0, (0, (-1))), .inr (0, (0, 0))]) (t := []) (ct := rxCLSE) hPX hF rfl hA hH0 hmc hms hd hdl (by decide +kernel) rfl rfl (by decide +kernel) (by decide +kernel) hQLSE (by decide +kernel) rfl (Or.inl ⟨rfl, rfl, rfl⟩) (rxsLCW_1 hP)
  | 2, hq =>
    cases hq
    exact absurd (show false = true from hus) Bool.false_ne_true
  | n + 3, hq => cases hq
theorem rxQLCW {PX : State → Prop} {Dg : va_G} {A : Nat → Prop} {ad xa : Nat → Nat} {l : Launch} {X : (Nat → Int → Int) → Prop} (hPX : rx_PXOK rxNW A PX) (hsl : ∀ s : State, PX s → ∀ o idx n : Nat, rxSl o idx = some n → ∃ tx : String, vk_R (rxNm o) idx tx (ad n) s)
    (hX : ∀ S S' : Nat → Int → Int, X S → bx_same rxL (bx_mdl rxCLCW.2.2.1) S S' → X S')
    (ih : ∀ (j2 : Nat) (ct2 : bx_Ct) (M2 : rx_Mt), ct2 ∈ rxCnE j2 → ct2.2.2.2.1 + 1 ≤ rxCLCW.2.2.2.1 → rxT.2.2.2.2.2 j2 = some M2 → bx_Con rxG rxNW rxAO PX Dg rxL X vwCl A ad l M2 ct2) (hQLSE : bx_ConP rxG rxNW rxAO PX Dg rxL X vwCl A ad l rxM52 rxCLSE rxPLSE rxPSLSE) : bx_ConP rxG rxNW rxAO PX Dg rxL X vwCl A ad l rxM149 rxCLCW rxPLCW rxPSLCW :=
  rxQof (xa := xa) (Cn := rxCnE) (f := 30000) (j := 149) (tab := rxYLCW) (us := rxULCW) hPX hsl hX ih rfl rxYcLCW rxILCW rxmLCW
    (fun S0 ws r I0 I ht0 ht as he he1 hX0 hI0 hP hs ha => by
      have e := he.symm.trans (show bx_ent0 rxNP rxCLCW.1 bx_I0 [] = some ([(0, 0), (0, 0), (0, 0), (0, 0), (0, 0), (0, 0), (0, 0), (0, 0), (1, 3)], [], [.inr (3, (0, 451)), .inr (0, (8, 0))]) from rfl)
      cases e
      subst ha
      have h0 : r 0 = 0 := hs.1
      show rxILCW_0 S0 _ S0 (r 8)
      refine ⟨rfl, ?_⟩
      simp only [List.map_cons, List.map_nil, bx_xv_ok h0]
      rfl)
    (fun S0 ws hP => rxuLCW (xa := xa) hPX hX hQLSE hP) (fun S0 ws hP => rxgCLCW hP) (fun S0 ws hP => rxgELCW hP)
/-! CONTRACT BY HAND, by program (wip/sim/genhand.py): DeadUnderstudies$Least.wordsBehind -/
def rxCLWB : bx_Ct := ([(3, (1, 451, 0)), (0, (0, 1, 3)), (0, (0, 0, 3)), (0, (0, 0, 5))], some (0, (0, (-2147483648), 2147483647)), [(4, 5), (4, 6), (4, 7), (4, 8), (4, 9), (4, 10), (1047, 0), (1048, 0), (1049, 0)], 29, [])
def rxILWB_0 (S0 : Nat → Int → Int) (ws : List Int) (S : Nat → Int → Int) (m row cue : Int) : Prop := S = S0 ∧ ws = [451, m, row, cue]
def rxmLWB_0 (S0 : Nat → Int → Int) (ws : List Int) (S : Nat → Int → Int) (m row cue : Int) : Nat := 100
def rxzLWB_0 : rx_Z := ([(0, 0), (0, 0), (0, 0), (0, 0), (0, 0), (0, 0), (0, 0), (0, 0), (1, 3), (0, 3), (0, 5)], [], [], 0, 0, 0, [(0, .inr (3, (0, 451))), (1, .inr (0, (8, 0))), (2, .inr (0, (9, 0))), (3, .inr (0, (10, 0)))], [])
def rxILWB_1 (S0 : Nat → Int → Int) (ws : List Int) (S : Nat → Int → Int) (m row cue m1 r1 c1 : Int) : Prop := m1 = m ∧ r1 = row ∧ c1 = cue ∧ ws = [451, m, row, cue]
def rxmLWB_1 (S0 : Nat → Int → Int) (ws : List Int) (S : Nat → Int → Int) (m row cue m1 r1 c1 : Int) : Nat := 90
def rxzLWB_1 : rx_Z := ([(0, 0), (0, 0), (0, 0), (0, 0), (0, 0), (0, 0), (0, 0), (0, 0), (1, 3), (0, 3), (0, 5), (1, 3), (0, 3), (0, 5)], [], [], 0, 0, 5, [(0, .inr (3, (0, 451))), (1, .inr (0, (8, 0))), (2, .inr (0, (9, 0))), (3, .inr (0, (10, 0)))], [.inr (0, (0, 0)), .inr (0, (13, 0)), .inr (0, (12, 0)), .inr (0, (11, 0)), .inr (3, (0, 451))])
def rxILWB_2 (S0 : Nat → Int → Int) (ws : List Int) (S : Nat → Int → Int) (m row cue m1 r1 c1 : Int) : Prop := ws = [451, m, row, cue] ∧ S 451 10 = (ldB 0 (ldA (ldDm S0 m row cue)) : Nat)
def rxmLWB_2 (S0 : Nat → Int → Int) (ws : List Int) (S : Nat → Int → Int) (m row cue m1 r1 c1 : Int) : Nat := 80
def rxzLWB_2 : rx_Z := ([(0, 0), (0, 0), (0, 0), (0, 0), (0, 0), (0, 0), (0, 0), (0, 0), (1, 3), (0, 3), (0, 5), (1, 3), (0, 3), (0, 5)], [], [], 0, 0, 8, [(0, .inr (3, (0, 451))), (1, .inr (0, (8, 0))), (2, .inr (0, (9, 0))), (3, .inr (0, (10, 0)))], [])
def rxoLWB_0_0 : bx_HO := (([(0, 0), (0, 0), (0, 0), (0, 0), (0, 0), (0, 0), (0, 0), (0, 0), (1, 3), (0, 3), (0, 5)], [], [], 0, 0, 5, [(0, .inr (3, (0, 451))), (1, .inr (0, (8, 0))), (2, .inr (0, (9, 0))), (3, .inr (0, (10, 0)))], [.inr (0, (0, 0)), .inr (0, (10, 0)), .inr (0, (9, 0)), .inr (0, (8, 0)), .inr (3, (0, 451))]), [], [], [(0, 0), (0, 0), (0, 0), (0, 0), (0, 0), (0, 0), (0, 0), (0, 0), (8, 0), (9, 0), (10, 0), (8, 0), (9, 0), (10, 0)], 1)
def rxeLWB_2_0 : rx_End × List (Nat × Int × Int) := (([(0, 0), (0, 0), (0, 0), (0, 0), (0, 0), (0, 0), (0, 0), (0, 0), (1, 3), (0, 3), (0, 5), (1, 3), (0, 3), (0, 5), ((-2147483648), 2147483647)], [], [(((0, 0), 1851192626986356799431407398244775400849232659564395713357611008000000), .inr (0, (14, 0))), (((0, 451), 10), .inr (0, (14, 0)))], some (.inr (0, (14, 0)))), [])
def rxYLWB : List bx_HE := [(rxzLWB_0, [rxoLWB_0_0], []), (rxzLWB_1, [], []), (rxzLWB_2, [], [rxeLWB_2_0])]
def rxULWB (q : bx_HE) : Bool := Nat.beq (rx_zpc q.1) 5
def rxYBLWB : bx_B := (rxV, rxNP, rxDmf, bx_mdH rxCLWB.2.2.1)
set_option maxRecDepth 100000 in
theorem rxYcLWB : bx_chkH rxYBLWB rxM150 rxCLWB rxYLWB (rxULWB, fun cut z => rx_ex2 (rxCT rxYBLWB rxCnE) cut 30000 rxCLWB.2.2.2.1 150 z) = true := by decide +kernel
def rxILWB (S0 : Nat → Int → Int) (ws : List Int) (i : Nat) : bx_SP := fun S r => match i with | 0 => rxILWB_0 S0 ws S (r 8) (r 9) (r 10) | 1 => rxILWB_1 S0 ws S (r 8) (r 9) (r 10) (r 11) (r 12) (r 13) | 2 => rxILWB_2 S0 ws S (r 8) (r 9) (r 10) (r 11) (r 12) (r 13) | _ => False
def rxmLWB (S0 : Nat → Int → Int) (ws : List Int) (i : Nat) (S : Nat → Int → Int) (r : Nat → Int) : Nat := match i with | 0 => rxmLWB_0 S0 ws S (r 8) (r 9) (r 10) | 1 => rxmLWB_1 S0 ws S (r 8) (r 9) (r 10) (r 11) (r 12) (r 13) | 2 => rxmLWB_2 S0 ws S (r 8) (r 9) (r 10) (r 11) (r 12) (r 13) | _ => 0
def rxPLWB (S0 : Nat → Int → Int) (ws : List Int) : Prop := ∃ m row cue : Int, ws = [451, m, row, cue] ∧ S0 455 row < S0 451 0
def rxPSLWB (S0 : Nat → Int → Int) (ws : List Int) (S : Nat → Int → Int) (w : Option Int) : Prop := ∃ m row cue : Int, ws = [451, m, row, cue] ∧ w = some ((ldB 0 (ldA (ldDm S0 m row cue)) : Nat) : Int)
theorem rxkLWB_1 {S0 : Nat → Int → Int} {ws : List Int} {S : Nat → Int → Int} {m row cue m1 r1 c1 : Int} (hP : rxPLWB S0 ws) (hin : bx_same rxL (bx_mdl rxCLWB.2.2.1) S0 S) (I0 : bx_Inv rxL S) (hinv : rxILWB_1 S0 ws S m row cue m1 r1 c1) (l8 : 1 ≤ m) (u8 : m ≤ 3) (l9 : 0 ≤ row) (u9 : row ≤ 3) (l10 : 0 ≤ cue) (u10 : cue ≤ 5) (l11 : 1 ≤ m1) (u11 : m1 ≤ 3) (l12 : 0 ≤ r1) (u12 : r1 ≤ 3) (l13 : 0 ≤ c1) (u13 : c1 ≤ 5) : rxPLSE S [451, m1, r1, c1, 0] ∧ ∀ (S' : Nat → Int → Int), rxPSLSE S [451, m1, r1, c1, 0] S' none → bx_Inv rxL S' → bx_same rxL (bx_mdl rxCLSE.2.2.1) S S' → rxILWB_2 S0 ws S' m row cue m1 r1 c1 ∧ rxmLWB_2 S0 ws S' m row cue m1 r1 c1 < rxmLWB_1 S0 ws S m row cue m1 r1 c1 := by
  obtain ⟨hm, hr, hc, hw⟩ := hinv
  obtain ⟨m9, row9, cue9, hw2, hp⟩ := hP
  have w0_ : m = m9 := Option.some.inj (congrArg (fun l => l[1]?) (hw.symm.trans hw2))
  subst w0_
  have w1_ : row = row9 := Option.some.inj (congrArg (fun l => l[2]?) (hw.symm.trans hw2))
  subst w1_
  have w2_ : cue = cue9 := Option.some.inj (congrArg (fun l => l[3]?) (hw.symm.trans hw2))
  subst w2_
  have fq := ldFq_of hin
  have hb9 := ld451 I0
  have f0 := fq.1
  have hn : S0 451 0 ≤ 12 := by omega
  subst hm
  subst hr
  subst hc
  refine ⟨⟨m1, r1, c1, 0, rfl, fun q => absurd rfl q, fun q => ⟨by omega, by rw [fq.2.2.2.2 r1 (by omega) (by omega), f0]; exact hp⟩⟩, fun S' hq I1 hsm => ?_⟩
  obtain ⟨-, m8, row8, cue8, one8, hw8, h4⟩ := hq
  simp only [List.cons.injEq, and_true, true_and] at hw8
  obtain ⟨e1, e2, e3, e4⟩ := hw8
  rw [← e1, ← e2, ← e3, ← e4, ldDm_fr hn fq] at h4
  exact ⟨⟨hw, h4.2.2.2.2.2 (by omega)⟩, by unfold rxmLWB_1 rxmLWB_2; omega⟩
theorem rxsLWB_1 {X : (Nat → Int → Int) → Prop} {S0 : Nat → Int → Int} {ws : List Int} (hP : rxPLWB S0 ws) : rx_obK X S0 rxCLWB.2.2.1 rxCLSE.2.2.1 (rxILWB S0 ws) (rxmLWB S0 ws) 1 2 rxzLWB_1 rxzLWB_2 [.inr (3, (0, 451)), .inr (0, (11, 0)), .inr (0, (12, 0)), .inr (0, (13, 0)), .inr (0, (0, 0))] none rxPLSE rxPSLSE := by
  intro S r hinv hXS I0 hin hs_ hf_
  have b_ := bx_bds_sat hs_
  have f_ := bx_fcl_ok hs_.1 hf_
  obtain ⟨⟨l8, u8⟩, ⟨l9, u9⟩, ⟨l10, u10⟩, ⟨l11, u11⟩, ⟨l12, u12⟩, ⟨l13, u13⟩, -⟩ := b_
  have g := rxkLWB_1 hP hin I0 hinv l8 u8 l9 u9 l10 u10 l11 u11 l12 u12 l13 u13
  have ea : List.map (bx_num r) [.inr (3, (0, 451)), .inr (0, (11, 0)), .inr (0, (12, 0)), .inr (0, (13, 0)), .inr (0, (0, 0))] = [451, (r 11), (r 12), (r 13), 0] := by
    simp only [List.map_cons, List.map_nil, bx_xv_ok hs_.1]
    rfl
  rw [ea]
  refine ⟨g.1, fun S' w r' hPS hX' I1 hsm hr hw hs' => ?_⟩
  have hw : w = none := hPS.1
  subst hw
  have g2 := g.2 S' hPS I1 hsm
  show rxILWB_2 S0 ws S' (r' 8) (r' 9) (r' 10) (r' 11) (r' 12) (r' 13) ∧ rxmLWB_2 S0 ws S' (r' 8) (r' 9) (r' 10) (r' 11) (r' 12) (r' 13) < _
  rw [hr 8 (by decide), hr 9 (by decide), hr 10 (by decide), hr 11 (by decide), hr 12 (by decide), hr 13 (by decide)]
  exact g2
theorem rxcLWB_0_0 {S0 : Nat → Int → Int} {ws : List Int} {S : Nat → Int → Int} {m row cue : Int} (hP : rxPLWB S0 ws) (hin : bx_same rxL (bx_mdl rxCLWB.2.2.1) S0 S) (I0 : bx_Inv rxL S) (hinv : rxILWB_0 S0 ws S m row cue) (l8 : 1 ≤ m) (u8 : m ≤ 3) (l9 : 0 ≤ row) (u9 : row ≤ 3) (l10 : 0 ≤ cue) (u10 : cue ≤ 5) : (True) ∧ (True) ∧ rxILWB_1 S0 ws S m row cue m row cue ∧ rxmLWB_1 S0 ws S m row cue m row cue < rxmLWB_0 S0 ws S m row cue := by
  obtain ⟨rfl, hw⟩ := hinv
  exact ⟨by first | trivial | exact ⟨by omega, trivial⟩, trivial, ⟨rfl, rfl, rfl, hw⟩, by unfold rxmLWB_0 rxmLWB_1; omega⟩
theorem rxgLWB_0_0 {X : (Nat → Int → Int) → Prop} {S0 : Nat → Int → Int} {ws : List Int} (hP : rxPLWB S0 ws) : bx_obC rxL X S0 rxCLWB.2.2.1 (rxILWB S0 ws) (rxmLWB S0 ws) 0 rxzLWB_0 rxoLWB_0_0 := by
  intro S S' r r' hinv hX hin hsm_ hseg
  obtain ⟨I0, I1, h0_, hr_, b_, f_, d_⟩ := bx_cl (evs := []) (fvs := []) hseg (by decide +kernel) (by decide +kernel)
  have hinv : rxILWB_0 S0 ws S (r 8) (r 9) (r 10) := hinv
  rw [← hr_ 8 (by decide), ← hr_ 9 (by decide), ← hr_ 10 (by decide)] at hinv
  obtain ⟨⟨l8, u8⟩, ⟨l9, u9⟩, ⟨l10, u10⟩, -⟩ := b_
  have w_ := d_
  subst w_
  have g := rxcLWB_0_0 hP hin I0 hinv l8 u8 l9 u9 l10 u10
  refine ⟨bx_narP_ok (l := []) g.1, bx_nfP_ok h0_ (fvs := []) (by decide +kernel) g.2.1, ?_, ?_⟩
  · show rxILWB_1 S0 ws S' (bx_val [(0, 0), (0, 0), (0, 0), (0, 0), (0, 0), (0, 0), (0, 0), (0, 0), (8, 0), (9, 0), (10, 0), (8, 0), (9, 0), (10, 0)] r' 8) (bx_val [(0, 0), (0, 0), (0, 0), (0, 0), (0, 0), (0, 0), (0, 0), (0, 0), (8, 0), (9, 0), (10, 0), (8, 0), (9, 0), (10, 0)] r' 9) (bx_val [(0, 0), (0, 0), (0, 0), (0, 0), (0, 0), (0, 0), (0, 0), (0, 0), (8, 0), (9, 0), (10, 0), (8, 0), (9, 0), (10, 0)] r' 10) (bx_val [(0, 0), (0, 0), (0, 0), (0, 0), (0, 0), (0, 0), (0, 0), (0, 0), (8, 0), (9, 0), (10, 0), (8, 0), (9, 0), (10, 0)] r' 11) (bx_val [(0, 0), (0, 0), (0, 0), (0, 0), (0, 0), (0, 0), (0, 0), (0, 0), (8, 0), (9, 0), (10, 0), (8, 0), (9, 0), (10, 0)] r' 12) (bx_val [(0, 0), (0, 0), (0, 0), (0, 0), (0, 0), (0, 0), (0, 0), (0, 0), (8, 0), (9, 0), (10, 0), (8, 0), (9, 0), (10, 0)] r' 13)
    rw [bx_val_x (n := 8) (e := (8, 0)) h0_ rfl, bx_val_x (n := 9) (e := (9, 0)) h0_ rfl, bx_val_x (n := 10) (e := (10, 0)) h0_ rfl, bx_val_x (n := 11) (e := (8, 0)) h0_ rfl, bx_val_x (n := 12) (e := (9, 0)) h0_ rfl, bx_val_x (n := 13) (e := (10, 0)) h0_ rfl]
    exact g.2.2.1
  · show rxmLWB_1 S0 ws S' (bx_val [(0, 0), (0, 0), (0, 0), (0, 0), (0, 0), (0, 0), (0, 0), (0, 0), (8, 0), (9, 0), (10, 0), (8, 0), (9, 0), (10, 0)] r' 8) (bx_val [(0, 0), (0, 0), (0, 0), (0, 0), (0, 0), (0, 0), (0, 0), (0, 0), (8, 0), (9, 0), (10, 0), (8, 0), (9, 0), (10, 0)] r' 9) (bx_val [(0, 0), (0, 0), (0, 0), (0, 0), (0, 0), (0, 0), (0, 0), (0, 0), (8, 0), (9, 0), (10, 0), (8, 0), (9, 0), (10, 0)] r' 10) (bx_val [(0, 0), (0, 0), (0, 0), (0, 0), (0, 0), (0, 0), (0, 0), (0, 0), (8, 0), (9, 0), (10, 0), (8, 0), (9, 0), (10, 0)] r' 11) (bx_val [(0, 0), (0, 0), (0, 0), (0, 0), (0, 0), (0, 0), (0, 0), (0, 0), (8, 0), (9, 0), (10, 0), (8, 0), (9, 0), (10, 0)] r' 12) (bx_val [(0, 0), (0, 0), (0, 0), (0, 0), (0, 0), (0, 0), (0, 0), (0, 0), (8, 0), (9, 0), (10, 0), (8, 0), (9, 0), (10, 0)] r' 13) < rxmLWB_0 S0 ws S' (r 8) (r 9) (r 10)
    rw [bx_val_x (n := 8) (e := (8, 0)) h0_ rfl, bx_val_x (n := 9) (e := (9, 0)) h0_ rfl, bx_val_x (n := 10) (e := (10, 0)) h0_ rfl, bx_val_x (n := 11) (e := (8, 0)) h0_ rfl, bx_val_x (n := 12) (e := (9, 0)) h0_ rfl, bx_val_x (n := 13) (e := (10, 0)) h0_ rfl, ← hr_ 8 (by decide), ← hr_ 9 (by decide), ← hr_ 10 (by decide)]
    exact g.2.2.2
theorem rxdLWB_2_0 {S0 : Nat → Int → Int} {ws : List Int} {S : Nat → Int → Int} {m row cue m1 r1 c1 x14 : Int} (hP : rxPLWB S0 ws) (hin : bx_same rxL (bx_mdl rxCLWB.2.2.1) S0 S) (hin2 : bx_same rxL (bx_mdl rxCLWB.2.2.1) S S) (I0 : bx_Inv rxL S) (I1 : bx_Inv rxL S) (hinv : rxILWB_2 S0 ws S m row cue m1 r1 c1) (l8 : 1 ≤ m) (u8 : m ≤ 3) (l9 : 0 ≤ row) (u9 : row ≤ 3) (l10 : 0 ≤ cue) (u10 : cue ≤ 5) (l11 : 1 ≤ m1) (u11 : m1 ≤ 3) (l12 : 0 ≤ r1) (u12 : r1 ≤ 3) (l13 : 0 ≤ c1) (u13 : c1 ≤ 5) (l14 : (-2147483648) ≤ x14) (u14 : x14 ≤ 2147483647) (e0 : S 451 10 = x14) : (True) ∧ rxPSLWB S0 ws S (some x14) := by
  obtain ⟨hw, h⟩ := hinv
  exact ⟨trivial, m, row, cue, hw, congrArg some (e0.symm.trans h)⟩
theorem rxfLWB_2_0 {X : (Nat → Int → Int) → Prop} {S0 : Nat → Int → Int} {ws : List Int} (hP : rxPLWB S0 ws) : bx_obE rxL X S0 rxCLWB.2.2.1 (rxILWB S0 ws) (rxPSLWB S0 ws) 2 rxzLWB_2 rxeLWB_2_0 := by
  intro S S' r r' hinv hX hin hsm_ hseg
  obtain ⟨I0, I1, h0_, hr_, b_, f_, d_⟩ := bx_cl (evs := [(0, (0, 451), (0, 10), .inr (0, (14, 0)))]) (fvs := []) hseg (by decide +kernel) (by decide +kernel)
  have hinv : rxILWB_2 S0 ws S (r 8) (r 9) (r 10) (r 11) (r 12) (r 13) := hinv
  rw [← hr_ 8 (by decide), ← hr_ 9 (by decide), ← hr_ 10 (by decide), ← hr_ 11 (by decide), ← hr_ 12 (by decide), ← hr_ 13 (by decide)] at hinv
  obtain ⟨⟨l8, u8⟩, ⟨l9, u9⟩, ⟨l10, u10⟩, ⟨l11, u11⟩, ⟨l12, u12⟩, ⟨l13, u13⟩, ⟨l14, u14⟩, -⟩ := b_
  obtain ⟨e0, w_⟩ := d_
  subst w_
  have g := rxdLWB_2_0 hP hin hsm_ I0 I1 hinv l8 u8 l9 u9 l10 u10 l11 u11 l12 u12 l13 u13 l14 u14 e0
  refine ⟨bx_narP_ok (l := []) g.1, ?_⟩
  show rxPSLWB S0 ws S' (some (bx_num r' (.inr (0, (14, 0)))))
  rw [bx_xv_ok h0_]
  exact g.2
theorem rxgCLWB {X : (Nat → Int → Int) → Prop} {S0 : Nat → Int → Int} {ws : List Int} (hP : rxPLWB S0 ws) : bx_allI (fun i q => rxULWB q = true ∨ bx_allP (fun o => bx_obC rxL X S0 rxCLWB.2.2.1 (rxILWB S0 ws) (rxmLWB S0 ws) i q.1 o) q.2.1) 0 rxYLWB := ⟨Or.inr ⟨rxgLWB_0_0 hP, trivial⟩, Or.inl rfl, Or.inr trivial, trivial⟩
theorem rxgELWB {X : (Nat → Int → Int) → Prop} {S0 : Nat → Int → Int} {ws : List Int} (hP : rxPLWB S0 ws) : bx_allI (fun i q => rxULWB q = true ∨ bx_allP (fun E => bx_obE rxL X S0 rxCLWB.2.2.1 (rxILWB S0 ws) (rxPSLWB S0 ws) i q.1 E) q.2.2) 0 rxYLWB := ⟨Or.inr trivial, Or.inl rfl, Or.inr ⟨rxfLWB_2_0 hP, trivial⟩, trivial⟩
theorem rxuLWB {PX : State → Prop} {Dg : va_G} {A : Nat → Prop} {ad xa : Nat → Nat} {l : Launch} {X : (Nat → Int → Int) → Prop} (hPX : rx_PXOK rxNW A PX) (hX : ∀ S S1 : Nat → Int → Int, X S → bx_same rxL (bx_mdl rxCLWB.2.2.1) S S1 → X S1) (hQLSE : bx_ConP rxG rxNW rxAO PX Dg rxL X vwCl A ad l rxM52 rxCLSE rxPLSE rxPSLSE) {S0 : Nat → Int → Int} {ws : List Int} (hP : rxPLWB S0 ws) : ∀ (i : Nat) (q : bx_HE), rxYLWB[i]? = some q → rxULWB q = true → ∀ {p : Program} {e : Env} {R : Room} {s : State} {m : MethodId} {args : Array Value} {below : List Frame} {meth : Method} {c : Code} {Q : State → Prop} {H0 : Heap}, rx_Fr rxG rxNW rxAO PX p s m args meth c rxM150 → (∀ q, H0.size ≤ q → A q) → H0 = s.heap → rxM150.2.2.2.2.2.2.1 ≤ R.cells → rxM150.2.2.2.2.2.2.2 ≤ R.slots → rxCLWB.2.2.2.1 ≤ R.frames → rxCLWB.2.2.2.1 * 40 ≤ R.locals → bx_Step p l e R s m args below meth c Q Dg rxL X vwCl A xa H0 ad rxM150 rxYLWB (rxILWB S0 ws) (rxmLWB S0 ws) S0 rxCLWB.2.2.1 i q := by
  intro i q hq hus p e R s m args below meth c Q H0 hF hA hH0 hmc hms hd hdl
  match i, hq with
  | 0, hq =>
    cases hq
    exact absurd (show false = true from hus) Bool.false_ne_true
  | 1, hq =>
    cases hq
    exact rx_stepC (ins := .invokevirtual 62) (len := 3) (i' := 2) (M' := rxM52) (d := rxCLWB.2.2.2.1) (as := [.inr (3, (0, 451)), .inr (0, (11, 0)), .inr (0, (12, 0)), .inr (0, (13, 0)), .inr (0, (0, 0))]) (t := []) (ct := rxCLSE) hPX hF rfl hA hH0 hmc hms hd hdl (by decide +kernel) rfl rfl (by decide +kernel) (by decide +kernel) hQLSE (by decide +kernel) rfl (Or.inl ⟨rfl, rfl, rfl⟩) (rxsLWB_1 hP)
  | 2, hq =>
    cases hq
    exact absurd (show false = true from hus) Bool.false_ne_true
  | n + 3, hq => cases hq
theorem rxQLWB {PX : State → Prop} {Dg : va_G} {A : Nat → Prop} {ad xa : Nat → Nat} {l : Launch} {X : (Nat → Int → Int) → Prop} (hPX : rx_PXOK rxNW A PX) (hsl : ∀ s : State, PX s → ∀ o idx n : Nat, rxSl o idx = some n → ∃ tx : String, vk_R (rxNm o) idx tx (ad n) s)
    (hX : ∀ S S' : Nat → Int → Int, X S → bx_same rxL (bx_mdl rxCLWB.2.2.1) S S' → X S')
    (ih : ∀ (j2 : Nat) (ct2 : bx_Ct) (M2 : rx_Mt), ct2 ∈ rxCnE j2 → ct2.2.2.2.1 + 1 ≤ rxCLWB.2.2.2.1 → rxT.2.2.2.2.2 j2 = some M2 → bx_Con rxG rxNW rxAO PX Dg rxL X vwCl A ad l M2 ct2) (hQLSE : bx_ConP rxG rxNW rxAO PX Dg rxL X vwCl A ad l rxM52 rxCLSE rxPLSE rxPSLSE) : bx_ConP rxG rxNW rxAO PX Dg rxL X vwCl A ad l rxM150 rxCLWB rxPLWB rxPSLWB :=
  rxQof (xa := xa) (Cn := rxCnE) (f := 30000) (j := 150) (tab := rxYLWB) (us := rxULWB) hPX hsl hX ih rfl rxYcLWB rxILWB rxmLWB
    (fun S0 ws r I0 I ht0 ht as he he1 hX0 hI0 hP hs ha => by
      have e := he.symm.trans (show bx_ent0 rxNP rxCLWB.1 bx_I0 [] = some ([(0, 0), (0, 0), (0, 0), (0, 0), (0, 0), (0, 0), (0, 0), (0, 0), (1, 3), (0, 3), (0, 5)], [], [.inr (3, (0, 451)), .inr (0, (8, 0)), .inr (0, (9, 0)), .inr (0, (10, 0))]) from rfl)
      cases e
      subst ha
      have h0 : r 0 = 0 := hs.1
      show rxILWB_0 S0 _ S0 (r 8) (r 9) (r 10)
      refine ⟨rfl, ?_⟩
      simp only [List.map_cons, List.map_nil, bx_xv_ok h0]
      rfl)
    (fun S0 ws hP => rxuLWB (xa := xa) hPX hX hQLSE hP) (fun S0 ws hP => rxgCLWB hP) (fun S0 ws hP => rxgELWB hP)
