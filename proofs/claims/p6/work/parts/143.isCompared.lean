/-! CONTRACT BY HAND, by program (wip/sim/genhand.py): DeadUnderstudiesModel.isCompared -/
def rxCIC : bx_Ct := ([(3, (1, 480, 0))], some (0, (0, 0, 1)), [], 1, [])
def rxIIC_0 (S0 : Nat → Int → Int) (ws : List Int) (S : Nat → Int → Int) : Prop := S = S0 ∧ ws = [480]
def rxmIC_0 (S0 : Nat → Int → Int) (ws : List Int) (S : Nat → Int → Int) : Nat := 10000
def rxzIC_0 : rx_Z := ([(0, 0), (0, 0), (0, 0), (0, 0), (0, 0), (0, 0), (0, 0), (0, 0)], [], [], 0, 0, 0, [(0, .inr (3, (0, 480)))], [])
def rxIIC_1 (S0 : Nat → Int → Int) (ws : List Int) (S : Nat → Int → Int) (k : Int) : Prop := S = S0
def rxmIC_1 (S0 : Nat → Int → Int) (ws : List Int) (S : Nat → Int → Int) (k : Int) : Nat := 10 * (k + 5).toNat
def rxzIC_1 : rx_Z := ([(0, 0), (0, 0), (0, 0), (0, 0), (0, 0), (0, 0), (0, 0), (0, 0), ((-1), 399)], [], [], 0, 0, 7, [(0, .inr (3, (0, 480))), (1, .inr (0, (8, 0)))], [])
def rxoIC_0_0 : bx_HO := (([(0, 0), (0, 0), (0, 0), (0, 0), (0, 0), (0, 0), (0, 0), (0, 0), (0, 400)], [], [(((0, 0), 1851192626986356802241301293259633916682733161918089263128248320000000), .inr (0, (8, 0))), (((0, 480), 24), .inr (0, (8, 0)))], 0, 0, 7, [(1, .inr (0, (8, (-1)))), (0, .inr (3, (0, 480)))], []), [], [], [(0, 0), (0, 0), (0, 0), (0, 0), (0, 0), (0, 0), (0, 0), (0, 0), (8, (-1))], 1)
def rxoIC_1_0 : bx_HO := (([(0, 0), (0, 0), (0, 0), (0, 0), (0, 0), (0, 0), (0, 0), (0, 0), (0, 399), (20, 24)], [], [(((0, 0), 1851192626986356797424364830707437625680387377997778265153011712000000), .inr (0, (9, 0))), (((0, 480), 22), .inr (3, (0, 489)))], 0, 0, 7, [(1, .inr (0, (8, (-1)))), (0, .inr (3, (0, 480)))], []), [], [], [(0, 0), (0, 0), (0, 0), (0, 0), (0, 0), (0, 0), (0, 0), (0, 0), (8, (-1))], 1)
def rxeIC_1_0 : rx_End × List (Nat × Int × Int) := (([(0, 0), (0, 0), (0, 0), (0, 0), (0, 0), (0, 0), (0, 0), (0, 0), (0, 399), (0, 19), (0, 24)], [], [(((0, 0), 1851192626986356797424364830707437625680387377997778265153011712000000), .inr (0, (10, 0))), (((0, 0), 1851192626986356797424364830707437625680387377997778265153011712000000), .inr (0, (9, 0))), (((0, 480), 22), .inr (3, (0, 489)))], some (.inr (0, (0, 0)))), [])
def rxeIC_1_1 : rx_End × List (Nat × Int × Int) := (([(0, 0), (0, 0), (0, 0), (0, 0), (0, 0), (0, 0), (0, 0), (0, 0), (0, 399), (0, 19), (28, 32)], [], [(((0, 0), 1851192626986356797424364830707437625680387377997778265153011712000000), .inr (0, (10, 0))), (((0, 0), 1851192626986356797424364830707437625680387377997778265153011712000000), .inr (0, (9, 0))), (((0, 480), 22), .inr (3, (0, 489)))], some (.inr (0, (0, 0)))), [])
def rxeIC_1_2 : rx_End × List (Nat × Int × Int) := (([(0, 0), (0, 0), (0, 0), (0, 0), (0, 0), (0, 0), (0, 0), (0, 0), (0, 399), (0, 19), (25, 27)], [], [(((0, 0), 1851192626986356797424364830707437625680387377997778265153011712000000), .inr (0, (10, 0))), (((0, 0), 1851192626986356797424364830707437625680387377997778265153011712000000), .inr (0, (9, 0))), (((0, 480), 22), .inr (3, (0, 489)))], some (.inr (0, (0, 1)))), [])
def rxeIC_1_3 : rx_End × List (Nat × Int × Int) := (([(0, 0), (0, 0), (0, 0), (0, 0), (0, 0), (0, 0), (0, 0), (0, 0), (0, 399), (25, 32), (0, 24)], [], [(((0, 0), 1851192626986356797424364830707437625680387377997778265153011712000000), .inr (0, (10, 0))), (((0, 0), 1851192626986356797424364830707437625680387377997778265153011712000000), .inr (0, (9, 0))), (((0, 480), 22), .inr (3, (0, 489)))], some (.inr (0, (0, 0)))), [])
def rxeIC_1_4 : rx_End × List (Nat × Int × Int) := (([(0, 0), (0, 0), (0, 0), (0, 0), (0, 0), (0, 0), (0, 0), (0, 0), (0, 399), (25, 32), (28, 32)], [], [(((0, 0), 1851192626986356797424364830707437625680387377997778265153011712000000), .inr (0, (10, 0))), (((0, 0), 1851192626986356797424364830707437625680387377997778265153011712000000), .inr (0, (9, 0))), (((0, 480), 22), .inr (3, (0, 489)))], some (.inr (0, (0, 0)))), [])
def rxeIC_1_5 : rx_End × List (Nat × Int × Int) := (([(0, 0), (0, 0), (0, 0), (0, 0), (0, 0), (0, 0), (0, 0), (0, 0), (0, 399), (25, 32), (25, 27)], [], [(((0, 0), 1851192626986356797424364830707437625680387377997778265153011712000000), .inr (0, (10, 0))), (((0, 0), 1851192626986356797424364830707437625680387377997778265153011712000000), .inr (0, (9, 0))), (((0, 480), 22), .inr (3, (0, 489)))], some (.inr (0, (0, 1)))), [])
def rxeIC_1_6 : rx_End × List (Nat × Int × Int) := (([(0, 0), (0, 0), (0, 0), (0, 0), (0, 0), (0, 0), (0, 0), (0, 0), ((-1), (-1))], [], [], some (.inr (0, (0, 0)))), [])
def rxYIC : List bx_HE := [(rxzIC_0, [rxoIC_0_0], []), (rxzIC_1, [rxoIC_1_0], [rxeIC_1_0, rxeIC_1_1, rxeIC_1_2, rxeIC_1_3, rxeIC_1_4, rxeIC_1_5, rxeIC_1_6])]
def rxUIC (q : bx_HE) : Bool := false
def rxYBIC : bx_B := (rxV, rxNP, rxDmf, bx_mdH rxCIC.2.2.1)
set_option maxRecDepth 100000 in
theorem rxYcIC : bx_chkH rxYBIC rxM277 rxCIC rxYIC (rxUIC, fun cut z => rx_ex2 (rxCT rxYBIC rxCnE) cut 30000 rxCIC.2.2.2.1 277 z) = true := by decide +kernel
def rxIIC (S0 : Nat → Int → Int) (ws : List Int) (i : Nat) : bx_SP := fun S r => match i with | 0 => rxIIC_0 S0 ws S | 1 => rxIIC_1 S0 ws S (r 8) | _ => False
def rxmIC (S0 : Nat → Int → Int) (ws : List Int) (i : Nat) (S : Nat → Int → Int) (r : Nat → Int) : Nat := match i with | 0 => rxmIC_0 S0 ws S | 1 => rxmIC_1 S0 ws S (r 8) | _ => 0
def rxPIC (S0 : Nat → Int → Int) (ws : List Int) : Prop := True
def rxPSIC (S0 : Nat → Int → Int) (ws : List Int) (S : Nat → Int → Int) (w : Option Int) : Prop := S = S0
theorem rxcIC_0_0 {S0 : Nat → Int → Int} {ws : List Int} {S : Nat → Int → Int} {x8 : Int} (hP : rxPIC S0 ws) (hin : bx_same rxL (bx_mdl rxCIC.2.2.1) S0 S) (I0 : bx_Inv rxL S) (hinv : rxIIC_0 S0 ws S) (l8 : 0 ≤ x8) (u8 : x8 ≤ 400) (e0 : S 480 24 = x8) : (True) ∧ (True) ∧ rxIIC_1 S0 ws S (x8 + (-1)) ∧ rxmIC_1 S0 ws S (x8 + (-1)) < rxmIC_0 S0 ws S := by
  exact ⟨trivial, trivial, hinv.1, by unfold rxmIC_0 rxmIC_1; omega⟩
theorem rxgIC_0_0 {X : (Nat → Int → Int) → Prop} {S0 : Nat → Int → Int} {ws : List Int} (hP : rxPIC S0 ws) : bx_obC rxL X S0 rxCIC.2.2.1 (rxIIC S0 ws) (rxmIC S0 ws) 0 rxzIC_0 rxoIC_0_0 := by
  intro S S_p r r_p hinv hX hin hsm_ hseg
  obtain ⟨I0, I1, h0_, hr_, b_, f_, d_⟩ := bx_cl (evs := [(0, (0, 480), (0, 24), .inr (0, (8, 0)))]) (fvs := []) hseg (by decide +kernel) (by decide +kernel)
  have hinv : rxIIC_0 S0 ws S := hinv
  obtain ⟨⟨l8, u8⟩, -⟩ := b_
  obtain ⟨e0, w_⟩ := d_
  subst w_
  have g := rxcIC_0_0 hP hin I0 hinv l8 u8 e0
  refine ⟨bx_narP_ok (l := []) g.1, bx_nfP_ok h0_ (fvs := []) (by decide +kernel) g.2.1, ?_, ?_⟩
  · show rxIIC_1 S0 ws S_p (bx_val [(0, 0), (0, 0), (0, 0), (0, 0), (0, 0), (0, 0), (0, 0), (0, 0), (8, (-1))] r_p 8)
    rw [bx_val_x (n := 8) (e := (8, (-1))) h0_ rfl]
    exact g.2.2.1
  · show rxmIC_1 S0 ws S_p (bx_val [(0, 0), (0, 0), (0, 0), (0, 0), (0, 0), (0, 0), (0, 0), (0, 0), (8, (-1))] r_p 8) < rxmIC_0 S0 ws S_p
    rw [bx_val_x (n := 8) (e := (8, (-1))) h0_ rfl]
    exact g.2.2.2
theorem rxcIC_1_0 {S0 : Nat → Int → Int} {ws : List Int} {S : Nat → Int → Int} {k x9 : Int} (hP : rxPIC S0 ws) (hin : bx_same rxL (bx_mdl rxCIC.2.2.1) S0 S) (I0 : bx_Inv rxL S) (hinv : rxIIC_1 S0 ws S k) (l8 : 0 ≤ k) (u8 : k ≤ 399) (l9 : 20 ≤ x9) (u9 : x9 ≤ 24) (e0 : S 489 k = x9) : (True) ∧ (True) ∧ rxIIC_1 S0 ws S (k + (-1)) ∧ rxmIC_1 S0 ws S (k + (-1)) < rxmIC_1 S0 ws S k := by
  exact ⟨trivial, trivial, hinv, by unfold rxmIC_1; omega⟩
theorem rxgIC_1_0 {X : (Nat → Int → Int) → Prop} {S0 : Nat → Int → Int} {ws : List Int} (hP : rxPIC S0 ws) : bx_obC rxL X S0 rxCIC.2.2.1 (rxIIC S0 ws) (rxmIC S0 ws) 1 rxzIC_1 rxoIC_1_0 := by
  intro S S_p r r_p hinv hX hin hsm_ hseg
  obtain ⟨I0, I1, h0_, hr_, b_, f_, d_⟩ := bx_cl (evs := [(0, (0, 489), (8, 0), .inr (0, (9, 0)))]) (fvs := []) hseg (by decide +kernel) (by decide +kernel)
  have hinv : rxIIC_1 S0 ws S (r 8) := hinv
  rw [← hr_ 8 (by decide)] at hinv
  obtain ⟨⟨l8, u8⟩, ⟨l9, u9⟩, -⟩ := b_
  obtain ⟨e0, w_⟩ := d_
  subst w_
  have g := rxcIC_1_0 hP hin I0 hinv l8 u8 l9 u9 e0
  refine ⟨bx_narP_ok (l := []) g.1, bx_nfP_ok h0_ (fvs := []) (by decide +kernel) g.2.1, ?_, ?_⟩
  · show rxIIC_1 S0 ws S_p (bx_val [(0, 0), (0, 0), (0, 0), (0, 0), (0, 0), (0, 0), (0, 0), (0, 0), (8, (-1))] r_p 8)
    rw [bx_val_x (n := 8) (e := (8, (-1))) h0_ rfl]
    exact g.2.2.1
  · show rxmIC_1 S0 ws S_p (bx_val [(0, 0), (0, 0), (0, 0), (0, 0), (0, 0), (0, 0), (0, 0), (0, 0), (8, (-1))] r_p 8) < rxmIC_1 S0 ws S_p (r 8)
    rw [bx_val_x (n := 8) (e := (8, (-1))) h0_ rfl, ← hr_ 8 (by decide)]
    exact g.2.2.2
theorem rxdIC_1_0 {S0 : Nat → Int → Int} {ws : List Int} {S : Nat → Int → Int} {k x9 x10 : Int} (hP : rxPIC S0 ws) (hin : bx_same rxL (bx_mdl rxCIC.2.2.1) S0 S) (hin2 : bx_same rxL (bx_mdl rxCIC.2.2.1) S S) (I0 : bx_Inv rxL S) (I1 : bx_Inv rxL S) (hinv : rxIIC_1 S0 ws S k) (l8 : 0 ≤ k) (u8 : k ≤ 399) (l9 : 0 ≤ x9) (u9 : x9 ≤ 19) (l10 : 0 ≤ x10) (u10 : x10 ≤ 24) (e1 : S 489 k = x9) (e0 : S 489 k = x10) : (True) ∧ rxPSIC S0 ws S (some 0) := by
  exact ⟨trivial, hinv⟩
theorem rxfIC_1_0 {X : (Nat → Int → Int) → Prop} {S0 : Nat → Int → Int} {ws : List Int} (hP : rxPIC S0 ws) : bx_obE rxL X S0 rxCIC.2.2.1 (rxIIC S0 ws) (rxPSIC S0 ws) 1 rxzIC_1 rxeIC_1_0 := by
  intro S S_p r r_p hinv hX hin hsm_ hseg
  obtain ⟨I0, I1, h0_, hr_, b_, f_, d_⟩ := bx_cl (evs := [(0, (0, 489), (8, 0), .inr (0, (10, 0))), (0, (0, 489), (8, 0), .inr (0, (9, 0)))]) (fvs := []) hseg (by decide +kernel) (by decide +kernel)
  have hinv : rxIIC_1 S0 ws S (r 8) := hinv
  rw [← hr_ 8 (by decide)] at hinv
  obtain ⟨⟨l8, u8⟩, ⟨l9, u9⟩, ⟨l10, u10⟩, -⟩ := b_
  obtain ⟨e0, ⟨e1, w_⟩⟩ := d_
  subst w_
  have g := rxdIC_1_0 hP hin hsm_ I0 I1 hinv l8 u8 l9 u9 l10 u10 e1 e0
  refine ⟨bx_narP_ok (l := []) g.1, ?_⟩
  show rxPSIC S0 ws S_p (some (bx_num r_p (.inr (0, (0, 0)))))
  rw [bx_xv_ok h0_]
  exact g.2
theorem rxdIC_1_1 {S0 : Nat → Int → Int} {ws : List Int} {S : Nat → Int → Int} {k x9 x10 : Int} (hP : rxPIC S0 ws) (hin : bx_same rxL (bx_mdl rxCIC.2.2.1) S0 S) (hin2 : bx_same rxL (bx_mdl rxCIC.2.2.1) S S) (I0 : bx_Inv rxL S) (I1 : bx_Inv rxL S) (hinv : rxIIC_1 S0 ws S k) (l8 : 0 ≤ k) (u8 : k ≤ 399) (l9 : 0 ≤ x9) (u9 : x9 ≤ 19) (l10 : 28 ≤ x10) (u10 : x10 ≤ 32) (e1 : S 489 k = x9) (e0 : S 489 k = x10) : (True) ∧ rxPSIC S0 ws S (some 0) := by
  exact ⟨trivial, hinv⟩
theorem rxfIC_1_1 {X : (Nat → Int → Int) → Prop} {S0 : Nat → Int → Int} {ws : List Int} (hP : rxPIC S0 ws) : bx_obE rxL X S0 rxCIC.2.2.1 (rxIIC S0 ws) (rxPSIC S0 ws) 1 rxzIC_1 rxeIC_1_1 := by
  intro S S_p r r_p hinv hX hin hsm_ hseg
  obtain ⟨I0, I1, h0_, hr_, b_, f_, d_⟩ := bx_cl (evs := [(0, (0, 489), (8, 0), .inr (0, (10, 0))), (0, (0, 489), (8, 0), .inr (0, (9, 0)))]) (fvs := []) hseg (by decide +kernel) (by decide +kernel)
  have hinv : rxIIC_1 S0 ws S (r 8) := hinv
  rw [← hr_ 8 (by decide)] at hinv
  obtain ⟨⟨l8, u8⟩, ⟨l9, u9⟩, ⟨l10, u10⟩, -⟩ := b_
  obtain ⟨e0, ⟨e1, w_⟩⟩ := d_
  subst w_
  have g := rxdIC_1_1 hP hin hsm_ I0 I1 hinv l8 u8 l9 u9 l10 u10 e1 e0
  refine ⟨bx_narP_ok (l := []) g.1, ?_⟩
  show rxPSIC S0 ws S_p (some (bx_num r_p (.inr (0, (0, 0)))))
  rw [bx_xv_ok h0_]
  exact g.2
theorem rxdIC_1_2 {S0 : Nat → Int → Int} {ws : List Int} {S : Nat → Int → Int} {k x9 x10 : Int} (hP : rxPIC S0 ws) (hin : bx_same rxL (bx_mdl rxCIC.2.2.1) S0 S) (hin2 : bx_same rxL (bx_mdl rxCIC.2.2.1) S S) (I0 : bx_Inv rxL S) (I1 : bx_Inv rxL S) (hinv : rxIIC_1 S0 ws S k) (l8 : 0 ≤ k) (u8 : k ≤ 399) (l9 : 0 ≤ x9) (u9 : x9 ≤ 19) (l10 : 25 ≤ x10) (u10 : x10 ≤ 27) (e1 : S 489 k = x9) (e0 : S 489 k = x10) : (True) ∧ rxPSIC S0 ws S (some 1) := by
  exact ⟨trivial, hinv⟩
theorem rxfIC_1_2 {X : (Nat → Int → Int) → Prop} {S0 : Nat → Int → Int} {ws : List Int} (hP : rxPIC S0 ws) : bx_obE rxL X S0 rxCIC.2.2.1 (rxIIC S0 ws) (rxPSIC S0 ws) 1 rxzIC_1 rxeIC_1_2 := by
  intro S S_p r r_p hinv hX hin hsm_ hseg
  obtain ⟨I0, I1, h0_, hr_, b_, f_, d_⟩ := bx_cl (evs := [(0, (0, 489), (8, 0), .inr (0, (10, 0))), (0, (0, 489), (8, 0), .inr (0, (9, 0)))]) (fvs := []) hseg (by decide +kernel) (by decide +kernel)
  have hinv : rxIIC_1 S0 ws S (r 8) := hinv
  rw [← hr_ 8 (by decide)] at hinv
  obtain ⟨⟨l8, u8⟩, ⟨l9, u9⟩, ⟨l10, u10⟩, -⟩ := b_
  obtain ⟨e0, ⟨e1, w_⟩⟩ := d_
  subst w_
  have g := rxdIC_1_2 hP hin hsm_ I0 I1 hinv l8 u8 l9 u9 l10 u10 e1 e0
  refine ⟨bx_narP_ok (l := []) g.1, ?_⟩
  show rxPSIC S0 ws S_p (some (bx_num r_p (.inr (0, (0, 1)))))
  rw [bx_xv_ok h0_]
  exact g.2
theorem rxdIC_1_3 {S0 : Nat → Int → Int} {ws : List Int} {S : Nat → Int → Int} {k x9 x10 : Int} (hP : rxPIC S0 ws) (hin : bx_same rxL (bx_mdl rxCIC.2.2.1) S0 S) (hin2 : bx_same rxL (bx_mdl rxCIC.2.2.1) S S) (I0 : bx_Inv rxL S) (I1 : bx_Inv rxL S) (hinv : rxIIC_1 S0 ws S k) (l8 : 0 ≤ k) (u8 : k ≤ 399) (l9 : 25 ≤ x9) (u9 : x9 ≤ 32) (l10 : 0 ≤ x10) (u10 : x10 ≤ 24) (e1 : S 489 k = x9) (e0 : S 489 k = x10) : (True) ∧ rxPSIC S0 ws S (some 0) := by
  exact ⟨trivial, hinv⟩
theorem rxfIC_1_3 {X : (Nat → Int → Int) → Prop} {S0 : Nat → Int → Int} {ws : List Int} (hP : rxPIC S0 ws) : bx_obE rxL X S0 rxCIC.2.2.1 (rxIIC S0 ws) (rxPSIC S0 ws) 1 rxzIC_1 rxeIC_1_3 := by
  intro S S_p r r_p hinv hX hin hsm_ hseg
  obtain ⟨I0, I1, h0_, hr_, b_, f_, d_⟩ := bx_cl (evs := [(0, (0, 489), (8, 0), .inr (0, (10, 0))), (0, (0, 489), (8, 0), .inr (0, (9, 0)))]) (fvs := []) hseg (by decide +kernel) (by decide +kernel)
  have hinv : rxIIC_1 S0 ws S (r 8) := hinv
  rw [← hr_ 8 (by decide)] at hinv
  obtain ⟨⟨l8, u8⟩, ⟨l9, u9⟩, ⟨l10, u10⟩, -⟩ := b_
  obtain ⟨e0, ⟨e1, w_⟩⟩ := d_
  subst w_
  have g := rxdIC_1_3 hP hin hsm_ I0 I1 hinv l8 u8 l9 u9 l10 u10 e1 e0
  refine ⟨bx_narP_ok (l := []) g.1, ?_⟩
  show rxPSIC S0 ws S_p (some (bx_num r_p (.inr (0, (0, 0)))))
  rw [bx_xv_ok h0_]
  exact g.2
theorem rxdIC_1_4 {S0 : Nat → Int → Int} {ws : List Int} {S : Nat → Int → Int} {k x9 x10 : Int} (hP : rxPIC S0 ws) (hin : bx_same rxL (bx_mdl rxCIC.2.2.1) S0 S) (hin2 : bx_same rxL (bx_mdl rxCIC.2.2.1) S S) (I0 : bx_Inv rxL S) (I1 : bx_Inv rxL S) (hinv : rxIIC_1 S0 ws S k) (l8 : 0 ≤ k) (u8 : k ≤ 399) (l9 : 25 ≤ x9) (u9 : x9 ≤ 32) (l10 : 28 ≤ x10) (u10 : x10 ≤ 32) (e1 : S 489 k = x9) (e0 : S 489 k = x10) : (True) ∧ rxPSIC S0 ws S (some 0) := by
  exact ⟨trivial, hinv⟩
theorem rxfIC_1_4 {X : (Nat → Int → Int) → Prop} {S0 : Nat → Int → Int} {ws : List Int} (hP : rxPIC S0 ws) : bx_obE rxL X S0 rxCIC.2.2.1 (rxIIC S0 ws) (rxPSIC S0 ws) 1 rxzIC_1 rxeIC_1_4 := by
  intro S S_p r r_p hinv hX hin hsm_ hseg
  obtain ⟨I0, I1, h0_, hr_, b_, f_, d_⟩ := bx_cl (evs := [(0, (0, 489), (8, 0), .inr (0, (10, 0))), (0, (0, 489), (8, 0), .inr (0, (9, 0)))]) (fvs := []) hseg (by decide +kernel) (by decide +kernel)
  have hinv : rxIIC_1 S0 ws S (r 8) := hinv
  rw [← hr_ 8 (by decide)] at hinv
  obtain ⟨⟨l8, u8⟩, ⟨l9, u9⟩, ⟨l10, u10⟩, -⟩ := b_
  obtain ⟨e0, ⟨e1, w_⟩⟩ := d_
  subst w_
  have g := rxdIC_1_4 hP hin hsm_ I0 I1 hinv l8 u8 l9 u9 l10 u10 e1 e0
  refine ⟨bx_narP_ok (l := []) g.1, ?_⟩
  show rxPSIC S0 ws S_p (some (bx_num r_p (.inr (0, (0, 0)))))
  rw [bx_xv_ok h0_]
  exact g.2
theorem rxdIC_1_5 {S0 : Nat → Int → Int} {ws : List Int} {S : Nat → Int → Int} {k x9 x10 : Int} (hP : rxPIC S0 ws) (hin : bx_same rxL (bx_mdl rxCIC.2.2.1) S0 S) (hin2 : bx_same rxL (bx_mdl rxCIC.2.2.1) S S) (I0 : bx_Inv rxL S) (I1 : bx_Inv rxL S) (hinv : rxIIC_1 S0 ws S k) (l8 : 0 ≤ k) (u8 : k ≤ 399) (l9 : 25 ≤ x9) (u9 : x9 ≤ 32) (l10 : 25 ≤ x10) (u10 : x10 ≤ 27) (e1 : S 489 k = x9) (e0 : S 489 k = x10) : (True) ∧ rxPSIC S0 ws S (some 1) := by
  exact ⟨trivial, hinv⟩
theorem rxfIC_1_5 {X : (Nat → Int → Int) → Prop} {S0 : Nat → Int → Int} {ws : List Int} (hP : rxPIC S0 ws) : bx_obE rxL X S0 rxCIC.2.2.1 (rxIIC S0 ws) (rxPSIC S0 ws) 1 rxzIC_1 rxeIC_1_5 := by
  intro S S_p r r_p hinv hX hin hsm_ hseg
  obtain ⟨I0, I1, h0_, hr_, b_, f_, d_⟩ := bx_cl (evs := [(0, (0, 489), (8, 0), .inr (0, (10, 0))), (0, (0, 489), (8, 0), .inr (0, (9, 0)))]) (fvs := []) hseg (by decide +kernel) (by decide +kernel)
  have hinv : rxIIC_1 S0 ws S (r 8) := hinv
  rw [← hr_ 8 (by decide)] at hinv
  obtain ⟨⟨l8, u8⟩, ⟨l9, u9⟩, ⟨l10, u10⟩, -⟩ := b_
  obtain ⟨e0, ⟨e1, w_⟩⟩ := d_
  subst w_
  have g := rxdIC_1_5 hP hin hsm_ I0 I1 hinv l8 u8 l9 u9 l10 u10 e1 e0
  refine ⟨bx_narP_ok (l := []) g.1, ?_⟩
  show rxPSIC S0 ws S_p (some (bx_num r_p (.inr (0, (0, 1)))))
  rw [bx_xv_ok h0_]
  exact g.2
theorem rxdIC_1_6 {S0 : Nat → Int → Int} {ws : List Int} {S : Nat → Int → Int} {k : Int} (hP : rxPIC S0 ws) (hin : bx_same rxL (bx_mdl rxCIC.2.2.1) S0 S) (hin2 : bx_same rxL (bx_mdl rxCIC.2.2.1) S S) (I0 : bx_Inv rxL S) (I1 : bx_Inv rxL S) (hinv : rxIIC_1 S0 ws S k) (l8 : (-1) ≤ k) (u8 : k ≤ (-1)) : (True) ∧ rxPSIC S0 ws S (some 0) := by
  exact ⟨trivial, hinv⟩
theorem rxfIC_1_6 {X : (Nat → Int → Int) → Prop} {S0 : Nat → Int → Int} {ws : List Int} (hP : rxPIC S0 ws) : bx_obE rxL X S0 rxCIC.2.2.1 (rxIIC S0 ws) (rxPSIC S0 ws) 1 rxzIC_1 rxeIC_1_6 := by
  intro S S_p r r_p hinv hX hin hsm_ hseg
  obtain ⟨I0, I1, h0_, hr_, b_, f_, d_⟩ := bx_cl (evs := []) (fvs := []) hseg (by decide +kernel) (by decide +kernel)
  have hinv : rxIIC_1 S0 ws S (r 8) := hinv
  rw [← hr_ 8 (by decide)] at hinv
  obtain ⟨⟨l8, u8⟩, -⟩ := b_
  have w_ := d_
  subst w_
  have g := rxdIC_1_6 hP hin hsm_ I0 I1 hinv l8 u8
  refine ⟨bx_narP_ok (l := []) g.1, ?_⟩
  show rxPSIC S0 ws S_p (some (bx_num r_p (.inr (0, (0, 0)))))
  rw [bx_xv_ok h0_]
  exact g.2
theorem rxgCIC {X : (Nat → Int → Int) → Prop} {S0 : Nat → Int → Int} {ws : List Int} (hP : rxPIC S0 ws) : bx_allI (fun i q => rxUIC q = true ∨ bx_allP (fun o => bx_obC rxL X S0 rxCIC.2.2.1 (rxIIC S0 ws) (rxmIC S0 ws) i q.1 o) q.2.1) 0 rxYIC := ⟨Or.inr ⟨rxgIC_0_0 hP, trivial⟩, Or.inr ⟨rxgIC_1_0 hP, trivial⟩, trivial⟩
theorem rxgEIC {X : (Nat → Int → Int) → Prop} {S0 : Nat → Int → Int} {ws : List Int} (hP : rxPIC S0 ws) : bx_allI (fun i q => rxUIC q = true ∨ bx_allP (fun E => bx_obE rxL X S0 rxCIC.2.2.1 (rxIIC S0 ws) (rxPSIC S0 ws) i q.1 E) q.2.2) 0 rxYIC := ⟨Or.inr trivial, Or.inr ⟨rxfIC_1_0 hP, rxfIC_1_1 hP, rxfIC_1_2 hP, rxfIC_1_3 hP, rxfIC_1_4 hP, rxfIC_1_5 hP, rxfIC_1_6 hP, trivial⟩, trivial⟩
theorem rxQIC {PX : State → Prop} {Dg : va_G} {A : Nat → Prop} {ad xa : Nat → Nat} {l : Launch} {X : (Nat → Int → Int) → Prop} (hPX : rx_PXOK rxNW A PX) (hsl : ∀ s : State, PX s → ∀ o idx n : Nat, rxSl o idx = some n → ∃ tx : String, vk_R (rxNm o) idx tx (ad n) s)
    (hX : ∀ S S_p : Nat → Int → Int, X S → bx_same rxL (bx_mdl rxCIC.2.2.1) S S_p → X S_p)
    (ih : ∀ (j2 : Nat) (ct2 : bx_Ct) (M2 : rx_Mt), ct2 ∈ rxCnE j2 → ct2.2.2.2.1 + 1 ≤ rxCIC.2.2.2.1 → rxT.2.2.2.2.2 j2 = some M2 → bx_Con rxG rxNW rxAO PX Dg rxL X vwCl A ad l M2 ct2) : bx_ConP rxG rxNW rxAO PX Dg rxL X vwCl A ad l rxM277 rxCIC rxPIC rxPSIC :=
  rxQof (xa := xa) (Cn := rxCnE) (f := 30000) (j := 277) (tab := rxYIC) (us := rxUIC) hPX hsl hX ih rfl rxYcIC rxIIC rxmIC
    (fun S0 ws r I0 I ht0 ht as he he1 hX0 hI0 hP hs ha => by
      have e := he.symm.trans (show bx_ent0 rxNP rxCIC.1 bx_I0 [] = some ([(0, 0), (0, 0), (0, 0), (0, 0), (0, 0), (0, 0), (0, 0), (0, 0)], [], [.inr (3, (0, 480))]) from rfl)
      cases e
      subst ha
      have h0 : r 0 = 0 := hs.1
      show rxIIC_0 S0 _ S0
      refine ⟨rfl, ?_⟩
      simp only [List.map_cons, List.map_nil, bx_xv_ok h0]
      rfl)
    (fun S0 ws hP => fun i q hq hus => absurd (show false = true from hus) Bool.false_ne_true) (fun S0 ws hP => rxgCIC hP) (fun S0 ws hP => rxgEIC hP)
