/-! CONTRACT BY HAND, by program (wip/sim/genhand.py): DeadUnderstudiesModel.most -/
def rxCMO : bx_Ct := ([(3, (1, 480, 0))], some (0, (0, 0, 9)), [], 0, [])
def rxIMO_0 (S0 : Nat → Int → Int) (ws : List Int) (S : Nat → Int → Int) : Prop := S = S0 ∧ ws = [480]
def rxmMO_0 (S0 : Nat → Int → Int) (ws : List Int) (S : Nat → Int → Int) : Nat := 1000
def rxzMO_0 : rx_Z := ([(0, 0), (0, 0), (0, 0), (0, 0), (0, 0), (0, 0), (0, 0), (0, 0)], [], [], 0, 0, 0, [(0, .inr (3, (0, 480)))], [])
def rxIMO_1 (S0 : Nat → Int → Int) (ws : List Int) (S : Nat → Int → Int) (its many w_ : Int) : Prop := S = S0 ∧ (its = -1 → many = 0 ∧ ∀ j : Int, 0 ≤ j → j < w_ → S 504 j ≤ 0)
def rxmMO_1 (S0 : Nat → Int → Int) (ws : List Int) (S : Nat → Int → Int) (its many w_ : Int) : Nat := (20 - w_).toNat
def rxzMO_1 : rx_Z := ([(0, 0), (0, 0), (0, 0), (0, 0), (0, 0), (0, 0), (0, 0), (0, 0), ((-1), 9), (0, 2147483647), (0, 10)], [], [], 0, 0, 6, [(0, .inr (3, (0, 480))), (1, .inr (0, (8, 0))), (2, .inr (0, (9, 0))), (3, .inr (0, (10, 0)))], [])
def rxoMO_0_0 : bx_HO := (([(0, 0), (0, 0), (0, 0), (0, 0), (0, 0), (0, 0), (0, 0), (0, 0)], [], [], 0, 0, 6, [(3, .inr (0, (0, 0))), (2, .inr (0, (0, 0))), (1, .inr (0, (0, (-1)))), (0, .inr (3, (0, 480)))], []), [], [], [(0, 0), (0, 0), (0, 0), (0, 0), (0, 0), (0, 0), (0, 0), (0, 0), (0, (-1)), (0, 0), (0, 0)], 1)
def rxoMO_1_0 : bx_HO := (([(0, 0), (0, 0), (0, 0), (0, 0), (0, 0), (0, 0), (0, 0), (0, 0), ((-1), 9), (0, 2147483646), (0, 9), (1, 2147483647), (1, 2147483647), ((-2147483648), 2147483647)], [(0, (9, 0), (12, 0)), (0, (9, 0), (11, 0))], [(((0, 0), 1851192626986356797424370955790042202572729718740712036989665280000000), .inr (0, (13, 0))), (((0, 0), 1851192626986356797424370955790042202572729718740712036989665280000000), .inr (0, (12, 0))), (((0, 0), 1851192626986356797424370955790042202572729718740712036989665280000000), .inr (0, (11, 0))), (((0, 480), 50), .inr (3, (0, 504)))], 0, 0, 6, [(3, .inr (0, (10, 1))), (2, .inr (0, (13, 0))), (1, .inr (0, (10, 0))), (0, .inr (3, (0, 480)))], []), [(13, 0, 2147483647)], [], [(0, 0), (0, 0), (0, 0), (0, 0), (0, 0), (0, 0), (0, 0), (0, 0), (10, 0), (13, 0), (10, 1)], 1)
def rxoMO_1_1 : bx_HO := (([(0, 0), (0, 0), (0, 0), (0, 0), (0, 0), (0, 0), (0, 0), (0, 0), ((-1), 9), (0, 2147483646), (0, 9), (1, 2147483647), ((-2147483648), 2147483646)], [(1, (12, 0), (9, 0)), (0, (9, 0), (11, 0))], [(((0, 0), 1851192626986356797424370955790042202572729718740712036989665280000000), .inr (0, (12, 0))), (((0, 0), 1851192626986356797424370955790042202572729718740712036989665280000000), .inr (0, (11, 0))), (((0, 480), 50), .inr (3, (0, 504)))], 0, 0, 6, [(3, .inr (0, (10, 1))), (2, .inr (0, (9, 0))), (1, .inr (0, (10, 0))), (0, .inr (3, (0, 480)))], []), [], [], [(0, 0), (0, 0), (0, 0), (0, 0), (0, 0), (0, 0), (0, 0), (0, 0), (10, 0), (9, 0), (10, 1)], 1)
def rxoMO_1_2 : bx_HO := (([(0, 0), (0, 0), (0, 0), (0, 0), (0, 0), (0, 0), (0, 0), (0, 0), ((-1), 9), (0, 2147483646), (0, 9), ((-2147483648), 2147483646), (1, 2147483647), ((-2147483648), 2147483647)], [(0, (9, 0), (12, 0)), (1, (11, 0), (9, 0))], [(((0, 0), 1851192626986356797424370955790042202572729718740712036989665280000000), .inr (0, (13, 0))), (((0, 0), 1851192626986356797424370955790042202572729718740712036989665280000000), .inr (0, (12, 0))), (((0, 0), 1851192626986356797424370955790042202572729718740712036989665280000000), .inr (0, (11, 0))), (((0, 480), 50), .inr (3, (0, 504)))], 0, 0, 6, [(3, .inr (0, (10, 1))), (2, .inr (0, (13, 0))), (1, .inr (0, (8, 0))), (0, .inr (3, (0, 480)))], []), [(13, 0, 2147483647)], [], [(0, 0), (0, 0), (0, 0), (0, 0), (0, 0), (0, 0), (0, 0), (0, 0), (8, 0), (13, 0), (10, 1)], 1)
def rxoMO_1_3 : bx_HO := (([(0, 0), (0, 0), (0, 0), (0, 0), (0, 0), (0, 0), (0, 0), (0, 0), ((-1), 9), (0, 2147483647), (0, 9), ((-2147483648), 2147483647), ((-2147483648), 2147483647)], [(1, (12, 0), (9, 0)), (1, (11, 0), (9, 0))], [(((0, 0), 1851192626986356797424370955790042202572729718740712036989665280000000), .inr (0, (12, 0))), (((0, 0), 1851192626986356797424370955790042202572729718740712036989665280000000), .inr (0, (11, 0))), (((0, 480), 50), .inr (3, (0, 504)))], 0, 0, 6, [(3, .inr (0, (10, 1))), (2, .inr (0, (9, 0))), (1, .inr (0, (8, 0))), (0, .inr (3, (0, 480)))], []), [], [], [(0, 0), (0, 0), (0, 0), (0, 0), (0, 0), (0, 0), (0, 0), (0, 0), (8, 0), (9, 0), (10, 1)], 1)
def rxeMO_1_0 : rx_End × List (Nat × Int × Int) := (([(0, 0), (0, 0), (0, 0), (0, 0), (0, 0), (0, 0), (0, 0), (0, 0), ((-1), 9), (0, 2147483647), (10, 10)], [], [], some (.inr (0, (8, 0)))), [(8, 0, 9)])
def rxYMO : List bx_HE := [(rxzMO_0, [rxoMO_0_0], []), (rxzMO_1, [rxoMO_1_0, rxoMO_1_1, rxoMO_1_2, rxoMO_1_3], [rxeMO_1_0])]
def rxUMO (q : bx_HE) : Bool := false
def rxYBMO : bx_B := (rxV, rxNP, rxDmf, bx_mdH rxCMO.2.2.1)
set_option maxRecDepth 100000 in
theorem rxYcMO : bx_chkH rxYBMO rxM307 rxCMO rxYMO (rxUMO, fun cut z => rx_ex2 (rxCT rxYBMO rxCnE) cut 30000 rxCMO.2.2.2.1 307 z) = true := by decide +kernel
def rxIMO (S0 : Nat → Int → Int) (ws : List Int) (i : Nat) : bx_SP := fun S r => match i with | 0 => rxIMO_0 S0 ws S | 1 => rxIMO_1 S0 ws S (r 8) (r 9) (r 10) | _ => False
def rxmMO (S0 : Nat → Int → Int) (ws : List Int) (i : Nat) (S : Nat → Int → Int) (r : Nat → Int) : Nat := match i with | 0 => rxmMO_0 S0 ws S | 1 => rxmMO_1 S0 ws S (r 8) (r 9) (r 10) | _ => 0
def rxPMO (S0 : Nat → Int → Int) (ws : List Int) : Prop := ∃ j : Int, 0 ≤ j ∧ j < 10 ∧ 0 < S0 504 j
def rxPSMO (S0 : Nat → Int → Int) (ws : List Int) (S : Nat → Int → Int) (w : Option Int) : Prop := S = S0
theorem rxcMO_0_0 {S0 : Nat → Int → Int} {ws : List Int} {S : Nat → Int → Int} (hP : rxPMO S0 ws) (hin : bx_same rxL (bx_mdl rxCMO.2.2.1) S0 S) (I0 : bx_Inv rxL S) (hinv : rxIMO_0 S0 ws S)  : (True) ∧ (True) ∧ rxIMO_1 S0 ws S ((-1)) 0 0 ∧ rxmMO_1 S0 ws S ((-1)) 0 0 < rxmMO_0 S0 ws S := by
  exact ⟨trivial, trivial, ⟨hinv.1, fun _ => ⟨rfl, fun j h1 h2 => by omega⟩⟩, by unfold rxmMO_0 rxmMO_1; omega⟩
theorem rxgMO_0_0 {X : (Nat → Int → Int) → Prop} {S0 : Nat → Int → Int} {ws : List Int} (hP : rxPMO S0 ws) : bx_obC rxL X S0 rxCMO.2.2.1 (rxIMO S0 ws) (rxmMO S0 ws) 0 rxzMO_0 rxoMO_0_0 := by
  intro S S_p r r_p hinv hX hin hsm_ hseg
  obtain ⟨I0, I1, h0_, hr_, b_, f_, d_⟩ := bx_cl (evs := []) (fvs := []) hseg (by decide +kernel) (by decide +kernel)
  have hinv : rxIMO_0 S0 ws S := hinv
  have w_ := d_
  subst w_
  have g := rxcMO_0_0 hP hin I0 hinv 
  refine ⟨bx_narP_ok (l := []) g.1, bx_nfP_ok h0_ (fvs := []) (by decide +kernel) g.2.1, ?_, ?_⟩
  · show rxIMO_1 S0 ws S_p (bx_val [(0, 0), (0, 0), (0, 0), (0, 0), (0, 0), (0, 0), (0, 0), (0, 0), (0, (-1)), (0, 0), (0, 0)] r_p 8) (bx_val [(0, 0), (0, 0), (0, 0), (0, 0), (0, 0), (0, 0), (0, 0), (0, 0), (0, (-1)), (0, 0), (0, 0)] r_p 9) (bx_val [(0, 0), (0, 0), (0, 0), (0, 0), (0, 0), (0, 0), (0, 0), (0, 0), (0, (-1)), (0, 0), (0, 0)] r_p 10)
    rw [bx_val_x (n := 8) (e := (0, (-1))) h0_ rfl, bx_val_x (n := 9) (e := (0, 0)) h0_ rfl, bx_val_x (n := 10) (e := (0, 0)) h0_ rfl]
    exact g.2.2.1
  · show rxmMO_1 S0 ws S_p (bx_val [(0, 0), (0, 0), (0, 0), (0, 0), (0, 0), (0, 0), (0, 0), (0, 0), (0, (-1)), (0, 0), (0, 0)] r_p 8) (bx_val [(0, 0), (0, 0), (0, 0), (0, 0), (0, 0), (0, 0), (0, 0), (0, 0), (0, (-1)), (0, 0), (0, 0)] r_p 9) (bx_val [(0, 0), (0, 0), (0, 0), (0, 0), (0, 0), (0, 0), (0, 0), (0, 0), (0, (-1)), (0, 0), (0, 0)] r_p 10) < rxmMO_0 S0 ws S_p
    rw [bx_val_x (n := 8) (e := (0, (-1))) h0_ rfl, bx_val_x (n := 9) (e := (0, 0)) h0_ rfl, bx_val_x (n := 10) (e := (0, 0)) h0_ rfl]
    exact g.2.2.2
theorem rxcMO_1_0 {S0 : Nat → Int → Int} {ws : List Int} {S : Nat → Int → Int} {its many w_ x11 x12 x13 : Int} (hP : rxPMO S0 ws) (hin : bx_same rxL (bx_mdl rxCMO.2.2.1) S0 S) (I0 : bx_Inv rxL S) (hinv : rxIMO_1 S0 ws S its many w_) (l8 : (-1) ≤ its) (u8 : its ≤ 9) (l9 : 0 ≤ many) (u9 : many ≤ 2147483646) (l10 : 0 ≤ w_) (u10 : w_ ≤ 9) (l11 : 1 ≤ x11) (u11 : x11 ≤ 2147483647) (l12 : 1 ≤ x12) (u12 : x12 ≤ 2147483647) (l13 : (-2147483648) ≤ x13) (u13 : x13 ≤ 2147483647) (f0 : many < x12) (f1 : many < x11) (e2 : S 504 w_ = x11) (e1 : S 504 w_ = x12) (e0 : S 504 w_ = x13) : ((0 ≤ x13 ∧ x13 ≤ 2147483647) ∧ True) ∧ (True) ∧ rxIMO_1 S0 ws S w_ x13 (w_ + 1) ∧ rxmMO_1 S0 ws S w_ x13 (w_ + 1) < rxmMO_1 S0 ws S its many w_ := by
  obtain ⟨hs, h⟩ := hinv
  have a := e2.symm.trans e0
  exact ⟨⟨by omega, trivial⟩, trivial, ⟨hs, fun q => by omega⟩, by unfold rxmMO_1; omega⟩
theorem rxgMO_1_0 {X : (Nat → Int → Int) → Prop} {S0 : Nat → Int → Int} {ws : List Int} (hP : rxPMO S0 ws) : bx_obC rxL X S0 rxCMO.2.2.1 (rxIMO S0 ws) (rxmMO S0 ws) 1 rxzMO_1 rxoMO_1_0 := by
  intro S S_p r r_p hinv hX hin hsm_ hseg
  obtain ⟨I0, I1, h0_, hr_, b_, f_, d_⟩ := bx_cl (evs := [(0, (0, 504), (10, 0), .inr (0, (13, 0))), (0, (0, 504), (10, 0), .inr (0, (12, 0))), (0, (0, 504), (10, 0), .inr (0, (11, 0)))]) (fvs := [(0, (9, 0), (12, 0), (0, 0)), (0, (9, 0), (11, 0), (0, 0))]) hseg (by decide +kernel) (by decide +kernel)
  have hinv : rxIMO_1 S0 ws S (r 8) (r 9) (r 10) := hinv
  rw [← hr_ 8 (by decide), ← hr_ 9 (by decide), ← hr_ 10 (by decide)] at hinv
  obtain ⟨⟨l8, u8⟩, ⟨l9, u9⟩, ⟨l10, u10⟩, ⟨l11, u11⟩, ⟨l12, u12⟩, ⟨l13, u13⟩, -⟩ := b_
  obtain ⟨f0, f1, -⟩ := f_
  obtain ⟨e0, ⟨e1, ⟨e2, w_⟩⟩⟩ := d_
  subst w_
  have g := rxcMO_1_0 hP hin I0 hinv l8 u8 l9 u9 l10 u10 l11 u11 l12 u12 l13 u13 f0 f1 e2 e1 e0
  refine ⟨bx_narP_ok (l := [(13, 0, 2147483647)]) g.1, bx_nfP_ok h0_ (fvs := []) (by decide +kernel) g.2.1, ?_, ?_⟩
  · show rxIMO_1 S0 ws S_p (bx_val [(0, 0), (0, 0), (0, 0), (0, 0), (0, 0), (0, 0), (0, 0), (0, 0), (10, 0), (13, 0), (10, 1)] r_p 8) (bx_val [(0, 0), (0, 0), (0, 0), (0, 0), (0, 0), (0, 0), (0, 0), (0, 0), (10, 0), (13, 0), (10, 1)] r_p 9) (bx_val [(0, 0), (0, 0), (0, 0), (0, 0), (0, 0), (0, 0), (0, 0), (0, 0), (10, 0), (13, 0), (10, 1)] r_p 10)
    rw [bx_val_x (n := 8) (e := (10, 0)) h0_ rfl, bx_val_x (n := 9) (e := (13, 0)) h0_ rfl, bx_val_x (n := 10) (e := (10, 1)) h0_ rfl]
    exact g.2.2.1
  · show rxmMO_1 S0 ws S_p (bx_val [(0, 0), (0, 0), (0, 0), (0, 0), (0, 0), (0, 0), (0, 0), (0, 0), (10, 0), (13, 0), (10, 1)] r_p 8) (bx_val [(0, 0), (0, 0), (0, 0), (0, 0), (0, 0), (0, 0), (0, 0), (0, 0), (10, 0), (13, 0), (10, 1)] r_p 9) (bx_val [(0, 0), (0, 0), (0, 0), (0, 0), (0, 0), (0, 0), (0, 0), (0, 0), (10, 0), (13, 0), (10, 1)] r_p 10) < rxmMO_1 S0 ws S_p (r 8) (r 9) (r 10)
    rw [bx_val_x (n := 8) (e := (10, 0)) h0_ rfl, bx_val_x (n := 9) (e := (13, 0)) h0_ rfl, bx_val_x (n := 10) (e := (10, 1)) h0_ rfl, ← hr_ 8 (by decide), ← hr_ 9 (by decide), ← hr_ 10 (by decide)]
    exact g.2.2.2
theorem rxcMO_1_1 {S0 : Nat → Int → Int} {ws : List Int} {S : Nat → Int → Int} {its many w_ x11 x12 : Int} (hP : rxPMO S0 ws) (hin : bx_same rxL (bx_mdl rxCMO.2.2.1) S0 S) (I0 : bx_Inv rxL S) (hinv : rxIMO_1 S0 ws S its many w_) (l8 : (-1) ≤ its) (u8 : its ≤ 9) (l9 : 0 ≤ many) (u9 : many ≤ 2147483646) (l10 : 0 ≤ w_) (u10 : w_ ≤ 9) (l11 : 1 ≤ x11) (u11 : x11 ≤ 2147483647) (l12 : (-2147483648) ≤ x12) (u12 : x12 ≤ 2147483646) (f0 : x12 ≤ many) (f1 : many < x11) (e1 : S 504 w_ = x11) (e0 : S 504 w_ = x12) : (True) ∧ (True) ∧ rxIMO_1 S0 ws S w_ many (w_ + 1) ∧ rxmMO_1 S0 ws S w_ many (w_ + 1) < rxmMO_1 S0 ws S its many w_ := by
  exfalso
  have a := e1.symm.trans e0
  omega
theorem rxgMO_1_1 {X : (Nat → Int → Int) → Prop} {S0 : Nat → Int → Int} {ws : List Int} (hP : rxPMO S0 ws) : bx_obC rxL X S0 rxCMO.2.2.1 (rxIMO S0 ws) (rxmMO S0 ws) 1 rxzMO_1 rxoMO_1_1 := by
  intro S S_p r r_p hinv hX hin hsm_ hseg
  obtain ⟨I0, I1, h0_, hr_, b_, f_, d_⟩ := bx_cl (evs := [(0, (0, 504), (10, 0), .inr (0, (12, 0))), (0, (0, 504), (10, 0), .inr (0, (11, 0)))]) (fvs := [(1, (12, 0), (9, 0), (0, 0)), (0, (9, 0), (11, 0), (0, 0))]) hseg (by decide +kernel) (by decide +kernel)
  have hinv : rxIMO_1 S0 ws S (r 8) (r 9) (r 10) := hinv
  rw [← hr_ 8 (by decide), ← hr_ 9 (by decide), ← hr_ 10 (by decide)] at hinv
  obtain ⟨⟨l8, u8⟩, ⟨l9, u9⟩, ⟨l10, u10⟩, ⟨l11, u11⟩, ⟨l12, u12⟩, -⟩ := b_
  obtain ⟨f0, f1, -⟩ := f_
  obtain ⟨e0, ⟨e1, w_⟩⟩ := d_
  subst w_
  have g := rxcMO_1_1 hP hin I0 hinv l8 u8 l9 u9 l10 u10 l11 u11 l12 u12 f0 f1 e1 e0
  refine ⟨bx_narP_ok (l := []) g.1, bx_nfP_ok h0_ (fvs := []) (by decide +kernel) g.2.1, ?_, ?_⟩
  · show rxIMO_1 S0 ws S_p (bx_val [(0, 0), (0, 0), (0, 0), (0, 0), (0, 0), (0, 0), (0, 0), (0, 0), (10, 0), (9, 0), (10, 1)] r_p 8) (bx_val [(0, 0), (0, 0), (0, 0), (0, 0), (0, 0), (0, 0), (0, 0), (0, 0), (10, 0), (9, 0), (10, 1)] r_p 9) (bx_val [(0, 0), (0, 0), (0, 0), (0, 0), (0, 0), (0, 0), (0, 0), (0, 0), (10, 0), (9, 0), (10, 1)] r_p 10)
    rw [bx_val_x (n := 8) (e := (10, 0)) h0_ rfl, bx_val_x (n := 9) (e := (9, 0)) h0_ rfl, bx_val_x (n := 10) (e := (10, 1)) h0_ rfl]
    exact g.2.2.1
  · show rxmMO_1 S0 ws S_p (bx_val [(0, 0), (0, 0), (0, 0), (0, 0), (0, 0), (0, 0), (0, 0), (0, 0), (10, 0), (9, 0), (10, 1)] r_p 8) (bx_val [(0, 0), (0, 0), (0, 0), (0, 0), (0, 0), (0, 0), (0, 0), (0, 0), (10, 0), (9, 0), (10, 1)] r_p 9) (bx_val [(0, 0), (0, 0), (0, 0), (0, 0), (0, 0), (0, 0), (0, 0), (0, 0), (10, 0), (9, 0), (10, 1)] r_p 10) < rxmMO_1 S0 ws S_p (r 8) (r 9) (r 10)
    rw [bx_val_x (n := 8) (e := (10, 0)) h0_ rfl, bx_val_x (n := 9) (e := (9, 0)) h0_ rfl, bx_val_x (n := 10) (e := (10, 1)) h0_ rfl, ← hr_ 8 (by decide), ← hr_ 9 (by decide), ← hr_ 10 (by decide)]
    exact g.2.2.2
theorem rxcMO_1_2 {S0 : Nat → Int → Int} {ws : List Int} {S : Nat → Int → Int} {its many w_ x11 x12 x13 : Int} (hP : rxPMO S0 ws) (hin : bx_same rxL (bx_mdl rxCMO.2.2.1) S0 S) (I0 : bx_Inv rxL S) (hinv : rxIMO_1 S0 ws S its many w_) (l8 : (-1) ≤ its) (u8 : its ≤ 9) (l9 : 0 ≤ many) (u9 : many ≤ 2147483646) (l10 : 0 ≤ w_) (u10 : w_ ≤ 9) (l11 : (-2147483648) ≤ x11) (u11 : x11 ≤ 2147483646) (l12 : 1 ≤ x12) (u12 : x12 ≤ 2147483647) (l13 : (-2147483648) ≤ x13) (u13 : x13 ≤ 2147483647) (f0 : many < x12) (f1 : x11 ≤ many) (e2 : S 504 w_ = x11) (e1 : S 504 w_ = x12) (e0 : S 504 w_ = x13) : ((0 ≤ x13 ∧ x13 ≤ 2147483647) ∧ True) ∧ (True) ∧ rxIMO_1 S0 ws S its x13 (w_ + 1) ∧ rxmMO_1 S0 ws S its x13 (w_ + 1) < rxmMO_1 S0 ws S its many w_ := by
  exfalso
  have a := e2.symm.trans e1
  omega
theorem rxgMO_1_2 {X : (Nat → Int → Int) → Prop} {S0 : Nat → Int → Int} {ws : List Int} (hP : rxPMO S0 ws) : bx_obC rxL X S0 rxCMO.2.2.1 (rxIMO S0 ws) (rxmMO S0 ws) 1 rxzMO_1 rxoMO_1_2 := by
  intro S S_p r r_p hinv hX hin hsm_ hseg
  obtain ⟨I0, I1, h0_, hr_, b_, f_, d_⟩ := bx_cl (evs := [(0, (0, 504), (10, 0), .inr (0, (13, 0))), (0, (0, 504), (10, 0), .inr (0, (12, 0))), (0, (0, 504), (10, 0), .inr (0, (11, 0)))]) (fvs := [(0, (9, 0), (12, 0), (0, 0)), (1, (11, 0), (9, 0), (0, 0))]) hseg (by decide +kernel) (by decide +kernel)
  have hinv : rxIMO_1 S0 ws S (r 8) (r 9) (r 10) := hinv
  rw [← hr_ 8 (by decide), ← hr_ 9 (by decide), ← hr_ 10 (by decide)] at hinv
  obtain ⟨⟨l8, u8⟩, ⟨l9, u9⟩, ⟨l10, u10⟩, ⟨l11, u11⟩, ⟨l12, u12⟩, ⟨l13, u13⟩, -⟩ := b_
  obtain ⟨f0, f1, -⟩ := f_
  obtain ⟨e0, ⟨e1, ⟨e2, w_⟩⟩⟩ := d_
  subst w_
  have g := rxcMO_1_2 hP hin I0 hinv l8 u8 l9 u9 l10 u10 l11 u11 l12 u12 l13 u13 f0 f1 e2 e1 e0
  refine ⟨bx_narP_ok (l := [(13, 0, 2147483647)]) g.1, bx_nfP_ok h0_ (fvs := []) (by decide +kernel) g.2.1, ?_, ?_⟩
  · show rxIMO_1 S0 ws S_p (bx_val [(0, 0), (0, 0), (0, 0), (0, 0), (0, 0), (0, 0), (0, 0), (0, 0), (8, 0), (13, 0), (10, 1)] r_p 8) (bx_val [(0, 0), (0, 0), (0, 0), (0, 0), (0, 0), (0, 0), (0, 0), (0, 0), (8, 0), (13, 0), (10, 1)] r_p 9) (bx_val [(0, 0), (0, 0), (0, 0), (0, 0), (0, 0), (0, 0), (0, 0), (0, 0), (8, 0), (13, 0), (10, 1)] r_p 10)
    rw [bx_val_x (n := 8) (e := (8, 0)) h0_ rfl, bx_val_x (n := 9) (e := (13, 0)) h0_ rfl, bx_val_x (n := 10) (e := (10, 1)) h0_ rfl]
    exact g.2.2.1
  · show rxmMO_1 S0 ws S_p (bx_val [(0, 0), (0, 0), (0, 0), (0, 0), (0, 0), (0, 0), (0, 0), (0, 0), (8, 0), (13, 0), (10, 1)] r_p 8) (bx_val [(0, 0), (0, 0), (0, 0), (0, 0), (0, 0), (0, 0), (0, 0), (0, 0), (8, 0), (13, 0), (10, 1)] r_p 9) (bx_val [(0, 0), (0, 0), (0, 0), (0, 0), (0, 0), (0, 0), (0, 0), (0, 0), (8, 0), (13, 0), (10, 1)] r_p 10) < rxmMO_1 S0 ws S_p (r 8) (r 9) (r 10)
    rw [bx_val_x (n := 8) (e := (8, 0)) h0_ rfl, bx_val_x (n := 9) (e := (13, 0)) h0_ rfl, bx_val_x (n := 10) (e := (10, 1)) h0_ rfl, ← hr_ 8 (by decide), ← hr_ 9 (by decide), ← hr_ 10 (by decide)]
    exact g.2.2.2
theorem rxcMO_1_3 {S0 : Nat → Int → Int} {ws : List Int} {S : Nat → Int → Int} {its many w_ x11 x12 : Int} (hP : rxPMO S0 ws) (hin : bx_same rxL (bx_mdl rxCMO.2.2.1) S0 S) (I0 : bx_Inv rxL S) (hinv : rxIMO_1 S0 ws S its many w_) (l8 : (-1) ≤ its) (u8 : its ≤ 9) (l9 : 0 ≤ many) (u9 : many ≤ 2147483647) (l10 : 0 ≤ w_) (u10 : w_ ≤ 9) (l11 : (-2147483648) ≤ x11) (u11 : x11 ≤ 2147483647) (l12 : (-2147483648) ≤ x12) (u12 : x12 ≤ 2147483647) (f0 : x12 ≤ many) (f1 : x11 ≤ many) (e1 : S 504 w_ = x11) (e0 : S 504 w_ = x12) : (True) ∧ (True) ∧ rxIMO_1 S0 ws S its many (w_ + 1) ∧ rxmMO_1 S0 ws S its many (w_ + 1) < rxmMO_1 S0 ws S its many w_ := by
  obtain ⟨hs, h⟩ := hinv
  refine ⟨trivial, trivial, ⟨hs, fun q => ⟨(h q).1, fun j h1 h2 => ?_⟩⟩, by unfold rxmMO_1; omega⟩
  by_cases hj : j = w_
  · subst hj
    have := (h q).1
    omega
  · exact (h q).2 j h1 (by omega)
theorem rxgMO_1_3 {X : (Nat → Int → Int) → Prop} {S0 : Nat → Int → Int} {ws : List Int} (hP : rxPMO S0 ws) : bx_obC rxL X S0 rxCMO.2.2.1 (rxIMO S0 ws) (rxmMO S0 ws) 1 rxzMO_1 rxoMO_1_3 := by
  intro S S_p r r_p hinv hX hin hsm_ hseg
  obtain ⟨I0, I1, h0_, hr_, b_, f_, d_⟩ := bx_cl (evs := [(0, (0, 504), (10, 0), .inr (0, (12, 0))), (0, (0, 504), (10, 0), .inr (0, (11, 0)))]) (fvs := [(1, (12, 0), (9, 0), (0, 0)), (1, (11, 0), (9, 0), (0, 0))]) hseg (by decide +kernel) (by decide +kernel)
  have hinv : rxIMO_1 S0 ws S (r 8) (r 9) (r 10) := hinv
  rw [← hr_ 8 (by decide), ← hr_ 9 (by decide), ← hr_ 10 (by decide)] at hinv
  obtain ⟨⟨l8, u8⟩, ⟨l9, u9⟩, ⟨l10, u10⟩, ⟨l11, u11⟩, ⟨l12, u12⟩, -⟩ := b_
  obtain ⟨f0, f1, -⟩ := f_
  obtain ⟨e0, ⟨e1, w_⟩⟩ := d_
  subst w_
  have g := rxcMO_1_3 hP hin I0 hinv l8 u8 l9 u9 l10 u10 l11 u11 l12 u12 f0 f1 e1 e0
  refine ⟨bx_narP_ok (l := []) g.1, bx_nfP_ok h0_ (fvs := []) (by decide +kernel) g.2.1, ?_, ?_⟩
  · show rxIMO_1 S0 ws S_p (bx_val [(0, 0), (0, 0), (0, 0), (0, 0), (0, 0), (0, 0), (0, 0), (0, 0), (8, 0), (9, 0), (10, 1)] r_p 8) (bx_val [(0, 0), (0, 0), (0, 0), (0, 0), (0, 0), (0, 0), (0, 0), (0, 0), (8, 0), (9, 0), (10, 1)] r_p 9) (bx_val [(0, 0), (0, 0), (0, 0), (0, 0), (0, 0), (0, 0), (0, 0), (0, 0), (8, 0), (9, 0), (10, 1)] r_p 10)
    rw [bx_val_x (n := 8) (e := (8, 0)) h0_ rfl, bx_val_x (n := 9) (e := (9, 0)) h0_ rfl, bx_val_x (n := 10) (e := (10, 1)) h0_ rfl]
    exact g.2.2.1
  · show rxmMO_1 S0 ws S_p (bx_val [(0, 0), (0, 0), (0, 0), (0, 0), (0, 0), (0, 0), (0, 0), (0, 0), (8, 0), (9, 0), (10, 1)] r_p 8) (bx_val [(0, 0), (0, 0), (0, 0), (0, 0), (0, 0), (0, 0), (0, 0), (0, 0), (8, 0), (9, 0), (10, 1)] r_p 9) (bx_val [(0, 0), (0, 0), (0, 0), (0, 0), (0, 0), (0, 0), (0, 0), (0, 0), (8, 0), (9, 0), (10, 1)] r_p 10) < rxmMO_1 S0 ws S_p (r 8) (r 9) (r 10)
    rw [bx_val_x (n := 8) (e := (8, 0)) h0_ rfl, bx_val_x (n := 9) (e := (9, 0)) h0_ rfl, bx_val_x (n := 10) (e := (10, 1)) h0_ rfl, ← hr_ 8 (by decide), ← hr_ 9 (by decide), ← hr_ 10 (by decide)]
    exact g.2.2.2
theorem rxdMO_1_0 {S0 : Nat → Int → Int} {ws : List Int} {S : Nat → Int → Int} {its many w_ : Int} (hP : rxPMO S0 ws) (hin : bx_same rxL (bx_mdl rxCMO.2.2.1) S0 S) (hin2 : bx_same rxL (bx_mdl rxCMO.2.2.1) S S) (I0 : bx_Inv rxL S) (I1 : bx_Inv rxL S) (hinv : rxIMO_1 S0 ws S its many w_) (l8 : (-1) ≤ its) (u8 : its ≤ 9) (l9 : 0 ≤ many) (u9 : many ≤ 2147483647) (l10 : 10 ≤ w_) (u10 : w_ ≤ 10) : ((0 ≤ its ∧ its ≤ 9) ∧ True) ∧ rxPSMO S0 ws S (some its) := by
  obtain ⟨hs, h⟩ := hinv
  obtain ⟨j, j0, j1, j2⟩ := hP
  subst hs
  have hn : its ≠ -1 := fun q => by
    have := (h q).2 j j0 (by omega)
    omega
  exact ⟨⟨by omega, trivial⟩, rfl⟩
theorem rxfMO_1_0 {X : (Nat → Int → Int) → Prop} {S0 : Nat → Int → Int} {ws : List Int} (hP : rxPMO S0 ws) : bx_obE rxL X S0 rxCMO.2.2.1 (rxIMO S0 ws) (rxPSMO S0 ws) 1 rxzMO_1 rxeMO_1_0 := by
  intro S S_p r r_p hinv hX hin hsm_ hseg
  obtain ⟨I0, I1, h0_, hr_, b_, f_, d_⟩ := bx_cl (evs := []) (fvs := []) hseg (by decide +kernel) (by decide +kernel)
  have hinv : rxIMO_1 S0 ws S (r 8) (r 9) (r 10) := hinv
  rw [← hr_ 8 (by decide), ← hr_ 9 (by decide), ← hr_ 10 (by decide)] at hinv
  obtain ⟨⟨l8, u8⟩, ⟨l9, u9⟩, ⟨l10, u10⟩, -⟩ := b_
  have w_ := d_
  subst w_
  have g := rxdMO_1_0 hP hin hsm_ I0 I1 hinv l8 u8 l9 u9 l10 u10
  refine ⟨bx_narP_ok (l := [(8, 0, 9)]) g.1, ?_⟩
  show rxPSMO S0 ws S_p (some (bx_num r_p (.inr (0, (8, 0)))))
  rw [bx_xv_ok h0_]
  exact g.2
theorem rxgCMO {X : (Nat → Int → Int) → Prop} {S0 : Nat → Int → Int} {ws : List Int} (hP : rxPMO S0 ws) : bx_allI (fun i q => rxUMO q = true ∨ bx_allP (fun o => bx_obC rxL X S0 rxCMO.2.2.1 (rxIMO S0 ws) (rxmMO S0 ws) i q.1 o) q.2.1) 0 rxYMO := ⟨Or.inr ⟨rxgMO_0_0 hP, trivial⟩, Or.inr ⟨rxgMO_1_0 hP, rxgMO_1_1 hP, rxgMO_1_2 hP, rxgMO_1_3 hP, trivial⟩, trivial⟩
theorem rxgEMO {X : (Nat → Int → Int) → Prop} {S0 : Nat → Int → Int} {ws : List Int} (hP : rxPMO S0 ws) : bx_allI (fun i q => rxUMO q = true ∨ bx_allP (fun E => bx_obE rxL X S0 rxCMO.2.2.1 (rxIMO S0 ws) (rxPSMO S0 ws) i q.1 E) q.2.2) 0 rxYMO := ⟨Or.inr trivial, Or.inr ⟨rxfMO_1_0 hP, trivial⟩, trivial⟩
theorem rxQMO {PX : State → Prop} {Dg : va_G} {A : Nat → Prop} {ad xa : Nat → Nat} {l : Launch} {X : (Nat → Int → Int) → Prop} (hPX : rx_PXOK rxNW A PX) (hsl : ∀ s : State, PX s → ∀ o idx n : Nat, rxSl o idx = some n → ∃ tx : String, vk_R (rxNm o) idx tx (ad n) s)
    (hX : ∀ S S_p : Nat → Int → Int, X S → bx_same rxL (bx_mdl rxCMO.2.2.1) S S_p → X S_p)
    (ih : ∀ (j2 : Nat) (ct2 : bx_Ct) (M2 : rx_Mt), ct2 ∈ rxCnE j2 → ct2.2.2.2.1 + 1 ≤ rxCMO.2.2.2.1 → rxT.2.2.2.2.2 j2 = some M2 → bx_Con rxG rxNW rxAO PX Dg rxL X vwCl A ad l M2 ct2) : bx_ConP rxG rxNW rxAO PX Dg rxL X vwCl A ad l rxM307 rxCMO rxPMO rxPSMO :=
  rxQof (xa := xa) (Cn := rxCnE) (f := 30000) (j := 307) (tab := rxYMO) (us := rxUMO) hPX hsl hX ih rfl rxYcMO rxIMO rxmMO
    (fun S0 ws r I0 I ht0 ht as he he1 hX0 hI0 hP hs ha => by
      have e := he.symm.trans (show bx_ent0 rxNP rxCMO.1 bx_I0 [] = some ([(0, 0), (0, 0), (0, 0), (0, 0), (0, 0), (0, 0), (0, 0), (0, 0)], [], [.inr (3, (0, 480))]) from rfl)
      cases e
      subst ha
      have h0 : r 0 = 0 := hs.1
      show rxIMO_0 S0 _ S0
      refine ⟨rfl, ?_⟩
      simp only [List.map_cons, List.map_nil, bx_xv_ok h0]
      rfl)
    (fun S0 ws hP => fun i q hq hus => absurd (show false = true from hus) Bool.false_ne_true) (fun S0 ws hP => rxgCMO hP) (fun S0 ws hP => rxgEMO hP)
