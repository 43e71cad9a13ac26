section
noncomputable def rxCMO : bx_Ct := ([(3, (1, 480, 0))], some (0, (0, 0, 9)), [], 0, [])
noncomputable def rxIMO_0 (S0 : Nat → Int → Int) (ws : List Int) (S : Nat → Int → Int) : Prop := S = S0 ∧ ws = [480]
noncomputable def rxmMO_0 (S0 : Nat → Int → Int) (ws : List Int) (S : Nat → Int → Int) : Nat := 1000
noncomputable def rxzMO_0 : rx_Z := ([(0, 0), (0, 0), (0, 0), (0, 0), (0, 0), (0, 0), (0, 0), (0, 0)], [], [], 0, 0, 0, [(0, .inr (3, (0, 480)))], [])
noncomputable def rxIMO_1 (S0 : Nat → Int → Int) (ws : List Int) (S : Nat → Int → Int) (its many w_ : Int) : Prop := S = S0 ∧ (its = -1 → many = 0 ∧ ∀ j : Int, 0 ≤ j → j < w_ → S 504 j ≤ 0)
noncomputable def rxmMO_1 (S0 : Nat → Int → Int) (ws : List Int) (S : Nat → Int → Int) (its many w_ : Int) : Nat := (20 - w_).toNat
noncomputable def rxzMO_1 : rx_Z := ([(0, 0), (0, 0), (0, 0), (0, 0), (0, 0), (0, 0), (0, 0), (0, 0), ((-1), 9), (0, 2147483647), (0, 10)], [], [], 0, 0, 6, [(0, .inr (3, (0, 480))), (1, .inr (0, (8, 0))), (2, .inr (0, (9, 0))), (3, .inr (0, (10, 0)))], [])
noncomputable def rxoMO_0_0 : bx_HO := (([(0, 0), (0, 0), (0, 0), (0, 0), (0, 0), (0, 0), (0, 0), (0, 0)], [], [], 0, 0, 6, [(3, .inr (0, (0, 0))), (2, .inr (0, (0, 0))), (1, .inr (0, (0, (-1)))), (0, .inr (3, (0, 480)))], []), [], [], [(0, 0), (0, 0), (0, 0), (0, 0), (0, 0), (0, 0), (0, 0), (0, 0), (0, (-1)), (0, 0), (0, 0)], 1)
noncomputable def rxoMO_1_0 : bx_HO := (([(0, 0), (0, 0), (0, 0), (0, 0), (0, 0), (0, 0), (0, 0), (0, 0), ((-1), 9), (0, 2147483646), (0, 9), (1, 2147483647), (1, 2147483647), ((-2147483648), 2147483647)], [(0, (9, 0), (12, 0)), (0, (9, 0), (11, 0))], [(((0, 0), 1851192626986356797424370955790042202572729718740712036989665280000000), .inr (0, (13, 0))), (((0, 0), 1851192626986356797424370955790042202572729718740712036989665280000000), .inr (0, (12, 0))), (((0, 0), 1851192626986356797424370955790042202572729718740712036989665280000000), .inr (0, (11, 0))), (((0, 480), 50), .inr (3, (0, 504)))], 0, 0, 6, [(3, .inr (0, (10, 1))), (2, .inr (0, (13, 0))), (1, .inr (0, (10, 0))), (0, .inr (3, (0, 480)))], []), [(13, 0, 2147483647)], [], [(0, 0), (0, 0), (0, 0), (0, 0), (0, 0), (0, 0), (0, 0), (0, 0), (10, 0), (13, 0), (10, 1)], 1)
noncomputable def rxoMO_1_1 : bx_HO := (([(0, 0), (0, 0), (0, 0), (0, 0), (0, 0), (0, 0), (0, 0), (0, 0), ((-1), 9), (0, 2147483646), (0, 9), (1, 2147483647), ((-2147483648), 2147483646)], [(1, (12, 0), (9, 0)), (0, (9, 0), (11, 0))], [(((0, 0), 1851192626986356797424370955790042202572729718740712036989665280000000), .inr (0, (12, 0))), (((0, 0), 1851192626986356797424370955790042202572729718740712036989665280000000), .inr (0, (11, 0))), (((0, 480), 50), .inr (3, (0, 504)))], 0, 0, 6, [(3, .inr (0, (10, 1))), (2, .inr (0, (9, 0))), (1, .inr (0, (10, 0))), (0, .inr (3, (0, 480)))], []), [], [], [(0, 0), (0, 0), (0, 0), (0, 0), (0, 0), (0, 0), (0, 0), (0, 0), (10, 0), (9, 0), (10, 1)], 1)
noncomputable def rxoMO_1_2 : bx_HO := (([(0, 0), (0, 0), (0, 0), (0, 0), (0, 0), (0, 0), (0, 0), (0, 0), ((-1), 9), (0, 2147483646), (0, 9), ((-2147483648), 2147483646), (1, 2147483647), ((-2147483648), 2147483647)], [(0, (9, 0), (12, 0)), (1, (11, 0), (9, 0))], [(((0, 0), 1851192626986356797424370955790042202572729718740712036989665280000000), .inr (0, (13, 0))), (((0, 0), 1851192626986356797424370955790042202572729718740712036989665280000000), .inr (0, (12, 0))), (((0, 0), 1851192626986356797424370955790042202572729718740712036989665280000000), .inr (0, (11, 0))), (((0, 480), 50), .inr (3, (0, 504)))], 0, 0, 6, [(3, .inr (0, (10, 1))), (2, .inr (0, (13, 0))), (1, .inr (0, (8, 0))), (0, .inr (3, (0, 480)))], []), [(13, 0, 2147483647)], [], [(0, 0), (0, 0), (0, 0), (0, 0), (0, 0), (0, 0), (0, 0), (0, 0), (8, 0), (13, 0), (10, 1)], 1)
noncomputable def rxoMO_1_3 : bx_HO := (([(0, 0), (0, 0), (0, 0), (0, 0), (0, 0), (0, 0), (0, 0), (0, 0), ((-1), 9), (0, 2147483647), (0, 9), ((-2147483648), 2147483647), ((-2147483648), 2147483647)], [(1, (12, 0), (9, 0)), (1, (11, 0), (9, 0))], [(((0, 0), 1851192626986356797424370955790042202572729718740712036989665280000000), .inr (0, (12, 0))), (((0, 0), 1851192626986356797424370955790042202572729718740712036989665280000000), .inr (0, (11, 0))), (((0, 480), 50), .inr (3, (0, 504)))], 0, 0, 6, [(3, .inr (0, (10, 1))), (2, .inr (0, (9, 0))), (1, .inr (0, (8, 0))), (0, .inr (3, (0, 480)))], []), [], [], [(0, 0), (0, 0), (0, 0), (0, 0), (0, 0), (0, 0), (0, 0), (0, 0), (8, 0), (9, 0), (10, 1)], 1)
noncomputable def rxeMO_1_0 : rx_End × List (Nat × Int × Int) := (([(0, 0), (0, 0), (0, 0), (0, 0), (0, 0), (0, 0), (0, 0), (0, 0), ((-1), 9), (0, 2147483647), (10, 10)], [], [], some (.inr (0, (8, 0)))), [(8, 0, 9)])
noncomputable def rxYMO : List bx_HE := [(rxzMO_0, [rxoMO_0_0], []), (rxzMO_1, [rxoMO_1_0, rxoMO_1_1, rxoMO_1_2, rxoMO_1_3], [rxeMO_1_0])]
noncomputable def rxUMO (q : bx_HE) : Bool := false
noncomputable def rxYBMO : bx_B := (rxV, rxNP, rxDmf, bx_mdH rxCMO.2.2.1)
set_option maxRecDepth 100000 in
theorem rxYcMO : bx_chkH rxYBMO rxM307 rxCMO rxYMO (rxUMO, fun cut z => rx_ex2 (rxCT rxYBMO rxCnE) cut 30000 rxCMO.2.2.2.1 307 z) = true := by decide +kernel
noncomputable def rxIMO (S0 : Nat → Int → Int) (ws : List Int) (i : Nat) : bx_SP := fun S r => match i with | 0 => rxIMO_0 S0 ws S | 1 => rxIMO_1 S0 ws S (r 8) (r 9) (r 10) | _ => False
noncomputable def rxmMO (S0 : Nat → Int → Int) (ws : List Int) (i : Nat) (S : Nat → Int → Int) (r : Nat → Int) : Nat := match i with | 0 => rxmMO_0 S0 ws S | 1 => rxmMO_1 S0 ws S (r 8) (r 9) (r 10) | _ => 0
noncomputable def rxPMO (S0 : Nat → Int → Int) (ws : List Int) : Prop := ∃ j : Int, 0 ≤ j ∧ j < 10 ∧ 0 < S0 504 j
noncomputable def rxPSMO (S0 : Nat → Int → Int) (ws : List Int) (S : Nat → Int → Int) (w : Option Int) : Prop := S = S0
theorem rxcMO_0_0 {S0 : Nat → Int → Int} {ws : List Int} {S : Nat → Int → Int} (hP : rxPMO S0 ws) (hin : bx_same rxL (bx_mdl rxCMO.2.2.1) S0 S) (I0 : bx_Inv rxL S) (hinv : rxIMO_0 S0 ws S)  : (True) ∧ (True) ∧ rxIMO_1 S0 ws S ((-1)) 0 0 ∧ rxmMO_1 S0 ws S ((-1)) 0 0 < rxmMO_0 S0 ws S := by
  exact ⟨trivial, trivial, ⟨hinv.1, fun _ => ⟨rfl, fun j h1 h2 => by omega⟩⟩, by unfold rxmMO_0 rxmMO_1; omega⟩
theorem rxgMO_0_0 {X : (Nat → Int → Int) → Prop} {S0 : Nat → Int → Int} {ws : List Int} (hP : rxPMO S0 ws) : bx_obC rxL X S0 rxCMO.2.2.1 (rxIMO S0 ws) (rxmMO S0 ws) 0 rxzMO_0 rxoMO_0_0 := by
  intro S S_p r r_p hinv hX hin hsm_ hseg
  obtain ⟨I0, I1, h0_, hr_, b_, f_, d_⟩ := bx_cl (evs := []) (fvs := []) hseg (by decide +kernel) (by decide +kernel)
  have hinv : rxIMO_0 S0 ws S := hinv
  have w_ := d_
  subst w_
  have g := rxcMO_0_0 hP hin I0 hinv 
  refine ⟨bx_narP_ok (l := []) g.1, bx_nfP_ok h0_ (fvs := []) (by decide +kernel) g.2.1, ?_, ?_⟩
  · show rxIMO_1 S0 ws S_p (bx_val [(0, 0), (0, 0), (0, 0), (0, 0), (0, 0), (0, 0), (0, 0), (0, 0), (0, (-1)), (0, 0), (0, 0)] r_p 8) (bx_val [(0, 0), (0, 0), (0, 0), (0, 0), (0, 0), (0, 0), (0, 0), (0, 0), (0, (-1)), (0, 0), (0, 0)] r_p 9) (bx_val [(0, 0), (0, 0), (0, 0), (0, 0), (0, 0), (0, 0), (0, 0), (0, 0), (0, (-1)), (0, 0), (0, 0)] r_p 10)
    rw [bx_val_x (n := 8) (e := (0, (-1))) h0_ rfl, bx_val_x (n := 9) (e := (0, 0)) h0_ rfl, bx_val_x (n := 10) (e := (0, 0)) h0_ rfl]
    exact g.2.2.1
  · show rxmMO_1 S0 ws S_p (bx_val [(0, 0), (0, 0), (0, 0), (0, 0), (0, 0), (0, 0), (0, 0), (0, 0), (0, (-1)), (0, 0), (0, 0)] r_p 8) (bx_val [(0, 0), (0, 0), (0, 0), (0, 0), (0, 0), (0, 0), (0, 0), (0, 0), (0, (-1)), (0, 0), (0, 0)] r_p 9) (bx_val [(0, 0), (0, 0), (0, 0), (0, 0), (0, 0), (0, 0), (0, 0), (0, 0), (0, (-1)), (0, 0), (0, 0)] r_p 10) < rxmMO_0 S0 ws S_p
    rw [bx_val_x (n := 8) (e := (0, (-1))) h0_ rfl, bx_val_x (n := 9) (e := (0, 0)) h0_ rfl, bx_val_x (n := 10) (e := (0, 0)) h0_ rfl]
    exact g.2.2.2
theorem rxcMO_1_0 {S0 : Nat → Int → Int} {ws : List Int} {S : Nat → Int → Int} {its many w_ x11 x12 x13 : Int} (hP : rxPMO S0 ws) (hin : bx_same rxL (bx_mdl rxCMO.2.2.1) S0 S) (I0 : bx_Inv rxL S) (hinv : rxIMO_1 S0 ws S its many w_) (l8 : (-1) ≤ its) (u8 : its ≤ 9) (l9 : 0 ≤ many) (u9 : many ≤ 2147483646) (l10 : 0 ≤ w_) (u10 : w_ ≤ 9) (l11 : 1 ≤ x11) (u11 : x11 ≤ 2147483647) (l12 : 1 ≤ x12) (u12 : x12 ≤ 2147483647) (l13 : (-2147483648) ≤ x13) (u13 : x13 ≤ 2147483647) (f0 : many < x12) (f1 : many < x11) (e2 : S 504 w_ = x11) (e1 : S 504 w_ = x12) (e0 : S 504 w_ = x13) : ((0 ≤ x13 ∧ x13 ≤ 2147483647) ∧ True) ∧ (True) ∧ rxIMO_1 S0 ws S w_ x13 (w_ + 1) ∧ rxmMO_1 S0 ws S w_ x13 (w_ + 1) < rxmMO_1 S0 ws S its many w_ := by
  obtain ⟨hs, h⟩ := hinv
  have a := e2.symm.trans e0
  exact ⟨⟨by omega, trivial⟩, trivial, ⟨hs, fun q => by omega⟩, by unfold rxmMO_1; omega⟩
theorem rxgMO_1_0 {X : (Nat → Int → Int) → Prop} {S0 : Nat → Int → Int} {ws : List Int} (hP : rxPMO S0 ws) : bx_obC rxL X S0 rxCMO.2.2.1 (rxIMO S0 ws) (rxmMO S0 ws) 1 rxzMO_1 rxoMO_1_0 := by
  intro S S_p r r_p hinv hX hin hsm_ hseg
  obtain ⟨I0, I1, h0_, hr_, b_, f_, d_⟩ := bx_cl (evs := [(0, (0, 504), (10, 0), .inr (0, (13, 0))), (0, (0, 504), (10, 0), .inr (0, (12, 0))), (0, (0, 504), (10, 0), .inr (0, (11, 0)))]) (fvs := [(0, (9, 0), (12, 0), (0, 0)), (0, (9, 0), (11, 0), (0, 0))]) hseg (by decide +kernel) (by decide +kernel)
  have hinv : rxIMO_1 S0 ws S (r 8) (r 9) (r 10) := hinv
  rw [← hr_ 8 (by decide), ← hr_ 9 (by decide), ← hr_ 10 (by decide)] at hinv
  obtain ⟨⟨l8, u8⟩, ⟨l9, u9⟩, ⟨l10, u10⟩, ⟨l11, u11⟩, ⟨l12, u12⟩, ⟨l13, u13⟩, -⟩ := b_
  obtain ⟨f0, f1, -⟩ := f_
  obtain ⟨e0, ⟨e1, ⟨e2, w_⟩⟩⟩ := d_
  subst w_
  have g := rxcMO_1_0 hP hin I0 hinv l8 u8 l9 u9 l10 u10 l11 u11 l12 u12 l13 u13 f0 f1 e2 e1 e0
  refine ⟨bx_narP_ok (l := [(13, 0, 2147483647)]) g.1, bx_nfP_ok h0_ (fvs := []) (by decide +kernel) g.2.1, ?_, ?_⟩
  · show rxIMO_1 S0 ws S_p (bx_val [(0, 0), (0, 0), (0, 0), (0, 0), (0, 0), (0, 0), (0, 0), (0, 0), (10, 0), (13, 0), (10, 1)] r_p 8) (bx_val [(0, 0), (0, 0), (0, 0), (0, 0), (0, 0), (0, 0), (0, 0), (0, 0), (10, 0), (13, 0), (10, 1)] r_p 9) (bx_val [(0, 0), (0, 0), (0, 0), (0, 0), (0, 0), (0, 0), (0, 0), (0, 0), (10, 0), (13, 0), (10, 1)] r_p 10)
    rw [bx_val_x (n := 8) (e := (10, 0)) h0_ rfl, bx_val_x (n := 9) (e := (13, 0)) h0_ rfl, bx_val_x (n := 10) (e := (10, 1)) h0_ rfl]
    exact g.2.2.1
  · show rxmMO_1 S0 ws S_p (bx_val [(0, 0), (0, 0), (0, 0), (0, 0), (0, 0), (0, 0), (0, 0), (0, 0), (10, 0), (13, 0), (10, 1)] r_p 8) (bx_val [(0, 0), (0, 0), (0, 0), (0, 0), (0, 0), (0, 0), (0, 0), (0, 0), (10, 0), (13, 0), (10, 1)] r_p 9) (bx_val [(0, 0), (0, 0), (0, 0), (0, 0), (0, 0), (0, 0), (0, 0), (0, 0), (10, 0), (13, 0), (10, 1)] r_p 10) < rxmMO_1 S0 ws S_p (r 8) (r 9) (r 10)
    rw [bx_val_x (n := 8) (e := (10, 0)) h0_ rfl, bx_val_x (n := 9) (e := (13, 0)) h0_ rfl, bx_val_x (n := 10) (e := (10, 1)) h0_ rfl, ← hr_ 8 (by decide), ← hr_ 9 (by decide), ← hr_ 10 (by decide)]
    exact g.2.2.2
theorem rxcMO_1_1 {S0 : Nat → Int → Int} {ws : List Int} {S : Nat → Int → Int} {its many w_ x11 x12 : Int} (hP : rxPMO S0 ws) (hin : bx_same rxL (bx_mdl rxCMO.2.2.1) S0 S) (I0 : bx_Inv rxL S) (hinv : rxIMO_1 S0 ws S its many w_) (l8 : (-1) ≤ its) (u8 : its ≤ 9) (l9 : 0 ≤ many) (u9 : many ≤ 2147483646) (l10 : 0 ≤ w_) (u10 : w_ ≤ 9) (l11 : 1 ≤ x11) (u11 : x11 ≤ 2147483647) (l12 : (-2147483648) ≤ x12) (u12 : x12 ≤ 2147483646) (f0 : x12 ≤ many) (f1 : many < x11) (e1 : S 504 w_ = x11) (e0 : S 504 w_ = x12) : (True) ∧ (True) ∧ rxIMO_1 S0 ws S w_ many (w_ + 1) ∧ rxmMO_1 S0 ws S w_ many (w_ + 1) < rxmMO_1 S0 ws S its many w_ := by
  exfalso
  have a := e1.symm.trans e0
  omega
theorem rxgMO_1_1 {X : (Nat → Int → Int) → Prop} {S0 : Nat → Int → Int} {ws : List Int} (hP : rxPMO S0 ws) : bx_obC rxL X S0 rxCMO.2.2.1 (rxIMO S0 ws) (rxmMO S0 ws) 1 rxzMO_1 rxoMO_1_1 := by
  intro S S_p r r_p hinv hX hin hsm_ hseg
  obtain ⟨I0, I1, h0_, hr_, b_, f_, d_⟩ := bx_cl (evs := [(0, (0, 504), (10, 0), .inr (0, (12, 0))), (0, (0, 504), (10, 0), .inr (0, (11, 0)))]) (fvs := [(1, (12, 0), (9, 0), (0, 0)), (0, (9, 0), (11, 0), (0, 0))]) hseg (by decide +kernel) (by decide +kernel)
  have hinv : rxIMO_1 S0 ws S (r 8) (r 9) (r 10) := hinv
  rw [← hr_ 8 (by decide), ← hr_ 9 (by decide), ← hr_ 10 (by decide)] at hinv
  obtain ⟨⟨l8, u8⟩, ⟨l9, u9⟩, ⟨l10, u10⟩, ⟨l11, u11⟩, ⟨l12, u12⟩, -⟩ := b_
  obtain ⟨f0, f1, -⟩ := f_
  obtain ⟨e0, ⟨e1, w_⟩⟩ := d_
  subst w_
  have g := rxcMO_1_1 hP hin I0 hinv l8 u8 l9 u9 l10 u10 l11 u11 l12 u12 f0 f1 e1 e0
  refine ⟨bx_narP_ok (l := []) g.1, bx_nfP_ok h0_ (fvs := []) (by decide +kernel) g.2.1, ?_, ?_⟩
  · show rxIMO_1 S0 ws S_p (bx_val [(0, 0), (0, 0), (0, 0), (0, 0), (0, 0), (0, 0), (0, 0), (0, 0), (10, 0), (9, 0), (10, 1)] r_p 8) (bx_val [(0, 0), (0, 0), (0, 0), (0, 0), (0, 0), (0, 0), (0, 0), (0, 0), (10, 0), (9, 0), (10, 1)] r_p 9) (bx_val [(0, 0), (0, 0), (0, 0), (0, 0), (0, 0), (0, 0), (0, 0), (0, 0), (10, 0), (9, 0), (10, 1)] r_p 10)
    rw [bx_val_x (n := 8) (e := (10, 0)) h0_ rfl, bx_val_x (n := 9) (e := (9, 0)) h0_ rfl, bx_val_x (n := 10) (e := (10, 1)) h0_ rfl]
    exact g.2.2.1
  · show rxmMO_1 S0 ws S_p (bx_val [(0, 0), (0, 0), (0, 0), (0, 0), (0, 0), (0, 0), (0, 0), (0, 0), (10, 0), (9, 0), (10, 1)] r_p 8) (bx_val [(0, 0), (0, 0), (0, 0), (0, 0), (0, 0), (0, 0), (0, 0), (0, 0), (10, 0), (9, 0), (10, 1)] r_p 9) (bx_val [(0, 0), (0, 0), (0, 0), (0, 0), (0, 0), (0, 0), (0, 0), (0, 0), (10, 0), (9, 0), (10, 1)] r_p 10) < rxmMO_1 S0 ws S_p (r 8) (r 9) (r 10)
    rw [bx_val_x (n := 8) (e := (10, 0)) h0_ rfl, bx_val_x (n := 9) (e := (9, 0)) h0_ rfl, bx_val_x (n := 10) (e := (10, 1)) h0_ rfl, ← hr_ 8 (by decide), ← hr_ 9 (by decide), ← hr_ 10 (by decide)]
    exact g.2.2.2
theorem rxcMO_1_2 {S0 : Nat → Int → Int} {ws : List Int} {S : Nat → Int → Int} {its many w_ x11 x12 x13 : Int} (hP : rxPMO S0 ws) (hin : bx_same rxL (bx_mdl rxCMO.2.2.1) S0 S) (I0 : bx_Inv rxL S) (hinv : rxIMO_1 S0 ws S its many w_) (l8 : (-1) ≤ its) (u8 : its ≤ 9) (l9 : 0 ≤ many) (u9 : many ≤ 2147483646) (l10 : 0 ≤ w_) (u10 : w_ ≤ 9) (l11 : (-2147483648) ≤ x11) (u11 : x11 ≤ 2147483646) (l12 : 1 ≤ x12) (u12 : x12 ≤ 2147483647) (l13 : (-2147483648) ≤ x13) (u13 : x13 ≤ 2147483647) (f0 : many < x12) (f1 : x11 ≤ many) (e2 : S 504 w_ = x11) (e1 : S 504 w_ = x12) (e0 : S 504 w_ = x13) : ((0 ≤ x13 ∧ x13 ≤ 2147483647) ∧ True) ∧ (True) ∧ rxIMO_1 S0 ws S its x13 (w_ + 1) ∧ rxmMO_1 S0 ws S its x13 (w_ + 1) < rxmMO_1 S0 ws S its many w_ := by
  exfalso
  have a := e2.symm.trans e1
  omega
theorem rxgMO_1_2 {X : (Nat → Int → Int) → Prop} {S0 : Nat → Int → Int} {ws : List Int} (hP : rxPMO S0 ws) : bx_obC rxL X S0 rxCMO.2.2.1 (rxIMO S0 ws) (rxmMO S0 ws) 1 rxzMO_1 rxoMO_1_2 := by
  intro S S_p r r_p hinv hX hin hsm_ hseg
  obtain ⟨I0, I1, h0_, hr_, b_, f_, d_⟩ := bx_cl (evs := [(0, (0, 504), (10, 0), .inr (0, (13, 0))), (0, (0, 504), (10, 0), .inr (0, (12, 0))), (0, (0, 504), (10, 0), .inr (0, (11, 0)))]) (fvs := [(0, (9, 0), (12, 0), (0, 0)), (1, (11, 0), (9, 0), (0, 0))]) hseg (by decide +kernel) (by decide +kernel)
  have hinv : rxIMO_1 S0 ws S (r 8) (r 9) (r 10) := hinv
  rw [← hr_ 8 (by decide), ← hr_ 9 (by decide), ← hr_ 10 (by decide)] at hinv
  obtain ⟨⟨l8, u8⟩, ⟨l9, u9⟩, ⟨l10, u10⟩, ⟨l11, u11⟩, ⟨l12, u12⟩, ⟨l13, u13⟩, -⟩ := b_
  obtain ⟨f0, f1, -⟩ := f_
  obtain ⟨e0, ⟨e1, ⟨e2, w_⟩⟩⟩ := d_
  subst w_
  have g := rxcMO_1_2 hP hin I0 hinv l8 u8 l9 u9 l10 u10 l11 u11 l12 u12 l13 u13 f0 f1 e2 e1 e0
  refine ⟨bx_narP_ok (l := [(13, 0, 2147483647)]) g.1, bx_nfP_ok h0_ (fvs := []) (by decide +kernel) g.2.1, ?_, ?_⟩
  · show rxIMO_1 S0 ws S_p (bx_val [(0, 0), (0, 0), (0, 0), (0, 0), (0, 0), (0, 0), (0, 0), (0, 0), (8, 0), (13, 0), (10, 1)] r_p 8) (bx_val [(0, 0), (0, 0), (0, 0), (0, 0), (0, 0), (0, 0), (0, 0), (0, 0), (8, 0), (13, 0), (10, 1)] r_p 9) (bx_val [(0, 0), (0, 0), (0, 0), (0, 0), (0, 0), (0, 0), (0, 0), (0, 0), (8, 0), (13, 0), (10, 1)] r_p 10)
    rw [bx_val_x (n := 8) (e := (8, 0)) h0_ rfl, bx_val_x (n := 9) (e := (13, 0)) h0_ rfl, bx_val_x (n := 10) (e := (10, 1)) h0_ rfl]
    exact g.2.2.1
  · show rxmMO_1 S0 ws S_p (bx_val [(0, 0), (0, 0), (0, 0), (0, 0), (0, 0), (0, 0), (0, 0), (0, 0), (8, 0), (13, 0), (10, 1)] r_p 8) (bx_val [(0, 0), (0, 0), (0, 0), (0, 0), (0, 0), (0, 0), (0, 0), (0, 0), (8, 0), (13, 0), (10, 1)] r_p 9) (bx_val [(0, 0), (0, 0), (0, 0), (0, 0), (0, 0), (0, 0), (0, 0), (0, 0), (8, 0), (13, 0), (10, 1)] r_p 10) < rxmMO_1 S0 ws S_p (r 8) (r 9) (r 10)
    rw [bx_val_x (n := 8) (e := (8, 0)) h0_ rfl, bx_val_x (n := 9) (e := (13, 0)) h0_ rfl, bx_val_x (n := 10) (e := (10, 1)) h0_ rfl, ← hr_ 8 (by decide), ← hr_ 9 (by decide), ← hr_ 10 (by decide)]
    exact g.2.2.2
theorem rxcMO_1_3 {S0 : Nat → Int → Int} {ws : List Int} {S : Nat → Int → Int} {its many w_ x11 x12 : Int} (hP : rxPMO S0 ws) (hin : bx_same rxL (bx_mdl rxCMO.2.2.1) S0 S) (I0 : bx_Inv rxL S) (hinv : rxIMO_1 S0 ws S its many w_) (l8 : (-1) ≤ its) (u8 : its ≤ 9) (l9 : 0 ≤ many) (u9 : many ≤ 2147483647) (l10 : 0 ≤ w_) (u10 : w_ ≤ 9) (l11 : (-2147483648) ≤ x11) (u11 : x11 ≤ 2147483647) (l12 : (-2147483648) ≤ x12) (u12 : x12 ≤ 2147483647) (f0 : x12 ≤ many) (f1 : x11 ≤ many) (e1 : S 504 w_ = x11) (e0 : S 504 w_ = x12) : (True) ∧ (True) ∧ rxIMO_1 S0 ws S its many (w_ + 1) ∧ rxmMO_1 S0 ws S its many (w_ + 1) < rxmMO_1 S0 ws S its many w_ := by
  obtain ⟨hs, h⟩ := hinv
  refine ⟨trivial, trivial, ⟨hs, fun q => ⟨(h q).1, fun j h1 h2 => ?_⟩⟩, by unfold rxmMO_1; omega⟩
  by_cases hj : j = w_
  · subst hj
    have := (h q).1
    omega
  · exact (h q).2 j h1 (by omega)
theorem rxgMO_1_3 {X : (Nat → Int → Int) → Prop} {S0 : Nat → Int → Int} {ws : List Int} (hP : rxPMO S0 ws) : bx_obC rxL X S0 rxCMO.2.2.1 (rxIMO S0 ws) (rxmMO S0 ws) 1 rxzMO_1 rxoMO_1_3 := by
  intro S S_p r r_p hinv hX hin hsm_ hseg
  obtain ⟨I0, I1, h0_, hr_, b_, f_, d_⟩ := bx_cl (evs := [(0, (0, 504), (10, 0), .inr (0, (12, 0))), (0, (0, 504), (10, 0), .inr (0, (11, 0)))]) (fvs := [(1, (12, 0), (9, 0), (0, 0)), (1, (11, 0), (9, 0), (0, 0))]) hseg (by decide +kernel) (by decide +kernel)
  have hinv : rxIMO_1 S0 ws S (r 8) (r 9) (r 10) := hinv
  rw [← hr_ 8 (by decide), ← hr_ 9 (by decide), ← hr_ 10 (by decide)] at hinv
  obtain ⟨⟨l8, u8⟩, ⟨l9, u9⟩, ⟨l10, u10⟩, ⟨l11, u11⟩, ⟨l12, u12⟩, -⟩ := b_
  obtain ⟨f0, f1, -⟩ := f_
  obtain ⟨e0, ⟨e1, w_⟩⟩ := d_
  subst w_
  have g := rxcMO_1_3 hP hin I0 hinv l8 u8 l9 u9 l10 u10 l11 u11 l12 u12 f0 f1 e1 e0
  refine ⟨bx_narP_ok (l := []) g.1, bx_nfP_ok h0_ (fvs := []) (by decide +kernel) g.2.1, ?_, ?_⟩
  · show rxIMO_1 S0 ws S_p (bx_val [(0, 0), (0, 0), (0, 0), (0, 0), (0, 0), (0, 0), (0, 0), (0, 0), (8, 0), (9, 0), (10, 1)] r_p 8) (bx_val [(0, 0), (0, 0), (0, 0), (0, 0), (0, 0), (0, 0), (0, 0), (0, 0), (8, 0), (9, 0), (10, 1)] r_p 9) (bx_val [(0, 0), (0, 0), (0, 0), (0, 0), (0, 0), (0, 0), (0, 0), (0, 0), (8, 0), (9, 0), (10, 1)] r_p 10)
    rw [bx_val_x (n := 8) (e := (8, 0)) h0_ rfl, bx_val_x (n := 9) (e := (9, 0)) h0_ rfl, bx_val_x (n := 10) (e := (10, 1)) h0_ rfl]
    exact g.2.2.1
  · show rxmMO_1 S0 ws S_p (bx_val [(0, 0), (0, 0), (0, 0), (0, 0), (0, 0), (0, 0), (0, 0), (0, 0), (8, 0), (9, 0), (10, 1)] r_p 8) (bx_val [(0, 0), (0, 0), (0, 0), (0, 0), (0, 0), (0, 0), (0, 0), (0, 0), (8, 0), (9, 0), (10, 1)] r_p 9) (bx_val [(0, 0), (0, 0), (0, 0), (0, 0), (0, 0), (0, 0), (0, 0), (0, 0), (8, 0), (9, 0), (10, 1)] r_p 10) < rxmMO_1 S0 ws S_p (r 8) (r 9) (r 10)
    rw [bx_val_x (n := 8) (e := (8, 0)) h0_ rfl, bx_val_x (n := 9) (e := (9, 0)) h0_ rfl, bx_val_x (n := 10) (e := (10, 1)) h0_ rfl, ← hr_ 8 (by decide), ← hr_ 9 (by decide), ← hr_ 10 (by decide)]
    exact g.2.2.2
theorem rxdMO_1_0 {S0 : Nat → Int → Int} {ws : List Int} {S : Nat → Int → Int} {its many w_ : Int} (hP : rxPMO S0 ws) (hin : bx_same rxL (bx_mdl rxCMO.2.2.1) S0 S) (hin2 : bx_same rxL (bx_mdl rxCMO.2.2.1) S S) (I0 : bx_Inv rxL S) (I1 : bx_Inv rxL S) (hinv : rxIMO_1 S0 ws S its many w_) (l8 : (-1) ≤ its) (u8 : its ≤ 9) (l9 : 0 ≤ many) (u9 : many ≤ 2147483647) (l10 : 10 ≤ w_) (u10 : w_ ≤ 10) : ((0 ≤ its ∧ its ≤ 9) ∧ True) ∧ rxPSMO S0 ws S (some its) := by
  obtain ⟨hs, h⟩ := hinv
  obtain ⟨j, j0, j1, j2⟩ := hP
  subst hs
  have hn : its ≠ -1 := fun q => by
    have := (h q).2 j j0 (by omega)
    omega
  exact ⟨⟨by omega, trivial⟩, rfl⟩
theorem rxfMO_1_0 {X : (Nat → Int → Int) → Prop} {S0 : Nat → Int → Int} {ws : List Int} (hP : rxPMO S0 ws) : bx_obE rxL X S0 rxCMO.2.2.1 (rxIMO S0 ws) (rxPSMO S0 ws) 1 rxzMO_1 rxeMO_1_0 := by
  intro S S_p r r_p hinv hX hin hsm_ hseg
  obtain ⟨I0, I1, h0_, hr_, b_, f_, d_⟩ := bx_cl (evs := []) (fvs := []) hseg (by decide +kernel) (by decide +kernel)
  have hinv : rxIMO_1 S0 ws S (r 8) (r 9) (r 10) := hinv
  rw [← hr_ 8 (by decide), ← hr_ 9 (by decide), ← hr_ 10 (by decide)] at hinv
  obtain ⟨⟨l8, u8⟩, ⟨l9, u9⟩, ⟨l10, u10⟩, -⟩ := b_
  have w_ := d_
  subst w_
  have g := rxdMO_1_0 hP hin hsm_ I0 I1 hinv l8 u8 l9 u9 l10 u10
  refine ⟨bx_narP_ok (l := [(8, 0, 9)]) g.1, ?_⟩
  show rxPSMO S0 ws S_p (some (bx_num r_p (.inr (0, (8, 0)))))
  rw [bx_xv_ok h0_]
  exact g.2
theorem rxgCMO {X : (Nat → Int → Int) → Prop} {S0 : Nat → Int → Int} {ws : List Int} (hP : rxPMO S0 ws) : bx_allI (fun i q => rxUMO q = true ∨ bx_allP (fun o => bx_obC rxL X S0 rxCMO.2.2.1 (rxIMO S0 ws) (rxmMO S0 ws) i q.1 o) q.2.1) 0 rxYMO := ⟨Or.inr ⟨rxgMO_0_0 hP, trivial⟩, Or.inr ⟨rxgMO_1_0 hP, rxgMO_1_1 hP, rxgMO_1_2 hP, rxgMO_1_3 hP, trivial⟩, trivial⟩
theorem rxgEMO {X : (Nat → Int → Int) → Prop} {S0 : Nat → Int → Int} {ws : List Int} (hP : rxPMO S0 ws) : bx_allI (fun i q => rxUMO q = true ∨ bx_allP (fun E => bx_obE rxL X S0 rxCMO.2.2.1 (rxIMO S0 ws) (rxPSMO S0 ws) i q.1 E) q.2.2) 0 rxYMO := ⟨Or.inr trivial, Or.inr ⟨rxfMO_1_0 hP, trivial⟩, trivial⟩
theorem rxQMO {PX : State → Prop} {Dg : va_G} {A : Nat → Prop} {ad xa : Nat → Nat} {l : Launch} {X : (Nat → Int → Int) → Prop} (hPX : rx_PXOK rxNW A PX) (hsl : ∀ s : State, PX s → ∀ o idx n : Nat, rxSl o idx = some n → ∃ tx : String, vk_R (rxNm o) idx tx (ad n) s)
    (hX : ∀ S S_p : Nat → Int → Int, X S → bx_same rxL (bx_mdl rxCMO.2.2.1) S S_p → X S_p)
    (ih : ∀ (j2 : Nat) (ct2 : bx_Ct) (M2 : rx_Mt), ct2 ∈ rxCnE j2 → ct2.2.2.2.1 + 1 ≤ rxCMO.2.2.2.1 → rxT.2.2.2.2.2 j2 = some M2 → bx_Con rxG rxNW rxAO PX Dg rxL X vwCl A ad l M2 ct2) : bx_ConP rxG rxNW rxAO PX Dg rxL X vwCl A ad l rxM307 rxCMO rxPMO rxPSMO :=
  rxQof (xa := xa) (Cn := rxCnE) (f := 30000) (j := 307) (tab := rxYMO) (us := rxUMO) hPX hsl hX ih rfl rxYcMO rxIMO rxmMO
    (fun S0 ws r I0 I ht0 ht as he he1 hX0 hI0 hP hs ha => by
      have e := he.symm.trans (show bx_ent0 rxNP rxCMO.1 bx_I0 [] = some ([(0, 0), (0, 0), (0, 0), (0, 0), (0, 0), (0, 0), (0, 0), (0, 0)], [], [.inr (3, (0, 480))]) from rfl)
      cases e
      subst ha
      have h0 : r 0 = 0 := hs.1
      show rxIMO_0 S0 _ S0
      refine ⟨rfl, ?_⟩
      simp only [List.map_cons, List.map_nil, bx_xv_ok h0]
      rfl)
    (fun S0 ws hP => fun i q hq hus => absurd (show false = true from hus) Bool.false_ne_true) (fun S0 ws hP => rxgCMO hP) (fun S0 ws hP => rxgEMO hP)
end
section
noncomputable def rxCMB : bx_Ct := ([(3, (1, 480, 0))], some (0, (0, 1, 1023)), [], 1, [])
noncomputable def rxIMB_0 (S0 : Nat → Int → Int) (ws : List Int) (S : Nat → Int → Int) : Prop := S = S0 ∧ ws = [480]
noncomputable def rxmMB_0 (S0 : Nat → Int → Int) (ws : List Int) (S : Nat → Int → Int) : Nat := 1000
noncomputable def rxzMB_0 : rx_Z := ([(0, 0), (0, 0), (0, 0), (0, 0), (0, 0), (0, 0), (0, 0), (0, 0)], [], [], 0, 0, 0, [(0, .inr (3, (0, 480)))], [])
noncomputable def rxIMB_1 (S0 : Nat → Int → Int) (ws : List Int) (S : Nat → Int → Int) : Prop := S = S0 ∧ (∃ j : Int, 0 ≤ j ∧ j < 10 ∧ 0 < S 504 j)
noncomputable def rxmMB_1 (S0 : Nat → Int → Int) (ws : List Int) (S : Nat → Int → Int) : Nat := 900
noncomputable def rxzMB_1 : rx_Z := ([(0, 0), (0, 0), (0, 0), (0, 0), (0, 0), (0, 0), (0, 0), (0, 0)], [], [], 0, 0, 1, [(0, .inr (3, (0, 480)))], [.inr (3, (0, 480))])
noncomputable def rxIMB_2 (S0 : Nat → Int → Int) (ws : List Int) (S : Nat → Int → Int) (m : Int) : Prop := S = S0
noncomputable def rxmMB_2 (S0 : Nat → Int → Int) (ws : List Int) (S : Nat → Int → Int) (m : Int) : Nat := 800
noncomputable def rxzMB_2 : rx_Z := ([(0, 0), (0, 0), (0, 0), (0, 0), (0, 0), (0, 0), (0, 0), (0, 0), (0, 9)], [], [], 0, 0, 4, [(0, .inr (3, (0, 480)))], [.inr (0, (8, 0))])
noncomputable def rxIMB_3 (S0 : Nat → Int → Int) (ws : List Int) (S : Nat → Int → Int) (m its w_ : Int) : Prop := S = S0 ∧ (m < w_ → 1 ≤ its)
noncomputable def rxmMB_3 (S0 : Nat → Int → Int) (ws : List Int) (S : Nat → Int → Int) (m its w_ : Int) : Nat := 10 * (20 - w_).toNat + 9
noncomputable def rxzMB_3 : rx_Z := ([(0, 0), (0, 0), (0, 0), (0, 0), (0, 0), (0, 0), (0, 0), (0, 0), (0, 9), (0, 1023), (0, 10)], [], [], 0, 0, 9, [(0, .inr (3, (0, 480))), (1, .inr (0, (8, 0))), (2, .inr (0, (9, 0))), (3, .inr (0, (10, 0)))], [])
noncomputable def rxIMB_4 (S0 : Nat → Int → Int) (ws : List Int) (S : Nat → Int → Int) (m its w_ a b : Int) : Prop := S = S0 ∧ (m < w_ → 1 ≤ a) ∧ (m = w_ → 1 ≤ b)
noncomputable def rxmMB_4 (S0 : Nat → Int → Int) (ws : List Int) (S : Nat → Int → Int) (m its w_ a b : Int) : Nat := 10 * (20 - w_).toNat + 8
noncomputable def rxzMB_4 : rx_Z := ([(0, 0), (0, 0), (0, 0), (0, 0), (0, 0), (0, 0), (0, 0), (0, 0), (0, 9), (0, 1023), (0, 9), (0, 1023), (0, 512)], [], [], 0, 0, 43, [(0, .inr (3, (0, 480))), (1, .inr (0, (8, 0))), (2, .inr (0, (9, 0))), (3, .inr (0, (10, 0)))], [.inr (0, (12, 0)), .inr (0, (11, 0))])
noncomputable def rxIMB_5 (S0 : Nat → Int → Int) (ws : List Int) (S : Nat → Int → Int) (m its w_ a b c : Int) : Prop := S = S0 ∧ (m < w_ + 1 → 1 ≤ c)
noncomputable def rxmMB_5 (S0 : Nat → Int → Int) (ws : List Int) (S : Nat → Int → Int) (m its w_ a b c : Int) : Nat := 10 * (20 - w_).toNat + 7
noncomputable def rxzMB_5 : rx_Z := ([(0, 0), (0, 0), (0, 0), (0, 0), (0, 0), (0, 0), (0, 0), (0, 0), (0, 9), (0, 1023), (0, 9), (0, 1023), (0, 512), (0, 1023)], [], [], 0, 0, 44, [(0, .inr (3, (0, 480))), (1, .inr (0, (8, 0))), (2, .inr (0, (9, 0))), (3, .inr (0, (10, 0)))], [.inr (0, (13, 0))])
noncomputable def rxoMB_0_0 : bx_HO := (([(0, 0), (0, 0), (0, 0), (0, 0), (0, 0), (0, 0), (0, 0), (0, 0)], [], [], 0, 0, 1, [(0, .inr (3, (0, 480)))], [.inr (3, (0, 480))]), [], [], [(0, 0), (0, 0), (0, 0), (0, 0), (0, 0), (0, 0), (0, 0), (0, 0)], 1)
noncomputable def rxoMB_2_0 : bx_HO := (([(0, 0), (0, 0), (0, 0), (0, 0), (0, 0), (0, 0), (0, 0), (0, 0), (0, 9)], [], [], 0, 0, 9, [(3, .inr (0, (0, 0))), (2, .inr (0, (0, 0))), (1, .inr (0, (8, 0))), (0, .inr (3, (0, 480)))], []), [], [], [(0, 0), (0, 0), (0, 0), (0, 0), (0, 0), (0, 0), (0, 0), (0, 0), (8, 0), (0, 0), (0, 0)], 3)
noncomputable def rxoMB_3_0 : bx_HO := (([(0, 0), (0, 0), (0, 0), (0, 0), (0, 0), (0, 0), (0, 0), (0, 0), (0, 9), (0, 1023), (0, 9), ((-2147483648), 2147483647), ((-2147483648), 2147483647), (1, 512)], [(2, (11, 0), (12, 0)), (3, (8, 0), (0, (-1)))], [(((0, 0), 1851192626986356797424364830707437625680387377997778265161859072000000), .inr (0, (12, 0))), (((0, 0), 1851192626986356797424370955790042202572729718740712036989665280000000), .inr (0, (11, 0))), (((0, 480), 50), .inr (3, (0, 504)))], 0, 0, 43, [(0, .inr (3, (0, 480))), (1, .inr (0, (8, 0))), (2, .inr (0, (9, 0))), (3, .inr (0, (10, 0)))], [.inr (0, (13, 0)), .inr (0, (9, 0))]), [], [], [(0, 0), (0, 0), (0, 0), (0, 0), (0, 0), (0, 0), (0, 0), (0, 0), (8, 0), (9, 0), (10, 0), (9, 0), (13, 0)], 4)
noncomputable def rxoMB_3_1 : bx_HO := (([(0, 0), (0, 0), (0, 0), (0, 0), (0, 0), (0, 0), (0, 0), (0, 0), (0, 9), (0, 1023), (0, 9), ((-2147483648), 2147483647), ((-2147483648), 2147483647)], [(3, (11, 0), (12, 0)), (3, (8, 0), (0, (-1)))], [(((0, 0), 1851192626986356797424364830707437625680387377997778265161859072000000), .inr (0, (12, 0))), (((0, 0), 1851192626986356797424370955790042202572729718740712036989665280000000), .inr (0, (11, 0))), (((0, 480), 50), .inr (3, (0, 504)))], 0, 0, 43, [(0, .inr (3, (0, 480))), (1, .inr (0, (8, 0))), (2, .inr (0, (9, 0))), (3, .inr (0, (10, 0)))], [.inr (0, (0, 0)), .inr (0, (9, 0))]), [], [], [(0, 0), (0, 0), (0, 0), (0, 0), (0, 0), (0, 0), (0, 0), (0, 0), (8, 0), (9, 0), (10, 0), (9, 0), (0, 0)], 4)
noncomputable def rxeMB_3_0 : rx_End × List (Nat × Int × Int) := (([(0, 0), (0, 0), (0, 0), (0, 0), (0, 0), (0, 0), (0, 0), (0, 0), (0, 9), (0, 1023), (10, 10)], [], [], some (.inr (0, (9, 0)))), [(9, 1, 1023)])
noncomputable def rxoMB_5_0 : bx_HO := (([(0, 0), (0, 0), (0, 0), (0, 0), (0, 0), (0, 0), (0, 0), (0, 0), (0, 9), (0, 1023), (0, 9), (0, 1023), (0, 512), (0, 1023)], [], [], 0, 0, 9, [(3, .inr (0, (10, 1))), (2, .inr (0, (13, 0))), (0, .inr (3, (0, 480))), (1, .inr (0, (8, 0)))], []), [], [], [(0, 0), (0, 0), (0, 0), (0, 0), (0, 0), (0, 0), (0, 0), (0, 0), (8, 0), (13, 0), (10, 1)], 3)
noncomputable def rxYMB : List bx_HE := [(rxzMB_0, [rxoMB_0_0], []), (rxzMB_1, [], []), (rxzMB_2, [rxoMB_2_0], []), (rxzMB_3, [rxoMB_3_0, rxoMB_3_1], [rxeMB_3_0]), (rxzMB_4, [], []), (rxzMB_5, [rxoMB_5_0], [])]
noncomputable def rxUMB (q : bx_HE) : Bool := Nat.beq (rx_zpc q.1) 1 || Nat.beq (rx_zpc q.1) 43
noncomputable def rxYBMB : bx_B := (rxV, rxNP, rxDmf, bx_mdH rxCMB.2.2.1)
set_option maxRecDepth 100000 in
theorem rxYcMB : bx_chkH rxYBMB rxM309 rxCMB rxYMB (rxUMB, fun cut z => rx_ex2 (rxCT rxYBMB rxCnE) cut 30000 rxCMB.2.2.2.1 309 z) = true := by decide +kernel
noncomputable def rxIMB (S0 : Nat → Int → Int) (ws : List Int) (i : Nat) : bx_SP := fun S r => match i with | 0 => rxIMB_0 S0 ws S | 1 => rxIMB_1 S0 ws S | 2 => rxIMB_2 S0 ws S (r 8) | 3 => rxIMB_3 S0 ws S (r 8) (r 9) (r 10) | 4 => rxIMB_4 S0 ws S (r 8) (r 9) (r 10) (r 11) (r 12) | 5 => rxIMB_5 S0 ws S (r 8) (r 9) (r 10) (r 11) (r 12) (r 13) | _ => False
noncomputable def rxmMB (S0 : Nat → Int → Int) (ws : List Int) (i : Nat) (S : Nat → Int → Int) (r : Nat → Int) : Nat := match i with | 0 => rxmMB_0 S0 ws S | 1 => rxmMB_1 S0 ws S | 2 => rxmMB_2 S0 ws S (r 8) | 3 => rxmMB_3 S0 ws S (r 8) (r 9) (r 10) | 4 => rxmMB_4 S0 ws S (r 8) (r 9) (r 10) (r 11) (r 12) | 5 => rxmMB_5 S0 ws S (r 8) (r 9) (r 10) (r 11) (r 12) (r 13) | _ => 0
noncomputable def rxPMB (S0 : Nat → Int → Int) (ws : List Int) : Prop := ∃ j : Int, 0 ≤ j ∧ j < 10 ∧ 0 < S0 504 j
noncomputable def rxPSMB (S0 : Nat → Int → Int) (ws : List Int) (S : Nat → Int → Int) (w : Option Int) : Prop := S = S0
theorem rxkMB_1 {S0 : Nat → Int → Int} {ws : List Int} {S : Nat → Int → Int} (hP : rxPMB S0 ws) (hin : bx_same rxL (bx_mdl rxCMB.2.2.1) S0 S) (I0 : bx_Inv rxL S) (hinv : rxIMB_1 S0 ws S)  : rxPMO S [480] ∧ ∀ (S_p : Nat → Int → Int) (m : Int), 0 ≤ m → m ≤ 9 → rxPSMO S [480] S_p (some m) → bx_Inv rxL S_p → bx_same rxL (bx_mdl rxCMO.2.2.1) S S_p → rxIMB_2 S0 ws S_p m ∧ rxmMB_2 S0 ws S_p m < rxmMB_1 S0 ws S := by
  exact ⟨hinv.2, fun S_p m g0 g1 hq I1 hsm => ⟨Eq.trans (show S_p = S from hq) hinv.1, by unfold rxmMB_1 rxmMB_2; omega⟩⟩
theorem rxsMB_1 {X : (Nat → Int → Int) → Prop} {S0 : Nat → Int → Int} {ws : List Int} (hP : rxPMB S0 ws) : rx_obK X S0 rxCMB.2.2.1 rxCMO.2.2.1 (rxIMB S0 ws) (rxmMB S0 ws) 1 2 rxzMB_1 rxzMB_2 [.inr (3, (0, 480))] (some 8) rxPMO rxPSMO := by
  intro S r hinv hXS I0 hin hs_ hf_
  have b_ := bx_bds_sat hs_
  have f_ := bx_fcl_ok hs_.1 hf_
  have g := rxkMB_1 hP hin I0 hinv 
  have ea : List.map (bx_num r) [.inr (3, (0, 480))] = [480] := by
    simp only [List.map_cons, List.map_nil, bx_xv_ok hs_.1]
    rfl
  rw [ea]
  refine ⟨g.1, fun S_p w r_p hPS hX_p I1 hsm hr hw hs_p => ?_⟩
  have hw := hw _ rfl
  subst hw
  have b_p := hs_p.2.2 8 _ _ rfl
  have g2 := g.2 S_p (r_p 8) b_p.1 b_p.2 hPS I1 hsm
  show rxIMB_2 S0 ws S_p (r_p 8) ∧ rxmMB_2 S0 ws S_p (r_p 8) < _
  exact g2
theorem rxbMB_4 {S0 : Nat → Int → Int} {ws : List Int} {S : Nat → Int → Int} {m its w_ a b : Int} (hP : rxPMB S0 ws) (hin : bx_same rxL (bx_mdl rxCMB.2.2.1) S0 S) (I0 : bx_Inv rxL S) (hinv : rxIMB_4 S0 ws S m its w_ a b) (l8 : 0 ≤ m) (u8 : m ≤ 9) (l9 : 0 ≤ its) (u9 : its ≤ 1023) (l10 : 0 ≤ w_) (u10 : w_ ≤ 9) (l11 : 0 ≤ a) (u11 : a ≤ 1023) (l12 : 0 ≤ b) (u12 : b ≤ 512) : bx_opc 6 a b ∧ ∀ c : Int, c = bx_opv 6 a b → (0 ≤ c ∧ c ≤ 1023) ∧ rxIMB_5 S0 ws S m its w_ a b c ∧ rxmMB_5 S0 ws S m its w_ a b c < rxmMB_4 S0 ws S m its w_ a b := by
  obtain ⟨hs, h1, h2⟩ := hinv
  refine ⟨⟨⟨l11, by omega⟩, by show 0 ≤ b ∧ b ≤ 2147483647; omega⟩, fun c hc => ?_⟩
  have hc : c = ((a.toNat ||| b.toNat : Nat) : Int) := hc
  have g1 := Nat.or_lt_two_pow (x := a.toNat) (y := b.toNat) (n := 10) (by omega) (by omega)
  have g2 := Nat.left_le_or (n := a.toNat) (m := b.toNat)
  have g3 := Nat.right_le_or (n := a.toNat) (m := b.toNat)
  refine ⟨⟨by omega, by omega⟩, ⟨hs, fun q => ?_⟩, by unfold rxmMB_4 rxmMB_5; omega⟩
  rcases (show m < w_ ∨ m = w_ by omega) with h | h
  · have := h1 h
    omega
  · have := h2 h
    omega
theorem rxsMB_4 {X : (Nat → Int → Int) → Prop} {S0 : Nat → Int → Int} {ws : List Int} (hP : rxPMB S0 ws) : rx_obB X S0 rxCMB.2.2.1 (rxIMB S0 ws) (rxmMB S0 ws) 4 5 rxzMB_4 6 (11, 0) (12, 0) 0 1023 := by
  intro S r hinv hXS I0 hin hs_ hf_
  have b_ := bx_bds_sat hs_
  have f_ := bx_fcl_ok hs_.1 hf_
  obtain ⟨⟨l8, u8⟩, ⟨l9, u9⟩, ⟨l10, u10⟩, ⟨l11, u11⟩, ⟨l12, u12⟩, -⟩ := b_
  have g := rxbMB_4 hP hin I0 hinv l8 u8 l9 u9 l10 u10 l11 u11 l12 u12
  rw [bx_x_ok hs_.1, bx_x_ok hs_.1]
  refine ⟨g.1, fun r_p hr h0_ hv => ?_⟩
  have g2 := g.2 (r_p 13) hv
  show _ ∧ rxIMB_5 S0 ws S (r_p 8) (r_p 9) (r_p 10) (r_p 11) (r_p 12) (r_p 13) ∧ rxmMB_5 S0 ws S (r_p 8) (r_p 9) (r_p 10) (r_p 11) (r_p 12) (r_p 13) < _
  rw [hr 8 (by decide), hr 9 (by decide), hr 10 (by decide), hr 11 (by decide), hr 12 (by decide)]
  exact g2
theorem rxcMB_0_0 {S0 : Nat → Int → Int} {ws : List Int} {S : Nat → Int → Int} (hP : rxPMB S0 ws) (hin : bx_same rxL (bx_mdl rxCMB.2.2.1) S0 S) (I0 : bx_Inv rxL S) (hinv : rxIMB_0 S0 ws S)  : (True) ∧ (True) ∧ rxIMB_1 S0 ws S ∧ rxmMB_1 S0 ws S < rxmMB_0 S0 ws S := by
  obtain ⟨rfl, hw⟩ := hinv
  exact ⟨trivial, trivial, ⟨rfl, hP⟩, by unfold rxmMB_0 rxmMB_1; omega⟩
theorem rxgMB_0_0 {X : (Nat → Int → Int) → Prop} {S0 : Nat → Int → Int} {ws : List Int} (hP : rxPMB S0 ws) : bx_obC rxL X S0 rxCMB.2.2.1 (rxIMB S0 ws) (rxmMB S0 ws) 0 rxzMB_0 rxoMB_0_0 := by
  intro S S_p r r_p hinv hX hin hsm_ hseg
  obtain ⟨I0, I1, h0_, hr_, b_, f_, d_⟩ := bx_cl (evs := []) (fvs := []) hseg (by decide +kernel) (by decide +kernel)
  have hinv : rxIMB_0 S0 ws S := hinv
  have w_ := d_
  subst w_
  have g := rxcMB_0_0 hP hin I0 hinv 
  refine ⟨bx_narP_ok (l := []) g.1, bx_nfP_ok h0_ (fvs := []) (by decide +kernel) g.2.1, ?_, ?_⟩
  · show rxIMB_1 S0 ws S_p
    exact g.2.2.1
  · show rxmMB_1 S0 ws S_p < rxmMB_0 S0 ws S_p
    exact g.2.2.2
theorem rxcMB_2_0 {S0 : Nat → Int → Int} {ws : List Int} {S : Nat → Int → Int} {m : Int} (hP : rxPMB S0 ws) (hin : bx_same rxL (bx_mdl rxCMB.2.2.1) S0 S) (I0 : bx_Inv rxL S) (hinv : rxIMB_2 S0 ws S m) (l8 : 0 ≤ m) (u8 : m ≤ 9) : (True) ∧ (True) ∧ rxIMB_3 S0 ws S m 0 0 ∧ rxmMB_3 S0 ws S m 0 0 < rxmMB_2 S0 ws S m := by
  exact ⟨trivial, trivial, ⟨hinv, fun h => by omega⟩, by unfold rxmMB_2 rxmMB_3; omega⟩
theorem rxgMB_2_0 {X : (Nat → Int → Int) → Prop} {S0 : Nat → Int → Int} {ws : List Int} (hP : rxPMB S0 ws) : bx_obC rxL X S0 rxCMB.2.2.1 (rxIMB S0 ws) (rxmMB S0 ws) 2 rxzMB_2 rxoMB_2_0 := by
  intro S S_p r r_p hinv hX hin hsm_ hseg
  obtain ⟨I0, I1, h0_, hr_, b_, f_, d_⟩ := bx_cl (evs := []) (fvs := []) hseg (by decide +kernel) (by decide +kernel)
  have hinv : rxIMB_2 S0 ws S (r 8) := hinv
  rw [← hr_ 8 (by decide)] at hinv
  obtain ⟨⟨l8, u8⟩, -⟩ := b_
  have w_ := d_
  subst w_
  have g := rxcMB_2_0 hP hin I0 hinv l8 u8
  refine ⟨bx_narP_ok (l := []) g.1, bx_nfP_ok h0_ (fvs := []) (by decide +kernel) g.2.1, ?_, ?_⟩
  · show rxIMB_3 S0 ws S_p (bx_val [(0, 0), (0, 0), (0, 0), (0, 0), (0, 0), (0, 0), (0, 0), (0, 0), (8, 0), (0, 0), (0, 0)] r_p 8) (bx_val [(0, 0), (0, 0), (0, 0), (0, 0), (0, 0), (0, 0), (0, 0), (0, 0), (8, 0), (0, 0), (0, 0)] r_p 9) (bx_val [(0, 0), (0, 0), (0, 0), (0, 0), (0, 0), (0, 0), (0, 0), (0, 0), (8, 0), (0, 0), (0, 0)] r_p 10)
    rw [bx_val_x (n := 8) (e := (8, 0)) h0_ rfl, bx_val_x (n := 9) (e := (0, 0)) h0_ rfl, bx_val_x (n := 10) (e := (0, 0)) h0_ rfl]
    exact g.2.2.1
  · show rxmMB_3 S0 ws S_p (bx_val [(0, 0), (0, 0), (0, 0), (0, 0), (0, 0), (0, 0), (0, 0), (0, 0), (8, 0), (0, 0), (0, 0)] r_p 8) (bx_val [(0, 0), (0, 0), (0, 0), (0, 0), (0, 0), (0, 0), (0, 0), (0, 0), (8, 0), (0, 0), (0, 0)] r_p 9) (bx_val [(0, 0), (0, 0), (0, 0), (0, 0), (0, 0), (0, 0), (0, 0), (0, 0), (8, 0), (0, 0), (0, 0)] r_p 10) < rxmMB_2 S0 ws S_p (r 8)
    rw [bx_val_x (n := 8) (e := (8, 0)) h0_ rfl, bx_val_x (n := 9) (e := (0, 0)) h0_ rfl, bx_val_x (n := 10) (e := (0, 0)) h0_ rfl, ← hr_ 8 (by decide)]
    exact g.2.2.2
theorem rxcMB_3_0 {S0 : Nat → Int → Int} {ws : List Int} {S : Nat → Int → Int} {m its w_ x11 x12 x13 : Int} (hP : rxPMB S0 ws) (hin : bx_same rxL (bx_mdl rxCMB.2.2.1) S0 S) (I0 : bx_Inv rxL S) (hinv : rxIMB_3 S0 ws S m its w_) (l8 : 0 ≤ m) (u8 : m ≤ 9) (l9 : 0 ≤ its) (u9 : its ≤ 1023) (l10 : 0 ≤ w_) (u10 : w_ ≤ 9) (l11 : (-2147483648) ≤ x11) (u11 : x11 ≤ 2147483647) (l12 : (-2147483648) ≤ x12) (u12 : x12 ≤ 2147483647) (l13 : 1 ≤ x13) (u13 : x13 ≤ 512) (f0 : x11 = x12) (f1 : m ≠ (-1)) (e1 : S 504 w_ = x11) (e0 : S 504 m = x12) : (True) ∧ (True) ∧ rxIMB_4 S0 ws S m its w_ its x13 ∧ rxmMB_4 S0 ws S m its w_ its x13 < rxmMB_3 S0 ws S m its w_ := by
  obtain ⟨hs, h⟩ := hinv
  exact ⟨trivial, trivial, ⟨hs, h, fun q => by omega⟩, by unfold rxmMB_3 rxmMB_4; omega⟩
theorem rxgMB_3_0 {X : (Nat → Int → Int) → Prop} {S0 : Nat → Int → Int} {ws : List Int} (hP : rxPMB S0 ws) : bx_obC rxL X S0 rxCMB.2.2.1 (rxIMB S0 ws) (rxmMB S0 ws) 3 rxzMB_3 rxoMB_3_0 := by
  intro S S_p r r_p hinv hX hin hsm_ hseg
  obtain ⟨I0, I1, h0_, hr_, b_, f_, d_⟩ := bx_cl (evs := [(0, (0, 504), (8, 0), .inr (0, (12, 0))), (0, (0, 504), (10, 0), .inr (0, (11, 0)))]) (fvs := [(2, (11, 0), (12, 0), (0, 0)), (3, (8, 0), (0, (-1)), (0, 0))]) hseg (by decide +kernel) (by decide +kernel)
  have hinv : rxIMB_3 S0 ws S (r 8) (r 9) (r 10) := hinv
  rw [← hr_ 8 (by decide), ← hr_ 9 (by decide), ← hr_ 10 (by decide)] at hinv
  obtain ⟨⟨l8, u8⟩, ⟨l9, u9⟩, ⟨l10, u10⟩, ⟨l11, u11⟩, ⟨l12, u12⟩, ⟨l13, u13⟩, -⟩ := b_
  obtain ⟨f0, f1, -⟩ := f_
  obtain ⟨e0, ⟨e1, w_⟩⟩ := d_
  subst w_
  have g := rxcMB_3_0 hP hin I0 hinv l8 u8 l9 u9 l10 u10 l11 u11 l12 u12 l13 u13 f0 f1 e1 e0
  refine ⟨bx_narP_ok (l := []) g.1, bx_nfP_ok h0_ (fvs := []) (by decide +kernel) g.2.1, ?_, ?_⟩
  · show rxIMB_4 S0 ws S_p (bx_val [(0, 0), (0, 0), (0, 0), (0, 0), (0, 0), (0, 0), (0, 0), (0, 0), (8, 0), (9, 0), (10, 0), (9, 0), (13, 0)] r_p 8) (bx_val [(0, 0), (0, 0), (0, 0), (0, 0), (0, 0), (0, 0), (0, 0), (0, 0), (8, 0), (9, 0), (10, 0), (9, 0), (13, 0)] r_p 9) (bx_val [(0, 0), (0, 0), (0, 0), (0, 0), (0, 0), (0, 0), (0, 0), (0, 0), (8, 0), (9, 0), (10, 0), (9, 0), (13, 0)] r_p 10) (bx_val [(0, 0), (0, 0), (0, 0), (0, 0), (0, 0), (0, 0), (0, 0), (0, 0), (8, 0), (9, 0), (10, 0), (9, 0), (13, 0)] r_p 11) (bx_val [(0, 0), (0, 0), (0, 0), (0, 0), (0, 0), (0, 0), (0, 0), (0, 0), (8, 0), (9, 0), (10, 0), (9, 0), (13, 0)] r_p 12)
    rw [bx_val_x (n := 8) (e := (8, 0)) h0_ rfl, bx_val_x (n := 9) (e := (9, 0)) h0_ rfl, bx_val_x (n := 10) (e := (10, 0)) h0_ rfl, bx_val_x (n := 11) (e := (9, 0)) h0_ rfl, bx_val_x (n := 12) (e := (13, 0)) h0_ rfl]
    exact g.2.2.1
  · show rxmMB_4 S0 ws S_p (bx_val [(0, 0), (0, 0), (0, 0), (0, 0), (0, 0), (0, 0), (0, 0), (0, 0), (8, 0), (9, 0), (10, 0), (9, 0), (13, 0)] r_p 8) (bx_val [(0, 0), (0, 0), (0, 0), (0, 0), (0, 0), (0, 0), (0, 0), (0, 0), (8, 0), (9, 0), (10, 0), (9, 0), (13, 0)] r_p 9) (bx_val [(0, 0), (0, 0), (0, 0), (0, 0), (0, 0), (0, 0), (0, 0), (0, 0), (8, 0), (9, 0), (10, 0), (9, 0), (13, 0)] r_p 10) (bx_val [(0, 0), (0, 0), (0, 0), (0, 0), (0, 0), (0, 0), (0, 0), (0, 0), (8, 0), (9, 0), (10, 0), (9, 0), (13, 0)] r_p 11) (bx_val [(0, 0), (0, 0), (0, 0), (0, 0), (0, 0), (0, 0), (0, 0), (0, 0), (8, 0), (9, 0), (10, 0), (9, 0), (13, 0)] r_p 12) < rxmMB_3 S0 ws S_p (r 8) (r 9) (r 10)
    rw [bx_val_x (n := 8) (e := (8, 0)) h0_ rfl, bx_val_x (n := 9) (e := (9, 0)) h0_ rfl, bx_val_x (n := 10) (e := (10, 0)) h0_ rfl, bx_val_x (n := 11) (e := (9, 0)) h0_ rfl, bx_val_x (n := 12) (e := (13, 0)) h0_ rfl, ← hr_ 8 (by decide), ← hr_ 9 (by decide), ← hr_ 10 (by decide)]
    exact g.2.2.2
theorem rxcMB_3_1 {S0 : Nat → Int → Int} {ws : List Int} {S : Nat → Int → Int} {m its w_ x11 x12 : Int} (hP : rxPMB S0 ws) (hin : bx_same rxL (bx_mdl rxCMB.2.2.1) S0 S) (I0 : bx_Inv rxL S) (hinv : rxIMB_3 S0 ws S m its w_) (l8 : 0 ≤ m) (u8 : m ≤ 9) (l9 : 0 ≤ its) (u9 : its ≤ 1023) (l10 : 0 ≤ w_) (u10 : w_ ≤ 9) (l11 : (-2147483648) ≤ x11) (u11 : x11 ≤ 2147483647) (l12 : (-2147483648) ≤ x12) (u12 : x12 ≤ 2147483647) (f0 : x11 ≠ x12) (f1 : m ≠ (-1)) (e1 : S 504 w_ = x11) (e0 : S 504 m = x12) : (True) ∧ (True) ∧ rxIMB_4 S0 ws S m its w_ its 0 ∧ rxmMB_4 S0 ws S m its w_ its 0 < rxmMB_3 S0 ws S m its w_ := by
  obtain ⟨hs, h⟩ := hinv
  refine ⟨trivial, trivial, ⟨hs, h, fun q => ?_⟩, by unfold rxmMB_3 rxmMB_4; omega⟩
  subst q
  have a := e1.symm.trans e0
  omega
theorem rxgMB_3_1 {X : (Nat → Int → Int) → Prop} {S0 : Nat → Int → Int} {ws : List Int} (hP : rxPMB S0 ws) : bx_obC rxL X S0 rxCMB.2.2.1 (rxIMB S0 ws) (rxmMB S0 ws) 3 rxzMB_3 rxoMB_3_1 := by
  intro S S_p r r_p hinv hX hin hsm_ hseg
  obtain ⟨I0, I1, h0_, hr_, b_, f_, d_⟩ := bx_cl (evs := [(0, (0, 504), (8, 0), .inr (0, (12, 0))), (0, (0, 504), (10, 0), .inr (0, (11, 0)))]) (fvs := [(3, (11, 0), (12, 0), (0, 0)), (3, (8, 0), (0, (-1)), (0, 0))]) hseg (by decide +kernel) (by decide +kernel)
  have hinv : rxIMB_3 S0 ws S (r 8) (r 9) (r 10) := hinv
  rw [← hr_ 8 (by decide), ← hr_ 9 (by decide), ← hr_ 10 (by decide)] at hinv
  obtain ⟨⟨l8, u8⟩, ⟨l9, u9⟩, ⟨l10, u10⟩, ⟨l11, u11⟩, ⟨l12, u12⟩, -⟩ := b_
  obtain ⟨f0, f1, -⟩ := f_
  obtain ⟨e0, ⟨e1, w_⟩⟩ := d_
  subst w_
  have g := rxcMB_3_1 hP hin I0 hinv l8 u8 l9 u9 l10 u10 l11 u11 l12 u12 f0 f1 e1 e0
  refine ⟨bx_narP_ok (l := []) g.1, bx_nfP_ok h0_ (fvs := []) (by decide +kernel) g.2.1, ?_, ?_⟩
  · show rxIMB_4 S0 ws S_p (bx_val [(0, 0), (0, 0), (0, 0), (0, 0), (0, 0), (0, 0), (0, 0), (0, 0), (8, 0), (9, 0), (10, 0), (9, 0), (0, 0)] r_p 8) (bx_val [(0, 0), (0, 0), (0, 0), (0, 0), (0, 0), (0, 0), (0, 0), (0, 0), (8, 0), (9, 0), (10, 0), (9, 0), (0, 0)] r_p 9) (bx_val [(0, 0), (0, 0), (0, 0), (0, 0), (0, 0), (0, 0), (0, 0), (0, 0), (8, 0), (9, 0), (10, 0), (9, 0), (0, 0)] r_p 10) (bx_val [(0, 0), (0, 0), (0, 0), (0, 0), (0, 0), (0, 0), (0, 0), (0, 0), (8, 0), (9, 0), (10, 0), (9, 0), (0, 0)] r_p 11) (bx_val [(0, 0), (0, 0), (0, 0), (0, 0), (0, 0), (0, 0), (0, 0), (0, 0), (8, 0), (9, 0), (10, 0), (9, 0), (0, 0)] r_p 12)
    rw [bx_val_x (n := 8) (e := (8, 0)) h0_ rfl, bx_val_x (n := 9) (e := (9, 0)) h0_ rfl, bx_val_x (n := 10) (e := (10, 0)) h0_ rfl, bx_val_x (n := 11) (e := (9, 0)) h0_ rfl, bx_val_x (n := 12) (e := (0, 0)) h0_ rfl]
    exact g.2.2.1
  · show rxmMB_4 S0 ws S_p (bx_val [(0, 0), (0, 0), (0, 0), (0, 0), (0, 0), (0, 0), (0, 0), (0, 0), (8, 0), (9, 0), (10, 0), (9, 0), (0, 0)] r_p 8) (bx_val [(0, 0), (0, 0), (0, 0), (0, 0), (0, 0), (0, 0), (0, 0), (0, 0), (8, 0), (9, 0), (10, 0), (9, 0), (0, 0)] r_p 9) (bx_val [(0, 0), (0, 0), (0, 0), (0, 0), (0, 0), (0, 0), (0, 0), (0, 0), (8, 0), (9, 0), (10, 0), (9, 0), (0, 0)] r_p 10) (bx_val [(0, 0), (0, 0), (0, 0), (0, 0), (0, 0), (0, 0), (0, 0), (0, 0), (8, 0), (9, 0), (10, 0), (9, 0), (0, 0)] r_p 11) (bx_val [(0, 0), (0, 0), (0, 0), (0, 0), (0, 0), (0, 0), (0, 0), (0, 0), (8, 0), (9, 0), (10, 0), (9, 0), (0, 0)] r_p 12) < rxmMB_3 S0 ws S_p (r 8) (r 9) (r 10)
    rw [bx_val_x (n := 8) (e := (8, 0)) h0_ rfl, bx_val_x (n := 9) (e := (9, 0)) h0_ rfl, bx_val_x (n := 10) (e := (10, 0)) h0_ rfl, bx_val_x (n := 11) (e := (9, 0)) h0_ rfl, bx_val_x (n := 12) (e := (0, 0)) h0_ rfl, ← hr_ 8 (by decide), ← hr_ 9 (by decide), ← hr_ 10 (by decide)]
    exact g.2.2.2
theorem rxdMB_3_0 {S0 : Nat → Int → Int} {ws : List Int} {S : Nat → Int → Int} {m its w_ : Int} (hP : rxPMB S0 ws) (hin : bx_same rxL (bx_mdl rxCMB.2.2.1) S0 S) (hin2 : bx_same rxL (bx_mdl rxCMB.2.2.1) S S) (I0 : bx_Inv rxL S) (I1 : bx_Inv rxL S) (hinv : rxIMB_3 S0 ws S m its w_) (l8 : 0 ≤ m) (u8 : m ≤ 9) (l9 : 0 ≤ its) (u9 : its ≤ 1023) (l10 : 10 ≤ w_) (u10 : w_ ≤ 10) : ((1 ≤ its ∧ its ≤ 1023) ∧ True) ∧ rxPSMB S0 ws S (some its) := by
  obtain ⟨hs, h⟩ := hinv
  have := h (by omega)
  exact ⟨⟨by omega, trivial⟩, hs⟩
theorem rxfMB_3_0 {X : (Nat → Int → Int) → Prop} {S0 : Nat → Int → Int} {ws : List Int} (hP : rxPMB S0 ws) : bx_obE rxL X S0 rxCMB.2.2.1 (rxIMB S0 ws) (rxPSMB S0 ws) 3 rxzMB_3 rxeMB_3_0 := by
  intro S S_p r r_p hinv hX hin hsm_ hseg
  obtain ⟨I0, I1, h0_, hr_, b_, f_, d_⟩ := bx_cl (evs := []) (fvs := []) hseg (by decide +kernel) (by decide +kernel)
  have hinv : rxIMB_3 S0 ws S (r 8) (r 9) (r 10) := hinv
  rw [← hr_ 8 (by decide), ← hr_ 9 (by decide), ← hr_ 10 (by decide)] at hinv
  obtain ⟨⟨l8, u8⟩, ⟨l9, u9⟩, ⟨l10, u10⟩, -⟩ := b_
  have w_ := d_
  subst w_
  have g := rxdMB_3_0 hP hin hsm_ I0 I1 hinv l8 u8 l9 u9 l10 u10
  refine ⟨bx_narP_ok (l := [(9, 1, 1023)]) g.1, ?_⟩
  show rxPSMB S0 ws S_p (some (bx_num r_p (.inr (0, (9, 0)))))
  rw [bx_xv_ok h0_]
  exact g.2
theorem rxcMB_5_0 {S0 : Nat → Int → Int} {ws : List Int} {S : Nat → Int → Int} {m its w_ a b c : Int} (hP : rxPMB S0 ws) (hin : bx_same rxL (bx_mdl rxCMB.2.2.1) S0 S) (I0 : bx_Inv rxL S) (hinv : rxIMB_5 S0 ws S m its w_ a b c) (l8 : 0 ≤ m) (u8 : m ≤ 9) (l9 : 0 ≤ its) (u9 : its ≤ 1023) (l10 : 0 ≤ w_) (u10 : w_ ≤ 9) (l11 : 0 ≤ a) (u11 : a ≤ 1023) (l12 : 0 ≤ b) (u12 : b ≤ 512) (l13 : 0 ≤ c) (u13 : c ≤ 1023) : (True) ∧ (True) ∧ rxIMB_3 S0 ws S m c (w_ + 1) ∧ rxmMB_3 S0 ws S m c (w_ + 1) < rxmMB_5 S0 ws S m its w_ a b c := by
  exact ⟨trivial, trivial, hinv, by unfold rxmMB_5 rxmMB_3; omega⟩
theorem rxgMB_5_0 {X : (Nat → Int → Int) → Prop} {S0 : Nat → Int → Int} {ws : List Int} (hP : rxPMB S0 ws) : bx_obC rxL X S0 rxCMB.2.2.1 (rxIMB S0 ws) (rxmMB S0 ws) 5 rxzMB_5 rxoMB_5_0 := by
  intro S S_p r r_p hinv hX hin hsm_ hseg
  obtain ⟨I0, I1, h0_, hr_, b_, f_, d_⟩ := bx_cl (evs := []) (fvs := []) hseg (by decide +kernel) (by decide +kernel)
  have hinv : rxIMB_5 S0 ws S (r 8) (r 9) (r 10) (r 11) (r 12) (r 13) := hinv
  rw [← hr_ 8 (by decide), ← hr_ 9 (by decide), ← hr_ 10 (by decide), ← hr_ 11 (by decide), ← hr_ 12 (by decide), ← hr_ 13 (by decide)] at hinv
  obtain ⟨⟨l8, u8⟩, ⟨l9, u9⟩, ⟨l10, u10⟩, ⟨l11, u11⟩, ⟨l12, u12⟩, ⟨l13, u13⟩, -⟩ := b_
  have w_ := d_
  subst w_
  have g := rxcMB_5_0 hP hin I0 hinv l8 u8 l9 u9 l10 u10 l11 u11 l12 u12 l13 u13
  refine ⟨bx_narP_ok (l := []) g.1, bx_nfP_ok h0_ (fvs := []) (by decide +kernel) g.2.1, ?_, ?_⟩
  · show rxIMB_3 S0 ws S_p (bx_val [(0, 0), (0, 0), (0, 0), (0, 0), (0, 0), (0, 0), (0, 0), (0, 0), (8, 0), (13, 0), (10, 1)] r_p 8) (bx_val [(0, 0), (0, 0), (0, 0), (0, 0), (0, 0), (0, 0), (0, 0), (0, 0), (8, 0), (13, 0), (10, 1)] r_p 9) (bx_val [(0, 0), (0, 0), (0, 0), (0, 0), (0, 0), (0, 0), (0, 0), (0, 0), (8, 0), (13, 0), (10, 1)] r_p 10)
    rw [bx_val_x (n := 8) (e := (8, 0)) h0_ rfl, bx_val_x (n := 9) (e := (13, 0)) h0_ rfl, bx_val_x (n := 10) (e := (10, 1)) h0_ rfl]
    exact g.2.2.1
  · show rxmMB_3 S0 ws S_p (bx_val [(0, 0), (0, 0), (0, 0), (0, 0), (0, 0), (0, 0), (0, 0), (0, 0), (8, 0), (13, 0), (10, 1)] r_p 8) (bx_val [(0, 0), (0, 0), (0, 0), (0, 0), (0, 0), (0, 0), (0, 0), (0, 0), (8, 0), (13, 0), (10, 1)] r_p 9) (bx_val [(0, 0), (0, 0), (0, 0), (0, 0), (0, 0), (0, 0), (0, 0), (0, 0), (8, 0), (13, 0), (10, 1)] r_p 10) < rxmMB_5 S0 ws S_p (r 8) (r 9) (r 10) (r 11) (r 12) (r 13)
    rw [bx_val_x (n := 8) (e := (8, 0)) h0_ rfl, bx_val_x (n := 9) (e := (13, 0)) h0_ rfl, bx_val_x (n := 10) (e := (10, 1)) h0_ rfl, ← hr_ 8 (by decide), ← hr_ 9 (by decide), ← hr_ 10 (by decide), ← hr_ 11 (by decide), ← hr_ 12 (by decide), ← hr_ 13 (by decide)]
    exact g.2.2.2
theorem rxgCMB {X : (Nat → Int → Int) → Prop} {S0 : Nat → Int → Int} {ws : List Int} (hP : rxPMB S0 ws) : bx_allI (fun i q => rxUMB q = true ∨ bx_allP (fun o => bx_obC rxL X S0 rxCMB.2.2.1 (rxIMB S0 ws) (rxmMB S0 ws) i q.1 o) q.2.1) 0 rxYMB := ⟨Or.inr ⟨rxgMB_0_0 hP, trivial⟩, Or.inl rfl, Or.inr ⟨rxgMB_2_0 hP, trivial⟩, Or.inr ⟨rxgMB_3_0 hP, rxgMB_3_1 hP, trivial⟩, Or.inl rfl, Or.inr ⟨rxgMB_5_0 hP, trivial⟩, trivial⟩
theorem rxgEMB {X : (Nat → Int → Int) → Prop} {S0 : Nat → Int → Int} {ws : List Int} (hP : rxPMB S0 ws) : bx_allI (fun i q => rxUMB q = true ∨ bx_allP (fun E => bx_obE rxL X S0 rxCMB.2.2.1 (rxIMB S0 ws) (rxPSMB S0 ws) i q.1 E) q.2.2) 0 rxYMB := ⟨Or.inr trivial, Or.inl rfl, Or.inr trivial, Or.inr ⟨rxfMB_3_0 hP, trivial⟩, Or.inl rfl, Or.inr trivial, trivial⟩
theorem rxuMB {PX : State → Prop} {Dg : va_G} {A : Nat → Prop} {ad xa : Nat → Nat} {l : Launch} {X : (Nat → Int → Int) → Prop} (hPX : rx_PXOK rxNW A PX) (hX : ∀ S S1 : Nat → Int → Int, X S → bx_same rxL (bx_mdl rxCMB.2.2.1) S S1 → X S1) (hQMO : bx_ConP rxG rxNW rxAO PX Dg rxL X vwCl A ad l rxM307 rxCMO rxPMO rxPSMO) {S0 : Nat → Int → Int} {ws : List Int} (hP : rxPMB S0 ws) : ∀ (i : Nat) (q : bx_HE), rxYMB[i]? = some q → rxUMB q = true → ∀ {p : Program} {e : Env} {R : Room} {s : State} {m : MethodId} {args : Array Value} {below : List Frame} {meth : Method} {c : Code} {Q : State → Prop} {H0 : Heap}, rx_Fr rxG rxNW rxAO PX p s m args meth c rxM309 → (∀ q, H0.size ≤ q → A q) → H0 = s.heap → rxM309.2.2.2.2.2.2.1 ≤ R.cells → rxM309.2.2.2.2.2.2.2 ≤ R.slots → rxCMB.2.2.2.1 ≤ R.frames → rxCMB.2.2.2.1 * 40 ≤ R.locals → bx_Step p l e R s m args below meth c Q Dg rxL X vwCl A xa H0 ad rxM309 rxYMB (rxIMB S0 ws) (rxmMB S0 ws) S0 rxCMB.2.2.1 i q := by
  intro i q hq hus p e R s m args below meth c Q H0 hF hA hH0 hmc hms hd hdl
  match i, hq with
  | 0, hq =>
    cases hq
    exact absurd (show false = true from hus) Bool.false_ne_true
  | 1, hq =>
    cases hq
    exact rx_stepC (ins := .invokevirtual 527) (len := 3) (i_p := 2) (M_p := rxM307) (d := rxCMB.2.2.2.1) (as := [.inr (3, (0, 480))]) (t := []) (ct := rxCMO) hPX hF rfl hA hH0 hmc hms hd hdl (by decide +kernel) rfl rfl (by decide +kernel) (by decide +kernel) hQMO (by decide +kernel) rfl (Or.inr ⟨_, _, _, 1, rfl, rfl, by omega, rfl, rfl, rfl⟩) (rxsMB_1 hP)
  | 2, hq =>
    cases hq
    exact absurd (show false = true from hus) Bool.false_ne_true
  | 3, hq =>
    cases hq
    exact absurd (show false = true from hus) Bool.false_ne_true
  | 4, hq =>
    cases hq
    exact rx_stepB (i_p := 5) (o := 6) (a := (11, 0)) (b := (12, 0)) (lo := 0) (hi := 1023) (t := []) hF (Or.inr (Or.inr (Or.inr ⟨rfl, rfl⟩))) (by decide +kernel) rfl rfl rfl rfl (rxsMB_4 hP)
  | 5, hq =>
    cases hq
    exact absurd (show false = true from hus) Bool.false_ne_true
  | n + 6, hq => cases hq
theorem rxQMB {PX : State → Prop} {Dg : va_G} {A : Nat → Prop} {ad xa : Nat → Nat} {l : Launch} {X : (Nat → Int → Int) → Prop} (hPX : rx_PXOK rxNW A PX) (hsl : ∀ s : State, PX s → ∀ o idx n : Nat, rxSl o idx = some n → ∃ tx : String, vk_R (rxNm o) idx tx (ad n) s)
    (hX : ∀ S S_p : Nat → Int → Int, X S → bx_same rxL (bx_mdl rxCMB.2.2.1) S S_p → X S_p)
    (ih : ∀ (j2 : Nat) (ct2 : bx_Ct) (M2 : rx_Mt), ct2 ∈ rxCnE j2 → ct2.2.2.2.1 + 1 ≤ rxCMB.2.2.2.1 → rxT.2.2.2.2.2 j2 = some M2 → bx_Con rxG rxNW rxAO PX Dg rxL X vwCl A ad l M2 ct2) (hQMO : bx_ConP rxG rxNW rxAO PX Dg rxL X vwCl A ad l rxM307 rxCMO rxPMO rxPSMO) : bx_ConP rxG rxNW rxAO PX Dg rxL X vwCl A ad l rxM309 rxCMB rxPMB rxPSMB :=
  rxQof (xa := xa) (Cn := rxCnE) (f := 30000) (j := 309) (tab := rxYMB) (us := rxUMB) hPX hsl hX ih rfl rxYcMB rxIMB rxmMB
    (fun S0 ws r I0 I ht0 ht as he he1 hX0 hI0 hP hs ha => by
      have e := he.symm.trans (show bx_ent0 rxNP rxCMB.1 bx_I0 [] = some ([(0, 0), (0, 0), (0, 0), (0, 0), (0, 0), (0, 0), (0, 0), (0, 0)], [], [.inr (3, (0, 480))]) from rfl)
      cases e
      subst ha
      have h0 : r 0 = 0 := hs.1
      show rxIMB_0 S0 _ S0
      refine ⟨rfl, ?_⟩
      simp only [List.map_cons, List.map_nil, bx_xv_ok h0]
      rfl)
    (fun S0 ws hP => rxuMB (xa := xa) hPX hX hQMO hP) (fun S0 ws hP => rxgCMB hP) (fun S0 ws hP => rxgEMB hP)
end
section
noncomputable def rxCFO : bx_Ct := ([(3, (1, 480, 0)), (0, (0, 0, 5)), (0, (0, 0, 35))], some (0, (0, 0, 12)), [(1085, 0)], 1, [])
noncomputable def rxIFO_0 (S0 : Nat → Int → Int) (ws : List Int) (S : Nat → Int → Int) (part at_ : Int) : Prop := S = S0 ∧ ws = [480, part, at_]
noncomputable def rxmFO_0 (S0 : Nat → Int → Int) (ws : List Int) (S : Nat → Int → Int) (part at_ : Int) : Nat := 10000
noncomputable def rxzFO_0 : rx_Z := ([(0, 0), (0, 0), (0, 0), (0, 0), (0, 0), (0, 0), (0, 0), (0, 0), (0, 5), (0, 35)], [], [], 0, 0, 0, [(0, .inr (3, (0, 480))), (1, .inr (0, (8, 0))), (2, .inr (0, (9, 0)))], [])
noncomputable def rxIFO_1 (S0 : Nat → Int → Int) (ws : List Int) (S : Nat → Int → Int) (part at_ n k : Int) : Prop := ∀ j : Int, 0 ≤ j → j < k → S 504 j = 0
noncomputable def rxmFO_1 (S0 : Nat → Int → Int) (ws : List Int) (S : Nat → Int → Int) (part at_ n k : Int) : Nat := 1000 + (20 - k).toNat
noncomputable def rxzFO_1 : rx_Z := ([(0, 0), (0, 0), (0, 0), (0, 0), (0, 0), (0, 0), (0, 0), (0, 0), (0, 5), (0, 35), (0, 0), (0, 10)], [], [], 0, 0, 5, [(0, .inr (3, (0, 480))), (1, .inr (0, (8, 0))), (2, .inr (0, (9, 0))), (3, .inr (0, (10, 0))), (4, .inr (0, (11, 0)))], [])
noncomputable def rxIFO_2 (S0 : Nat → Int → Int) (ws : List Int) (S : Nat → Int → Int) (part at_ n v : Int) : Prop := n ≤ v ∧ (0 < n → (∃ j : Int, 0 ≤ j ∧ j < 10 ∧ 0 < S 504 j)) ∧ (∀ j : Int, 0 ≤ j → j < 10 → 0 ≤ S 504 j ∧ S 504 j ≤ v)
noncomputable def rxmFO_2 (S0 : Nat → Int → Int) (ws : List Int) (S : Nat → Int → Int) (part at_ n v : Int) : Nat := 10 * (20 - v).toNat + 9
noncomputable def rxzFO_2 : rx_Z := ([(0, 0), (0, 0), (0, 0), (0, 0), (0, 0), (0, 0), (0, 0), (0, 0), (0, 5), (0, 35), (0, 12), (0, 12)], [], [], 0, 0, 29, [(0, .inr (3, (0, 480))), (1, .inr (0, (8, 0))), (2, .inr (0, (9, 0))), (3, .inr (0, (10, 0))), (4, .inr (0, (11, 0)))], [])
noncomputable def rxIFO_3 (S0 : Nat → Int → Int) (ws : List Int) (S : Nat → Int → Int) (part at_ n v u q : Int) : Prop := n ≤ v ∧ q = S 504 u ∧ (∀ j : Int, 0 ≤ j → j < 10 → 0 ≤ S 504 j ∧ S 504 j ≤ v)
noncomputable def rxmFO_3 (S0 : Nat → Int → Int) (ws : List Int) (S : Nat → Int → Int) (part at_ n v u q : Int) : Nat := 10 * (20 - v).toNat + 8
noncomputable def rxzFO_3 : rx_Z := ([(0, 0), (0, 0), (0, 0), (0, 0), (0, 0), (0, 0), (0, 0), (0, 0), (0, 5), (0, 35), (0, 11), (0, 11), (0, 9), (0, 11)], [], [], 0, 0, 83, [(0, .inr (3, (0, 480))), (1, .inr (0, (8, 0))), (2, .inr (0, (9, 0))), (3, .inr (0, (10, 0))), (4, .inr (0, (11, 0)))], [.inr (0, (13, 0)), .inr (0, (12, 0)), .inr (3, (0, 504))])
noncomputable def rxoFO_0_0 : bx_HO := (([(0, 0), (0, 0), (0, 0), (0, 0), (0, 0), (0, 0), (0, 0), (0, 0), (0, 5), (0, 35)], [], [], 0, 0, 5, [(4, .inr (0, (0, 0))), (3, .inr (0, (0, 0))), (0, .inr (3, (0, 480))), (1, .inr (0, (8, 0))), (2, .inr (0, (9, 0)))], []), [], [], [(0, 0), (0, 0), (0, 0), (0, 0), (0, 0), (0, 0), (0, 0), (0, 0), (8, 0), (9, 0), (0, 0), (0, 0)], 1)
noncomputable def rxoFO_1_0 : bx_HO := (([(0, 0), (0, 0), (0, 0), (0, 0), (0, 0), (0, 0), (0, 0), (0, 0), (0, 5), (0, 35), (0, 0), (0, 9)], [], [(((0, 0), 1851192626986356797424374018331344491018900889112178922903568387000000), .inr (0, (0, 0))), (((0, 480), 50), .inr (3, (0, 504)))], 0, 0, 5, [(4, .inr (0, (11, 1))), (0, .inr (3, (0, 480))), (1, .inr (0, (8, 0))), (2, .inr (0, (9, 0))), (3, .inr (0, (10, 0)))], []), [], [], [(0, 0), (0, 0), (0, 0), (0, 0), (0, 0), (0, 0), (0, 0), (0, 0), (8, 0), (9, 0), (10, 0), (11, 1)], 1)
noncomputable def rxoFO_1_1 : bx_HO := (([(0, 0), (0, 0), (0, 0), (0, 0), (0, 0), (0, 0), (0, 0), (0, 0), (0, 5), (0, 35), (0, 0), (10, 10)], [], [], 0, 0, 29, [(4, .inr (0, (0, 0))), (0, .inr (3, (0, 480))), (1, .inr (0, (8, 0))), (2, .inr (0, (9, 0))), (3, .inr (0, (10, 0)))], []), [], [], [(0, 0), (0, 0), (0, 0), (0, 0), (0, 0), (0, 0), (0, 0), (0, 0), (8, 0), (9, 0), (10, 0), (0, 0)], 2)
noncomputable def rxoFO_2_0 : bx_HO := (([(0, 0), (0, 0), (0, 0), (0, 0), (0, 0), (0, 0), (0, 0), (0, 0), (0, 5), (0, 35), (0, 12), (0, 11), (1, 12), (0, 396), (298, 729), (0, 59), (0, 9), (0, 33), (0, 5), ((-2147483648), 2147483647)], [(3, (16, 0), (0, (-1))), (2, (18, 0), (8, 0)), (7, (17, 0), (11, 0)), (3, (15, 0), (0, (-1))), (604462909807314587353097000000, (14, 0), (13, 298)), (40, (13, 0), (11, 0)), (0, (11, 0), (12, 0))], [(((0, 0), 1851192626986356797424389331037855933249756740969513352473083904000000), .inr (0, (19, 0))), (((0, 480), 50), .inr (3, (0, 504))), (((0, 0), 1851192626986356850009549571714367589437151598245816669475831808000000), .inr (0, (18, 0))), (((0, 0), 1851192626986356797424383205955251356357414400226579580632301568000000), .inr (0, (15, 0))), (((0, 0), 1851192626986356797825753743950570534658660943933713684945305600000000), .inr (0, (12, 0))), (((0, 482), 2), .inr (0, (12, 0))), (((0, 480), 3), .inr (3, (0, 482)))], 0, 0, 83, [(5, .inr (0, (16, 0))), (0, .inr (3, (0, 480))), (1, .inr (0, (8, 0))), (2, .inr (0, (9, 0))), (3, .inr (0, (10, 0))), (4, .inr (0, (11, 0)))], [.inr (0, (19, 0)), .inr (0, (16, 0)), .inr (3, (0, 504))]), [(10, 0, 11), (19, 0, 11)], [], [(0, 0), (0, 0), (0, 0), (0, 0), (0, 0), (0, 0), (0, 0), (0, 0), (8, 0), (9, 0), (10, 0), (11, 0), (16, 0), (19, 0)], 3)
noncomputable def rxoFO_2_1 : bx_HO := (([(0, 0), (0, 0), (0, 0), (0, 0), (0, 0), (0, 0), (0, 0), (0, 0), (0, 5), (0, 35), (0, 12), (0, 11), (1, 12), (0, 396), (298, 729), (0, 59), (0, 9), (0, 33), (0, 5)], [(3, (18, 0), (8, 0)), (7, (17, 0), (11, 0)), (3, (15, 0), (0, (-1))), (604462909807314587353097000000, (14, 0), (13, 298)), (40, (13, 0), (11, 0)), (0, (11, 0), (12, 0))], [(((0, 0), 1851192626986356850009549571714367589437151598245816669475831808000000), .inr (0, (18, 0))), (((0, 0), 1851192626986356797424383205955251356357414400226579580632301568000000), .inr (0, (15, 0))), (((0, 0), 1851192626986356797825753743950570534658660943933713684945305600000000), .inr (0, (12, 0))), (((0, 482), 2), .inr (0, (12, 0))), (((0, 480), 3), .inr (3, (0, 482)))], 0, 0, 29, [(4, .inr (0, (11, 1))), (5, .inr (0, (16, 0))), (0, .inr (3, (0, 480))), (1, .inr (0, (8, 0))), (2, .inr (0, (9, 0))), (3, .inr (0, (10, 0)))], []), [], [], [(0, 0), (0, 0), (0, 0), (0, 0), (0, 0), (0, 0), (0, 0), (0, 0), (8, 0), (9, 0), (10, 0), (11, 1)], 2)
noncomputable def rxoFO_2_2 : bx_HO := (([(0, 0), (0, 0), (0, 0), (0, 0), (0, 0), (0, 0), (0, 0), (0, 0), (0, 5), (0, 35), (0, 12), (0, 11), (1, 12), (0, 396), (298, 729), ((-1), (-1)), (0, 33), (0, 5)], [(2, (17, 0), (8, 0)), (7, (16, 0), (11, 0)), (604462909807314587353097000000, (14, 0), (13, 298)), (40, (13, 0), (11, 0)), (0, (11, 0), (12, 0))], [(((0, 0), 1851192626986356850009546509173065300990980427874349783561928704000000), .inr (0, (17, 0))), (((0, 0), 1851192626986356797424383205955251356357414400226579580632301568000000), .inr (0, (15, 0))), (((0, 0), 1851192626986356797825753743950570534658660943933713684945305600000000), .inr (0, (12, 0))), (((0, 482), 2), .inr (0, (12, 0))), (((0, 480), 3), .inr (3, (0, 482)))], 0, 0, 29, [(4, .inr (0, (11, 1))), (5, .inr (0, (0, (-1)))), (0, .inr (3, (0, 480))), (1, .inr (0, (8, 0))), (2, .inr (0, (9, 0))), (3, .inr (0, (10, 0)))], []), [], [], [(0, 0), (0, 0), (0, 0), (0, 0), (0, 0), (0, 0), (0, 0), (0, 0), (8, 0), (9, 0), (10, 0), (11, 1)], 2)
noncomputable def rxoFO_2_3 : bx_HO := (([(0, 0), (0, 0), (0, 0), (0, 0), (0, 0), (0, 0), (0, 0), (0, 0), (0, 5), (0, 35), (0, 12), (0, 11), (1, 12), (0, 396), (298, 729), ((-1), (-1)), (0, 33), (0, 5)], [(3, (17, 0), (8, 0)), (7, (16, 0), (11, 0)), (604462909807314587353097000000, (14, 0), (13, 298)), (40, (13, 0), (11, 0)), (0, (11, 0), (12, 0))], [(((0, 0), 1851192626986356850009546509173065300990980427874349783561928704000000), .inr (0, (17, 0))), (((0, 0), 1851192626986356797424383205955251356357414400226579580632301568000000), .inr (0, (15, 0))), (((0, 0), 1851192626986356797825753743950570534658660943933713684945305600000000), .inr (0, (12, 0))), (((0, 482), 2), .inr (0, (12, 0))), (((0, 480), 3), .inr (3, (0, 482)))], 0, 0, 29, [(4, .inr (0, (11, 1))), (5, .inr (0, (0, (-1)))), (0, .inr (3, (0, 480))), (1, .inr (0, (8, 0))), (2, .inr (0, (9, 0))), (3, .inr (0, (10, 0)))], []), [], [], [(0, 0), (0, 0), (0, 0), (0, 0), (0, 0), (0, 0), (0, 0), (0, 0), (8, 0), (9, 0), (10, 0), (11, 1)], 2)
noncomputable def rxeFO_2_0 : rx_End × List (Nat × Int × Int) := (([(0, 0), (0, 0), (0, 0), (0, 0), (0, 0), (0, 0), (0, 0), (0, 0), (0, 5), (0, 35), (0, 12), (0, 12), (0, 12)], [(1, (12, 0), (11, 0))], [(((0, 0), 1851192626986356797825753743950570534658660943933713684945305600000000), .inr (0, (12, 0))), (((0, 482), 2), .inr (0, (12, 0))), (((0, 480), 3), .inr (3, (0, 482)))], some (.inr (0, (10, 0)))), [])
noncomputable def rxoFO_3_0 : bx_HO := (([(0, 0), (0, 0), (0, 0), (0, 0), (0, 0), (0, 0), (0, 0), (0, 0), (0, 5), (0, 35), (0, 11), (0, 11), (0, 9), (0, 11)], [], [(((0, 0), 1851192626986356797424377080872646779465072059483645808817471491000000), .inr (0, (13, 1)))], 0, 0, 29, [(4, .inr (0, (11, 1))), (3, .inr (0, (10, 1))), (0, .inr (3, (0, 480))), (1, .inr (0, (8, 0))), (2, .inr (0, (9, 0)))], []), [], [], [(0, 0), (0, 0), (0, 0), (0, 0), (0, 0), (0, 0), (0, 0), (0, 0), (8, 0), (9, 0), (10, 1), (11, 1)], 2)
noncomputable def rxYFO : List bx_HE := [(rxzFO_0, [rxoFO_0_0], []), (rxzFO_1, [rxoFO_1_0, rxoFO_1_1], []), (rxzFO_2, [rxoFO_2_0, rxoFO_2_1, rxoFO_2_2, rxoFO_2_3], [rxeFO_2_0]), (rxzFO_3, [rxoFO_3_0], [])]
noncomputable def rxUFO (q : bx_HE) : Bool := false
noncomputable def rxYBFO : bx_B := (rxV, rxNP, rxDmf, bx_mdH rxCFO.2.2.1)
set_option maxRecDepth 100000 in
theorem rxYcFO : bx_chkH rxYBFO rxM308 rxCFO rxYFO (rxUFO, fun cut z => rx_ex2 (rxCT rxYBFO rxCnE) cut 30000 rxCFO.2.2.2.1 308 z) = true := by decide +kernel
noncomputable def rxIFO (S0 : Nat → Int → Int) (ws : List Int) (i : Nat) : bx_SP := fun S r => match i with | 0 => rxIFO_0 S0 ws S (r 8) (r 9) | 1 => rxIFO_1 S0 ws S (r 8) (r 9) (r 10) (r 11) | 2 => rxIFO_2 S0 ws S (r 8) (r 9) (r 10) (r 11) | 3 => rxIFO_3 S0 ws S (r 8) (r 9) (r 10) (r 11) (r 12) (r 13) | _ => False
noncomputable def rxmFO (S0 : Nat → Int → Int) (ws : List Int) (i : Nat) (S : Nat → Int → Int) (r : Nat → Int) : Nat := match i with | 0 => rxmFO_0 S0 ws S (r 8) (r 9) | 1 => rxmFO_1 S0 ws S (r 8) (r 9) (r 10) (r 11) | 2 => rxmFO_2 S0 ws S (r 8) (r 9) (r 10) (r 11) | 3 => rxmFO_3 S0 ws S (r 8) (r 9) (r 10) (r 11) (r 12) (r 13) | _ => 0
noncomputable def rxPFO (S0 : Nat → Int → Int) (ws : List Int) : Prop := True
noncomputable def rxPSFO (S0 : Nat → Int → Int) (ws : List Int) (S : Nat → Int → Int) (w : Option Int) : Prop := ∀ n : Int, w = some n → 0 < n → (∃ j : Int, 0 ≤ j ∧ j < 10 ∧ 0 < S 504 j)
theorem rxcFO_0_0 {S0 : Nat → Int → Int} {ws : List Int} {S : Nat → Int → Int} {part at_ : Int} (hP : rxPFO S0 ws) (hin : bx_same rxL (bx_mdl rxCFO.2.2.1) S0 S) (I0 : bx_Inv rxL S) (hinv : rxIFO_0 S0 ws S part at_) (l8 : 0 ≤ part) (u8 : part ≤ 5) (l9 : 0 ≤ at_) (u9 : at_ ≤ 35) : (True) ∧ (True) ∧ rxIFO_1 S0 ws S part at_ 0 0 ∧ rxmFO_1 S0 ws S part at_ 0 0 < rxmFO_0 S0 ws S part at_ := by
  exact ⟨trivial, trivial, fun j h1 h2 => by omega, by unfold rxmFO_0 rxmFO_1; omega⟩
theorem rxgFO_0_0 {X : (Nat → Int → Int) → Prop} {S0 : Nat → Int → Int} {ws : List Int} (hP : rxPFO S0 ws) : bx_obC rxL X S0 rxCFO.2.2.1 (rxIFO S0 ws) (rxmFO S0 ws) 0 rxzFO_0 rxoFO_0_0 := by
  intro S S_p r r_p hinv hX hin hsm_ hseg
  obtain ⟨I0, I1, h0_, hr_, b_, f_, d_⟩ := bx_cl (evs := []) (fvs := []) hseg (by decide +kernel) (by decide +kernel)
  have hinv : rxIFO_0 S0 ws S (r 8) (r 9) := hinv
  rw [← hr_ 8 (by decide), ← hr_ 9 (by decide)] at hinv
  obtain ⟨⟨l8, u8⟩, ⟨l9, u9⟩, -⟩ := b_
  have w_ := d_
  subst w_
  have g := rxcFO_0_0 hP hin I0 hinv l8 u8 l9 u9
  refine ⟨bx_narP_ok (l := []) g.1, bx_nfP_ok h0_ (fvs := []) (by decide +kernel) g.2.1, ?_, ?_⟩
  · show rxIFO_1 S0 ws S_p (bx_val [(0, 0), (0, 0), (0, 0), (0, 0), (0, 0), (0, 0), (0, 0), (0, 0), (8, 0), (9, 0), (0, 0), (0, 0)] r_p 8) (bx_val [(0, 0), (0, 0), (0, 0), (0, 0), (0, 0), (0, 0), (0, 0), (0, 0), (8, 0), (9, 0), (0, 0), (0, 0)] r_p 9) (bx_val [(0, 0), (0, 0), (0, 0), (0, 0), (0, 0), (0, 0), (0, 0), (0, 0), (8, 0), (9, 0), (0, 0), (0, 0)] r_p 10) (bx_val [(0, 0), (0, 0), (0, 0), (0, 0), (0, 0), (0, 0), (0, 0), (0, 0), (8, 0), (9, 0), (0, 0), (0, 0)] r_p 11)
    rw [bx_val_x (n := 8) (e := (8, 0)) h0_ rfl, bx_val_x (n := 9) (e := (9, 0)) h0_ rfl, bx_val_x (n := 10) (e := (0, 0)) h0_ rfl, bx_val_x (n := 11) (e := (0, 0)) h0_ rfl]
    exact g.2.2.1
  · show rxmFO_1 S0 ws S_p (bx_val [(0, 0), (0, 0), (0, 0), (0, 0), (0, 0), (0, 0), (0, 0), (0, 0), (8, 0), (9, 0), (0, 0), (0, 0)] r_p 8) (bx_val [(0, 0), (0, 0), (0, 0), (0, 0), (0, 0), (0, 0), (0, 0), (0, 0), (8, 0), (9, 0), (0, 0), (0, 0)] r_p 9) (bx_val [(0, 0), (0, 0), (0, 0), (0, 0), (0, 0), (0, 0), (0, 0), (0, 0), (8, 0), (9, 0), (0, 0), (0, 0)] r_p 10) (bx_val [(0, 0), (0, 0), (0, 0), (0, 0), (0, 0), (0, 0), (0, 0), (0, 0), (8, 0), (9, 0), (0, 0), (0, 0)] r_p 11) < rxmFO_0 S0 ws S_p (r 8) (r 9)
    rw [bx_val_x (n := 8) (e := (8, 0)) h0_ rfl, bx_val_x (n := 9) (e := (9, 0)) h0_ rfl, bx_val_x (n := 10) (e := (0, 0)) h0_ rfl, bx_val_x (n := 11) (e := (0, 0)) h0_ rfl, ← hr_ 8 (by decide), ← hr_ 9 (by decide)]
    exact g.2.2.2
theorem rxcFO_1_0 {S0 : Nat → Int → Int} {ws : List Int} {S : Nat → Int → Int} {part at_ n k : Int} (hP : rxPFO S0 ws) (hin : bx_same rxL (bx_mdl rxCFO.2.2.1) S0 S) (I0 : bx_Inv rxL S) (hinv : rxIFO_1 S0 ws S part at_ n k) (l8 : 0 ≤ part) (u8 : part ≤ 5) (l9 : 0 ≤ at_) (u9 : at_ ≤ 35) (l10 : 0 ≤ n) (u10 : n ≤ 0) (l11 : 0 ≤ k) (u11 : k ≤ 9) : (True) ∧ (True) ∧ rxIFO_1 S0 ws (bx_up S 504 k 0) part at_ n (k + 1) ∧ rxmFO_1 S0 ws (bx_up S 504 k 0) part at_ n (k + 1) < rxmFO_1 S0 ws S part at_ n k := by
  refine ⟨trivial, trivial, fun j h3 h4 => ?_, by unfold rxmFO_1; omega⟩
  by_cases hj : j = k
  · subst hj
    exact bx_up_at
  · rw [bx_up_ne (by omega)]
    exact hinv j h3 (by omega)
theorem rxgFO_1_0 {X : (Nat → Int → Int) → Prop} {S0 : Nat → Int → Int} {ws : List Int} (hP : rxPFO S0 ws) : bx_obC rxL X S0 rxCFO.2.2.1 (rxIFO S0 ws) (rxmFO S0 ws) 1 rxzFO_1 rxoFO_1_0 := by
  intro S S_p r r_p hinv hX hin hsm_ hseg
  obtain ⟨I0, I1, h0_, hr_, b_, f_, d_⟩ := bx_cl (evs := [(1, (0, 504), (11, 0), .inr (0, (0, 0)))]) (fvs := []) hseg (by decide +kernel) (by decide +kernel)
  have hinv : rxIFO_1 S0 ws S (r 8) (r 9) (r 10) (r 11) := hinv
  rw [← hr_ 8 (by decide), ← hr_ 9 (by decide), ← hr_ 10 (by decide), ← hr_ 11 (by decide)] at hinv
  obtain ⟨⟨l8, u8⟩, ⟨l9, u9⟩, ⟨l10, u10⟩, ⟨l11, u11⟩, -⟩ := b_
  obtain ⟨T0, w_, w0⟩ := d_
  subst w0
  subst w_
  have g := rxcFO_1_0 hP hin I0 hinv l8 u8 l9 u9 l10 u10 l11 u11
  refine ⟨bx_narP_ok (l := []) g.1, bx_nfP_ok h0_ (fvs := []) (by decide +kernel) g.2.1, ?_, ?_⟩
  · show rxIFO_1 S0 ws (bx_up T0 504 (r_p 11) (0)) (bx_val [(0, 0), (0, 0), (0, 0), (0, 0), (0, 0), (0, 0), (0, 0), (0, 0), (8, 0), (9, 0), (10, 0), (11, 1)] r_p 8) (bx_val [(0, 0), (0, 0), (0, 0), (0, 0), (0, 0), (0, 0), (0, 0), (0, 0), (8, 0), (9, 0), (10, 0), (11, 1)] r_p 9) (bx_val [(0, 0), (0, 0), (0, 0), (0, 0), (0, 0), (0, 0), (0, 0), (0, 0), (8, 0), (9, 0), (10, 0), (11, 1)] r_p 10) (bx_val [(0, 0), (0, 0), (0, 0), (0, 0), (0, 0), (0, 0), (0, 0), (0, 0), (8, 0), (9, 0), (10, 0), (11, 1)] r_p 11)
    rw [bx_val_x (n := 8) (e := (8, 0)) h0_ rfl, bx_val_x (n := 9) (e := (9, 0)) h0_ rfl, bx_val_x (n := 10) (e := (10, 0)) h0_ rfl, bx_val_x (n := 11) (e := (11, 1)) h0_ rfl]
    exact g.2.2.1
  · show rxmFO_1 S0 ws (bx_up T0 504 (r_p 11) (0)) (bx_val [(0, 0), (0, 0), (0, 0), (0, 0), (0, 0), (0, 0), (0, 0), (0, 0), (8, 0), (9, 0), (10, 0), (11, 1)] r_p 8) (bx_val [(0, 0), (0, 0), (0, 0), (0, 0), (0, 0), (0, 0), (0, 0), (0, 0), (8, 0), (9, 0), (10, 0), (11, 1)] r_p 9) (bx_val [(0, 0), (0, 0), (0, 0), (0, 0), (0, 0), (0, 0), (0, 0), (0, 0), (8, 0), (9, 0), (10, 0), (11, 1)] r_p 10) (bx_val [(0, 0), (0, 0), (0, 0), (0, 0), (0, 0), (0, 0), (0, 0), (0, 0), (8, 0), (9, 0), (10, 0), (11, 1)] r_p 11) < rxmFO_1 S0 ws T0 (r 8) (r 9) (r 10) (r 11)
    rw [bx_val_x (n := 8) (e := (8, 0)) h0_ rfl, bx_val_x (n := 9) (e := (9, 0)) h0_ rfl, bx_val_x (n := 10) (e := (10, 0)) h0_ rfl, bx_val_x (n := 11) (e := (11, 1)) h0_ rfl, ← hr_ 8 (by decide), ← hr_ 9 (by decide), ← hr_ 10 (by decide), ← hr_ 11 (by decide)]
    exact g.2.2.2
theorem rxcFO_1_1 {S0 : Nat → Int → Int} {ws : List Int} {S : Nat → Int → Int} {part at_ n k : Int} (hP : rxPFO S0 ws) (hin : bx_same rxL (bx_mdl rxCFO.2.2.1) S0 S) (I0 : bx_Inv rxL S) (hinv : rxIFO_1 S0 ws S part at_ n k) (l8 : 0 ≤ part) (u8 : part ≤ 5) (l9 : 0 ≤ at_) (u9 : at_ ≤ 35) (l10 : 0 ≤ n) (u10 : n ≤ 0) (l11 : 10 ≤ k) (u11 : k ≤ 10) : (True) ∧ (True) ∧ rxIFO_2 S0 ws S part at_ n 0 ∧ rxmFO_2 S0 ws S part at_ n 0 < rxmFO_1 S0 ws S part at_ n k := by
  refine ⟨trivial, trivial, ⟨by omega, fun q => by omega, fun j h1 h2 => ?_⟩, by unfold rxmFO_1 rxmFO_2; omega⟩
  have := hinv j h1 (by omega)
  omega
theorem rxgFO_1_1 {X : (Nat → Int → Int) → Prop} {S0 : Nat → Int → Int} {ws : List Int} (hP : rxPFO S0 ws) : bx_obC rxL X S0 rxCFO.2.2.1 (rxIFO S0 ws) (rxmFO S0 ws) 1 rxzFO_1 rxoFO_1_1 := by
  intro S S_p r r_p hinv hX hin hsm_ hseg
  obtain ⟨I0, I1, h0_, hr_, b_, f_, d_⟩ := bx_cl (evs := []) (fvs := []) hseg (by decide +kernel) (by decide +kernel)
  have hinv : rxIFO_1 S0 ws S (r 8) (r 9) (r 10) (r 11) := hinv
  rw [← hr_ 8 (by decide), ← hr_ 9 (by decide), ← hr_ 10 (by decide), ← hr_ 11 (by decide)] at hinv
  obtain ⟨⟨l8, u8⟩, ⟨l9, u9⟩, ⟨l10, u10⟩, ⟨l11, u11⟩, -⟩ := b_
  have w_ := d_
  subst w_
  have g := rxcFO_1_1 hP hin I0 hinv l8 u8 l9 u9 l10 u10 l11 u11
  refine ⟨bx_narP_ok (l := []) g.1, bx_nfP_ok h0_ (fvs := []) (by decide +kernel) g.2.1, ?_, ?_⟩
  · show rxIFO_2 S0 ws S_p (bx_val [(0, 0), (0, 0), (0, 0), (0, 0), (0, 0), (0, 0), (0, 0), (0, 0), (8, 0), (9, 0), (10, 0), (0, 0)] r_p 8) (bx_val [(0, 0), (0, 0), (0, 0), (0, 0), (0, 0), (0, 0), (0, 0), (0, 0), (8, 0), (9, 0), (10, 0), (0, 0)] r_p 9) (bx_val [(0, 0), (0, 0), (0, 0), (0, 0), (0, 0), (0, 0), (0, 0), (0, 0), (8, 0), (9, 0), (10, 0), (0, 0)] r_p 10) (bx_val [(0, 0), (0, 0), (0, 0), (0, 0), (0, 0), (0, 0), (0, 0), (0, 0), (8, 0), (9, 0), (10, 0), (0, 0)] r_p 11)
    rw [bx_val_x (n := 8) (e := (8, 0)) h0_ rfl, bx_val_x (n := 9) (e := (9, 0)) h0_ rfl, bx_val_x (n := 10) (e := (10, 0)) h0_ rfl, bx_val_x (n := 11) (e := (0, 0)) h0_ rfl]
    exact g.2.2.1
  · show rxmFO_2 S0 ws S_p (bx_val [(0, 0), (0, 0), (0, 0), (0, 0), (0, 0), (0, 0), (0, 0), (0, 0), (8, 0), (9, 0), (10, 0), (0, 0)] r_p 8) (bx_val [(0, 0), (0, 0), (0, 0), (0, 0), (0, 0), (0, 0), (0, 0), (0, 0), (8, 0), (9, 0), (10, 0), (0, 0)] r_p 9) (bx_val [(0, 0), (0, 0), (0, 0), (0, 0), (0, 0), (0, 0), (0, 0), (0, 0), (8, 0), (9, 0), (10, 0), (0, 0)] r_p 10) (bx_val [(0, 0), (0, 0), (0, 0), (0, 0), (0, 0), (0, 0), (0, 0), (0, 0), (8, 0), (9, 0), (10, 0), (0, 0)] r_p 11) < rxmFO_1 S0 ws S_p (r 8) (r 9) (r 10) (r 11)
    rw [bx_val_x (n := 8) (e := (8, 0)) h0_ rfl, bx_val_x (n := 9) (e := (9, 0)) h0_ rfl, bx_val_x (n := 10) (e := (10, 0)) h0_ rfl, bx_val_x (n := 11) (e := (0, 0)) h0_ rfl, ← hr_ 8 (by decide), ← hr_ 9 (by decide), ← hr_ 10 (by decide), ← hr_ 11 (by decide)]
    exact g.2.2.2
theorem rxcFO_2_0 {S0 : Nat → Int → Int} {ws : List Int} {S : Nat → Int → Int} {part at_ n v x12 x13 x14 x15 x16 x17 x18 x19 : Int} (hP : rxPFO S0 ws) (hin : bx_same rxL (bx_mdl rxCFO.2.2.1) S0 S) (I0 : bx_Inv rxL S) (hinv : rxIFO_2 S0 ws S part at_ n v) (l8 : 0 ≤ part) (u8 : part ≤ 5) (l9 : 0 ≤ at_) (u9 : at_ ≤ 35) (l10 : 0 ≤ n) (u10 : n ≤ 12) (l11 : 0 ≤ v) (u11 : v ≤ 11) (l12 : 1 ≤ x12) (u12 : x12 ≤ 12) (l13 : 0 ≤ x13) (u13 : x13 ≤ 396) (l14 : 298 ≤ x14) (u14 : x14 ≤ 729) (l15 : 0 ≤ x15) (u15 : x15 ≤ 59) (l16 : 0 ≤ x16) (u16 : x16 ≤ 9) (l17 : 0 ≤ x17) (u17 : x17 ≤ 33) (l18 : 0 ≤ x18) (u18 : x18 ≤ 5) (l19 : (-2147483648) ≤ x19) (u19 : x19 ≤ 2147483647) (f0 : x16 ≠ (-1)) (f1 : x18 = part) (f2 : x17 = 3 * (v)) (f3 : x15 ≠ (-1)) (f4 : x14 = x13 + 298 + at_) (f5 : x13 = 36 * (v)) (f6 : v < x12) (e3 : S 482 2 = x12) (e2 : S 482 x14 = x15) (e1 : S 482 (x17 + 262) = x18) (e0 : S 504 x16 = x19) : ((0 ≤ n ∧ n ≤ 11) ∧ (0 ≤ x19 ∧ x19 ≤ 11) ∧ True) ∧ (True) ∧ rxIFO_3 S0 ws S part at_ n v x16 x19 ∧ rxmFO_3 S0 ws S part at_ n v x16 x19 < rxmFO_2 S0 ws S part at_ n v := by
  obtain ⟨h1, h2, h3⟩ := hinv
  have h4 := h3 x16 (by omega) (by omega)
  exact ⟨⟨by omega, by omega, trivial⟩, trivial, ⟨h1, e0.symm, h3⟩, by unfold rxmFO_2 rxmFO_3; omega⟩
theorem rxgFO_2_0 {X : (Nat → Int → Int) → Prop} {S0 : Nat → Int → Int} {ws : List Int} (hP : rxPFO S0 ws) : bx_obC rxL X S0 rxCFO.2.2.1 (rxIFO S0 ws) (rxmFO S0 ws) 2 rxzFO_2 rxoFO_2_0 := by
  intro S S_p r r_p hinv hX hin hsm_ hseg
  obtain ⟨I0, I1, h0_, hr_, b_, f_, d_⟩ := bx_cl (evs := [(0, (0, 504), (16, 0), .inr (0, (19, 0))), (0, (0, 482), (17, 262), .inr (0, (18, 0))), (0, (0, 482), (14, 0), .inr (0, (15, 0))), (0, (0, 482), (0, 2), .inr (0, (12, 0)))]) (fvs := [(3, (16, 0), (0, (-1)), (0, 0)), (2, (18, 0), (8, 0), (0, 0)), (4, (17, 0), (11, 0), (0, 3)), (3, (15, 0), (0, (-1)), (0, 0)), (5, (14, 0), (13, 298), (9, 0)), (4, (13, 0), (11, 0), (0, 36)), (0, (11, 0), (12, 0), (0, 0))]) hseg (by decide +kernel) (by decide +kernel)
  have hinv : rxIFO_2 S0 ws S (r 8) (r 9) (r 10) (r 11) := hinv
  rw [← hr_ 8 (by decide), ← hr_ 9 (by decide), ← hr_ 10 (by decide), ← hr_ 11 (by decide)] at hinv
  obtain ⟨⟨l8, u8⟩, ⟨l9, u9⟩, ⟨l10, u10⟩, ⟨l11, u11⟩, ⟨l12, u12⟩, ⟨l13, u13⟩, ⟨l14, u14⟩, ⟨l15, u15⟩, ⟨l16, u16⟩, ⟨l17, u17⟩, ⟨l18, u18⟩, ⟨l19, u19⟩, -⟩ := b_
  obtain ⟨f0, f1, f2, f3, f4, f5, f6, -⟩ := f_
  obtain ⟨e0, ⟨e1, ⟨e2, ⟨e3, w_⟩⟩⟩⟩ := d_
  subst w_
  have g := rxcFO_2_0 hP hin I0 hinv l8 u8 l9 u9 l10 u10 l11 u11 l12 u12 l13 u13 l14 u14 l15 u15 l16 u16 l17 u17 l18 u18 l19 u19 f0 f1 f2 f3 f4 f5 f6 e3 e2 e1 e0
  refine ⟨bx_narP_ok (l := [(10, 0, 11), (19, 0, 11)]) g.1, bx_nfP_ok h0_ (fvs := []) (by decide +kernel) g.2.1, ?_, ?_⟩
  · show rxIFO_3 S0 ws S_p (bx_val [(0, 0), (0, 0), (0, 0), (0, 0), (0, 0), (0, 0), (0, 0), (0, 0), (8, 0), (9, 0), (10, 0), (11, 0), (16, 0), (19, 0)] r_p 8) (bx_val [(0, 0), (0, 0), (0, 0), (0, 0), (0, 0), (0, 0), (0, 0), (0, 0), (8, 0), (9, 0), (10, 0), (11, 0), (16, 0), (19, 0)] r_p 9) (bx_val [(0, 0), (0, 0), (0, 0), (0, 0), (0, 0), (0, 0), (0, 0), (0, 0), (8, 0), (9, 0), (10, 0), (11, 0), (16, 0), (19, 0)] r_p 10) (bx_val [(0, 0), (0, 0), (0, 0), (0, 0), (0, 0), (0, 0), (0, 0), (0, 0), (8, 0), (9, 0), (10, 0), (11, 0), (16, 0), (19, 0)] r_p 11) (bx_val [(0, 0), (0, 0), (0, 0), (0, 0), (0, 0), (0, 0), (0, 0), (0, 0), (8, 0), (9, 0), (10, 0), (11, 0), (16, 0), (19, 0)] r_p 12) (bx_val [(0, 0), (0, 0), (0, 0), (0, 0), (0, 0), (0, 0), (0, 0), (0, 0), (8, 0), (9, 0), (10, 0), (11, 0), (16, 0), (19, 0)] r_p 13)
    rw [bx_val_x (n := 8) (e := (8, 0)) h0_ rfl, bx_val_x (n := 9) (e := (9, 0)) h0_ rfl, bx_val_x (n := 10) (e := (10, 0)) h0_ rfl, bx_val_x (n := 11) (e := (11, 0)) h0_ rfl, bx_val_x (n := 12) (e := (16, 0)) h0_ rfl, bx_val_x (n := 13) (e := (19, 0)) h0_ rfl]
    exact g.2.2.1
  · show rxmFO_3 S0 ws S_p (bx_val [(0, 0), (0, 0), (0, 0), (0, 0), (0, 0), (0, 0), (0, 0), (0, 0), (8, 0), (9, 0), (10, 0), (11, 0), (16, 0), (19, 0)] r_p 8) (bx_val [(0, 0), (0, 0), (0, 0), (0, 0), (0, 0), (0, 0), (0, 0), (0, 0), (8, 0), (9, 0), (10, 0), (11, 0), (16, 0), (19, 0)] r_p 9) (bx_val [(0, 0), (0, 0), (0, 0), (0, 0), (0, 0), (0, 0), (0, 0), (0, 0), (8, 0), (9, 0), (10, 0), (11, 0), (16, 0), (19, 0)] r_p 10) (bx_val [(0, 0), (0, 0), (0, 0), (0, 0), (0, 0), (0, 0), (0, 0), (0, 0), (8, 0), (9, 0), (10, 0), (11, 0), (16, 0), (19, 0)] r_p 11) (bx_val [(0, 0), (0, 0), (0, 0), (0, 0), (0, 0), (0, 0), (0, 0), (0, 0), (8, 0), (9, 0), (10, 0), (11, 0), (16, 0), (19, 0)] r_p 12) (bx_val [(0, 0), (0, 0), (0, 0), (0, 0), (0, 0), (0, 0), (0, 0), (0, 0), (8, 0), (9, 0), (10, 0), (11, 0), (16, 0), (19, 0)] r_p 13) < rxmFO_2 S0 ws S_p (r 8) (r 9) (r 10) (r 11)
    rw [bx_val_x (n := 8) (e := (8, 0)) h0_ rfl, bx_val_x (n := 9) (e := (9, 0)) h0_ rfl, bx_val_x (n := 10) (e := (10, 0)) h0_ rfl, bx_val_x (n := 11) (e := (11, 0)) h0_ rfl, bx_val_x (n := 12) (e := (16, 0)) h0_ rfl, bx_val_x (n := 13) (e := (19, 0)) h0_ rfl, ← hr_ 8 (by decide), ← hr_ 9 (by decide), ← hr_ 10 (by decide), ← hr_ 11 (by decide)]
    exact g.2.2.2
theorem rxcFO_2_1 {S0 : Nat → Int → Int} {ws : List Int} {S : Nat → Int → Int} {part at_ n v x12 x13 x14 x15 x16 x17 x18 : Int} (hP : rxPFO S0 ws) (hin : bx_same rxL (bx_mdl rxCFO.2.2.1) S0 S) (I0 : bx_Inv rxL S) (hinv : rxIFO_2 S0 ws S part at_ n v) (l8 : 0 ≤ part) (u8 : part ≤ 5) (l9 : 0 ≤ at_) (u9 : at_ ≤ 35) (l10 : 0 ≤ n) (u10 : n ≤ 12) (l11 : 0 ≤ v) (u11 : v ≤ 11) (l12 : 1 ≤ x12) (u12 : x12 ≤ 12) (l13 : 0 ≤ x13) (u13 : x13 ≤ 396) (l14 : 298 ≤ x14) (u14 : x14 ≤ 729) (l15 : 0 ≤ x15) (u15 : x15 ≤ 59) (l16 : 0 ≤ x16) (u16 : x16 ≤ 9) (l17 : 0 ≤ x17) (u17 : x17 ≤ 33) (l18 : 0 ≤ x18) (u18 : x18 ≤ 5) (f0 : x18 ≠ part) (f1 : x17 = 3 * (v)) (f2 : x15 ≠ (-1)) (f3 : x14 = x13 + 298 + at_) (f4 : x13 = 36 * (v)) (f5 : v < x12) (e2 : S 482 2 = x12) (e1 : S 482 x14 = x15) (e0 : S 482 (x17 + 262) = x18) : (True) ∧ (True) ∧ rxIFO_2 S0 ws S part at_ n (v + 1) ∧ rxmFO_2 S0 ws S part at_ n (v + 1) < rxmFO_2 S0 ws S part at_ n v := by
  obtain ⟨h1, h2, h3⟩ := hinv
  refine ⟨trivial, trivial, ⟨by omega, h2, fun j g1 g2 => ?_⟩, by unfold rxmFO_2; omega⟩
  have := h3 j g1 g2
  omega
theorem rxgFO_2_1 {X : (Nat → Int → Int) → Prop} {S0 : Nat → Int → Int} {ws : List Int} (hP : rxPFO S0 ws) : bx_obC rxL X S0 rxCFO.2.2.1 (rxIFO S0 ws) (rxmFO S0 ws) 2 rxzFO_2 rxoFO_2_1 := by
  intro S S_p r r_p hinv hX hin hsm_ hseg
  obtain ⟨I0, I1, h0_, hr_, b_, f_, d_⟩ := bx_cl (evs := [(0, (0, 482), (17, 262), .inr (0, (18, 0))), (0, (0, 482), (14, 0), .inr (0, (15, 0))), (0, (0, 482), (0, 2), .inr (0, (12, 0)))]) (fvs := [(3, (18, 0), (8, 0), (0, 0)), (4, (17, 0), (11, 0), (0, 3)), (3, (15, 0), (0, (-1)), (0, 0)), (5, (14, 0), (13, 298), (9, 0)), (4, (13, 0), (11, 0), (0, 36)), (0, (11, 0), (12, 0), (0, 0))]) hseg (by decide +kernel) (by decide +kernel)
  have hinv : rxIFO_2 S0 ws S (r 8) (r 9) (r 10) (r 11) := hinv
  rw [← hr_ 8 (by decide), ← hr_ 9 (by decide), ← hr_ 10 (by decide), ← hr_ 11 (by decide)] at hinv
  obtain ⟨⟨l8, u8⟩, ⟨l9, u9⟩, ⟨l10, u10⟩, ⟨l11, u11⟩, ⟨l12, u12⟩, ⟨l13, u13⟩, ⟨l14, u14⟩, ⟨l15, u15⟩, ⟨l16, u16⟩, ⟨l17, u17⟩, ⟨l18, u18⟩, -⟩ := b_
  obtain ⟨f0, f1, f2, f3, f4, f5, -⟩ := f_
  obtain ⟨e0, ⟨e1, ⟨e2, w_⟩⟩⟩ := d_
  subst w_
  have g := rxcFO_2_1 hP hin I0 hinv l8 u8 l9 u9 l10 u10 l11 u11 l12 u12 l13 u13 l14 u14 l15 u15 l16 u16 l17 u17 l18 u18 f0 f1 f2 f3 f4 f5 e2 e1 e0
  refine ⟨bx_narP_ok (l := []) g.1, bx_nfP_ok h0_ (fvs := []) (by decide +kernel) g.2.1, ?_, ?_⟩
  · show rxIFO_2 S0 ws S_p (bx_val [(0, 0), (0, 0), (0, 0), (0, 0), (0, 0), (0, 0), (0, 0), (0, 0), (8, 0), (9, 0), (10, 0), (11, 1)] r_p 8) (bx_val [(0, 0), (0, 0), (0, 0), (0, 0), (0, 0), (0, 0), (0, 0), (0, 0), (8, 0), (9, 0), (10, 0), (11, 1)] r_p 9) (bx_val [(0, 0), (0, 0), (0, 0), (0, 0), (0, 0), (0, 0), (0, 0), (0, 0), (8, 0), (9, 0), (10, 0), (11, 1)] r_p 10) (bx_val [(0, 0), (0, 0), (0, 0), (0, 0), (0, 0), (0, 0), (0, 0), (0, 0), (8, 0), (9, 0), (10, 0), (11, 1)] r_p 11)
    rw [bx_val_x (n := 8) (e := (8, 0)) h0_ rfl, bx_val_x (n := 9) (e := (9, 0)) h0_ rfl, bx_val_x (n := 10) (e := (10, 0)) h0_ rfl, bx_val_x (n := 11) (e := (11, 1)) h0_ rfl]
    exact g.2.2.1
  · show rxmFO_2 S0 ws S_p (bx_val [(0, 0), (0, 0), (0, 0), (0, 0), (0, 0), (0, 0), (0, 0), (0, 0), (8, 0), (9, 0), (10, 0), (11, 1)] r_p 8) (bx_val [(0, 0), (0, 0), (0, 0), (0, 0), (0, 0), (0, 0), (0, 0), (0, 0), (8, 0), (9, 0), (10, 0), (11, 1)] r_p 9) (bx_val [(0, 0), (0, 0), (0, 0), (0, 0), (0, 0), (0, 0), (0, 0), (0, 0), (8, 0), (9, 0), (10, 0), (11, 1)] r_p 10) (bx_val [(0, 0), (0, 0), (0, 0), (0, 0), (0, 0), (0, 0), (0, 0), (0, 0), (8, 0), (9, 0), (10, 0), (11, 1)] r_p 11) < rxmFO_2 S0 ws S_p (r 8) (r 9) (r 10) (r 11)
    rw [bx_val_x (n := 8) (e := (8, 0)) h0_ rfl, bx_val_x (n := 9) (e := (9, 0)) h0_ rfl, bx_val_x (n := 10) (e := (10, 0)) h0_ rfl, bx_val_x (n := 11) (e := (11, 1)) h0_ rfl, ← hr_ 8 (by decide), ← hr_ 9 (by decide), ← hr_ 10 (by decide), ← hr_ 11 (by decide)]
    exact g.2.2.2
theorem rxcFO_2_2 {S0 : Nat → Int → Int} {ws : List Int} {S : Nat → Int → Int} {part at_ n v x12 x13 x14 x15 x16 x17 : Int} (hP : rxPFO S0 ws) (hin : bx_same rxL (bx_mdl rxCFO.2.2.1) S0 S) (I0 : bx_Inv rxL S) (hinv : rxIFO_2 S0 ws S part at_ n v) (l8 : 0 ≤ part) (u8 : part ≤ 5) (l9 : 0 ≤ at_) (u9 : at_ ≤ 35) (l10 : 0 ≤ n) (u10 : n ≤ 12) (l11 : 0 ≤ v) (u11 : v ≤ 11) (l12 : 1 ≤ x12) (u12 : x12 ≤ 12) (l13 : 0 ≤ x13) (u13 : x13 ≤ 396) (l14 : 298 ≤ x14) (u14 : x14 ≤ 729) (l15 : (-1) ≤ x15) (u15 : x15 ≤ (-1)) (l16 : 0 ≤ x16) (u16 : x16 ≤ 33) (l17 : 0 ≤ x17) (u17 : x17 ≤ 5) (f0 : x17 = part) (f1 : x16 = 3 * (v)) (f2 : x14 = x13 + 298 + at_) (f3 : x13 = 36 * (v)) (f4 : v < x12) (e2 : S 482 2 = x12) (e1 : S 482 x14 = x15) (e0 : S 482 (x16 + 262) = x17) : (True) ∧ (True) ∧ rxIFO_2 S0 ws S part at_ n (v + 1) ∧ rxmFO_2 S0 ws S part at_ n (v + 1) < rxmFO_2 S0 ws S part at_ n v := by
  obtain ⟨h1, h2, h3⟩ := hinv
  refine ⟨trivial, trivial, ⟨by omega, h2, fun j g1 g2 => ?_⟩, by unfold rxmFO_2; omega⟩
  have := h3 j g1 g2
  omega
theorem rxgFO_2_2 {X : (Nat → Int → Int) → Prop} {S0 : Nat → Int → Int} {ws : List Int} (hP : rxPFO S0 ws) : bx_obC rxL X S0 rxCFO.2.2.1 (rxIFO S0 ws) (rxmFO S0 ws) 2 rxzFO_2 rxoFO_2_2 := by
  intro S S_p r r_p hinv hX hin hsm_ hseg
  obtain ⟨I0, I1, h0_, hr_, b_, f_, d_⟩ := bx_cl (evs := [(0, (0, 482), (16, 262), .inr (0, (17, 0))), (0, (0, 482), (14, 0), .inr (0, (15, 0))), (0, (0, 482), (0, 2), .inr (0, (12, 0)))]) (fvs := [(2, (17, 0), (8, 0), (0, 0)), (4, (16, 0), (11, 0), (0, 3)), (5, (14, 0), (13, 298), (9, 0)), (4, (13, 0), (11, 0), (0, 36)), (0, (11, 0), (12, 0), (0, 0))]) hseg (by decide +kernel) (by decide +kernel)
  have hinv : rxIFO_2 S0 ws S (r 8) (r 9) (r 10) (r 11) := hinv
  rw [← hr_ 8 (by decide), ← hr_ 9 (by decide), ← hr_ 10 (by decide), ← hr_ 11 (by decide)] at hinv
  obtain ⟨⟨l8, u8⟩, ⟨l9, u9⟩, ⟨l10, u10⟩, ⟨l11, u11⟩, ⟨l12, u12⟩, ⟨l13, u13⟩, ⟨l14, u14⟩, ⟨l15, u15⟩, ⟨l16, u16⟩, ⟨l17, u17⟩, -⟩ := b_
  obtain ⟨f0, f1, f2, f3, f4, -⟩ := f_
  obtain ⟨e0, ⟨e1, ⟨e2, w_⟩⟩⟩ := d_
  subst w_
  have g := rxcFO_2_2 hP hin I0 hinv l8 u8 l9 u9 l10 u10 l11 u11 l12 u12 l13 u13 l14 u14 l15 u15 l16 u16 l17 u17 f0 f1 f2 f3 f4 e2 e1 e0
  refine ⟨bx_narP_ok (l := []) g.1, bx_nfP_ok h0_ (fvs := []) (by decide +kernel) g.2.1, ?_, ?_⟩
  · show rxIFO_2 S0 ws S_p (bx_val [(0, 0), (0, 0), (0, 0), (0, 0), (0, 0), (0, 0), (0, 0), (0, 0), (8, 0), (9, 0), (10, 0), (11, 1)] r_p 8) (bx_val [(0, 0), (0, 0), (0, 0), (0, 0), (0, 0), (0, 0), (0, 0), (0, 0), (8, 0), (9, 0), (10, 0), (11, 1)] r_p 9) (bx_val [(0, 0), (0, 0), (0, 0), (0, 0), (0, 0), (0, 0), (0, 0), (0, 0), (8, 0), (9, 0), (10, 0), (11, 1)] r_p 10) (bx_val [(0, 0), (0, 0), (0, 0), (0, 0), (0, 0), (0, 0), (0, 0), (0, 0), (8, 0), (9, 0), (10, 0), (11, 1)] r_p 11)
    rw [bx_val_x (n := 8) (e := (8, 0)) h0_ rfl, bx_val_x (n := 9) (e := (9, 0)) h0_ rfl, bx_val_x (n := 10) (e := (10, 0)) h0_ rfl, bx_val_x (n := 11) (e := (11, 1)) h0_ rfl]
    exact g.2.2.1
  · show rxmFO_2 S0 ws S_p (bx_val [(0, 0), (0, 0), (0, 0), (0, 0), (0, 0), (0, 0), (0, 0), (0, 0), (8, 0), (9, 0), (10, 0), (11, 1)] r_p 8) (bx_val [(0, 0), (0, 0), (0, 0), (0, 0), (0, 0), (0, 0), (0, 0), (0, 0), (8, 0), (9, 0), (10, 0), (11, 1)] r_p 9) (bx_val [(0, 0), (0, 0), (0, 0), (0, 0), (0, 0), (0, 0), (0, 0), (0, 0), (8, 0), (9, 0), (10, 0), (11, 1)] r_p 10) (bx_val [(0, 0), (0, 0), (0, 0), (0, 0), (0, 0), (0, 0), (0, 0), (0, 0), (8, 0), (9, 0), (10, 0), (11, 1)] r_p 11) < rxmFO_2 S0 ws S_p (r 8) (r 9) (r 10) (r 11)
    rw [bx_val_x (n := 8) (e := (8, 0)) h0_ rfl, bx_val_x (n := 9) (e := (9, 0)) h0_ rfl, bx_val_x (n := 10) (e := (10, 0)) h0_ rfl, bx_val_x (n := 11) (e := (11, 1)) h0_ rfl, ← hr_ 8 (by decide), ← hr_ 9 (by decide), ← hr_ 10 (by decide), ← hr_ 11 (by decide)]
    exact g.2.2.2
theorem rxcFO_2_3 {S0 : Nat → Int → Int} {ws : List Int} {S : Nat → Int → Int} {part at_ n v x12 x13 x14 x15 x16 x17 : Int} (hP : rxPFO S0 ws) (hin : bx_same rxL (bx_mdl rxCFO.2.2.1) S0 S) (I0 : bx_Inv rxL S) (hinv : rxIFO_2 S0 ws S part at_ n v) (l8 : 0 ≤ part) (u8 : part ≤ 5) (l9 : 0 ≤ at_) (u9 : at_ ≤ 35) (l10 : 0 ≤ n) (u10 : n ≤ 12) (l11 : 0 ≤ v) (u11 : v ≤ 11) (l12 : 1 ≤ x12) (u12 : x12 ≤ 12) (l13 : 0 ≤ x13) (u13 : x13 ≤ 396) (l14 : 298 ≤ x14) (u14 : x14 ≤ 729) (l15 : (-1) ≤ x15) (u15 : x15 ≤ (-1)) (l16 : 0 ≤ x16) (u16 : x16 ≤ 33) (l17 : 0 ≤ x17) (u17 : x17 ≤ 5) (f0 : x17 ≠ part) (f1 : x16 = 3 * (v)) (f2 : x14 = x13 + 298 + at_) (f3 : x13 = 36 * (v)) (f4 : v < x12) (e2 : S 482 2 = x12) (e1 : S 482 x14 = x15) (e0 : S 482 (x16 + 262) = x17) : (True) ∧ (True) ∧ rxIFO_2 S0 ws S part at_ n (v + 1) ∧ rxmFO_2 S0 ws S part at_ n (v + 1) < rxmFO_2 S0 ws S part at_ n v := by
  obtain ⟨h1, h2, h3⟩ := hinv
  refine ⟨trivial, trivial, ⟨by omega, h2, fun j g1 g2 => ?_⟩, by unfold rxmFO_2; omega⟩
  have := h3 j g1 g2
  omega
theorem rxgFO_2_3 {X : (Nat → Int → Int) → Prop} {S0 : Nat → Int → Int} {ws : List Int} (hP : rxPFO S0 ws) : bx_obC rxL X S0 rxCFO.2.2.1 (rxIFO S0 ws) (rxmFO S0 ws) 2 rxzFO_2 rxoFO_2_3 := by
  intro S S_p r r_p hinv hX hin hsm_ hseg
  obtain ⟨I0, I1, h0_, hr_, b_, f_, d_⟩ := bx_cl (evs := [(0, (0, 482), (16, 262), .inr (0, (17, 0))), (0, (0, 482), (14, 0), .inr (0, (15, 0))), (0, (0, 482), (0, 2), .inr (0, (12, 0)))]) (fvs := [(3, (17, 0), (8, 0), (0, 0)), (4, (16, 0), (11, 0), (0, 3)), (5, (14, 0), (13, 298), (9, 0)), (4, (13, 0), (11, 0), (0, 36)), (0, (11, 0), (12, 0), (0, 0))]) hseg (by decide +kernel) (by decide +kernel)
  have hinv : rxIFO_2 S0 ws S (r 8) (r 9) (r 10) (r 11) := hinv
  rw [← hr_ 8 (by decide), ← hr_ 9 (by decide), ← hr_ 10 (by decide), ← hr_ 11 (by decide)] at hinv
  obtain ⟨⟨l8, u8⟩, ⟨l9, u9⟩, ⟨l10, u10⟩, ⟨l11, u11⟩, ⟨l12, u12⟩, ⟨l13, u13⟩, ⟨l14, u14⟩, ⟨l15, u15⟩, ⟨l16, u16⟩, ⟨l17, u17⟩, -⟩ := b_
  obtain ⟨f0, f1, f2, f3, f4, -⟩ := f_
  obtain ⟨e0, ⟨e1, ⟨e2, w_⟩⟩⟩ := d_
  subst w_
  have g := rxcFO_2_3 hP hin I0 hinv l8 u8 l9 u9 l10 u10 l11 u11 l12 u12 l13 u13 l14 u14 l15 u15 l16 u16 l17 u17 f0 f1 f2 f3 f4 e2 e1 e0
  refine ⟨bx_narP_ok (l := []) g.1, bx_nfP_ok h0_ (fvs := []) (by decide +kernel) g.2.1, ?_, ?_⟩
  · show rxIFO_2 S0 ws S_p (bx_val [(0, 0), (0, 0), (0, 0), (0, 0), (0, 0), (0, 0), (0, 0), (0, 0), (8, 0), (9, 0), (10, 0), (11, 1)] r_p 8) (bx_val [(0, 0), (0, 0), (0, 0), (0, 0), (0, 0), (0, 0), (0, 0), (0, 0), (8, 0), (9, 0), (10, 0), (11, 1)] r_p 9) (bx_val [(0, 0), (0, 0), (0, 0), (0, 0), (0, 0), (0, 0), (0, 0), (0, 0), (8, 0), (9, 0), (10, 0), (11, 1)] r_p 10) (bx_val [(0, 0), (0, 0), (0, 0), (0, 0), (0, 0), (0, 0), (0, 0), (0, 0), (8, 0), (9, 0), (10, 0), (11, 1)] r_p 11)
    rw [bx_val_x (n := 8) (e := (8, 0)) h0_ rfl, bx_val_x (n := 9) (e := (9, 0)) h0_ rfl, bx_val_x (n := 10) (e := (10, 0)) h0_ rfl, bx_val_x (n := 11) (e := (11, 1)) h0_ rfl]
    exact g.2.2.1
  · show rxmFO_2 S0 ws S_p (bx_val [(0, 0), (0, 0), (0, 0), (0, 0), (0, 0), (0, 0), (0, 0), (0, 0), (8, 0), (9, 0), (10, 0), (11, 1)] r_p 8) (bx_val [(0, 0), (0, 0), (0, 0), (0, 0), (0, 0), (0, 0), (0, 0), (0, 0), (8, 0), (9, 0), (10, 0), (11, 1)] r_p 9) (bx_val [(0, 0), (0, 0), (0, 0), (0, 0), (0, 0), (0, 0), (0, 0), (0, 0), (8, 0), (9, 0), (10, 0), (11, 1)] r_p 10) (bx_val [(0, 0), (0, 0), (0, 0), (0, 0), (0, 0), (0, 0), (0, 0), (0, 0), (8, 0), (9, 0), (10, 0), (11, 1)] r_p 11) < rxmFO_2 S0 ws S_p (r 8) (r 9) (r 10) (r 11)
    rw [bx_val_x (n := 8) (e := (8, 0)) h0_ rfl, bx_val_x (n := 9) (e := (9, 0)) h0_ rfl, bx_val_x (n := 10) (e := (10, 0)) h0_ rfl, bx_val_x (n := 11) (e := (11, 1)) h0_ rfl, ← hr_ 8 (by decide), ← hr_ 9 (by decide), ← hr_ 10 (by decide), ← hr_ 11 (by decide)]
    exact g.2.2.2
theorem rxdFO_2_0 {S0 : Nat → Int → Int} {ws : List Int} {S : Nat → Int → Int} {part at_ n v x12 : Int} (hP : rxPFO S0 ws) (hin : bx_same rxL (bx_mdl rxCFO.2.2.1) S0 S) (hin2 : bx_same rxL (bx_mdl rxCFO.2.2.1) S S) (I0 : bx_Inv rxL S) (I1 : bx_Inv rxL S) (hinv : rxIFO_2 S0 ws S part at_ n v) (l8 : 0 ≤ part) (u8 : part ≤ 5) (l9 : 0 ≤ at_) (u9 : at_ ≤ 35) (l10 : 0 ≤ n) (u10 : n ≤ 12) (l11 : 0 ≤ v) (u11 : v ≤ 12) (l12 : 0 ≤ x12) (u12 : x12 ≤ 12) (f0 : x12 ≤ v) (e0 : S 482 2 = x12) : (True) ∧ rxPSFO S0 ws S (some n) := by
  obtain ⟨h1, h2, h3⟩ := hinv
  refine ⟨trivial, fun n_p hn h => ?_⟩
  cases hn
  exact h2 h
theorem rxfFO_2_0 {X : (Nat → Int → Int) → Prop} {S0 : Nat → Int → Int} {ws : List Int} (hP : rxPFO S0 ws) : bx_obE rxL X S0 rxCFO.2.2.1 (rxIFO S0 ws) (rxPSFO S0 ws) 2 rxzFO_2 rxeFO_2_0 := by
  intro S S_p r r_p hinv hX hin hsm_ hseg
  obtain ⟨I0, I1, h0_, hr_, b_, f_, d_⟩ := bx_cl (evs := [(0, (0, 482), (0, 2), .inr (0, (12, 0)))]) (fvs := [(1, (12, 0), (11, 0), (0, 0))]) hseg (by decide +kernel) (by decide +kernel)
  have hinv : rxIFO_2 S0 ws S (r 8) (r 9) (r 10) (r 11) := hinv
  rw [← hr_ 8 (by decide), ← hr_ 9 (by decide), ← hr_ 10 (by decide), ← hr_ 11 (by decide)] at hinv
  obtain ⟨⟨l8, u8⟩, ⟨l9, u9⟩, ⟨l10, u10⟩, ⟨l11, u11⟩, ⟨l12, u12⟩, -⟩ := b_
  obtain ⟨f0, -⟩ := f_
  obtain ⟨e0, w_⟩ := d_
  subst w_
  have g := rxdFO_2_0 hP hin hsm_ I0 I1 hinv l8 u8 l9 u9 l10 u10 l11 u11 l12 u12 f0 e0
  refine ⟨bx_narP_ok (l := []) g.1, ?_⟩
  show rxPSFO S0 ws S_p (some (bx_num r_p (.inr (0, (10, 0)))))
  rw [bx_xv_ok h0_]
  exact g.2
theorem rxcFO_3_0 {S0 : Nat → Int → Int} {ws : List Int} {S : Nat → Int → Int} {part at_ n v u q : Int} (hP : rxPFO S0 ws) (hin : bx_same rxL (bx_mdl rxCFO.2.2.1) S0 S) (I0 : bx_Inv rxL S) (hinv : rxIFO_3 S0 ws S part at_ n v u q) (l8 : 0 ≤ part) (u8 : part ≤ 5) (l9 : 0 ≤ at_) (u9 : at_ ≤ 35) (l10 : 0 ≤ n) (u10 : n ≤ 11) (l11 : 0 ≤ v) (u11 : v ≤ 11) (l12 : 0 ≤ u) (u12 : u ≤ 9) (l13 : 0 ≤ q) (u13 : q ≤ 11) : (True) ∧ (True) ∧ rxIFO_2 S0 ws (bx_up S 504 u (q + 1)) part at_ (n + 1) (v + 1) ∧ rxmFO_2 S0 ws (bx_up S 504 u (q + 1)) part at_ (n + 1) (v + 1) < rxmFO_3 S0 ws S part at_ n v u q := by
  obtain ⟨h1, h2, h3⟩ := hinv
  refine ⟨trivial, trivial, ⟨by omega, fun _ => ⟨u, by omega, by omega, by rw [bx_up_at]; omega⟩, fun j g1 g2 => ?_⟩, by unfold rxmFO_3 rxmFO_2; omega⟩
  have := h3 j g1 g2
  by_cases hj : j = u
  · subst hj
    rw [bx_up_at]
    omega
  · rw [bx_up_ne (by omega)]
    omega
theorem rxgFO_3_0 {X : (Nat → Int → Int) → Prop} {S0 : Nat → Int → Int} {ws : List Int} (hP : rxPFO S0 ws) : bx_obC rxL X S0 rxCFO.2.2.1 (rxIFO S0 ws) (rxmFO S0 ws) 3 rxzFO_3 rxoFO_3_0 := by
  intro S S_p r r_p hinv hX hin hsm_ hseg
  obtain ⟨I0, I1, h0_, hr_, b_, f_, d_⟩ := bx_cl (evs := [(1, (0, 504), (12, 0), .inr (0, (13, 1)))]) (fvs := []) hseg (by decide +kernel) (by decide +kernel)
  have hinv : rxIFO_3 S0 ws S (r 8) (r 9) (r 10) (r 11) (r 12) (r 13) := hinv
  rw [← hr_ 8 (by decide), ← hr_ 9 (by decide), ← hr_ 10 (by decide), ← hr_ 11 (by decide), ← hr_ 12 (by decide), ← hr_ 13 (by decide)] at hinv
  obtain ⟨⟨l8, u8⟩, ⟨l9, u9⟩, ⟨l10, u10⟩, ⟨l11, u11⟩, ⟨l12, u12⟩, ⟨l13, u13⟩, -⟩ := b_
  obtain ⟨T0, w_, w0⟩ := d_
  subst w0
  subst w_
  have g := rxcFO_3_0 hP hin I0 hinv l8 u8 l9 u9 l10 u10 l11 u11 l12 u12 l13 u13
  refine ⟨bx_narP_ok (l := []) g.1, bx_nfP_ok h0_ (fvs := []) (by decide +kernel) g.2.1, ?_, ?_⟩
  · show rxIFO_2 S0 ws (bx_up T0 504 (r_p 12) (r_p 13 + 1)) (bx_val [(0, 0), (0, 0), (0, 0), (0, 0), (0, 0), (0, 0), (0, 0), (0, 0), (8, 0), (9, 0), (10, 1), (11, 1)] r_p 8) (bx_val [(0, 0), (0, 0), (0, 0), (0, 0), (0, 0), (0, 0), (0, 0), (0, 0), (8, 0), (9, 0), (10, 1), (11, 1)] r_p 9) (bx_val [(0, 0), (0, 0), (0, 0), (0, 0), (0, 0), (0, 0), (0, 0), (0, 0), (8, 0), (9, 0), (10, 1), (11, 1)] r_p 10) (bx_val [(0, 0), (0, 0), (0, 0), (0, 0), (0, 0), (0, 0), (0, 0), (0, 0), (8, 0), (9, 0), (10, 1), (11, 1)] r_p 11)
    rw [bx_val_x (n := 8) (e := (8, 0)) h0_ rfl, bx_val_x (n := 9) (e := (9, 0)) h0_ rfl, bx_val_x (n := 10) (e := (10, 1)) h0_ rfl, bx_val_x (n := 11) (e := (11, 1)) h0_ rfl]
    exact g.2.2.1
  · show rxmFO_2 S0 ws (bx_up T0 504 (r_p 12) (r_p 13 + 1)) (bx_val [(0, 0), (0, 0), (0, 0), (0, 0), (0, 0), (0, 0), (0, 0), (0, 0), (8, 0), (9, 0), (10, 1), (11, 1)] r_p 8) (bx_val [(0, 0), (0, 0), (0, 0), (0, 0), (0, 0), (0, 0), (0, 0), (0, 0), (8, 0), (9, 0), (10, 1), (11, 1)] r_p 9) (bx_val [(0, 0), (0, 0), (0, 0), (0, 0), (0, 0), (0, 0), (0, 0), (0, 0), (8, 0), (9, 0), (10, 1), (11, 1)] r_p 10) (bx_val [(0, 0), (0, 0), (0, 0), (0, 0), (0, 0), (0, 0), (0, 0), (0, 0), (8, 0), (9, 0), (10, 1), (11, 1)] r_p 11) < rxmFO_3 S0 ws T0 (r 8) (r 9) (r 10) (r 11) (r 12) (r 13)
    rw [bx_val_x (n := 8) (e := (8, 0)) h0_ rfl, bx_val_x (n := 9) (e := (9, 0)) h0_ rfl, bx_val_x (n := 10) (e := (10, 1)) h0_ rfl, bx_val_x (n := 11) (e := (11, 1)) h0_ rfl, ← hr_ 8 (by decide), ← hr_ 9 (by decide), ← hr_ 10 (by decide), ← hr_ 11 (by decide), ← hr_ 12 (by decide), ← hr_ 13 (by decide)]
    exact g.2.2.2
theorem rxgCFO {X : (Nat → Int → Int) → Prop} {S0 : Nat → Int → Int} {ws : List Int} (hP : rxPFO S0 ws) : bx_allI (fun i q => rxUFO q = true ∨ bx_allP (fun o => bx_obC rxL X S0 rxCFO.2.2.1 (rxIFO S0 ws) (rxmFO S0 ws) i q.1 o) q.2.1) 0 rxYFO := ⟨Or.inr ⟨rxgFO_0_0 hP, trivial⟩, Or.inr ⟨rxgFO_1_0 hP, rxgFO_1_1 hP, trivial⟩, Or.inr ⟨rxgFO_2_0 hP, rxgFO_2_1 hP, rxgFO_2_2 hP, rxgFO_2_3 hP, trivial⟩, Or.inr ⟨rxgFO_3_0 hP, trivial⟩, trivial⟩
theorem rxgEFO {X : (Nat → Int → Int) → Prop} {S0 : Nat → Int → Int} {ws : List Int} (hP : rxPFO S0 ws) : bx_allI (fun i q => rxUFO q = true ∨ bx_allP (fun E => bx_obE rxL X S0 rxCFO.2.2.1 (rxIFO S0 ws) (rxPSFO S0 ws) i q.1 E) q.2.2) 0 rxYFO := ⟨Or.inr trivial, Or.inr trivial, Or.inr ⟨rxfFO_2_0 hP, trivial⟩, Or.inr trivial, trivial⟩
theorem rxQFO {PX : State → Prop} {Dg : va_G} {A : Nat → Prop} {ad xa : Nat → Nat} {l : Launch} {X : (Nat → Int → Int) → Prop} (hPX : rx_PXOK rxNW A PX) (hsl : ∀ s : State, PX s → ∀ o idx n : Nat, rxSl o idx = some n → ∃ tx : String, vk_R (rxNm o) idx tx (ad n) s)
    (hX : ∀ S S_p : Nat → Int → Int, X S → bx_same rxL (bx_mdl rxCFO.2.2.1) S S_p → X S_p)
    (ih : ∀ (j2 : Nat) (ct2 : bx_Ct) (M2 : rx_Mt), ct2 ∈ rxCnE j2 → ct2.2.2.2.1 + 1 ≤ rxCFO.2.2.2.1 → rxT.2.2.2.2.2 j2 = some M2 → bx_Con rxG rxNW rxAO PX Dg rxL X vwCl A ad l M2 ct2) : bx_ConP rxG rxNW rxAO PX Dg rxL X vwCl A ad l rxM308 rxCFO rxPFO rxPSFO :=
  rxQof (xa := xa) (Cn := rxCnE) (f := 30000) (j := 308) (tab := rxYFO) (us := rxUFO) hPX hsl hX ih rfl rxYcFO rxIFO rxmFO
    (fun S0 ws r I0 I ht0 ht as he he1 hX0 hI0 hP hs ha => by
      have e := he.symm.trans (show bx_ent0 rxNP rxCFO.1 bx_I0 [] = some ([(0, 0), (0, 0), (0, 0), (0, 0), (0, 0), (0, 0), (0, 0), (0, 0), (0, 5), (0, 35)], [], [.inr (3, (0, 480)), .inr (0, (8, 0)), .inr (0, (9, 0))]) from rfl)
      cases e
      subst ha
      have h0 : r 0 = 0 := hs.1
      show rxIFO_0 S0 _ S0 (r 8) (r 9)
      refine ⟨rfl, ?_⟩
      simp only [List.map_cons, List.map_nil, bx_xv_ok h0]
      rfl)
    (fun S0 ws hP => fun i q hq hus => absurd (show false = true from hus) Bool.false_ne_true) (fun S0 ws hP => rxgCFO hP) (fun S0 ws hP => rxgEFO hP)
end
