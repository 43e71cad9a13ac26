section
noncomputable def rxCPA : bx_Ct := ([(3, (1, 480, 0))], some (0, (0, (-1), 8)), [], 1, [])
noncomputable def rxIPA_0 (S0 : Nat → Int → Int) (ws : List Int) (S : Nat → Int → Int) : Prop := S = S0 ∧ ws = [480]
noncomputable def rxmPA_0 (S0 : Nat → Int → Int) (ws : List Int) (S : Nat → Int → Int) : Nat := 1000
noncomputable def rxzPA_0 : rx_Z := ([(0, 0), (0, 0), (0, 0), (0, 0), (0, 0), (0, 0), (0, 0), (0, 0)], [], [], 0, 0, 0, [(0, .inr (3, (0, 480)))], [])
noncomputable def rxIPA_1 (S0 : Nat → Int → Int) (ws : List Int) (S : Nat → Int → Int) (its k : Int) : Prop := S = S0 ∧ (its ≠ -1 → S 480 11 = 1) ∧ its ≠ 0
noncomputable def rxmPA_1 (S0 : Nat → Int → Int) (ws : List Int) (S : Nat → Int → Int) (its k : Int) : Nat := 10 * (20 - k).toNat
noncomputable def rxzPA_1 : rx_Z := ([(0, 0), (0, 0), (0, 0), (0, 0), (0, 0), (0, 0), (0, 0), (0, 0), ((-1), 8), (0, 8)], [], [], 0, 0, 4, [(0, .inr (3, (0, 480))), (1, .inr (0, (8, 0))), (2, .inr (0, (9, 0)))], [])
noncomputable def rxoPA_0_0 : bx_HO := (([(0, 0), (0, 0), (0, 0), (0, 0), (0, 0), (0, 0), (0, 0), (0, 0)], [], [], 0, 0, 4, [(2, .inr (0, (0, 0))), (1, .inr (0, (0, (-1)))), (0, .inr (3, (0, 480)))], []), [], [], [(0, 0), (0, 0), (0, 0), (0, 0), (0, 0), (0, 0), (0, 0), (0, 0), (0, (-1)), (0, 0)], 1)
noncomputable def rxoPA_1_0 : bx_HO := (([(0, 0), (0, 0), (0, 0), (0, 0), (0, 0), (0, 0), (0, 0), (0, 0), ((-1), 8), (0, 7), (81486, 21643763890), (0, 3)], [(3, (11, 0), (0, 1))], [(((0, 0), 1851192626986356799632114105031551009123054124018230966928539648000000), .inr (0, (11, 0))), (((0, 480), 11), .inr (0, (11, 0))), (((0, 0), 1851192626986356797424367893248739914126558548369245151068094464000000), .inr (1, (10, 0))), (((0, 480), 26), .inr (3, (0, 491)))], 0, 0, 4, [(2, .inr (0, (9, 1))), (1, .inr (0, (8, 0))), (0, .inr (3, (0, 480)))], []), [], [], [(0, 0), (0, 0), (0, 0), (0, 0), (0, 0), (0, 0), (0, 0), (0, 0), (8, 0), (9, 1)], 1)
noncomputable def rxoPA_1_1 : bx_HO := (([(0, 0), (0, 0), (0, 0), (0, 0), (0, 0), (0, 0), (0, 0), (0, 0), ((-1), 8), (0, 7), (81486, 21643763890), (1, 1), ((-9223372036854775808), 9223372036854775807)], [(3, (12, 0), (10, 0))], [(((0, 0), 1851192626986356799832820811818326617396875588472066220482363392000000), .inr (1, (12, 0))), (((0, 480), 12), .inr (1, (12, 0))), (((0, 0), 1851192626986356799632114105031551009123054124018230966928539648000000), .inr (0, (11, 0))), (((0, 480), 11), .inr (0, (11, 0))), (((0, 0), 1851192626986356797424367893248739914126558548369245151068094464000000), .inr (1, (10, 0))), (((0, 480), 26), .inr (3, (0, 491)))], 0, 0, 4, [(2, .inr (0, (9, 1))), (1, .inr (0, (8, 0))), (0, .inr (3, (0, 480)))], []), [], [], [(0, 0), (0, 0), (0, 0), (0, 0), (0, 0), (0, 0), (0, 0), (0, 0), (8, 0), (9, 1)], 1)
noncomputable def rxoPA_1_2 : bx_HO := (([(0, 0), (0, 0), (0, 0), (0, 0), (0, 0), (0, 0), (0, 0), (0, 0), ((-1), 8), (0, 7), (81486, 21643763890), (1, 1), (81486, 21643763890)], [(2, (12, 0), (10, 0))], [(((0, 0), 1851192626986356799832820811818326617396875588472066220482363392000000), .inr (1, (12, 0))), (((0, 480), 12), .inr (1, (12, 0))), (((0, 0), 1851192626986356799632114105031551009123054124018230966928539648000000), .inr (0, (11, 0))), (((0, 480), 11), .inr (0, (11, 0))), (((0, 0), 1851192626986356797424367893248739914126558548369245151068094464000000), .inr (1, (10, 0))), (((0, 480), 26), .inr (3, (0, 491)))], 0, 0, 4, [(2, .inr (0, (9, 1))), (1, .inr (0, (9, 1))), (0, .inr (3, (0, 480)))], []), [], [], [(0, 0), (0, 0), (0, 0), (0, 0), (0, 0), (0, 0), (0, 0), (0, 0), (9, 1), (9, 1)], 1)
noncomputable def rxePA_1_0 : rx_End × List (Nat × Int × Int) := (([(0, 0), (0, 0), (0, 0), (0, 0), (0, 0), (0, 0), (0, 0), (0, 0), ((-1), 8), (8, 8)], [], [], some (.inr (0, (8, 0)))), [])
noncomputable def rxYPA : List bx_HE := [(rxzPA_0, [rxoPA_0_0], []), (rxzPA_1, [rxoPA_1_0, rxoPA_1_1, rxoPA_1_2], [rxePA_1_0])]
noncomputable def rxUPA (q : bx_HE) : Bool := false
noncomputable def rxYBPA : bx_B := (rxV, rxNP, rxDmf, bx_mdH rxCPA.2.2.1)
set_option maxRecDepth 100000 in
theorem rxYcPA : bx_chkH rxYBPA rxM272 rxCPA rxYPA (rxUPA, fun cut z => rx_ex2 (rxCT rxYBPA rxCnE) cut 30000 rxCPA.2.2.2.1 272 z) = true := by decide +kernel
noncomputable def rxIPA (S0 : Nat → Int → Int) (ws : List Int) (i : Nat) : bx_SP := fun S r => match i with | 0 => rxIPA_0 S0 ws S | 1 => rxIPA_1 S0 ws S (r 8) (r 9) | _ => False
noncomputable def rxmPA (S0 : Nat → Int → Int) (ws : List Int) (i : Nat) (S : Nat → Int → Int) (r : Nat → Int) : Nat := match i with | 0 => rxmPA_0 S0 ws S | 1 => rxmPA_1 S0 ws S (r 8) (r 9) | _ => 0
noncomputable def rxPPA (S0 : Nat → Int → Int) (ws : List Int) : Prop := True
noncomputable def rxPSPA (S0 : Nat → Int → Int) (ws : List Int) (S : Nat → Int → Int) (w : Option Int) : Prop := S = S0 ∧ ∃ its : Int, w = some its ∧ its ≠ 0 ∧ (its ≠ -1 → S 480 11 = 1)
theorem rxcPA_0_0 {S0 : Nat → Int → Int} {ws : List Int} {S : Nat → Int → Int} (hP : rxPPA S0 ws) (hin : bx_same rxL (bx_mdl rxCPA.2.2.1) S0 S) (I0 : bx_Inv rxL S) (hinv : rxIPA_0 S0 ws S)  : (True) ∧ (True) ∧ rxIPA_1 S0 ws S ((-1)) 0 ∧ rxmPA_1 S0 ws S ((-1)) 0 < rxmPA_0 S0 ws S := by
  exact ⟨trivial, trivial, ⟨hinv.1, fun q => by omega, by omega⟩, by unfold rxmPA_0 rxmPA_1; omega⟩
theorem rxgPA_0_0 {X : (Nat → Int → Int) → Prop} {S0 : Nat → Int → Int} {ws : List Int} (hP : rxPPA S0 ws) : bx_obC rxL X S0 rxCPA.2.2.1 (rxIPA S0 ws) (rxmPA S0 ws) 0 rxzPA_0 rxoPA_0_0 := by
  intro S S_p r r_p hinv hX hin hsm_ hseg
  obtain ⟨I0, I1, h0_, hr_, b_, f_, d_⟩ := bx_cl (evs := []) (fvs := []) hseg (by decide +kernel) (by decide +kernel)
  have hinv : rxIPA_0 S0 ws S := hinv
  have w_ := d_
  subst w_
  have g := rxcPA_0_0 hP hin I0 hinv 
  refine ⟨bx_narP_ok (l := []) g.1, bx_nfP_ok h0_ (fvs := []) (by decide +kernel) g.2.1, ?_, ?_⟩
  · show rxIPA_1 S0 ws S_p (bx_val [(0, 0), (0, 0), (0, 0), (0, 0), (0, 0), (0, 0), (0, 0), (0, 0), (0, (-1)), (0, 0)] r_p 8) (bx_val [(0, 0), (0, 0), (0, 0), (0, 0), (0, 0), (0, 0), (0, 0), (0, 0), (0, (-1)), (0, 0)] r_p 9)
    rw [bx_val_x (n := 8) (e := (0, (-1))) h0_ rfl, bx_val_x (n := 9) (e := (0, 0)) h0_ rfl]
    exact g.2.2.1
  · show rxmPA_1 S0 ws S_p (bx_val [(0, 0), (0, 0), (0, 0), (0, 0), (0, 0), (0, 0), (0, 0), (0, 0), (0, (-1)), (0, 0)] r_p 8) (bx_val [(0, 0), (0, 0), (0, 0), (0, 0), (0, 0), (0, 0), (0, 0), (0, 0), (0, (-1)), (0, 0)] r_p 9) < rxmPA_0 S0 ws S_p
    rw [bx_val_x (n := 8) (e := (0, (-1))) h0_ rfl, bx_val_x (n := 9) (e := (0, 0)) h0_ rfl]
    exact g.2.2.2
theorem rxcPA_1_0 {S0 : Nat → Int → Int} {ws : List Int} {S : Nat → Int → Int} {its k x10 x11 : Int} (hP : rxPPA S0 ws) (hin : bx_same rxL (bx_mdl rxCPA.2.2.1) S0 S) (I0 : bx_Inv rxL S) (hinv : rxIPA_1 S0 ws S its k) (l8 : (-1) ≤ its) (u8 : its ≤ 8) (l9 : 0 ≤ k) (u9 : k ≤ 7) (l10 : 81486 ≤ x10) (u10 : x10 ≤ 21643763890) (l11 : 0 ≤ x11) (u11 : x11 ≤ 3) (f0 : x11 ≠ 1) (e1 : S 491 k = x10) (e0 : S 480 11 = x11) : (True) ∧ (True) ∧ rxIPA_1 S0 ws S its (k + 1) ∧ rxmPA_1 S0 ws S its (k + 1) < rxmPA_1 S0 ws S its k := by
  obtain ⟨hs, h, h0⟩ := hinv
  exact ⟨trivial, trivial, ⟨hs, fun q => by omega, by omega⟩, by unfold rxmPA_1; omega⟩
theorem rxgPA_1_0 {X : (Nat → Int → Int) → Prop} {S0 : Nat → Int → Int} {ws : List Int} (hP : rxPPA S0 ws) : bx_obC rxL X S0 rxCPA.2.2.1 (rxIPA S0 ws) (rxmPA S0 ws) 1 rxzPA_1 rxoPA_1_0 := by
  intro S S_p r r_p hinv hX hin hsm_ hseg
  obtain ⟨I0, I1, h0_, hr_, b_, f_, d_⟩ := bx_cl (evs := [(0, (0, 480), (0, 11), .inr (0, (11, 0))), (0, (0, 491), (9, 0), .inr (1, (10, 0)))]) (fvs := [(3, (11, 0), (0, 1), (0, 0))]) hseg (by decide +kernel) (by decide +kernel)
  have hinv : rxIPA_1 S0 ws S (r 8) (r 9) := hinv
  rw [← hr_ 8 (by decide), ← hr_ 9 (by decide)] at hinv
  obtain ⟨⟨l8, u8⟩, ⟨l9, u9⟩, ⟨l10, u10⟩, ⟨l11, u11⟩, -⟩ := b_
  obtain ⟨f0, -⟩ := f_
  obtain ⟨e0, ⟨e1, w_⟩⟩ := d_
  subst w_
  have g := rxcPA_1_0 hP hin I0 hinv l8 u8 l9 u9 l10 u10 l11 u11 f0 e1 e0
  refine ⟨bx_narP_ok (l := []) g.1, bx_nfP_ok h0_ (fvs := []) (by decide +kernel) g.2.1, ?_, ?_⟩
  · show rxIPA_1 S0 ws S_p (bx_val [(0, 0), (0, 0), (0, 0), (0, 0), (0, 0), (0, 0), (0, 0), (0, 0), (8, 0), (9, 1)] r_p 8) (bx_val [(0, 0), (0, 0), (0, 0), (0, 0), (0, 0), (0, 0), (0, 0), (0, 0), (8, 0), (9, 1)] r_p 9)
    rw [bx_val_x (n := 8) (e := (8, 0)) h0_ rfl, bx_val_x (n := 9) (e := (9, 1)) h0_ rfl]
    exact g.2.2.1
  · show rxmPA_1 S0 ws S_p (bx_val [(0, 0), (0, 0), (0, 0), (0, 0), (0, 0), (0, 0), (0, 0), (0, 0), (8, 0), (9, 1)] r_p 8) (bx_val [(0, 0), (0, 0), (0, 0), (0, 0), (0, 0), (0, 0), (0, 0), (0, 0), (8, 0), (9, 1)] r_p 9) < rxmPA_1 S0 ws S_p (r 8) (r 9)
    rw [bx_val_x (n := 8) (e := (8, 0)) h0_ rfl, bx_val_x (n := 9) (e := (9, 1)) h0_ rfl, ← hr_ 8 (by decide), ← hr_ 9 (by decide)]
    exact g.2.2.2
theorem rxcPA_1_1 {S0 : Nat → Int → Int} {ws : List Int} {S : Nat → Int → Int} {its k x10 x11 x12 : Int} (hP : rxPPA S0 ws) (hin : bx_same rxL (bx_mdl rxCPA.2.2.1) S0 S) (I0 : bx_Inv rxL S) (hinv : rxIPA_1 S0 ws S its k) (l8 : (-1) ≤ its) (u8 : its ≤ 8) (l9 : 0 ≤ k) (u9 : k ≤ 7) (l10 : 81486 ≤ x10) (u10 : x10 ≤ 21643763890) (l11 : 1 ≤ x11) (u11 : x11 ≤ 1) (l12 : (-9223372036854775808) ≤ x12) (u12 : x12 ≤ 9223372036854775807) (f0 : x12 ≠ x10) (e2 : S 491 k = x10) (e1 : S 480 11 = x11) (e0 : S 480 12 = x12) : (True) ∧ (True) ∧ rxIPA_1 S0 ws S its (k + 1) ∧ rxmPA_1 S0 ws S its (k + 1) < rxmPA_1 S0 ws S its k := by
  obtain ⟨hs, h, h0⟩ := hinv
  exact ⟨trivial, trivial, ⟨hs, fun q => by omega, by omega⟩, by unfold rxmPA_1; omega⟩
theorem rxgPA_1_1 {X : (Nat → Int → Int) → Prop} {S0 : Nat → Int → Int} {ws : List Int} (hP : rxPPA S0 ws) : bx_obC rxL X S0 rxCPA.2.2.1 (rxIPA S0 ws) (rxmPA S0 ws) 1 rxzPA_1 rxoPA_1_1 := by
  intro S S_p r r_p hinv hX hin hsm_ hseg
  obtain ⟨I0, I1, h0_, hr_, b_, f_, d_⟩ := bx_cl (evs := [(0, (0, 480), (0, 12), .inr (1, (12, 0))), (0, (0, 480), (0, 11), .inr (0, (11, 0))), (0, (0, 491), (9, 0), .inr (1, (10, 0)))]) (fvs := [(3, (12, 0), (10, 0), (0, 0))]) hseg (by decide +kernel) (by decide +kernel)
  have hinv : rxIPA_1 S0 ws S (r 8) (r 9) := hinv
  rw [← hr_ 8 (by decide), ← hr_ 9 (by decide)] at hinv
  obtain ⟨⟨l8, u8⟩, ⟨l9, u9⟩, ⟨l10, u10⟩, ⟨l11, u11⟩, ⟨l12, u12⟩, -⟩ := b_
  obtain ⟨f0, -⟩ := f_
  obtain ⟨e0, ⟨e1, ⟨e2, w_⟩⟩⟩ := d_
  subst w_
  have g := rxcPA_1_1 hP hin I0 hinv l8 u8 l9 u9 l10 u10 l11 u11 l12 u12 f0 e2 e1 e0
  refine ⟨bx_narP_ok (l := []) g.1, bx_nfP_ok h0_ (fvs := []) (by decide +kernel) g.2.1, ?_, ?_⟩
  · show rxIPA_1 S0 ws S_p (bx_val [(0, 0), (0, 0), (0, 0), (0, 0), (0, 0), (0, 0), (0, 0), (0, 0), (8, 0), (9, 1)] r_p 8) (bx_val [(0, 0), (0, 0), (0, 0), (0, 0), (0, 0), (0, 0), (0, 0), (0, 0), (8, 0), (9, 1)] r_p 9)
    rw [bx_val_x (n := 8) (e := (8, 0)) h0_ rfl, bx_val_x (n := 9) (e := (9, 1)) h0_ rfl]
    exact g.2.2.1
  · show rxmPA_1 S0 ws S_p (bx_val [(0, 0), (0, 0), (0, 0), (0, 0), (0, 0), (0, 0), (0, 0), (0, 0), (8, 0), (9, 1)] r_p 8) (bx_val [(0, 0), (0, 0), (0, 0), (0, 0), (0, 0), (0, 0), (0, 0), (0, 0), (8, 0), (9, 1)] r_p 9) < rxmPA_1 S0 ws S_p (r 8) (r 9)
    rw [bx_val_x (n := 8) (e := (8, 0)) h0_ rfl, bx_val_x (n := 9) (e := (9, 1)) h0_ rfl, ← hr_ 8 (by decide), ← hr_ 9 (by decide)]
    exact g.2.2.2
theorem rxcPA_1_2 {S0 : Nat → Int → Int} {ws : List Int} {S : Nat → Int → Int} {its k x10 x11 x12 : Int} (hP : rxPPA S0 ws) (hin : bx_same rxL (bx_mdl rxCPA.2.2.1) S0 S) (I0 : bx_Inv rxL S) (hinv : rxIPA_1 S0 ws S its k) (l8 : (-1) ≤ its) (u8 : its ≤ 8) (l9 : 0 ≤ k) (u9 : k ≤ 7) (l10 : 81486 ≤ x10) (u10 : x10 ≤ 21643763890) (l11 : 1 ≤ x11) (u11 : x11 ≤ 1) (l12 : 81486 ≤ x12) (u12 : x12 ≤ 21643763890) (f0 : x12 = x10) (e2 : S 491 k = x10) (e1 : S 480 11 = x11) (e0 : S 480 12 = x12) : (True) ∧ (True) ∧ rxIPA_1 S0 ws S (k + 1) (k + 1) ∧ rxmPA_1 S0 ws S (k + 1) (k + 1) < rxmPA_1 S0 ws S its k := by
  obtain ⟨hs, h, h0⟩ := hinv
  exact ⟨trivial, trivial, ⟨hs, fun q => by omega, by omega⟩, by unfold rxmPA_1; omega⟩
theorem rxgPA_1_2 {X : (Nat → Int → Int) → Prop} {S0 : Nat → Int → Int} {ws : List Int} (hP : rxPPA S0 ws) : bx_obC rxL X S0 rxCPA.2.2.1 (rxIPA S0 ws) (rxmPA S0 ws) 1 rxzPA_1 rxoPA_1_2 := by
  intro S S_p r r_p hinv hX hin hsm_ hseg
  obtain ⟨I0, I1, h0_, hr_, b_, f_, d_⟩ := bx_cl (evs := [(0, (0, 480), (0, 12), .inr (1, (12, 0))), (0, (0, 480), (0, 11), .inr (0, (11, 0))), (0, (0, 491), (9, 0), .inr (1, (10, 0)))]) (fvs := [(2, (12, 0), (10, 0), (0, 0))]) hseg (by decide +kernel) (by decide +kernel)
  have hinv : rxIPA_1 S0 ws S (r 8) (r 9) := hinv
  rw [← hr_ 8 (by decide), ← hr_ 9 (by decide)] at hinv
  obtain ⟨⟨l8, u8⟩, ⟨l9, u9⟩, ⟨l10, u10⟩, ⟨l11, u11⟩, ⟨l12, u12⟩, -⟩ := b_
  obtain ⟨f0, -⟩ := f_
  obtain ⟨e0, ⟨e1, ⟨e2, w_⟩⟩⟩ := d_
  subst w_
  have g := rxcPA_1_2 hP hin I0 hinv l8 u8 l9 u9 l10 u10 l11 u11 l12 u12 f0 e2 e1 e0
  refine ⟨bx_narP_ok (l := []) g.1, bx_nfP_ok h0_ (fvs := []) (by decide +kernel) g.2.1, ?_, ?_⟩
  · show rxIPA_1 S0 ws S_p (bx_val [(0, 0), (0, 0), (0, 0), (0, 0), (0, 0), (0, 0), (0, 0), (0, 0), (9, 1), (9, 1)] r_p 8) (bx_val [(0, 0), (0, 0), (0, 0), (0, 0), (0, 0), (0, 0), (0, 0), (0, 0), (9, 1), (9, 1)] r_p 9)
    rw [bx_val_x (n := 8) (e := (9, 1)) h0_ rfl, bx_val_x (n := 9) (e := (9, 1)) h0_ rfl]
    exact g.2.2.1
  · show rxmPA_1 S0 ws S_p (bx_val [(0, 0), (0, 0), (0, 0), (0, 0), (0, 0), (0, 0), (0, 0), (0, 0), (9, 1), (9, 1)] r_p 8) (bx_val [(0, 0), (0, 0), (0, 0), (0, 0), (0, 0), (0, 0), (0, 0), (0, 0), (9, 1), (9, 1)] r_p 9) < rxmPA_1 S0 ws S_p (r 8) (r 9)
    rw [bx_val_x (n := 8) (e := (9, 1)) h0_ rfl, bx_val_x (n := 9) (e := (9, 1)) h0_ rfl, ← hr_ 8 (by decide), ← hr_ 9 (by decide)]
    exact g.2.2.2
theorem rxdPA_1_0 {S0 : Nat → Int → Int} {ws : List Int} {S : Nat → Int → Int} {its k : Int} (hP : rxPPA S0 ws) (hin : bx_same rxL (bx_mdl rxCPA.2.2.1) S0 S) (hin2 : bx_same rxL (bx_mdl rxCPA.2.2.1) S S) (I0 : bx_Inv rxL S) (I1 : bx_Inv rxL S) (hinv : rxIPA_1 S0 ws S its k) (l8 : (-1) ≤ its) (u8 : its ≤ 8) (l9 : 8 ≤ k) (u9 : k ≤ 8) : (True) ∧ rxPSPA S0 ws S (some its) := by
  obtain ⟨hs, h, h0⟩ := hinv
  exact ⟨trivial, hs, its, rfl, h0, h⟩
theorem rxfPA_1_0 {X : (Nat → Int → Int) → Prop} {S0 : Nat → Int → Int} {ws : List Int} (hP : rxPPA S0 ws) : bx_obE rxL X S0 rxCPA.2.2.1 (rxIPA S0 ws) (rxPSPA S0 ws) 1 rxzPA_1 rxePA_1_0 := by
  intro S S_p r r_p hinv hX hin hsm_ hseg
  obtain ⟨I0, I1, h0_, hr_, b_, f_, d_⟩ := bx_cl (evs := []) (fvs := []) hseg (by decide +kernel) (by decide +kernel)
  have hinv : rxIPA_1 S0 ws S (r 8) (r 9) := hinv
  rw [← hr_ 8 (by decide), ← hr_ 9 (by decide)] at hinv
  obtain ⟨⟨l8, u8⟩, ⟨l9, u9⟩, -⟩ := b_
  have w_ := d_
  subst w_
  have g := rxdPA_1_0 hP hin hsm_ I0 I1 hinv l8 u8 l9 u9
  refine ⟨bx_narP_ok (l := []) g.1, ?_⟩
  show rxPSPA S0 ws S_p (some (bx_num r_p (.inr (0, (8, 0)))))
  rw [bx_xv_ok h0_]
  exact g.2
theorem rxgCPA {X : (Nat → Int → Int) → Prop} {S0 : Nat → Int → Int} {ws : List Int} (hP : rxPPA S0 ws) : bx_allI (fun i q => rxUPA q = true ∨ bx_allP (fun o => bx_obC rxL X S0 rxCPA.2.2.1 (rxIPA S0 ws) (rxmPA S0 ws) i q.1 o) q.2.1) 0 rxYPA := ⟨Or.inr ⟨rxgPA_0_0 hP, trivial⟩, Or.inr ⟨rxgPA_1_0 hP, rxgPA_1_1 hP, rxgPA_1_2 hP, trivial⟩, trivial⟩
theorem rxgEPA {X : (Nat → Int → Int) → Prop} {S0 : Nat → Int → Int} {ws : List Int} (hP : rxPPA S0 ws) : bx_allI (fun i q => rxUPA q = true ∨ bx_allP (fun E => bx_obE rxL X S0 rxCPA.2.2.1 (rxIPA S0 ws) (rxPSPA S0 ws) i q.1 E) q.2.2) 0 rxYPA := ⟨Or.inr trivial, Or.inr ⟨rxfPA_1_0 hP, trivial⟩, trivial⟩
theorem rxQPA {PX : State → Prop} {Dg : va_G} {A : Nat → Prop} {ad xa : Nat → Nat} {l : Launch} {X : (Nat → Int → Int) → Prop} (hPX : rx_PXOK rxNW A PX) (hsl : ∀ s : State, PX s → ∀ o idx n : Nat, rxSl o idx = some n → ∃ tx : String, vk_R (rxNm o) idx tx (ad n) s)
    (hX : ∀ S S_p : Nat → Int → Int, X S → bx_same rxL (bx_mdl rxCPA.2.2.1) S S_p → X S_p)
    (ih : ∀ (j2 : Nat) (ct2 : bx_Ct) (M2 : rx_Mt), ct2 ∈ rxCnE j2 → ct2.2.2.2.1 + 1 ≤ rxCPA.2.2.2.1 → rxT.2.2.2.2.2 j2 = some M2 → bx_Con rxG rxNW rxAO PX Dg rxL X vwCl A ad l M2 ct2) : bx_ConP rxG rxNW rxAO PX Dg rxL X vwCl A ad l rxM272 rxCPA rxPPA rxPSPA :=
  rxQof (xa := xa) (Cn := rxCnE) (f := 30000) (j := 272) (tab := rxYPA) (us := rxUPA) hPX hsl hX ih rfl rxYcPA rxIPA rxmPA
    (fun S0 ws r I0 I ht0 ht as he he1 hX0 hI0 hP hs ha => by
      have e := he.symm.trans (show bx_ent0 rxNP rxCPA.1 bx_I0 [] = some ([(0, 0), (0, 0), (0, 0), (0, 0), (0, 0), (0, 0), (0, 0), (0, 0)], [], [.inr (3, (0, 480))]) from rfl)
      cases e
      subst ha
      have h0 : r 0 = 0 := hs.1
      show rxIPA_0 S0 _ S0
      refine ⟨rfl, ?_⟩
      simp only [List.map_cons, List.map_nil, bx_xv_ok h0]
      rfl)
    (fun S0 ws hP => fun i q hq hus => absurd (show false = true from hus) Bool.false_ne_true) (fun S0 ws hP => rxgCPA hP) (fun S0 ws hP => rxgEPA hP)
end
section
noncomputable def rxCPP : bx_Ct := ([(3, (1, 480, 0))], some (0, (0, (-1), 8)), [], 1, [])
noncomputable def rxIPP_0 (S0 : Nat → Int → Int) (ws : List Int) (S : Nat → Int → Int) : Prop := S = S0 ∧ ws = [480]
noncomputable def rxmPP_0 (S0 : Nat → Int → Int) (ws : List Int) (S : Nat → Int → Int) : Nat := 1000
noncomputable def rxzPP_0 : rx_Z := ([(0, 0), (0, 0), (0, 0), (0, 0), (0, 0), (0, 0), (0, 0), (0, 0)], [], [], 0, 0, 0, [(0, .inr (3, (0, 480)))], [])
noncomputable def rxIPP_1 (S0 : Nat → Int → Int) (ws : List Int) (S : Nat → Int → Int) (its k : Int) : Prop := S = S0 ∧ (its ≠ -1 → S 480 11 = 1) ∧ its ≠ 0
noncomputable def rxmPP_1 (S0 : Nat → Int → Int) (ws : List Int) (S : Nat → Int → Int) (its k : Int) : Nat := 10 * (20 - k).toNat
noncomputable def rxzPP_1 : rx_Z := ([(0, 0), (0, 0), (0, 0), (0, 0), (0, 0), (0, 0), (0, 0), (0, 0), ((-1), 8), (0, 6)], [], [], 0, 0, 4, [(0, .inr (3, (0, 480))), (1, .inr (0, (8, 0))), (2, .inr (0, (9, 0)))], [])
noncomputable def rxoPP_0_0 : bx_HO := (([(0, 0), (0, 0), (0, 0), (0, 0), (0, 0), (0, 0), (0, 0), (0, 0)], [], [], 0, 0, 4, [(2, .inr (0, (0, 0))), (1, .inr (0, (0, (-1)))), (0, .inr (3, (0, 480)))], []), [], [], [(0, 0), (0, 0), (0, 0), (0, 0), (0, 0), (0, 0), (0, 0), (0, 0), (0, (-1)), (0, 0)], 1)
noncomputable def rxoPP_1_0 : bx_HO := (([(0, 0), (0, 0), (0, 0), (0, 0), (0, 0), (0, 0), (0, 0), (0, 0), ((-1), 8), (0, 5), (3749, 20579973), (0, 3)], [(3, (11, 0), (0, 1))], [(((0, 0), 1851192626986356799632114105031551009123054124018230966928539648000000), .inr (0, (11, 0))), (((0, 480), 11), .inr (0, (11, 0))), (((0, 0), 1851192626986356797424367893248739914126558548369245151068684288000000), .inr (1, (10, 0))), (((0, 480), 27), .inr (3, (0, 492)))], 0, 0, 4, [(2, .inr (0, (9, 1))), (1, .inr (0, (8, 0))), (0, .inr (3, (0, 480)))], []), [], [], [(0, 0), (0, 0), (0, 0), (0, 0), (0, 0), (0, 0), (0, 0), (0, 0), (8, 0), (9, 1)], 1)
noncomputable def rxoPP_1_1 : bx_HO := (([(0, 0), (0, 0), (0, 0), (0, 0), (0, 0), (0, 0), (0, 0), (0, 0), ((-1), 8), (0, 5), (3749, 20579973), (1, 1), ((-9223372036854775808), 9223372036854775807)], [(3, (12, 0), (10, 0))], [(((0, 0), 1851192626986356799832820811818326617396875588472066220482363392000000), .inr (1, (12, 0))), (((0, 480), 12), .inr (1, (12, 0))), (((0, 0), 1851192626986356799632114105031551009123054124018230966928539648000000), .inr (0, (11, 0))), (((0, 480), 11), .inr (0, (11, 0))), (((0, 0), 1851192626986356797424367893248739914126558548369245151068684288000000), .inr (1, (10, 0))), (((0, 480), 27), .inr (3, (0, 492)))], 0, 0, 4, [(2, .inr (0, (9, 1))), (1, .inr (0, (8, 0))), (0, .inr (3, (0, 480)))], []), [], [], [(0, 0), (0, 0), (0, 0), (0, 0), (0, 0), (0, 0), (0, 0), (0, 0), (8, 0), (9, 1)], 1)
noncomputable def rxoPP_1_2 : bx_HO := (([(0, 0), (0, 0), (0, 0), (0, 0), (0, 0), (0, 0), (0, 0), (0, 0), ((-1), 8), (0, 5), (3749, 20579973), (1, 1), (3749, 20579973)], [(2, (12, 0), (10, 0))], [(((0, 0), 1851192626986356799832820811818326617396875588472066220482363392000000), .inr (1, (12, 0))), (((0, 480), 12), .inr (1, (12, 0))), (((0, 0), 1851192626986356799632114105031551009123054124018230966928539648000000), .inr (0, (11, 0))), (((0, 480), 11), .inr (0, (11, 0))), (((0, 0), 1851192626986356797424367893248739914126558548369245151068684288000000), .inr (1, (10, 0))), (((0, 480), 27), .inr (3, (0, 492)))], 0, 0, 4, [(2, .inr (0, (9, 1))), (1, .inr (0, (9, 1))), (0, .inr (3, (0, 480)))], []), [], [], [(0, 0), (0, 0), (0, 0), (0, 0), (0, 0), (0, 0), (0, 0), (0, 0), (9, 1), (9, 1)], 1)
noncomputable def rxePP_1_0 : rx_End × List (Nat × Int × Int) := (([(0, 0), (0, 0), (0, 0), (0, 0), (0, 0), (0, 0), (0, 0), (0, 0), ((-1), 8), (6, 6)], [], [], some (.inr (0, (8, 0)))), [])
noncomputable def rxYPP : List bx_HE := [(rxzPP_0, [rxoPP_0_0], []), (rxzPP_1, [rxoPP_1_0, rxoPP_1_1, rxoPP_1_2], [rxePP_1_0])]
noncomputable def rxUPP (q : bx_HE) : Bool := false
noncomputable def rxYBPP : bx_B := (rxV, rxNP, rxDmf, bx_mdH rxCPP.2.2.1)
set_option maxRecDepth 100000 in
theorem rxYcPP : bx_chkH rxYBPP rxM271 rxCPP rxYPP (rxUPP, fun cut z => rx_ex2 (rxCT rxYBPP rxCnE) cut 30000 rxCPP.2.2.2.1 271 z) = true := by decide +kernel
noncomputable def rxIPP (S0 : Nat → Int → Int) (ws : List Int) (i : Nat) : bx_SP := fun S r => match i with | 0 => rxIPP_0 S0 ws S | 1 => rxIPP_1 S0 ws S (r 8) (r 9) | _ => False
noncomputable def rxmPP (S0 : Nat → Int → Int) (ws : List Int) (i : Nat) (S : Nat → Int → Int) (r : Nat → Int) : Nat := match i with | 0 => rxmPP_0 S0 ws S | 1 => rxmPP_1 S0 ws S (r 8) (r 9) | _ => 0
noncomputable def rxPPP (S0 : Nat → Int → Int) (ws : List Int) : Prop := True
noncomputable def rxPSPP (S0 : Nat → Int → Int) (ws : List Int) (S : Nat → Int → Int) (w : Option Int) : Prop := S = S0 ∧ ∃ its : Int, w = some its ∧ its ≠ 0 ∧ (its ≠ -1 → S 480 11 = 1)
theorem rxcPP_0_0 {S0 : Nat → Int → Int} {ws : List Int} {S : Nat → Int → Int} (hP : rxPPP S0 ws) (hin : bx_same rxL (bx_mdl rxCPP.2.2.1) S0 S) (I0 : bx_Inv rxL S) (hinv : rxIPP_0 S0 ws S)  : (True) ∧ (True) ∧ rxIPP_1 S0 ws S ((-1)) 0 ∧ rxmPP_1 S0 ws S ((-1)) 0 < rxmPP_0 S0 ws S := by
  exact ⟨trivial, trivial, ⟨hinv.1, fun q => by omega, by omega⟩, by unfold rxmPP_0 rxmPP_1; omega⟩
theorem rxgPP_0_0 {X : (Nat → Int → Int) → Prop} {S0 : Nat → Int → Int} {ws : List Int} (hP : rxPPP S0 ws) : bx_obC rxL X S0 rxCPP.2.2.1 (rxIPP S0 ws) (rxmPP S0 ws) 0 rxzPP_0 rxoPP_0_0 := by
  intro S S_p r r_p hinv hX hin hsm_ hseg
  obtain ⟨I0, I1, h0_, hr_, b_, f_, d_⟩ := bx_cl (evs := []) (fvs := []) hseg (by decide +kernel) (by decide +kernel)
  have hinv : rxIPP_0 S0 ws S := hinv
  have w_ := d_
  subst w_
  have g := rxcPP_0_0 hP hin I0 hinv 
  refine ⟨bx_narP_ok (l := []) g.1, bx_nfP_ok h0_ (fvs := []) (by decide +kernel) g.2.1, ?_, ?_⟩
  · show rxIPP_1 S0 ws S_p (bx_val [(0, 0), (0, 0), (0, 0), (0, 0), (0, 0), (0, 0), (0, 0), (0, 0), (0, (-1)), (0, 0)] r_p 8) (bx_val [(0, 0), (0, 0), (0, 0), (0, 0), (0, 0), (0, 0), (0, 0), (0, 0), (0, (-1)), (0, 0)] r_p 9)
    rw [bx_val_x (n := 8) (e := (0, (-1))) h0_ rfl, bx_val_x (n := 9) (e := (0, 0)) h0_ rfl]
    exact g.2.2.1
  · show rxmPP_1 S0 ws S_p (bx_val [(0, 0), (0, 0), (0, 0), (0, 0), (0, 0), (0, 0), (0, 0), (0, 0), (0, (-1)), (0, 0)] r_p 8) (bx_val [(0, 0), (0, 0), (0, 0), (0, 0), (0, 0), (0, 0), (0, 0), (0, 0), (0, (-1)), (0, 0)] r_p 9) < rxmPP_0 S0 ws S_p
    rw [bx_val_x (n := 8) (e := (0, (-1))) h0_ rfl, bx_val_x (n := 9) (e := (0, 0)) h0_ rfl]
    exact g.2.2.2
theorem rxcPP_1_0 {S0 : Nat → Int → Int} {ws : List Int} {S : Nat → Int → Int} {its k x10 x11 : Int} (hP : rxPPP S0 ws) (hin : bx_same rxL (bx_mdl rxCPP.2.2.1) S0 S) (I0 : bx_Inv rxL S) (hinv : rxIPP_1 S0 ws S its k) (l8 : (-1) ≤ its) (u8 : its ≤ 8) (l9 : 0 ≤ k) (u9 : k ≤ 5) (l10 : 3749 ≤ x10) (u10 : x10 ≤ 20579973) (l11 : 0 ≤ x11) (u11 : x11 ≤ 3) (f0 : x11 ≠ 1) (e1 : S 492 k = x10) (e0 : S 480 11 = x11) : (True) ∧ (True) ∧ rxIPP_1 S0 ws S its (k + 1) ∧ rxmPP_1 S0 ws S its (k + 1) < rxmPP_1 S0 ws S its k := by
  obtain ⟨hs, h, h0⟩ := hinv
  exact ⟨trivial, trivial, ⟨hs, fun q => by omega, by omega⟩, by unfold rxmPP_1; omega⟩
theorem rxgPP_1_0 {X : (Nat → Int → Int) → Prop} {S0 : Nat → Int → Int} {ws : List Int} (hP : rxPPP S0 ws) : bx_obC rxL X S0 rxCPP.2.2.1 (rxIPP S0 ws) (rxmPP S0 ws) 1 rxzPP_1 rxoPP_1_0 := by
  intro S S_p r r_p hinv hX hin hsm_ hseg
  obtain ⟨I0, I1, h0_, hr_, b_, f_, d_⟩ := bx_cl (evs := [(0, (0, 480), (0, 11), .inr (0, (11, 0))), (0, (0, 492), (9, 0), .inr (1, (10, 0)))]) (fvs := [(3, (11, 0), (0, 1), (0, 0))]) hseg (by decide +kernel) (by decide +kernel)
  have hinv : rxIPP_1 S0 ws S (r 8) (r 9) := hinv
  rw [← hr_ 8 (by decide), ← hr_ 9 (by decide)] at hinv
  obtain ⟨⟨l8, u8⟩, ⟨l9, u9⟩, ⟨l10, u10⟩, ⟨l11, u11⟩, -⟩ := b_
  obtain ⟨f0, -⟩ := f_
  obtain ⟨e0, ⟨e1, w_⟩⟩ := d_
  subst w_
  have g := rxcPP_1_0 hP hin I0 hinv l8 u8 l9 u9 l10 u10 l11 u11 f0 e1 e0
  refine ⟨bx_narP_ok (l := []) g.1, bx_nfP_ok h0_ (fvs := []) (by decide +kernel) g.2.1, ?_, ?_⟩
  · show rxIPP_1 S0 ws S_p (bx_val [(0, 0), (0, 0), (0, 0), (0, 0), (0, 0), (0, 0), (0, 0), (0, 0), (8, 0), (9, 1)] r_p 8) (bx_val [(0, 0), (0, 0), (0, 0), (0, 0), (0, 0), (0, 0), (0, 0), (0, 0), (8, 0), (9, 1)] r_p 9)
    rw [bx_val_x (n := 8) (e := (8, 0)) h0_ rfl, bx_val_x (n := 9) (e := (9, 1)) h0_ rfl]
    exact g.2.2.1
  · show rxmPP_1 S0 ws S_p (bx_val [(0, 0), (0, 0), (0, 0), (0, 0), (0, 0), (0, 0), (0, 0), (0, 0), (8, 0), (9, 1)] r_p 8) (bx_val [(0, 0), (0, 0), (0, 0), (0, 0), (0, 0), (0, 0), (0, 0), (0, 0), (8, 0), (9, 1)] r_p 9) < rxmPP_1 S0 ws S_p (r 8) (r 9)
    rw [bx_val_x (n := 8) (e := (8, 0)) h0_ rfl, bx_val_x (n := 9) (e := (9, 1)) h0_ rfl, ← hr_ 8 (by decide), ← hr_ 9 (by decide)]
    exact g.2.2.2
theorem rxcPP_1_1 {S0 : Nat → Int → Int} {ws : List Int} {S : Nat → Int → Int} {its k x10 x11 x12 : Int} (hP : rxPPP S0 ws) (hin : bx_same rxL (bx_mdl rxCPP.2.2.1) S0 S) (I0 : bx_Inv rxL S) (hinv : rxIPP_1 S0 ws S its k) (l8 : (-1) ≤ its) (u8 : its ≤ 8) (l9 : 0 ≤ k) (u9 : k ≤ 5) (l10 : 3749 ≤ x10) (u10 : x10 ≤ 20579973) (l11 : 1 ≤ x11) (u11 : x11 ≤ 1) (l12 : (-9223372036854775808) ≤ x12) (u12 : x12 ≤ 9223372036854775807) (f0 : x12 ≠ x10) (e2 : S 492 k = x10) (e1 : S 480 11 = x11) (e0 : S 480 12 = x12) : (True) ∧ (True) ∧ rxIPP_1 S0 ws S its (k + 1) ∧ rxmPP_1 S0 ws S its (k + 1) < rxmPP_1 S0 ws S its k := by
  obtain ⟨hs, h, h0⟩ := hinv
  exact ⟨trivial, trivial, ⟨hs, fun q => by omega, by omega⟩, by unfold rxmPP_1; omega⟩
theorem rxgPP_1_1 {X : (Nat → Int → Int) → Prop} {S0 : Nat → Int → Int} {ws : List Int} (hP : rxPPP S0 ws) : bx_obC rxL X S0 rxCPP.2.2.1 (rxIPP S0 ws) (rxmPP S0 ws) 1 rxzPP_1 rxoPP_1_1 := by
  intro S S_p r r_p hinv hX hin hsm_ hseg
  obtain ⟨I0, I1, h0_, hr_, b_, f_, d_⟩ := bx_cl (evs := [(0, (0, 480), (0, 12), .inr (1, (12, 0))), (0, (0, 480), (0, 11), .inr (0, (11, 0))), (0, (0, 492), (9, 0), .inr (1, (10, 0)))]) (fvs := [(3, (12, 0), (10, 0), (0, 0))]) hseg (by decide +kernel) (by decide +kernel)
  have hinv : rxIPP_1 S0 ws S (r 8) (r 9) := hinv
  rw [← hr_ 8 (by decide), ← hr_ 9 (by decide)] at hinv
  obtain ⟨⟨l8, u8⟩, ⟨l9, u9⟩, ⟨l10, u10⟩, ⟨l11, u11⟩, ⟨l12, u12⟩, -⟩ := b_
  obtain ⟨f0, -⟩ := f_
  obtain ⟨e0, ⟨e1, ⟨e2, w_⟩⟩⟩ := d_
  subst w_
  have g := rxcPP_1_1 hP hin I0 hinv l8 u8 l9 u9 l10 u10 l11 u11 l12 u12 f0 e2 e1 e0
  refine ⟨bx_narP_ok (l := []) g.1, bx_nfP_ok h0_ (fvs := []) (by decide +kernel) g.2.1, ?_, ?_⟩
  · show rxIPP_1 S0 ws S_p (bx_val [(0, 0), (0, 0), (0, 0), (0, 0), (0, 0), (0, 0), (0, 0), (0, 0), (8, 0), (9, 1)] r_p 8) (bx_val [(0, 0), (0, 0), (0, 0), (0, 0), (0, 0), (0, 0), (0, 0), (0, 0), (8, 0), (9, 1)] r_p 9)
    rw [bx_val_x (n := 8) (e := (8, 0)) h0_ rfl, bx_val_x (n := 9) (e := (9, 1)) h0_ rfl]
    exact g.2.2.1
  · show rxmPP_1 S0 ws S_p (bx_val [(0, 0), (0, 0), (0, 0), (0, 0), (0, 0), (0, 0), (0, 0), (0, 0), (8, 0), (9, 1)] r_p 8) (bx_val [(0, 0), (0, 0), (0, 0), (0, 0), (0, 0), (0, 0), (0, 0), (0, 0), (8, 0), (9, 1)] r_p 9) < rxmPP_1 S0 ws S_p (r 8) (r 9)
    rw [bx_val_x (n := 8) (e := (8, 0)) h0_ rfl, bx_val_x (n := 9) (e := (9, 1)) h0_ rfl, ← hr_ 8 (by decide), ← hr_ 9 (by decide)]
    exact g.2.2.2
theorem rxcPP_1_2 {S0 : Nat → Int → Int} {ws : List Int} {S : Nat → Int → Int} {its k x10 x11 x12 : Int} (hP : rxPPP S0 ws) (hin : bx_same rxL (bx_mdl rxCPP.2.2.1) S0 S) (I0 : bx_Inv rxL S) (hinv : rxIPP_1 S0 ws S its k) (l8 : (-1) ≤ its) (u8 : its ≤ 8) (l9 : 0 ≤ k) (u9 : k ≤ 5) (l10 : 3749 ≤ x10) (u10 : x10 ≤ 20579973) (l11 : 1 ≤ x11) (u11 : x11 ≤ 1) (l12 : 3749 ≤ x12) (u12 : x12 ≤ 20579973) (f0 : x12 = x10) (e2 : S 492 k = x10) (e1 : S 480 11 = x11) (e0 : S 480 12 = x12) : (True) ∧ (True) ∧ rxIPP_1 S0 ws S (k + 1) (k + 1) ∧ rxmPP_1 S0 ws S (k + 1) (k + 1) < rxmPP_1 S0 ws S its k := by
  obtain ⟨hs, h, h0⟩ := hinv
  exact ⟨trivial, trivial, ⟨hs, fun q => by omega, by omega⟩, by unfold rxmPP_1; omega⟩
theorem rxgPP_1_2 {X : (Nat → Int → Int) → Prop} {S0 : Nat → Int → Int} {ws : List Int} (hP : rxPPP S0 ws) : bx_obC rxL X S0 rxCPP.2.2.1 (rxIPP S0 ws) (rxmPP S0 ws) 1 rxzPP_1 rxoPP_1_2 := by
  intro S S_p r r_p hinv hX hin hsm_ hseg
  obtain ⟨I0, I1, h0_, hr_, b_, f_, d_⟩ := bx_cl (evs := [(0, (0, 480), (0, 12), .inr (1, (12, 0))), (0, (0, 480), (0, 11), .inr (0, (11, 0))), (0, (0, 492), (9, 0), .inr (1, (10, 0)))]) (fvs := [(2, (12, 0), (10, 0), (0, 0))]) hseg (by decide +kernel) (by decide +kernel)
  have hinv : rxIPP_1 S0 ws S (r 8) (r 9) := hinv
  rw [← hr_ 8 (by decide), ← hr_ 9 (by decide)] at hinv
  obtain ⟨⟨l8, u8⟩, ⟨l9, u9⟩, ⟨l10, u10⟩, ⟨l11, u11⟩, ⟨l12, u12⟩, -⟩ := b_
  obtain ⟨f0, -⟩ := f_
  obtain ⟨e0, ⟨e1, ⟨e2, w_⟩⟩⟩ := d_
  subst w_
  have g := rxcPP_1_2 hP hin I0 hinv l8 u8 l9 u9 l10 u10 l11 u11 l12 u12 f0 e2 e1 e0
  refine ⟨bx_narP_ok (l := []) g.1, bx_nfP_ok h0_ (fvs := []) (by decide +kernel) g.2.1, ?_, ?_⟩
  · show rxIPP_1 S0 ws S_p (bx_val [(0, 0), (0, 0), (0, 0), (0, 0), (0, 0), (0, 0), (0, 0), (0, 0), (9, 1), (9, 1)] r_p 8) (bx_val [(0, 0), (0, 0), (0, 0), (0, 0), (0, 0), (0, 0), (0, 0), (0, 0), (9, 1), (9, 1)] r_p 9)
    rw [bx_val_x (n := 8) (e := (9, 1)) h0_ rfl, bx_val_x (n := 9) (e := (9, 1)) h0_ rfl]
    exact g.2.2.1
  · show rxmPP_1 S0 ws S_p (bx_val [(0, 0), (0, 0), (0, 0), (0, 0), (0, 0), (0, 0), (0, 0), (0, 0), (9, 1), (9, 1)] r_p 8) (bx_val [(0, 0), (0, 0), (0, 0), (0, 0), (0, 0), (0, 0), (0, 0), (0, 0), (9, 1), (9, 1)] r_p 9) < rxmPP_1 S0 ws S_p (r 8) (r 9)
    rw [bx_val_x (n := 8) (e := (9, 1)) h0_ rfl, bx_val_x (n := 9) (e := (9, 1)) h0_ rfl, ← hr_ 8 (by decide), ← hr_ 9 (by decide)]
    exact g.2.2.2
theorem rxdPP_1_0 {S0 : Nat → Int → Int} {ws : List Int} {S : Nat → Int → Int} {its k : Int} (hP : rxPPP S0 ws) (hin : bx_same rxL (bx_mdl rxCPP.2.2.1) S0 S) (hin2 : bx_same rxL (bx_mdl rxCPP.2.2.1) S S) (I0 : bx_Inv rxL S) (I1 : bx_Inv rxL S) (hinv : rxIPP_1 S0 ws S its k) (l8 : (-1) ≤ its) (u8 : its ≤ 8) (l9 : 6 ≤ k) (u9 : k ≤ 6) : (True) ∧ rxPSPP S0 ws S (some its) := by
  obtain ⟨hs, h, h0⟩ := hinv
  exact ⟨trivial, hs, its, rfl, h0, h⟩
theorem rxfPP_1_0 {X : (Nat → Int → Int) → Prop} {S0 : Nat → Int → Int} {ws : List Int} (hP : rxPPP S0 ws) : bx_obE rxL X S0 rxCPP.2.2.1 (rxIPP S0 ws) (rxPSPP S0 ws) 1 rxzPP_1 rxePP_1_0 := by
  intro S S_p r r_p hinv hX hin hsm_ hseg
  obtain ⟨I0, I1, h0_, hr_, b_, f_, d_⟩ := bx_cl (evs := []) (fvs := []) hseg (by decide +kernel) (by decide +kernel)
  have hinv : rxIPP_1 S0 ws S (r 8) (r 9) := hinv
  rw [← hr_ 8 (by decide), ← hr_ 9 (by decide)] at hinv
  obtain ⟨⟨l8, u8⟩, ⟨l9, u9⟩, -⟩ := b_
  have w_ := d_
  subst w_
  have g := rxdPP_1_0 hP hin hsm_ I0 I1 hinv l8 u8 l9 u9
  refine ⟨bx_narP_ok (l := []) g.1, ?_⟩
  show rxPSPP S0 ws S_p (some (bx_num r_p (.inr (0, (8, 0)))))
  rw [bx_xv_ok h0_]
  exact g.2
theorem rxgCPP {X : (Nat → Int → Int) → Prop} {S0 : Nat → Int → Int} {ws : List Int} (hP : rxPPP S0 ws) : bx_allI (fun i q => rxUPP q = true ∨ bx_allP (fun o => bx_obC rxL X S0 rxCPP.2.2.1 (rxIPP S0 ws) (rxmPP S0 ws) i q.1 o) q.2.1) 0 rxYPP := ⟨Or.inr ⟨rxgPP_0_0 hP, trivial⟩, Or.inr ⟨rxgPP_1_0 hP, rxgPP_1_1 hP, rxgPP_1_2 hP, trivial⟩, trivial⟩
theorem rxgEPP {X : (Nat → Int → Int) → Prop} {S0 : Nat → Int → Int} {ws : List Int} (hP : rxPPP S0 ws) : bx_allI (fun i q => rxUPP q = true ∨ bx_allP (fun E => bx_obE rxL X S0 rxCPP.2.2.1 (rxIPP S0 ws) (rxPSPP S0 ws) i q.1 E) q.2.2) 0 rxYPP := ⟨Or.inr trivial, Or.inr ⟨rxfPP_1_0 hP, trivial⟩, trivial⟩
theorem rxQPP {PX : State → Prop} {Dg : va_G} {A : Nat → Prop} {ad xa : Nat → Nat} {l : Launch} {X : (Nat → Int → Int) → Prop} (hPX : rx_PXOK rxNW A PX) (hsl : ∀ s : State, PX s → ∀ o idx n : Nat, rxSl o idx = some n → ∃ tx : String, vk_R (rxNm o) idx tx (ad n) s)
    (hX : ∀ S S_p : Nat → Int → Int, X S → bx_same rxL (bx_mdl rxCPP.2.2.1) S S_p → X S_p)
    (ih : ∀ (j2 : Nat) (ct2 : bx_Ct) (M2 : rx_Mt), ct2 ∈ rxCnE j2 → ct2.2.2.2.1 + 1 ≤ rxCPP.2.2.2.1 → rxT.2.2.2.2.2 j2 = some M2 → bx_Con rxG rxNW rxAO PX Dg rxL X vwCl A ad l M2 ct2) : bx_ConP rxG rxNW rxAO PX Dg rxL X vwCl A ad l rxM271 rxCPP rxPPP rxPSPP :=
  rxQof (xa := xa) (Cn := rxCnE) (f := 30000) (j := 271) (tab := rxYPP) (us := rxUPP) hPX hsl hX ih rfl rxYcPP rxIPP rxmPP
    (fun S0 ws r I0 I ht0 ht as he he1 hX0 hI0 hP hs ha => by
      have e := he.symm.trans (show bx_ent0 rxNP rxCPP.1 bx_I0 [] = some ([(0, 0), (0, 0), (0, 0), (0, 0), (0, 0), (0, 0), (0, 0), (0, 0)], [], [.inr (3, (0, 480))]) from rfl)
      cases e
      subst ha
      have h0 : r 0 = 0 := hs.1
      show rxIPP_0 S0 _ S0
      refine ⟨rfl, ?_⟩
      simp only [List.map_cons, List.map_nil, bx_xv_ok h0]
      rfl)
    (fun S0 ws hP => fun i q hq hus => absurd (show false = true from hus) Bool.false_ne_true) (fun S0 ws hP => rxgCPP hP) (fun S0 ws hP => rxgEPP hP)
end
