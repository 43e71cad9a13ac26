section
noncomputable def rxCCP : bx_Ct := ([(3, (1, 480, 0)), (0, (0, 0, 5))], some (0, (0, 0, 1)), [], 1, [])
noncomputable def rxICP_0 (S0 : Nat → Int → Int) (ws : List Int) (S : Nat → Int → Int) (part : Int) : Prop := S = S0 ∧ ws = [480, part]
noncomputable def rxmCP_0 (S0 : Nat → Int → Int) (ws : List Int) (S : Nat → Int → Int) (part : Int) : Nat := 1000
noncomputable def rxzCP_0 : rx_Z := ([(0, 0), (0, 0), (0, 0), (0, 0), (0, 0), (0, 0), (0, 0), (0, 0), (0, 5)], [], [], 0, 0, 0, [(0, .inr (3, (0, 480))), (1, .inr (0, (8, 0)))], [])
noncomputable def rxICP_1 (S0 : Nat → Int → Int) (ws : List Int) (S : Nat → Int → Int) (part a b : Int) : Prop := S = S0
noncomputable def rxmCP_1 (S0 : Nat → Int → Int) (ws : List Int) (S : Nat → Int → Int) (part a b : Int) : Nat := 900
noncomputable def rxzCP_1 : rx_Z := ([(0, 0), (0, 0), (0, 0), (0, 0), (0, 0), (0, 0), (0, 0), (0, 0), (0, 5), (0, 40), (0, 7)], [], [], 0, 0, 14, [(0, .inr (3, (0, 480))), (1, .inr (0, (8, 0)))], [.inr (0, (10, 0)), .inr (0, (9, 0)), .inr (3, (0, 510))])
noncomputable def rxICP_2 (S0 : Nat → Int → Int) (ws : List Int) (S : Nat → Int → Int) (part can p : Int) : Prop := S = S0
noncomputable def rxmCP_2 (S0 : Nat → Int → Int) (ws : List Int) (S : Nat → Int → Int) (part can p : Int) : Nat := 10 * (20 - p).toNat
noncomputable def rxzCP_2 : rx_Z := ([(0, 0), (0, 0), (0, 0), (0, 0), (0, 0), (0, 0), (0, 0), (0, 0), (0, 5), (0, 1), (0, 5)], [], [], 0, 0, 19, [(0, .inr (3, (0, 480))), (1, .inr (0, (8, 0))), (2, .inr (0, (9, 0))), (3, .inr (0, (10, 0)))], [])
noncomputable def rxoCP_0_0 : bx_HO := (([(0, 0), (0, 0), (0, 0), (0, 0), (0, 0), (0, 0), (0, 0), (0, 0), (0, 5), (0, 40), ((-1), 8)], [(12, (9, 0), (8, 0))], [(((0, 0), 1851192626986356797424364830707437625680387377997778265164218368000000), .inr (0, (10, 0))), (((0, 480), 55), .inr (3, (0, 508))), (((0, 480), 57), .inr (3, (0, 510)))], 0, 0, 14, [(0, .inr (3, (0, 480))), (1, .inr (0, (8, 0)))], [.inr (0, (10, 0)), .inr (0, (9, 0)), .inr (3, (0, 510))]), [(10, 0, 7)], [], [(0, 0), (0, 0), (0, 0), (0, 0), (0, 0), (0, 0), (0, 0), (0, 0), (8, 0), (9, 0), (10, 0)], 1)
noncomputable def rxoCP_1_0 : bx_HO := (([(0, 0), (0, 0), (0, 0), (0, 0), (0, 0), (0, 0), (0, 0), (0, 0), (0, 5), (0, 40), (0, 7), (0, 47), (0, 1)], [(604462909807314587353098000000, (11, 0), (9, 0))], [(((0, 0), 1851192626986356797424374018331344491018900889112178922907107328000000), .inr (0, (12, 0)))], 0, 0, 19, [(3, .inr (0, (0, 0))), (2, .inr (0, (12, 0))), (0, .inr (3, (0, 480))), (1, .inr (0, (8, 0)))], []), [], [], [(0, 0), (0, 0), (0, 0), (0, 0), (0, 0), (0, 0), (0, 0), (0, 0), (8, 0), (12, 0), (0, 0)], 2)
noncomputable def rxoCP_2_0 : bx_HO := (([(0, 0), (0, 0), (0, 0), (0, 0), (0, 0), (0, 0), (0, 0), (0, 0), (1, 5), (1, 1), (0, 4), ((-1), 8), ((-1), 8), (0, 8), (0, 23), (0, 10), (0, 23)], [(1, (16, 0), (14, 0)), (6, (15, 0), (8, 0)), (6, (13, 0), (10, 0)), (2, (11, 0), (12, 0)), (3, (9, 0), (0, 0)), (0, (10, 0), (8, 0))], [(((0, 0), 1851192626986356799632160043151085335815621679590234255638265856000000), .inr (0, (16, 0))), (((0, 0), 1851192626986356799431447211281705150649457874393465230256635904000000), .inr (0, (14, 0))), (((0, 480), 3), .inr (3, (0, 482))), (((0, 0), 1851192626986356797424364830707437625680387377997778265164218368000000), .inr (0, (12, 0))), (((0, 0), 1851192626986356797424370955790042202572729718740712036992024576000000), .inr (0, (11, 0))), (((0, 480), 55), .inr (3, (0, 508)))], 0, 0, 19, [(3, .inr (0, (10, 1))), (2, .inr (0, (0, 1))), (0, .inr (3, (0, 480))), (1, .inr (0, (8, 0)))], []), [], [], [(0, 0), (0, 0), (0, 0), (0, 0), (0, 0), (0, 0), (0, 0), (0, 0), (8, 0), (0, 1), (10, 1)], 2)
noncomputable def rxoCP_2_1 : bx_HO := (([(0, 0), (0, 0), (0, 0), (0, 0), (0, 0), (0, 0), (0, 0), (0, 0), (1, 5), (1, 1), (0, 4), ((-1), 8), ((-1), 8), (0, 8), (0, 23), (0, 10), (1, 24), (0, 10), (0, 23), (0, 8), (0, 23)], [(1, (20, 0), (18, 0)), (6, (19, 0), (10, 0)), (6, (17, 0), (8, 0)), (0, (14, 0), (16, 0)), (6, (15, 0), (8, 0)), (6, (13, 0), (10, 0)), (2, (11, 0), (12, 0)), (3, (9, 0), (0, 0)), (0, (10, 0), (8, 0))], [(((0, 0), 1851192626986356799632172293316294489600306361076101799293878272000000), .inr (0, (20, 0))), (((0, 0), 1851192626986356799431459461446914304434142555879332773912248320000000), .inr (0, (18, 0))), (((0, 0), 1851192626986356799632160043151085335815621679590234255638265856000000), .inr (0, (16, 0))), (((0, 0), 1851192626986356799431447211281705150649457874393465230256635904000000), .inr (0, (14, 0))), (((0, 480), 3), .inr (3, (0, 482))), (((0, 0), 1851192626986356797424364830707437625680387377997778265164218368000000), .inr (0, (12, 0))), (((0, 0), 1851192626986356797424370955790042202572729718740712036992024576000000), .inr (0, (11, 0))), (((0, 480), 55), .inr (3, (0, 508)))], 0, 0, 19, [(3, .inr (0, (10, 1))), (2, .inr (0, (0, 1))), (0, .inr (3, (0, 480))), (1, .inr (0, (8, 0)))], []), [], [], [(0, 0), (0, 0), (0, 0), (0, 0), (0, 0), (0, 0), (0, 0), (0, 0), (8, 0), (0, 1), (10, 1)], 2)
noncomputable def rxoCP_2_2 : bx_HO := (([(0, 0), (0, 0), (0, 0), (0, 0), (0, 0), (0, 0), (0, 0), (0, 0), (1, 5), (1, 1), (0, 4), ((-1), 8), ((-1), 8), (0, 8), (0, 23), (0, 10), (1, 24), (0, 10), (0, 23), (0, 8), (1, 24)], [(0, (18, 0), (20, 0)), (6, (19, 0), (10, 0)), (6, (17, 0), (8, 0)), (0, (14, 0), (16, 0)), (6, (15, 0), (8, 0)), (6, (13, 0), (10, 0)), (2, (11, 0), (12, 0)), (3, (9, 0), (0, 0)), (0, (10, 0), (8, 0))], [(((0, 0), 1851192626986356799632172293316294489600306361076101799293878272000000), .inr (0, (20, 0))), (((0, 0), 1851192626986356799431459461446914304434142555879332773912248320000000), .inr (0, (18, 0))), (((0, 0), 1851192626986356799632160043151085335815621679590234255638265856000000), .inr (0, (16, 0))), (((0, 0), 1851192626986356799431447211281705150649457874393465230256635904000000), .inr (0, (14, 0))), (((0, 480), 3), .inr (3, (0, 482))), (((0, 0), 1851192626986356797424364830707437625680387377997778265164218368000000), .inr (0, (12, 0))), (((0, 0), 1851192626986356797424370955790042202572729718740712036992024576000000), .inr (0, (11, 0))), (((0, 480), 55), .inr (3, (0, 508)))], 0, 0, 19, [(3, .inr (0, (10, 1))), (2, .inr (0, (0, 0))), (0, .inr (3, (0, 480))), (1, .inr (0, (8, 0)))], []), [], [], [(0, 0), (0, 0), (0, 0), (0, 0), (0, 0), (0, 0), (0, 0), (0, 0), (8, 0), (0, 0), (10, 1)], 2)
noncomputable def rxoCP_2_3 : bx_HO := (([(0, 0), (0, 0), (0, 0), (0, 0), (0, 0), (0, 0), (0, 0), (0, 0), (1, 5), (1, 1), (0, 4), ((-1), 8), ((-1), 8)], [(3, (11, 0), (12, 0)), (3, (9, 0), (0, 0)), (0, (10, 0), (8, 0))], [(((0, 0), 1851192626986356797424364830707437625680387377997778265164218368000000), .inr (0, (12, 0))), (((0, 0), 1851192626986356797424370955790042202572729718740712036992024576000000), .inr (0, (11, 0))), (((0, 480), 55), .inr (3, (0, 508)))], 0, 0, 19, [(3, .inr (0, (10, 1))), (2, .inr (0, (0, 1))), (0, .inr (3, (0, 480))), (1, .inr (0, (8, 0)))], []), [], [], [(0, 0), (0, 0), (0, 0), (0, 0), (0, 0), (0, 0), (0, 0), (0, 0), (8, 0), (0, 1), (10, 1)], 2)
noncomputable def rxoCP_2_4 : bx_HO := (([(0, 0), (0, 0), (0, 0), (0, 0), (0, 0), (0, 0), (0, 0), (0, 0), (1, 5), (0, 0), (0, 4)], [(0, (10, 0), (8, 0))], [], 0, 0, 19, [(3, .inr (0, (10, 1))), (2, .inr (0, (0, 0))), (0, .inr (3, (0, 480))), (1, .inr (0, (8, 0)))], []), [], [], [(0, 0), (0, 0), (0, 0), (0, 0), (0, 0), (0, 0), (0, 0), (0, 0), (8, 0), (0, 0), (10, 1)], 2)
noncomputable def rxeCP_2_0 : rx_End × List (Nat × Int × Int) := (([(0, 0), (0, 0), (0, 0), (0, 0), (0, 0), (0, 0), (0, 0), (0, 0), (0, 5), (0, 1), (0, 5)], [(1, (8, 0), (10, 0))], [], some (.inr (0, (9, 0)))), [])
noncomputable def rxYCP : List bx_HE := [(rxzCP_0, [rxoCP_0_0], []), (rxzCP_1, [rxoCP_1_0], []), (rxzCP_2, [rxoCP_2_0, rxoCP_2_1, rxoCP_2_2, rxoCP_2_3, rxoCP_2_4], [rxeCP_2_0])]
noncomputable def rxUCP (q : bx_HE) : Bool := false
noncomputable def rxYBCP : bx_B := (rxV, rxNP, rxDmf, bx_mdH rxCCP.2.2.1)
set_option maxRecDepth 100000 in
theorem rxYcCP : bx_chkH rxYBCP rxM316 rxCCP rxYCP (rxUCP, fun cut z => rx_ex2 (rxCT rxYBCP rxCnE) cut 30000 rxCCP.2.2.2.1 316 z) = true := by decide +kernel
noncomputable def rxICP (S0 : Nat → Int → Int) (ws : List Int) (i : Nat) : bx_SP := fun S r => match i with | 0 => rxICP_0 S0 ws S (r 8) | 1 => rxICP_1 S0 ws S (r 8) (r 9) (r 10) | 2 => rxICP_2 S0 ws S (r 8) (r 9) (r 10) | _ => False
noncomputable def rxmCP (S0 : Nat → Int → Int) (ws : List Int) (i : Nat) (S : Nat → Int → Int) (r : Nat → Int) : Nat := match i with | 0 => rxmCP_0 S0 ws S (r 8) | 1 => rxmCP_1 S0 ws S (r 8) (r 9) (r 10) | 2 => rxmCP_2 S0 ws S (r 8) (r 9) (r 10) | _ => 0
noncomputable def rxPCP (S0 : Nat → Int → Int) (ws : List Int) : Prop := ∃ part : Int, ws = [480, part] ∧ 0 ≤ S0 508 part ∧ S0 508 part ≤ 7
noncomputable def rxPSCP (S0 : Nat → Int → Int) (ws : List Int) (S : Nat → Int → Int) (w : Option Int) : Prop := S = S0
theorem rxcCP_0_0 {S0 : Nat → Int → Int} {ws : List Int} {S : Nat → Int → Int} {part x9 x10 : Int} (hP : rxPCP S0 ws) (hin : bx_same rxL (bx_mdl rxCCP.2.2.1) S0 S) (I0 : bx_Inv rxL S) (hinv : rxICP_0 S0 ws S part) (l8 : 0 ≤ part) (u8 : part ≤ 5) (l9 : 0 ≤ x9) (u9 : x9 ≤ 40) (l10 : (-1) ≤ x10) (u10 : x10 ≤ 8) (f0 : x9 = 8 * (part)) (e0 : S 508 part = x10) : ((0 ≤ x10 ∧ x10 ≤ 7) ∧ True) ∧ (True) ∧ rxICP_1 S0 ws S part x9 x10 ∧ rxmCP_1 S0 ws S part x9 x10 < rxmCP_0 S0 ws S part := by
  obtain ⟨rfl, hw⟩ := hinv
  obtain ⟨p1, hw2, a, b⟩ := hP
  rw [hw] at hw2
  have hpe : part = p1 := Option.some.inj (congrArg (fun l => l[1]?) hw2)
  subst hpe
  exact ⟨⟨by omega, trivial⟩, trivial, rfl, by unfold rxmCP_0 rxmCP_1; omega⟩
theorem rxgCP_0_0 {X : (Nat → Int → Int) → Prop} {S0 : Nat → Int → Int} {ws : List Int} (hP : rxPCP S0 ws) : bx_obC rxL X S0 rxCCP.2.2.1 (rxICP S0 ws) (rxmCP S0 ws) 0 rxzCP_0 rxoCP_0_0 := by
  intro S S_p r r_p hinv hX hin hsm_ hseg
  obtain ⟨I0, I1, h0_, hr_, b_, f_, d_⟩ := bx_cl (evs := [(0, (0, 508), (8, 0), .inr (0, (10, 0)))]) (fvs := [(4, (9, 0), (8, 0), (0, 8))]) hseg (by decide +kernel) (by decide +kernel)
  have hinv : rxICP_0 S0 ws S (r 8) := hinv
  rw [← hr_ 8 (by decide)] at hinv
  obtain ⟨⟨l8, u8⟩, ⟨l9, u9⟩, ⟨l10, u10⟩, -⟩ := b_
  obtain ⟨f0, -⟩ := f_
  obtain ⟨e0, w_⟩ := d_
  subst w_
  have g := rxcCP_0_0 hP hin I0 hinv l8 u8 l9 u9 l10 u10 f0 e0
  refine ⟨bx_narP_ok (l := [(10, 0, 7)]) g.1, bx_nfP_ok h0_ (fvs := []) (by decide +kernel) g.2.1, ?_, ?_⟩
  · show rxICP_1 S0 ws S_p (bx_val [(0, 0), (0, 0), (0, 0), (0, 0), (0, 0), (0, 0), (0, 0), (0, 0), (8, 0), (9, 0), (10, 0)] r_p 8) (bx_val [(0, 0), (0, 0), (0, 0), (0, 0), (0, 0), (0, 0), (0, 0), (0, 0), (8, 0), (9, 0), (10, 0)] r_p 9) (bx_val [(0, 0), (0, 0), (0, 0), (0, 0), (0, 0), (0, 0), (0, 0), (0, 0), (8, 0), (9, 0), (10, 0)] r_p 10)
    rw [bx_val_x (n := 8) (e := (8, 0)) h0_ rfl, bx_val_x (n := 9) (e := (9, 0)) h0_ rfl, bx_val_x (n := 10) (e := (10, 0)) h0_ rfl]
    exact g.2.2.1
  · show rxmCP_1 S0 ws S_p (bx_val [(0, 0), (0, 0), (0, 0), (0, 0), (0, 0), (0, 0), (0, 0), (0, 0), (8, 0), (9, 0), (10, 0)] r_p 8) (bx_val [(0, 0), (0, 0), (0, 0), (0, 0), (0, 0), (0, 0), (0, 0), (0, 0), (8, 0), (9, 0), (10, 0)] r_p 9) (bx_val [(0, 0), (0, 0), (0, 0), (0, 0), (0, 0), (0, 0), (0, 0), (0, 0), (8, 0), (9, 0), (10, 0)] r_p 10) < rxmCP_0 S0 ws S_p (r 8)
    rw [bx_val_x (n := 8) (e := (8, 0)) h0_ rfl, bx_val_x (n := 9) (e := (9, 0)) h0_ rfl, bx_val_x (n := 10) (e := (10, 0)) h0_ rfl, ← hr_ 8 (by decide)]
    exact g.2.2.2
theorem rxcCP_1_0 {S0 : Nat → Int → Int} {ws : List Int} {S : Nat → Int → Int} {part a b x11 x12 : Int} (hP : rxPCP S0 ws) (hin : bx_same rxL (bx_mdl rxCCP.2.2.1) S0 S) (I0 : bx_Inv rxL S) (hinv : rxICP_1 S0 ws S part a b) (l8 : 0 ≤ part) (u8 : part ≤ 5) (l9 : 0 ≤ a) (u9 : a ≤ 40) (l10 : 0 ≤ b) (u10 : b ≤ 7) (l11 : 0 ≤ x11) (u11 : x11 ≤ 47) (l12 : 0 ≤ x12) (u12 : x12 ≤ 1) (f0 : x11 = a + b) (e0 : S 510 x11 = x12) : (True) ∧ (True) ∧ rxICP_2 S0 ws S part x12 0 ∧ rxmCP_2 S0 ws S part x12 0 < rxmCP_1 S0 ws S part a b := by
  exact ⟨trivial, trivial, hinv, by unfold rxmCP_1 rxmCP_2; omega⟩
theorem rxgCP_1_0 {X : (Nat → Int → Int) → Prop} {S0 : Nat → Int → Int} {ws : List Int} (hP : rxPCP S0 ws) : bx_obC rxL X S0 rxCCP.2.2.1 (rxICP S0 ws) (rxmCP S0 ws) 1 rxzCP_1 rxoCP_1_0 := by
  intro S S_p r r_p hinv hX hin hsm_ hseg
  obtain ⟨I0, I1, h0_, hr_, b_, f_, d_⟩ := bx_cl (evs := [(0, (0, 510), (11, 0), .inr (0, (12, 0)))]) (fvs := [(5, (11, 0), (9, 0), (10, 0))]) hseg (by decide +kernel) (by decide +kernel)
  have hinv : rxICP_1 S0 ws S (r 8) (r 9) (r 10) := hinv
  rw [← hr_ 8 (by decide), ← hr_ 9 (by decide), ← hr_ 10 (by decide)] at hinv
  obtain ⟨⟨l8, u8⟩, ⟨l9, u9⟩, ⟨l10, u10⟩, ⟨l11, u11⟩, ⟨l12, u12⟩, -⟩ := b_
  obtain ⟨f0, -⟩ := f_
  obtain ⟨e0, w_⟩ := d_
  subst w_
  have g := rxcCP_1_0 hP hin I0 hinv l8 u8 l9 u9 l10 u10 l11 u11 l12 u12 f0 e0
  refine ⟨bx_narP_ok (l := []) g.1, bx_nfP_ok h0_ (fvs := []) (by decide +kernel) g.2.1, ?_, ?_⟩
  · show rxICP_2 S0 ws S_p (bx_val [(0, 0), (0, 0), (0, 0), (0, 0), (0, 0), (0, 0), (0, 0), (0, 0), (8, 0), (12, 0), (0, 0)] r_p 8) (bx_val [(0, 0), (0, 0), (0, 0), (0, 0), (0, 0), (0, 0), (0, 0), (0, 0), (8, 0), (12, 0), (0, 0)] r_p 9) (bx_val [(0, 0), (0, 0), (0, 0), (0, 0), (0, 0), (0, 0), (0, 0), (0, 0), (8, 0), (12, 0), (0, 0)] r_p 10)
    rw [bx_val_x (n := 8) (e := (8, 0)) h0_ rfl, bx_val_x (n := 9) (e := (12, 0)) h0_ rfl, bx_val_x (n := 10) (e := (0, 0)) h0_ rfl]
    exact g.2.2.1
  · show rxmCP_2 S0 ws S_p (bx_val [(0, 0), (0, 0), (0, 0), (0, 0), (0, 0), (0, 0), (0, 0), (0, 0), (8, 0), (12, 0), (0, 0)] r_p 8) (bx_val [(0, 0), (0, 0), (0, 0), (0, 0), (0, 0), (0, 0), (0, 0), (0, 0), (8, 0), (12, 0), (0, 0)] r_p 9) (bx_val [(0, 0), (0, 0), (0, 0), (0, 0), (0, 0), (0, 0), (0, 0), (0, 0), (8, 0), (12, 0), (0, 0)] r_p 10) < rxmCP_1 S0 ws S_p (r 8) (r 9) (r 10)
    rw [bx_val_x (n := 8) (e := (8, 0)) h0_ rfl, bx_val_x (n := 9) (e := (12, 0)) h0_ rfl, bx_val_x (n := 10) (e := (0, 0)) h0_ rfl, ← hr_ 8 (by decide), ← hr_ 9 (by decide), ← hr_ 10 (by decide)]
    exact g.2.2.2
theorem rxcCP_2_0 {S0 : Nat → Int → Int} {ws : List Int} {S : Nat → Int → Int} {part can p x11 x12 x13 x14 x15 x16 : Int} (hP : rxPCP S0 ws) (hin : bx_same rxL (bx_mdl rxCCP.2.2.1) S0 S) (I0 : bx_Inv rxL S) (hinv : rxICP_2 S0 ws S part can p) (l8 : 1 ≤ part) (u8 : part ≤ 5) (l9 : 1 ≤ can) (u9 : can ≤ 1) (l10 : 0 ≤ p) (u10 : p ≤ 4) (l11 : (-1) ≤ x11) (u11 : x11 ≤ 8) (l12 : (-1) ≤ x12) (u12 : x12 ≤ 8) (l13 : 0 ≤ x13) (u13 : x13 ≤ 8) (l14 : 0 ≤ x14) (u14 : x14 ≤ 23) (l15 : 0 ≤ x15) (u15 : x15 ≤ 10) (l16 : 0 ≤ x16) (u16 : x16 ≤ 23) (f0 : x16 ≤ x14) (f1 : x15 = 2 * (part)) (f2 : x13 = 2 * (p)) (f3 : x11 = x12) (f4 : can ≠ 0) (f5 : p < part) (e3 : S 508 p = x11) (e2 : S 508 part = x12) (e1 : S 482 (x13 + 10) = x14) (e0 : S 482 (x15 + 11) = x16) : (True) ∧ (True) ∧ rxICP_2 S0 ws S part 1 (p + 1) ∧ rxmCP_2 S0 ws S part 1 (p + 1) < rxmCP_2 S0 ws S part can p := by
  exact ⟨trivial, trivial, hinv, by unfold rxmCP_2; omega⟩
theorem rxgCP_2_0 {X : (Nat → Int → Int) → Prop} {S0 : Nat → Int → Int} {ws : List Int} (hP : rxPCP S0 ws) : bx_obC rxL X S0 rxCCP.2.2.1 (rxICP S0 ws) (rxmCP S0 ws) 2 rxzCP_2 rxoCP_2_0 := by
  intro S S_p r r_p hinv hX hin hsm_ hseg
  obtain ⟨I0, I1, h0_, hr_, b_, f_, d_⟩ := bx_cl (evs := [(0, (0, 482), (15, 11), .inr (0, (16, 0))), (0, (0, 482), (13, 10), .inr (0, (14, 0))), (0, (0, 508), (8, 0), .inr (0, (12, 0))), (0, (0, 508), (10, 0), .inr (0, (11, 0)))]) (fvs := [(1, (16, 0), (14, 0), (0, 0)), (4, (15, 0), (8, 0), (0, 2)), (4, (13, 0), (10, 0), (0, 2)), (2, (11, 0), (12, 0), (0, 0)), (3, (9, 0), (0, 0), (0, 0)), (0, (10, 0), (8, 0), (0, 0))]) hseg (by decide +kernel) (by decide +kernel)
  have hinv : rxICP_2 S0 ws S (r 8) (r 9) (r 10) := hinv
  rw [← hr_ 8 (by decide), ← hr_ 9 (by decide), ← hr_ 10 (by decide)] at hinv
  obtain ⟨⟨l8, u8⟩, ⟨l9, u9⟩, ⟨l10, u10⟩, ⟨l11, u11⟩, ⟨l12, u12⟩, ⟨l13, u13⟩, ⟨l14, u14⟩, ⟨l15, u15⟩, ⟨l16, u16⟩, -⟩ := b_
  obtain ⟨f0, f1, f2, f3, f4, f5, -⟩ := f_
  obtain ⟨e0, ⟨e1, ⟨e2, ⟨e3, w_⟩⟩⟩⟩ := d_
  subst w_
  have g := rxcCP_2_0 hP hin I0 hinv l8 u8 l9 u9 l10 u10 l11 u11 l12 u12 l13 u13 l14 u14 l15 u15 l16 u16 f0 f1 f2 f3 f4 f5 e3 e2 e1 e0
  refine ⟨bx_narP_ok (l := []) g.1, bx_nfP_ok h0_ (fvs := []) (by decide +kernel) g.2.1, ?_, ?_⟩
  · show rxICP_2 S0 ws S_p (bx_val [(0, 0), (0, 0), (0, 0), (0, 0), (0, 0), (0, 0), (0, 0), (0, 0), (8, 0), (0, 1), (10, 1)] r_p 8) (bx_val [(0, 0), (0, 0), (0, 0), (0, 0), (0, 0), (0, 0), (0, 0), (0, 0), (8, 0), (0, 1), (10, 1)] r_p 9) (bx_val [(0, 0), (0, 0), (0, 0), (0, 0), (0, 0), (0, 0), (0, 0), (0, 0), (8, 0), (0, 1), (10, 1)] r_p 10)
    rw [bx_val_x (n := 8) (e := (8, 0)) h0_ rfl, bx_val_x (n := 9) (e := (0, 1)) h0_ rfl, bx_val_x (n := 10) (e := (10, 1)) h0_ rfl]
    exact g.2.2.1
  · show rxmCP_2 S0 ws S_p (bx_val [(0, 0), (0, 0), (0, 0), (0, 0), (0, 0), (0, 0), (0, 0), (0, 0), (8, 0), (0, 1), (10, 1)] r_p 8) (bx_val [(0, 0), (0, 0), (0, 0), (0, 0), (0, 0), (0, 0), (0, 0), (0, 0), (8, 0), (0, 1), (10, 1)] r_p 9) (bx_val [(0, 0), (0, 0), (0, 0), (0, 0), (0, 0), (0, 0), (0, 0), (0, 0), (8, 0), (0, 1), (10, 1)] r_p 10) < rxmCP_2 S0 ws S_p (r 8) (r 9) (r 10)
    rw [bx_val_x (n := 8) (e := (8, 0)) h0_ rfl, bx_val_x (n := 9) (e := (0, 1)) h0_ rfl, bx_val_x (n := 10) (e := (10, 1)) h0_ rfl, ← hr_ 8 (by decide), ← hr_ 9 (by decide), ← hr_ 10 (by decide)]
    exact g.2.2.2
theorem rxcCP_2_1 {S0 : Nat → Int → Int} {ws : List Int} {S : Nat → Int → Int} {part can p x11 x12 x13 x14 x15 x16 x17 x18 x19 x20 : Int} (hP : rxPCP S0 ws) (hin : bx_same rxL (bx_mdl rxCCP.2.2.1) S0 S) (I0 : bx_Inv rxL S) (hinv : rxICP_2 S0 ws S part can p) (l8 : 1 ≤ part) (u8 : part ≤ 5) (l9 : 1 ≤ can) (u9 : can ≤ 1) (l10 : 0 ≤ p) (u10 : p ≤ 4) (l11 : (-1) ≤ x11) (u11 : x11 ≤ 8) (l12 : (-1) ≤ x12) (u12 : x12 ≤ 8) (l13 : 0 ≤ x13) (u13 : x13 ≤ 8) (l14 : 0 ≤ x14) (u14 : x14 ≤ 23) (l15 : 0 ≤ x15) (u15 : x15 ≤ 10) (l16 : 1 ≤ x16) (u16 : x16 ≤ 24) (l17 : 0 ≤ x17) (u17 : x17 ≤ 10) (l18 : 0 ≤ x18) (u18 : x18 ≤ 23) (l19 : 0 ≤ x19) (u19 : x19 ≤ 8) (l20 : 0 ≤ x20) (u20 : x20 ≤ 23) (f0 : x20 ≤ x18) (f1 : x19 = 2 * (p)) (f2 : x17 = 2 * (part)) (f3 : x14 < x16) (f4 : x15 = 2 * (part)) (f5 : x13 = 2 * (p)) (f6 : x11 = x12) (f7 : can ≠ 0) (f8 : p < part) (e5 : S 508 p = x11) (e4 : S 508 part = x12) (e3 : S 482 (x13 + 10) = x14) (e2 : S 482 (x15 + 11) = x16) (e1 : S 482 (x17 + 10) = x18) (e0 : S 482 (x19 + 11) = x20) : (True) ∧ (True) ∧ rxICP_2 S0 ws S part 1 (p + 1) ∧ rxmCP_2 S0 ws S part 1 (p + 1) < rxmCP_2 S0 ws S part can p := by
  exact ⟨trivial, trivial, hinv, by unfold rxmCP_2; omega⟩
theorem rxgCP_2_1 {X : (Nat → Int → Int) → Prop} {S0 : Nat → Int → Int} {ws : List Int} (hP : rxPCP S0 ws) : bx_obC rxL X S0 rxCCP.2.2.1 (rxICP S0 ws) (rxmCP S0 ws) 2 rxzCP_2 rxoCP_2_1 := by
  intro S S_p r r_p hinv hX hin hsm_ hseg
  obtain ⟨I0, I1, h0_, hr_, b_, f_, d_⟩ := bx_cl (evs := [(0, (0, 482), (19, 11), .inr (0, (20, 0))), (0, (0, 482), (17, 10), .inr (0, (18, 0))), (0, (0, 482), (15, 11), .inr (0, (16, 0))), (0, (0, 482), (13, 10), .inr (0, (14, 0))), (0, (0, 508), (8, 0), .inr (0, (12, 0))), (0, (0, 508), (10, 0), .inr (0, (11, 0)))]) (fvs := [(1, (20, 0), (18, 0), (0, 0)), (4, (19, 0), (10, 0), (0, 2)), (4, (17, 0), (8, 0), (0, 2)), (0, (14, 0), (16, 0), (0, 0)), (4, (15, 0), (8, 0), (0, 2)), (4, (13, 0), (10, 0), (0, 2)), (2, (11, 0), (12, 0), (0, 0)), (3, (9, 0), (0, 0), (0, 0)), (0, (10, 0), (8, 0), (0, 0))]) hseg (by decide +kernel) (by decide +kernel)
  have hinv : rxICP_2 S0 ws S (r 8) (r 9) (r 10) := hinv
  rw [← hr_ 8 (by decide), ← hr_ 9 (by decide), ← hr_ 10 (by decide)] at hinv
  obtain ⟨⟨l8, u8⟩, ⟨l9, u9⟩, ⟨l10, u10⟩, ⟨l11, u11⟩, ⟨l12, u12⟩, ⟨l13, u13⟩, ⟨l14, u14⟩, ⟨l15, u15⟩, ⟨l16, u16⟩, ⟨l17, u17⟩, ⟨l18, u18⟩, ⟨l19, u19⟩, ⟨l20, u20⟩, -⟩ := b_
  obtain ⟨f0, f1, f2, f3, f4, f5, f6, f7, f8, -⟩ := f_
  obtain ⟨e0, ⟨e1, ⟨e2, ⟨e3, ⟨e4, ⟨e5, w_⟩⟩⟩⟩⟩⟩ := d_
  subst w_
  have g := rxcCP_2_1 hP hin I0 hinv l8 u8 l9 u9 l10 u10 l11 u11 l12 u12 l13 u13 l14 u14 l15 u15 l16 u16 l17 u17 l18 u18 l19 u19 l20 u20 f0 f1 f2 f3 f4 f5 f6 f7 f8 e5 e4 e3 e2 e1 e0
  refine ⟨bx_narP_ok (l := []) g.1, bx_nfP_ok h0_ (fvs := []) (by decide +kernel) g.2.1, ?_, ?_⟩
  · show rxICP_2 S0 ws S_p (bx_val [(0, 0), (0, 0), (0, 0), (0, 0), (0, 0), (0, 0), (0, 0), (0, 0), (8, 0), (0, 1), (10, 1)] r_p 8) (bx_val [(0, 0), (0, 0), (0, 0), (0, 0), (0, 0), (0, 0), (0, 0), (0, 0), (8, 0), (0, 1), (10, 1)] r_p 9) (bx_val [(0, 0), (0, 0), (0, 0), (0, 0), (0, 0), (0, 0), (0, 0), (0, 0), (8, 0), (0, 1), (10, 1)] r_p 10)
    rw [bx_val_x (n := 8) (e := (8, 0)) h0_ rfl, bx_val_x (n := 9) (e := (0, 1)) h0_ rfl, bx_val_x (n := 10) (e := (10, 1)) h0_ rfl]
    exact g.2.2.1
  · show rxmCP_2 S0 ws S_p (bx_val [(0, 0), (0, 0), (0, 0), (0, 0), (0, 0), (0, 0), (0, 0), (0, 0), (8, 0), (0, 1), (10, 1)] r_p 8) (bx_val [(0, 0), (0, 0), (0, 0), (0, 0), (0, 0), (0, 0), (0, 0), (0, 0), (8, 0), (0, 1), (10, 1)] r_p 9) (bx_val [(0, 0), (0, 0), (0, 0), (0, 0), (0, 0), (0, 0), (0, 0), (0, 0), (8, 0), (0, 1), (10, 1)] r_p 10) < rxmCP_2 S0 ws S_p (r 8) (r 9) (r 10)
    rw [bx_val_x (n := 8) (e := (8, 0)) h0_ rfl, bx_val_x (n := 9) (e := (0, 1)) h0_ rfl, bx_val_x (n := 10) (e := (10, 1)) h0_ rfl, ← hr_ 8 (by decide), ← hr_ 9 (by decide), ← hr_ 10 (by decide)]
    exact g.2.2.2
theorem rxcCP_2_2 {S0 : Nat → Int → Int} {ws : List Int} {S : Nat → Int → Int} {part can p x11 x12 x13 x14 x15 x16 x17 x18 x19 x20 : Int} (hP : rxPCP S0 ws) (hin : bx_same rxL (bx_mdl rxCCP.2.2.1) S0 S) (I0 : bx_Inv rxL S) (hinv : rxICP_2 S0 ws S part can p) (l8 : 1 ≤ part) (u8 : part ≤ 5) (l9 : 1 ≤ can) (u9 : can ≤ 1) (l10 : 0 ≤ p) (u10 : p ≤ 4) (l11 : (-1) ≤ x11) (u11 : x11 ≤ 8) (l12 : (-1) ≤ x12) (u12 : x12 ≤ 8) (l13 : 0 ≤ x13) (u13 : x13 ≤ 8) (l14 : 0 ≤ x14) (u14 : x14 ≤ 23) (l15 : 0 ≤ x15) (u15 : x15 ≤ 10) (l16 : 1 ≤ x16) (u16 : x16 ≤ 24) (l17 : 0 ≤ x17) (u17 : x17 ≤ 10) (l18 : 0 ≤ x18) (u18 : x18 ≤ 23) (l19 : 0 ≤ x19) (u19 : x19 ≤ 8) (l20 : 1 ≤ x20) (u20 : x20 ≤ 24) (f0 : x18 < x20) (f1 : x19 = 2 * (p)) (f2 : x17 = 2 * (part)) (f3 : x14 < x16) (f4 : x15 = 2 * (part)) (f5 : x13 = 2 * (p)) (f6 : x11 = x12) (f7 : can ≠ 0) (f8 : p < part) (e5 : S 508 p = x11) (e4 : S 508 part = x12) (e3 : S 482 (x13 + 10) = x14) (e2 : S 482 (x15 + 11) = x16) (e1 : S 482 (x17 + 10) = x18) (e0 : S 482 (x19 + 11) = x20) : (True) ∧ (True) ∧ rxICP_2 S0 ws S part 0 (p + 1) ∧ rxmCP_2 S0 ws S part 0 (p + 1) < rxmCP_2 S0 ws S part can p := by
  exact ⟨trivial, trivial, hinv, by unfold rxmCP_2; omega⟩
theorem rxgCP_2_2 {X : (Nat → Int → Int) → Prop} {S0 : Nat → Int → Int} {ws : List Int} (hP : rxPCP S0 ws) : bx_obC rxL X S0 rxCCP.2.2.1 (rxICP S0 ws) (rxmCP S0 ws) 2 rxzCP_2 rxoCP_2_2 := by
  intro S S_p r r_p hinv hX hin hsm_ hseg
  obtain ⟨I0, I1, h0_, hr_, b_, f_, d_⟩ := bx_cl (evs := [(0, (0, 482), (19, 11), .inr (0, (20, 0))), (0, (0, 482), (17, 10), .inr (0, (18, 0))), (0, (0, 482), (15, 11), .inr (0, (16, 0))), (0, (0, 482), (13, 10), .inr (0, (14, 0))), (0, (0, 508), (8, 0), .inr (0, (12, 0))), (0, (0, 508), (10, 0), .inr (0, (11, 0)))]) (fvs := [(0, (18, 0), (20, 0), (0, 0)), (4, (19, 0), (10, 0), (0, 2)), (4, (17, 0), (8, 0), (0, 2)), (0, (14, 0), (16, 0), (0, 0)), (4, (15, 0), (8, 0), (0, 2)), (4, (13, 0), (10, 0), (0, 2)), (2, (11, 0), (12, 0), (0, 0)), (3, (9, 0), (0, 0), (0, 0)), (0, (10, 0), (8, 0), (0, 0))]) hseg (by decide +kernel) (by decide +kernel)
  have hinv : rxICP_2 S0 ws S (r 8) (r 9) (r 10) := hinv
  rw [← hr_ 8 (by decide), ← hr_ 9 (by decide), ← hr_ 10 (by decide)] at hinv
  obtain ⟨⟨l8, u8⟩, ⟨l9, u9⟩, ⟨l10, u10⟩, ⟨l11, u11⟩, ⟨l12, u12⟩, ⟨l13, u13⟩, ⟨l14, u14⟩, ⟨l15, u15⟩, ⟨l16, u16⟩, ⟨l17, u17⟩, ⟨l18, u18⟩, ⟨l19, u19⟩, ⟨l20, u20⟩, -⟩ := b_
  obtain ⟨f0, f1, f2, f3, f4, f5, f6, f7, f8, -⟩ := f_
  obtain ⟨e0, ⟨e1, ⟨e2, ⟨e3, ⟨e4, ⟨e5, w_⟩⟩⟩⟩⟩⟩ := d_
  subst w_
  have g := rxcCP_2_2 hP hin I0 hinv l8 u8 l9 u9 l10 u10 l11 u11 l12 u12 l13 u13 l14 u14 l15 u15 l16 u16 l17 u17 l18 u18 l19 u19 l20 u20 f0 f1 f2 f3 f4 f5 f6 f7 f8 e5 e4 e3 e2 e1 e0
  refine ⟨bx_narP_ok (l := []) g.1, bx_nfP_ok h0_ (fvs := []) (by decide +kernel) g.2.1, ?_, ?_⟩
  · show rxICP_2 S0 ws S_p (bx_val [(0, 0), (0, 0), (0, 0), (0, 0), (0, 0), (0, 0), (0, 0), (0, 0), (8, 0), (0, 0), (10, 1)] r_p 8) (bx_val [(0, 0), (0, 0), (0, 0), (0, 0), (0, 0), (0, 0), (0, 0), (0, 0), (8, 0), (0, 0), (10, 1)] r_p 9) (bx_val [(0, 0), (0, 0), (0, 0), (0, 0), (0, 0), (0, 0), (0, 0), (0, 0), (8, 0), (0, 0), (10, 1)] r_p 10)
    rw [bx_val_x (n := 8) (e := (8, 0)) h0_ rfl, bx_val_x (n := 9) (e := (0, 0)) h0_ rfl, bx_val_x (n := 10) (e := (10, 1)) h0_ rfl]
    exact g.2.2.1
  · show rxmCP_2 S0 ws S_p (bx_val [(0, 0), (0, 0), (0, 0), (0, 0), (0, 0), (0, 0), (0, 0), (0, 0), (8, 0), (0, 0), (10, 1)] r_p 8) (bx_val [(0, 0), (0, 0), (0, 0), (0, 0), (0, 0), (0, 0), (0, 0), (0, 0), (8, 0), (0, 0), (10, 1)] r_p 9) (bx_val [(0, 0), (0, 0), (0, 0), (0, 0), (0, 0), (0, 0), (0, 0), (0, 0), (8, 0), (0, 0), (10, 1)] r_p 10) < rxmCP_2 S0 ws S_p (r 8) (r 9) (r 10)
    rw [bx_val_x (n := 8) (e := (8, 0)) h0_ rfl, bx_val_x (n := 9) (e := (0, 0)) h0_ rfl, bx_val_x (n := 10) (e := (10, 1)) h0_ rfl, ← hr_ 8 (by decide), ← hr_ 9 (by decide), ← hr_ 10 (by decide)]
    exact g.2.2.2
theorem rxcCP_2_3 {S0 : Nat → Int → Int} {ws : List Int} {S : Nat → Int → Int} {part can p x11 x12 : Int} (hP : rxPCP S0 ws) (hin : bx_same rxL (bx_mdl rxCCP.2.2.1) S0 S) (I0 : bx_Inv rxL S) (hinv : rxICP_2 S0 ws S part can p) (l8 : 1 ≤ part) (u8 : part ≤ 5) (l9 : 1 ≤ can) (u9 : can ≤ 1) (l10 : 0 ≤ p) (u10 : p ≤ 4) (l11 : (-1) ≤ x11) (u11 : x11 ≤ 8) (l12 : (-1) ≤ x12) (u12 : x12 ≤ 8) (f0 : x11 ≠ x12) (f1 : can ≠ 0) (f2 : p < part) (e1 : S 508 p = x11) (e0 : S 508 part = x12) : (True) ∧ (True) ∧ rxICP_2 S0 ws S part 1 (p + 1) ∧ rxmCP_2 S0 ws S part 1 (p + 1) < rxmCP_2 S0 ws S part can p := by
  exact ⟨trivial, trivial, hinv, by unfold rxmCP_2; omega⟩
theorem rxgCP_2_3 {X : (Nat → Int → Int) → Prop} {S0 : Nat → Int → Int} {ws : List Int} (hP : rxPCP S0 ws) : bx_obC rxL X S0 rxCCP.2.2.1 (rxICP S0 ws) (rxmCP S0 ws) 2 rxzCP_2 rxoCP_2_3 := by
  intro S S_p r r_p hinv hX hin hsm_ hseg
  obtain ⟨I0, I1, h0_, hr_, b_, f_, d_⟩ := bx_cl (evs := [(0, (0, 508), (8, 0), .inr (0, (12, 0))), (0, (0, 508), (10, 0), .inr (0, (11, 0)))]) (fvs := [(3, (11, 0), (12, 0), (0, 0)), (3, (9, 0), (0, 0), (0, 0)), (0, (10, 0), (8, 0), (0, 0))]) hseg (by decide +kernel) (by decide +kernel)
  have hinv : rxICP_2 S0 ws S (r 8) (r 9) (r 10) := hinv
  rw [← hr_ 8 (by decide), ← hr_ 9 (by decide), ← hr_ 10 (by decide)] at hinv
  obtain ⟨⟨l8, u8⟩, ⟨l9, u9⟩, ⟨l10, u10⟩, ⟨l11, u11⟩, ⟨l12, u12⟩, -⟩ := b_
  obtain ⟨f0, f1, f2, -⟩ := f_
  obtain ⟨e0, ⟨e1, w_⟩⟩ := d_
  subst w_
  have g := rxcCP_2_3 hP hin I0 hinv l8 u8 l9 u9 l10 u10 l11 u11 l12 u12 f0 f1 f2 e1 e0
  refine ⟨bx_narP_ok (l := []) g.1, bx_nfP_ok h0_ (fvs := []) (by decide +kernel) g.2.1, ?_, ?_⟩
  · show rxICP_2 S0 ws S_p (bx_val [(0, 0), (0, 0), (0, 0), (0, 0), (0, 0), (0, 0), (0, 0), (0, 0), (8, 0), (0, 1), (10, 1)] r_p 8) (bx_val [(0, 0), (0, 0), (0, 0), (0, 0), (0, 0), (0, 0), (0, 0), (0, 0), (8, 0), (0, 1), (10, 1)] r_p 9) (bx_val [(0, 0), (0, 0), (0, 0), (0, 0), (0, 0), (0, 0), (0, 0), (0, 0), (8, 0), (0, 1), (10, 1)] r_p 10)
    rw [bx_val_x (n := 8) (e := (8, 0)) h0_ rfl, bx_val_x (n := 9) (e := (0, 1)) h0_ rfl, bx_val_x (n := 10) (e := (10, 1)) h0_ rfl]
    exact g.2.2.1
  · show rxmCP_2 S0 ws S_p (bx_val [(0, 0), (0, 0), (0, 0), (0, 0), (0, 0), (0, 0), (0, 0), (0, 0), (8, 0), (0, 1), (10, 1)] r_p 8) (bx_val [(0, 0), (0, 0), (0, 0), (0, 0), (0, 0), (0, 0), (0, 0), (0, 0), (8, 0), (0, 1), (10, 1)] r_p 9) (bx_val [(0, 0), (0, 0), (0, 0), (0, 0), (0, 0), (0, 0), (0, 0), (0, 0), (8, 0), (0, 1), (10, 1)] r_p 10) < rxmCP_2 S0 ws S_p (r 8) (r 9) (r 10)
    rw [bx_val_x (n := 8) (e := (8, 0)) h0_ rfl, bx_val_x (n := 9) (e := (0, 1)) h0_ rfl, bx_val_x (n := 10) (e := (10, 1)) h0_ rfl, ← hr_ 8 (by decide), ← hr_ 9 (by decide), ← hr_ 10 (by decide)]
    exact g.2.2.2
theorem rxcCP_2_4 {S0 : Nat → Int → Int} {ws : List Int} {S : Nat → Int → Int} {part can p : Int} (hP : rxPCP S0 ws) (hin : bx_same rxL (bx_mdl rxCCP.2.2.1) S0 S) (I0 : bx_Inv rxL S) (hinv : rxICP_2 S0 ws S part can p) (l8 : 1 ≤ part) (u8 : part ≤ 5) (l9 : 0 ≤ can) (u9 : can ≤ 0) (l10 : 0 ≤ p) (u10 : p ≤ 4) (f0 : p < part) : (True) ∧ (True) ∧ rxICP_2 S0 ws S part 0 (p + 1) ∧ rxmCP_2 S0 ws S part 0 (p + 1) < rxmCP_2 S0 ws S part can p := by
  exact ⟨trivial, trivial, hinv, by unfold rxmCP_2; omega⟩
theorem rxgCP_2_4 {X : (Nat → Int → Int) → Prop} {S0 : Nat → Int → Int} {ws : List Int} (hP : rxPCP S0 ws) : bx_obC rxL X S0 rxCCP.2.2.1 (rxICP S0 ws) (rxmCP S0 ws) 2 rxzCP_2 rxoCP_2_4 := by
  intro S S_p r r_p hinv hX hin hsm_ hseg
  obtain ⟨I0, I1, h0_, hr_, b_, f_, d_⟩ := bx_cl (evs := []) (fvs := [(0, (10, 0), (8, 0), (0, 0))]) hseg (by decide +kernel) (by decide +kernel)
  have hinv : rxICP_2 S0 ws S (r 8) (r 9) (r 10) := hinv
  rw [← hr_ 8 (by decide), ← hr_ 9 (by decide), ← hr_ 10 (by decide)] at hinv
  obtain ⟨⟨l8, u8⟩, ⟨l9, u9⟩, ⟨l10, u10⟩, -⟩ := b_
  obtain ⟨f0, -⟩ := f_
  have w_ := d_
  subst w_
  have g := rxcCP_2_4 hP hin I0 hinv l8 u8 l9 u9 l10 u10 f0
  refine ⟨bx_narP_ok (l := []) g.1, bx_nfP_ok h0_ (fvs := []) (by decide +kernel) g.2.1, ?_, ?_⟩
  · show rxICP_2 S0 ws S_p (bx_val [(0, 0), (0, 0), (0, 0), (0, 0), (0, 0), (0, 0), (0, 0), (0, 0), (8, 0), (0, 0), (10, 1)] r_p 8) (bx_val [(0, 0), (0, 0), (0, 0), (0, 0), (0, 0), (0, 0), (0, 0), (0, 0), (8, 0), (0, 0), (10, 1)] r_p 9) (bx_val [(0, 0), (0, 0), (0, 0), (0, 0), (0, 0), (0, 0), (0, 0), (0, 0), (8, 0), (0, 0), (10, 1)] r_p 10)
    rw [bx_val_x (n := 8) (e := (8, 0)) h0_ rfl, bx_val_x (n := 9) (e := (0, 0)) h0_ rfl, bx_val_x (n := 10) (e := (10, 1)) h0_ rfl]
    exact g.2.2.1
  · show rxmCP_2 S0 ws S_p (bx_val [(0, 0), (0, 0), (0, 0), (0, 0), (0, 0), (0, 0), (0, 0), (0, 0), (8, 0), (0, 0), (10, 1)] r_p 8) (bx_val [(0, 0), (0, 0), (0, 0), (0, 0), (0, 0), (0, 0), (0, 0), (0, 0), (8, 0), (0, 0), (10, 1)] r_p 9) (bx_val [(0, 0), (0, 0), (0, 0), (0, 0), (0, 0), (0, 0), (0, 0), (0, 0), (8, 0), (0, 0), (10, 1)] r_p 10) < rxmCP_2 S0 ws S_p (r 8) (r 9) (r 10)
    rw [bx_val_x (n := 8) (e := (8, 0)) h0_ rfl, bx_val_x (n := 9) (e := (0, 0)) h0_ rfl, bx_val_x (n := 10) (e := (10, 1)) h0_ rfl, ← hr_ 8 (by decide), ← hr_ 9 (by decide), ← hr_ 10 (by decide)]
    exact g.2.2.2
theorem rxdCP_2_0 {S0 : Nat → Int → Int} {ws : List Int} {S : Nat → Int → Int} {part can p : Int} (hP : rxPCP S0 ws) (hin : bx_same rxL (bx_mdl rxCCP.2.2.1) S0 S) (hin2 : bx_same rxL (bx_mdl rxCCP.2.2.1) S S) (I0 : bx_Inv rxL S) (I1 : bx_Inv rxL S) (hinv : rxICP_2 S0 ws S part can p) (l8 : 0 ≤ part) (u8 : part ≤ 5) (l9 : 0 ≤ can) (u9 : can ≤ 1) (l10 : 0 ≤ p) (u10 : p ≤ 5) (f0 : part ≤ p) : (True) ∧ rxPSCP S0 ws S (some can) := by
  exact ⟨trivial, hinv⟩
theorem rxfCP_2_0 {X : (Nat → Int → Int) → Prop} {S0 : Nat → Int → Int} {ws : List Int} (hP : rxPCP S0 ws) : bx_obE rxL X S0 rxCCP.2.2.1 (rxICP S0 ws) (rxPSCP S0 ws) 2 rxzCP_2 rxeCP_2_0 := by
  intro S S_p r r_p hinv hX hin hsm_ hseg
  obtain ⟨I0, I1, h0_, hr_, b_, f_, d_⟩ := bx_cl (evs := []) (fvs := [(1, (8, 0), (10, 0), (0, 0))]) hseg (by decide +kernel) (by decide +kernel)
  have hinv : rxICP_2 S0 ws S (r 8) (r 9) (r 10) := hinv
  rw [← hr_ 8 (by decide), ← hr_ 9 (by decide), ← hr_ 10 (by decide)] at hinv
  obtain ⟨⟨l8, u8⟩, ⟨l9, u9⟩, ⟨l10, u10⟩, -⟩ := b_
  obtain ⟨f0, -⟩ := f_
  have w_ := d_
  subst w_
  have g := rxdCP_2_0 hP hin hsm_ I0 I1 hinv l8 u8 l9 u9 l10 u10 f0
  refine ⟨bx_narP_ok (l := []) g.1, ?_⟩
  show rxPSCP S0 ws S_p (some (bx_num r_p (.inr (0, (9, 0)))))
  rw [bx_xv_ok h0_]
  exact g.2
theorem rxgCCP {X : (Nat → Int → Int) → Prop} {S0 : Nat → Int → Int} {ws : List Int} (hP : rxPCP S0 ws) : bx_allI (fun i q => rxUCP q = true ∨ bx_allP (fun o => bx_obC rxL X S0 rxCCP.2.2.1 (rxICP S0 ws) (rxmCP S0 ws) i q.1 o) q.2.1) 0 rxYCP := ⟨Or.inr ⟨rxgCP_0_0 hP, trivial⟩, Or.inr ⟨rxgCP_1_0 hP, trivial⟩, Or.inr ⟨rxgCP_2_0 hP, rxgCP_2_1 hP, rxgCP_2_2 hP, rxgCP_2_3 hP, rxgCP_2_4 hP, trivial⟩, trivial⟩
theorem rxgECP {X : (Nat → Int → Int) → Prop} {S0 : Nat → Int → Int} {ws : List Int} (hP : rxPCP S0 ws) : bx_allI (fun i q => rxUCP q = true ∨ bx_allP (fun E => bx_obE rxL X S0 rxCCP.2.2.1 (rxICP S0 ws) (rxPSCP S0 ws) i q.1 E) q.2.2) 0 rxYCP := ⟨Or.inr trivial, Or.inr trivial, Or.inr ⟨rxfCP_2_0 hP, trivial⟩, trivial⟩
theorem rxQCP {PX : State → Prop} {Dg : va_G} {A : Nat → Prop} {ad xa : Nat → Nat} {l : Launch} {X : (Nat → Int → Int) → Prop} (hPX : rx_PXOK rxNW A PX) (hsl : ∀ s : State, PX s → ∀ o idx n : Nat, rxSl o idx = some n → ∃ tx : String, vk_R (rxNm o) idx tx (ad n) s)
    (hX : ∀ S S_p : Nat → Int → Int, X S → bx_same rxL (bx_mdl rxCCP.2.2.1) S S_p → X S_p)
    (ih : ∀ (j2 : Nat) (ct2 : bx_Ct) (M2 : rx_Mt), ct2 ∈ rxCnE j2 → ct2.2.2.2.1 + 1 ≤ rxCCP.2.2.2.1 → rxT.2.2.2.2.2 j2 = some M2 → bx_Con rxG rxNW rxAO PX Dg rxL X vwCl A ad l M2 ct2) : bx_ConP rxG rxNW rxAO PX Dg rxL X vwCl A ad l rxM316 rxCCP rxPCP rxPSCP :=
  rxQof (xa := xa) (Cn := rxCnE) (f := 30000) (j := 316) (tab := rxYCP) (us := rxUCP) hPX hsl hX ih rfl rxYcCP rxICP rxmCP
    (fun S0 ws r I0 I ht0 ht as he he1 hX0 hI0 hP hs ha => by
      have e := he.symm.trans (show bx_ent0 rxNP rxCCP.1 bx_I0 [] = some ([(0, 0), (0, 0), (0, 0), (0, 0), (0, 0), (0, 0), (0, 0), (0, 0), (0, 5)], [], [.inr (3, (0, 480)), .inr (0, (8, 0))]) from rfl)
      cases e
      subst ha
      have h0 : r 0 = 0 := hs.1
      show rxICP_0 S0 _ S0 (r 8)
      refine ⟨rfl, ?_⟩
      simp only [List.map_cons, List.map_nil, bx_xv_ok h0]
      rfl)
    (fun S0 ws hP => fun i q hq hus => absurd (show false = true from hus) Bool.false_ne_true) (fun S0 ws hP => rxgCCP hP) (fun S0 ws hP => rxgECP hP)
end
section
noncomputable def rxCKC : bx_Ct := ([(3, (1, 480, 0)), (0, (0, 0, 6))], none, [(12, 58), (12, 59), (1090, 0)], 1, [])
noncomputable def rxIKC_0 (S0 : Nat → Int → Int) (ws : List Int) (S : Nat → Int → Int) (parts : Int) : Prop := S = S0 ∧ ws = [480, parts]
noncomputable def rxmKC_0 (S0 : Nat → Int → Int) (ws : List Int) (S : Nat → Int → Int) (parts : Int) : Nat := 100000
noncomputable def rxzKC_0 : rx_Z := ([(0, 0), (0, 0), (0, 0), (0, 0), (0, 0), (0, 0), (0, 0), (0, 0), (0, 6)], [], [], 0, 0, 0, [(0, .inr (3, (0, 480))), (1, .inr (0, (8, 0)))], [])
noncomputable def rxIKC_1 (S0 : Nat → Int → Int) (ws : List Int) (S : Nat → Int → Int) (parts used n k : Int) : Prop := n ≤ k
noncomputable def rxmKC_1 (S0 : Nat → Int → Int) (ws : List Int) (S : Nat → Int → Int) (parts used n k : Int) : Nat := 1000 + 10 * (20 - k).toNat
noncomputable def rxzKC_1 : rx_Z := ([(0, 0), (0, 0), (0, 0), (0, 0), (0, 0), (0, 0), (0, 0), (0, 0), (0, 6), ((-2147483648), 2147483647), (0, 6), (0, 6)], [], [], 0, 0, 7, [(0, .inr (3, (0, 480))), (1, .inr (0, (8, 0))), (2, .inr (0, (9, 0))), (3, .inr (0, (10, 0))), (4, .inr (0, (11, 0)))], [])
noncomputable def rxIKC_2 (S0 : Nat → Int → Int) (ws : List Int) (S : Nat → Int → Int) (parts used k n : Int) : Prop := n ≤ k + 1
noncomputable def rxmKC_2 (S0 : Nat → Int → Int) (ws : List Int) (S : Nat → Int → Int) (parts used k n : Int) : Nat := 1000 + 10 * (20 - k).toNat - 5
noncomputable def rxzKC_2 : rx_Z := ([(0, 0), (0, 0), (0, 0), (0, 0), (0, 0), (0, 0), (0, 0), (0, 0), (0, 6), ((-2147483648), 2147483647), (0, 5), (0, 6)], [], [], 0, 0, 34, [(0, .inr (3, (0, 480))), (1, .inr (0, (8, 0))), (2, .inr (0, (9, 0))), (4, .inr (0, (10, 0)))], [.inr (0, (11, 0))])
noncomputable def rxIKC_3 (S0 : Nat → Int → Int) (ws : List Int) (S : Nat → Int → Int) (parts n k : Int) : Prop := True
noncomputable def rxmKC_3 (S0 : Nat → Int → Int) (ws : List Int) (S : Nat → Int → Int) (parts n k : Int) : Nat := 10 * (20 - k).toNat
noncomputable def rxzKC_3 : rx_Z := ([(0, 0), (0, 0), (0, 0), (0, 0), (0, 0), (0, 0), (0, 0), (0, 0), (0, 6), (0, 6), (0, 6)], [], [], 0, 0, 74, [(0, .inr (3, (0, 480))), (1, .inr (0, (8, 0))), (3, .inr (0, (9, 0))), (4, .inr (0, (10, 0)))], [])
noncomputable def rxoKC_0_0 : bx_HO := (([(0, 0), (0, 0), (0, 0), (0, 0), (0, 0), (0, 0), (0, 0), (0, 0), (0, 6)], [], [], 0, 0, 7, [(4, .inr (0, (0, 0))), (3, .inr (0, (0, 0))), (2, .inr (0, (0, 0))), (0, .inr (3, (0, 480))), (1, .inr (0, (8, 0)))], []), [], [], [(0, 0), (0, 0), (0, 0), (0, 0), (0, 0), (0, 0), (0, 0), (0, 0), (8, 0), (0, 0), (0, 0), (0, 0)], 1)
noncomputable def rxoKC_1_0 : bx_HO := (([(0, 0), (0, 0), (0, 0), (0, 0), (0, 0), (0, 0), (0, 0), (0, 0), (1, 6), ((-2147483648), 2147483647), (0, 6), (0, 5), ((-1), 8), ((-2147483648), 2147483647), (0, 0)], [(3, (14, 0), (0, 1)), (1, (14, 0), (0, 1)), (0, (11, 0), (8, 0))], [(((0, 0), 1851192626986356797424374018331344491018900889112178922905927680000000), .inr (0, (12, 0))), (((0, 480), 55), .inr (3, (0, 508)))], 0, 0, 34, [(0, .inr (3, (0, 480))), (1, .inr (0, (8, 0))), (2, .inr (0, (9, 0))), (3, .inr (0, (10, 0))), (4, .inr (0, (11, 0)))], [.inr (0, (10, 1))]), [(10, (-1), 5)], [], [(0, 0), (0, 0), (0, 0), (0, 0), (0, 0), (0, 0), (0, 0), (0, 0), (8, 0), (9, 0), (11, 0), (10, 1)], 2)
noncomputable def rxoKC_1_1 : bx_HO := (([(0, 0), (0, 0), (0, 0), (0, 0), (0, 0), (0, 0), (0, 0), (0, 0), (1, 6), ((-2147483648), 2147483647), (0, 6), (0, 5), ((-1), 8), ((-2147483648), 2147483647), (1, 1)], [(1, (14, 0), (0, 1)), (0, (11, 0), (8, 0))], [(((0, 0), 1851192626986356797424374018331344491018900889112178922905927680000000), .inr (0, (12, 0))), (((0, 480), 55), .inr (3, (0, 508)))], 0, 0, 34, [(0, .inr (3, (0, 480))), (1, .inr (0, (8, 0))), (2, .inr (0, (9, 0))), (3, .inr (0, (10, 0))), (4, .inr (0, (11, 0)))], [.inr (0, (10, 0))]), [], [], [(0, 0), (0, 0), (0, 0), (0, 0), (0, 0), (0, 0), (0, 0), (0, 0), (8, 0), (9, 0), (11, 0), (10, 0)], 2)
noncomputable def rxoKC_1_2 : bx_HO := (([(0, 0), (0, 0), (0, 0), (0, 0), (0, 0), (0, 0), (0, 0), (0, 0), (0, 6), ((-2147483648), 2147483647), (0, 6), (0, 6), (1, 1000000)], [(0, (10, 0), (12, 0)), (1, (8, 0), (11, 0))], [(((0, 0), 1851192626986356809266036030796780206266484417802323137512079363000000), .inr (0, (0, 0))), (((0, 480), 59), .inr (0, (0, 0))), (((0, 0), 1851192626986356809065329324010004597992662953348487883958255619000000), .inr (0, (10, 0))), (((0, 480), 58), .inr (0, (10, 0))), (((0, 0), 1851192626986356809065329324010004597992662953348487883958255616000000), .inr (0, (12, 0)))], 0, 0, 74, [(4, .inr (0, (0, 0))), (0, .inr (3, (0, 480))), (1, .inr (0, (8, 0))), (2, .inr (0, (9, 0))), (3, .inr (0, (10, 0)))], []), [], [], [(0, 0), (0, 0), (0, 0), (0, 0), (0, 0), (0, 0), (0, 0), (0, 0), (8, 0), (10, 0), (0, 0)], 3)
noncomputable def rxeKC_1_0 : rx_End × List (Nat × Int × Int) := (([(0, 0), (0, 0), (0, 0), (0, 0), (0, 0), (0, 0), (0, 0), (0, 0), (0, 6), ((-2147483648), 2147483647), (0, 6), (0, 6), (0, 6), ((-2147483648), 2147483647), ((-2147483648), 2147483647)], [(2, (10, 0), (12, 0)), (1, (12, 0), (10, 0)), (1, (8, 0), (11, 0))], [(((0, 0), 1851192626986356809266036030796780206266484417802323137512079363000000), .inr (0, (14, 0))), (((0, 480), 59), .inr (0, (14, 0))), (((0, 0), 1851192626986356809266036030796780206266484417802323137512079360000000), .inr (0, (13, 0))), (((0, 0), 1851192626986356809065329324010004597992662953348487883958255616000000), .inr (0, (12, 0))), (((0, 480), 58), .inr (0, (12, 0)))], none), [])
noncomputable def rxeKC_1_1 : rx_End × List (Nat × Int × Int) := (([(0, 0), (0, 0), (0, 0), (0, 0), (0, 0), (0, 0), (0, 0), (0, 0), (0, 6), ((-2147483648), 2147483647), (0, 6), (0, 6), (0, 6), ((-2147483648), 2147483647)], [(3, (10, 0), (12, 0)), (1, (12, 0), (10, 0)), (1, (8, 0), (11, 0))], [(((0, 0), 1851192626986356809266036030796780206266484417802323137512079363000000), .inr (0, (13, 0))), (((0, 480), 59), .inr (0, (13, 0))), (((0, 0), 1851192626986356809266036030796780206266484417802323137512079360000000), .inr (0, (13, 0))), (((0, 0), 1851192626986356809065329324010004597992662953348487883958255616000000), .inr (0, (12, 0))), (((0, 480), 58), .inr (0, (12, 0)))], none), [])
noncomputable def rxoKC_2_0 : bx_HO := (([(0, 0), (0, 0), (0, 0), (0, 0), (0, 0), (0, 0), (0, 0), (0, 0), (0, 6), ((-2147483648), 2147483647), (0, 5), (0, 6), ((-1), 8), ((-2147483648), 2147483647), ((-2147483648), 2147483647)], [], [(((0, 0), 1851192626986356797424370955790042202572729718740712036992024576000000), .inr (0, (12, 0))), (((0, 480), 55), .inr (3, (0, 508)))], 0, 0, 7, [(4, .inr (0, (10, 1))), (2, .inr (0, (14, 0))), (3, .inr (0, (11, 0))), (0, .inr (3, (0, 480))), (1, .inr (0, (8, 0)))], []), [], [], [(0, 0), (0, 0), (0, 0), (0, 0), (0, 0), (0, 0), (0, 0), (0, 0), (8, 0), (14, 0), (11, 0), (10, 1)], 1)
noncomputable def rxoKC_3_0 : bx_HO := (([(0, 0), (0, 0), (0, 0), (0, 0), (0, 0), (0, 0), (0, 0), (0, 0), (1, 6), (0, 6), (0, 5), ((-1), 8)], [(0, (10, 0), (8, 0))], [(((0, 0), 1851192626986356797424370955790042202572729718740712036992614403000000), .inr (0, (11, 0))), (((0, 0), 1851192626986356797424370955790042202572729718740712036992024576000000), .inr (0, (11, 0))), (((0, 480), 55), .inr (3, (0, 508))), (((0, 480), 56), .inr (3, (0, 509)))], 0, 0, 74, [(4, .inr (0, (10, 1))), (0, .inr (3, (0, 480))), (1, .inr (0, (8, 0))), (3, .inr (0, (9, 0)))], []), [], [], [(0, 0), (0, 0), (0, 0), (0, 0), (0, 0), (0, 0), (0, 0), (0, 0), (8, 0), (9, 0), (10, 1)], 3)
noncomputable def rxeKC_3_0 : rx_End × List (Nat × Int × Int) := (([(0, 0), (0, 0), (0, 0), (0, 0), (0, 0), (0, 0), (0, 0), (0, 0), (0, 6), (0, 6), (0, 6), ((-2147483648), 2147483647), (0, 6), ((-2147483648), 2147483647)], [(2, (9, 0), (12, 0)), (1, (8, 0), (10, 0))], [(((0, 0), 1851192626986356809266036030796780206266484417802323137512079363000000), .inr (0, (13, 0))), (((0, 480), 59), .inr (0, (13, 0))), (((0, 0), 1851192626986356809065329324010004597992662953348487883958255616000000), .inr (0, (12, 0))), (((0, 480), 58), .inr (0, (12, 0))), (((0, 0), 1851192626986356809266036030796780206266484417802323137512079360000000), .inr (0, (11, 0)))], none), [])
noncomputable def rxeKC_3_1 : rx_End × List (Nat × Int × Int) := (([(0, 0), (0, 0), (0, 0), (0, 0), (0, 0), (0, 0), (0, 0), (0, 0), (0, 6), (0, 6), (0, 6), ((-2147483648), 2147483647), (0, 1000000)], [(3, (9, 0), (12, 0)), (1, (8, 0), (10, 0))], [(((0, 0), 1851192626986356809266036030796780206266484417802323137512079363000000), .inr (0, (11, 0))), (((0, 480), 59), .inr (0, (11, 0))), (((0, 0), 1851192626986356809065329324010004597992662953348487883958255616000000), .inr (0, (12, 0))), (((0, 480), 58), .inr (0, (12, 0))), (((0, 0), 1851192626986356809266036030796780206266484417802323137512079360000000), .inr (0, (11, 0)))], none), [])
noncomputable def rxYKC : List bx_HE := [(rxzKC_0, [rxoKC_0_0], []), (rxzKC_1, [rxoKC_1_0, rxoKC_1_1, rxoKC_1_2], [rxeKC_1_0, rxeKC_1_1]), (rxzKC_2, [rxoKC_2_0], []), (rxzKC_3, [rxoKC_3_0], [rxeKC_3_0, rxeKC_3_1])]
noncomputable def rxUKC (q : bx_HE) : Bool := false
noncomputable def rxYBKC : bx_B := (rxV, rxNP, rxDmf, bx_mdH rxCKC.2.2.1)
set_option maxRecDepth 100000 in
theorem rxYcKC : bx_chkH rxYBKC rxM315 rxCKC rxYKC (rxUKC, fun cut z => rx_ex2 (rxCT rxYBKC rxCnE) cut 30000 rxCKC.2.2.2.1 315 z) = true := by decide +kernel
noncomputable def rxIKC (S0 : Nat → Int → Int) (ws : List Int) (i : Nat) : bx_SP := fun S r => match i with | 0 => rxIKC_0 S0 ws S (r 8) | 1 => rxIKC_1 S0 ws S (r 8) (r 9) (r 10) (r 11) | 2 => rxIKC_2 S0 ws S (r 8) (r 9) (r 10) (r 11) | 3 => rxIKC_3 S0 ws S (r 8) (r 9) (r 10) | _ => False
noncomputable def rxmKC (S0 : Nat → Int → Int) (ws : List Int) (i : Nat) (S : Nat → Int → Int) (r : Nat → Int) : Nat := match i with | 0 => rxmKC_0 S0 ws S (r 8) | 1 => rxmKC_1 S0 ws S (r 8) (r 9) (r 10) (r 11) | 2 => rxmKC_2 S0 ws S (r 8) (r 9) (r 10) (r 11) | 3 => rxmKC_3 S0 ws S (r 8) (r 9) (r 10) | _ => 0
noncomputable def rxPKC (S0 : Nat → Int → Int) (ws : List Int) : Prop := True
noncomputable def rxPSKC (S0 : Nat → Int → Int) (ws : List Int) (S : Nat → Int → Int) (w : Option Int) : Prop := w = none ∧ True
theorem rxcKC_0_0 {S0 : Nat → Int → Int} {ws : List Int} {S : Nat → Int → Int} {parts : Int} (hP : rxPKC S0 ws) (hin : bx_same rxL (bx_mdl rxCKC.2.2.1) S0 S) (I0 : bx_Inv rxL S) (hinv : rxIKC_0 S0 ws S parts) (l8 : 0 ≤ parts) (u8 : parts ≤ 6) : (True) ∧ (True) ∧ rxIKC_1 S0 ws S parts 0 0 0 ∧ rxmKC_1 S0 ws S parts 0 0 0 < rxmKC_0 S0 ws S parts := by
  exact ⟨trivial, trivial, by show (0 : Int) ≤ 0; omega, by unfold rxmKC_0 rxmKC_1; omega⟩
theorem rxgKC_0_0 {X : (Nat → Int → Int) → Prop} {S0 : Nat → Int → Int} {ws : List Int} (hP : rxPKC S0 ws) : bx_obC rxL X S0 rxCKC.2.2.1 (rxIKC S0 ws) (rxmKC S0 ws) 0 rxzKC_0 rxoKC_0_0 := by
  intro S S_p r r_p hinv hX hin hsm_ hseg
  obtain ⟨I0, I1, h0_, hr_, b_, f_, d_⟩ := bx_cl (evs := []) (fvs := []) hseg (by decide +kernel) (by decide +kernel)
  have hinv : rxIKC_0 S0 ws S (r 8) := hinv
  rw [← hr_ 8 (by decide)] at hinv
  obtain ⟨⟨l8, u8⟩, -⟩ := b_
  have w_ := d_
  subst w_
  have g := rxcKC_0_0 hP hin I0 hinv l8 u8
  refine ⟨bx_narP_ok (l := []) g.1, bx_nfP_ok h0_ (fvs := []) (by decide +kernel) g.2.1, ?_, ?_⟩
  · show rxIKC_1 S0 ws S_p (bx_val [(0, 0), (0, 0), (0, 0), (0, 0), (0, 0), (0, 0), (0, 0), (0, 0), (8, 0), (0, 0), (0, 0), (0, 0)] r_p 8) (bx_val [(0, 0), (0, 0), (0, 0), (0, 0), (0, 0), (0, 0), (0, 0), (0, 0), (8, 0), (0, 0), (0, 0), (0, 0)] r_p 9) (bx_val [(0, 0), (0, 0), (0, 0), (0, 0), (0, 0), (0, 0), (0, 0), (0, 0), (8, 0), (0, 0), (0, 0), (0, 0)] r_p 10) (bx_val [(0, 0), (0, 0), (0, 0), (0, 0), (0, 0), (0, 0), (0, 0), (0, 0), (8, 0), (0, 0), (0, 0), (0, 0)] r_p 11)
    rw [bx_val_x (n := 8) (e := (8, 0)) h0_ rfl, bx_val_x (n := 9) (e := (0, 0)) h0_ rfl, bx_val_x (n := 10) (e := (0, 0)) h0_ rfl, bx_val_x (n := 11) (e := (0, 0)) h0_ rfl]
    exact g.2.2.1
  · show rxmKC_1 S0 ws S_p (bx_val [(0, 0), (0, 0), (0, 0), (0, 0), (0, 0), (0, 0), (0, 0), (0, 0), (8, 0), (0, 0), (0, 0), (0, 0)] r_p 8) (bx_val [(0, 0), (0, 0), (0, 0), (0, 0), (0, 0), (0, 0), (0, 0), (0, 0), (8, 0), (0, 0), (0, 0), (0, 0)] r_p 9) (bx_val [(0, 0), (0, 0), (0, 0), (0, 0), (0, 0), (0, 0), (0, 0), (0, 0), (8, 0), (0, 0), (0, 0), (0, 0)] r_p 10) (bx_val [(0, 0), (0, 0), (0, 0), (0, 0), (0, 0), (0, 0), (0, 0), (0, 0), (8, 0), (0, 0), (0, 0), (0, 0)] r_p 11) < rxmKC_0 S0 ws S_p (r 8)
    rw [bx_val_x (n := 8) (e := (8, 0)) h0_ rfl, bx_val_x (n := 9) (e := (0, 0)) h0_ rfl, bx_val_x (n := 10) (e := (0, 0)) h0_ rfl, bx_val_x (n := 11) (e := (0, 0)) h0_ rfl, ← hr_ 8 (by decide)]
    exact g.2.2.2
theorem rxcKC_1_0 {S0 : Nat → Int → Int} {ws : List Int} {S : Nat → Int → Int} {parts used n k x12 x13 x14 : Int} (hP : rxPKC S0 ws) (hin : bx_same rxL (bx_mdl rxCKC.2.2.1) S0 S) (I0 : bx_Inv rxL S) (hinv : rxIKC_1 S0 ws S parts used n k) (l8 : 1 ≤ parts) (u8 : parts ≤ 6) (l9 : (-2147483648) ≤ used) (u9 : used ≤ 2147483647) (l10 : 0 ≤ n) (u10 : n ≤ 6) (l11 : 0 ≤ k) (u11 : k ≤ 5) (l12 : (-1) ≤ x12) (u12 : x12 ≤ 8) (l13 : (-2147483648) ≤ x13) (u13 : x13 ≤ 2147483647) (l14 : 0 ≤ x14) (u14 : x14 ≤ 0) (f0 : x14 ≠ 1) (f1 : x14 ≤ 1) (f2 : k < parts) (e0 : S 508 k = x12) : (((-1) ≤ n ∧ n ≤ 5) ∧ True) ∧ (True) ∧ rxIKC_2 S0 ws S parts used k (n + 1) ∧ rxmKC_2 S0 ws S parts used k (n + 1) < rxmKC_1 S0 ws S parts used n k := by
  have h : n ≤ k := hinv
  exact ⟨⟨by omega, trivial⟩, trivial, by show n + 1 ≤ k + 1; omega, by unfold rxmKC_1 rxmKC_2; omega⟩
theorem rxgKC_1_0 {X : (Nat → Int → Int) → Prop} {S0 : Nat → Int → Int} {ws : List Int} (hP : rxPKC S0 ws) : bx_obC rxL X S0 rxCKC.2.2.1 (rxIKC S0 ws) (rxmKC S0 ws) 1 rxzKC_1 rxoKC_1_0 := by
  intro S S_p r r_p hinv hX hin hsm_ hseg
  obtain ⟨I0, I1, h0_, hr_, b_, f_, d_⟩ := bx_cl (evs := [(0, (0, 508), (11, 0), .inr (0, (12, 0)))]) (fvs := [(3, (14, 0), (0, 1), (0, 0)), (1, (14, 0), (0, 1), (0, 0)), (0, (11, 0), (8, 0), (0, 0))]) hseg (by decide +kernel) (by decide +kernel)
  have hinv : rxIKC_1 S0 ws S (r 8) (r 9) (r 10) (r 11) := hinv
  rw [← hr_ 8 (by decide), ← hr_ 9 (by decide), ← hr_ 10 (by decide), ← hr_ 11 (by decide)] at hinv
  obtain ⟨⟨l8, u8⟩, ⟨l9, u9⟩, ⟨l10, u10⟩, ⟨l11, u11⟩, ⟨l12, u12⟩, ⟨l13, u13⟩, ⟨l14, u14⟩, -⟩ := b_
  obtain ⟨f0, f1, f2, -⟩ := f_
  obtain ⟨e0, w_⟩ := d_
  subst w_
  have g := rxcKC_1_0 hP hin I0 hinv l8 u8 l9 u9 l10 u10 l11 u11 l12 u12 l13 u13 l14 u14 f0 f1 f2 e0
  refine ⟨bx_narP_ok (l := [(10, (-1), 5)]) g.1, bx_nfP_ok h0_ (fvs := []) (by decide +kernel) g.2.1, ?_, ?_⟩
  · show rxIKC_2 S0 ws S_p (bx_val [(0, 0), (0, 0), (0, 0), (0, 0), (0, 0), (0, 0), (0, 0), (0, 0), (8, 0), (9, 0), (11, 0), (10, 1)] r_p 8) (bx_val [(0, 0), (0, 0), (0, 0), (0, 0), (0, 0), (0, 0), (0, 0), (0, 0), (8, 0), (9, 0), (11, 0), (10, 1)] r_p 9) (bx_val [(0, 0), (0, 0), (0, 0), (0, 0), (0, 0), (0, 0), (0, 0), (0, 0), (8, 0), (9, 0), (11, 0), (10, 1)] r_p 10) (bx_val [(0, 0), (0, 0), (0, 0), (0, 0), (0, 0), (0, 0), (0, 0), (0, 0), (8, 0), (9, 0), (11, 0), (10, 1)] r_p 11)
    rw [bx_val_x (n := 8) (e := (8, 0)) h0_ rfl, bx_val_x (n := 9) (e := (9, 0)) h0_ rfl, bx_val_x (n := 10) (e := (11, 0)) h0_ rfl, bx_val_x (n := 11) (e := (10, 1)) h0_ rfl]
    exact g.2.2.1
  · show rxmKC_2 S0 ws S_p (bx_val [(0, 0), (0, 0), (0, 0), (0, 0), (0, 0), (0, 0), (0, 0), (0, 0), (8, 0), (9, 0), (11, 0), (10, 1)] r_p 8) (bx_val [(0, 0), (0, 0), (0, 0), (0, 0), (0, 0), (0, 0), (0, 0), (0, 0), (8, 0), (9, 0), (11, 0), (10, 1)] r_p 9) (bx_val [(0, 0), (0, 0), (0, 0), (0, 0), (0, 0), (0, 0), (0, 0), (0, 0), (8, 0), (9, 0), (11, 0), (10, 1)] r_p 10) (bx_val [(0, 0), (0, 0), (0, 0), (0, 0), (0, 0), (0, 0), (0, 0), (0, 0), (8, 0), (9, 0), (11, 0), (10, 1)] r_p 11) < rxmKC_1 S0 ws S_p (r 8) (r 9) (r 10) (r 11)
    rw [bx_val_x (n := 8) (e := (8, 0)) h0_ rfl, bx_val_x (n := 9) (e := (9, 0)) h0_ rfl, bx_val_x (n := 10) (e := (11, 0)) h0_ rfl, bx_val_x (n := 11) (e := (10, 1)) h0_ rfl, ← hr_ 8 (by decide), ← hr_ 9 (by decide), ← hr_ 10 (by decide), ← hr_ 11 (by decide)]
    exact g.2.2.2
theorem rxcKC_1_1 {S0 : Nat → Int → Int} {ws : List Int} {S : Nat → Int → Int} {parts used n k x12 x13 x14 : Int} (hP : rxPKC S0 ws) (hin : bx_same rxL (bx_mdl rxCKC.2.2.1) S0 S) (I0 : bx_Inv rxL S) (hinv : rxIKC_1 S0 ws S parts used n k) (l8 : 1 ≤ parts) (u8 : parts ≤ 6) (l9 : (-2147483648) ≤ used) (u9 : used ≤ 2147483647) (l10 : 0 ≤ n) (u10 : n ≤ 6) (l11 : 0 ≤ k) (u11 : k ≤ 5) (l12 : (-1) ≤ x12) (u12 : x12 ≤ 8) (l13 : (-2147483648) ≤ x13) (u13 : x13 ≤ 2147483647) (l14 : 1 ≤ x14) (u14 : x14 ≤ 1) (f0 : x14 ≤ 1) (f1 : k < parts) (e0 : S 508 k = x12) : (True) ∧ (True) ∧ rxIKC_2 S0 ws S parts used k n ∧ rxmKC_2 S0 ws S parts used k n < rxmKC_1 S0 ws S parts used n k := by
  have h : n ≤ k := hinv
  exact ⟨trivial, trivial, by show n ≤ k + 1; omega, by unfold rxmKC_1 rxmKC_2; omega⟩
theorem rxgKC_1_1 {X : (Nat → Int → Int) → Prop} {S0 : Nat → Int → Int} {ws : List Int} (hP : rxPKC S0 ws) : bx_obC rxL X S0 rxCKC.2.2.1 (rxIKC S0 ws) (rxmKC S0 ws) 1 rxzKC_1 rxoKC_1_1 := by
  intro S S_p r r_p hinv hX hin hsm_ hseg
  obtain ⟨I0, I1, h0_, hr_, b_, f_, d_⟩ := bx_cl (evs := [(0, (0, 508), (11, 0), .inr (0, (12, 0)))]) (fvs := [(1, (14, 0), (0, 1), (0, 0)), (0, (11, 0), (8, 0), (0, 0))]) hseg (by decide +kernel) (by decide +kernel)
  have hinv : rxIKC_1 S0 ws S (r 8) (r 9) (r 10) (r 11) := hinv
  rw [← hr_ 8 (by decide), ← hr_ 9 (by decide), ← hr_ 10 (by decide), ← hr_ 11 (by decide)] at hinv
  obtain ⟨⟨l8, u8⟩, ⟨l9, u9⟩, ⟨l10, u10⟩, ⟨l11, u11⟩, ⟨l12, u12⟩, ⟨l13, u13⟩, ⟨l14, u14⟩, -⟩ := b_
  obtain ⟨f0, f1, -⟩ := f_
  obtain ⟨e0, w_⟩ := d_
  subst w_
  have g := rxcKC_1_1 hP hin I0 hinv l8 u8 l9 u9 l10 u10 l11 u11 l12 u12 l13 u13 l14 u14 f0 f1 e0
  refine ⟨bx_narP_ok (l := []) g.1, bx_nfP_ok h0_ (fvs := []) (by decide +kernel) g.2.1, ?_, ?_⟩
  · show rxIKC_2 S0 ws S_p (bx_val [(0, 0), (0, 0), (0, 0), (0, 0), (0, 0), (0, 0), (0, 0), (0, 0), (8, 0), (9, 0), (11, 0), (10, 0)] r_p 8) (bx_val [(0, 0), (0, 0), (0, 0), (0, 0), (0, 0), (0, 0), (0, 0), (0, 0), (8, 0), (9, 0), (11, 0), (10, 0)] r_p 9) (bx_val [(0, 0), (0, 0), (0, 0), (0, 0), (0, 0), (0, 0), (0, 0), (0, 0), (8, 0), (9, 0), (11, 0), (10, 0)] r_p 10) (bx_val [(0, 0), (0, 0), (0, 0), (0, 0), (0, 0), (0, 0), (0, 0), (0, 0), (8, 0), (9, 0), (11, 0), (10, 0)] r_p 11)
    rw [bx_val_x (n := 8) (e := (8, 0)) h0_ rfl, bx_val_x (n := 9) (e := (9, 0)) h0_ rfl, bx_val_x (n := 10) (e := (11, 0)) h0_ rfl, bx_val_x (n := 11) (e := (10, 0)) h0_ rfl]
    exact g.2.2.1
  · show rxmKC_2 S0 ws S_p (bx_val [(0, 0), (0, 0), (0, 0), (0, 0), (0, 0), (0, 0), (0, 0), (0, 0), (8, 0), (9, 0), (11, 0), (10, 0)] r_p 8) (bx_val [(0, 0), (0, 0), (0, 0), (0, 0), (0, 0), (0, 0), (0, 0), (0, 0), (8, 0), (9, 0), (11, 0), (10, 0)] r_p 9) (bx_val [(0, 0), (0, 0), (0, 0), (0, 0), (0, 0), (0, 0), (0, 0), (0, 0), (8, 0), (9, 0), (11, 0), (10, 0)] r_p 10) (bx_val [(0, 0), (0, 0), (0, 0), (0, 0), (0, 0), (0, 0), (0, 0), (0, 0), (8, 0), (9, 0), (11, 0), (10, 0)] r_p 11) < rxmKC_1 S0 ws S_p (r 8) (r 9) (r 10) (r 11)
    rw [bx_val_x (n := 8) (e := (8, 0)) h0_ rfl, bx_val_x (n := 9) (e := (9, 0)) h0_ rfl, bx_val_x (n := 10) (e := (11, 0)) h0_ rfl, bx_val_x (n := 11) (e := (10, 0)) h0_ rfl, ← hr_ 8 (by decide), ← hr_ 9 (by decide), ← hr_ 10 (by decide), ← hr_ 11 (by decide)]
    exact g.2.2.2
theorem rxcKC_1_2 {S0 : Nat → Int → Int} {ws : List Int} {S : Nat → Int → Int} {parts used n k x12 : Int} (hP : rxPKC S0 ws) (hin : bx_same rxL (bx_mdl rxCKC.2.2.1) S0 S) (I0 : bx_Inv rxL S) (hinv : rxIKC_1 S0 ws S parts used n k) (l8 : 0 ≤ parts) (u8 : parts ≤ 6) (l9 : (-2147483648) ≤ used) (u9 : used ≤ 2147483647) (l10 : 0 ≤ n) (u10 : n ≤ 6) (l11 : 0 ≤ k) (u11 : k ≤ 6) (l12 : 1 ≤ x12) (u12 : x12 ≤ 1000000) (f0 : n < x12) (f1 : parts ≤ k) (e2 : S 480 58 = x12) : (True) ∧ (True) ∧ rxIKC_3 S0 ws (bx_up (bx_up S 480 58 n) 480 59 0) parts n 0 ∧ rxmKC_3 S0 ws (bx_up (bx_up S 480 58 n) 480 59 0) parts n 0 < rxmKC_1 S0 ws S parts used n k := by
  exact ⟨trivial, trivial, trivial, by unfold rxmKC_1 rxmKC_3; omega⟩
theorem rxgKC_1_2 {X : (Nat → Int → Int) → Prop} {S0 : Nat → Int → Int} {ws : List Int} (hP : rxPKC S0 ws) : bx_obC rxL X S0 rxCKC.2.2.1 (rxIKC S0 ws) (rxmKC S0 ws) 1 rxzKC_1 rxoKC_1_2 := by
  intro S S_p r r_p hinv hX hin hsm_ hseg
  obtain ⟨I0, I1, h0_, hr_, b_, f_, d_⟩ := bx_cl (evs := [(1, (0, 480), (0, 59), .inr (0, (0, 0))), (1, (0, 480), (0, 58), .inr (0, (10, 0))), (0, (0, 480), (0, 58), .inr (0, (12, 0)))]) (fvs := [(0, (10, 0), (12, 0), (0, 0)), (1, (8, 0), (11, 0), (0, 0))]) hseg (by decide +kernel) (by decide +kernel)
  have hinv : rxIKC_1 S0 ws S (r 8) (r 9) (r 10) (r 11) := hinv
  rw [← hr_ 8 (by decide), ← hr_ 9 (by decide), ← hr_ 10 (by decide), ← hr_ 11 (by decide)] at hinv
  obtain ⟨⟨l8, u8⟩, ⟨l9, u9⟩, ⟨l10, u10⟩, ⟨l11, u11⟩, ⟨l12, u12⟩, -⟩ := b_
  obtain ⟨f0, f1, -⟩ := f_
  obtain ⟨T0, ⟨T1, ⟨e2, w_⟩, w1⟩, w0⟩ := d_
  subst w0
  subst w1
  subst w_
  have g := rxcKC_1_2 hP hin I0 hinv l8 u8 l9 u9 l10 u10 l11 u11 l12 u12 f0 f1 e2
  refine ⟨bx_narP_ok (l := []) g.1, bx_nfP_ok h0_ (fvs := []) (by decide +kernel) g.2.1, ?_, ?_⟩
  · show rxIKC_3 S0 ws (bx_up (bx_up T1 480 (58) (r_p 10)) 480 (59) (0)) (bx_val [(0, 0), (0, 0), (0, 0), (0, 0), (0, 0), (0, 0), (0, 0), (0, 0), (8, 0), (10, 0), (0, 0)] r_p 8) (bx_val [(0, 0), (0, 0), (0, 0), (0, 0), (0, 0), (0, 0), (0, 0), (0, 0), (8, 0), (10, 0), (0, 0)] r_p 9) (bx_val [(0, 0), (0, 0), (0, 0), (0, 0), (0, 0), (0, 0), (0, 0), (0, 0), (8, 0), (10, 0), (0, 0)] r_p 10)
    rw [bx_val_x (n := 8) (e := (8, 0)) h0_ rfl, bx_val_x (n := 9) (e := (10, 0)) h0_ rfl, bx_val_x (n := 10) (e := (0, 0)) h0_ rfl]
    exact g.2.2.1
  · show rxmKC_3 S0 ws (bx_up (bx_up T1 480 (58) (r_p 10)) 480 (59) (0)) (bx_val [(0, 0), (0, 0), (0, 0), (0, 0), (0, 0), (0, 0), (0, 0), (0, 0), (8, 0), (10, 0), (0, 0)] r_p 8) (bx_val [(0, 0), (0, 0), (0, 0), (0, 0), (0, 0), (0, 0), (0, 0), (0, 0), (8, 0), (10, 0), (0, 0)] r_p 9) (bx_val [(0, 0), (0, 0), (0, 0), (0, 0), (0, 0), (0, 0), (0, 0), (0, 0), (8, 0), (10, 0), (0, 0)] r_p 10) < rxmKC_1 S0 ws T1 (r 8) (r 9) (r 10) (r 11)
    rw [bx_val_x (n := 8) (e := (8, 0)) h0_ rfl, bx_val_x (n := 9) (e := (10, 0)) h0_ rfl, bx_val_x (n := 10) (e := (0, 0)) h0_ rfl, ← hr_ 8 (by decide), ← hr_ 9 (by decide), ← hr_ 10 (by decide), ← hr_ 11 (by decide)]
    exact g.2.2.2
theorem rxdKC_1_0 {S0 : Nat → Int → Int} {ws : List Int} {S : Nat → Int → Int} {parts used n k x12 x13 x14 : Int} (hP : rxPKC S0 ws) (hin : bx_same rxL (bx_mdl rxCKC.2.2.1) S0 S) (hin2 : bx_same rxL (bx_mdl rxCKC.2.2.1) S (bx_up S 480 59 x14)) (I0 : bx_Inv rxL S) (I1 : bx_Inv rxL (bx_up S 480 59 x14)) (hinv : rxIKC_1 S0 ws S parts used n k) (l8 : 0 ≤ parts) (u8 : parts ≤ 6) (l9 : (-2147483648) ≤ used) (u9 : used ≤ 2147483647) (l10 : 0 ≤ n) (u10 : n ≤ 6) (l11 : 0 ≤ k) (u11 : k ≤ 6) (l12 : 0 ≤ x12) (u12 : x12 ≤ 6) (l13 : (-2147483648) ≤ x13) (u13 : x13 ≤ 2147483647) (l14 : (-2147483648) ≤ x14) (u14 : x14 ≤ 2147483647) (f0 : n = x12) (f1 : x12 ≤ n) (f2 : parts ≤ k) (e2 : S 480 58 = x12) (e1 : S 480 59 = x13) : (True) ∧ rxPSKC S0 ws (bx_up S 480 59 x14) none := by
  exact ⟨trivial, rfl, trivial⟩
theorem rxfKC_1_0 {X : (Nat → Int → Int) → Prop} {S0 : Nat → Int → Int} {ws : List Int} (hP : rxPKC S0 ws) : bx_obE rxL X S0 rxCKC.2.2.1 (rxIKC S0 ws) (rxPSKC S0 ws) 1 rxzKC_1 rxeKC_1_0 := by
  intro S S_p r r_p hinv hX hin hsm_ hseg
  obtain ⟨I0, I1, h0_, hr_, b_, f_, d_⟩ := bx_cl (evs := [(1, (0, 480), (0, 59), .inr (0, (14, 0))), (0, (0, 480), (0, 59), .inr (0, (13, 0))), (0, (0, 480), (0, 58), .inr (0, (12, 0)))]) (fvs := [(2, (10, 0), (12, 0), (0, 0)), (1, (12, 0), (10, 0), (0, 0)), (1, (8, 0), (11, 0), (0, 0))]) hseg (by decide +kernel) (by decide +kernel)
  have hinv : rxIKC_1 S0 ws S (r 8) (r 9) (r 10) (r 11) := hinv
  rw [← hr_ 8 (by decide), ← hr_ 9 (by decide), ← hr_ 10 (by decide), ← hr_ 11 (by decide)] at hinv
  obtain ⟨⟨l8, u8⟩, ⟨l9, u9⟩, ⟨l10, u10⟩, ⟨l11, u11⟩, ⟨l12, u12⟩, ⟨l13, u13⟩, ⟨l14, u14⟩, -⟩ := b_
  obtain ⟨f0, f1, f2, -⟩ := f_
  obtain ⟨T0, ⟨e1, ⟨e2, w_⟩⟩, w0⟩ := d_
  subst w0
  subst w_
  have g := rxdKC_1_0 hP hin hsm_ I0 I1 hinv l8 u8 l9 u9 l10 u10 l11 u11 l12 u12 l13 u13 l14 u14 f0 f1 f2 e2 e1
  refine ⟨bx_narP_ok (l := []) g.1, ?_⟩
  exact g.2
theorem rxdKC_1_1 {S0 : Nat → Int → Int} {ws : List Int} {S : Nat → Int → Int} {parts used n k x12 x13 : Int} (hP : rxPKC S0 ws) (hin : bx_same rxL (bx_mdl rxCKC.2.2.1) S0 S) (hin2 : bx_same rxL (bx_mdl rxCKC.2.2.1) S (bx_up S 480 59 x13)) (I0 : bx_Inv rxL S) (I1 : bx_Inv rxL (bx_up S 480 59 x13)) (hinv : rxIKC_1 S0 ws S parts used n k) (l8 : 0 ≤ parts) (u8 : parts ≤ 6) (l9 : (-2147483648) ≤ used) (u9 : used ≤ 2147483647) (l10 : 0 ≤ n) (u10 : n ≤ 6) (l11 : 0 ≤ k) (u11 : k ≤ 6) (l12 : 0 ≤ x12) (u12 : x12 ≤ 6) (l13 : (-2147483648) ≤ x13) (u13 : x13 ≤ 2147483647) (f0 : n ≠ x12) (f1 : x12 ≤ n) (f2 : parts ≤ k) (e2 : S 480 58 = x12) (e1 : S 480 59 = x13) : (True) ∧ rxPSKC S0 ws (bx_up S 480 59 x13) none := by
  exact ⟨trivial, rfl, trivial⟩
theorem rxfKC_1_1 {X : (Nat → Int → Int) → Prop} {S0 : Nat → Int → Int} {ws : List Int} (hP : rxPKC S0 ws) : bx_obE rxL X S0 rxCKC.2.2.1 (rxIKC S0 ws) (rxPSKC S0 ws) 1 rxzKC_1 rxeKC_1_1 := by
  intro S S_p r r_p hinv hX hin hsm_ hseg
  obtain ⟨I0, I1, h0_, hr_, b_, f_, d_⟩ := bx_cl (evs := [(1, (0, 480), (0, 59), .inr (0, (13, 0))), (0, (0, 480), (0, 59), .inr (0, (13, 0))), (0, (0, 480), (0, 58), .inr (0, (12, 0)))]) (fvs := [(3, (10, 0), (12, 0), (0, 0)), (1, (12, 0), (10, 0), (0, 0)), (1, (8, 0), (11, 0), (0, 0))]) hseg (by decide +kernel) (by decide +kernel)
  have hinv : rxIKC_1 S0 ws S (r 8) (r 9) (r 10) (r 11) := hinv
  rw [← hr_ 8 (by decide), ← hr_ 9 (by decide), ← hr_ 10 (by decide), ← hr_ 11 (by decide)] at hinv
  obtain ⟨⟨l8, u8⟩, ⟨l9, u9⟩, ⟨l10, u10⟩, ⟨l11, u11⟩, ⟨l12, u12⟩, ⟨l13, u13⟩, -⟩ := b_
  obtain ⟨f0, f1, f2, -⟩ := f_
  obtain ⟨T0, ⟨e1, ⟨e2, w_⟩⟩, w0⟩ := d_
  subst w0
  subst w_
  have g := rxdKC_1_1 hP hin hsm_ I0 I1 hinv l8 u8 l9 u9 l10 u10 l11 u11 l12 u12 l13 u13 f0 f1 f2 e2 e1
  refine ⟨bx_narP_ok (l := []) g.1, ?_⟩
  exact g.2
theorem rxcKC_2_0 {S0 : Nat → Int → Int} {ws : List Int} {S : Nat → Int → Int} {parts used k n x12 x13 x14 : Int} (hP : rxPKC S0 ws) (hin : bx_same rxL (bx_mdl rxCKC.2.2.1) S0 S) (I0 : bx_Inv rxL S) (hinv : rxIKC_2 S0 ws S parts used k n) (l8 : 0 ≤ parts) (u8 : parts ≤ 6) (l9 : (-2147483648) ≤ used) (u9 : used ≤ 2147483647) (l10 : 0 ≤ k) (u10 : k ≤ 5) (l11 : 0 ≤ n) (u11 : n ≤ 6) (l12 : (-1) ≤ x12) (u12 : x12 ≤ 8) (l13 : (-2147483648) ≤ x13) (u13 : x13 ≤ 2147483647) (l14 : (-2147483648) ≤ x14) (u14 : x14 ≤ 2147483647) (e0 : S 508 k = x12) : (True) ∧ (True) ∧ rxIKC_1 S0 ws S parts x14 n (k + 1) ∧ rxmKC_1 S0 ws S parts x14 n (k + 1) < rxmKC_2 S0 ws S parts used k n := by
  exact ⟨trivial, trivial, hinv, by unfold rxmKC_1 rxmKC_2; omega⟩
theorem rxgKC_2_0 {X : (Nat → Int → Int) → Prop} {S0 : Nat → Int → Int} {ws : List Int} (hP : rxPKC S0 ws) : bx_obC rxL X S0 rxCKC.2.2.1 (rxIKC S0 ws) (rxmKC S0 ws) 2 rxzKC_2 rxoKC_2_0 := by
  intro S S_p r r_p hinv hX hin hsm_ hseg
  obtain ⟨I0, I1, h0_, hr_, b_, f_, d_⟩ := bx_cl (evs := [(0, (0, 508), (10, 0), .inr (0, (12, 0)))]) (fvs := []) hseg (by decide +kernel) (by decide +kernel)
  have hinv : rxIKC_2 S0 ws S (r 8) (r 9) (r 10) (r 11) := hinv
  rw [← hr_ 8 (by decide), ← hr_ 9 (by decide), ← hr_ 10 (by decide), ← hr_ 11 (by decide)] at hinv
  obtain ⟨⟨l8, u8⟩, ⟨l9, u9⟩, ⟨l10, u10⟩, ⟨l11, u11⟩, ⟨l12, u12⟩, ⟨l13, u13⟩, ⟨l14, u14⟩, -⟩ := b_
  obtain ⟨e0, w_⟩ := d_
  subst w_
  have g := rxcKC_2_0 hP hin I0 hinv l8 u8 l9 u9 l10 u10 l11 u11 l12 u12 l13 u13 l14 u14 e0
  refine ⟨bx_narP_ok (l := []) g.1, bx_nfP_ok h0_ (fvs := []) (by decide +kernel) g.2.1, ?_, ?_⟩
  · show rxIKC_1 S0 ws S_p (bx_val [(0, 0), (0, 0), (0, 0), (0, 0), (0, 0), (0, 0), (0, 0), (0, 0), (8, 0), (14, 0), (11, 0), (10, 1)] r_p 8) (bx_val [(0, 0), (0, 0), (0, 0), (0, 0), (0, 0), (0, 0), (0, 0), (0, 0), (8, 0), (14, 0), (11, 0), (10, 1)] r_p 9) (bx_val [(0, 0), (0, 0), (0, 0), (0, 0), (0, 0), (0, 0), (0, 0), (0, 0), (8, 0), (14, 0), (11, 0), (10, 1)] r_p 10) (bx_val [(0, 0), (0, 0), (0, 0), (0, 0), (0, 0), (0, 0), (0, 0), (0, 0), (8, 0), (14, 0), (11, 0), (10, 1)] r_p 11)
    rw [bx_val_x (n := 8) (e := (8, 0)) h0_ rfl, bx_val_x (n := 9) (e := (14, 0)) h0_ rfl, bx_val_x (n := 10) (e := (11, 0)) h0_ rfl, bx_val_x (n := 11) (e := (10, 1)) h0_ rfl]
    exact g.2.2.1
  · show rxmKC_1 S0 ws S_p (bx_val [(0, 0), (0, 0), (0, 0), (0, 0), (0, 0), (0, 0), (0, 0), (0, 0), (8, 0), (14, 0), (11, 0), (10, 1)] r_p 8) (bx_val [(0, 0), (0, 0), (0, 0), (0, 0), (0, 0), (0, 0), (0, 0), (0, 0), (8, 0), (14, 0), (11, 0), (10, 1)] r_p 9) (bx_val [(0, 0), (0, 0), (0, 0), (0, 0), (0, 0), (0, 0), (0, 0), (0, 0), (8, 0), (14, 0), (11, 0), (10, 1)] r_p 10) (bx_val [(0, 0), (0, 0), (0, 0), (0, 0), (0, 0), (0, 0), (0, 0), (0, 0), (8, 0), (14, 0), (11, 0), (10, 1)] r_p 11) < rxmKC_2 S0 ws S_p (r 8) (r 9) (r 10) (r 11)
    rw [bx_val_x (n := 8) (e := (8, 0)) h0_ rfl, bx_val_x (n := 9) (e := (14, 0)) h0_ rfl, bx_val_x (n := 10) (e := (11, 0)) h0_ rfl, bx_val_x (n := 11) (e := (10, 1)) h0_ rfl, ← hr_ 8 (by decide), ← hr_ 9 (by decide), ← hr_ 10 (by decide), ← hr_ 11 (by decide)]
    exact g.2.2.2
theorem rxcKC_3_0 {S0 : Nat → Int → Int} {ws : List Int} {S : Nat → Int → Int} {parts n k x11 : Int} (hP : rxPKC S0 ws) (hin : bx_same rxL (bx_mdl rxCKC.2.2.1) S0 S) (I0 : bx_Inv rxL S) (hinv : rxIKC_3 S0 ws S parts n k) (l8 : 1 ≤ parts) (u8 : parts ≤ 6) (l9 : 0 ≤ n) (u9 : n ≤ 6) (l10 : 0 ≤ k) (u10 : k ≤ 5) (l11 : (-1) ≤ x11) (u11 : x11 ≤ 8) (f0 : k < parts) (e1 : S 508 k = x11) : (True) ∧ (True) ∧ rxIKC_3 S0 ws (bx_up S 509 k x11) parts n (k + 1) ∧ rxmKC_3 S0 ws (bx_up S 509 k x11) parts n (k + 1) < rxmKC_3 S0 ws S parts n k := by
  exact ⟨trivial, trivial, trivial, by unfold rxmKC_3; omega⟩
theorem rxgKC_3_0 {X : (Nat → Int → Int) → Prop} {S0 : Nat → Int → Int} {ws : List Int} (hP : rxPKC S0 ws) : bx_obC rxL X S0 rxCKC.2.2.1 (rxIKC S0 ws) (rxmKC S0 ws) 3 rxzKC_3 rxoKC_3_0 := by
  intro S S_p r r_p hinv hX hin hsm_ hseg
  obtain ⟨I0, I1, h0_, hr_, b_, f_, d_⟩ := bx_cl (evs := [(1, (0, 509), (10, 0), .inr (0, (11, 0))), (0, (0, 508), (10, 0), .inr (0, (11, 0)))]) (fvs := [(0, (10, 0), (8, 0), (0, 0))]) hseg (by decide +kernel) (by decide +kernel)
  have hinv : rxIKC_3 S0 ws S (r 8) (r 9) (r 10) := hinv
  rw [← hr_ 8 (by decide), ← hr_ 9 (by decide), ← hr_ 10 (by decide)] at hinv
  obtain ⟨⟨l8, u8⟩, ⟨l9, u9⟩, ⟨l10, u10⟩, ⟨l11, u11⟩, -⟩ := b_
  obtain ⟨f0, -⟩ := f_
  obtain ⟨T0, ⟨e1, w_⟩, w0⟩ := d_
  subst w0
  subst w_
  have g := rxcKC_3_0 hP hin I0 hinv l8 u8 l9 u9 l10 u10 l11 u11 f0 e1
  refine ⟨bx_narP_ok (l := []) g.1, bx_nfP_ok h0_ (fvs := []) (by decide +kernel) g.2.1, ?_, ?_⟩
  · show rxIKC_3 S0 ws (bx_up T0 509 (r_p 10) (r_p 11)) (bx_val [(0, 0), (0, 0), (0, 0), (0, 0), (0, 0), (0, 0), (0, 0), (0, 0), (8, 0), (9, 0), (10, 1)] r_p 8) (bx_val [(0, 0), (0, 0), (0, 0), (0, 0), (0, 0), (0, 0), (0, 0), (0, 0), (8, 0), (9, 0), (10, 1)] r_p 9) (bx_val [(0, 0), (0, 0), (0, 0), (0, 0), (0, 0), (0, 0), (0, 0), (0, 0), (8, 0), (9, 0), (10, 1)] r_p 10)
    rw [bx_val_x (n := 8) (e := (8, 0)) h0_ rfl, bx_val_x (n := 9) (e := (9, 0)) h0_ rfl, bx_val_x (n := 10) (e := (10, 1)) h0_ rfl]
    exact g.2.2.1
  · show rxmKC_3 S0 ws (bx_up T0 509 (r_p 10) (r_p 11)) (bx_val [(0, 0), (0, 0), (0, 0), (0, 0), (0, 0), (0, 0), (0, 0), (0, 0), (8, 0), (9, 0), (10, 1)] r_p 8) (bx_val [(0, 0), (0, 0), (0, 0), (0, 0), (0, 0), (0, 0), (0, 0), (0, 0), (8, 0), (9, 0), (10, 1)] r_p 9) (bx_val [(0, 0), (0, 0), (0, 0), (0, 0), (0, 0), (0, 0), (0, 0), (0, 0), (8, 0), (9, 0), (10, 1)] r_p 10) < rxmKC_3 S0 ws T0 (r 8) (r 9) (r 10)
    rw [bx_val_x (n := 8) (e := (8, 0)) h0_ rfl, bx_val_x (n := 9) (e := (9, 0)) h0_ rfl, bx_val_x (n := 10) (e := (10, 1)) h0_ rfl, ← hr_ 8 (by decide), ← hr_ 9 (by decide), ← hr_ 10 (by decide)]
    exact g.2.2.2
theorem rxdKC_3_0 {S0 : Nat → Int → Int} {ws : List Int} {S : Nat → Int → Int} {parts n k x11 x12 x13 : Int} (hP : rxPKC S0 ws) (hin : bx_same rxL (bx_mdl rxCKC.2.2.1) S0 S) (hin2 : bx_same rxL (bx_mdl rxCKC.2.2.1) S (bx_up S 480 59 x13)) (I0 : bx_Inv rxL S) (I1 : bx_Inv rxL (bx_up S 480 59 x13)) (hinv : rxIKC_3 S0 ws S parts n k) (l8 : 0 ≤ parts) (u8 : parts ≤ 6) (l9 : 0 ≤ n) (u9 : n ≤ 6) (l10 : 0 ≤ k) (u10 : k ≤ 6) (l11 : (-2147483648) ≤ x11) (u11 : x11 ≤ 2147483647) (l12 : 0 ≤ x12) (u12 : x12 ≤ 6) (l13 : (-2147483648) ≤ x13) (u13 : x13 ≤ 2147483647) (f0 : n = x12) (f1 : parts ≤ k) (e2 : S 480 59 = x11) (e1 : S 480 58 = x12) : (True) ∧ rxPSKC S0 ws (bx_up S 480 59 x13) none := by
  exact ⟨trivial, rfl, trivial⟩
theorem rxfKC_3_0 {X : (Nat → Int → Int) → Prop} {S0 : Nat → Int → Int} {ws : List Int} (hP : rxPKC S0 ws) : bx_obE rxL X S0 rxCKC.2.2.1 (rxIKC S0 ws) (rxPSKC S0 ws) 3 rxzKC_3 rxeKC_3_0 := by
  intro S S_p r r_p hinv hX hin hsm_ hseg
  obtain ⟨I0, I1, h0_, hr_, b_, f_, d_⟩ := bx_cl (evs := [(1, (0, 480), (0, 59), .inr (0, (13, 0))), (0, (0, 480), (0, 58), .inr (0, (12, 0))), (0, (0, 480), (0, 59), .inr (0, (11, 0)))]) (fvs := [(2, (9, 0), (12, 0), (0, 0)), (1, (8, 0), (10, 0), (0, 0))]) hseg (by decide +kernel) (by decide +kernel)
  have hinv : rxIKC_3 S0 ws S (r 8) (r 9) (r 10) := hinv
  rw [← hr_ 8 (by decide), ← hr_ 9 (by decide), ← hr_ 10 (by decide)] at hinv
  obtain ⟨⟨l8, u8⟩, ⟨l9, u9⟩, ⟨l10, u10⟩, ⟨l11, u11⟩, ⟨l12, u12⟩, ⟨l13, u13⟩, -⟩ := b_
  obtain ⟨f0, f1, -⟩ := f_
  obtain ⟨T0, ⟨e1, ⟨e2, w_⟩⟩, w0⟩ := d_
  subst w0
  subst w_
  have g := rxdKC_3_0 hP hin hsm_ I0 I1 hinv l8 u8 l9 u9 l10 u10 l11 u11 l12 u12 l13 u13 f0 f1 e2 e1
  refine ⟨bx_narP_ok (l := []) g.1, ?_⟩
  exact g.2
theorem rxdKC_3_1 {S0 : Nat → Int → Int} {ws : List Int} {S : Nat → Int → Int} {parts n k x11 x12 : Int} (hP : rxPKC S0 ws) (hin : bx_same rxL (bx_mdl rxCKC.2.2.1) S0 S) (hin2 : bx_same rxL (bx_mdl rxCKC.2.2.1) S (bx_up S 480 59 x11)) (I0 : bx_Inv rxL S) (I1 : bx_Inv rxL (bx_up S 480 59 x11)) (hinv : rxIKC_3 S0 ws S parts n k) (l8 : 0 ≤ parts) (u8 : parts ≤ 6) (l9 : 0 ≤ n) (u9 : n ≤ 6) (l10 : 0 ≤ k) (u10 : k ≤ 6) (l11 : (-2147483648) ≤ x11) (u11 : x11 ≤ 2147483647) (l12 : 0 ≤ x12) (u12 : x12 ≤ 1000000) (f0 : n ≠ x12) (f1 : parts ≤ k) (e2 : S 480 59 = x11) (e1 : S 480 58 = x12) : (True) ∧ rxPSKC S0 ws (bx_up S 480 59 x11) none := by
  exact ⟨trivial, rfl, trivial⟩
theorem rxfKC_3_1 {X : (Nat → Int → Int) → Prop} {S0 : Nat → Int → Int} {ws : List Int} (hP : rxPKC S0 ws) : bx_obE rxL X S0 rxCKC.2.2.1 (rxIKC S0 ws) (rxPSKC S0 ws) 3 rxzKC_3 rxeKC_3_1 := by
  intro S S_p r r_p hinv hX hin hsm_ hseg
  obtain ⟨I0, I1, h0_, hr_, b_, f_, d_⟩ := bx_cl (evs := [(1, (0, 480), (0, 59), .inr (0, (11, 0))), (0, (0, 480), (0, 58), .inr (0, (12, 0))), (0, (0, 480), (0, 59), .inr (0, (11, 0)))]) (fvs := [(3, (9, 0), (12, 0), (0, 0)), (1, (8, 0), (10, 0), (0, 0))]) hseg (by decide +kernel) (by decide +kernel)
  have hinv : rxIKC_3 S0 ws S (r 8) (r 9) (r 10) := hinv
  rw [← hr_ 8 (by decide), ← hr_ 9 (by decide), ← hr_ 10 (by decide)] at hinv
  obtain ⟨⟨l8, u8⟩, ⟨l9, u9⟩, ⟨l10, u10⟩, ⟨l11, u11⟩, ⟨l12, u12⟩, -⟩ := b_
  obtain ⟨f0, f1, -⟩ := f_
  obtain ⟨T0, ⟨e1, ⟨e2, w_⟩⟩, w0⟩ := d_
  subst w0
  subst w_
  have g := rxdKC_3_1 hP hin hsm_ I0 I1 hinv l8 u8 l9 u9 l10 u10 l11 u11 l12 u12 f0 f1 e2 e1
  refine ⟨bx_narP_ok (l := []) g.1, ?_⟩
  exact g.2
theorem rxgCKC {X : (Nat → Int → Int) → Prop} {S0 : Nat → Int → Int} {ws : List Int} (hP : rxPKC S0 ws) : bx_allI (fun i q => rxUKC q = true ∨ bx_allP (fun o => bx_obC rxL X S0 rxCKC.2.2.1 (rxIKC S0 ws) (rxmKC S0 ws) i q.1 o) q.2.1) 0 rxYKC := ⟨Or.inr ⟨rxgKC_0_0 hP, trivial⟩, Or.inr ⟨rxgKC_1_0 hP, rxgKC_1_1 hP, rxgKC_1_2 hP, trivial⟩, Or.inr ⟨rxgKC_2_0 hP, trivial⟩, Or.inr ⟨rxgKC_3_0 hP, trivial⟩, trivial⟩
theorem rxgEKC {X : (Nat → Int → Int) → Prop} {S0 : Nat → Int → Int} {ws : List Int} (hP : rxPKC S0 ws) : bx_allI (fun i q => rxUKC q = true ∨ bx_allP (fun E => bx_obE rxL X S0 rxCKC.2.2.1 (rxIKC S0 ws) (rxPSKC S0 ws) i q.1 E) q.2.2) 0 rxYKC := ⟨Or.inr trivial, Or.inr ⟨rxfKC_1_0 hP, rxfKC_1_1 hP, trivial⟩, Or.inr trivial, Or.inr ⟨rxfKC_3_0 hP, rxfKC_3_1 hP, trivial⟩, trivial⟩
theorem rxQKC {PX : State → Prop} {Dg : va_G} {A : Nat → Prop} {ad xa : Nat → Nat} {l : Launch} {X : (Nat → Int → Int) → Prop} (hPX : rx_PXOK rxNW A PX) (hsl : ∀ s : State, PX s → ∀ o idx n : Nat, rxSl o idx = some n → ∃ tx : String, vk_R (rxNm o) idx tx (ad n) s)
    (hX : ∀ S S_p : Nat → Int → Int, X S → bx_same rxL (bx_mdl rxCKC.2.2.1) S S_p → X S_p)
    (ih : ∀ (j2 : Nat) (ct2 : bx_Ct) (M2 : rx_Mt), ct2 ∈ rxCnE j2 → ct2.2.2.2.1 + 1 ≤ rxCKC.2.2.2.1 → rxT.2.2.2.2.2 j2 = some M2 → bx_Con rxG rxNW rxAO PX Dg rxL X vwCl A ad l M2 ct2) : bx_ConP rxG rxNW rxAO PX Dg rxL X vwCl A ad l rxM315 rxCKC rxPKC rxPSKC :=
  rxQof (xa := xa) (Cn := rxCnE) (f := 30000) (j := 315) (tab := rxYKC) (us := rxUKC) hPX hsl hX ih rfl rxYcKC rxIKC rxmKC
    (fun S0 ws r I0 I ht0 ht as he he1 hX0 hI0 hP hs ha => by
      have e := he.symm.trans (show bx_ent0 rxNP rxCKC.1 bx_I0 [] = some ([(0, 0), (0, 0), (0, 0), (0, 0), (0, 0), (0, 0), (0, 0), (0, 0), (0, 6)], [], [.inr (3, (0, 480)), .inr (0, (8, 0))]) from rfl)
      cases e
      subst ha
      have h0 : r 0 = 0 := hs.1
      show rxIKC_0 S0 _ S0 (r 8)
      refine ⟨rfl, ?_⟩
      simp only [List.map_cons, List.map_nil, bx_xv_ok h0]
      rfl)
    (fun S0 ws hP => fun i q hq hus => absurd (show false = true from hus) Bool.false_ne_true) (fun S0 ws hP => rxgCKC hP) (fun S0 ws hP => rxgEKC hP)
end
