noncomputable def rxCFR : bx_Ct := ([(3, (1, 480, 0)), (0, (0, 0, 35)), (0, (0, 0, 5))], none, [(12, 42), (1082, 0)], 0, [])
noncomputable def rxIFR_0 (S0 : Nat → Int → Int) (ws : List Int) (S : Nat → Int → Int) (pair cue : Int) : Prop := S = S0 ∧ ws = [480, pair, cue]
noncomputable def rxmFR_0 (S0 : Nat → Int → Int) (ws : List Int) (S : Nat → Int → Int) (pair cue : Int) : Nat := 1000
noncomputable def rxzFR_0 : rx_Z := ([(0, 0), (0, 0), (0, 0), (0, 0), (0, 0), (0, 0), (0, 0), (0, 0), (0, 35), (0, 5)], [], [], 0, 0, 0, [(0, .inr (3, (0, 480))), (1, .inr (0, (8, 0))), (2, .inr (0, (9, 0)))], [])
noncomputable def rxIFR_1 (S0 : Nat → Int → Int) (ws : List Int) (S : Nat → Int → Int) (pair cue at_ : Int) : Prop := ∃ ρ : Int → Nat, (∀ x : Int, 0 ≤ x → x < 36 → S 499 x ≠ -1 → (ρ x : Int) < 36 ∧ 0 ≤ S 499 x ∧ S 499 x < 36 ∧ S 499 (S 499 x) ≠ -1 ∧ (S 499 x ≠ x → ρ (S 499 x) < ρ x)) ∧ S 499 at_ ≠ -1 ∧ 1 ≤ S 480 42 ∧ S 480 42 + (ρ at_ : Int) ≤ 37
noncomputable def rxmFR_1 (S0 : Nat → Int → Int) (ws : List Int) (S : Nat → Int → Int) (pair cue at_ : Int) : Nat := 3 * (100 - S 480 42).toNat + 2
noncomputable def rxzFR_1 : rx_Z := ([(0, 0), (0, 0), (0, 0), (0, 0), (0, 0), (0, 0), (0, 0), (0, 0), (0, 35), (0, 5), (0, 35)], [], [], 0, 0, 14, [(0, .inr (3, (0, 480))), (1, .inr (0, (8, 0))), (2, .inr (0, (9, 0))), (3, .inr (0, (10, 0)))], [])
noncomputable def rxIFR_2 (S0 : Nat → Int → Int) (ws : List Int) (S : Nat → Int → Int) (pair cue at_ a b : Int) : Prop := ∃ ρ : Int → Nat, (∀ x : Int, 0 ≤ x → x < 36 → S 499 x ≠ -1 → (ρ x : Int) < 36 ∧ 0 ≤ S 499 x ∧ S 499 x < 36 ∧ S 499 (S 499 x) ≠ -1 ∧ (S 499 x ≠ x → ρ (S 499 x) < ρ x)) ∧ S 499 at_ ≠ -1 ∧ S 499 at_ ≠ at_ ∧ 1 ≤ S 480 42 ∧ S 480 42 + (ρ at_ : Int) ≤ 37
noncomputable def rxmFR_2 (S0 : Nat → Int → Int) (ws : List Int) (S : Nat → Int → Int) (pair cue at_ a b : Int) : Nat := 3 * (100 - S 480 42).toNat + 1
noncomputable def rxzFR_2 : rx_Z := ([(0, 0), (0, 0), (0, 0), (0, 0), (0, 0), (0, 0), (0, 0), (0, 0), (0, 35), (0, 5), (0, 35), (0, 39), (0, 5)], [], [], 0, 0, 38, [(0, .inr (3, (0, 480))), (1, .inr (0, (8, 0))), (2, .inr (0, (9, 0))), (3, .inr (0, (10, 0)))], [.inr (0, (12, 0)), .inr (0, (11, 0)), .inr (3, (0, 501))])
noncomputable def rxIFR_3 (S0 : Nat → Int → Int) (ws : List Int) (S : Nat → Int → Int) (pair cue at_ q : Int) : Prop := q = S 480 42 ∧ ∃ ρ : Int → Nat, (∀ x : Int, 0 ≤ x → x < 36 → S 499 x ≠ -1 → (ρ x : Int) < 36 ∧ 0 ≤ S 499 x ∧ S 499 x < 36 ∧ S 499 (S 499 x) ≠ -1 ∧ (S 499 x ≠ x → ρ (S 499 x) < ρ x)) ∧ S 499 at_ ≠ -1 ∧ S 499 at_ ≠ at_ ∧ 1 ≤ S 480 42 ∧ S 480 42 + (ρ at_ : Int) ≤ 37
noncomputable def rxmFR_3 (S0 : Nat → Int → Int) (ws : List Int) (S : Nat → Int → Int) (pair cue at_ q : Int) : Nat := 3 * (100 - S 480 42).toNat
noncomputable def rxzFR_3 : rx_Z := ([(0, 0), (0, 0), (0, 0), (0, 0), (0, 0), (0, 0), (0, 0), (0, 0), (0, 35), (0, 5), (0, 35), (0, 39)], [], [], 0, 0, 44, [(0, .inr (3, (0, 480))), (1, .inr (0, (8, 0))), (2, .inr (0, (9, 0))), (3, .inr (0, (10, 0)))], [.inr (0, (11, 0)), .inr (3, (0, 480))])
noncomputable def rxoFR_0_0 : bx_HO := (([(0, 0), (0, 0), (0, 0), (0, 0), (0, 0), (0, 0), (0, 0), (0, 0), (0, 35), (0, 5)], [], [(((0, 0), 1851192626986356797424340330377019318111018015026043177848864771000000), .inr (0, (9, 0))), (((0, 501), 0), .inr (0, (9, 0))), (((0, 480), 41), .inr (3, (0, 501))), (((0, 0), 1851192626986356805854022015421594865611519522087123827097075715000000), .inr (0, (0, 1))), (((0, 480), 42), .inr (0, (0, 1)))], 0, 0, 14, [(3, .inr (0, (8, 0))), (0, .inr (3, (0, 480))), (1, .inr (0, (8, 0))), (2, .inr (0, (9, 0)))], []), [], [], [(0, 0), (0, 0), (0, 0), (0, 0), (0, 0), (0, 0), (0, 0), (0, 0), (8, 0), (9, 0), (8, 0)], 1)
noncomputable def rxoFR_1_0 : bx_HO := (([(0, 0), (0, 0), (0, 0), (0, 0), (0, 0), (0, 0), (0, 0), (0, 0), (0, 35), (0, 5), (0, 35), ((-1), 35), (0, 40), (0, 5)], [(3, (11, 0), (10, 0))], [(((0, 0), 1851192626986356797424370955790042202572729718740712036987305984000000), .inr (0, (13, 0))), (((0, 480), 40), .inr (3, (0, 500))), (((0, 0), 1851192626986356805854022015421594865611519522087123827097075712000000), .inr (0, (12, 0))), (((0, 480), 42), .inr (0, (12, 0))), (((0, 480), 41), .inr (3, (0, 501))), (((0, 0), 1851192626986356797424370955790042202572729718740712036986716160000000), .inr (0, (11, 0))), (((0, 480), 39), .inr (3, (0, 499)))], 0, 0, 38, [(0, .inr (3, (0, 480))), (1, .inr (0, (8, 0))), (2, .inr (0, (9, 0))), (3, .inr (0, (10, 0)))], [.inr (0, (13, 0)), .inr (0, (12, 0)), .inr (3, (0, 501))]), [(12, 0, 39)], [], [(0, 0), (0, 0), (0, 0), (0, 0), (0, 0), (0, 0), (0, 0), (0, 0), (8, 0), (9, 0), (10, 0), (12, 0), (13, 0)], 2)
noncomputable def rxeFR_1_0 : rx_End × List (Nat × Int × Int) := (([(0, 0), (0, 0), (0, 0), (0, 0), (0, 0), (0, 0), (0, 0), (0, 0), (0, 35), (0, 5), (0, 35), (0, 35)], [(2, (11, 0), (10, 0))], [(((0, 0), 1851192626986356797424370955790042202572729718740712036986716160000000), .inr (0, (11, 0))), (((0, 480), 39), .inr (3, (0, 499)))], none), [])
noncomputable def rxoFR_2_0 : bx_HO := (([(0, 0), (0, 0), (0, 0), (0, 0), (0, 0), (0, 0), (0, 0), (0, 0), (0, 35), (0, 5), (0, 35), (0, 39), (0, 5), (0, 40)], [], [(((0, 0), 1851192626986356805854022015421594865611519522087123827097075712000000), .inr (0, (13, 0))), (((0, 480), 42), .inr (0, (13, 0))), (((0, 0), 1851192626986356797424374018331344491018900889112178922901798915000000), .inr (0, (12, 0)))], 0, 0, 44, [(0, .inr (3, (0, 480))), (1, .inr (0, (8, 0))), (2, .inr (0, (9, 0))), (3, .inr (0, (10, 0)))], [.inr (0, (13, 0)), .inr (3, (0, 480))]), [(13, 0, 39)], [], [(0, 0), (0, 0), (0, 0), (0, 0), (0, 0), (0, 0), (0, 0), (0, 0), (8, 0), (9, 0), (10, 0), (13, 0)], 3)
noncomputable def rxoFR_3_0 : bx_HO := (([(0, 0), (0, 0), (0, 0), (0, 0), (0, 0), (0, 0), (0, 0), (0, 0), (0, 35), (0, 5), (0, 35), (0, 39), ((-1), 35)], [], [(((0, 0), 1851192626986356797424370955790042202572729718740712036986716160000000), .inr (0, (12, 0))), (((0, 480), 39), .inr (3, (0, 499))), (((0, 0), 1851192626986356805854022015421594865611519522087123827097075715000000), .inr (0, (11, 1))), (((0, 480), 42), .inr (0, (11, 1)))], 0, 0, 14, [(3, .inr (0, (12, 0))), (0, .inr (3, (0, 480))), (1, .inr (0, (8, 0))), (2, .inr (0, (9, 0)))], []), [(12, 0, 35)], [], [(0, 0), (0, 0), (0, 0), (0, 0), (0, 0), (0, 0), (0, 0), (0, 0), (8, 0), (9, 0), (12, 0)], 1)
noncomputable def rxYFR : List bx_HE := [(rxzFR_0, [rxoFR_0_0], []), (rxzFR_1, [rxoFR_1_0], [rxeFR_1_0]), (rxzFR_2, [rxoFR_2_0], []), (rxzFR_3, [rxoFR_3_0], [])]
noncomputable def rxUFR (q : bx_HE) : Bool := false
noncomputable def rxYBFR : bx_B := (rxV, rxNP, rxDmf, bx_mdH rxCFR.2.2.1)
set_option maxRecDepth 100000 in
theorem rxYcFR : bx_chkH rxYBFR rxM302 rxCFR rxYFR (rxUFR, fun cut z => rx_ex2 (rxCT rxYBFR rxCnE) cut 30000 rxCFR.2.2.2.1 302 z) = true := by decide +kernel
noncomputable def rxIFR (S0 : Nat → Int → Int) (ws : List Int) (i : Nat) : bx_SP := fun S r => match i with | 0 => rxIFR_0 S0 ws S (r 8) (r 9) | 1 => rxIFR_1 S0 ws S (r 8) (r 9) (r 10) | 2 => rxIFR_2 S0 ws S (r 8) (r 9) (r 10) (r 11) (r 12) | 3 => rxIFR_3 S0 ws S (r 8) (r 9) (r 10) (r 11) | _ => False
noncomputable def rxmFR (S0 : Nat → Int → Int) (ws : List Int) (i : Nat) (S : Nat → Int → Int) (r : Nat → Int) : Nat := match i with | 0 => rxmFR_0 S0 ws S (r 8) (r 9) | 1 => rxmFR_1 S0 ws S (r 8) (r 9) (r 10) | 2 => rxmFR_2 S0 ws S (r 8) (r 9) (r 10) (r 11) (r 12) | 3 => rxmFR_3 S0 ws S (r 8) (r 9) (r 10) (r 11) | _ => 0
noncomputable def rxPFR (S0 : Nat → Int → Int) (ws : List Int) : Prop := ∃ pair cue : Int, ws = [480, pair, cue] ∧ S0 499 pair ≠ -1 ∧ rx_rk (S0 499) 36 36
noncomputable def rxPSFR (S0 : Nat → Int → Int) (ws : List Int) (S : Nat → Int → Int) (w : Option Int) : Prop := w = none ∧ True
theorem rxcFR_0_0 {S0 : Nat → Int → Int} {ws : List Int} {S : Nat → Int → Int} {pair cue : Int} (hP : rxPFR S0 ws) (hin : bx_same rxL (bx_mdl rxCFR.2.2.1) S0 S) (I0 : bx_Inv rxL S) (hinv : rxIFR_0 S0 ws S pair cue) (l8 : 0 ≤ pair) (u8 : pair ≤ 35) (l9 : 0 ≤ cue) (u9 : cue ≤ 5) : (True) ∧ (True) ∧ rxIFR_1 S0 ws (bx_up (bx_up S 480 42 1) 501 0 cue) pair cue pair ∧ rxmFR_1 S0 ws (bx_up (bx_up S 480 42 1) 501 0 cue) pair cue pair < rxmFR_0 S0 ws S pair cue := by
  obtain ⟨rfl, hw⟩ := hinv
  obtain ⟨p1, c1, hw2, hp1, ρ, hρ⟩ := hP
  rw [hw] at hw2
  have hpe : pair = p1 := by
    have := congrArg (fun l => l[1]?) hw2
    exact Option.some.inj this
  subst hpe
  have hr := hρ pair (by omega) (by omega) hp1
  refine ⟨trivial, trivial, ⟨ρ, ?_⟩, ?_⟩
  · rw [bx_up_row (p := 501) (p_p := 499) (by omega), bx_up_row (p := 480) (p_p := 499) (by omega), bx_up_row (p := 501) (p_p := 480) (by omega), bx_up_at]
    exact ⟨hρ, hp1, by omega, by omega⟩
  · show 3 * (100 - bx_up (bx_up S 480 42 1) 501 0 cue 480 42).toNat + 2 < 1000
    rw [bx_up_row (p := 501) (p_p := 480) (by omega), bx_up_at]
    omega
theorem rxgFR_0_0 {X : (Nat → Int → Int) → Prop} {S0 : Nat → Int → Int} {ws : List Int} (hP : rxPFR S0 ws) : bx_obC rxL X S0 rxCFR.2.2.1 (rxIFR S0 ws) (rxmFR S0 ws) 0 rxzFR_0 rxoFR_0_0 := by
  intro S S_p r r_p hinv hX hin hsm_ hseg
  obtain ⟨I0, I1, h0_, hr_, b_, f_, d_⟩ := bx_cl (evs := [(1, (0, 501), (0, 0), .inr (0, (9, 0))), (1, (0, 480), (0, 42), .inr (0, (0, 1)))]) (fvs := []) hseg (by decide +kernel) (by decide +kernel)
  have hinv : rxIFR_0 S0 ws S (r 8) (r 9) := hinv
  rw [← hr_ 8 (by decide), ← hr_ 9 (by decide)] at hinv
  obtain ⟨⟨l8, u8⟩, ⟨l9, u9⟩, -⟩ := b_
  obtain ⟨T0, ⟨T1, w_, w1⟩, w0⟩ := d_
  subst w0
  subst w1
  subst w_
  have g := rxcFR_0_0 hP hin I0 hinv l8 u8 l9 u9
  refine ⟨bx_narP_ok (l := []) g.1, bx_nfP_ok h0_ (fvs := []) (by decide +kernel) g.2.1, ?_, ?_⟩
  · show rxIFR_1 S0 ws (bx_up (bx_up T1 480 (42) (1)) 501 (0) (r_p 9)) (bx_val [(0, 0), (0, 0), (0, 0), (0, 0), (0, 0), (0, 0), (0, 0), (0, 0), (8, 0), (9, 0), (8, 0)] r_p 8) (bx_val [(0, 0), (0, 0), (0, 0), (0, 0), (0, 0), (0, 0), (0, 0), (0, 0), (8, 0), (9, 0), (8, 0)] r_p 9) (bx_val [(0, 0), (0, 0), (0, 0), (0, 0), (0, 0), (0, 0), (0, 0), (0, 0), (8, 0), (9, 0), (8, 0)] r_p 10)
    rw [bx_val_x (n := 8) (e := (8, 0)) h0_ rfl, bx_val_x (n := 9) (e := (9, 0)) h0_ rfl, bx_val_x (n := 10) (e := (8, 0)) h0_ rfl]
    exact g.2.2.1
  · show rxmFR_1 S0 ws (bx_up (bx_up T1 480 (42) (1)) 501 (0) (r_p 9)) (bx_val [(0, 0), (0, 0), (0, 0), (0, 0), (0, 0), (0, 0), (0, 0), (0, 0), (8, 0), (9, 0), (8, 0)] r_p 8) (bx_val [(0, 0), (0, 0), (0, 0), (0, 0), (0, 0), (0, 0), (0, 0), (0, 0), (8, 0), (9, 0), (8, 0)] r_p 9) (bx_val [(0, 0), (0, 0), (0, 0), (0, 0), (0, 0), (0, 0), (0, 0), (0, 0), (8, 0), (9, 0), (8, 0)] r_p 10) < rxmFR_0 S0 ws T1 (r 8) (r 9)
    rw [bx_val_x (n := 8) (e := (8, 0)) h0_ rfl, bx_val_x (n := 9) (e := (9, 0)) h0_ rfl, bx_val_x (n := 10) (e := (8, 0)) h0_ rfl, ← hr_ 8 (by decide), ← hr_ 9 (by decide)]
    exact g.2.2.2
theorem rxcFR_1_0 {S0 : Nat → Int → Int} {ws : List Int} {S : Nat → Int → Int} {pair cue at_ x11 x12 x13 : Int} (hP : rxPFR S0 ws) (hin : bx_same rxL (bx_mdl rxCFR.2.2.1) S0 S) (I0 : bx_Inv rxL S) (hinv : rxIFR_1 S0 ws S pair cue at_) (l8 : 0 ≤ pair) (u8 : pair ≤ 35) (l9 : 0 ≤ cue) (u9 : cue ≤ 5) (l10 : 0 ≤ at_) (u10 : at_ ≤ 35) (l11 : (-1) ≤ x11) (u11 : x11 ≤ 35) (l12 : 0 ≤ x12) (u12 : x12 ≤ 40) (l13 : 0 ≤ x13) (u13 : x13 ≤ 5) (f0 : x11 ≠ at_) (e2 : S 499 at_ = x11) (e1 : S 480 42 = x12) (e0 : S 500 at_ = x13) : ((0 ≤ x12 ∧ x12 ≤ 39) ∧ True) ∧ (True) ∧ rxIFR_2 S0 ws S pair cue at_ x12 x13 ∧ rxmFR_2 S0 ws S pair cue at_ x12 x13 < rxmFR_1 S0 ws S pair cue at_ := by
  obtain ⟨ρ, hρ, h1, h2, h3⟩ := hinv
  have hr := hρ at_ (by omega) (by omega) h1
  refine ⟨⟨by omega, trivial⟩, trivial, ⟨ρ, hρ, h1, by omega, h2, h3⟩, ?_⟩
  show 3 * (100 - S 480 42).toNat + 1 < 3 * (100 - S 480 42).toNat + 2
  omega
theorem rxgFR_1_0 {X : (Nat → Int → Int) → Prop} {S0 : Nat → Int → Int} {ws : List Int} (hP : rxPFR S0 ws) : bx_obC rxL X S0 rxCFR.2.2.1 (rxIFR S0 ws) (rxmFR S0 ws) 1 rxzFR_1 rxoFR_1_0 := by
  intro S S_p r r_p hinv hX hin hsm_ hseg
  obtain ⟨I0, I1, h0_, hr_, b_, f_, d_⟩ := bx_cl (evs := [(0, (0, 500), (10, 0), .inr (0, (13, 0))), (0, (0, 480), (0, 42), .inr (0, (12, 0))), (0, (0, 499), (10, 0), .inr (0, (11, 0)))]) (fvs := [(3, (11, 0), (10, 0), (0, 0))]) hseg (by decide +kernel) (by decide +kernel)
  have hinv : rxIFR_1 S0 ws S (r 8) (r 9) (r 10) := hinv
  rw [← hr_ 8 (by decide), ← hr_ 9 (by decide), ← hr_ 10 (by decide)] at hinv
  obtain ⟨⟨l8, u8⟩, ⟨l9, u9⟩, ⟨l10, u10⟩, ⟨l11, u11⟩, ⟨l12, u12⟩, ⟨l13, u13⟩, -⟩ := b_
  obtain ⟨f0, -⟩ := f_
  obtain ⟨e0, ⟨e1, ⟨e2, w_⟩⟩⟩ := d_
  subst w_
  have g := rxcFR_1_0 hP hin I0 hinv l8 u8 l9 u9 l10 u10 l11 u11 l12 u12 l13 u13 f0 e2 e1 e0
  refine ⟨bx_narP_ok (l := [(12, 0, 39)]) g.1, bx_nfP_ok h0_ (fvs := []) (by decide +kernel) g.2.1, ?_, ?_⟩
  · show rxIFR_2 S0 ws S_p (bx_val [(0, 0), (0, 0), (0, 0), (0, 0), (0, 0), (0, 0), (0, 0), (0, 0), (8, 0), (9, 0), (10, 0), (12, 0), (13, 0)] r_p 8) (bx_val [(0, 0), (0, 0), (0, 0), (0, 0), (0, 0), (0, 0), (0, 0), (0, 0), (8, 0), (9, 0), (10, 0), (12, 0), (13, 0)] r_p 9) (bx_val [(0, 0), (0, 0), (0, 0), (0, 0), (0, 0), (0, 0), (0, 0), (0, 0), (8, 0), (9, 0), (10, 0), (12, 0), (13, 0)] r_p 10) (bx_val [(0, 0), (0, 0), (0, 0), (0, 0), (0, 0), (0, 0), (0, 0), (0, 0), (8, 0), (9, 0), (10, 0), (12, 0), (13, 0)] r_p 11) (bx_val [(0, 0), (0, 0), (0, 0), (0, 0), (0, 0), (0, 0), (0, 0), (0, 0), (8, 0), (9, 0), (10, 0), (12, 0), (13, 0)] r_p 12)
    rw [bx_val_x (n := 8) (e := (8, 0)) h0_ rfl, bx_val_x (n := 9) (e := (9, 0)) h0_ rfl, bx_val_x (n := 10) (e := (10, 0)) h0_ rfl, bx_val_x (n := 11) (e := (12, 0)) h0_ rfl, bx_val_x (n := 12) (e := (13, 0)) h0_ rfl]
    exact g.2.2.1
  · show rxmFR_2 S0 ws S_p (bx_val [(0, 0), (0, 0), (0, 0), (0, 0), (0, 0), (0, 0), (0, 0), (0, 0), (8, 0), (9, 0), (10, 0), (12, 0), (13, 0)] r_p 8) (bx_val [(0, 0), (0, 0), (0, 0), (0, 0), (0, 0), (0, 0), (0, 0), (0, 0), (8, 0), (9, 0), (10, 0), (12, 0), (13, 0)] r_p 9) (bx_val [(0, 0), (0, 0), (0, 0), (0, 0), (0, 0), (0, 0), (0, 0), (0, 0), (8, 0), (9, 0), (10, 0), (12, 0), (13, 0)] r_p 10) (bx_val [(0, 0), (0, 0), (0, 0), (0, 0), (0, 0), (0, 0), (0, 0), (0, 0), (8, 0), (9, 0), (10, 0), (12, 0), (13, 0)] r_p 11) (bx_val [(0, 0), (0, 0), (0, 0), (0, 0), (0, 0), (0, 0), (0, 0), (0, 0), (8, 0), (9, 0), (10, 0), (12, 0), (13, 0)] r_p 12) < rxmFR_1 S0 ws S_p (r 8) (r 9) (r 10)
    rw [bx_val_x (n := 8) (e := (8, 0)) h0_ rfl, bx_val_x (n := 9) (e := (9, 0)) h0_ rfl, bx_val_x (n := 10) (e := (10, 0)) h0_ rfl, bx_val_x (n := 11) (e := (12, 0)) h0_ rfl, bx_val_x (n := 12) (e := (13, 0)) h0_ rfl, ← hr_ 8 (by decide), ← hr_ 9 (by decide), ← hr_ 10 (by decide)]
    exact g.2.2.2
theorem rxdFR_1_0 {S0 : Nat → Int → Int} {ws : List Int} {S : Nat → Int → Int} {pair cue at_ x11 : Int} (hP : rxPFR S0 ws) (hin : bx_same rxL (bx_mdl rxCFR.2.2.1) S0 S) (hin2 : bx_same rxL (bx_mdl rxCFR.2.2.1) S S) (I0 : bx_Inv rxL S) (I1 : bx_Inv rxL S) (hinv : rxIFR_1 S0 ws S pair cue at_) (l8 : 0 ≤ pair) (u8 : pair ≤ 35) (l9 : 0 ≤ cue) (u9 : cue ≤ 5) (l10 : 0 ≤ at_) (u10 : at_ ≤ 35) (l11 : 0 ≤ x11) (u11 : x11 ≤ 35) (f0 : x11 = at_) (e0 : S 499 at_ = x11) : (True) ∧ rxPSFR S0 ws S none := by
  exact ⟨trivial, rfl, trivial⟩
theorem rxfFR_1_0 {X : (Nat → Int → Int) → Prop} {S0 : Nat → Int → Int} {ws : List Int} (hP : rxPFR S0 ws) : bx_obE rxL X S0 rxCFR.2.2.1 (rxIFR S0 ws) (rxPSFR S0 ws) 1 rxzFR_1 rxeFR_1_0 := by
  intro S S_p r r_p hinv hX hin hsm_ hseg
  obtain ⟨I0, I1, h0_, hr_, b_, f_, d_⟩ := bx_cl (evs := [(0, (0, 499), (10, 0), .inr (0, (11, 0)))]) (fvs := [(2, (11, 0), (10, 0), (0, 0))]) hseg (by decide +kernel) (by decide +kernel)
  have hinv : rxIFR_1 S0 ws S (r 8) (r 9) (r 10) := hinv
  rw [← hr_ 8 (by decide), ← hr_ 9 (by decide), ← hr_ 10 (by decide)] at hinv
  obtain ⟨⟨l8, u8⟩, ⟨l9, u9⟩, ⟨l10, u10⟩, ⟨l11, u11⟩, -⟩ := b_
  obtain ⟨f0, -⟩ := f_
  obtain ⟨e0, w_⟩ := d_
  subst w_
  have g := rxdFR_1_0 hP hin hsm_ I0 I1 hinv l8 u8 l9 u9 l10 u10 l11 u11 f0 e0
  refine ⟨bx_narP_ok (l := []) g.1, ?_⟩
  exact g.2
theorem rxcFR_2_0 {S0 : Nat → Int → Int} {ws : List Int} {S : Nat → Int → Int} {pair cue at_ a b x13 : Int} (hP : rxPFR S0 ws) (hin : bx_same rxL (bx_mdl rxCFR.2.2.1) S0 S) (I0 : bx_Inv rxL S) (hinv : rxIFR_2 S0 ws S pair cue at_ a b) (l8 : 0 ≤ pair) (u8 : pair ≤ 35) (l9 : 0 ≤ cue) (u9 : cue ≤ 5) (l10 : 0 ≤ at_) (u10 : at_ ≤ 35) (l11 : 0 ≤ a) (u11 : a ≤ 39) (l12 : 0 ≤ b) (u12 : b ≤ 5) (l13 : 0 ≤ x13) (u13 : x13 ≤ 40) (e0 : (bx_up S 501 a b) 480 42 = x13) : ((0 ≤ x13 ∧ x13 ≤ 39) ∧ True) ∧ (True) ∧ rxIFR_3 S0 ws (bx_up S 501 a b) pair cue at_ x13 ∧ rxmFR_3 S0 ws (bx_up S 501 a b) pair cue at_ x13 < rxmFR_2 S0 ws S pair cue at_ a b := by
  obtain ⟨ρ, hρ, h1, h2, h3, h4⟩ := hinv
  have hr := hρ at_ (by omega) (by omega) h1
  have hr2 := hr.2.2.2.2 h2
  rw [bx_up_row (by omega)] at e0
  refine ⟨⟨by omega, trivial⟩, trivial, ⟨?_, ρ, ?_⟩, ?_⟩
  · rw [bx_up_row (by omega)]
    exact e0.symm
  · rw [bx_up_row (p := 501) (p_p := 499) (by omega), bx_up_row (p := 501) (p_p := 480) (by omega)]
    exact ⟨hρ, h1, h2, h3, h4⟩
  · show 3 * (100 - bx_up S 501 a b 480 42).toNat < 3 * (100 - S 480 42).toNat + 1
    rw [bx_up_row (p := 501) (p_p := 480) (by omega)]
    omega
theorem rxgFR_2_0 {X : (Nat → Int → Int) → Prop} {S0 : Nat → Int → Int} {ws : List Int} (hP : rxPFR S0 ws) : bx_obC rxL X S0 rxCFR.2.2.1 (rxIFR S0 ws) (rxmFR S0 ws) 2 rxzFR_2 rxoFR_2_0 := by
  intro S S_p r r_p hinv hX hin hsm_ hseg
  obtain ⟨I0, I1, h0_, hr_, b_, f_, d_⟩ := bx_cl (evs := [(0, (0, 480), (0, 42), .inr (0, (13, 0))), (1, (0, 501), (11, 0), .inr (0, (12, 0)))]) (fvs := []) hseg (by decide +kernel) (by decide +kernel)
  have hinv : rxIFR_2 S0 ws S (r 8) (r 9) (r 10) (r 11) (r 12) := hinv
  rw [← hr_ 8 (by decide), ← hr_ 9 (by decide), ← hr_ 10 (by decide), ← hr_ 11 (by decide), ← hr_ 12 (by decide)] at hinv
  obtain ⟨⟨l8, u8⟩, ⟨l9, u9⟩, ⟨l10, u10⟩, ⟨l11, u11⟩, ⟨l12, u12⟩, ⟨l13, u13⟩, -⟩ := b_
  obtain ⟨e0, ⟨T1, w_, w1⟩⟩ := d_
  subst w1
  subst w_
  have g := rxcFR_2_0 hP hin I0 hinv l8 u8 l9 u9 l10 u10 l11 u11 l12 u12 l13 u13 e0
  refine ⟨bx_narP_ok (l := [(13, 0, 39)]) g.1, bx_nfP_ok h0_ (fvs := []) (by decide +kernel) g.2.1, ?_, ?_⟩
  · show rxIFR_3 S0 ws (bx_up T1 501 (r_p 11) (r_p 12)) (bx_val [(0, 0), (0, 0), (0, 0), (0, 0), (0, 0), (0, 0), (0, 0), (0, 0), (8, 0), (9, 0), (10, 0), (13, 0)] r_p 8) (bx_val [(0, 0), (0, 0), (0, 0), (0, 0), (0, 0), (0, 0), (0, 0), (0, 0), (8, 0), (9, 0), (10, 0), (13, 0)] r_p 9) (bx_val [(0, 0), (0, 0), (0, 0), (0, 0), (0, 0), (0, 0), (0, 0), (0, 0), (8, 0), (9, 0), (10, 0), (13, 0)] r_p 10) (bx_val [(0, 0), (0, 0), (0, 0), (0, 0), (0, 0), (0, 0), (0, 0), (0, 0), (8, 0), (9, 0), (10, 0), (13, 0)] r_p 11)
    rw [bx_val_x (n := 8) (e := (8, 0)) h0_ rfl, bx_val_x (n := 9) (e := (9, 0)) h0_ rfl, bx_val_x (n := 10) (e := (10, 0)) h0_ rfl, bx_val_x (n := 11) (e := (13, 0)) h0_ rfl]
    exact g.2.2.1
  · show rxmFR_3 S0 ws (bx_up T1 501 (r_p 11) (r_p 12)) (bx_val [(0, 0), (0, 0), (0, 0), (0, 0), (0, 0), (0, 0), (0, 0), (0, 0), (8, 0), (9, 0), (10, 0), (13, 0)] r_p 8) (bx_val [(0, 0), (0, 0), (0, 0), (0, 0), (0, 0), (0, 0), (0, 0), (0, 0), (8, 0), (9, 0), (10, 0), (13, 0)] r_p 9) (bx_val [(0, 0), (0, 0), (0, 0), (0, 0), (0, 0), (0, 0), (0, 0), (0, 0), (8, 0), (9, 0), (10, 0), (13, 0)] r_p 10) (bx_val [(0, 0), (0, 0), (0, 0), (0, 0), (0, 0), (0, 0), (0, 0), (0, 0), (8, 0), (9, 0), (10, 0), (13, 0)] r_p 11) < rxmFR_2 S0 ws T1 (r 8) (r 9) (r 10) (r 11) (r 12)
    rw [bx_val_x (n := 8) (e := (8, 0)) h0_ rfl, bx_val_x (n := 9) (e := (9, 0)) h0_ rfl, bx_val_x (n := 10) (e := (10, 0)) h0_ rfl, bx_val_x (n := 11) (e := (13, 0)) h0_ rfl, ← hr_ 8 (by decide), ← hr_ 9 (by decide), ← hr_ 10 (by decide), ← hr_ 11 (by decide), ← hr_ 12 (by decide)]
    exact g.2.2.2
theorem rxcFR_3_0 {S0 : Nat → Int → Int} {ws : List Int} {S : Nat → Int → Int} {pair cue at_ q x12 : Int} (hP : rxPFR S0 ws) (hin : bx_same rxL (bx_mdl rxCFR.2.2.1) S0 S) (I0 : bx_Inv rxL S) (hinv : rxIFR_3 S0 ws S pair cue at_ q) (l8 : 0 ≤ pair) (u8 : pair ≤ 35) (l9 : 0 ≤ cue) (u9 : cue ≤ 5) (l10 : 0 ≤ at_) (u10 : at_ ≤ 35) (l11 : 0 ≤ q) (u11 : q ≤ 39) (l12 : (-1) ≤ x12) (u12 : x12 ≤ 35) (e0 : (bx_up S 480 42 (q + 1)) 499 at_ = x12) : ((0 ≤ x12 ∧ x12 ≤ 35) ∧ True) ∧ (True) ∧ rxIFR_1 S0 ws (bx_up S 480 42 (q + 1)) pair cue x12 ∧ rxmFR_1 S0 ws (bx_up S 480 42 (q + 1)) pair cue x12 < rxmFR_3 S0 ws S pair cue at_ q := by
  obtain ⟨rfl, ρ, hρ, h1, h2, h3, h4⟩ := hinv
  have hr := hρ at_ (by omega) (by omega) h1
  have hr2 := hr.2.2.2.2 h2
  rw [bx_up_row (by omega)] at e0
  subst e0
  refine ⟨⟨by omega, trivial⟩, trivial, ⟨ρ, ?_⟩, ?_⟩
  · rw [bx_up_row (p := 480) (p_p := 499) (by omega), bx_up_at]
    exact ⟨hρ, hr.2.2.2.1, by omega, by omega⟩
  · show 3 * (100 - bx_up S 480 42 (S 480 42 + 1) 480 42).toNat + 2 < 3 * (100 - S 480 42).toNat
    rw [bx_up_at]
    omega
theorem rxgFR_3_0 {X : (Nat → Int → Int) → Prop} {S0 : Nat → Int → Int} {ws : List Int} (hP : rxPFR S0 ws) : bx_obC rxL X S0 rxCFR.2.2.1 (rxIFR S0 ws) (rxmFR S0 ws) 3 rxzFR_3 rxoFR_3_0 := by
  intro S S_p r r_p hinv hX hin hsm_ hseg
  obtain ⟨I0, I1, h0_, hr_, b_, f_, d_⟩ := bx_cl (evs := [(0, (0, 499), (10, 0), .inr (0, (12, 0))), (1, (0, 480), (0, 42), .inr (0, (11, 1)))]) (fvs := []) hseg (by decide +kernel) (by decide +kernel)
  have hinv : rxIFR_3 S0 ws S (r 8) (r 9) (r 10) (r 11) := hinv
  rw [← hr_ 8 (by decide), ← hr_ 9 (by decide), ← hr_ 10 (by decide), ← hr_ 11 (by decide)] at hinv
  obtain ⟨⟨l8, u8⟩, ⟨l9, u9⟩, ⟨l10, u10⟩, ⟨l11, u11⟩, ⟨l12, u12⟩, -⟩ := b_
  obtain ⟨e0, ⟨T1, w_, w1⟩⟩ := d_
  subst w1
  subst w_
  have g := rxcFR_3_0 hP hin I0 hinv l8 u8 l9 u9 l10 u10 l11 u11 l12 u12 e0
  refine ⟨bx_narP_ok (l := [(12, 0, 35)]) g.1, bx_nfP_ok h0_ (fvs := []) (by decide +kernel) g.2.1, ?_, ?_⟩
  · show rxIFR_1 S0 ws (bx_up T1 480 (42) (r_p 11 + 1)) (bx_val [(0, 0), (0, 0), (0, 0), (0, 0), (0, 0), (0, 0), (0, 0), (0, 0), (8, 0), (9, 0), (12, 0)] r_p 8) (bx_val [(0, 0), (0, 0), (0, 0), (0, 0), (0, 0), (0, 0), (0, 0), (0, 0), (8, 0), (9, 0), (12, 0)] r_p 9) (bx_val [(0, 0), (0, 0), (0, 0), (0, 0), (0, 0), (0, 0), (0, 0), (0, 0), (8, 0), (9, 0), (12, 0)] r_p 10)
    rw [bx_val_x (n := 8) (e := (8, 0)) h0_ rfl, bx_val_x (n := 9) (e := (9, 0)) h0_ rfl, bx_val_x (n := 10) (e := (12, 0)) h0_ rfl]
    exact g.2.2.1
  · show rxmFR_1 S0 ws (bx_up T1 480 (42) (r_p 11 + 1)) (bx_val [(0, 0), (0, 0), (0, 0), (0, 0), (0, 0), (0, 0), (0, 0), (0, 0), (8, 0), (9, 0), (12, 0)] r_p 8) (bx_val [(0, 0), (0, 0), (0, 0), (0, 0), (0, 0), (0, 0), (0, 0), (0, 0), (8, 0), (9, 0), (12, 0)] r_p 9) (bx_val [(0, 0), (0, 0), (0, 0), (0, 0), (0, 0), (0, 0), (0, 0), (0, 0), (8, 0), (9, 0), (12, 0)] r_p 10) < rxmFR_3 S0 ws T1 (r 8) (r 9) (r 10) (r 11)
    rw [bx_val_x (n := 8) (e := (8, 0)) h0_ rfl, bx_val_x (n := 9) (e := (9, 0)) h0_ rfl, bx_val_x (n := 10) (e := (12, 0)) h0_ rfl, ← hr_ 8 (by decide), ← hr_ 9 (by decide), ← hr_ 10 (by decide), ← hr_ 11 (by decide)]
    exact g.2.2.2
theorem rxgCFR {X : (Nat → Int → Int) → Prop} {S0 : Nat → Int → Int} {ws : List Int} (hP : rxPFR S0 ws) : bx_allI (fun i q => rxUFR q = true ∨ bx_allP (fun o => bx_obC rxL X S0 rxCFR.2.2.1 (rxIFR S0 ws) (rxmFR S0 ws) i q.1 o) q.2.1) 0 rxYFR := ⟨Or.inr ⟨rxgFR_0_0 hP, trivial⟩, Or.inr ⟨rxgFR_1_0 hP, trivial⟩, Or.inr ⟨rxgFR_2_0 hP, trivial⟩, Or.inr ⟨rxgFR_3_0 hP, trivial⟩, trivial⟩
theorem rxgEFR {X : (Nat → Int → Int) → Prop} {S0 : Nat → Int → Int} {ws : List Int} (hP : rxPFR S0 ws) : bx_allI (fun i q => rxUFR q = true ∨ bx_allP (fun E => bx_obE rxL X S0 rxCFR.2.2.1 (rxIFR S0 ws) (rxPSFR S0 ws) i q.1 E) q.2.2) 0 rxYFR := ⟨Or.inr trivial, Or.inr ⟨rxfFR_1_0 hP, trivial⟩, Or.inr trivial, Or.inr trivial, trivial⟩
theorem rxQFR {PX : State → Prop} {Dg : va_G} {A : Nat → Prop} {ad xa : Nat → Nat} {l : Launch} {X : (Nat → Int → Int) → Prop} (hPX : rx_PXOK rxNW A PX) (hsl : ∀ s : State, PX s → ∀ o idx n : Nat, rxSl o idx = some n → ∃ tx : String, vk_R (rxNm o) idx tx (ad n) s)
    (hX : ∀ S S_p : Nat → Int → Int, X S → bx_same rxL (bx_mdl rxCFR.2.2.1) S S_p → X S_p)
    (ih : ∀ (j2 : Nat) (ct2 : bx_Ct) (M2 : rx_Mt), ct2 ∈ rxCnE j2 → ct2.2.2.2.1 + 1 ≤ rxCFR.2.2.2.1 → rxT.2.2.2.2.2 j2 = some M2 → bx_Con rxG rxNW rxAO PX Dg rxL X vwCl A ad l M2 ct2) : bx_ConP rxG rxNW rxAO PX Dg rxL X vwCl A ad l rxM302 rxCFR rxPFR rxPSFR :=
  rxQof (xa := xa) (Cn := rxCnE) (f := 30000) (j := 302) (tab := rxYFR) (us := rxUFR) hPX hsl hX ih rfl rxYcFR rxIFR rxmFR
    (fun S0 ws r I0 I ht0 ht as he he1 hX0 hI0 hP hs ha => by
      have e := he.symm.trans (show bx_ent0 rxNP rxCFR.1 bx_I0 [] = some ([(0, 0), (0, 0), (0, 0), (0, 0), (0, 0), (0, 0), (0, 0), (0, 0), (0, 35), (0, 5)], [], [.inr (3, (0, 480)), .inr (0, (8, 0)), .inr (0, (9, 0))]) from rfl)
      cases e
      subst ha
      have h0 : r 0 = 0 := hs.1
      show rxIFR_0 S0 _ S0 (r 8) (r 9)
      refine ⟨rfl, ?_⟩
      simp only [List.map_cons, List.map_nil, bx_xv_ok h0]
      rfl)
    (fun S0 ws hP => fun i q hq hus => absurd (show false = true from hus) Bool.false_ne_true) (fun S0 ws hP => rxgCFR hP) (fun S0 ws hP => rxgEFR hP)
