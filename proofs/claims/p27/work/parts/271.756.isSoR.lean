noncomputable def rxCISX : bx_Ct := ([(3, (1, 480, 0)), (0, (0, 782, 5370))], some (0, (0, 0, 1)), [(12, 32), (12, 33), (12, 34), (1076, 0)], 2, [])
noncomputable def rxIISX_0 (S0 : Nat → Int → Int) (ws : List Int) (S : Nat → Int → Int) (start : Int) : Prop := rxISO_0 S0 ws S start ∧ True
noncomputable def rxmISX_0 (S0 : Nat → Int → Int) (ws : List Int) (S : Nat → Int → Int) (start : Int) : Nat := rxmSO_0 S0 ws S start
noncomputable def rxzISX_0 : rx_Z := ([(0, 0), (0, 0), (0, 0), (0, 0), (0, 0), (0, 0), (0, 0), (0, 0), (782, 5370)], [], [], 0, 0, 0, [(0, .inr (3, (0, 480))), (1, .inr (0, (8, 0)))], [])
noncomputable def rxIISX_1 (S0 : Nat → Int → Int) (ws : List Int) (S : Nat → Int → Int) (start c5 c6 : Int) : Prop := rxISO_1 S0 ws S start c5 c6 ∧ ws = [480, start] ∧ S = S0 ∧ c5 = S 482 (start + 5) ∧ c6 = S 482 (start + 6)
noncomputable def rxmISX_1 (S0 : Nat → Int → Int) (ws : List Int) (S : Nat → Int → Int) (start c5 c6 : Int) : Nat := rxmSO_1 S0 ws S start c5 c6
noncomputable def rxzISX_1 : rx_Z := ([(0, 0), (0, 0), (0, 0), (0, 0), (0, 0), (0, 0), (0, 0), (0, 0), (782, 5370), (0, 400), (0, 400)], [], [], 0, 0, 17, [(0, .inr (3, (0, 480))), (1, .inr (0, (8, 0)))], [.inr (0, (10, 0)), .inr (0, (9, 0))])
noncomputable def rxIISX_2 (S0 : Nat → Int → Int) (ws : List Int) (S : Nat → Int → Int) (start a5 a6 : Int) : Prop := rxISO_2 S0 ws S start a5 a6 ∧ ws = [480, start] ∧ S = S0 ∧ a5 < a6
noncomputable def rxmISX_2 (S0 : Nat → Int → Int) (ws : List Int) (S : Nat → Int → Int) (start a5 a6 : Int) : Nat := rxmSO_2 S0 ws S start a5 a6
noncomputable def rxzISX_2 : rx_Z := ([(0, 0), (0, 0), (0, 0), (0, 0), (0, 0), (0, 0), (0, 0), (0, 0), (782, 5370), (0, 400), (0, 400)], [], [], 0, 0, 38, [(0, .inr (3, (0, 480))), (1, .inr (0, (8, 0)))], [.inr (0, (10, 0)), .inr (0, (9, 0)), .inr (3, (0, 480))])
noncomputable def rxIISX_3 (S0 : Nat → Int → Int) (ws : List Int) (S : Nat → Int → Int) (start a5 a6 : Int) : Prop := rxISO_3 S0 ws S start a5 a6 ∧ ws = [480, start] ∧ (∀ (q : rkQ) (vs : Int → Int), rqSq S0 vs start q → ∃ d : rkC, q.2.2.2.2.2 = some d ∧ rqOu vs S d true)
noncomputable def rxmISX_3 (S0 : Nat → Int → Int) (ws : List Int) (S : Nat → Int → Int) (start a5 a6 : Int) : Nat := rxmSO_3 S0 ws S start a5 a6
noncomputable def rxzISX_3 : rx_Z := ([(0, 0), (0, 0), (0, 0), (0, 0), (0, 0), (0, 0), (0, 0), (0, 0), (782, 5370), (0, 400), (0, 400)], [], [], 0, 0, 41, [(0, .inr (3, (0, 480))), (1, .inr (0, (8, 0)))], [])
noncomputable def rxIISX_4 (S0 : Nat → Int → Int) (ws : List Int) (S : Nat → Int → Int) (start a3 a4 : Int) : Prop := rxISO_4 S0 ws S start a3 a4 ∧ ws = [480, start] ∧ S 482 start ≠ 2 ∧ (∀ (q : rkQ) (vs : Int → Int), rqSq S0 vs start q → rkTru vs q.2.2.2.2.2)
noncomputable def rxmISX_4 (S0 : Nat → Int → Int) (ws : List Int) (S : Nat → Int → Int) (start a3 a4 : Int) : Nat := rxmSO_4 S0 ws S start a3 a4
noncomputable def rxzISX_4 : rx_Z := ([(0, 0), (0, 0), (0, 0), (0, 0), (0, 0), (0, 0), (0, 0), (0, 0), (782, 5370), (0, 400), (0, 400)], [], [], 0, 0, 86, [(0, .inr (3, (0, 480))), (1, .inr (0, (8, 0)))], [.inr (0, (10, 0)), .inr (0, (9, 0)), .inr (3, (0, 480))])
noncomputable def rxIISX_5 (S0 : Nat → Int → Int) (ws : List Int) (S : Nat → Int → Int) (start a3 a4 : Int) : Prop := rxISO_5 S0 ws S start a3 a4 ∧ ws = [480, start] ∧ (∀ (q : rkQ) (vs : Int → Int), rqSq S0 vs start q → rkTru vs q.2.2.2.2.2 ∧ q.1 ≠ 2 ∧ ∃ d : rkC, q.2.2.2.1 = some d ∧ rqOu vs S d false)
noncomputable def rxmISX_5 (S0 : Nat → Int → Int) (ws : List Int) (S : Nat → Int → Int) (start a3 a4 : Int) : Nat := rxmSO_5 S0 ws S start a3 a4
noncomputable def rxzISX_5 : rx_Z := ([(0, 0), (0, 0), (0, 0), (0, 0), (0, 0), (0, 0), (0, 0), (0, 0), (782, 5370), (0, 400), (0, 400)], [], [], 0, 0, 89, [(0, .inr (3, (0, 480))), (1, .inr (0, (8, 0)))], [])
noncomputable def rxoISX_0_0 : bx_HO := (([(0, 0), (0, 0), (0, 0), (0, 0), (0, 0), (0, 0), (0, 0), (0, 0), (782, 5370), (0, 1000), (0, 1000)], [], [(((0, 0), 1851192626986356798628605071428091275323316164720789786471825408000000), .inr (0, (10, 0))), (((0, 0), 1851192626986356798427898364641315667049494700266954532918001664000000), .inr (0, (9, 0))), (((0, 480), 3), .inr (3, (0, 482)))], 0, 0, 17, [(0, .inr (3, (0, 480))), (1, .inr (0, (8, 0)))], [.inr (0, (10, 0)), .inr (0, (9, 0))]), [(9, 0, 400), (10, 0, 400)], [], [(0, 0), (0, 0), (0, 0), (0, 0), (0, 0), (0, 0), (0, 0), (0, 0), (8, 0), (9, 0), (10, 0)], 1)
noncomputable def rxoISX_1_0 : bx_HO := (([(0, 0), (0, 0), (0, 0), (0, 0), (0, 0), (0, 0), (0, 0), (0, 0), (782, 5370), (0, 399), (1, 400), (0, 1000), (0, 1000)], [(0, (9, 0), (10, 0))], [(((0, 0), 1851192626986356798628605071428091275323316164720789786471825408000000), .inr (0, (12, 0))), (((0, 0), 1851192626986356798427898364641315667049494700266954532918001664000000), .inr (0, (11, 0))), (((0, 480), 3), .inr (3, (0, 482)))], 0, 0, 38, [(0, .inr (3, (0, 480))), (1, .inr (0, (8, 0)))], [.inr (0, (12, 0)), .inr (0, (11, 0)), .inr (3, (0, 480))]), [(11, 0, 400), (12, 0, 400)], [], [(0, 0), (0, 0), (0, 0), (0, 0), (0, 0), (0, 0), (0, 0), (0, 0), (8, 0), (11, 0), (12, 0)], 2)
noncomputable def rxoISX_1_1 : bx_HO := (([(0, 0), (0, 0), (0, 0), (0, 0), (0, 0), (0, 0), (0, 0), (0, 0), (782, 5370), (0, 400), (0, 400), (0, 1000), (0, 1000), (0, 1000)], [(3, (11, 0), (0, 2)), (1, (10, 0), (9, 0))], [(((0, 0), 1851192626986356798227191657854540058775673235813119279364177920000000), .inr (0, (13, 0))), (((0, 0), 1851192626986356798026484951067764450501851771359284025810354176000000), .inr (0, (12, 0))), (((0, 0), 1851192626986356797424364830707437625680387377997778265148882944000000), .inr (0, (11, 0))), (((0, 480), 3), .inr (3, (0, 482)))], 0, 0, 86, [(0, .inr (3, (0, 480))), (1, .inr (0, (8, 0)))], [.inr (0, (13, 0)), .inr (0, (12, 0)), .inr (3, (0, 480))]), [(12, 0, 400), (13, 0, 400)], [], [(0, 0), (0, 0), (0, 0), (0, 0), (0, 0), (0, 0), (0, 0), (0, 0), (8, 0), (12, 0), (13, 0)], 4)
noncomputable def rxeISX_1_0 : rx_End × List (Nat × Int × Int) := (([(0, 0), (0, 0), (0, 0), (0, 0), (0, 0), (0, 0), (0, 0), (0, 0), (782, 5370), (0, 400), (0, 400), (2, 2)], [(1, (10, 0), (9, 0))], [(((0, 0), 1851192626986356797424364830707437625680387377997778265148882944000000), .inr (0, (11, 0))), (((0, 480), 3), .inr (3, (0, 482)))], some (.inr (0, (0, 1)))), [])
noncomputable def rxoISX_3_0 : bx_HO := (([(0, 0), (0, 0), (0, 0), (0, 0), (0, 0), (0, 0), (0, 0), (0, 0), (782, 5370), (0, 400), (0, 400), (0, 0), ((-9223372036854775808), 9223372036854775807), (0, 1000), (0, 1000), (0, 1000)], [(3, (13, 0), (0, 2)), (3, (12, 0), (0, 0))], [(((0, 0), 1851192626986356798227191657854540058775673235813119279364177920000000), .inr (0, (15, 0))), (((0, 0), 1851192626986356798026484951067764450501851771359284025810354176000000), .inr (0, (14, 0))), (((0, 0), 1851192626986356797424364830707437625680387377997778265148882944000000), .inr (0, (13, 0))), (((0, 480), 3), .inr (3, (0, 482))), (((0, 0), 1851192626986356804047661654340614391147126342002606545112662016000000), .inr (1, (12, 0))), (((0, 480), 33), .inr (1, (12, 0))), (((0, 0), 1851192626986356803846954947553838782873304877548771291558838272000000), .inr (0, (11, 0))), (((0, 480), 32), .inr (0, (11, 0)))], 0, 0, 86, [(0, .inr (3, (0, 480))), (1, .inr (0, (8, 0)))], [.inr (0, (15, 0)), .inr (0, (14, 0)), .inr (3, (0, 480))]), [(14, 0, 400), (15, 0, 400)], [], [(0, 0), (0, 0), (0, 0), (0, 0), (0, 0), (0, 0), (0, 0), (0, 0), (8, 0), (14, 0), (15, 0)], 4)
noncomputable def rxeISX_3_0 : rx_End × List (Nat × Int × Int) := (([(0, 0), (0, 0), (0, 0), (0, 0), (0, 0), (0, 0), (0, 0), (0, 0), (782, 5370), (0, 400), (0, 400), (0, 0), (0, 0)], [], [(((0, 0), 1851192626986356804047661654340614391147126342002606545112662016000000), .inr (1, (12, 0))), (((0, 480), 33), .inr (1, (12, 0))), (((0, 0), 1851192626986356803846954947553838782873304877548771291558838272000000), .inr (0, (11, 0))), (((0, 480), 32), .inr (0, (11, 0)))], some (.inr (0, (0, 0)))), [])
noncomputable def rxeISX_3_1 : rx_End × List (Nat × Int × Int) := (([(0, 0), (0, 0), (0, 0), (0, 0), (0, 0), (0, 0), (0, 0), (0, 0), (782, 5370), (0, 400), (0, 400), (0, 0), ((-9223372036854775808), 9223372036854775807), (2, 2)], [(3, (12, 0), (0, 0))], [(((0, 0), 1851192626986356797424364830707437625680387377997778265148882944000000), .inr (0, (13, 0))), (((0, 480), 3), .inr (3, (0, 482))), (((0, 0), 1851192626986356804047661654340614391147126342002606545112662016000000), .inr (1, (12, 0))), (((0, 480), 33), .inr (1, (12, 0))), (((0, 0), 1851192626986356803846954947553838782873304877548771291558838272000000), .inr (0, (11, 0))), (((0, 480), 32), .inr (0, (11, 0)))], some (.inr (0, (0, 1)))), [])
noncomputable def rxeISX_3_2 : rx_End × List (Nat × Int × Int) := (([(0, 0), (0, 0), (0, 0), (0, 0), (0, 0), (0, 0), (0, 0), (0, 0), (782, 5370), (0, 400), (0, 400), (1, 1)], [(3, (11, 0), (0, 0))], [(((0, 0), 1851192626986356803846954947553838782873304877548771291558838272000000), .inr (0, (11, 0))), (((0, 480), 32), .inr (0, (11, 0)))], some (.inr (0, (0, 0)))), [])
noncomputable def rxeISX_5_0 : rx_End × List (Nat × Int × Int) := (([(0, 0), (0, 0), (0, 0), (0, 0), (0, 0), (0, 0), (0, 0), (0, 0), (782, 5370), (0, 400), (0, 400), ((-9223372036854775808), 9223372036854775807), (0, 0)], [], [(((0, 0), 1851192626986356803846954947553838782873304877548771291558838272000000), .inr (0, (12, 0))), (((0, 480), 32), .inr (0, (12, 0))), (((0, 0), 1851192626986356804248368361127389999420947806456441798666485763000000), .inr (1, (11, 0))), (((0, 480), 34), .inr (1, (11, 0))), (((0, 0), 1851192626986356804047661654340614391147126342002606545112662016000000), .inr (1, (11, 0))), (((0, 480), 33), .inr (1, (11, 0)))], some (.inr (0, (0, 1)))), [])
noncomputable def rxeISX_5_1 : rx_End × List (Nat × Int × Int) := (([(0, 0), (0, 0), (0, 0), (0, 0), (0, 0), (0, 0), (0, 0), (0, 0), (782, 5370), (0, 400), (0, 400), ((-9223372036854775808), 9223372036854775807), (1, 1)], [(3, (12, 0), (0, 0))], [(((0, 0), 1851192626986356803846954947553838782873304877548771291558838272000000), .inr (0, (12, 0))), (((0, 480), 32), .inr (0, (12, 0))), (((0, 0), 1851192626986356804248368361127389999420947806456441798666485763000000), .inr (1, (11, 0))), (((0, 480), 34), .inr (1, (11, 0))), (((0, 0), 1851192626986356804047661654340614391147126342002606545112662016000000), .inr (1, (11, 0))), (((0, 480), 33), .inr (1, (11, 0)))], some (.inr (0, (0, 0)))), [])
noncomputable def rxYISX : List bx_HE := [(rxzISX_0, [rxoISX_0_0], []), (rxzISX_1, [rxoISX_1_0, rxoISX_1_1], [rxeISX_1_0]), (rxzISX_2, [], []), (rxzISX_3, [rxoISX_3_0], [rxeISX_3_0, rxeISX_3_1, rxeISX_3_2]), (rxzISX_4, [], []), (rxzISX_5, [], [rxeISX_5_0, rxeISX_5_1])]
noncomputable def rxUISX (q : bx_HE) : Bool := Nat.beq (rx_zpc q.1) 38 || Nat.beq (rx_zpc q.1) 86
noncomputable def rxYBISX : bx_B := (rxV, rxNP, rxDmf, bx_mdH rxCISX.2.2.1)
set_option maxRecDepth 100000 in
theorem rxYcISX : bx_chkH rxYBISX rxM288 rxCISX rxYISX (rxUISX, fun cut z => rx_ex2 (rxCT rxYBISX rxCnE) cut 30000 rxCISX.2.2.2.1 288 z) = true := by decide +kernel
noncomputable def rxIISX (S0 : Nat → Int → Int) (ws : List Int) (i : Nat) : bx_SP := fun S r => match i with | 0 => rxIISX_0 S0 ws S (r 8) | 1 => rxIISX_1 S0 ws S (r 8) (r 9) (r 10) | 2 => rxIISX_2 S0 ws S (r 8) (r 9) (r 10) | 3 => rxIISX_3 S0 ws S (r 8) (r 9) (r 10) | 4 => rxIISX_4 S0 ws S (r 8) (r 9) (r 10) | 5 => rxIISX_5 S0 ws S (r 8) (r 9) (r 10) | _ => False
noncomputable def rxmISX (S0 : Nat → Int → Int) (ws : List Int) (i : Nat) (S : Nat → Int → Int) (r : Nat → Int) : Nat := match i with | 0 => rxmISX_0 S0 ws S (r 8) | 1 => rxmISX_1 S0 ws S (r 8) (r 9) (r 10) | 2 => rxmISX_2 S0 ws S (r 8) (r 9) (r 10) | 3 => rxmISX_3 S0 ws S (r 8) (r 9) (r 10) | 4 => rxmISX_4 S0 ws S (r 8) (r 9) (r 10) | 5 => rxmISX_5 S0 ws S (r 8) (r 9) (r 10) | _ => 0
noncomputable def rxPISX (S0 : Nat → Int → Int) (ws : List Int) : Prop := rxPSO S0 ws ∧ (∃ (start : Int) (q : rkQ) (vs : Int → Int), ws = [480, start] ∧ rqSq S0 vs start q)
noncomputable def rxPSISX (S0 : Nat → Int → Int) (ws : List Int) (S : Nat → Int → Int) (w : Option Int) : Prop := rxPSSO S0 ws S w ∧ (∃ start : Int, ws = [480, start] ∧ ∀ (q : rkQ) (vs : Int → Int), rqSq S0 vs start q → (w = some 0 ∧ rkFal vs q.2.2.2.2.2) ∨ (rkTru vs q.2.2.2.2.2 ∧ ((q.1 = 2 ∧ w = some 1) ∨ (q.1 ≠ 2 ∧ ((rkSum vs q.2.2.2.1 none ∧ w = some 0) ∨ ∃ x : Int, rkSum vs q.2.2.2.1 (some x) ∧ w = some 1 ∧ S 480 34 = x)))))
theorem rxkISX_2 {S0 : Nat → Int → Int} {ws : List Int} {S : Nat → Int → Int} {start a5 a6 : Int} (hP : rxPISX S0 ws) (hin : bx_same rxL (bx_mdl rxCISX.2.2.1) S0 S) (I0 : bx_Inv rxL S) (hinv : rxIISX_2 S0 ws S start a5 a6) (l8 : 782 ≤ start) (u8 : start ≤ 5370) (l9 : 0 ≤ a5) (u9 : a5 ≤ 400) (l10 : 0 ≤ a6) (u10 : a6 ≤ 400) : rxPRAX S [480, a5, a6] ∧ ∀ (S_p : Nat → Int → Int), rxPSRAX S [480, a5, a6] S_p none → bx_Inv rxL S_p → bx_same rxL (bx_mdl rxCRAX.2.2.1) S S_p → rxIISX_3 S0 ws S_p start a5 a6 ∧ rxmISX_3 S0 ws S_p start a5 a6 < rxmISX_2 S0 ws S start a5 a6 := by
  obtain ⟨hI, hx⟩ := hinv
  have g_ := rxkSO_2 hP.1 hin I0 hI l8 u8 l9 u9 l10 u10
  exact ⟨(by
    obtain ⟨st2, q, vs, hw2, hs⟩ := hP.2
    have est : start = st2 := Option.some.inj (congrArg (fun l : List Int => l[1]?) (hx.1.symm.trans hw2))
    subst est
    obtain ⟨hw, e, h5⟩ := hx
    obtain ⟨hso, k5, k6⟩ := hI
    rw [← e] at hs
    cases ht : q.2.2.2.2.2 with
    | none =>
      exfalso
      have := (rqSq_x hs).2.2.2 ht
      omega
    | some d => exact ⟨a5, a6, d, true, vs, rfl, by rw [k5, k6]; exact ((rqSq_x hs).2.2.1 d ht).2, (rxSo_seg hso).1⟩), fun S_p hq I1 hsm => ⟨⟨(g_.2 S_p hq.2.1 I1 hsm).1, (by
    obtain ⟨hw, e, h5⟩ := hx
    obtain ⟨hso, k5, k6⟩ := hI
    refine ⟨hw, fun q vs hs => ?_⟩
    rw [← e] at hs
    cases ht : q.2.2.2.2.2 with
    | none =>
      exfalso
      have := (rqSq_x hs).2.2.2 ht
      omega
    | some d => exact ⟨d, rfl, hq.2.2 _ _ d true vs rfl (by rw [k5, k6]; exact ((rqSq_x hs).2.2.1 d ht).2)⟩)⟩, (g_.2 S_p hq.2.1 I1 hsm).2⟩⟩
theorem rxsISX_2 {X : (Nat → Int → Int) → Prop} {S0 : Nat → Int → Int} {ws : List Int} (hP : rxPISX S0 ws) : rx_obK X S0 rxCISX.2.2.1 rxCRAX.2.2.1 (rxIISX S0 ws) (rxmISX S0 ws) 2 3 rxzISX_2 rxzISX_3 [.inr (3, (0, 480)), .inr (0, (9, 0)), .inr (0, (10, 0))] none rxPRAX rxPSRAX := by
  intro S r hinv hXS I0 hin hs_ hf_
  have b_ := bx_bds_sat hs_
  have f_ := bx_fcl_ok hs_.1 hf_
  obtain ⟨⟨l8, u8⟩, ⟨l9, u9⟩, ⟨l10, u10⟩, -⟩ := b_
  have g := rxkISX_2 hP hin I0 hinv l8 u8 l9 u9 l10 u10
  have ea : List.map (bx_num r) [.inr (3, (0, 480)), .inr (0, (9, 0)), .inr (0, (10, 0))] = [480, (r 9), (r 10)] := by
    simp only [List.map_cons, List.map_nil, bx_xv_ok hs_.1]
    rfl
  rw [ea]
  refine ⟨g.1, fun S_p w r_p hPS hX_p I1 hsm hr hw hs_p => ?_⟩
  have hw : w = none := hPS.1
  subst hw
  have g2 := g.2 S_p hPS I1 hsm
  show rxIISX_3 S0 ws S_p (r_p 8) (r_p 9) (r_p 10) ∧ rxmISX_3 S0 ws S_p (r_p 8) (r_p 9) (r_p 10) < _
  rw [hr 8 (by decide), hr 9 (by decide), hr 10 (by decide)]
  exact g2
theorem rxkISX_4 {S0 : Nat → Int → Int} {ws : List Int} {S : Nat → Int → Int} {start a3 a4 : Int} (hP : rxPISX S0 ws) (hin : bx_same rxL (bx_mdl rxCISX.2.2.1) S0 S) (I0 : bx_Inv rxL S) (hinv : rxIISX_4 S0 ws S start a3 a4) (l8 : 782 ≤ start) (u8 : start ≤ 5370) (l9 : 0 ≤ a3) (u9 : a3 ≤ 400) (l10 : 0 ≤ a4) (u10 : a4 ≤ 400) : rxPRAX S [480, a3, a4] ∧ ∀ (S_p : Nat → Int → Int), rxPSRAX S [480, a3, a4] S_p none → bx_Inv rxL S_p → bx_same rxL (bx_mdl rxCRAX.2.2.1) S S_p → rxIISX_5 S0 ws S_p start a3 a4 ∧ rxmISX_5 S0 ws S_p start a3 a4 < rxmISX_4 S0 ws S start a3 a4 := by
  obtain ⟨hI, hx⟩ := hinv
  have g_ := rxkSO_4 hP.1 hin I0 hI l8 u8 l9 u9 l10 u10
  exact ⟨(by
    obtain ⟨st2, q, vs, hw2, hs⟩ := hP.2
    have est : start = st2 := Option.some.inj (congrArg (fun l : List Int => l[1]?) (hx.1.symm.trans hw2))
    subst est
    obtain ⟨hw, hk, hx⟩ := hx
    obtain ⟨hso, k3, k4⟩ := hI
    have hSq : ∀ (q : rkQ) (vs : Int → Int), rqSq S0 vs start q → rqSq S vs start q := fun q vs hs => by
      obtain ⟨-, n, k, n0, n5, k0, k1, hst, hl, -⟩ := hso
      have e28 : S 480 28 = S0 480 28 := rx_sameO hin (p := 480) (j := 28) rfl (by omega) (by decide +kernel) (by decide)
      exact rqSq_c hs (fun j a b => rx_sameR hin (p := 482) (tc := 0) (n := 6180) (g := 63) rfl (by omega) (by decide +kernel) (by decide +kernel) a b) e28 (rx_sameO hin (p := 480) (j := 15) rfl (by omega) (by decide +kernel) (by decide)) (fun k a b => rz_fd hin (p := 493) (n := 13) (c := 1074) (k := 0) (by decide +kernel) (by decide) (by decide +kernel) k (by omega) (by omega)) ⟨n, k, n0, n5, k0, k1, hst, by omega⟩
    have hs_p := hSq q vs hs
    have hk1 := (rqSq_x hs_p).1
    obtain ⟨d, hd⟩ := hs.2.1.2.2.1 (by omega)
    exact ⟨a3, a4, d, false, vs, rfl, by rw [k3, k4]; exact ((rqSq_x hs_p).2.1 d hd).2, (rxSo_seg hso).1⟩), fun S_p hq I1 hsm => ⟨⟨(g_.2 S_p hq.2.1 I1 hsm).1, (by
    obtain ⟨hw, hk, hx⟩ := hx
    obtain ⟨hso, k3, k4⟩ := hI
    have hSq : ∀ (q : rkQ) (vs : Int → Int), rqSq S0 vs start q → rqSq S vs start q := fun q vs hs => by
      obtain ⟨-, n, k, n0, n5, k0, k1, hst, hl, -⟩ := hso
      have e28 : S 480 28 = S0 480 28 := rx_sameO hin (p := 480) (j := 28) rfl (by omega) (by decide +kernel) (by decide)
      exact rqSq_c hs (fun j a b => rx_sameR hin (p := 482) (tc := 0) (n := 6180) (g := 63) rfl (by omega) (by decide +kernel) (by decide +kernel) a b) e28 (rx_sameO hin (p := 480) (j := 15) rfl (by omega) (by decide +kernel) (by decide)) (fun k a b => rz_fd hin (p := 493) (n := 13) (c := 1074) (k := 0) (by decide +kernel) (by decide) (by decide +kernel) k (by omega) (by omega)) ⟨n, k, n0, n5, k0, k1, hst, by omega⟩
    refine ⟨hw, fun q vs hs => ?_⟩
    have hs_p := hSq q vs hs
    have hk1 := (rqSq_x hs_p).1
    have ne : q.1 ≠ 2 := by omega
    obtain ⟨d, hd⟩ := hs.2.1.2.2.1 ne
    exact ⟨hx q vs hs, ne, d, hd, hq.2.2 _ _ d false vs rfl (by rw [k3, k4]; exact ((rqSq_x hs_p).2.1 d hd).2)⟩)⟩, (g_.2 S_p hq.2.1 I1 hsm).2⟩⟩
theorem rxsISX_4 {X : (Nat → Int → Int) → Prop} {S0 : Nat → Int → Int} {ws : List Int} (hP : rxPISX S0 ws) : rx_obK X S0 rxCISX.2.2.1 rxCRAX.2.2.1 (rxIISX S0 ws) (rxmISX S0 ws) 4 5 rxzISX_4 rxzISX_5 [.inr (3, (0, 480)), .inr (0, (9, 0)), .inr (0, (10, 0))] none rxPRAX rxPSRAX := by
  intro S r hinv hXS I0 hin hs_ hf_
  have b_ := bx_bds_sat hs_
  have f_ := bx_fcl_ok hs_.1 hf_
  obtain ⟨⟨l8, u8⟩, ⟨l9, u9⟩, ⟨l10, u10⟩, -⟩ := b_
  have g := rxkISX_4 hP hin I0 hinv l8 u8 l9 u9 l10 u10
  have ea : List.map (bx_num r) [.inr (3, (0, 480)), .inr (0, (9, 0)), .inr (0, (10, 0))] = [480, (r 9), (r 10)] := by
    simp only [List.map_cons, List.map_nil, bx_xv_ok hs_.1]
    rfl
  rw [ea]
  refine ⟨g.1, fun S_p w r_p hPS hX_p I1 hsm hr hw hs_p => ?_⟩
  have hw : w = none := hPS.1
  subst hw
  have g2 := g.2 S_p hPS I1 hsm
  show rxIISX_5 S0 ws S_p (r_p 8) (r_p 9) (r_p 10) ∧ rxmISX_5 S0 ws S_p (r_p 8) (r_p 9) (r_p 10) < _
  rw [hr 8 (by decide), hr 9 (by decide), hr 10 (by decide)]
  exact g2
theorem rxcISX_0_0 {S0 : Nat → Int → Int} {ws : List Int} {S : Nat → Int → Int} {start x9 x10 : Int} (hP : rxPISX S0 ws) (hin : bx_same rxL (bx_mdl rxCISX.2.2.1) S0 S) (I0 : bx_Inv rxL S) (hinv : rxIISX_0 S0 ws S start) (l8 : 782 ≤ start) (u8 : start ≤ 5370) (l9 : 0 ≤ x9) (u9 : x9 ≤ 1000) (l10 : 0 ≤ x10) (u10 : x10 ≤ 1000) (e1 : S 482 (start + 5) = x9) (e0 : S 482 (start + 6) = x10) : ((0 ≤ x9 ∧ x9 ≤ 400) ∧ (0 ≤ x10 ∧ x10 ≤ 400) ∧ True) ∧ (True) ∧ rxIISX_1 S0 ws S start x9 x10 ∧ rxmISX_1 S0 ws S start x9 x10 < rxmISX_0 S0 ws S start := by
  obtain ⟨hI, hx⟩ := hinv
  obtain ⟨a_, b_, c_, d_⟩ := rxcSO_0_0 hP.1 hin I0 hI l8 u8 l9 u9 l10 u10 e1 e0
  exact ⟨a_, b_, ⟨c_, (by
    obtain ⟨e, hw⟩ := hI
    subst e
    exact ⟨hw, rfl, e1.symm, e0.symm⟩)⟩, d_⟩
theorem rxgISX_0_0 {X : (Nat → Int → Int) → Prop} {S0 : Nat → Int → Int} {ws : List Int} (hP : rxPISX S0 ws) : bx_obC rxL X S0 rxCISX.2.2.1 (rxIISX S0 ws) (rxmISX S0 ws) 0 rxzISX_0 rxoISX_0_0 := by
  intro S S_p r r_p hinv hX hin hsm_ hseg
  obtain ⟨I0, I1, h0_, hr_, b_, f_, d_⟩ := bx_cl (evs := [(0, (0, 482), (8, 6), .inr (0, (10, 0))), (0, (0, 482), (8, 5), .inr (0, (9, 0)))]) (fvs := []) hseg (by decide +kernel) (by decide +kernel)
  have hinv : rxIISX_0 S0 ws S (r 8) := hinv
  rw [← hr_ 8 (by decide)] at hinv
  obtain ⟨⟨l8, u8⟩, ⟨l9, u9⟩, ⟨l10, u10⟩, -⟩ := b_
  obtain ⟨e0, ⟨e1, w_⟩⟩ := d_
  subst w_
  have g := rxcISX_0_0 hP hin I0 hinv l8 u8 l9 u9 l10 u10 e1 e0
  refine ⟨bx_narP_ok (l := [(9, 0, 400), (10, 0, 400)]) g.1, bx_nfP_ok h0_ (fvs := []) (by decide +kernel) g.2.1, ?_, ?_⟩
  · show rxIISX_1 S0 ws S_p (bx_val [(0, 0), (0, 0), (0, 0), (0, 0), (0, 0), (0, 0), (0, 0), (0, 0), (8, 0), (9, 0), (10, 0)] r_p 8) (bx_val [(0, 0), (0, 0), (0, 0), (0, 0), (0, 0), (0, 0), (0, 0), (0, 0), (8, 0), (9, 0), (10, 0)] r_p 9) (bx_val [(0, 0), (0, 0), (0, 0), (0, 0), (0, 0), (0, 0), (0, 0), (0, 0), (8, 0), (9, 0), (10, 0)] r_p 10)
    rw [bx_val_x (n := 8) (e := (8, 0)) h0_ rfl, bx_val_x (n := 9) (e := (9, 0)) h0_ rfl, bx_val_x (n := 10) (e := (10, 0)) h0_ rfl]
    exact g.2.2.1
  · show rxmISX_1 S0 ws S_p (bx_val [(0, 0), (0, 0), (0, 0), (0, 0), (0, 0), (0, 0), (0, 0), (0, 0), (8, 0), (9, 0), (10, 0)] r_p 8) (bx_val [(0, 0), (0, 0), (0, 0), (0, 0), (0, 0), (0, 0), (0, 0), (0, 0), (8, 0), (9, 0), (10, 0)] r_p 9) (bx_val [(0, 0), (0, 0), (0, 0), (0, 0), (0, 0), (0, 0), (0, 0), (0, 0), (8, 0), (9, 0), (10, 0)] r_p 10) < rxmISX_0 S0 ws S_p (r 8)
    rw [bx_val_x (n := 8) (e := (8, 0)) h0_ rfl, bx_val_x (n := 9) (e := (9, 0)) h0_ rfl, bx_val_x (n := 10) (e := (10, 0)) h0_ rfl, ← hr_ 8 (by decide)]
    exact g.2.2.2
theorem rxcISX_1_0 {S0 : Nat → Int → Int} {ws : List Int} {S : Nat → Int → Int} {start c5 c6 x11 x12 : Int} (hP : rxPISX S0 ws) (hin : bx_same rxL (bx_mdl rxCISX.2.2.1) S0 S) (I0 : bx_Inv rxL S) (hinv : rxIISX_1 S0 ws S start c5 c6) (l8 : 782 ≤ start) (u8 : start ≤ 5370) (l9 : 0 ≤ c5) (u9 : c5 ≤ 399) (l10 : 1 ≤ c6) (u10 : c6 ≤ 400) (l11 : 0 ≤ x11) (u11 : x11 ≤ 1000) (l12 : 0 ≤ x12) (u12 : x12 ≤ 1000) (f0 : c5 < c6) (e1 : S 482 (start + 5) = x11) (e0 : S 482 (start + 6) = x12) : ((0 ≤ x11 ∧ x11 ≤ 400) ∧ (0 ≤ x12 ∧ x12 ≤ 400) ∧ True) ∧ (True) ∧ rxIISX_2 S0 ws S start x11 x12 ∧ rxmISX_2 S0 ws S start x11 x12 < rxmISX_1 S0 ws S start c5 c6 := by
  obtain ⟨hI, hx⟩ := hinv
  obtain ⟨a_, b_, c_, d_⟩ := rxcSO_1_0 hP.1 hin I0 hI l8 u8 l9 u9 l10 u10 l11 u11 l12 u12 f0 e1 e0
  exact ⟨a_, b_, ⟨c_, (by
    obtain ⟨hw, e, h5, h6⟩ := hx
    exact ⟨hw, e, by omega⟩)⟩, d_⟩
theorem rxgISX_1_0 {X : (Nat → Int → Int) → Prop} {S0 : Nat → Int → Int} {ws : List Int} (hP : rxPISX S0 ws) : bx_obC rxL X S0 rxCISX.2.2.1 (rxIISX S0 ws) (rxmISX S0 ws) 1 rxzISX_1 rxoISX_1_0 := by
  intro S S_p r r_p hinv hX hin hsm_ hseg
  obtain ⟨I0, I1, h0_, hr_, b_, f_, d_⟩ := bx_cl (evs := [(0, (0, 482), (8, 6), .inr (0, (12, 0))), (0, (0, 482), (8, 5), .inr (0, (11, 0)))]) (fvs := [(0, (9, 0), (10, 0), (0, 0))]) hseg (by decide +kernel) (by decide +kernel)
  have hinv : rxIISX_1 S0 ws S (r 8) (r 9) (r 10) := hinv
  rw [← hr_ 8 (by decide), ← hr_ 9 (by decide), ← hr_ 10 (by decide)] at hinv
  obtain ⟨⟨l8, u8⟩, ⟨l9, u9⟩, ⟨l10, u10⟩, ⟨l11, u11⟩, ⟨l12, u12⟩, -⟩ := b_
  obtain ⟨f0, -⟩ := f_
  obtain ⟨e0, ⟨e1, w_⟩⟩ := d_
  subst w_
  have g := rxcISX_1_0 hP hin I0 hinv l8 u8 l9 u9 l10 u10 l11 u11 l12 u12 f0 e1 e0
  refine ⟨bx_narP_ok (l := [(11, 0, 400), (12, 0, 400)]) g.1, bx_nfP_ok h0_ (fvs := []) (by decide +kernel) g.2.1, ?_, ?_⟩
  · show rxIISX_2 S0 ws S_p (bx_val [(0, 0), (0, 0), (0, 0), (0, 0), (0, 0), (0, 0), (0, 0), (0, 0), (8, 0), (11, 0), (12, 0)] r_p 8) (bx_val [(0, 0), (0, 0), (0, 0), (0, 0), (0, 0), (0, 0), (0, 0), (0, 0), (8, 0), (11, 0), (12, 0)] r_p 9) (bx_val [(0, 0), (0, 0), (0, 0), (0, 0), (0, 0), (0, 0), (0, 0), (0, 0), (8, 0), (11, 0), (12, 0)] r_p 10)
    rw [bx_val_x (n := 8) (e := (8, 0)) h0_ rfl, bx_val_x (n := 9) (e := (11, 0)) h0_ rfl, bx_val_x (n := 10) (e := (12, 0)) h0_ rfl]
    exact g.2.2.1
  · show rxmISX_2 S0 ws S_p (bx_val [(0, 0), (0, 0), (0, 0), (0, 0), (0, 0), (0, 0), (0, 0), (0, 0), (8, 0), (11, 0), (12, 0)] r_p 8) (bx_val [(0, 0), (0, 0), (0, 0), (0, 0), (0, 0), (0, 0), (0, 0), (0, 0), (8, 0), (11, 0), (12, 0)] r_p 9) (bx_val [(0, 0), (0, 0), (0, 0), (0, 0), (0, 0), (0, 0), (0, 0), (0, 0), (8, 0), (11, 0), (12, 0)] r_p 10) < rxmISX_1 S0 ws S_p (r 8) (r 9) (r 10)
    rw [bx_val_x (n := 8) (e := (8, 0)) h0_ rfl, bx_val_x (n := 9) (e := (11, 0)) h0_ rfl, bx_val_x (n := 10) (e := (12, 0)) h0_ rfl, ← hr_ 8 (by decide), ← hr_ 9 (by decide), ← hr_ 10 (by decide)]
    exact g.2.2.2
theorem rxcISX_1_1 {S0 : Nat → Int → Int} {ws : List Int} {S : Nat → Int → Int} {start c5 c6 x11 x12 x13 : Int} (hP : rxPISX S0 ws) (hin : bx_same rxL (bx_mdl rxCISX.2.2.1) S0 S) (I0 : bx_Inv rxL S) (hinv : rxIISX_1 S0 ws S start c5 c6) (l8 : 782 ≤ start) (u8 : start ≤ 5370) (l9 : 0 ≤ c5) (u9 : c5 ≤ 400) (l10 : 0 ≤ c6) (u10 : c6 ≤ 400) (l11 : 0 ≤ x11) (u11 : x11 ≤ 1000) (l12 : 0 ≤ x12) (u12 : x12 ≤ 1000) (l13 : 0 ≤ x13) (u13 : x13 ≤ 1000) (f0 : x11 ≠ 2) (f1 : c6 ≤ c5) (e2 : S 482 start = x11) (e1 : S 482 (start + 3) = x12) (e0 : S 482 (start + 4) = x13) : ((0 ≤ x12 ∧ x12 ≤ 400) ∧ (0 ≤ x13 ∧ x13 ≤ 400) ∧ True) ∧ (True) ∧ rxIISX_4 S0 ws S start x12 x13 ∧ rxmISX_4 S0 ws S start x12 x13 < rxmISX_1 S0 ws S start c5 c6 := by
  obtain ⟨hI, hx⟩ := hinv
  obtain ⟨a_, b_, c_, d_⟩ := rxcSO_1_1 hP.1 hin I0 hI l8 u8 l9 u9 l10 u10 l11 u11 l12 u12 l13 u13 f0 f1 e2 e1 e0
  exact ⟨a_, b_, ⟨c_, (by
    obtain ⟨hw, e, h5, h6⟩ := hx
    subst e
    refine ⟨hw, by omega, fun q vs hs => ?_⟩
    cases ht : q.2.2.2.2.2 with
    | none => trivial
    | some d =>
      exfalso
      have := ((rqSq_x hs).2.2.1 d ht).1
      omega)⟩, d_⟩
theorem rxgISX_1_1 {X : (Nat → Int → Int) → Prop} {S0 : Nat → Int → Int} {ws : List Int} (hP : rxPISX S0 ws) : bx_obC rxL X S0 rxCISX.2.2.1 (rxIISX S0 ws) (rxmISX S0 ws) 1 rxzISX_1 rxoISX_1_1 := by
  intro S S_p r r_p hinv hX hin hsm_ hseg
  obtain ⟨I0, I1, h0_, hr_, b_, f_, d_⟩ := bx_cl (evs := [(0, (0, 482), (8, 4), .inr (0, (13, 0))), (0, (0, 482), (8, 3), .inr (0, (12, 0))), (0, (0, 482), (8, 0), .inr (0, (11, 0)))]) (fvs := [(3, (11, 0), (0, 2), (0, 0)), (1, (10, 0), (9, 0), (0, 0))]) hseg (by decide +kernel) (by decide +kernel)
  have hinv : rxIISX_1 S0 ws S (r 8) (r 9) (r 10) := hinv
  rw [← hr_ 8 (by decide), ← hr_ 9 (by decide), ← hr_ 10 (by decide)] at hinv
  obtain ⟨⟨l8, u8⟩, ⟨l9, u9⟩, ⟨l10, u10⟩, ⟨l11, u11⟩, ⟨l12, u12⟩, ⟨l13, u13⟩, -⟩ := b_
  obtain ⟨f0, f1, -⟩ := f_
  obtain ⟨e0, ⟨e1, ⟨e2, w_⟩⟩⟩ := d_
  subst w_
  have g := rxcISX_1_1 hP hin I0 hinv l8 u8 l9 u9 l10 u10 l11 u11 l12 u12 l13 u13 f0 f1 e2 e1 e0
  refine ⟨bx_narP_ok (l := [(12, 0, 400), (13, 0, 400)]) g.1, bx_nfP_ok h0_ (fvs := []) (by decide +kernel) g.2.1, ?_, ?_⟩
  · show rxIISX_4 S0 ws S_p (bx_val [(0, 0), (0, 0), (0, 0), (0, 0), (0, 0), (0, 0), (0, 0), (0, 0), (8, 0), (12, 0), (13, 0)] r_p 8) (bx_val [(0, 0), (0, 0), (0, 0), (0, 0), (0, 0), (0, 0), (0, 0), (0, 0), (8, 0), (12, 0), (13, 0)] r_p 9) (bx_val [(0, 0), (0, 0), (0, 0), (0, 0), (0, 0), (0, 0), (0, 0), (0, 0), (8, 0), (12, 0), (13, 0)] r_p 10)
    rw [bx_val_x (n := 8) (e := (8, 0)) h0_ rfl, bx_val_x (n := 9) (e := (12, 0)) h0_ rfl, bx_val_x (n := 10) (e := (13, 0)) h0_ rfl]
    exact g.2.2.1
  · show rxmISX_4 S0 ws S_p (bx_val [(0, 0), (0, 0), (0, 0), (0, 0), (0, 0), (0, 0), (0, 0), (0, 0), (8, 0), (12, 0), (13, 0)] r_p 8) (bx_val [(0, 0), (0, 0), (0, 0), (0, 0), (0, 0), (0, 0), (0, 0), (0, 0), (8, 0), (12, 0), (13, 0)] r_p 9) (bx_val [(0, 0), (0, 0), (0, 0), (0, 0), (0, 0), (0, 0), (0, 0), (0, 0), (8, 0), (12, 0), (13, 0)] r_p 10) < rxmISX_1 S0 ws S_p (r 8) (r 9) (r 10)
    rw [bx_val_x (n := 8) (e := (8, 0)) h0_ rfl, bx_val_x (n := 9) (e := (12, 0)) h0_ rfl, bx_val_x (n := 10) (e := (13, 0)) h0_ rfl, ← hr_ 8 (by decide), ← hr_ 9 (by decide), ← hr_ 10 (by decide)]
    exact g.2.2.2
theorem rxdISX_1_0 {S0 : Nat → Int → Int} {ws : List Int} {S : Nat → Int → Int} {start c5 c6 x11 : Int} (hP : rxPISX S0 ws) (hin : bx_same rxL (bx_mdl rxCISX.2.2.1) S0 S) (hin2 : bx_same rxL (bx_mdl rxCISX.2.2.1) S S) (I0 : bx_Inv rxL S) (I1 : bx_Inv rxL S) (hinv : rxIISX_1 S0 ws S start c5 c6) (l8 : 782 ≤ start) (u8 : start ≤ 5370) (l9 : 0 ≤ c5) (u9 : c5 ≤ 400) (l10 : 0 ≤ c6) (u10 : c6 ≤ 400) (l11 : 2 ≤ x11) (u11 : x11 ≤ 2) (f0 : c6 ≤ c5) (e0 : S 482 start = x11) : (True) ∧ rxPSISX S0 ws S (some 1) := by
  obtain ⟨hI, hx⟩ := hinv
  obtain ⟨a_, c_⟩ := rxdSO_1_0 hP.1 hin hin2 I0 I1 hI l8 u8 l9 u9 l10 u10 l11 u11 f0 e0
  exact ⟨a_, c_, (by
    obtain ⟨hw, e, h5, h6⟩ := hx
    subst e
    refine ⟨start, hw, fun q vs hs => Or.inr ⟨?_, Or.inl ⟨?_, rfl⟩⟩⟩
    · cases ht : q.2.2.2.2.2 with
      | none => trivial
      | some d =>
        exfalso
        have := ((rqSq_x hs).2.2.1 d ht).1
        omega
    · have := (rqSq_x hs).1
      omega)⟩
theorem rxfISX_1_0 {X : (Nat → Int → Int) → Prop} {S0 : Nat → Int → Int} {ws : List Int} (hP : rxPISX S0 ws) : bx_obE rxL X S0 rxCISX.2.2.1 (rxIISX S0 ws) (rxPSISX S0 ws) 1 rxzISX_1 rxeISX_1_0 := by
  intro S S_p r r_p hinv hX hin hsm_ hseg
  obtain ⟨I0, I1, h0_, hr_, b_, f_, d_⟩ := bx_cl (evs := [(0, (0, 482), (8, 0), .inr (0, (11, 0)))]) (fvs := [(1, (10, 0), (9, 0), (0, 0))]) hseg (by decide +kernel) (by decide +kernel)
  have hinv : rxIISX_1 S0 ws S (r 8) (r 9) (r 10) := hinv
  rw [← hr_ 8 (by decide), ← hr_ 9 (by decide), ← hr_ 10 (by decide)] at hinv
  obtain ⟨⟨l8, u8⟩, ⟨l9, u9⟩, ⟨l10, u10⟩, ⟨l11, u11⟩, -⟩ := b_
  obtain ⟨f0, -⟩ := f_
  obtain ⟨e0, w_⟩ := d_
  subst w_
  have g := rxdISX_1_0 hP hin hsm_ I0 I1 hinv l8 u8 l9 u9 l10 u10 l11 u11 f0 e0
  refine ⟨bx_narP_ok (l := []) g.1, ?_⟩
  show rxPSISX S0 ws S_p (some (bx_num r_p (.inr (0, (0, 1)))))
  rw [bx_xv_ok h0_]
  exact g.2
theorem rxcISX_3_0 {S0 : Nat → Int → Int} {ws : List Int} {S : Nat → Int → Int} {start a5 a6 x11 x12 x13 x14 x15 : Int} (hP : rxPISX S0 ws) (hin : bx_same rxL (bx_mdl rxCISX.2.2.1) S0 S) (I0 : bx_Inv rxL S) (hinv : rxIISX_3 S0 ws S start a5 a6) (l8 : 782 ≤ start) (u8 : start ≤ 5370) (l9 : 0 ≤ a5) (u9 : a5 ≤ 400) (l10 : 0 ≤ a6) (u10 : a6 ≤ 400) (l11 : 0 ≤ x11) (u11 : x11 ≤ 0) (l12 : (-9223372036854775808) ≤ x12) (u12 : x12 ≤ 9223372036854775807) (l13 : 0 ≤ x13) (u13 : x13 ≤ 1000) (l14 : 0 ≤ x14) (u14 : x14 ≤ 1000) (l15 : 0 ≤ x15) (u15 : x15 ≤ 1000) (f0 : x13 ≠ 2) (f1 : x12 ≠ 0) (e4 : S 480 32 = x11) (e3 : S 480 33 = x12) (e2 : S 482 start = x13) (e1 : S 482 (start + 3) = x14) (e0 : S 482 (start + 4) = x15) : ((0 ≤ x14 ∧ x14 ≤ 400) ∧ (0 ≤ x15 ∧ x15 ≤ 400) ∧ True) ∧ (True) ∧ rxIISX_4 S0 ws S start x14 x15 ∧ rxmISX_4 S0 ws S start x14 x15 < rxmISX_3 S0 ws S start a5 a6 := by
  obtain ⟨hI, hx⟩ := hinv
  obtain ⟨a_, b_, c_, d_⟩ := rxcSO_3_0 hP.1 hin I0 hI l8 u8 l9 u9 l10 u10 l11 u11 l12 u12 l13 u13 l14 u14 l15 u15 f0 f1 e4 e3 e2 e1 e0
  exact ⟨a_, b_, ⟨c_, (by
    refine ⟨hx.1, by omega, fun q vs hs => ?_⟩
    obtain ⟨d, ht, ho⟩ := hx.2 q vs hs
    rcases ho with ⟨z, g0⟩ | ⟨z, x, g1, g2, g3, g4⟩
    · exfalso
      omega
    · have h1 : x = 1 := by
        have := g4 rfl
        omega
      subst h1
      rw [ht]
      exact g1)⟩, d_⟩
theorem rxgISX_3_0 {X : (Nat → Int → Int) → Prop} {S0 : Nat → Int → Int} {ws : List Int} (hP : rxPISX S0 ws) : bx_obC rxL X S0 rxCISX.2.2.1 (rxIISX S0 ws) (rxmISX S0 ws) 3 rxzISX_3 rxoISX_3_0 := by
  intro S S_p r r_p hinv hX hin hsm_ hseg
  obtain ⟨I0, I1, h0_, hr_, b_, f_, d_⟩ := bx_cl (evs := [(0, (0, 482), (8, 4), .inr (0, (15, 0))), (0, (0, 482), (8, 3), .inr (0, (14, 0))), (0, (0, 482), (8, 0), .inr (0, (13, 0))), (0, (0, 480), (0, 33), .inr (1, (12, 0))), (0, (0, 480), (0, 32), .inr (0, (11, 0)))]) (fvs := [(3, (13, 0), (0, 2), (0, 0)), (3, (12, 0), (0, 0), (0, 0))]) hseg (by decide +kernel) (by decide +kernel)
  have hinv : rxIISX_3 S0 ws S (r 8) (r 9) (r 10) := hinv
  rw [← hr_ 8 (by decide), ← hr_ 9 (by decide), ← hr_ 10 (by decide)] at hinv
  obtain ⟨⟨l8, u8⟩, ⟨l9, u9⟩, ⟨l10, u10⟩, ⟨l11, u11⟩, ⟨l12, u12⟩, ⟨l13, u13⟩, ⟨l14, u14⟩, ⟨l15, u15⟩, -⟩ := b_
  obtain ⟨f0, f1, -⟩ := f_
  obtain ⟨e0, ⟨e1, ⟨e2, ⟨e3, ⟨e4, w_⟩⟩⟩⟩⟩ := d_
  subst w_
  have g := rxcISX_3_0 hP hin I0 hinv l8 u8 l9 u9 l10 u10 l11 u11 l12 u12 l13 u13 l14 u14 l15 u15 f0 f1 e4 e3 e2 e1 e0
  refine ⟨bx_narP_ok (l := [(14, 0, 400), (15, 0, 400)]) g.1, bx_nfP_ok h0_ (fvs := []) (by decide +kernel) g.2.1, ?_, ?_⟩
  · show rxIISX_4 S0 ws S_p (bx_val [(0, 0), (0, 0), (0, 0), (0, 0), (0, 0), (0, 0), (0, 0), (0, 0), (8, 0), (14, 0), (15, 0)] r_p 8) (bx_val [(0, 0), (0, 0), (0, 0), (0, 0), (0, 0), (0, 0), (0, 0), (0, 0), (8, 0), (14, 0), (15, 0)] r_p 9) (bx_val [(0, 0), (0, 0), (0, 0), (0, 0), (0, 0), (0, 0), (0, 0), (0, 0), (8, 0), (14, 0), (15, 0)] r_p 10)
    rw [bx_val_x (n := 8) (e := (8, 0)) h0_ rfl, bx_val_x (n := 9) (e := (14, 0)) h0_ rfl, bx_val_x (n := 10) (e := (15, 0)) h0_ rfl]
    exact g.2.2.1
  · show rxmISX_4 S0 ws S_p (bx_val [(0, 0), (0, 0), (0, 0), (0, 0), (0, 0), (0, 0), (0, 0), (0, 0), (8, 0), (14, 0), (15, 0)] r_p 8) (bx_val [(0, 0), (0, 0), (0, 0), (0, 0), (0, 0), (0, 0), (0, 0), (0, 0), (8, 0), (14, 0), (15, 0)] r_p 9) (bx_val [(0, 0), (0, 0), (0, 0), (0, 0), (0, 0), (0, 0), (0, 0), (0, 0), (8, 0), (14, 0), (15, 0)] r_p 10) < rxmISX_3 S0 ws S_p (r 8) (r 9) (r 10)
    rw [bx_val_x (n := 8) (e := (8, 0)) h0_ rfl, bx_val_x (n := 9) (e := (14, 0)) h0_ rfl, bx_val_x (n := 10) (e := (15, 0)) h0_ rfl, ← hr_ 8 (by decide), ← hr_ 9 (by decide), ← hr_ 10 (by decide)]
    exact g.2.2.2
theorem rxdISX_3_0 {S0 : Nat → Int → Int} {ws : List Int} {S : Nat → Int → Int} {start a5 a6 x11 x12 : Int} (hP : rxPISX S0 ws) (hin : bx_same rxL (bx_mdl rxCISX.2.2.1) S0 S) (hin2 : bx_same rxL (bx_mdl rxCISX.2.2.1) S S) (I0 : bx_Inv rxL S) (I1 : bx_Inv rxL S) (hinv : rxIISX_3 S0 ws S start a5 a6) (l8 : 782 ≤ start) (u8 : start ≤ 5370) (l9 : 0 ≤ a5) (u9 : a5 ≤ 400) (l10 : 0 ≤ a6) (u10 : a6 ≤ 400) (l11 : 0 ≤ x11) (u11 : x11 ≤ 0) (l12 : 0 ≤ x12) (u12 : x12 ≤ 0) (e1 : S 480 32 = x11) (e0 : S 480 33 = x12) : (True) ∧ rxPSISX S0 ws S (some 0) := by
  obtain ⟨hI, hx⟩ := hinv
  obtain ⟨a_, c_⟩ := rxdSO_3_0 hP.1 hin hin2 I0 I1 hI l8 u8 l9 u9 l10 u10 l11 u11 l12 u12 e1 e0
  exact ⟨a_, c_, (by
    have hso : rxSo S start := hI
    refine ⟨start, hx.1, fun q vs hs => ?_⟩
    obtain ⟨d, ht, ho⟩ := hx.2 q vs hs
    rcases ho with ⟨z, g0⟩ | ⟨z, x, g1, g2, g3, g4⟩
    · exfalso
      omega
    · have h1 : x = 0 := by omega
      subst h1
      rw [ht]
      exact Or.inl ⟨rfl, Or.inr g1⟩)⟩
theorem rxfISX_3_0 {X : (Nat → Int → Int) → Prop} {S0 : Nat → Int → Int} {ws : List Int} (hP : rxPISX S0 ws) : bx_obE rxL X S0 rxCISX.2.2.1 (rxIISX S0 ws) (rxPSISX S0 ws) 3 rxzISX_3 rxeISX_3_0 := by
  intro S S_p r r_p hinv hX hin hsm_ hseg
  obtain ⟨I0, I1, h0_, hr_, b_, f_, d_⟩ := bx_cl (evs := [(0, (0, 480), (0, 33), .inr (1, (12, 0))), (0, (0, 480), (0, 32), .inr (0, (11, 0)))]) (fvs := []) hseg (by decide +kernel) (by decide +kernel)
  have hinv : rxIISX_3 S0 ws S (r 8) (r 9) (r 10) := hinv
  rw [← hr_ 8 (by decide), ← hr_ 9 (by decide), ← hr_ 10 (by decide)] at hinv
  obtain ⟨⟨l8, u8⟩, ⟨l9, u9⟩, ⟨l10, u10⟩, ⟨l11, u11⟩, ⟨l12, u12⟩, -⟩ := b_
  obtain ⟨e0, ⟨e1, w_⟩⟩ := d_
  subst w_
  have g := rxdISX_3_0 hP hin hsm_ I0 I1 hinv l8 u8 l9 u9 l10 u10 l11 u11 l12 u12 e1 e0
  refine ⟨bx_narP_ok (l := []) g.1, ?_⟩
  show rxPSISX S0 ws S_p (some (bx_num r_p (.inr (0, (0, 0)))))
  rw [bx_xv_ok h0_]
  exact g.2
theorem rxdISX_3_1 {S0 : Nat → Int → Int} {ws : List Int} {S : Nat → Int → Int} {start a5 a6 x11 x12 x13 : Int} (hP : rxPISX S0 ws) (hin : bx_same rxL (bx_mdl rxCISX.2.2.1) S0 S) (hin2 : bx_same rxL (bx_mdl rxCISX.2.2.1) S S) (I0 : bx_Inv rxL S) (I1 : bx_Inv rxL S) (hinv : rxIISX_3 S0 ws S start a5 a6) (l8 : 782 ≤ start) (u8 : start ≤ 5370) (l9 : 0 ≤ a5) (u9 : a5 ≤ 400) (l10 : 0 ≤ a6) (u10 : a6 ≤ 400) (l11 : 0 ≤ x11) (u11 : x11 ≤ 0) (l12 : (-9223372036854775808) ≤ x12) (u12 : x12 ≤ 9223372036854775807) (l13 : 2 ≤ x13) (u13 : x13 ≤ 2) (f0 : x12 ≠ 0) (e2 : S 480 32 = x11) (e1 : S 480 33 = x12) (e0 : S 482 start = x13) : (True) ∧ rxPSISX S0 ws S (some 1) := by
  obtain ⟨hI, hx⟩ := hinv
  obtain ⟨a_, c_⟩ := rxdSO_3_1 hP.1 hin hin2 I0 I1 hI l8 u8 l9 u9 l10 u10 l11 u11 l12 u12 l13 u13 f0 e2 e1 e0
  exact ⟨a_, c_, (by
    have hso : rxSo S start := hI
    have hSq : ∀ (q : rkQ) (vs : Int → Int), rqSq S0 vs start q → rqSq S vs start q := fun q vs hs => by
      obtain ⟨-, n, k, n0, n5, k0, k1, hst, hl, -⟩ := hso
      have e28 : S 480 28 = S0 480 28 := rx_sameO hin (p := 480) (j := 28) rfl (by omega) (by decide +kernel) (by decide)
      exact rqSq_c hs (fun j a b => rx_sameR hin (p := 482) (tc := 0) (n := 6180) (g := 63) rfl (by omega) (by decide +kernel) (by decide +kernel) a b) e28 (rx_sameO hin (p := 480) (j := 15) rfl (by omega) (by decide +kernel) (by decide)) (fun k a b => rz_fd hin (p := 493) (n := 13) (c := 1074) (k := 0) (by decide +kernel) (by decide) (by decide +kernel) k (by omega) (by omega)) ⟨n, k, n0, n5, k0, k1, hst, by omega⟩
    refine ⟨start, hx.1, fun q vs hs => ?_⟩
    have hk1 := (rqSq_x (hSq q vs hs)).1
    obtain ⟨d, ht, ho⟩ := hx.2 q vs hs
    rcases ho with ⟨z, g0⟩ | ⟨z, x, g1, g2, g3, g4⟩
    · exfalso
      omega
    · have h1 : x = 1 := by
        have := g4 rfl
        omega
      subst h1
      rw [ht]
      exact Or.inr ⟨g1, Or.inl ⟨by omega, rfl⟩⟩)⟩
theorem rxfISX_3_1 {X : (Nat → Int → Int) → Prop} {S0 : Nat → Int → Int} {ws : List Int} (hP : rxPISX S0 ws) : bx_obE rxL X S0 rxCISX.2.2.1 (rxIISX S0 ws) (rxPSISX S0 ws) 3 rxzISX_3 rxeISX_3_1 := by
  intro S S_p r r_p hinv hX hin hsm_ hseg
  obtain ⟨I0, I1, h0_, hr_, b_, f_, d_⟩ := bx_cl (evs := [(0, (0, 482), (8, 0), .inr (0, (13, 0))), (0, (0, 480), (0, 33), .inr (1, (12, 0))), (0, (0, 480), (0, 32), .inr (0, (11, 0)))]) (fvs := [(3, (12, 0), (0, 0), (0, 0))]) hseg (by decide +kernel) (by decide +kernel)
  have hinv : rxIISX_3 S0 ws S (r 8) (r 9) (r 10) := hinv
  rw [← hr_ 8 (by decide), ← hr_ 9 (by decide), ← hr_ 10 (by decide)] at hinv
  obtain ⟨⟨l8, u8⟩, ⟨l9, u9⟩, ⟨l10, u10⟩, ⟨l11, u11⟩, ⟨l12, u12⟩, ⟨l13, u13⟩, -⟩ := b_
  obtain ⟨f0, -⟩ := f_
  obtain ⟨e0, ⟨e1, ⟨e2, w_⟩⟩⟩ := d_
  subst w_
  have g := rxdISX_3_1 hP hin hsm_ I0 I1 hinv l8 u8 l9 u9 l10 u10 l11 u11 l12 u12 l13 u13 f0 e2 e1 e0
  refine ⟨bx_narP_ok (l := []) g.1, ?_⟩
  show rxPSISX S0 ws S_p (some (bx_num r_p (.inr (0, (0, 1)))))
  rw [bx_xv_ok h0_]
  exact g.2
theorem rxdISX_3_2 {S0 : Nat → Int → Int} {ws : List Int} {S : Nat → Int → Int} {start a5 a6 x11 : Int} (hP : rxPISX S0 ws) (hin : bx_same rxL (bx_mdl rxCISX.2.2.1) S0 S) (hin2 : bx_same rxL (bx_mdl rxCISX.2.2.1) S S) (I0 : bx_Inv rxL S) (I1 : bx_Inv rxL S) (hinv : rxIISX_3 S0 ws S start a5 a6) (l8 : 782 ≤ start) (u8 : start ≤ 5370) (l9 : 0 ≤ a5) (u9 : a5 ≤ 400) (l10 : 0 ≤ a6) (u10 : a6 ≤ 400) (l11 : 1 ≤ x11) (u11 : x11 ≤ 1) (f0 : x11 ≠ 0) (e0 : S 480 32 = x11) : (True) ∧ rxPSISX S0 ws S (some 0) := by
  obtain ⟨hI, hx⟩ := hinv
  obtain ⟨a_, c_⟩ := rxdSO_3_2 hP.1 hin hin2 I0 I1 hI l8 u8 l9 u9 l10 u10 l11 u11 f0 e0
  exact ⟨a_, c_, (by
    have hso : rxSo S start := hI
    refine ⟨start, hx.1, fun q vs hs => ?_⟩
    obtain ⟨d, ht, ho⟩ := hx.2 q vs hs
    rcases ho with ⟨z, g0⟩ | ⟨z, x, g1, g2, g3, g4⟩
    · rw [ht]
      exact Or.inl ⟨rfl, Or.inl g0⟩
    · exfalso
      omega)⟩
theorem rxfISX_3_2 {X : (Nat → Int → Int) → Prop} {S0 : Nat → Int → Int} {ws : List Int} (hP : rxPISX S0 ws) : bx_obE rxL X S0 rxCISX.2.2.1 (rxIISX S0 ws) (rxPSISX S0 ws) 3 rxzISX_3 rxeISX_3_2 := by
  intro S S_p r r_p hinv hX hin hsm_ hseg
  obtain ⟨I0, I1, h0_, hr_, b_, f_, d_⟩ := bx_cl (evs := [(0, (0, 480), (0, 32), .inr (0, (11, 0)))]) (fvs := [(3, (11, 0), (0, 0), (0, 0))]) hseg (by decide +kernel) (by decide +kernel)
  have hinv : rxIISX_3 S0 ws S (r 8) (r 9) (r 10) := hinv
  rw [← hr_ 8 (by decide), ← hr_ 9 (by decide), ← hr_ 10 (by decide)] at hinv
  obtain ⟨⟨l8, u8⟩, ⟨l9, u9⟩, ⟨l10, u10⟩, ⟨l11, u11⟩, -⟩ := b_
  obtain ⟨f0, -⟩ := f_
  obtain ⟨e0, w_⟩ := d_
  subst w_
  have g := rxdISX_3_2 hP hin hsm_ I0 I1 hinv l8 u8 l9 u9 l10 u10 l11 u11 f0 e0
  refine ⟨bx_narP_ok (l := []) g.1, ?_⟩
  show rxPSISX S0 ws S_p (some (bx_num r_p (.inr (0, (0, 0)))))
  rw [bx_xv_ok h0_]
  exact g.2
theorem rxdISX_5_0 {S0 : Nat → Int → Int} {ws : List Int} {S : Nat → Int → Int} {start a3 a4 x11 x12 : Int} (hP : rxPISX S0 ws) (hin : bx_same rxL (bx_mdl rxCISX.2.2.1) S0 S) (hin2 : bx_same rxL (bx_mdl rxCISX.2.2.1) S (bx_up S 480 34 x11)) (I0 : bx_Inv rxL S) (I1 : bx_Inv rxL (bx_up S 480 34 x11)) (hinv : rxIISX_5 S0 ws S start a3 a4) (l8 : 782 ≤ start) (u8 : start ≤ 5370) (l9 : 0 ≤ a3) (u9 : a3 ≤ 400) (l10 : 0 ≤ a4) (u10 : a4 ≤ 400) (l11 : (-9223372036854775808) ≤ x11) (u11 : x11 ≤ 9223372036854775807) (l12 : 0 ≤ x12) (u12 : x12 ≤ 0) (e2 : S 480 33 = x11) (e0 : (bx_up S 480 34 x11) 480 32 = x12) : (True) ∧ rxPSISX S0 ws (bx_up S 480 34 x11) (some 1) := by
  obtain ⟨hI, hx⟩ := hinv
  obtain ⟨a_, c_⟩ := rxdSO_5_0 hP.1 hin hin2 I0 I1 hI l8 u8 l9 u9 l10 u10 l11 u11 l12 u12 e2 e0
  exact ⟨a_, c_, (by
    have h32 : S 480 32 = x12 := (show bx_up S 480 34 x11 480 32 = S 480 32 from bx_up_ne (by omega)).symm.trans e0
    refine ⟨start, hx.1, fun q vs hs => ?_⟩
    obtain ⟨ht, ne, d, hd, ho⟩ := hx.2 q vs hs
    rcases ho with ⟨z, g0⟩ | ⟨z, x, g1, g2, g3, g4⟩
    · exfalso
      omega
    · exact Or.inr ⟨ht, Or.inr ⟨ne, Or.inr ⟨x, ⟨d, hd, Or.inr ⟨x, rfl, g1⟩⟩, rfl, bx_up_at.trans (by omega)⟩⟩⟩)⟩
theorem rxfISX_5_0 {X : (Nat → Int → Int) → Prop} {S0 : Nat → Int → Int} {ws : List Int} (hP : rxPISX S0 ws) : bx_obE rxL X S0 rxCISX.2.2.1 (rxIISX S0 ws) (rxPSISX S0 ws) 5 rxzISX_5 rxeISX_5_0 := by
  intro S S_p r r_p hinv hX hin hsm_ hseg
  obtain ⟨I0, I1, h0_, hr_, b_, f_, d_⟩ := bx_cl (evs := [(0, (0, 480), (0, 32), .inr (0, (12, 0))), (1, (0, 480), (0, 34), .inr (1, (11, 0))), (0, (0, 480), (0, 33), .inr (1, (11, 0)))]) (fvs := []) hseg (by decide +kernel) (by decide +kernel)
  have hinv : rxIISX_5 S0 ws S (r 8) (r 9) (r 10) := hinv
  rw [← hr_ 8 (by decide), ← hr_ 9 (by decide), ← hr_ 10 (by decide)] at hinv
  obtain ⟨⟨l8, u8⟩, ⟨l9, u9⟩, ⟨l10, u10⟩, ⟨l11, u11⟩, ⟨l12, u12⟩, -⟩ := b_
  obtain ⟨e0, ⟨T1, ⟨e2, w_⟩, w1⟩⟩ := d_
  subst w1
  subst w_
  have g := rxdISX_5_0 hP hin hsm_ I0 I1 hinv l8 u8 l9 u9 l10 u10 l11 u11 l12 u12 e2 e0
  refine ⟨bx_narP_ok (l := []) g.1, ?_⟩
  show rxPSISX S0 ws (bx_up T1 480 (34) (r_p 11)) (some (bx_num r_p (.inr (0, (0, 1)))))
  rw [bx_xv_ok h0_]
  exact g.2
theorem rxdISX_5_1 {S0 : Nat → Int → Int} {ws : List Int} {S : Nat → Int → Int} {start a3 a4 x11 x12 : Int} (hP : rxPISX S0 ws) (hin : bx_same rxL (bx_mdl rxCISX.2.2.1) S0 S) (hin2 : bx_same rxL (bx_mdl rxCISX.2.2.1) S (bx_up S 480 34 x11)) (I0 : bx_Inv rxL S) (I1 : bx_Inv rxL (bx_up S 480 34 x11)) (hinv : rxIISX_5 S0 ws S start a3 a4) (l8 : 782 ≤ start) (u8 : start ≤ 5370) (l9 : 0 ≤ a3) (u9 : a3 ≤ 400) (l10 : 0 ≤ a4) (u10 : a4 ≤ 400) (l11 : (-9223372036854775808) ≤ x11) (u11 : x11 ≤ 9223372036854775807) (l12 : 1 ≤ x12) (u12 : x12 ≤ 1) (f0 : x12 ≠ 0) (e2 : S 480 33 = x11) (e0 : (bx_up S 480 34 x11) 480 32 = x12) : (True) ∧ rxPSISX S0 ws (bx_up S 480 34 x11) (some 0) := by
  obtain ⟨hI, hx⟩ := hinv
  obtain ⟨a_, c_⟩ := rxdSO_5_1 hP.1 hin hin2 I0 I1 hI l8 u8 l9 u9 l10 u10 l11 u11 l12 u12 f0 e2 e0
  exact ⟨a_, c_, (by
    have h32 : S 480 32 = x12 := (show bx_up S 480 34 x11 480 32 = S 480 32 from bx_up_ne (by omega)).symm.trans e0
    refine ⟨start, hx.1, fun q vs hs => ?_⟩
    obtain ⟨ht, ne, d, hd, ho⟩ := hx.2 q vs hs
    rcases ho with ⟨z, g0⟩ | ⟨z, x, g1, g2, g3, g4⟩
    · exact Or.inr ⟨ht, Or.inr ⟨ne, Or.inl ⟨⟨d, hd, Or.inl ⟨rfl, g0⟩⟩, rfl⟩⟩⟩
    · exfalso
      omega)⟩
theorem rxfISX_5_1 {X : (Nat → Int → Int) → Prop} {S0 : Nat → Int → Int} {ws : List Int} (hP : rxPISX S0 ws) : bx_obE rxL X S0 rxCISX.2.2.1 (rxIISX S0 ws) (rxPSISX S0 ws) 5 rxzISX_5 rxeISX_5_1 := by
  intro S S_p r r_p hinv hX hin hsm_ hseg
  obtain ⟨I0, I1, h0_, hr_, b_, f_, d_⟩ := bx_cl (evs := [(0, (0, 480), (0, 32), .inr (0, (12, 0))), (1, (0, 480), (0, 34), .inr (1, (11, 0))), (0, (0, 480), (0, 33), .inr (1, (11, 0)))]) (fvs := [(3, (12, 0), (0, 0), (0, 0))]) hseg (by decide +kernel) (by decide +kernel)
  have hinv : rxIISX_5 S0 ws S (r 8) (r 9) (r 10) := hinv
  rw [← hr_ 8 (by decide), ← hr_ 9 (by decide), ← hr_ 10 (by decide)] at hinv
  obtain ⟨⟨l8, u8⟩, ⟨l9, u9⟩, ⟨l10, u10⟩, ⟨l11, u11⟩, ⟨l12, u12⟩, -⟩ := b_
  obtain ⟨f0, -⟩ := f_
  obtain ⟨e0, ⟨T1, ⟨e2, w_⟩, w1⟩⟩ := d_
  subst w1
  subst w_
  have g := rxdISX_5_1 hP hin hsm_ I0 I1 hinv l8 u8 l9 u9 l10 u10 l11 u11 l12 u12 f0 e2 e0
  refine ⟨bx_narP_ok (l := []) g.1, ?_⟩
  show rxPSISX S0 ws (bx_up T1 480 (34) (r_p 11)) (some (bx_num r_p (.inr (0, (0, 0)))))
  rw [bx_xv_ok h0_]
  exact g.2
theorem rxgCISX {X : (Nat → Int → Int) → Prop} {S0 : Nat → Int → Int} {ws : List Int} (hP : rxPISX S0 ws) : bx_allI (fun i q => rxUISX q = true ∨ bx_allP (fun o => bx_obC rxL X S0 rxCISX.2.2.1 (rxIISX S0 ws) (rxmISX S0 ws) i q.1 o) q.2.1) 0 rxYISX := ⟨Or.inr ⟨rxgISX_0_0 hP, trivial⟩, Or.inr ⟨rxgISX_1_0 hP, rxgISX_1_1 hP, trivial⟩, Or.inl rfl, Or.inr ⟨rxgISX_3_0 hP, trivial⟩, Or.inl rfl, Or.inr trivial, trivial⟩
theorem rxgEISX {X : (Nat → Int → Int) → Prop} {S0 : Nat → Int → Int} {ws : List Int} (hP : rxPISX S0 ws) : bx_allI (fun i q => rxUISX q = true ∨ bx_allP (fun E => bx_obE rxL X S0 rxCISX.2.2.1 (rxIISX S0 ws) (rxPSISX S0 ws) i q.1 E) q.2.2) 0 rxYISX := ⟨Or.inr trivial, Or.inr ⟨rxfISX_1_0 hP, trivial⟩, Or.inl rfl, Or.inr ⟨rxfISX_3_0 hP, rxfISX_3_1 hP, rxfISX_3_2 hP, trivial⟩, Or.inl rfl, Or.inr ⟨rxfISX_5_0 hP, rxfISX_5_1 hP, trivial⟩, trivial⟩
theorem rxuISX {PX : State → Prop} {Dg : va_G} {A : Nat → Prop} {ad xa : Nat → Nat} {l : Launch} {X : (Nat → Int → Int) → Prop} (hPX : rx_PXOK rxNW A PX) (hX : ∀ S S1 : Nat → Int → Int, X S → bx_same rxL (bx_mdl rxCISX.2.2.1) S S1 → X S1) (hQRAX : bx_ConP rxG rxNW rxAO PX Dg rxL X vwCl A ad l rxM287 rxCRAX rxPRAX rxPSRAX) {S0 : Nat → Int → Int} {ws : List Int} (hP : rxPISX S0 ws) : ∀ (i : Nat) (q : bx_HE), rxYISX[i]? = some q → rxUISX q = true → ∀ {p : Program} {e : Env} {R : Room} {s : State} {m : MethodId} {args : Array Value} {below : List Frame} {meth : Method} {c : Code} {Q : State → Prop} {H0 : Heap}, rx_Fr rxG rxNW rxAO PX p s m args meth c rxM288 → (∀ q, H0.size ≤ q → A q) → H0 = s.heap → rxM288.2.2.2.2.2.2.1 ≤ R.cells → rxM288.2.2.2.2.2.2.2 ≤ R.slots → rxCISX.2.2.2.1 ≤ R.frames → rxCISX.2.2.2.1 * 40 ≤ R.locals → bx_Step p l e R s m args below meth c Q Dg rxL X vwCl A xa H0 ad rxM288 rxYISX (rxIISX S0 ws) (rxmISX S0 ws) S0 rxCISX.2.2.1 i q := by
  intro i q hq hus p e R s m args below meth c Q H0 hF hA hH0 hmc hms hd hdl
  match i, hq with
  | 0, hq =>
    cases hq
    exact absurd (show false = true from hus) Bool.false_ne_true
  | 1, hq =>
    cases hq
    exact absurd (show false = true from hus) Bool.false_ne_true
  | 2, hq =>
    cases hq
    exact rx_stepC (ins := .invokevirtual 414) (len := 3) (i_p := 3) (M_p := rxM287) (d := rxCISX.2.2.2.1) (as := [.inr (3, (0, 480)), .inr (0, (9, 0)), .inr (0, (10, 0))]) (t := []) (ct := rxCRAX) hPX hF rfl hA hH0 hmc hms hd hdl (by decide +kernel) rfl rfl (by decide +kernel) (by decide +kernel) hQRAX (by decide +kernel) rfl (Or.inl ⟨rfl, rfl, rfl⟩) (rxsISX_2 hP)
  | 3, hq =>
    cases hq
    exact absurd (show false = true from hus) Bool.false_ne_true
  | 4, hq =>
    cases hq
    exact rx_stepC (ins := .invokevirtual 414) (len := 3) (i_p := 5) (M_p := rxM287) (d := rxCISX.2.2.2.1) (as := [.inr (3, (0, 480)), .inr (0, (9, 0)), .inr (0, (10, 0))]) (t := []) (ct := rxCRAX) hPX hF rfl hA hH0 hmc hms hd hdl (by decide +kernel) rfl rfl (by decide +kernel) (by decide +kernel) hQRAX (by decide +kernel) rfl (Or.inl ⟨rfl, rfl, rfl⟩) (rxsISX_4 hP)
  | 5, hq =>
    cases hq
    exact absurd (show false = true from hus) Bool.false_ne_true
  | n + 6, hq => cases hq
theorem rxQISX {PX : State → Prop} {Dg : va_G} {A : Nat → Prop} {ad xa : Nat → Nat} {l : Launch} {X : (Nat → Int → Int) → Prop} (hPX : rx_PXOK rxNW A PX) (hsl : ∀ s : State, PX s → ∀ o idx n : Nat, rxSl o idx = some n → ∃ tx : String, vk_R (rxNm o) idx tx (ad n) s)
    (hX : ∀ S S_p : Nat → Int → Int, X S → bx_same rxL (bx_mdl rxCISX.2.2.1) S S_p → X S_p)
    (ih : ∀ (j2 : Nat) (ct2 : bx_Ct) (M2 : rx_Mt), ct2 ∈ rxCnE j2 → ct2.2.2.2.1 + 1 ≤ rxCISX.2.2.2.1 → rxT.2.2.2.2.2 j2 = some M2 → bx_Con rxG rxNW rxAO PX Dg rxL X vwCl A ad l M2 ct2) (hQRAX : bx_ConP rxG rxNW rxAO PX Dg rxL X vwCl A ad l rxM287 rxCRAX rxPRAX rxPSRAX) : bx_ConP rxG rxNW rxAO PX Dg rxL X vwCl A ad l rxM288 rxCISX rxPISX rxPSISX :=
  rxQof (xa := xa) (Cn := rxCnE) (f := 30000) (j := 288) (tab := rxYISX) (us := rxUISX) hPX hsl hX ih rfl rxYcISX rxIISX rxmISX
    (fun S0 ws r I0 I ht0 ht as he he1 hX0 hI0 hP hs ha => by
      have e := he.symm.trans (show bx_ent0 rxNP rxCISX.1 bx_I0 [] = some ([(0, 0), (0, 0), (0, 0), (0, 0), (0, 0), (0, 0), (0, 0), (0, 0), (782, 5370)], [], [.inr (3, (0, 480)), .inr (0, (8, 0))]) from rfl)
      cases e
      subst ha
      have h0 : r 0 = 0 := hs.1
      show rxIISX_0 S0 _ S0 (r 8)
      refine ⟨⟨rfl, ?_⟩, trivial⟩
      simp only [List.map_cons, List.map_nil, bx_xv_ok h0]
      rfl)
    (fun S0 ws hP => rxuISX (xa := xa) hPX hX hQRAX hP) (fun S0 ws hP => rxgCISX hP) (fun S0 ws hP => rxgEISX hP)
