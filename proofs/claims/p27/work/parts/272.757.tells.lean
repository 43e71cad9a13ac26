noncomputable def rxITEX_0 (S0 : Nat → Int → Int) (ws : List Int) (S : Nat → Int → Int) (kind pers cue tchr year base : Int) : Prop := rxI289_0 S0 ws S kind pers cue tchr year base ∧ True
noncomputable def rxmTEX_0 (S0 : Nat → Int → Int) (ws : List Int) (S : Nat → Int → Int) (kind pers cue tchr year base : Int) : Nat := rxm289_0 S0 ws S kind pers cue tchr year base
noncomputable def rxzTEX_0 : rx_Z := ([(0, 0), (0, 0), (0, 0), (0, 0), (0, 0), (0, 0), (0, 0), (0, 0), (0, 2), (0, 7), (0, 5), ((-1), 7), (0, 300), (0, 100)], [], [], 0, 0, 0, [(0, .inr (3, (0, 480))), (1, .inr (0, (8, 0))), (2, .inr (0, (9, 0))), (3, .inr (0, (10, 0))), (4, .inr (0, (11, 0))), (5, .inr (0, (12, 0))), (6, .inr (1, (13, 0)))], [])
noncomputable def rxITEX_1 (S0 : Nat → Int → Int) (ws : List Int) (S : Nat → Int → Int) (kind val i : Int) : Prop := rxI289_1 S0 ws S kind val i ∧ rqTe S0 S ws kind i val
noncomputable def rxmTEX_1 (S0 : Nat → Int → Int) (ws : List Int) (S : Nat → Int → Int) (kind val i : Int) : Nat := rxm289_1 S0 ws S kind val i
noncomputable def rxzTEX_1 : rx_Z := ([(0, 0), (0, 0), (0, 0), (0, 0), (0, 0), (0, 0), (0, 0), (0, 0), (0, 2), ((-9223372036854775808), 9223372036854775807), (0, 12)], [], [], 0, 0, 134, [(0, .inr (3, (0, 480))), (1, .inr (0, (8, 0))), (8, .inr (1, (9, 0))), (10, .inr (0, (10, 0)))], [])
noncomputable def rxITEX_2 (S0 : Nat → Int → Int) (ws : List Int) (S : Nat → Int → Int) (kind val i i2 cnt : Int) : Prop := rxI289_2 S0 ws S kind val i i2 cnt ∧ rqTe S0 S ws kind i val
noncomputable def rxmTEX_2 (S0 : Nat → Int → Int) (ws : List Int) (S : Nat → Int → Int) (kind val i i2 cnt : Int) : Nat := rxm289_2 S0 ws S kind val i i2 cnt
noncomputable def rxzTEX_2 : rx_Z := ([(0, 0), (0, 0), (0, 0), (0, 0), (0, 0), (0, 0), (0, 0), (0, 0), (0, 2), ((-9223372036854775808), 9223372036854775807), (0, 12), (0, 12), (0, 12)], [], [], 0, 0, 147, [(0, .inr (3, (0, 480))), (1, .inr (0, (8, 0))), (8, .inr (1, (9, 0))), (10, .inr (0, (10, 0)))], [.inr (0, (12, 0)), .inr (0, (11, 0))])
noncomputable def rxITEX_3 (S0 : Nat → Int → Int) (ws : List Int) (S : Nat → Int → Int) (kind val i start : Int) : Prop := rxI289_3 S0 ws S kind val i start ∧ rqTe S0 S ws kind i val ∧ i < S0 482 (780 + 900 * S0 482 4 + 1) ∧ start = S 480 28 + 2 + 8 * i ∧ S 482 start = kind
noncomputable def rxmTEX_3 (S0 : Nat → Int → Int) (ws : List Int) (S : Nat → Int → Int) (kind val i start : Int) : Nat := rxm289_3 S0 ws S kind val i start
noncomputable def rxzTEX_3 : rx_Z := ([(0, 0), (0, 0), (0, 0), (0, 0), (0, 0), (0, 0), (0, 0), (0, 0), (0, 2), ((-9223372036854775808), 9223372036854775807), (0, 11), (782, 5370)], [], [], 0, 0, 178, [(0, .inr (3, (0, 480))), (1, .inr (0, (8, 0))), (8, .inr (1, (9, 0))), (10, .inr (0, (10, 0)))], [.inr (0, (11, 0)), .inr (3, (0, 480))])
noncomputable def rxITEX_4 (S0 : Nat → Int → Int) (ws : List Int) (S : Nat → Int → Int) (kind val i start so : Int) : Prop := rxI289_4 S0 ws S kind val i start so ∧ rqT4 S0 S ws kind i val so
noncomputable def rxmTEX_4 (S0 : Nat → Int → Int) (ws : List Int) (S : Nat → Int → Int) (kind val i start so : Int) : Nat := rxm289_4 S0 ws S kind val i start so
noncomputable def rxzTEX_4 : rx_Z := ([(0, 0), (0, 0), (0, 0), (0, 0), (0, 0), (0, 0), (0, 0), (0, 0), (0, 2), ((-9223372036854775808), 9223372036854775807), (0, 11), (782, 5370), (0, 1)], [], [], 0, 0, 181, [(0, .inr (3, (0, 480))), (1, .inr (0, (8, 0))), (8, .inr (1, (9, 0))), (10, .inr (0, (10, 0)))], [.inr (0, (12, 0))])
noncomputable def rxoTEX_0_0 : bx_HO := (([(0, 0), (0, 0), (0, 0), (0, 0), (0, 0), (0, 0), (0, 0), (0, 0), (0, 2), (0, 7), (0, 5), ((-1), 7), (0, 300), (0, 100), (0, 5), (0, 4500), (0, 21), (0, 9), (0, 21), (0, 200), (0, 21), (0, 300), (0, 9)], [(7, (20, 0), (9, 0)), (7, (18, 0), (9, 0)), (7, (16, 0), (9, 0)), (904, (15, 0), (14, 0)), (3, (14, 0), (0, (-1)))], [(((0, 0), 1851192626986356799029993984671224184301589730656725206274736131000000), .inr (1, (22, 0))), (((0, 493), 8), .inr (1, (22, 0))), (((0, 0), 1851192626986356799029993984671224184301589730656725206268248064000000), .inr (0, (22, 0))), (((0, 482), 8), .inr (0, (22, 0))), (((0, 0), 1851192626986356798829287277884448576027768266202889952720912387000000), .inr (1, (12, 0))), (((0, 493), 7), .inr (1, (12, 0))), (((0, 0), 1851192626986356798628580571097672967753946801749054699167088643000000), .inr (1, (11, 0))), (((0, 493), 6), .inr (1, (11, 0))), (((0, 0), 1851192626986356798427873864310897359480125337295219445613264899000000), .inr (1, (10, 0))), (((0, 493), 5), .inr (1, (10, 0))), (((0, 0), 1851192626986356798227167157524121751206303872841384192059441155000000), .inr (1, (21, 0))), (((0, 493), 4), .inr (1, (21, 0))), (((0, 0), 1851192626986356845393304503242435464477771426922006495479595008000000), .inr (0, (21, 0))), (((0, 0), 1851192626986356798026460450737346142932482408387548938505617411000000), .inr (1, (19, 0))), (((0, 493), 3), .inr (1, (19, 0))), (((0, 0), 1851192626986356845192591671373055279311607621725237470097965056000000), .inr (0, (19, 0))), (((0, 0), 1851192626986356797825753743950570534658660943933713684951793667000000), .inr (1, (17, 0))), (((0, 493), 2), .inr (1, (17, 0))), (((0, 0), 1851192626986356845593998959864001918966908209889974205377806336000000), .inr (0, (17, 0))), (((0, 0), 1851192626986356797625047037163794926384839479479878431397969923000000), .inr (1, (9, 0))), (((0, 493), 1), .inr (1, (9, 0))), (((0, 480), 29), .inr (3, (0, 493))), (((0, 0), 1851192626986356803044128120406736349778019019733430277343543299000000), .inr (0, (15, 780))), (((0, 480), 28), .inr (0, (15, 780))), (((0, 0), 1851192626986356798227167157524121751206303872841384192052953088000000), .inr (0, (14, 0))), (((0, 482), 4), .inr (0, (14, 0))), (((0, 480), 3), .inr (3, (0, 482)))], 0, 0, 134, [(10, .inr (0, (0, 0))), (8, .inr (1, (13, 0))), (0, .inr (3, (0, 480))), (1, .inr (0, (8, 0))), (2, .inr (0, (9, 0))), (3, .inr (0, (10, 0))), (4, .inr (0, (11, 0))), (5, .inr (0, (12, 0))), (6, .inr (1, (13, 0)))], []), [], [], [(0, 0), (0, 0), (0, 0), (0, 0), (0, 0), (0, 0), (0, 0), (0, 0), (8, 0), (13, 0), (0, 0)], 1)
noncomputable def rxeTEX_0_0 : rx_End × List (Nat × Int × Int) := (([(0, 0), (0, 0), (0, 0), (0, 0), (0, 0), (0, 0), (0, 0), (0, 0), (0, 2), (0, 7), (0, 5), ((-1), 7), (0, 300), (0, 100), ((-1), (-1))], [], [(((0, 0), 1851192626986356798227167157524121751206303872841384192052953088000000), .inr (0, (14, 0))), (((0, 482), 4), .inr (0, (14, 0))), (((0, 480), 3), .inr (3, (0, 482)))], some (.inr (1, (13, 0)))), [])
noncomputable def rxoTEX_1_0 : bx_HO := (([(0, 0), (0, 0), (0, 0), (0, 0), (0, 0), (0, 0), (0, 0), (0, 0), (0, 2), ((-9223372036854775808), 9223372036854775807), (0, 12), (0, 5280), ((-1), 1000)], [], [(((0, 0), 1851192626986356797625080725118120099292722353566014176444416000000000), .inr (0, (12, 0))), (((0, 0), 1851192626986356803044128120406736349778019019733430277343543296000000), .inr (0, (11, 0))), (((0, 480), 28), .inr (0, (11, 0))), (((0, 480), 3), .inr (3, (0, 482)))], 0, 0, 147, [(0, .inr (3, (0, 480))), (1, .inr (0, (8, 0))), (8, .inr (1, (9, 0))), (10, .inr (0, (10, 0)))], [.inr (0, (12, 0)), .inr (0, (10, 0))]), [(12, 0, 12)], [], [(0, 0), (0, 0), (0, 0), (0, 0), (0, 0), (0, 0), (0, 0), (0, 0), (8, 0), (9, 0), (10, 0), (10, 0), (12, 0)], 2)
noncomputable def rxoTEX_2_0 : bx_HO := (([(0, 0), (0, 0), (0, 0), (0, 0), (0, 0), (0, 0), (0, 0), (0, 0), (0, 2), ((-9223372036854775808), 9223372036854775807), (0, 12), (0, 11), (1, 12), (0, 5280), (0, 96), (2, 5378), (0, 2)], [(2, (16, 0), (8, 0)), (604462909807314587353102000000, (15, 0), (13, 2)), (12, (14, 0), (10, 0)), (0, (11, 0), (12, 0))], [(((0, 0), 1851192626986356797424386268496553644803585570598046466546204672000000), .inr (0, (16, 0))), (((0, 480), 3), .inr (3, (0, 482))), (((0, 0), 1851192626986356803044128120406736349778019019733430277343543296000000), .inr (0, (13, 0))), (((0, 480), 28), .inr (0, (13, 0)))], 0, 0, 178, [(11, .inr (0, (15, 0))), (0, .inr (3, (0, 480))), (1, .inr (0, (8, 0))), (8, .inr (1, (9, 0))), (10, .inr (0, (10, 0)))], [.inr (0, (15, 0)), .inr (3, (0, 480))]), [(10, 0, 11), (15, 782, 5370)], [], [(0, 0), (0, 0), (0, 0), (0, 0), (0, 0), (0, 0), (0, 0), (0, 0), (8, 0), (9, 0), (10, 0), (15, 0)], 3)
noncomputable def rxoTEX_2_1 : bx_HO := (([(0, 0), (0, 0), (0, 0), (0, 0), (0, 0), (0, 0), (0, 0), (0, 0), (0, 2), ((-9223372036854775808), 9223372036854775807), (0, 12), (0, 11), (1, 12), (0, 5280), (0, 96), (2, 5378), ((-1), 1000)], [(3, (16, 0), (8, 0)), (604462909807314587353102000000, (15, 0), (13, 2)), (12, (14, 0), (10, 0)), (0, (11, 0), (12, 0))], [(((0, 0), 1851192626986356797424386268496553644803585570598046466546204672000000), .inr (0, (16, 0))), (((0, 480), 3), .inr (3, (0, 482))), (((0, 0), 1851192626986356803044128120406736349778019019733430277343543296000000), .inr (0, (13, 0))), (((0, 480), 28), .inr (0, (13, 0)))], 0, 0, 134, [(10, .inr (0, (10, 1))), (11, .inr (0, (15, 0))), (0, .inr (3, (0, 480))), (1, .inr (0, (8, 0))), (8, .inr (1, (9, 0)))], []), [(10, (-1), 11)], [], [(0, 0), (0, 0), (0, 0), (0, 0), (0, 0), (0, 0), (0, 0), (0, 0), (8, 0), (9, 0), (10, 1)], 1)
noncomputable def rxeTEX_2_0 : rx_End × List (Nat × Int × Int) := (([(0, 0), (0, 0), (0, 0), (0, 0), (0, 0), (0, 0), (0, 0), (0, 0), (0, 2), ((-9223372036854775808), 9223372036854775807), (0, 12), (0, 12), (0, 12)], [(1, (12, 0), (11, 0))], [], some (.inr (1, (9, 0)))), [])
noncomputable def rxoTEX_4_0 : bx_HO := (([(0, 0), (0, 0), (0, 0), (0, 0), (0, 0), (0, 0), (0, 0), (0, 0), (2, 2), ((-9223372036854775808), 9223372036854775807), (0, 11), (782, 5370), (1, 1)], [(3, (12, 0), (0, 0))], [], 0, 0, 134, [(10, .inr (0, (10, 1))), (8, .inr (1, (0, 1))), (0, .inr (3, (0, 480))), (1, .inr (0, (8, 0)))], []), [], [], [(0, 0), (0, 0), (0, 0), (0, 0), (0, 0), (0, 0), (0, 0), (0, 0), (8, 0), (0, 1), (10, 1)], 1)
noncomputable def rxoTEX_4_1 : bx_HO := (([(0, 0), (0, 0), (0, 0), (0, 0), (0, 0), (0, 0), (0, 0), (0, 0), (0, 1), ((-9223372036854775808), 9223372036854775807), (0, 11), (782, 5370), (1, 1), ((-9223372036854775808), 9223372036854775807)], [(3, (8, 0), (0, 2)), (3, (12, 0), (0, 0))], [(((0, 0), 1851192626986356804248368361127389999420947806456441798666485760000000), .inr (1, (13, 0))), (((0, 480), 34), .inr (1, (13, 0)))], 0, 0, 134, [(10, .inr (0, (10, 1))), (8, .inr (1, (13, 0))), (0, .inr (3, (0, 480))), (1, .inr (0, (8, 0)))], []), [], [], [(0, 0), (0, 0), (0, 0), (0, 0), (0, 0), (0, 0), (0, 0), (0, 0), (8, 0), (13, 0), (10, 1)], 1)
noncomputable def rxoTEX_4_2 : bx_HO := (([(0, 0), (0, 0), (0, 0), (0, 0), (0, 0), (0, 0), (0, 0), (0, 0), (0, 2), ((-9223372036854775808), 9223372036854775807), (0, 11), (782, 5370), (0, 0)], [], [], 0, 0, 134, [(10, .inr (0, (10, 1))), (0, .inr (3, (0, 480))), (1, .inr (0, (8, 0))), (8, .inr (1, (9, 0)))], []), [], [], [(0, 0), (0, 0), (0, 0), (0, 0), (0, 0), (0, 0), (0, 0), (0, 0), (8, 0), (9, 0), (10, 1)], 1)
noncomputable def rxYTEX : List bx_HE := [(rxzTEX_0, [rxoTEX_0_0], [rxeTEX_0_0]), (rxzTEX_1, [rxoTEX_1_0], []), (rxzTEX_2, [rxoTEX_2_0, rxoTEX_2_1], [rxeTEX_2_0]), (rxzTEX_3, [], []), (rxzTEX_4, [rxoTEX_4_0, rxoTEX_4_1, rxoTEX_4_2], [])]
noncomputable def rxUTEX (q : bx_HE) : Bool := Nat.beq (rx_zpc q.1) 178
noncomputable def rxYBTEX : bx_B := (rxV, rxNP, rxDmf, bx_mdH rxC289.2.2.1)
set_option maxRecDepth 100000 in
theorem rxYcTEX : bx_chkH rxYBTEX rxM289 rxC289 rxYTEX (rxUTEX, fun cut z => rx_ex2 (rxCT rxYBTEX rxCnE) cut 30000 rxC289.2.2.2.1 289 z) = true := by decide +kernel
noncomputable def rxITEX (S0 : Nat → Int → Int) (ws : List Int) (i : Nat) : bx_SP := fun S r => match i with | 0 => rxITEX_0 S0 ws S (r 8) (r 9) (r 10) (r 11) (r 12) (r 13) | 1 => rxITEX_1 S0 ws S (r 8) (r 9) (r 10) | 2 => rxITEX_2 S0 ws S (r 8) (r 9) (r 10) (r 11) (r 12) | 3 => rxITEX_3 S0 ws S (r 8) (r 9) (r 10) (r 11) | 4 => rxITEX_4 S0 ws S (r 8) (r 9) (r 10) (r 11) (r 12) | _ => False
noncomputable def rxmTEX (S0 : Nat → Int → Int) (ws : List Int) (i : Nat) (S : Nat → Int → Int) (r : Nat → Int) : Nat := match i with | 0 => rxmTEX_0 S0 ws S (r 8) (r 9) (r 10) (r 11) (r 12) (r 13) | 1 => rxmTEX_1 S0 ws S (r 8) (r 9) (r 10) | 2 => rxmTEX_2 S0 ws S (r 8) (r 9) (r 10) (r 11) (r 12) | 3 => rxmTEX_3 S0 ws S (r 8) (r 9) (r 10) (r 11) | 4 => rxmTEX_4 S0 ws S (r 8) (r 9) (r 10) (r 11) (r 12) | _ => 0
noncomputable def rxPTEX (S0 : Nat → Int → Int) (ws : List Int) : Prop := rxP289 S0 ws ∧ (S0 482 4 = -1 ∨ ∃ L : List rkQ, rkTr (S0 482) (S0 482 4) L ∧ rkLl L)
noncomputable def rxPSTEX (S0 : Nat → Int → Int) (ws : List Int) (S : Nat → Int → Int) (w : Option Int) : Prop := rxPS289 S0 ws S w ∧ (∃ kd p pa t y base : Int, ws = [480, kd, p, pa, t, y, base] ∧ ((S0 482 4 = -1 ∧ w = some base) ∨ (S0 482 4 ≠ -1 ∧ ∀ L : List rkQ, rkTr (S0 482) (S0 482 4) L → rkLl L → ∃ x : Int, w = some x ∧ rkJr kd (rqV S0 p pa t y) L base x)))
theorem rxkTEX_3 {S0 : Nat → Int → Int} {ws : List Int} {S : Nat → Int → Int} {kind val i start : Int} (hP : rxPTEX S0 ws) (hin : bx_same rxL (bx_mdl rxC289.2.2.1) S0 S) (I0 : bx_Inv rxL S) (hinv : rxITEX_3 S0 ws S kind val i start) (l8 : 0 ≤ kind) (u8 : kind ≤ 2) (l9 : (-9223372036854775808) ≤ val) (u9 : val ≤ 9223372036854775807) (l10 : 0 ≤ i) (u10 : i ≤ 11) (l11 : 782 ≤ start) (u11 : start ≤ 5370) : rxPISX S [480, start] ∧ ∀ (S_p : Nat → Int → Int) (so : Int), 0 ≤ so → so ≤ 1 → rxPSISX S [480, start] S_p (some so) → bx_Inv rxL S_p → bx_same rxL (bx_mdl rxCISX.2.2.1) S S_p → rxITEX_4 S0 ws S_p kind val i start so ∧ rxmTEX_4 S0 ws S_p kind val i start so < rxmTEX_3 S0 ws S kind val i start := by
  obtain ⟨hI, hx⟩ := hinv
  have g_ := rxk289_3 hP.1 hin I0 hI l8 u8 l9 u9 l10 u10 l11 u11
  exact ⟨(by
    obtain ⟨hx, hi, hst, hkd⟩ := hx
    have hso : rxSo S start := hI
    have e15 : S 480 15 = 0 := hso.1.2.2.2
    have hrow : ∀ j : Int, 0 ≤ j → j < 6180 → S 482 j = S0 482 j := fun j a b => rx_sameR hin (p := 482) (tc := 0) (n := 6180) (g := 63) rfl (by omega) (by decide +kernel) (by decide +kernel) a b
    have h4 : 0 ≤ S0 482 4 := by
      obtain ⟨p, pa, t, y, base, h1, h2, h3, -⟩ := hx
      exact h3
    rcases hP.2 with g | ⟨L, hL, hl⟩
    · exfalso
      omega
    · obtain ⟨p2, pa2, t2, y2, base2, q, L2, w2, sq, -⟩ := rqTe_sq hx hi hst e15 hrow hL hl
      exact ⟨g_.1, start, q, _, rfl, sq⟩), fun S_p so l_ u_ hq I1 hsm => ⟨⟨(g_.2 S_p so l_ u_ hq.1 I1 hsm).1, (by
    obtain ⟨hx, hi, hst, hkd⟩ := hx
    have hso : rxSo S start := hI
    have e15 : S 480 15 = 0 := hso.1.2.2.2
    have hrow : ∀ j : Int, 0 ≤ j → j < 6180 → S 482 j = S0 482 j := fun j a b => rx_sameR hin (p := 482) (tc := 0) (n := 6180) (g := 63) rfl (by omega) (by decide +kernel) (by decide +kernel) a b
    have hx0 := hx
    obtain ⟨p, pa, t, y, base, h1, h2, h3, h4, h5, h6, h7⟩ := hx0
    have e28 : S_p 480 28 = S 480 28 := rx_sameO hsm (p := 480) (j := 28) rfl (by omega) (by decide +kernel) (by decide)
    refine ⟨p, pa, t, y, base, h1, e28.trans h2, h3, h4, h5, fun k a b => (rz_fd hsm (p := 493) (n := 13) (c := 1074) (k := 0) (by decide +kernel) (by decide) (by decide +kernel) k (by omega) (by omega)).trans (h6 k a b), fun L hL hl => ?_⟩
    obtain ⟨p2, pa2, t2, y2, base2, q, L2, w2, sq, g0, g1, g2, g3, g4⟩ := rqTe_sq hx hi hst e15 hrow hL hl
    have qw := h1.symm.trans w2
    have q2 : p = p2 := Option.some.inj (congrArg (fun l : List Int => l[2]?) qw)
    have q3 : pa = pa2 := Option.some.inj (congrArg (fun l : List Int => l[3]?) qw)
    have q4 : t = t2 := Option.some.inj (congrArg (fun l : List Int => l[4]?) qw)
    have q5 : y = y2 := Option.some.inj (congrArg (fun l : List Int => l[5]?) qw)
    have q6 : base = base2 := Option.some.inj (congrArg (fun l : List Int => l[6]?) qw)
    subst q2 q3 q4 q5 q6
    have hk1 : q.1 = kind := (rqSq_x sq).1.symm.trans hkd
    obtain ⟨st2, hw3, hq⟩ := hq.2
    have est : start = st2 := Option.some.inj (congrArg (fun l : List Int => l[1]?) hw3)
    subst est
    refine ⟨q, L2, g0, g1, g2, g3, ?_, g4⟩
    rcases hq q _ sq with ⟨a1, a2⟩ | ⟨a2, ⟨a3, a1⟩ | ⟨a3, ⟨a4, a1⟩ | ⟨x, a4, a1, a5⟩⟩⟩
    · have a1 := Option.some.inj a1
      exact ⟨fun _ => Or.inr ⟨hk1, Or.inl ⟨a2, rfl⟩⟩, fun g => by omega, fun g => by omega⟩
    · have a1 := Option.some.inj a1
      exact ⟨fun g => by omega, fun _ e => Or.inr ⟨hk1, Or.inr ⟨a2, Or.inl ⟨e, rfl⟩⟩⟩, fun _ e => absurd (hk1.symm.trans a3) e⟩
    · have a1 := Option.some.inj a1
      exact ⟨fun _ => Or.inr ⟨hk1, Or.inr ⟨a2, Or.inr ⟨fun e => a3 (hk1.trans e), Or.inl ⟨a4, rfl⟩⟩⟩⟩, fun g => by omega, fun g => by omega⟩
    · have a1 := Option.some.inj a1
      exact ⟨fun g => by omega, fun _ e => absurd (hk1.trans e) a3, fun _ e => Or.inr ⟨hk1, Or.inr ⟨a2, Or.inr ⟨e, Or.inr (by rw [a5]; exact a4)⟩⟩⟩⟩)⟩, (g_.2 S_p so l_ u_ hq.1 I1 hsm).2⟩⟩
theorem rxsTEX_3 {X : (Nat → Int → Int) → Prop} {S0 : Nat → Int → Int} {ws : List Int} (hP : rxPTEX S0 ws) : rx_obK X S0 rxC289.2.2.1 rxCISX.2.2.1 (rxITEX S0 ws) (rxmTEX S0 ws) 3 4 rxzTEX_3 rxzTEX_4 [.inr (3, (0, 480)), .inr (0, (11, 0))] (some 12) rxPISX rxPSISX := by
  intro S r hinv hXS I0 hin hs_ hf_
  have b_ := bx_bds_sat hs_
  have f_ := bx_fcl_ok hs_.1 hf_
  obtain ⟨⟨l8, u8⟩, ⟨l9, u9⟩, ⟨l10, u10⟩, ⟨l11, u11⟩, -⟩ := b_
  have g := rxkTEX_3 hP hin I0 hinv l8 u8 l9 u9 l10 u10 l11 u11
  have ea : List.map (bx_num r) [.inr (3, (0, 480)), .inr (0, (11, 0))] = [480, (r 11)] := by
    simp only [List.map_cons, List.map_nil, bx_xv_ok hs_.1]
    rfl
  rw [ea]
  refine ⟨g.1, fun S_p w r_p hPS hX_p I1 hsm hr hw hs_p => ?_⟩
  have hw := hw _ rfl
  subst hw
  have b_p := hs_p.2.2 12 _ _ rfl
  have g2 := g.2 S_p (r_p 12) b_p.1 b_p.2 hPS I1 hsm
  show rxITEX_4 S0 ws S_p (r_p 8) (r_p 9) (r_p 10) (r_p 11) (r_p 12) ∧ rxmTEX_4 S0 ws S_p (r_p 8) (r_p 9) (r_p 10) (r_p 11) (r_p 12) < _
  rw [hr 8 (by decide), hr 9 (by decide), hr 10 (by decide), hr 11 (by decide)]
  exact g2
theorem rxcTEX_0_0 {S0 : Nat → Int → Int} {ws : List Int} {S : Nat → Int → Int} {kind pers cue tchr year base x14 x15 x16 x17 x18 x19 x20 x21 x22 : Int} (hP : rxPTEX S0 ws) (hin : bx_same rxL (bx_mdl rxC289.2.2.1) S0 S) (I0 : bx_Inv rxL S) (hinv : rxITEX_0 S0 ws S kind pers cue tchr year base) (l8 : 0 ≤ kind) (u8 : kind ≤ 2) (l9 : 0 ≤ pers) (u9 : pers ≤ 7) (l10 : 0 ≤ cue) (u10 : cue ≤ 5) (l11 : (-1) ≤ tchr) (u11 : tchr ≤ 7) (l12 : 0 ≤ year) (u12 : year ≤ 300) (l13 : 0 ≤ base) (u13 : base ≤ 100) (l14 : 0 ≤ x14) (u14 : x14 ≤ 5) (l15 : 0 ≤ x15) (u15 : x15 ≤ 4500) (l16 : 0 ≤ x16) (u16 : x16 ≤ 21) (l17 : 0 ≤ x17) (u17 : x17 ≤ 9) (l18 : 0 ≤ x18) (u18 : x18 ≤ 21) (l19 : 0 ≤ x19) (u19 : x19 ≤ 200) (l20 : 0 ≤ x20) (u20 : x20 ≤ 21) (l21 : 0 ≤ x21) (u21 : x21 ≤ 300) (l22 : 0 ≤ x22) (u22 : x22 ≤ 9) (f0 : x20 = 3 * (pers)) (f1 : x18 = 3 * (pers)) (f2 : x16 = 3 * (pers)) (f3 : x15 = 900 * (x14)) (f4 : x14 ≠ (-1)) (e13 : S 482 4 = x14) (e10 : (bx_up (bx_up S 480 28 (x15 + 780)) 493 1 pers) 482 (x16 + 240) = x17) (e8 : (bx_up (bx_up (bx_up S 480 28 (x15 + 780)) 493 1 pers) 493 2 x17) 482 (x18 + 238) = x19) (e6 : (bx_up (bx_up (bx_up (bx_up S 480 28 (x15 + 780)) 493 1 pers) 493 2 x17) 493 3 x19) 482 (x20 + 239) = x21) (e1 : (bx_up (bx_up (bx_up (bx_up (bx_up (bx_up (bx_up (bx_up S 480 28 (x15 + 780)) 493 1 pers) 493 2 x17) 493 3 x19) 493 4 x21) 493 5 cue) 493 6 tchr) 493 7 year) 482 8 = x22) : (True) ∧ (True) ∧ rxITEX_1 S0 ws (bx_up (bx_up (bx_up (bx_up (bx_up (bx_up (bx_up (bx_up (bx_up S 480 28 (x15 + 780)) 493 1 pers) 493 2 x17) 493 3 x19) 493 4 x21) 493 5 cue) 493 6 tchr) 493 7 year) 493 8 x22) kind base 0 ∧ rxmTEX_1 S0 ws (bx_up (bx_up (bx_up (bx_up (bx_up (bx_up (bx_up (bx_up (bx_up S 480 28 (x15 + 780)) 493 1 pers) 493 2 x17) 493 3 x19) 493 4 x21) 493 5 cue) 493 6 tchr) 493 7 year) 493 8 x22) kind base 0 < rxmTEX_0 S0 ws S kind pers cue tchr year base := by
  obtain ⟨hI, hx⟩ := hinv
  obtain ⟨a_, b_, c_, d_⟩ := rxc289_0_0 hP.1 hin I0 hI l8 u8 l9 u9 l10 u10 l11 u11 l12 u12 l13 u13 l14 u14 l15 u15 l16 u16 l17 u17 l18 u18 l19 u19 l20 u20 l21 u21 l22 u22 f0 f1 f2 f3 f4 e13 e10 e8 e6 e1
  exact ⟨a_, b_, ⟨c_, (by
    obtain ⟨e, hw⟩ := hI
    subst e
    have r240 : S 482 (240 + 3 * pers) = x17 := by
      rw [show (240 + 3 * pers : Int) = x16 + 240 by omega]
      exact ((bx_up_ne (by omega)).trans ((bx_up_ne (by omega)))).symm.trans e10
    have r238 : S 482 (238 + 3 * pers) = x19 := by
      rw [show (238 + 3 * pers : Int) = x18 + 238 by omega]
      exact ((bx_up_ne (by omega)).trans ((bx_up_ne (by omega)).trans ((bx_up_ne (by omega))))).symm.trans e8
    have r239 : S 482 (239 + 3 * pers) = x21 := by
      rw [show (239 + 3 * pers : Int) = x20 + 239 by omega]
      exact ((bx_up_ne (by omega)).trans ((bx_up_ne (by omega)).trans ((bx_up_ne (by omega)).trans ((bx_up_ne (by omega)))))).symm.trans e6
    have r8 : S 482 8 = x22 := ((bx_up_ne (by omega)).trans ((bx_up_ne (by omega)).trans ((bx_up_ne (by omega)).trans ((bx_up_ne (by omega)).trans ((bx_up_ne (by omega)).trans ((bx_up_ne (by omega)).trans ((bx_up_ne (by omega)).trans ((bx_up_ne (by omega)))))))))).symm.trans e1
    refine ⟨pers, cue, tchr, year, base, hw, ?_, by omega, by omega, ?_, ?_, fun L hL hl => ⟨L, Int.le_refl 0, hL.2.2, Int.zero_add _, hl, fun z g => g⟩⟩
    · refine ((bx_up_ne (by omega)).trans ((bx_up_ne (by omega)).trans ((bx_up_ne (by omega)).trans ((bx_up_ne (by omega)).trans ((bx_up_ne (by omega)).trans ((bx_up_ne (by omega)).trans ((bx_up_ne (by omega)).trans ((bx_up_ne (by omega)).trans (bx_up_at))))))))).trans (by omega)
    · refine rkVv_k (P := fun _ v => -2147483648 ≤ v ∧ v ≤ 2147483647) (by omega) (by omega) (by omega) (by omega) (by omega) (by omega) (by omega) (by omega)
    · refine rkVv_k (P := fun k v => (bx_up (bx_up (bx_up (bx_up (bx_up (bx_up (bx_up (bx_up (bx_up S 480 28 (x15 + 780)) 493 1 pers) 493 2 x17) 493 3 x19) 493 4 x21) 493 5 cue) 493 6 tchr) 493 7 year) 493 8 x22) 493 k = v) (((bx_up_ne (by omega)).trans ((bx_up_ne (by omega)).trans ((bx_up_ne (by omega)).trans ((bx_up_ne (by omega)).trans ((bx_up_ne (by omega)).trans ((bx_up_ne (by omega)).trans ((bx_up_ne (by omega))))))))).trans bx_up_at) ((((bx_up_ne (by omega)).trans ((bx_up_ne (by omega)).trans ((bx_up_ne (by omega)).trans ((bx_up_ne (by omega)).trans ((bx_up_ne (by omega)).trans ((bx_up_ne (by omega)))))))).trans bx_up_at).trans r240.symm) ((((bx_up_ne (by omega)).trans ((bx_up_ne (by omega)).trans ((bx_up_ne (by omega)).trans ((bx_up_ne (by omega)).trans ((bx_up_ne (by omega))))))).trans bx_up_at).trans r238.symm) ((((bx_up_ne (by omega)).trans ((bx_up_ne (by omega)).trans ((bx_up_ne (by omega)).trans ((bx_up_ne (by omega)))))).trans bx_up_at).trans r239.symm) (((bx_up_ne (by omega)).trans ((bx_up_ne (by omega)).trans ((bx_up_ne (by omega))))).trans bx_up_at) (((bx_up_ne (by omega)).trans ((bx_up_ne (by omega)))).trans bx_up_at) (((bx_up_ne (by omega))).trans bx_up_at) ((bx_up_at).trans r8.symm))⟩, d_⟩
theorem rxgTEX_0_0 {X : (Nat → Int → Int) → Prop} {S0 : Nat → Int → Int} {ws : List Int} (hP : rxPTEX S0 ws) : bx_obC rxL X S0 rxC289.2.2.1 (rxITEX S0 ws) (rxmTEX S0 ws) 0 rxzTEX_0 rxoTEX_0_0 := by
  intro S S_p r r_p hinv hX hin hsm_ hseg
  obtain ⟨I0, I1, h0_, hr_, b_, f_, d_⟩ := bx_cl (evs := [(1, (0, 493), (0, 8), .inr (1, (22, 0))), (0, (0, 482), (0, 8), .inr (0, (22, 0))), (1, (0, 493), (0, 7), .inr (1, (12, 0))), (1, (0, 493), (0, 6), .inr (1, (11, 0))), (1, (0, 493), (0, 5), .inr (1, (10, 0))), (1, (0, 493), (0, 4), .inr (1, (21, 0))), (0, (0, 482), (20, 239), .inr (0, (21, 0))), (1, (0, 493), (0, 3), .inr (1, (19, 0))), (0, (0, 482), (18, 238), .inr (0, (19, 0))), (1, (0, 493), (0, 2), .inr (1, (17, 0))), (0, (0, 482), (16, 240), .inr (0, (17, 0))), (1, (0, 493), (0, 1), .inr (1, (9, 0))), (1, (0, 480), (0, 28), .inr (0, (15, 780))), (0, (0, 482), (0, 4), .inr (0, (14, 0)))]) (fvs := [(4, (20, 0), (9, 0), (0, 3)), (4, (18, 0), (9, 0), (0, 3)), (4, (16, 0), (9, 0), (0, 3)), (4, (15, 0), (14, 0), (0, 900)), (3, (14, 0), (0, (-1)), (0, 0))]) hseg (by decide +kernel) (by decide +kernel)
  have hinv : rxITEX_0 S0 ws S (r 8) (r 9) (r 10) (r 11) (r 12) (r 13) := hinv
  rw [← hr_ 8 (by decide), ← hr_ 9 (by decide), ← hr_ 10 (by decide), ← hr_ 11 (by decide), ← hr_ 12 (by decide), ← hr_ 13 (by decide)] at hinv
  obtain ⟨⟨l8, u8⟩, ⟨l9, u9⟩, ⟨l10, u10⟩, ⟨l11, u11⟩, ⟨l12, u12⟩, ⟨l13, u13⟩, ⟨l14, u14⟩, ⟨l15, u15⟩, ⟨l16, u16⟩, ⟨l17, u17⟩, ⟨l18, u18⟩, ⟨l19, u19⟩, ⟨l20, u20⟩, ⟨l21, u21⟩, ⟨l22, u22⟩, -⟩ := b_
  obtain ⟨f0, f1, f2, f3, f4, -⟩ := f_
  obtain ⟨T0, ⟨e1, ⟨T2, ⟨T3, ⟨T4, ⟨T5, ⟨e6, ⟨T7, ⟨e8, ⟨T9, ⟨e10, ⟨T11, ⟨T12, ⟨e13, w_⟩, w12⟩, w11⟩⟩, w9⟩⟩, w7⟩⟩, w5⟩, w4⟩, w3⟩, w2⟩⟩, w0⟩ := d_
  subst w0
  subst w2
  subst w3
  subst w4
  subst w5
  subst w7
  subst w9
  subst w11
  subst w12
  subst w_
  have g := rxcTEX_0_0 hP hin I0 hinv l8 u8 l9 u9 l10 u10 l11 u11 l12 u12 l13 u13 l14 u14 l15 u15 l16 u16 l17 u17 l18 u18 l19 u19 l20 u20 l21 u21 l22 u22 f0 f1 f2 f3 f4 e13 e10 e8 e6 e1
  refine ⟨bx_narP_ok (l := []) g.1, bx_nfP_ok h0_ (fvs := []) (by decide +kernel) g.2.1, ?_, ?_⟩
  · show rxITEX_1 S0 ws (bx_up (bx_up (bx_up (bx_up (bx_up (bx_up (bx_up (bx_up (bx_up T12 480 (28) (r_p 15 + 780)) 493 (1) (r_p 9)) 493 (2) (r_p 17)) 493 (3) (r_p 19)) 493 (4) (r_p 21)) 493 (5) (r_p 10)) 493 (6) (r_p 11)) 493 (7) (r_p 12)) 493 (8) (r_p 22)) (bx_val [(0, 0), (0, 0), (0, 0), (0, 0), (0, 0), (0, 0), (0, 0), (0, 0), (8, 0), (13, 0), (0, 0)] r_p 8) (bx_val [(0, 0), (0, 0), (0, 0), (0, 0), (0, 0), (0, 0), (0, 0), (0, 0), (8, 0), (13, 0), (0, 0)] r_p 9) (bx_val [(0, 0), (0, 0), (0, 0), (0, 0), (0, 0), (0, 0), (0, 0), (0, 0), (8, 0), (13, 0), (0, 0)] r_p 10)
    rw [bx_val_x (n := 8) (e := (8, 0)) h0_ rfl, bx_val_x (n := 9) (e := (13, 0)) h0_ rfl, bx_val_x (n := 10) (e := (0, 0)) h0_ rfl]
    exact g.2.2.1
  · show rxmTEX_1 S0 ws (bx_up (bx_up (bx_up (bx_up (bx_up (bx_up (bx_up (bx_up (bx_up T12 480 (28) (r_p 15 + 780)) 493 (1) (r_p 9)) 493 (2) (r_p 17)) 493 (3) (r_p 19)) 493 (4) (r_p 21)) 493 (5) (r_p 10)) 493 (6) (r_p 11)) 493 (7) (r_p 12)) 493 (8) (r_p 22)) (bx_val [(0, 0), (0, 0), (0, 0), (0, 0), (0, 0), (0, 0), (0, 0), (0, 0), (8, 0), (13, 0), (0, 0)] r_p 8) (bx_val [(0, 0), (0, 0), (0, 0), (0, 0), (0, 0), (0, 0), (0, 0), (0, 0), (8, 0), (13, 0), (0, 0)] r_p 9) (bx_val [(0, 0), (0, 0), (0, 0), (0, 0), (0, 0), (0, 0), (0, 0), (0, 0), (8, 0), (13, 0), (0, 0)] r_p 10) < rxmTEX_0 S0 ws T12 (r 8) (r 9) (r 10) (r 11) (r 12) (r 13)
    rw [bx_val_x (n := 8) (e := (8, 0)) h0_ rfl, bx_val_x (n := 9) (e := (13, 0)) h0_ rfl, bx_val_x (n := 10) (e := (0, 0)) h0_ rfl, ← hr_ 8 (by decide), ← hr_ 9 (by decide), ← hr_ 10 (by decide), ← hr_ 11 (by decide), ← hr_ 12 (by decide), ← hr_ 13 (by decide)]
    exact g.2.2.2
theorem rxdTEX_0_0 {S0 : Nat → Int → Int} {ws : List Int} {S : Nat → Int → Int} {kind pers cue tchr year base x14 : Int} (hP : rxPTEX S0 ws) (hin : bx_same rxL (bx_mdl rxC289.2.2.1) S0 S) (hin2 : bx_same rxL (bx_mdl rxC289.2.2.1) S S) (I0 : bx_Inv rxL S) (I1 : bx_Inv rxL S) (hinv : rxITEX_0 S0 ws S kind pers cue tchr year base) (l8 : 0 ≤ kind) (u8 : kind ≤ 2) (l9 : 0 ≤ pers) (u9 : pers ≤ 7) (l10 : 0 ≤ cue) (u10 : cue ≤ 5) (l11 : (-1) ≤ tchr) (u11 : tchr ≤ 7) (l12 : 0 ≤ year) (u12 : year ≤ 300) (l13 : 0 ≤ base) (u13 : base ≤ 100) (l14 : (-1) ≤ x14) (u14 : x14 ≤ (-1)) (e0 : S 482 4 = x14) : (True) ∧ rxPSTEX S0 ws S (some base) := by
  obtain ⟨hI, hx⟩ := hinv
  obtain ⟨a_, c_⟩ := rxd289_0_0 hP.1 hin hin2 I0 I1 hI l8 u8 l9 u9 l10 u10 l11 u11 l12 u12 l13 u13 l14 u14 e0
  exact ⟨a_, c_, (by
    obtain ⟨e, hw⟩ := hI
    subst e
    exact ⟨kind, pers, cue, tchr, year, base, hw, Or.inl ⟨by omega, rfl⟩⟩)⟩
theorem rxfTEX_0_0 {X : (Nat → Int → Int) → Prop} {S0 : Nat → Int → Int} {ws : List Int} (hP : rxPTEX S0 ws) : bx_obE rxL X S0 rxC289.2.2.1 (rxITEX S0 ws) (rxPSTEX S0 ws) 0 rxzTEX_0 rxeTEX_0_0 := by
  intro S S_p r r_p hinv hX hin hsm_ hseg
  obtain ⟨I0, I1, h0_, hr_, b_, f_, d_⟩ := bx_cl (evs := [(0, (0, 482), (0, 4), .inr (0, (14, 0)))]) (fvs := []) hseg (by decide +kernel) (by decide +kernel)
  have hinv : rxITEX_0 S0 ws S (r 8) (r 9) (r 10) (r 11) (r 12) (r 13) := hinv
  rw [← hr_ 8 (by decide), ← hr_ 9 (by decide), ← hr_ 10 (by decide), ← hr_ 11 (by decide), ← hr_ 12 (by decide), ← hr_ 13 (by decide)] at hinv
  obtain ⟨⟨l8, u8⟩, ⟨l9, u9⟩, ⟨l10, u10⟩, ⟨l11, u11⟩, ⟨l12, u12⟩, ⟨l13, u13⟩, ⟨l14, u14⟩, -⟩ := b_
  obtain ⟨e0, w_⟩ := d_
  subst w_
  have g := rxdTEX_0_0 hP hin hsm_ I0 I1 hinv l8 u8 l9 u9 l10 u10 l11 u11 l12 u12 l13 u13 l14 u14 e0
  refine ⟨bx_narP_ok (l := []) g.1, ?_⟩
  show rxPSTEX S0 ws S_p (some (bx_num r_p (.inr (1, (13, 0)))))
  rw [bx_xv_ok h0_]
  exact g.2
theorem rxcTEX_1_0 {S0 : Nat → Int → Int} {ws : List Int} {S : Nat → Int → Int} {kind val i x11 x12 : Int} (hP : rxPTEX S0 ws) (hin : bx_same rxL (bx_mdl rxC289.2.2.1) S0 S) (I0 : bx_Inv rxL S) (hinv : rxITEX_1 S0 ws S kind val i) (l8 : 0 ≤ kind) (u8 : kind ≤ 2) (l9 : (-9223372036854775808) ≤ val) (u9 : val ≤ 9223372036854775807) (l10 : 0 ≤ i) (u10 : i ≤ 12) (l11 : 0 ≤ x11) (u11 : x11 ≤ 5280) (l12 : (-1) ≤ x12) (u12 : x12 ≤ 1000) (e1 : S 480 28 = x11) (e0 : S 482 (x11 + 1) = x12) : ((0 ≤ x12 ∧ x12 ≤ 12) ∧ True) ∧ (True) ∧ rxITEX_2 S0 ws S kind val i i x12 ∧ rxmTEX_2 S0 ws S kind val i i x12 < rxmTEX_1 S0 ws S kind val i := by
  obtain ⟨hI, hx⟩ := hinv
  obtain ⟨a_, b_, c_, d_⟩ := rxc289_1_0 hP.1 hin I0 hI l8 u8 l9 u9 l10 u10 l11 u11 l12 u12 e1 e0
  exact ⟨a_, b_, ⟨c_, hx⟩, d_⟩
theorem rxgTEX_1_0 {X : (Nat → Int → Int) → Prop} {S0 : Nat → Int → Int} {ws : List Int} (hP : rxPTEX S0 ws) : bx_obC rxL X S0 rxC289.2.2.1 (rxITEX S0 ws) (rxmTEX S0 ws) 1 rxzTEX_1 rxoTEX_1_0 := by
  intro S S_p r r_p hinv hX hin hsm_ hseg
  obtain ⟨I0, I1, h0_, hr_, b_, f_, d_⟩ := bx_cl (evs := [(0, (0, 482), (11, 1), .inr (0, (12, 0))), (0, (0, 480), (0, 28), .inr (0, (11, 0)))]) (fvs := []) hseg (by decide +kernel) (by decide +kernel)
  have hinv : rxITEX_1 S0 ws S (r 8) (r 9) (r 10) := hinv
  rw [← hr_ 8 (by decide), ← hr_ 9 (by decide), ← hr_ 10 (by decide)] at hinv
  obtain ⟨⟨l8, u8⟩, ⟨l9, u9⟩, ⟨l10, u10⟩, ⟨l11, u11⟩, ⟨l12, u12⟩, -⟩ := b_
  obtain ⟨e0, ⟨e1, w_⟩⟩ := d_
  subst w_
  have g := rxcTEX_1_0 hP hin I0 hinv l8 u8 l9 u9 l10 u10 l11 u11 l12 u12 e1 e0
  refine ⟨bx_narP_ok (l := [(12, 0, 12)]) g.1, bx_nfP_ok h0_ (fvs := []) (by decide +kernel) g.2.1, ?_, ?_⟩
  · show rxITEX_2 S0 ws S_p (bx_val [(0, 0), (0, 0), (0, 0), (0, 0), (0, 0), (0, 0), (0, 0), (0, 0), (8, 0), (9, 0), (10, 0), (10, 0), (12, 0)] r_p 8) (bx_val [(0, 0), (0, 0), (0, 0), (0, 0), (0, 0), (0, 0), (0, 0), (0, 0), (8, 0), (9, 0), (10, 0), (10, 0), (12, 0)] r_p 9) (bx_val [(0, 0), (0, 0), (0, 0), (0, 0), (0, 0), (0, 0), (0, 0), (0, 0), (8, 0), (9, 0), (10, 0), (10, 0), (12, 0)] r_p 10) (bx_val [(0, 0), (0, 0), (0, 0), (0, 0), (0, 0), (0, 0), (0, 0), (0, 0), (8, 0), (9, 0), (10, 0), (10, 0), (12, 0)] r_p 11) (bx_val [(0, 0), (0, 0), (0, 0), (0, 0), (0, 0), (0, 0), (0, 0), (0, 0), (8, 0), (9, 0), (10, 0), (10, 0), (12, 0)] r_p 12)
    rw [bx_val_x (n := 8) (e := (8, 0)) h0_ rfl, bx_val_x (n := 9) (e := (9, 0)) h0_ rfl, bx_val_x (n := 10) (e := (10, 0)) h0_ rfl, bx_val_x (n := 11) (e := (10, 0)) h0_ rfl, bx_val_x (n := 12) (e := (12, 0)) h0_ rfl]
    exact g.2.2.1
  · show rxmTEX_2 S0 ws S_p (bx_val [(0, 0), (0, 0), (0, 0), (0, 0), (0, 0), (0, 0), (0, 0), (0, 0), (8, 0), (9, 0), (10, 0), (10, 0), (12, 0)] r_p 8) (bx_val [(0, 0), (0, 0), (0, 0), (0, 0), (0, 0), (0, 0), (0, 0), (0, 0), (8, 0), (9, 0), (10, 0), (10, 0), (12, 0)] r_p 9) (bx_val [(0, 0), (0, 0), (0, 0), (0, 0), (0, 0), (0, 0), (0, 0), (0, 0), (8, 0), (9, 0), (10, 0), (10, 0), (12, 0)] r_p 10) (bx_val [(0, 0), (0, 0), (0, 0), (0, 0), (0, 0), (0, 0), (0, 0), (0, 0), (8, 0), (9, 0), (10, 0), (10, 0), (12, 0)] r_p 11) (bx_val [(0, 0), (0, 0), (0, 0), (0, 0), (0, 0), (0, 0), (0, 0), (0, 0), (8, 0), (9, 0), (10, 0), (10, 0), (12, 0)] r_p 12) < rxmTEX_1 S0 ws S_p (r 8) (r 9) (r 10)
    rw [bx_val_x (n := 8) (e := (8, 0)) h0_ rfl, bx_val_x (n := 9) (e := (9, 0)) h0_ rfl, bx_val_x (n := 10) (e := (10, 0)) h0_ rfl, bx_val_x (n := 11) (e := (10, 0)) h0_ rfl, bx_val_x (n := 12) (e := (12, 0)) h0_ rfl, ← hr_ 8 (by decide), ← hr_ 9 (by decide), ← hr_ 10 (by decide)]
    exact g.2.2.2
theorem rxcTEX_2_0 {S0 : Nat → Int → Int} {ws : List Int} {S : Nat → Int → Int} {kind val i i2 cnt x13 x14 x15 x16 : Int} (hP : rxPTEX S0 ws) (hin : bx_same rxL (bx_mdl rxC289.2.2.1) S0 S) (I0 : bx_Inv rxL S) (hinv : rxITEX_2 S0 ws S kind val i i2 cnt) (l8 : 0 ≤ kind) (u8 : kind ≤ 2) (l9 : (-9223372036854775808) ≤ val) (u9 : val ≤ 9223372036854775807) (l10 : 0 ≤ i) (u10 : i ≤ 12) (l11 : 0 ≤ i2) (u11 : i2 ≤ 11) (l12 : 1 ≤ cnt) (u12 : cnt ≤ 12) (l13 : 0 ≤ x13) (u13 : x13 ≤ 5280) (l14 : 0 ≤ x14) (u14 : x14 ≤ 96) (l15 : 2 ≤ x15) (u15 : x15 ≤ 5378) (l16 : 0 ≤ x16) (u16 : x16 ≤ 2) (f0 : x16 = kind) (f1 : x15 = x13 + 2 + x14) (f2 : x14 = 8 * (i)) (f3 : i2 < cnt) (e1 : S 480 28 = x13) (e0 : S 482 x15 = x16) : ((0 ≤ i ∧ i ≤ 11) ∧ (782 ≤ x15 ∧ x15 ≤ 5370) ∧ True) ∧ (True) ∧ rxITEX_3 S0 ws S kind val i x15 ∧ rxmTEX_3 S0 ws S kind val i x15 < rxmTEX_2 S0 ws S kind val i i2 cnt := by
  obtain ⟨hI, hx⟩ := hinv
  obtain ⟨a_, b_, c_, d_⟩ := rxc289_2_0 hP.1 hin I0 hI l8 u8 l9 u9 l10 u10 l11 u11 l12 u12 l13 u13 l14 u14 l15 u15 l16 u16 f0 f1 f2 f3 e1 e0
  exact ⟨a_, b_, ⟨c_, (by
    obtain ⟨hi2, hcnt, -, -⟩ := hI
    have hrow : ∀ j : Int, 0 ≤ j → j < 6180 → S 482 j = S0 482 j := fun j a b => rx_sameR hin (p := 482) (tc := 0) (n := 6180) (g := 63) rfl (by omega) (by decide +kernel) (by decide +kernel) a b
    have hx0 := hx
    obtain ⟨p, pa, t, y, base, h1, h2, h3, h4, -⟩ := hx0
    have hc : S0 482 (780 + 900 * S0 482 4 + 1) = cnt := by
      rw [← hrow _ (by omega) (by omega), ← h2]
      exact hcnt.symm
    have hk : S0 482 (780 + 900 * S0 482 4 + 2 + 8 * i) = x16 := by
      rw [← hrow _ (by omega) (by omega), ← h2, show S 480 28 + 2 + 8 * i = x15 by omega]
      exact e0
    exact ⟨hx, by omega, by omega, by omega⟩)⟩, d_⟩
theorem rxgTEX_2_0 {X : (Nat → Int → Int) → Prop} {S0 : Nat → Int → Int} {ws : List Int} (hP : rxPTEX S0 ws) : bx_obC rxL X S0 rxC289.2.2.1 (rxITEX S0 ws) (rxmTEX S0 ws) 2 rxzTEX_2 rxoTEX_2_0 := by
  intro S S_p r r_p hinv hX hin hsm_ hseg
  obtain ⟨I0, I1, h0_, hr_, b_, f_, d_⟩ := bx_cl (evs := [(0, (0, 482), (15, 0), .inr (0, (16, 0))), (0, (0, 480), (0, 28), .inr (0, (13, 0)))]) (fvs := [(2, (16, 0), (8, 0), (0, 0)), (5, (15, 0), (13, 2), (14, 0)), (4, (14, 0), (10, 0), (0, 8)), (0, (11, 0), (12, 0), (0, 0))]) hseg (by decide +kernel) (by decide +kernel)
  have hinv : rxITEX_2 S0 ws S (r 8) (r 9) (r 10) (r 11) (r 12) := hinv
  rw [← hr_ 8 (by decide), ← hr_ 9 (by decide), ← hr_ 10 (by decide), ← hr_ 11 (by decide), ← hr_ 12 (by decide)] at hinv
  obtain ⟨⟨l8, u8⟩, ⟨l9, u9⟩, ⟨l10, u10⟩, ⟨l11, u11⟩, ⟨l12, u12⟩, ⟨l13, u13⟩, ⟨l14, u14⟩, ⟨l15, u15⟩, ⟨l16, u16⟩, -⟩ := b_
  obtain ⟨f0, f1, f2, f3, -⟩ := f_
  obtain ⟨e0, ⟨e1, w_⟩⟩ := d_
  subst w_
  have g := rxcTEX_2_0 hP hin I0 hinv l8 u8 l9 u9 l10 u10 l11 u11 l12 u12 l13 u13 l14 u14 l15 u15 l16 u16 f0 f1 f2 f3 e1 e0
  refine ⟨bx_narP_ok (l := [(10, 0, 11), (15, 782, 5370)]) g.1, bx_nfP_ok h0_ (fvs := []) (by decide +kernel) g.2.1, ?_, ?_⟩
  · show rxITEX_3 S0 ws S_p (bx_val [(0, 0), (0, 0), (0, 0), (0, 0), (0, 0), (0, 0), (0, 0), (0, 0), (8, 0), (9, 0), (10, 0), (15, 0)] r_p 8) (bx_val [(0, 0), (0, 0), (0, 0), (0, 0), (0, 0), (0, 0), (0, 0), (0, 0), (8, 0), (9, 0), (10, 0), (15, 0)] r_p 9) (bx_val [(0, 0), (0, 0), (0, 0), (0, 0), (0, 0), (0, 0), (0, 0), (0, 0), (8, 0), (9, 0), (10, 0), (15, 0)] r_p 10) (bx_val [(0, 0), (0, 0), (0, 0), (0, 0), (0, 0), (0, 0), (0, 0), (0, 0), (8, 0), (9, 0), (10, 0), (15, 0)] r_p 11)
    rw [bx_val_x (n := 8) (e := (8, 0)) h0_ rfl, bx_val_x (n := 9) (e := (9, 0)) h0_ rfl, bx_val_x (n := 10) (e := (10, 0)) h0_ rfl, bx_val_x (n := 11) (e := (15, 0)) h0_ rfl]
    exact g.2.2.1
  · show rxmTEX_3 S0 ws S_p (bx_val [(0, 0), (0, 0), (0, 0), (0, 0), (0, 0), (0, 0), (0, 0), (0, 0), (8, 0), (9, 0), (10, 0), (15, 0)] r_p 8) (bx_val [(0, 0), (0, 0), (0, 0), (0, 0), (0, 0), (0, 0), (0, 0), (0, 0), (8, 0), (9, 0), (10, 0), (15, 0)] r_p 9) (bx_val [(0, 0), (0, 0), (0, 0), (0, 0), (0, 0), (0, 0), (0, 0), (0, 0), (8, 0), (9, 0), (10, 0), (15, 0)] r_p 10) (bx_val [(0, 0), (0, 0), (0, 0), (0, 0), (0, 0), (0, 0), (0, 0), (0, 0), (8, 0), (9, 0), (10, 0), (15, 0)] r_p 11) < rxmTEX_2 S0 ws S_p (r 8) (r 9) (r 10) (r 11) (r 12)
    rw [bx_val_x (n := 8) (e := (8, 0)) h0_ rfl, bx_val_x (n := 9) (e := (9, 0)) h0_ rfl, bx_val_x (n := 10) (e := (10, 0)) h0_ rfl, bx_val_x (n := 11) (e := (15, 0)) h0_ rfl, ← hr_ 8 (by decide), ← hr_ 9 (by decide), ← hr_ 10 (by decide), ← hr_ 11 (by decide), ← hr_ 12 (by decide)]
    exact g.2.2.2
theorem rxcTEX_2_1 {S0 : Nat → Int → Int} {ws : List Int} {S : Nat → Int → Int} {kind val i i2 cnt x13 x14 x15 x16 : Int} (hP : rxPTEX S0 ws) (hin : bx_same rxL (bx_mdl rxC289.2.2.1) S0 S) (I0 : bx_Inv rxL S) (hinv : rxITEX_2 S0 ws S kind val i i2 cnt) (l8 : 0 ≤ kind) (u8 : kind ≤ 2) (l9 : (-9223372036854775808) ≤ val) (u9 : val ≤ 9223372036854775807) (l10 : 0 ≤ i) (u10 : i ≤ 12) (l11 : 0 ≤ i2) (u11 : i2 ≤ 11) (l12 : 1 ≤ cnt) (u12 : cnt ≤ 12) (l13 : 0 ≤ x13) (u13 : x13 ≤ 5280) (l14 : 0 ≤ x14) (u14 : x14 ≤ 96) (l15 : 2 ≤ x15) (u15 : x15 ≤ 5378) (l16 : (-1) ≤ x16) (u16 : x16 ≤ 1000) (f0 : x16 ≠ kind) (f1 : x15 = x13 + 2 + x14) (f2 : x14 = 8 * (i)) (f3 : i2 < cnt) (e1 : S 480 28 = x13) (e0 : S 482 x15 = x16) : (((-1) ≤ i ∧ i ≤ 11) ∧ True) ∧ (True) ∧ rxITEX_1 S0 ws S kind val (i + 1) ∧ rxmTEX_1 S0 ws S kind val (i + 1) < rxmTEX_2 S0 ws S kind val i i2 cnt := by
  obtain ⟨hI, hx⟩ := hinv
  obtain ⟨a_, b_, c_, d_⟩ := rxc289_2_1 hP.1 hin I0 hI l8 u8 l9 u9 l10 u10 l11 u11 l12 u12 l13 u13 l14 u14 l15 u15 l16 u16 f0 f1 f2 f3 e1 e0
  exact ⟨a_, b_, ⟨c_, (by
    obtain ⟨hi2, hcnt, -, -⟩ := hI
    have hrow : ∀ j : Int, 0 ≤ j → j < 6180 → S 482 j = S0 482 j := fun j a b => rx_sameR hin (p := 482) (tc := 0) (n := 6180) (g := 63) rfl (by omega) (by decide +kernel) (by decide +kernel) a b
    have hx0 := hx
    obtain ⟨p, pa, t, y, base, h1, h2, h3, h4, -⟩ := hx0
    have hc : S0 482 (780 + 900 * S0 482 4 + 1) = cnt := by
      rw [← hrow _ (by omega) (by omega), ← h2]
      exact hcnt.symm
    have hk : S0 482 (780 + 900 * S0 482 4 + 2 + 8 * i) = x16 := by
      rw [← hrow _ (by omega) (by omega), ← h2, show S 480 28 + 2 + 8 * i = x15 by omega]
      exact e0
    exact rqTe_skip hx (by omega) (by omega))⟩, d_⟩
theorem rxgTEX_2_1 {X : (Nat → Int → Int) → Prop} {S0 : Nat → Int → Int} {ws : List Int} (hP : rxPTEX S0 ws) : bx_obC rxL X S0 rxC289.2.2.1 (rxITEX S0 ws) (rxmTEX S0 ws) 2 rxzTEX_2 rxoTEX_2_1 := by
  intro S S_p r r_p hinv hX hin hsm_ hseg
  obtain ⟨I0, I1, h0_, hr_, b_, f_, d_⟩ := bx_cl (evs := [(0, (0, 482), (15, 0), .inr (0, (16, 0))), (0, (0, 480), (0, 28), .inr (0, (13, 0)))]) (fvs := [(3, (16, 0), (8, 0), (0, 0)), (5, (15, 0), (13, 2), (14, 0)), (4, (14, 0), (10, 0), (0, 8)), (0, (11, 0), (12, 0), (0, 0))]) hseg (by decide +kernel) (by decide +kernel)
  have hinv : rxITEX_2 S0 ws S (r 8) (r 9) (r 10) (r 11) (r 12) := hinv
  rw [← hr_ 8 (by decide), ← hr_ 9 (by decide), ← hr_ 10 (by decide), ← hr_ 11 (by decide), ← hr_ 12 (by decide)] at hinv
  obtain ⟨⟨l8, u8⟩, ⟨l9, u9⟩, ⟨l10, u10⟩, ⟨l11, u11⟩, ⟨l12, u12⟩, ⟨l13, u13⟩, ⟨l14, u14⟩, ⟨l15, u15⟩, ⟨l16, u16⟩, -⟩ := b_
  obtain ⟨f0, f1, f2, f3, -⟩ := f_
  obtain ⟨e0, ⟨e1, w_⟩⟩ := d_
  subst w_
  have g := rxcTEX_2_1 hP hin I0 hinv l8 u8 l9 u9 l10 u10 l11 u11 l12 u12 l13 u13 l14 u14 l15 u15 l16 u16 f0 f1 f2 f3 e1 e0
  refine ⟨bx_narP_ok (l := [(10, (-1), 11)]) g.1, bx_nfP_ok h0_ (fvs := []) (by decide +kernel) g.2.1, ?_, ?_⟩
  · show rxITEX_1 S0 ws S_p (bx_val [(0, 0), (0, 0), (0, 0), (0, 0), (0, 0), (0, 0), (0, 0), (0, 0), (8, 0), (9, 0), (10, 1)] r_p 8) (bx_val [(0, 0), (0, 0), (0, 0), (0, 0), (0, 0), (0, 0), (0, 0), (0, 0), (8, 0), (9, 0), (10, 1)] r_p 9) (bx_val [(0, 0), (0, 0), (0, 0), (0, 0), (0, 0), (0, 0), (0, 0), (0, 0), (8, 0), (9, 0), (10, 1)] r_p 10)
    rw [bx_val_x (n := 8) (e := (8, 0)) h0_ rfl, bx_val_x (n := 9) (e := (9, 0)) h0_ rfl, bx_val_x (n := 10) (e := (10, 1)) h0_ rfl]
    exact g.2.2.1
  · show rxmTEX_1 S0 ws S_p (bx_val [(0, 0), (0, 0), (0, 0), (0, 0), (0, 0), (0, 0), (0, 0), (0, 0), (8, 0), (9, 0), (10, 1)] r_p 8) (bx_val [(0, 0), (0, 0), (0, 0), (0, 0), (0, 0), (0, 0), (0, 0), (0, 0), (8, 0), (9, 0), (10, 1)] r_p 9) (bx_val [(0, 0), (0, 0), (0, 0), (0, 0), (0, 0), (0, 0), (0, 0), (0, 0), (8, 0), (9, 0), (10, 1)] r_p 10) < rxmTEX_2 S0 ws S_p (r 8) (r 9) (r 10) (r 11) (r 12)
    rw [bx_val_x (n := 8) (e := (8, 0)) h0_ rfl, bx_val_x (n := 9) (e := (9, 0)) h0_ rfl, bx_val_x (n := 10) (e := (10, 1)) h0_ rfl, ← hr_ 8 (by decide), ← hr_ 9 (by decide), ← hr_ 10 (by decide), ← hr_ 11 (by decide), ← hr_ 12 (by decide)]
    exact g.2.2.2
theorem rxdTEX_2_0 {S0 : Nat → Int → Int} {ws : List Int} {S : Nat → Int → Int} {kind val i i2 cnt : Int} (hP : rxPTEX S0 ws) (hin : bx_same rxL (bx_mdl rxC289.2.2.1) S0 S) (hin2 : bx_same rxL (bx_mdl rxC289.2.2.1) S S) (I0 : bx_Inv rxL S) (I1 : bx_Inv rxL S) (hinv : rxITEX_2 S0 ws S kind val i i2 cnt) (l8 : 0 ≤ kind) (u8 : kind ≤ 2) (l9 : (-9223372036854775808) ≤ val) (u9 : val ≤ 9223372036854775807) (l10 : 0 ≤ i) (u10 : i ≤ 12) (l11 : 0 ≤ i2) (u11 : i2 ≤ 12) (l12 : 0 ≤ cnt) (u12 : cnt ≤ 12) (f0 : cnt ≤ i2) : (True) ∧ rxPSTEX S0 ws S (some val) := by
  obtain ⟨hI, hx⟩ := hinv
  obtain ⟨a_, c_⟩ := rxd289_2_0 hP.1 hin hin2 I0 I1 hI l8 u8 l9 u9 l10 u10 l11 u11 l12 u12 f0
  exact ⟨a_, c_, (by
    obtain ⟨hi2, hcnt, -, -⟩ := hI
    have hrow : ∀ j : Int, 0 ≤ j → j < 6180 → S 482 j = S0 482 j := fun j a b => rx_sameR hin (p := 482) (tc := 0) (n := 6180) (g := 63) rfl (by omega) (by decide +kernel) (by decide +kernel) a b
    obtain ⟨p, pa, t, y, base, h1, h2, h3, h4, h5, h6, h7⟩ := hx
    refine ⟨kind, p, pa, t, y, base, h1, Or.inr ⟨by omega, fun L hL hl => ⟨val, rfl, ?_⟩⟩⟩
    have hc : S0 482 (780 + 900 * S0 482 4 + 1) = cnt := by
      rw [← hrow _ (by omega) (by omega), ← h2]
      exact hcnt.symm
    obtain ⟨L1, g0, g1, g2, g3, g4⟩ := h7 L hL hl
    have hn := hL.1
    cases L1 with
    | nil => exact g4 val rfl
    | cons q L2 =>
      exfalso
      simp only [List.length_cons] at g2
      omega)⟩
theorem rxfTEX_2_0 {X : (Nat → Int → Int) → Prop} {S0 : Nat → Int → Int} {ws : List Int} (hP : rxPTEX S0 ws) : bx_obE rxL X S0 rxC289.2.2.1 (rxITEX S0 ws) (rxPSTEX S0 ws) 2 rxzTEX_2 rxeTEX_2_0 := by
  intro S S_p r r_p hinv hX hin hsm_ hseg
  obtain ⟨I0, I1, h0_, hr_, b_, f_, d_⟩ := bx_cl (evs := []) (fvs := [(1, (12, 0), (11, 0), (0, 0))]) hseg (by decide +kernel) (by decide +kernel)
  have hinv : rxITEX_2 S0 ws S (r 8) (r 9) (r 10) (r 11) (r 12) := hinv
  rw [← hr_ 8 (by decide), ← hr_ 9 (by decide), ← hr_ 10 (by decide), ← hr_ 11 (by decide), ← hr_ 12 (by decide)] at hinv
  obtain ⟨⟨l8, u8⟩, ⟨l9, u9⟩, ⟨l10, u10⟩, ⟨l11, u11⟩, ⟨l12, u12⟩, -⟩ := b_
  obtain ⟨f0, -⟩ := f_
  have w_ := d_
  subst w_
  have g := rxdTEX_2_0 hP hin hsm_ I0 I1 hinv l8 u8 l9 u9 l10 u10 l11 u11 l12 u12 f0
  refine ⟨bx_narP_ok (l := []) g.1, ?_⟩
  show rxPSTEX S0 ws S_p (some (bx_num r_p (.inr (1, (9, 0)))))
  rw [bx_xv_ok h0_]
  exact g.2
theorem rxcTEX_4_0 {S0 : Nat → Int → Int} {ws : List Int} {S : Nat → Int → Int} {kind val i start so : Int} (hP : rxPTEX S0 ws) (hin : bx_same rxL (bx_mdl rxC289.2.2.1) S0 S) (I0 : bx_Inv rxL S) (hinv : rxITEX_4 S0 ws S kind val i start so) (l8 : 2 ≤ kind) (u8 : kind ≤ 2) (l9 : (-9223372036854775808) ≤ val) (u9 : val ≤ 9223372036854775807) (l10 : 0 ≤ i) (u10 : i ≤ 11) (l11 : 782 ≤ start) (u11 : start ≤ 5370) (l12 : 1 ≤ so) (u12 : so ≤ 1) (f0 : so ≠ 0) : (True) ∧ (True) ∧ rxITEX_1 S0 ws S kind 1 (i + 1) ∧ rxmTEX_1 S0 ws S kind 1 (i + 1) < rxmTEX_4 S0 ws S kind val i start so := by
  obtain ⟨hI, hx⟩ := hinv
  obtain ⟨a_, b_, c_, d_⟩ := rxc289_4_0 hP.1 hin I0 hI l8 u8 l9 u9 l10 u10 l11 u11 l12 u12 f0
  exact ⟨a_, b_, ⟨c_, (by
    exact rqT4_of hx (Or.inr (Or.inl ⟨by omega, by omega, rfl⟩)))⟩, d_⟩
theorem rxgTEX_4_0 {X : (Nat → Int → Int) → Prop} {S0 : Nat → Int → Int} {ws : List Int} (hP : rxPTEX S0 ws) : bx_obC rxL X S0 rxC289.2.2.1 (rxITEX S0 ws) (rxmTEX S0 ws) 4 rxzTEX_4 rxoTEX_4_0 := by
  intro S S_p r r_p hinv hX hin hsm_ hseg
  obtain ⟨I0, I1, h0_, hr_, b_, f_, d_⟩ := bx_cl (evs := []) (fvs := [(3, (12, 0), (0, 0), (0, 0))]) hseg (by decide +kernel) (by decide +kernel)
  have hinv : rxITEX_4 S0 ws S (r 8) (r 9) (r 10) (r 11) (r 12) := hinv
  rw [← hr_ 8 (by decide), ← hr_ 9 (by decide), ← hr_ 10 (by decide), ← hr_ 11 (by decide), ← hr_ 12 (by decide)] at hinv
  obtain ⟨⟨l8, u8⟩, ⟨l9, u9⟩, ⟨l10, u10⟩, ⟨l11, u11⟩, ⟨l12, u12⟩, -⟩ := b_
  obtain ⟨f0, -⟩ := f_
  have w_ := d_
  subst w_
  have g := rxcTEX_4_0 hP hin I0 hinv l8 u8 l9 u9 l10 u10 l11 u11 l12 u12 f0
  refine ⟨bx_narP_ok (l := []) g.1, bx_nfP_ok h0_ (fvs := []) (by decide +kernel) g.2.1, ?_, ?_⟩
  · show rxITEX_1 S0 ws S_p (bx_val [(0, 0), (0, 0), (0, 0), (0, 0), (0, 0), (0, 0), (0, 0), (0, 0), (8, 0), (0, 1), (10, 1)] r_p 8) (bx_val [(0, 0), (0, 0), (0, 0), (0, 0), (0, 0), (0, 0), (0, 0), (0, 0), (8, 0), (0, 1), (10, 1)] r_p 9) (bx_val [(0, 0), (0, 0), (0, 0), (0, 0), (0, 0), (0, 0), (0, 0), (0, 0), (8, 0), (0, 1), (10, 1)] r_p 10)
    rw [bx_val_x (n := 8) (e := (8, 0)) h0_ rfl, bx_val_x (n := 9) (e := (0, 1)) h0_ rfl, bx_val_x (n := 10) (e := (10, 1)) h0_ rfl]
    exact g.2.2.1
  · show rxmTEX_1 S0 ws S_p (bx_val [(0, 0), (0, 0), (0, 0), (0, 0), (0, 0), (0, 0), (0, 0), (0, 0), (8, 0), (0, 1), (10, 1)] r_p 8) (bx_val [(0, 0), (0, 0), (0, 0), (0, 0), (0, 0), (0, 0), (0, 0), (0, 0), (8, 0), (0, 1), (10, 1)] r_p 9) (bx_val [(0, 0), (0, 0), (0, 0), (0, 0), (0, 0), (0, 0), (0, 0), (0, 0), (8, 0), (0, 1), (10, 1)] r_p 10) < rxmTEX_4 S0 ws S_p (r 8) (r 9) (r 10) (r 11) (r 12)
    rw [bx_val_x (n := 8) (e := (8, 0)) h0_ rfl, bx_val_x (n := 9) (e := (0, 1)) h0_ rfl, bx_val_x (n := 10) (e := (10, 1)) h0_ rfl, ← hr_ 8 (by decide), ← hr_ 9 (by decide), ← hr_ 10 (by decide), ← hr_ 11 (by decide), ← hr_ 12 (by decide)]
    exact g.2.2.2
theorem rxcTEX_4_1 {S0 : Nat → Int → Int} {ws : List Int} {S : Nat → Int → Int} {kind val i start so x13 : Int} (hP : rxPTEX S0 ws) (hin : bx_same rxL (bx_mdl rxC289.2.2.1) S0 S) (I0 : bx_Inv rxL S) (hinv : rxITEX_4 S0 ws S kind val i start so) (l8 : 0 ≤ kind) (u8 : kind ≤ 1) (l9 : (-9223372036854775808) ≤ val) (u9 : val ≤ 9223372036854775807) (l10 : 0 ≤ i) (u10 : i ≤ 11) (l11 : 782 ≤ start) (u11 : start ≤ 5370) (l12 : 1 ≤ so) (u12 : so ≤ 1) (l13 : (-9223372036854775808) ≤ x13) (u13 : x13 ≤ 9223372036854775807) (f0 : kind ≠ 2) (f1 : so ≠ 0) (e0 : S 480 34 = x13) : (True) ∧ (True) ∧ rxITEX_1 S0 ws S kind x13 (i + 1) ∧ rxmTEX_1 S0 ws S kind x13 (i + 1) < rxmTEX_4 S0 ws S kind val i start so := by
  obtain ⟨hI, hx⟩ := hinv
  obtain ⟨a_, b_, c_, d_⟩ := rxc289_4_1 hP.1 hin I0 hI l8 u8 l9 u9 l10 u10 l11 u11 l12 u12 l13 u13 f0 f1 e0
  exact ⟨a_, b_, ⟨c_, (by
    exact rqT4_of hx (Or.inr (Or.inr ⟨by omega, by omega, e0.symm⟩)))⟩, d_⟩
theorem rxgTEX_4_1 {X : (Nat → Int → Int) → Prop} {S0 : Nat → Int → Int} {ws : List Int} (hP : rxPTEX S0 ws) : bx_obC rxL X S0 rxC289.2.2.1 (rxITEX S0 ws) (rxmTEX S0 ws) 4 rxzTEX_4 rxoTEX_4_1 := by
  intro S S_p r r_p hinv hX hin hsm_ hseg
  obtain ⟨I0, I1, h0_, hr_, b_, f_, d_⟩ := bx_cl (evs := [(0, (0, 480), (0, 34), .inr (1, (13, 0)))]) (fvs := [(3, (8, 0), (0, 2), (0, 0)), (3, (12, 0), (0, 0), (0, 0))]) hseg (by decide +kernel) (by decide +kernel)
  have hinv : rxITEX_4 S0 ws S (r 8) (r 9) (r 10) (r 11) (r 12) := hinv
  rw [← hr_ 8 (by decide), ← hr_ 9 (by decide), ← hr_ 10 (by decide), ← hr_ 11 (by decide), ← hr_ 12 (by decide)] at hinv
  obtain ⟨⟨l8, u8⟩, ⟨l9, u9⟩, ⟨l10, u10⟩, ⟨l11, u11⟩, ⟨l12, u12⟩, ⟨l13, u13⟩, -⟩ := b_
  obtain ⟨f0, f1, -⟩ := f_
  obtain ⟨e0, w_⟩ := d_
  subst w_
  have g := rxcTEX_4_1 hP hin I0 hinv l8 u8 l9 u9 l10 u10 l11 u11 l12 u12 l13 u13 f0 f1 e0
  refine ⟨bx_narP_ok (l := []) g.1, bx_nfP_ok h0_ (fvs := []) (by decide +kernel) g.2.1, ?_, ?_⟩
  · show rxITEX_1 S0 ws S_p (bx_val [(0, 0), (0, 0), (0, 0), (0, 0), (0, 0), (0, 0), (0, 0), (0, 0), (8, 0), (13, 0), (10, 1)] r_p 8) (bx_val [(0, 0), (0, 0), (0, 0), (0, 0), (0, 0), (0, 0), (0, 0), (0, 0), (8, 0), (13, 0), (10, 1)] r_p 9) (bx_val [(0, 0), (0, 0), (0, 0), (0, 0), (0, 0), (0, 0), (0, 0), (0, 0), (8, 0), (13, 0), (10, 1)] r_p 10)
    rw [bx_val_x (n := 8) (e := (8, 0)) h0_ rfl, bx_val_x (n := 9) (e := (13, 0)) h0_ rfl, bx_val_x (n := 10) (e := (10, 1)) h0_ rfl]
    exact g.2.2.1
  · show rxmTEX_1 S0 ws S_p (bx_val [(0, 0), (0, 0), (0, 0), (0, 0), (0, 0), (0, 0), (0, 0), (0, 0), (8, 0), (13, 0), (10, 1)] r_p 8) (bx_val [(0, 0), (0, 0), (0, 0), (0, 0), (0, 0), (0, 0), (0, 0), (0, 0), (8, 0), (13, 0), (10, 1)] r_p 9) (bx_val [(0, 0), (0, 0), (0, 0), (0, 0), (0, 0), (0, 0), (0, 0), (0, 0), (8, 0), (13, 0), (10, 1)] r_p 10) < rxmTEX_4 S0 ws S_p (r 8) (r 9) (r 10) (r 11) (r 12)
    rw [bx_val_x (n := 8) (e := (8, 0)) h0_ rfl, bx_val_x (n := 9) (e := (13, 0)) h0_ rfl, bx_val_x (n := 10) (e := (10, 1)) h0_ rfl, ← hr_ 8 (by decide), ← hr_ 9 (by decide), ← hr_ 10 (by decide), ← hr_ 11 (by decide), ← hr_ 12 (by decide)]
    exact g.2.2.2
theorem rxcTEX_4_2 {S0 : Nat → Int → Int} {ws : List Int} {S : Nat → Int → Int} {kind val i start so : Int} (hP : rxPTEX S0 ws) (hin : bx_same rxL (bx_mdl rxC289.2.2.1) S0 S) (I0 : bx_Inv rxL S) (hinv : rxITEX_4 S0 ws S kind val i start so) (l8 : 0 ≤ kind) (u8 : kind ≤ 2) (l9 : (-9223372036854775808) ≤ val) (u9 : val ≤ 9223372036854775807) (l10 : 0 ≤ i) (u10 : i ≤ 11) (l11 : 782 ≤ start) (u11 : start ≤ 5370) (l12 : 0 ≤ so) (u12 : so ≤ 0) : (True) ∧ (True) ∧ rxITEX_1 S0 ws S kind val (i + 1) ∧ rxmTEX_1 S0 ws S kind val (i + 1) < rxmTEX_4 S0 ws S kind val i start so := by
  obtain ⟨hI, hx⟩ := hinv
  obtain ⟨a_, b_, c_, d_⟩ := rxc289_4_2 hP.1 hin I0 hI l8 u8 l9 u9 l10 u10 l11 u11 l12 u12
  exact ⟨a_, b_, ⟨c_, (by
    exact rqT4_of hx (Or.inl ⟨by omega, rfl⟩))⟩, d_⟩
theorem rxgTEX_4_2 {X : (Nat → Int → Int) → Prop} {S0 : Nat → Int → Int} {ws : List Int} (hP : rxPTEX S0 ws) : bx_obC rxL X S0 rxC289.2.2.1 (rxITEX S0 ws) (rxmTEX S0 ws) 4 rxzTEX_4 rxoTEX_4_2 := by
  intro S S_p r r_p hinv hX hin hsm_ hseg
  obtain ⟨I0, I1, h0_, hr_, b_, f_, d_⟩ := bx_cl (evs := []) (fvs := []) hseg (by decide +kernel) (by decide +kernel)
  have hinv : rxITEX_4 S0 ws S (r 8) (r 9) (r 10) (r 11) (r 12) := hinv
  rw [← hr_ 8 (by decide), ← hr_ 9 (by decide), ← hr_ 10 (by decide), ← hr_ 11 (by decide), ← hr_ 12 (by decide)] at hinv
  obtain ⟨⟨l8, u8⟩, ⟨l9, u9⟩, ⟨l10, u10⟩, ⟨l11, u11⟩, ⟨l12, u12⟩, -⟩ := b_
  have w_ := d_
  subst w_
  have g := rxcTEX_4_2 hP hin I0 hinv l8 u8 l9 u9 l10 u10 l11 u11 l12 u12
  refine ⟨bx_narP_ok (l := []) g.1, bx_nfP_ok h0_ (fvs := []) (by decide +kernel) g.2.1, ?_, ?_⟩
  · show rxITEX_1 S0 ws S_p (bx_val [(0, 0), (0, 0), (0, 0), (0, 0), (0, 0), (0, 0), (0, 0), (0, 0), (8, 0), (9, 0), (10, 1)] r_p 8) (bx_val [(0, 0), (0, 0), (0, 0), (0, 0), (0, 0), (0, 0), (0, 0), (0, 0), (8, 0), (9, 0), (10, 1)] r_p 9) (bx_val [(0, 0), (0, 0), (0, 0), (0, 0), (0, 0), (0, 0), (0, 0), (0, 0), (8, 0), (9, 0), (10, 1)] r_p 10)
    rw [bx_val_x (n := 8) (e := (8, 0)) h0_ rfl, bx_val_x (n := 9) (e := (9, 0)) h0_ rfl, bx_val_x (n := 10) (e := (10, 1)) h0_ rfl]
    exact g.2.2.1
  · show rxmTEX_1 S0 ws S_p (bx_val [(0, 0), (0, 0), (0, 0), (0, 0), (0, 0), (0, 0), (0, 0), (0, 0), (8, 0), (9, 0), (10, 1)] r_p 8) (bx_val [(0, 0), (0, 0), (0, 0), (0, 0), (0, 0), (0, 0), (0, 0), (0, 0), (8, 0), (9, 0), (10, 1)] r_p 9) (bx_val [(0, 0), (0, 0), (0, 0), (0, 0), (0, 0), (0, 0), (0, 0), (0, 0), (8, 0), (9, 0), (10, 1)] r_p 10) < rxmTEX_4 S0 ws S_p (r 8) (r 9) (r 10) (r 11) (r 12)
    rw [bx_val_x (n := 8) (e := (8, 0)) h0_ rfl, bx_val_x (n := 9) (e := (9, 0)) h0_ rfl, bx_val_x (n := 10) (e := (10, 1)) h0_ rfl, ← hr_ 8 (by decide), ← hr_ 9 (by decide), ← hr_ 10 (by decide), ← hr_ 11 (by decide), ← hr_ 12 (by decide)]
    exact g.2.2.2
theorem rxgCTEX {X : (Nat → Int → Int) → Prop} {S0 : Nat → Int → Int} {ws : List Int} (hP : rxPTEX S0 ws) : bx_allI (fun i q => rxUTEX q = true ∨ bx_allP (fun o => bx_obC rxL X S0 rxC289.2.2.1 (rxITEX S0 ws) (rxmTEX S0 ws) i q.1 o) q.2.1) 0 rxYTEX := ⟨Or.inr ⟨rxgTEX_0_0 hP, trivial⟩, Or.inr ⟨rxgTEX_1_0 hP, trivial⟩, Or.inr ⟨rxgTEX_2_0 hP, rxgTEX_2_1 hP, trivial⟩, Or.inl rfl, Or.inr ⟨rxgTEX_4_0 hP, rxgTEX_4_1 hP, rxgTEX_4_2 hP, trivial⟩, trivial⟩
theorem rxgETEX {X : (Nat → Int → Int) → Prop} {S0 : Nat → Int → Int} {ws : List Int} (hP : rxPTEX S0 ws) : bx_allI (fun i q => rxUTEX q = true ∨ bx_allP (fun E => bx_obE rxL X S0 rxC289.2.2.1 (rxITEX S0 ws) (rxPSTEX S0 ws) i q.1 E) q.2.2) 0 rxYTEX := ⟨Or.inr ⟨rxfTEX_0_0 hP, trivial⟩, Or.inr trivial, Or.inr ⟨rxfTEX_2_0 hP, trivial⟩, Or.inl rfl, Or.inr trivial, trivial⟩
theorem rxuTEX {PX : State → Prop} {Dg : va_G} {A : Nat → Prop} {ad xa : Nat → Nat} {l : Launch} {X : (Nat → Int → Int) → Prop} (hPX : rx_PXOK rxNW A PX) (hX : ∀ S S1 : Nat → Int → Int, X S → bx_same rxL (bx_mdl rxC289.2.2.1) S S1 → X S1) (hQISX : bx_ConP rxG rxNW rxAO PX Dg rxL X vwCl A ad l rxM288 rxCISX rxPISX rxPSISX) {S0 : Nat → Int → Int} {ws : List Int} (hP : rxPTEX S0 ws) : ∀ (i : Nat) (q : bx_HE), rxYTEX[i]? = some q → rxUTEX q = true → ∀ {p : Program} {e : Env} {R : Room} {s : State} {m : MethodId} {args : Array Value} {below : List Frame} {meth : Method} {c : Code} {Q : State → Prop} {H0 : Heap}, rx_Fr rxG rxNW rxAO PX p s m args meth c rxM289 → (∀ q, H0.size ≤ q → A q) → H0 = s.heap → rxM289.2.2.2.2.2.2.1 ≤ R.cells → rxM289.2.2.2.2.2.2.2 ≤ R.slots → rxC289.2.2.2.1 ≤ R.frames → rxC289.2.2.2.1 * 40 ≤ R.locals → bx_Step p l e R s m args below meth c Q Dg rxL X vwCl A xa H0 ad rxM289 rxYTEX (rxITEX S0 ws) (rxmTEX S0 ws) S0 rxC289.2.2.1 i q := by
  intro i q hq hus p e R s m args below meth c Q H0 hF hA hH0 hmc hms hd hdl
  match i, hq with
  | 0, hq =>
    cases hq
    exact absurd (show false = true from hus) Bool.false_ne_true
  | 1, hq =>
    cases hq
    exact absurd (show false = true from hus) Bool.false_ne_true
  | 2, hq =>
    cases hq
    exact absurd (show false = true from hus) Bool.false_ne_true
  | 3, hq =>
    cases hq
    exact rx_stepC (ins := .invokevirtual 420) (len := 3) (i_p := 4) (M_p := rxM288) (d := rxC289.2.2.2.1) (as := [.inr (3, (0, 480)), .inr (0, (11, 0))]) (t := []) (ct := rxCISX) hPX hF rfl hA hH0 hmc hms hd hdl (by decide +kernel) rfl rfl (by decide +kernel) (by decide +kernel) hQISX (by decide +kernel) rfl (Or.inr ⟨_, _, _, 1, rfl, rfl, by omega, rfl, rfl, rfl⟩) (rxsTEX_3 hP)
  | 4, hq =>
    cases hq
    exact absurd (show false = true from hus) Bool.false_ne_true
  | n + 5, hq => cases hq
theorem rxQTEX {PX : State → Prop} {Dg : va_G} {A : Nat → Prop} {ad xa : Nat → Nat} {l : Launch} {X : (Nat → Int → Int) → Prop} (hPX : rx_PXOK rxNW A PX) (hsl : ∀ s : State, PX s → ∀ o idx n : Nat, rxSl o idx = some n → ∃ tx : String, vk_R (rxNm o) idx tx (ad n) s)
    (hX : ∀ S S_p : Nat → Int → Int, X S → bx_same rxL (bx_mdl rxC289.2.2.1) S S_p → X S_p)
    (ih : ∀ (j2 : Nat) (ct2 : bx_Ct) (M2 : rx_Mt), ct2 ∈ rxCnE j2 → ct2.2.2.2.1 + 1 ≤ rxC289.2.2.2.1 → rxT.2.2.2.2.2 j2 = some M2 → bx_Con rxG rxNW rxAO PX Dg rxL X vwCl A ad l M2 ct2) (hQISX : bx_ConP rxG rxNW rxAO PX Dg rxL X vwCl A ad l rxM288 rxCISX rxPISX rxPSISX) : bx_ConP rxG rxNW rxAO PX Dg rxL X vwCl A ad l rxM289 rxC289 rxPTEX rxPSTEX :=
  rxQof (xa := xa) (Cn := rxCnE) (f := 30000) (j := 289) (tab := rxYTEX) (us := rxUTEX) hPX hsl hX ih rfl rxYcTEX rxITEX rxmTEX
    (fun S0 ws r I0 I ht0 ht as he he1 hX0 hI0 hP hs ha => by
      have e := he.symm.trans (show bx_ent0 rxNP rxC289.1 bx_I0 [] = some ([(0, 0), (0, 0), (0, 0), (0, 0), (0, 0), (0, 0), (0, 0), (0, 0), (0, 2), (0, 7), (0, 5), ((-1), 7), (0, 300), (0, 100)], [], [.inr (3, (0, 480)), .inr (0, (8, 0)), .inr (0, (9, 0)), .inr (0, (10, 0)), .inr (0, (11, 0)), .inr (0, (12, 0)), .inr (1, (13, 0))]) from rfl)
      cases e
      subst ha
      have h0 : r 0 = 0 := hs.1
      show rxITEX_0 S0 _ S0 (r 8) (r 9) (r 10) (r 11) (r 12) (r 13)
      refine ⟨⟨rfl, ?_⟩, trivial⟩
      simp only [List.map_cons, List.map_nil, bx_xv_ok h0]
      rfl)
    (fun S0 ws hP => rxuTEX (xa := xa) hPX hX hQISX hP) (fun S0 ws hP => rxgCTEX hP) (fun S0 ws hP => rxgETEX hP)
