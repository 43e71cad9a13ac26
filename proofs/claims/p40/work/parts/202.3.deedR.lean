/-! CONTRACT BY HAND, by program (wip/sim/genhand.py): DeadUnderstudiesModel.deed -/
def rxI194_0 (S0 : Nat → Int → Int) (ws : List Int) (S : Nat → Int → Int) (ra cb wc : Int) : Prop := S = S0 ∧ ws = [480, ra, cb, wc]
def rxm194_0 (S0 : Nat → Int → Int) (ws : List Int) (S : Nat → Int → Int) (ra cb wc : Int) : Nat := 100
def rxz194_0 : rx_Z := ([(0, 0), (0, 0), (0, 0), (0, 0), (0, 0), (0, 0), (0, 0), (0, 0), ((-2147483648), 2147483647), ((-2147483648), 2147483647), ((-2147483648), 2147483647)], [], [], 0, 0, 0, [(0, .inr (3, (0, 480))), (1, .inr (0, (8, 0))), (2, .inr (0, (9, 0))), (3, .inr (0, (10, 0)))], [])
def rxe194_0_0 : rx_End × List (Nat × Int × Int) := (([(0, 0), (0, 0), (0, 0), (0, 0), (0, 0), (0, 0), (0, 0), (0, 0), ((-2147483648), (-1)), ((-2147483648), 2147483647), ((-2147483648), 2147483647), ((-2147483648), 2147483647), ((-2147483648), 2147483647)], [], [(((0, 0), 1851192626986356797625047037163794926384839479479878431390892035000000), .inr (0, (12, 0))), (((0, 481), 1), .inr (0, (12, 0))), (((0, 0), 1851192626986356797625047037163794926384839479479878431390892032000000), .inr (0, (11, 0))), (((0, 480), 2), .inr (3, (0, 481))), (((0, 0), 1851192626986356797625047037163794926384839479479878431390302211000000), .inr (0, (0, (-1)))), (((0, 480), 1), .inr (0, (0, (-1)))), (((0, 0), 1851192626986356797424340330377019318111018015026043177836478467000000), .inr (0, (0, 0))), (((0, 480), 0), .inr (0, (0, 0)))], some (.inr (0, (0, (-1))))), [])
def rxe194_0_1 : rx_End × List (Nat × Int × Int) := (([(0, 0), (0, 0), (0, 0), (0, 0), (0, 0), (0, 0), (0, 0), (0, 0), (4, 2147483647), ((-2147483648), 2147483647), ((-2147483648), 2147483647), ((-2147483648), 2147483647), ((-2147483648), 2147483647)], [], [(((0, 0), 1851192626986356797625047037163794926384839479479878431390892035000000), .inr (0, (12, 0))), (((0, 481), 1), .inr (0, (12, 0))), (((0, 0), 1851192626986356797625047037163794926384839479479878431390892032000000), .inr (0, (11, 0))), (((0, 480), 2), .inr (3, (0, 481))), (((0, 0), 1851192626986356797625047037163794926384839479479878431390302211000000), .inr (0, (0, (-1)))), (((0, 480), 1), .inr (0, (0, (-1)))), (((0, 0), 1851192626986356797424340330377019318111018015026043177836478467000000), .inr (0, (0, 0))), (((0, 480), 0), .inr (0, (0, 0)))], some (.inr (0, (0, (-1))))), [])
def rxe194_0_2 : rx_End × List (Nat × Int × Int) := (([(0, 0), (0, 0), (0, 0), (0, 0), (0, 0), (0, 0), (0, 0), (0, 0), (0, 3), ((-2147483648), (-1)), ((-2147483648), 2147483647), ((-2147483648), 2147483647), ((-2147483648), 2147483647)], [], [(((0, 0), 1851192626986356797625047037163794926384839479479878431390892035000000), .inr (0, (12, 0))), (((0, 481), 1), .inr (0, (12, 0))), (((0, 0), 1851192626986356797625047037163794926384839479479878431390892032000000), .inr (0, (11, 0))), (((0, 480), 2), .inr (3, (0, 481))), (((0, 0), 1851192626986356797625047037163794926384839479479878431390302211000000), .inr (0, (0, (-1)))), (((0, 480), 1), .inr (0, (0, (-1)))), (((0, 0), 1851192626986356797424340330377019318111018015026043177836478467000000), .inr (0, (0, 0))), (((0, 480), 0), .inr (0, (0, 0)))], some (.inr (0, (0, (-1))))), [])
def rxe194_0_3 : rx_End × List (Nat × Int × Int) := (([(0, 0), (0, 0), (0, 0), (0, 0), (0, 0), (0, 0), (0, 0), (0, 0), (0, 3), (6, 2147483647), ((-2147483648), 2147483647), ((-2147483648), 2147483647), ((-2147483648), 2147483647)], [], [(((0, 0), 1851192626986356797625047037163794926384839479479878431390892035000000), .inr (0, (12, 0))), (((0, 481), 1), .inr (0, (12, 0))), (((0, 0), 1851192626986356797625047037163794926384839479479878431390892032000000), .inr (0, (11, 0))), (((0, 480), 2), .inr (3, (0, 481))), (((0, 0), 1851192626986356797625047037163794926384839479479878431390302211000000), .inr (0, (0, (-1)))), (((0, 480), 1), .inr (0, (0, (-1)))), (((0, 0), 1851192626986356797424340330377019318111018015026043177836478467000000), .inr (0, (0, 0))), (((0, 480), 0), .inr (0, (0, 0)))], some (.inr (0, (0, (-1))))), [])
def rxe194_0_4 : rx_End × List (Nat × Int × Int) := (([(0, 0), (0, 0), (0, 0), (0, 0), (0, 0), (0, 0), (0, 0), (0, 0), (0, 3), (0, 5), (0, 9), (12, 12), ((-2147483648), 2147483647), ((-2147483648), 2147483647)], [], [(((0, 0), 1851192626986356798427873864310897359480125337295219445606187011000000), .inr (0, (13, 0))), (((0, 481), 5), .inr (0, (13, 0))), (((0, 0), 1851192626986356798427873864310897359480125337295219445606187008000000), .inr (0, (12, 0))), (((0, 480), 2), .inr (3, (0, 481))), (((0, 0), 1851192626986356797625047037163794926384839479479878431390302211000000), .inr (0, (0, (-5)))), (((0, 480), 1), .inr (0, (0, (-5)))), (((0, 0), 1851192626986356798628580571097672967753946801749054699160600576000000), .inr (0, (11, 0))), (((0, 482), 6), .inr (0, (11, 0))), (((0, 480), 3), .inr (3, (0, 482))), (((0, 0), 1851192626986356797424340330377019318111018015026043177836478467000000), .inr (0, (0, 0))), (((0, 480), 0), .inr (0, (0, 0)))], some (.inr (0, (0, (-5))))), [])
def rxe194_0_5 : rx_End × List (Nat × Int × Int) := (([(0, 0), (0, 0), (0, 0), (0, 0), (0, 0), (0, 0), (0, 0), (0, 0), (0, 3), (0, 5), (0, 9), (0, 11), (0, 33), (0, 33), (0, 33)], [(7, (14, 0), (11, 0)), (7, (13, 0), (11, 0)), (7, (12, 0), (11, 0)), (3, (11, 0), (0, 12))], [(((0, 0), 1851192626986356797625047037163794926384839479479878431390302211000000), .inr (0, (0, 0))), (((0, 480), 1), .inr (0, (0, 0))), (((0, 0), 1851192626986356798628580571097672967753946801749054699160600579000000), .inr (0, (11, 1))), (((0, 482), 6), .inr (0, (11, 1))), (((0, 0), 1851192626986356946750173055316303912080583953880008224677167107000000), .inr (0, (10, 0))), (((0, 0), 1851192626986356946549463285988226015360591319054706085209440259000000), .inr (0, (9, 0))), (((0, 0), 1851192626986356946348753516660148118640598684229403945741713411000000), .inr (0, (8, 0))), (((0, 0), 1851192626986356798628580571097672967753946801749054699160600576000000), .inr (0, (11, 0))), (((0, 480), 3), .inr (3, (0, 482))), (((0, 0), 1851192626986356797424340330377019318111018015026043177836478467000000), .inr (0, (0, 0))), (((0, 480), 0), .inr (0, (0, 0)))], some (.inr (0, (11, 1)))), [])
def rxe194_0_6 : rx_End × List (Nat × Int × Int) := (([(0, 0), (0, 0), (0, 0), (0, 0), (0, 0), (0, 0), (0, 0), (0, 0), (0, 3), (0, 5), (10, 2147483647), ((-2147483648), 2147483647), ((-2147483648), 2147483647)], [], [(((0, 0), 1851192626986356797625047037163794926384839479479878431390892035000000), .inr (0, (12, 0))), (((0, 481), 1), .inr (0, (12, 0))), (((0, 0), 1851192626986356797625047037163794926384839479479878431390892032000000), .inr (0, (11, 0))), (((0, 480), 2), .inr (3, (0, 481))), (((0, 0), 1851192626986356797625047037163794926384839479479878431390302211000000), .inr (0, (0, (-1)))), (((0, 480), 1), .inr (0, (0, (-1)))), (((0, 0), 1851192626986356797424340330377019318111018015026043177836478467000000), .inr (0, (0, 0))), (((0, 480), 0), .inr (0, (0, 0)))], some (.inr (0, (0, (-1))))), [])
def rxe194_0_7 : rx_End × List (Nat × Int × Int) := (([(0, 0), (0, 0), (0, 0), (0, 0), (0, 0), (0, 0), (0, 0), (0, 0), (0, 3), (0, 5), ((-2147483648), (-1)), ((-2147483648), 2147483647), ((-2147483648), 2147483647)], [], [(((0, 0), 1851192626986356797625047037163794926384839479479878431390892035000000), .inr (0, (12, 0))), (((0, 481), 1), .inr (0, (12, 0))), (((0, 0), 1851192626986356797625047037163794926384839479479878431390892032000000), .inr (0, (11, 0))), (((0, 480), 2), .inr (3, (0, 481))), (((0, 0), 1851192626986356797625047037163794926384839479479878431390302211000000), .inr (0, (0, (-1)))), (((0, 480), 1), .inr (0, (0, (-1)))), (((0, 0), 1851192626986356797424340330377019318111018015026043177836478467000000), .inr (0, (0, 0))), (((0, 480), 0), .inr (0, (0, 0)))], some (.inr (0, (0, (-1))))), [])
def rxY194 : List bx_HE := [(rxz194_0, [], [rxe194_0_0, rxe194_0_1, rxe194_0_2, rxe194_0_3, rxe194_0_4, rxe194_0_5, rxe194_0_6, rxe194_0_7])]
def rxU194 (q : bx_HE) : Bool := false
def rxYB194 : bx_B := (rxV, rxNP, rxDmf, bx_mdH rxC194.2.2.1)
set_option maxRecDepth 100000 in
theorem rxYc194 : bx_chkH rxYB194 rxM194 rxC194 rxY194 (rxU194, fun cut z => rx_ex2 (rxCT rxYB194 rxCnE) cut 30000 rxC194.2.2.2.1 194 z) = true := by decide +kernel
def rxI194 (S0 : Nat → Int → Int) (ws : List Int) (i : Nat) : bx_SP := fun S r => match i with | 0 => rxI194_0 S0 ws S (r 8) (r 9) (r 10) | _ => False
def rxm194 (S0 : Nat → Int → Int) (ws : List Int) (i : Nat) (S : Nat → Int → Int) (r : Nat → Int) : Nat := match i with | 0 => rxm194_0 S0 ws S (r 8) (r 9) (r 10) | _ => 0
def rxP194 (S0 : Nat → Int → Int) (ws : List Int) : Prop := True
def rxPS194 (S0 : Nat → Int → Int) (ws : List Int) (S : Nat → Int → Int) (w : Option Int) : Prop := ∃ ra cb wc : Int, ws = [480, ra, cb, wc] ∧ (((ra < 0 ∨ 3 < ra ∨ cb < 0 ∨ 5 < cb ∨ wc < 0 ∨ 9 < wc) ∧ w = some (-1) ∧ (∀ j : Int, S 482 j = S0 482 j)) ∨ (0 ≤ ra ∧ ra ≤ 3 ∧ 0 ≤ cb ∧ cb ≤ 5 ∧ 0 ≤ wc ∧ wc ≤ 9 ∧ 12 ≤ S0 482 6 ∧ w = some (-5) ∧ (∀ j : Int, S 482 j = S0 482 j)) ∨ (0 ≤ ra ∧ ra ≤ 3 ∧ 0 ≤ cb ∧ cb ≤ 5 ∧ 0 ≤ wc ∧ wc ≤ 9 ∧ S0 482 6 < 12 ∧ w = some (S0 482 6 + 1) ∧ S 482 6 = S0 482 6 + 1))
theorem rxd194_0_0 {S0 : Nat → Int → Int} {ws : List Int} {S : Nat → Int → Int} {ra cb wc x11 x12 : Int} (hP : rxP194 S0 ws) (hin : bx_same rxL (bx_mdl rxC194.2.2.1) S0 S) (hin2 : bx_same rxL (bx_mdl rxC194.2.2.1) S (bx_up (bx_up (bx_up S 480 0 0) 480 1 ((-1))) 481 1 x12)) (I0 : bx_Inv rxL S) (I1 : bx_Inv rxL (bx_up (bx_up (bx_up S 480 0 0) 480 1 ((-1))) 481 1 x12)) (hinv : rxI194_0 S0 ws S ra cb wc) (l8 : (-2147483648) ≤ ra) (u8 : ra ≤ (-1)) (l9 : (-2147483648) ≤ cb) (u9 : cb ≤ 2147483647) (l10 : (-2147483648) ≤ wc) (u10 : wc ≤ 2147483647) (l11 : (-2147483648) ≤ x11) (u11 : x11 ≤ 2147483647) (l12 : (-2147483648) ≤ x12) (u12 : x12 ≤ 2147483647) (e1 : (bx_up (bx_up S 480 0 0) 480 1 ((-1))) 481 1 = x11) : (True) ∧ rxPS194 S0 ws (bx_up (bx_up (bx_up S 480 0 0) 480 1 ((-1))) 481 1 x12) (some ((-1))) := by
  obtain ⟨rfl, hw⟩ := hinv
  have e1 := (show _ = S 481 1 from (bx_up_ne (by omega)).trans ((bx_up_ne (by omega)))).symm.trans e1
  refine ⟨trivial, ra, cb, wc, hw, Or.inl (⟨?_, ?_, fun j => (bx_up_ne (by omega)).trans ((bx_up_ne (by omega)).trans ((bx_up_ne (by omega))))⟩)⟩ <;> first | omega | exact hin2 | exact congrArg some (by omega) | (intro i i0 i1; simp only [bx_up]; (repeat' split) <;> first | rfl | omega | (simp_all; done) | (simp_all; omega)) | ((repeat (first | rw [bx_up_at] | rw [bx_up_ne (by omega)])); omega) | exact True.intro
theorem rxf194_0_0 {X : (Nat → Int → Int) → Prop} {S0 : Nat → Int → Int} {ws : List Int} (hP : rxP194 S0 ws) : bx_obE rxL X S0 rxC194.2.2.1 (rxI194 S0 ws) (rxPS194 S0 ws) 0 rxz194_0 rxe194_0_0 := by
  intro S S' r r' hinv hX hin hsm_ hseg
  obtain ⟨I0, I1, h0_, hr_, b_, f_, d_⟩ := bx_cl (evs := [(1, (0, 481), (0, 1), .inr (0, (12, 0))), (0, (0, 481), (0, 1), .inr (0, (11, 0))), (1, (0, 480), (0, 1), .inr (0, (0, (-1)))), (1, (0, 480), (0, 0), .inr (0, (0, 0)))]) (fvs := []) hseg (by decide +kernel) (by decide +kernel)
  have hinv : rxI194_0 S0 ws S (r 8) (r 9) (r 10) := hinv
  rw [← hr_ 8 (by decide), ← hr_ 9 (by decide), ← hr_ 10 (by decide)] at hinv
  obtain ⟨⟨l8, u8⟩, ⟨l9, u9⟩, ⟨l10, u10⟩, ⟨l11, u11⟩, ⟨l12, u12⟩, -⟩ := b_
  obtain ⟨T0, ⟨e1, ⟨T2, ⟨T3, w_, w3⟩, w2⟩⟩, w0⟩ := d_
  subst w0
  subst w2
  subst w3
  subst w_
  have g := rxd194_0_0 hP hin hsm_ I0 I1 hinv l8 u8 l9 u9 l10 u10 l11 u11 l12 u12 e1
  refine ⟨bx_narP_ok (l := []) g.1, ?_⟩
  show rxPS194 S0 ws (bx_up (bx_up (bx_up T3 480 (0) (0)) 480 (1) ((-1))) 481 (1) (r' 12)) (some (bx_num r' (.inr (0, (0, (-1))))))
  rw [bx_xv_ok h0_]
  exact g.2
theorem rxd194_0_1 {S0 : Nat → Int → Int} {ws : List Int} {S : Nat → Int → Int} {ra cb wc x11 x12 : Int} (hP : rxP194 S0 ws) (hin : bx_same rxL (bx_mdl rxC194.2.2.1) S0 S) (hin2 : bx_same rxL (bx_mdl rxC194.2.2.1) S (bx_up (bx_up (bx_up S 480 0 0) 480 1 ((-1))) 481 1 x12)) (I0 : bx_Inv rxL S) (I1 : bx_Inv rxL (bx_up (bx_up (bx_up S 480 0 0) 480 1 ((-1))) 481 1 x12)) (hinv : rxI194_0 S0 ws S ra cb wc) (l8 : 4 ≤ ra) (u8 : ra ≤ 2147483647) (l9 : (-2147483648) ≤ cb) (u9 : cb ≤ 2147483647) (l10 : (-2147483648) ≤ wc) (u10 : wc ≤ 2147483647) (l11 : (-2147483648) ≤ x11) (u11 : x11 ≤ 2147483647) (l12 : (-2147483648) ≤ x12) (u12 : x12 ≤ 2147483647) (e1 : (bx_up (bx_up S 480 0 0) 480 1 ((-1))) 481 1 = x11) : (True) ∧ rxPS194 S0 ws (bx_up (bx_up (bx_up S 480 0 0) 480 1 ((-1))) 481 1 x12) (some ((-1))) := by
  obtain ⟨rfl, hw⟩ := hinv
  have e1 := (show _ = S 481 1 from (bx_up_ne (by omega)).trans ((bx_up_ne (by omega)))).symm.trans e1
  refine ⟨trivial, ra, cb, wc, hw, Or.inl (⟨?_, ?_, fun j => (bx_up_ne (by omega)).trans ((bx_up_ne (by omega)).trans ((bx_up_ne (by omega))))⟩)⟩ <;> first | omega | exact hin2 | exact congrArg some (by omega) | (intro i i0 i1; simp only [bx_up]; (repeat' split) <;> first | rfl | omega | (simp_all; done) | (simp_all; omega)) | ((repeat (first | rw [bx_up_at] | rw [bx_up_ne (by omega)])); omega) | exact True.intro
theorem rxf194_0_1 {X : (Nat → Int → Int) → Prop} {S0 : Nat → Int → Int} {ws : List Int} (hP : rxP194 S0 ws) : bx_obE rxL X S0 rxC194.2.2.1 (rxI194 S0 ws) (rxPS194 S0 ws) 0 rxz194_0 rxe194_0_1 := by
  intro S S' r r' hinv hX hin hsm_ hseg
  obtain ⟨I0, I1, h0_, hr_, b_, f_, d_⟩ := bx_cl (evs := [(1, (0, 481), (0, 1), .inr (0, (12, 0))), (0, (0, 481), (0, 1), .inr (0, (11, 0))), (1, (0, 480), (0, 1), .inr (0, (0, (-1)))), (1, (0, 480), (0, 0), .inr (0, (0, 0)))]) (fvs := []) hseg (by decide +kernel) (by decide +kernel)
  have hinv : rxI194_0 S0 ws S (r 8) (r 9) (r 10) := hinv
  rw [← hr_ 8 (by decide), ← hr_ 9 (by decide), ← hr_ 10 (by decide)] at hinv
  obtain ⟨⟨l8, u8⟩, ⟨l9, u9⟩, ⟨l10, u10⟩, ⟨l11, u11⟩, ⟨l12, u12⟩, -⟩ := b_
  obtain ⟨T0, ⟨e1, ⟨T2, ⟨T3, w_, w3⟩, w2⟩⟩, w0⟩ := d_
  subst w0
  subst w2
  subst w3
  subst w_
  have g := rxd194_0_1 hP hin hsm_ I0 I1 hinv l8 u8 l9 u9 l10 u10 l11 u11 l12 u12 e1
  refine ⟨bx_narP_ok (l := []) g.1, ?_⟩
  show rxPS194 S0 ws (bx_up (bx_up (bx_up T3 480 (0) (0)) 480 (1) ((-1))) 481 (1) (r' 12)) (some (bx_num r' (.inr (0, (0, (-1))))))
  rw [bx_xv_ok h0_]
  exact g.2
theorem rxd194_0_2 {S0 : Nat → Int → Int} {ws : List Int} {S : Nat → Int → Int} {ra cb wc x11 x12 : Int} (hP : rxP194 S0 ws) (hin : bx_same rxL (bx_mdl rxC194.2.2.1) S0 S) (hin2 : bx_same rxL (bx_mdl rxC194.2.2.1) S (bx_up (bx_up (bx_up S 480 0 0) 480 1 ((-1))) 481 1 x12)) (I0 : bx_Inv rxL S) (I1 : bx_Inv rxL (bx_up (bx_up (bx_up S 480 0 0) 480 1 ((-1))) 481 1 x12)) (hinv : rxI194_0 S0 ws S ra cb wc) (l8 : 0 ≤ ra) (u8 : ra ≤ 3) (l9 : (-2147483648) ≤ cb) (u9 : cb ≤ (-1)) (l10 : (-2147483648) ≤ wc) (u10 : wc ≤ 2147483647) (l11 : (-2147483648) ≤ x11) (u11 : x11 ≤ 2147483647) (l12 : (-2147483648) ≤ x12) (u12 : x12 ≤ 2147483647) (e1 : (bx_up (bx_up S 480 0 0) 480 1 ((-1))) 481 1 = x11) : (True) ∧ rxPS194 S0 ws (bx_up (bx_up (bx_up S 480 0 0) 480 1 ((-1))) 481 1 x12) (some ((-1))) := by
  obtain ⟨rfl, hw⟩ := hinv
  have e1 := (show _ = S 481 1 from (bx_up_ne (by omega)).trans ((bx_up_ne (by omega)))).symm.trans e1
  refine ⟨trivial, ra, cb, wc, hw, Or.inl (⟨?_, ?_, fun j => (bx_up_ne (by omega)).trans ((bx_up_ne (by omega)).trans ((bx_up_ne (by omega))))⟩)⟩ <;> first | omega | exact hin2 | exact congrArg some (by omega) | (intro i i0 i1; simp only [bx_up]; (repeat' split) <;> first | rfl | omega | (simp_all; done) | (simp_all; omega)) | ((repeat (first | rw [bx_up_at] | rw [bx_up_ne (by omega)])); omega) | exact True.intro
theorem rxf194_0_2 {X : (Nat → Int → Int) → Prop} {S0 : Nat → Int → Int} {ws : List Int} (hP : rxP194 S0 ws) : bx_obE rxL X S0 rxC194.2.2.1 (rxI194 S0 ws) (rxPS194 S0 ws) 0 rxz194_0 rxe194_0_2 := by
  intro S S' r r' hinv hX hin hsm_ hseg
  obtain ⟨I0, I1, h0_, hr_, b_, f_, d_⟩ := bx_cl (evs := [(1, (0, 481), (0, 1), .inr (0, (12, 0))), (0, (0, 481), (0, 1), .inr (0, (11, 0))), (1, (0, 480), (0, 1), .inr (0, (0, (-1)))), (1, (0, 480), (0, 0), .inr (0, (0, 0)))]) (fvs := []) hseg (by decide +kernel) (by decide +kernel)
  have hinv : rxI194_0 S0 ws S (r 8) (r 9) (r 10) := hinv
  rw [← hr_ 8 (by decide), ← hr_ 9 (by decide), ← hr_ 10 (by decide)] at hinv
  obtain ⟨⟨l8, u8⟩, ⟨l9, u9⟩, ⟨l10, u10⟩, ⟨l11, u11⟩, ⟨l12, u12⟩, -⟩ := b_
  obtain ⟨T0, ⟨e1, ⟨T2, ⟨T3, w_, w3⟩, w2⟩⟩, w0⟩ := d_
  subst w0
  subst w2
  subst w3
  subst w_
  have g := rxd194_0_2 hP hin hsm_ I0 I1 hinv l8 u8 l9 u9 l10 u10 l11 u11 l12 u12 e1
  refine ⟨bx_narP_ok (l := []) g.1, ?_⟩
  show rxPS194 S0 ws (bx_up (bx_up (bx_up T3 480 (0) (0)) 480 (1) ((-1))) 481 (1) (r' 12)) (some (bx_num r' (.inr (0, (0, (-1))))))
  rw [bx_xv_ok h0_]
  exact g.2
theorem rxd194_0_3 {S0 : Nat → Int → Int} {ws : List Int} {S : Nat → Int → Int} {ra cb wc x11 x12 : Int} (hP : rxP194 S0 ws) (hin : bx_same rxL (bx_mdl rxC194.2.2.1) S0 S) (hin2 : bx_same rxL (bx_mdl rxC194.2.2.1) S (bx_up (bx_up (bx_up S 480 0 0) 480 1 ((-1))) 481 1 x12)) (I0 : bx_Inv rxL S) (I1 : bx_Inv rxL (bx_up (bx_up (bx_up S 480 0 0) 480 1 ((-1))) 481 1 x12)) (hinv : rxI194_0 S0 ws S ra cb wc) (l8 : 0 ≤ ra) (u8 : ra ≤ 3) (l9 : 6 ≤ cb) (u9 : cb ≤ 2147483647) (l10 : (-2147483648) ≤ wc) (u10 : wc ≤ 2147483647) (l11 : (-2147483648) ≤ x11) (u11 : x11 ≤ 2147483647) (l12 : (-2147483648) ≤ x12) (u12 : x12 ≤ 2147483647) (e1 : (bx_up (bx_up S 480 0 0) 480 1 ((-1))) 481 1 = x11) : (True) ∧ rxPS194 S0 ws (bx_up (bx_up (bx_up S 480 0 0) 480 1 ((-1))) 481 1 x12) (some ((-1))) := by
  obtain ⟨rfl, hw⟩ := hinv
  have e1 := (show _ = S 481 1 from (bx_up_ne (by omega)).trans ((bx_up_ne (by omega)))).symm.trans e1
  refine ⟨trivial, ra, cb, wc, hw, Or.inl (⟨?_, ?_, fun j => (bx_up_ne (by omega)).trans ((bx_up_ne (by omega)).trans ((bx_up_ne (by omega))))⟩)⟩ <;> first | omega | exact hin2 | exact congrArg some (by omega) | (intro i i0 i1; simp only [bx_up]; (repeat' split) <;> first | rfl | omega | (simp_all; done) | (simp_all; omega)) | ((repeat (first | rw [bx_up_at] | rw [bx_up_ne (by omega)])); omega) | exact True.intro
theorem rxf194_0_3 {X : (Nat → Int → Int) → Prop} {S0 : Nat → Int → Int} {ws : List Int} (hP : rxP194 S0 ws) : bx_obE rxL X S0 rxC194.2.2.1 (rxI194 S0 ws) (rxPS194 S0 ws) 0 rxz194_0 rxe194_0_3 := by
  intro S S' r r' hinv hX hin hsm_ hseg
  obtain ⟨I0, I1, h0_, hr_, b_, f_, d_⟩ := bx_cl (evs := [(1, (0, 481), (0, 1), .inr (0, (12, 0))), (0, (0, 481), (0, 1), .inr (0, (11, 0))), (1, (0, 480), (0, 1), .inr (0, (0, (-1)))), (1, (0, 480), (0, 0), .inr (0, (0, 0)))]) (fvs := []) hseg (by decide +kernel) (by decide +kernel)
  have hinv : rxI194_0 S0 ws S (r 8) (r 9) (r 10) := hinv
  rw [← hr_ 8 (by decide), ← hr_ 9 (by decide), ← hr_ 10 (by decide)] at hinv
  obtain ⟨⟨l8, u8⟩, ⟨l9, u9⟩, ⟨l10, u10⟩, ⟨l11, u11⟩, ⟨l12, u12⟩, -⟩ := b_
  obtain ⟨T0, ⟨e1, ⟨T2, ⟨T3, w_, w3⟩, w2⟩⟩, w0⟩ := d_
  subst w0
  subst w2
  subst w3
  subst w_
  have g := rxd194_0_3 hP hin hsm_ I0 I1 hinv l8 u8 l9 u9 l10 u10 l11 u11 l12 u12 e1
  refine ⟨bx_narP_ok (l := []) g.1, ?_⟩
  show rxPS194 S0 ws (bx_up (bx_up (bx_up T3 480 (0) (0)) 480 (1) ((-1))) 481 (1) (r' 12)) (some (bx_num r' (.inr (0, (0, (-1))))))
  rw [bx_xv_ok h0_]
  exact g.2
theorem rxd194_0_4 {S0 : Nat → Int → Int} {ws : List Int} {S : Nat → Int → Int} {ra cb wc x11 x12 x13 : Int} (hP : rxP194 S0 ws) (hin : bx_same rxL (bx_mdl rxC194.2.2.1) S0 S) (hin2 : bx_same rxL (bx_mdl rxC194.2.2.1) S (bx_up (bx_up (bx_up S 480 0 0) 480 1 ((-5))) 481 5 x13)) (I0 : bx_Inv rxL S) (I1 : bx_Inv rxL (bx_up (bx_up (bx_up S 480 0 0) 480 1 ((-5))) 481 5 x13)) (hinv : rxI194_0 S0 ws S ra cb wc) (l8 : 0 ≤ ra) (u8 : ra ≤ 3) (l9 : 0 ≤ cb) (u9 : cb ≤ 5) (l10 : 0 ≤ wc) (u10 : wc ≤ 9) (l11 : 12 ≤ x11) (u11 : x11 ≤ 12) (l12 : (-2147483648) ≤ x12) (u12 : x12 ≤ 2147483647) (l13 : (-2147483648) ≤ x13) (u13 : x13 ≤ 2147483647) (e3 : (bx_up S 480 0 0) 482 6 = x11) (e1 : (bx_up (bx_up S 480 0 0) 480 1 ((-5))) 481 5 = x12) : (True) ∧ rxPS194 S0 ws (bx_up (bx_up (bx_up S 480 0 0) 480 1 ((-5))) 481 5 x13) (some ((-5))) := by
  obtain ⟨rfl, hw⟩ := hinv
  have e3 := (show _ = S 482 6 from (bx_up_ne (by omega))).symm.trans e3
  have e1 := (show _ = S 481 5 from (bx_up_ne (by omega)).trans ((bx_up_ne (by omega)))).symm.trans e1
  refine ⟨trivial, ra, cb, wc, hw, Or.inr (Or.inl (⟨?_, ?_, ?_, ?_, ?_, ?_, ?_, ?_, fun j => (bx_up_ne (by omega)).trans ((bx_up_ne (by omega)).trans ((bx_up_ne (by omega))))⟩))⟩ <;> first | omega | exact hin2 | exact congrArg some (by omega) | (intro i i0 i1; simp only [bx_up]; (repeat' split) <;> first | rfl | omega | (simp_all; done) | (simp_all; omega)) | ((repeat (first | rw [bx_up_at] | rw [bx_up_ne (by omega)])); omega) | exact True.intro
theorem rxf194_0_4 {X : (Nat → Int → Int) → Prop} {S0 : Nat → Int → Int} {ws : List Int} (hP : rxP194 S0 ws) : bx_obE rxL X S0 rxC194.2.2.1 (rxI194 S0 ws) (rxPS194 S0 ws) 0 rxz194_0 rxe194_0_4 := by
  intro S S' r r' hinv hX hin hsm_ hseg
  obtain ⟨I0, I1, h0_, hr_, b_, f_, d_⟩ := bx_cl (evs := [(1, (0, 481), (0, 5), .inr (0, (13, 0))), (0, (0, 481), (0, 5), .inr (0, (12, 0))), (1, (0, 480), (0, 1), .inr (0, (0, (-5)))), (0, (0, 482), (0, 6), .inr (0, (11, 0))), (1, (0, 480), (0, 0), .inr (0, (0, 0)))]) (fvs := []) hseg (by decide +kernel) (by decide +kernel)
  have hinv : rxI194_0 S0 ws S (r 8) (r 9) (r 10) := hinv
  rw [← hr_ 8 (by decide), ← hr_ 9 (by decide), ← hr_ 10 (by decide)] at hinv
  obtain ⟨⟨l8, u8⟩, ⟨l9, u9⟩, ⟨l10, u10⟩, ⟨l11, u11⟩, ⟨l12, u12⟩, ⟨l13, u13⟩, -⟩ := b_
  obtain ⟨T0, ⟨e1, ⟨T2, ⟨e3, ⟨T4, w_, w4⟩⟩, w2⟩⟩, w0⟩ := d_
  subst w0
  subst w2
  subst w4
  subst w_
  have g := rxd194_0_4 hP hin hsm_ I0 I1 hinv l8 u8 l9 u9 l10 u10 l11 u11 l12 u12 l13 u13 e3 e1
  refine ⟨bx_narP_ok (l := []) g.1, ?_⟩
  show rxPS194 S0 ws (bx_up (bx_up (bx_up T4 480 (0) (0)) 480 (1) ((-5))) 481 (5) (r' 13)) (some (bx_num r' (.inr (0, (0, (-5))))))
  rw [bx_xv_ok h0_]
  exact g.2
theorem rxd194_0_5 {S0 : Nat → Int → Int} {ws : List Int} {S : Nat → Int → Int} {ra cb wc x11 x12 x13 x14 : Int} (hP : rxP194 S0 ws) (hin : bx_same rxL (bx_mdl rxC194.2.2.1) S0 S) (hin2 : bx_same rxL (bx_mdl rxC194.2.2.1) S (bx_up (bx_up (bx_up (bx_up (bx_up (bx_up S 480 0 0) 482 (x12 + 742) ra) 482 (x13 + 743) cb) 482 (x14 + 744) wc) 482 6 (x11 + 1)) 480 1 0)) (I0 : bx_Inv rxL S) (I1 : bx_Inv rxL (bx_up (bx_up (bx_up (bx_up (bx_up (bx_up S 480 0 0) 482 (x12 + 742) ra) 482 (x13 + 743) cb) 482 (x14 + 744) wc) 482 6 (x11 + 1)) 480 1 0)) (hinv : rxI194_0 S0 ws S ra cb wc) (l8 : 0 ≤ ra) (u8 : ra ≤ 3) (l9 : 0 ≤ cb) (u9 : cb ≤ 5) (l10 : 0 ≤ wc) (u10 : wc ≤ 9) (l11 : 0 ≤ x11) (u11 : x11 ≤ 11) (l12 : 0 ≤ x12) (u12 : x12 ≤ 33) (l13 : 0 ≤ x13) (u13 : x13 ≤ 33) (l14 : 0 ≤ x14) (u14 : x14 ≤ 33) (f0 : x14 = 3 * (x11)) (f1 : x13 = 3 * (x11)) (f2 : x12 = 3 * (x11)) (f3 : x11 ≠ 12) (e5 : (bx_up S 480 0 0) 482 6 = x11) : (True) ∧ rxPS194 S0 ws (bx_up (bx_up (bx_up (bx_up (bx_up (bx_up S 480 0 0) 482 (x12 + 742) ra) 482 (x13 + 743) cb) 482 (x14 + 744) wc) 482 6 (x11 + 1)) 480 1 0) (some (x11 + 1)) := by
  obtain ⟨rfl, hw⟩ := hinv
  have e5 := (show _ = S 482 6 from (bx_up_ne (by omega))).symm.trans e5
  refine ⟨trivial, ra, cb, wc, hw, Or.inr (Or.inr (⟨?_, ?_, ?_, ?_, ?_, ?_, ?_, ?_, ((bx_up_ne (by omega)).trans (bx_up_at)).trans (by omega)⟩))⟩ <;> first | omega | exact hin2 | exact congrArg some (by omega) | (intro i i0 i1; simp only [bx_up]; (repeat' split) <;> first | rfl | omega | (simp_all; done) | (simp_all; omega)) | ((repeat (first | rw [bx_up_at] | rw [bx_up_ne (by omega)])); omega) | exact True.intro
theorem rxf194_0_5 {X : (Nat → Int → Int) → Prop} {S0 : Nat → Int → Int} {ws : List Int} (hP : rxP194 S0 ws) : bx_obE rxL X S0 rxC194.2.2.1 (rxI194 S0 ws) (rxPS194 S0 ws) 0 rxz194_0 rxe194_0_5 := by
  intro S S' r r' hinv hX hin hsm_ hseg
  obtain ⟨I0, I1, h0_, hr_, b_, f_, d_⟩ := bx_cl (evs := [(1, (0, 480), (0, 1), .inr (0, (0, 0))), (1, (0, 482), (0, 6), .inr (0, (11, 1))), (1, (0, 482), (14, 744), .inr (0, (10, 0))), (1, (0, 482), (13, 743), .inr (0, (9, 0))), (1, (0, 482), (12, 742), .inr (0, (8, 0))), (0, (0, 482), (0, 6), .inr (0, (11, 0))), (1, (0, 480), (0, 0), .inr (0, (0, 0)))]) (fvs := [(4, (14, 0), (11, 0), (0, 3)), (4, (13, 0), (11, 0), (0, 3)), (4, (12, 0), (11, 0), (0, 3)), (3, (11, 0), (0, 12), (0, 0))]) hseg (by decide +kernel) (by decide +kernel)
  have hinv : rxI194_0 S0 ws S (r 8) (r 9) (r 10) := hinv
  rw [← hr_ 8 (by decide), ← hr_ 9 (by decide), ← hr_ 10 (by decide)] at hinv
  obtain ⟨⟨l8, u8⟩, ⟨l9, u9⟩, ⟨l10, u10⟩, ⟨l11, u11⟩, ⟨l12, u12⟩, ⟨l13, u13⟩, ⟨l14, u14⟩, -⟩ := b_
  obtain ⟨f0, f1, f2, f3, -⟩ := f_
  obtain ⟨T0, ⟨T1, ⟨T2, ⟨T3, ⟨T4, ⟨e5, ⟨T6, w_, w6⟩⟩, w4⟩, w3⟩, w2⟩, w1⟩, w0⟩ := d_
  subst w0
  subst w1
  subst w2
  subst w3
  subst w4
  subst w6
  subst w_
  have g := rxd194_0_5 hP hin hsm_ I0 I1 hinv l8 u8 l9 u9 l10 u10 l11 u11 l12 u12 l13 u13 l14 u14 f0 f1 f2 f3 e5
  refine ⟨bx_narP_ok (l := []) g.1, ?_⟩
  show rxPS194 S0 ws (bx_up (bx_up (bx_up (bx_up (bx_up (bx_up T6 480 (0) (0)) 482 (r' 12 + 742) (r' 8)) 482 (r' 13 + 743) (r' 9)) 482 (r' 14 + 744) (r' 10)) 482 (6) (r' 11 + 1)) 480 (1) (0)) (some (bx_num r' (.inr (0, (11, 1)))))
  rw [bx_xv_ok h0_]
  exact g.2
theorem rxd194_0_6 {S0 : Nat → Int → Int} {ws : List Int} {S : Nat → Int → Int} {ra cb wc x11 x12 : Int} (hP : rxP194 S0 ws) (hin : bx_same rxL (bx_mdl rxC194.2.2.1) S0 S) (hin2 : bx_same rxL (bx_mdl rxC194.2.2.1) S (bx_up (bx_up (bx_up S 480 0 0) 480 1 ((-1))) 481 1 x12)) (I0 : bx_Inv rxL S) (I1 : bx_Inv rxL (bx_up (bx_up (bx_up S 480 0 0) 480 1 ((-1))) 481 1 x12)) (hinv : rxI194_0 S0 ws S ra cb wc) (l8 : 0 ≤ ra) (u8 : ra ≤ 3) (l9 : 0 ≤ cb) (u9 : cb ≤ 5) (l10 : 10 ≤ wc) (u10 : wc ≤ 2147483647) (l11 : (-2147483648) ≤ x11) (u11 : x11 ≤ 2147483647) (l12 : (-2147483648) ≤ x12) (u12 : x12 ≤ 2147483647) (e1 : (bx_up (bx_up S 480 0 0) 480 1 ((-1))) 481 1 = x11) : (True) ∧ rxPS194 S0 ws (bx_up (bx_up (bx_up S 480 0 0) 480 1 ((-1))) 481 1 x12) (some ((-1))) := by
  obtain ⟨rfl, hw⟩ := hinv
  have e1 := (show _ = S 481 1 from (bx_up_ne (by omega)).trans ((bx_up_ne (by omega)))).symm.trans e1
  refine ⟨trivial, ra, cb, wc, hw, Or.inl (⟨?_, ?_, fun j => (bx_up_ne (by omega)).trans ((bx_up_ne (by omega)).trans ((bx_up_ne (by omega))))⟩)⟩ <;> first | omega | exact hin2 | exact congrArg some (by omega) | (intro i i0 i1; simp only [bx_up]; (repeat' split) <;> first | rfl | omega | (simp_all; done) | (simp_all; omega)) | ((repeat (first | rw [bx_up_at] | rw [bx_up_ne (by omega)])); omega) | exact True.intro
theorem rxf194_0_6 {X : (Nat → Int → Int) → Prop} {S0 : Nat → Int → Int} {ws : List Int} (hP : rxP194 S0 ws) : bx_obE rxL X S0 rxC194.2.2.1 (rxI194 S0 ws) (rxPS194 S0 ws) 0 rxz194_0 rxe194_0_6 := by
  intro S S' r r' hinv hX hin hsm_ hseg
  obtain ⟨I0, I1, h0_, hr_, b_, f_, d_⟩ := bx_cl (evs := [(1, (0, 481), (0, 1), .inr (0, (12, 0))), (0, (0, 481), (0, 1), .inr (0, (11, 0))), (1, (0, 480), (0, 1), .inr (0, (0, (-1)))), (1, (0, 480), (0, 0), .inr (0, (0, 0)))]) (fvs := []) hseg (by decide +kernel) (by decide +kernel)
  have hinv : rxI194_0 S0 ws S (r 8) (r 9) (r 10) := hinv
  rw [← hr_ 8 (by decide), ← hr_ 9 (by decide), ← hr_ 10 (by decide)] at hinv
  obtain ⟨⟨l8, u8⟩, ⟨l9, u9⟩, ⟨l10, u10⟩, ⟨l11, u11⟩, ⟨l12, u12⟩, -⟩ := b_
  obtain ⟨T0, ⟨e1, ⟨T2, ⟨T3, w_, w3⟩, w2⟩⟩, w0⟩ := d_
  subst w0
  subst w2
  subst w3
  subst w_
  have g := rxd194_0_6 hP hin hsm_ I0 I1 hinv l8 u8 l9 u9 l10 u10 l11 u11 l12 u12 e1
  refine ⟨bx_narP_ok (l := []) g.1, ?_⟩
  show rxPS194 S0 ws (bx_up (bx_up (bx_up T3 480 (0) (0)) 480 (1) ((-1))) 481 (1) (r' 12)) (some (bx_num r' (.inr (0, (0, (-1))))))
  rw [bx_xv_ok h0_]
  exact g.2
theorem rxd194_0_7 {S0 : Nat → Int → Int} {ws : List Int} {S : Nat → Int → Int} {ra cb wc x11 x12 : Int} (hP : rxP194 S0 ws) (hin : bx_same rxL (bx_mdl rxC194.2.2.1) S0 S) (hin2 : bx_same rxL (bx_mdl rxC194.2.2.1) S (bx_up (bx_up (bx_up S 480 0 0) 480 1 ((-1))) 481 1 x12)) (I0 : bx_Inv rxL S) (I1 : bx_Inv rxL (bx_up (bx_up (bx_up S 480 0 0) 480 1 ((-1))) 481 1 x12)) (hinv : rxI194_0 S0 ws S ra cb wc) (l8 : 0 ≤ ra) (u8 : ra ≤ 3) (l9 : 0 ≤ cb) (u9 : cb ≤ 5) (l10 : (-2147483648) ≤ wc) (u10 : wc ≤ (-1)) (l11 : (-2147483648) ≤ x11) (u11 : x11 ≤ 2147483647) (l12 : (-2147483648) ≤ x12) (u12 : x12 ≤ 2147483647) (e1 : (bx_up (bx_up S 480 0 0) 480 1 ((-1))) 481 1 = x11) : (True) ∧ rxPS194 S0 ws (bx_up (bx_up (bx_up S 480 0 0) 480 1 ((-1))) 481 1 x12) (some ((-1))) := by
  obtain ⟨rfl, hw⟩ := hinv
  have e1 := (show _ = S 481 1 from (bx_up_ne (by omega)).trans ((bx_up_ne (by omega)))).symm.trans e1
  refine ⟨trivial, ra, cb, wc, hw, Or.inl (⟨?_, ?_, fun j => (bx_up_ne (by omega)).trans ((bx_up_ne (by omega)).trans ((bx_up_ne (by omega))))⟩)⟩ <;> first | omega | exact hin2 | exact congrArg some (by omega) | (intro i i0 i1; simp only [bx_up]; (repeat' split) <;> first | rfl | omega | (simp_all; done) | (simp_all; omega)) | ((repeat (first | rw [bx_up_at] | rw [bx_up_ne (by omega)])); omega) | exact True.intro
theorem rxf194_0_7 {X : (Nat → Int → Int) → Prop} {S0 : Nat → Int → Int} {ws : List Int} (hP : rxP194 S0 ws) : bx_obE rxL X S0 rxC194.2.2.1 (rxI194 S0 ws) (rxPS194 S0 ws) 0 rxz194_0 rxe194_0_7 := by
  intro S S' r r' hinv hX hin hsm_ hseg
  obtain ⟨I0, I1, h0_, hr_, b_, f_, d_⟩ := bx_cl (evs := [(1, (0, 481), (0, 1), .inr (0, (12, 0))), (0, (0, 481), (0, 1), .inr (0, (11, 0))), (1, (0, 480), (0, 1), .inr (0, (0, (-1)))), (1, (0, 480), (0, 0), .inr (0, (0, 0)))]) (fvs := []) hseg (by decide +kernel) (by decide +kernel)
  have hinv : rxI194_0 S0 ws S (r 8) (r 9) (r 10) := hinv
  rw [← hr_ 8 (by decide), ← hr_ 9 (by decide), ← hr_ 10 (by decide)] at hinv
  obtain ⟨⟨l8, u8⟩, ⟨l9, u9⟩, ⟨l10, u10⟩, ⟨l11, u11⟩, ⟨l12, u12⟩, -⟩ := b_
  obtain ⟨T0, ⟨e1, ⟨T2, ⟨T3, w_, w3⟩, w2⟩⟩, w0⟩ := d_
  subst w0
  subst w2
  subst w3
  subst w_
  have g := rxd194_0_7 hP hin hsm_ I0 I1 hinv l8 u8 l9 u9 l10 u10 l11 u11 l12 u12 e1
  refine ⟨bx_narP_ok (l := []) g.1, ?_⟩
  show rxPS194 S0 ws (bx_up (bx_up (bx_up T3 480 (0) (0)) 480 (1) ((-1))) 481 (1) (r' 12)) (some (bx_num r' (.inr (0, (0, (-1))))))
  rw [bx_xv_ok h0_]
  exact g.2
theorem rxgC194 {X : (Nat → Int → Int) → Prop} {S0 : Nat → Int → Int} {ws : List Int} (hP : rxP194 S0 ws) : bx_allI (fun i q => rxU194 q = true ∨ bx_allP (fun o => bx_obC rxL X S0 rxC194.2.2.1 (rxI194 S0 ws) (rxm194 S0 ws) i q.1 o) q.2.1) 0 rxY194 := ⟨Or.inr trivial, trivial⟩
theorem rxgE194 {X : (Nat → Int → Int) → Prop} {S0 : Nat → Int → Int} {ws : List Int} (hP : rxP194 S0 ws) : bx_allI (fun i q => rxU194 q = true ∨ bx_allP (fun E => bx_obE rxL X S0 rxC194.2.2.1 (rxI194 S0 ws) (rxPS194 S0 ws) i q.1 E) q.2.2) 0 rxY194 := ⟨Or.inr ⟨rxf194_0_0 hP, rxf194_0_1 hP, rxf194_0_2 hP, rxf194_0_3 hP, rxf194_0_4 hP, rxf194_0_5 hP, rxf194_0_6 hP, rxf194_0_7 hP, trivial⟩, trivial⟩
theorem rxQ194 {PX : State → Prop} {Dg : va_G} {A : Nat → Prop} {ad xa : Nat → Nat} {l : Launch} {X : (Nat → Int → Int) → Prop} (hPX : rx_PXOK rxNW A PX) (hsl : ∀ s : State, PX s → ∀ o idx n : Nat, rxSl o idx = some n → ∃ tx : String, vk_R (rxNm o) idx tx (ad n) s)
    (hX : ∀ S S' : Nat → Int → Int, X S → bx_same rxL (bx_mdl rxC194.2.2.1) S S' → X S')
    (ih : ∀ (j2 : Nat) (ct2 : bx_Ct) (M2 : rx_Mt), ct2 ∈ rxCnE j2 → ct2.2.2.2.1 + 1 ≤ rxC194.2.2.2.1 → rxT.2.2.2.2.2 j2 = some M2 → bx_Con rxG rxNW rxAO PX Dg rxL X vwCl A ad l M2 ct2) : bx_ConP rxG rxNW rxAO PX Dg rxL X vwCl A ad l rxM194 rxC194 rxP194 rxPS194 :=
  rxQof (xa := xa) (Cn := rxCnE) (f := 30000) (j := 194) (tab := rxY194) (us := rxU194) hPX hsl hX ih rfl rxYc194 rxI194 rxm194
    (fun S0 ws r I0 I ht0 ht as he he1 hX0 hI0 hP hs ha => by
      have e := he.symm.trans (show bx_ent0 rxNP rxC194.1 bx_I0 [] = some ([(0, 0), (0, 0), (0, 0), (0, 0), (0, 0), (0, 0), (0, 0), (0, 0), ((-2147483648), 2147483647), ((-2147483648), 2147483647), ((-2147483648), 2147483647)], [], [.inr (3, (0, 480)), .inr (0, (8, 0)), .inr (0, (9, 0)), .inr (0, (10, 0))]) from rfl)
      cases e
      subst ha
      have h0 : r 0 = 0 := hs.1
      show rxI194_0 S0 _ S0 (r 8) (r 9) (r 10)
      refine ⟨rfl, ?_⟩
      simp only [List.map_cons, List.map_nil, bx_xv_ok h0]
      rfl)
    (fun S0 ws hP => fun i q hq hus => absurd (show false = true from hus) Bool.false_ne_true) (fun S0 ws hP => rxgC194 hP) (fun S0 ws hP => rxgE194 hP)
set_option maxHeartbeats 1000000 in
theorem rzQ194 {PX : State → Prop} {Dg : va_G} {A : Nat → Prop} {ad : Nat → Nat} {l : Launch} (hPX : rx_PXOK rxNW A PX) (hsl : ∀ s : State, PX s → ∀ o idx n : Nat, rxSl o idx = some n → ∃ tx : String, vk_R (rxNm o) idx tx (ad n) s) : bx_ConP rxG rxNW rxAO PX Dg rxL rxX vwCl A ad l rxM194 rxC194 (fun _ _ => True) rxPS194 := by
  have q194 := rxQ194 (PX := PX) (Dg := Dg) (A := A) (ad := ad) (xa := fun n => n) (l := l) (X := rxX) hPX hsl (fun _ _ h hm => rxX_of (by decide +kernel) h hm) (fun _ _ _ h => absurd h List.not_mem_nil)
  exact fun S0 ws h1 h2 h3 _ => q194 S0 ws h1 h2 h3 trivial
