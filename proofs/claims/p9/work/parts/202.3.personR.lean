/-! CONTRACT BY HAND, by program (wip/sim/genhand.py): DeadUnderstudiesModel.person -/
def rxI224_0 (S0 : Nat → Int → Int) (ws : List Int) (S : Nat → Int → Int) (bo de me : Int) : Prop := S = S0 ∧ ws = [480, bo, de, me]
def rxm224_0 (S0 : Nat → Int → Int) (ws : List Int) (S : Nat → Int → Int) (bo de me : Int) : Nat := 100
def rxz224_0 : rx_Z := ([(0, 0), (0, 0), (0, 0), (0, 0), (0, 0), (0, 0), (0, 0), (0, 0), ((-2147483648), 2147483647), ((-2147483648), 2147483647), ((-2147483648), 2147483647)], [], [], 0, 0, 0, [(0, .inr (3, (0, 480))), (1, .inr (0, (8, 0))), (2, .inr (0, (9, 0))), (3, .inr (0, (10, 0)))], [])
def rxe224_0_0 : rx_End × List (Nat × Int × Int) := (([(0, 0), (0, 0), (0, 0), (0, 0), (0, 0), (0, 0), (0, 0), (0, 0), ((-2147483648), (-1)), ((-2147483648), 2147483647), ((-2147483648), 2147483647), ((-2147483648), 2147483647), ((-2147483648), 2147483647)], [], [(((0, 0), 1851192626986356797625047037163794926384839479479878431390892035000000), .inr (0, (12, 0))), (((0, 481), 1), .inr (0, (12, 0))), (((0, 0), 1851192626986356797625047037163794926384839479479878431390892032000000), .inr (0, (11, 0))), (((0, 480), 2), .inr (3, (0, 481))), (((0, 0), 1851192626986356797625047037163794926384839479479878431390302211000000), .inr (0, (0, (-1)))), (((0, 480), 1), .inr (0, (0, (-1)))), (((0, 0), 1851192626986356797424340330377019318111018015026043177836478467000000), .inr (0, (0, 0))), (((0, 480), 0), .inr (0, (0, 0)))], some (.inr (0, (0, (-1))))), [])
def rxe224_0_1 : rx_End × List (Nat × Int × Int) := (([(0, 0), (0, 0), (0, 0), (0, 0), (0, 0), (0, 0), (0, 0), (0, 0), (201, 2147483647), ((-2147483648), 2147483647), ((-2147483648), 2147483647), ((-2147483648), 2147483647), ((-2147483648), 2147483647)], [], [(((0, 0), 1851192626986356797625047037163794926384839479479878431390892035000000), .inr (0, (12, 0))), (((0, 481), 1), .inr (0, (12, 0))), (((0, 0), 1851192626986356797625047037163794926384839479479878431390892032000000), .inr (0, (11, 0))), (((0, 480), 2), .inr (3, (0, 481))), (((0, 0), 1851192626986356797625047037163794926384839479479878431390302211000000), .inr (0, (0, (-1)))), (((0, 480), 1), .inr (0, (0, (-1)))), (((0, 0), 1851192626986356797424340330377019318111018015026043177836478467000000), .inr (0, (0, 0))), (((0, 480), 0), .inr (0, (0, 0)))], some (.inr (0, (0, (-1))))), [])
def rxe224_0_2 : rx_End × List (Nat × Int × Int) := (([(0, 0), (0, 0), (0, 0), (0, 0), (0, 0), (0, 0), (0, 0), (0, 0), (0, 200), ((-2147483648), 200), ((-2147483648), 2147483647), ((-2147483648), 2147483647), ((-2147483648), 2147483647)], [(0, (9, 0), (8, 1))], [(((0, 0), 1851192626986356797625047037163794926384839479479878431390892035000000), .inr (0, (12, 0))), (((0, 481), 1), .inr (0, (12, 0))), (((0, 0), 1851192626986356797625047037163794926384839479479878431390892032000000), .inr (0, (11, 0))), (((0, 480), 2), .inr (3, (0, 481))), (((0, 0), 1851192626986356797625047037163794926384839479479878431390302211000000), .inr (0, (0, (-1)))), (((0, 480), 1), .inr (0, (0, (-1)))), (((0, 0), 1851192626986356797424340330377019318111018015026043177836478467000000), .inr (0, (0, 0))), (((0, 480), 0), .inr (0, (0, 0)))], some (.inr (0, (0, (-1))))), [])
def rxe224_0_3 : rx_End × List (Nat × Int × Int) := (([(0, 0), (0, 0), (0, 0), (0, 0), (0, 0), (0, 0), (0, 0), (0, 0), (0, 200), (301, 2147483647), ((-2147483648), 2147483647), ((-2147483648), 2147483647), ((-2147483648), 2147483647)], [(1, (8, 1), (9, 0))], [(((0, 0), 1851192626986356797625047037163794926384839479479878431390892035000000), .inr (0, (12, 0))), (((0, 481), 1), .inr (0, (12, 0))), (((0, 0), 1851192626986356797625047037163794926384839479479878431390892032000000), .inr (0, (11, 0))), (((0, 480), 2), .inr (3, (0, 481))), (((0, 0), 1851192626986356797625047037163794926384839479479878431390302211000000), .inr (0, (0, (-1)))), (((0, 480), 1), .inr (0, (0, (-1)))), (((0, 0), 1851192626986356797424340330377019318111018015026043177836478467000000), .inr (0, (0, 0))), (((0, 480), 0), .inr (0, (0, 0)))], some (.inr (0, (0, (-1))))), [])
def rxe224_0_4 : rx_End × List (Nat × Int × Int) := (([(0, 0), (0, 0), (0, 0), (0, 0), (0, 0), (0, 0), (0, 0), (0, 0), (0, 200), (1, 300), ((-2147483648), 0), ((-2147483648), 2147483647), ((-2147483648), 2147483647)], [(1, (8, 1), (9, 0))], [(((0, 0), 1851192626986356797625047037163794926384839479479878431390892035000000), .inr (0, (12, 0))), (((0, 481), 1), .inr (0, (12, 0))), (((0, 0), 1851192626986356797625047037163794926384839479479878431390892032000000), .inr (0, (11, 0))), (((0, 480), 2), .inr (3, (0, 481))), (((0, 0), 1851192626986356797625047037163794926384839479479878431390302211000000), .inr (0, (0, (-1)))), (((0, 480), 1), .inr (0, (0, (-1)))), (((0, 0), 1851192626986356797424340330377019318111018015026043177836478467000000), .inr (0, (0, 0))), (((0, 480), 0), .inr (0, (0, 0)))], some (.inr (0, (0, (-1))))), [])
def rxe224_0_5 : rx_End × List (Nat × Int × Int) := (([(0, 0), (0, 0), (0, 0), (0, 0), (0, 0), (0, 0), (0, 0), (0, 0), (0, 200), (1, 300), (10, 2147483647), ((-2147483648), 2147483647), ((-2147483648), 2147483647)], [(1, (8, 1), (9, 0))], [(((0, 0), 1851192626986356797625047037163794926384839479479878431390892035000000), .inr (0, (12, 0))), (((0, 481), 1), .inr (0, (12, 0))), (((0, 0), 1851192626986356797625047037163794926384839479479878431390892032000000), .inr (0, (11, 0))), (((0, 480), 2), .inr (3, (0, 481))), (((0, 0), 1851192626986356797625047037163794926384839479479878431390302211000000), .inr (0, (0, (-1)))), (((0, 480), 1), .inr (0, (0, (-1)))), (((0, 0), 1851192626986356797424340330377019318111018015026043177836478467000000), .inr (0, (0, 0))), (((0, 480), 0), .inr (0, (0, 0)))], some (.inr (0, (0, (-1))))), [])
def rxe224_0_6 : rx_End × List (Nat × Int × Int) := (([(0, 0), (0, 0), (0, 0), (0, 0), (0, 0), (0, 0), (0, 0), (0, 0), (0, 200), (1, 300), (1, 9), (8, 8), ((-2147483648), 2147483647), ((-2147483648), 2147483647)], [(1, (8, 1), (9, 0))], [(((0, 0), 1851192626986356798427873864310897359480125337295219445606187011000000), .inr (0, (13, 0))), (((0, 481), 5), .inr (0, (13, 0))), (((0, 0), 1851192626986356798427873864310897359480125337295219445606187008000000), .inr (0, (12, 0))), (((0, 480), 2), .inr (3, (0, 481))), (((0, 0), 1851192626986356797625047037163794926384839479479878431390302211000000), .inr (0, (0, (-5)))), (((0, 480), 1), .inr (0, (0, (-5)))), (((0, 0), 1851192626986356797625047037163794926384839479479878431391481856000000), .inr (0, (11, 0))), (((0, 480), 3), .inr (3, (0, 482))), (((0, 0), 1851192626986356797424340330377019318111018015026043177836478467000000), .inr (0, (0, 0))), (((0, 480), 0), .inr (0, (0, 0)))], some (.inr (0, (0, (-5))))), [])
def rxe224_0_7 : rx_End × List (Nat × Int × Int) := (([(0, 0), (0, 0), (0, 0), (0, 0), (0, 0), (0, 0), (0, 0), (0, 0), (0, 200), (1, 300), (1, 9), (0, 7), (0, 21), (0, 21), (0, 21)], [(7, (14, 0), (11, 0)), (7, (13, 0), (11, 0)), (7, (12, 0), (11, 0)), (3, (11, 0), (0, 8)), (1, (8, 1), (9, 0))], [(((0, 0), 1851192626986356797625047037163794926384839479479878431390302211000000), .inr (0, (0, 0))), (((0, 480), 1), .inr (0, (0, 0))), (((0, 0), 1851192626986356797625047037163794926384839479479878431391481859000000), .inr (0, (11, 1))), (((0, 0), 1851192626986356845593992834781397342074565869147040433550000131000000), .inr (0, (10, 0))), (((0, 0), 1851192626986356845393283065453319445354573234321738294082273283000000), .inr (0, (9, 0))), (((0, 0), 1851192626986356845192573296125241548634580599496436154614546435000000), .inr (0, (8, 0))), (((0, 0), 1851192626986356797625047037163794926384839479479878431391481856000000), .inr (0, (11, 0))), (((0, 480), 3), .inr (3, (0, 482))), (((0, 0), 1851192626986356797424340330377019318111018015026043177836478467000000), .inr (0, (0, 0))), (((0, 480), 0), .inr (0, (0, 0)))], some (.inr (0, (11, 0)))), [])
def rxY224 : List bx_HE := [(rxz224_0, [], [rxe224_0_0, rxe224_0_1, rxe224_0_2, rxe224_0_3, rxe224_0_4, rxe224_0_5, rxe224_0_6, rxe224_0_7])]
def rxU224 (q : bx_HE) : Bool := false
def rxYB224 : bx_B := (rxV, rxNP, rxDmf, bx_mdH rxC224.2.2.1)
set_option maxRecDepth 100000 in
theorem rxYc224 : bx_chkH rxYB224 rxM224 rxC224 rxY224 (rxU224, fun cut z => rx_ex2 (rxCT rxYB224 rxCnE) cut 30000 rxC224.2.2.2.1 224 z) = true := by decide +kernel
def rxI224 (S0 : Nat → Int → Int) (ws : List Int) (i : Nat) : bx_SP := fun S r => match i with | 0 => rxI224_0 S0 ws S (r 8) (r 9) (r 10) | _ => False
def rxm224 (S0 : Nat → Int → Int) (ws : List Int) (i : Nat) (S : Nat → Int → Int) (r : Nat → Int) : Nat := match i with | 0 => rxm224_0 S0 ws S (r 8) (r 9) (r 10) | _ => 0
def rxP224 (S0 : Nat → Int → Int) (ws : List Int) : Prop := True
def rxPS224 (S0 : Nat → Int → Int) (ws : List Int) (S : Nat → Int → Int) (w : Option Int) : Prop := ∃ bo de me : Int, ws = [480, bo, de, me] ∧ (((bo < 0 ∨ 200 < bo ∨ de ≤ bo ∨ 300 < de ∨ me < 1 ∨ 9 < me) ∧ w = some (-1) ∧ (∀ j : Int, S 482 j = S0 482 j)) ∨ (0 ≤ bo ∧ bo ≤ 200 ∧ bo < de ∧ de ≤ 300 ∧ 1 ≤ me ∧ me ≤ 9 ∧ 8 ≤ S0 482 1 ∧ w = some (-5) ∧ (∀ j : Int, S 482 j = S0 482 j)) ∨ (0 ≤ bo ∧ bo ≤ 200 ∧ bo < de ∧ de ≤ 300 ∧ 1 ≤ me ∧ me ≤ 9 ∧ S0 482 1 < 8 ∧ w = some (S0 482 1) ∧ S 482 1 = S0 482 1 + 1 ∧ (∀ i : Int, 0 ≤ i → i < 8 → S 482 (238 + 3 * i) = if i = S0 482 1 then bo else S0 482 (238 + 3 * i)) ∧ (∀ i : Int, 0 ≤ i → i < 8 → S 482 (239 + 3 * i) = if i = S0 482 1 then de else S0 482 (239 + 3 * i)) ∧ (∀ i : Int, 0 ≤ i → i < 8 → S 482 (240 + 3 * i) = if i = S0 482 1 then me else S0 482 (240 + 3 * i))))
theorem rxd224_0_0 {S0 : Nat → Int → Int} {ws : List Int} {S : Nat → Int → Int} {bo de me x11 x12 : Int} (hP : rxP224 S0 ws) (hin : bx_same rxL (bx_mdl rxC224.2.2.1) S0 S) (hin2 : bx_same rxL (bx_mdl rxC224.2.2.1) S (bx_up (bx_up (bx_up S 480 0 0) 480 1 ((-1))) 481 1 x12)) (I0 : bx_Inv rxL S) (I1 : bx_Inv rxL (bx_up (bx_up (bx_up S 480 0 0) 480 1 ((-1))) 481 1 x12)) (hinv : rxI224_0 S0 ws S bo de me) (l8 : (-2147483648) ≤ bo) (u8 : bo ≤ (-1)) (l9 : (-2147483648) ≤ de) (u9 : de ≤ 2147483647) (l10 : (-2147483648) ≤ me) (u10 : me ≤ 2147483647) (l11 : (-2147483648) ≤ x11) (u11 : x11 ≤ 2147483647) (l12 : (-2147483648) ≤ x12) (u12 : x12 ≤ 2147483647) (e1 : (bx_up (bx_up S 480 0 0) 480 1 ((-1))) 481 1 = x11) : (True) ∧ rxPS224 S0 ws (bx_up (bx_up (bx_up S 480 0 0) 480 1 ((-1))) 481 1 x12) (some ((-1))) := by
  obtain ⟨rfl, hw⟩ := hinv
  have e1 := (show _ = S 481 1 from (bx_up_ne (by omega)).trans ((bx_up_ne (by omega)))).symm.trans e1
  refine ⟨trivial, bo, de, me, hw, Or.inl (⟨?_, ?_, fun j => (bx_up_ne (by omega)).trans ((bx_up_ne (by omega)).trans ((bx_up_ne (by omega))))⟩)⟩ <;> first | omega | exact hin2 | exact congrArg some (by omega) | (intro i i0 i1; simp only [bx_up]; (repeat' split) <;> first | rfl | omega | (simp_all; done) | (simp_all; omega)) | ((repeat (first | rw [bx_up_at] | rw [bx_up_ne (by omega)])); omega) | exact True.intro
theorem rxf224_0_0 {X : (Nat → Int → Int) → Prop} {S0 : Nat → Int → Int} {ws : List Int} (hP : rxP224 S0 ws) : bx_obE rxL X S0 rxC224.2.2.1 (rxI224 S0 ws) (rxPS224 S0 ws) 0 rxz224_0 rxe224_0_0 := by
  intro S S' r r' hinv hX hin hsm_ hseg
  obtain ⟨I0, I1, h0_, hr_, b_, f_, d_⟩ := bx_cl (evs := [(1, (0, 481), (0, 1), .inr (0, (12, 0))), (0, (0, 481), (0, 1), .inr (0, (11, 0))), (1, (0, 480), (0, 1), .inr (0, (0, (-1)))), (1, (0, 480), (0, 0), .inr (0, (0, 0)))]) (fvs := []) hseg (by decide +kernel) (by decide +kernel)
  have hinv : rxI224_0 S0 ws S (r 8) (r 9) (r 10) := hinv
  rw [← hr_ 8 (by decide), ← hr_ 9 (by decide), ← hr_ 10 (by decide)] at hinv
  obtain ⟨⟨l8, u8⟩, ⟨l9, u9⟩, ⟨l10, u10⟩, ⟨l11, u11⟩, ⟨l12, u12⟩, -⟩ := b_
  obtain ⟨T0, ⟨e1, ⟨T2, ⟨T3, w_, w3⟩, w2⟩⟩, w0⟩ := d_
  subst w0
  subst w2
  subst w3
  subst w_
  have g := rxd224_0_0 hP hin hsm_ I0 I1 hinv l8 u8 l9 u9 l10 u10 l11 u11 l12 u12 e1
  refine ⟨bx_narP_ok (l := []) g.1, ?_⟩
  show rxPS224 S0 ws (bx_up (bx_up (bx_up T3 480 (0) (0)) 480 (1) ((-1))) 481 (1) (r' 12)) (some (bx_num r' (.inr (0, (0, (-1))))))
  rw [bx_xv_ok h0_]
  exact g.2
theorem rxd224_0_1 {S0 : Nat → Int → Int} {ws : List Int} {S : Nat → Int → Int} {bo de me x11 x12 : Int} (hP : rxP224 S0 ws) (hin : bx_same rxL (bx_mdl rxC224.2.2.1) S0 S) (hin2 : bx_same rxL (bx_mdl rxC224.2.2.1) S (bx_up (bx_up (bx_up S 480 0 0) 480 1 ((-1))) 481 1 x12)) (I0 : bx_Inv rxL S) (I1 : bx_Inv rxL (bx_up (bx_up (bx_up S 480 0 0) 480 1 ((-1))) 481 1 x12)) (hinv : rxI224_0 S0 ws S bo de me) (l8 : 201 ≤ bo) (u8 : bo ≤ 2147483647) (l9 : (-2147483648) ≤ de) (u9 : de ≤ 2147483647) (l10 : (-2147483648) ≤ me) (u10 : me ≤ 2147483647) (l11 : (-2147483648) ≤ x11) (u11 : x11 ≤ 2147483647) (l12 : (-2147483648) ≤ x12) (u12 : x12 ≤ 2147483647) (e1 : (bx_up (bx_up S 480 0 0) 480 1 ((-1))) 481 1 = x11) : (True) ∧ rxPS224 S0 ws (bx_up (bx_up (bx_up S 480 0 0) 480 1 ((-1))) 481 1 x12) (some ((-1))) := by
  obtain ⟨rfl, hw⟩ := hinv
  have e1 := (show _ = S 481 1 from (bx_up_ne (by omega)).trans ((bx_up_ne (by omega)))).symm.trans e1
  refine ⟨trivial, bo, de, me, hw, Or.inl (⟨?_, ?_, fun j => (bx_up_ne (by omega)).trans ((bx_up_ne (by omega)).trans ((bx_up_ne (by omega))))⟩)⟩ <;> first | omega | exact hin2 | exact congrArg some (by omega) | (intro i i0 i1; simp only [bx_up]; (repeat' split) <;> first | rfl | omega | (simp_all; done) | (simp_all; omega)) | ((repeat (first | rw [bx_up_at] | rw [bx_up_ne (by omega)])); omega) | exact True.intro
theorem rxf224_0_1 {X : (Nat → Int → Int) → Prop} {S0 : Nat → Int → Int} {ws : List Int} (hP : rxP224 S0 ws) : bx_obE rxL X S0 rxC224.2.2.1 (rxI224 S0 ws) (rxPS224 S0 ws) 0 rxz224_0 rxe224_0_1 := by
  intro S S' r r' hinv hX hin hsm_ hseg
  obtain ⟨I0, I1, h0_, hr_, b_, f_, d_⟩ := bx_cl (evs := [(1, (0, 481), (0, 1), .inr (0, (12, 0))), (0, (0, 481), (0, 1), .inr (0, (11, 0))), (1, (0, 480), (0, 1), .inr (0, (0, (-1)))), (1, (0, 480), (0, 0), .inr (0, (0, 0)))]) (fvs := []) hseg (by decide +kernel) (by decide +kernel)
  have hinv : rxI224_0 S0 ws S (r 8) (r 9) (r 10) := hinv
  rw [← hr_ 8 (by decide), ← hr_ 9 (by decide), ← hr_ 10 (by decide)] at hinv
  obtain ⟨⟨l8, u8⟩, ⟨l9, u9⟩, ⟨l10, u10⟩, ⟨l11, u11⟩, ⟨l12, u12⟩, -⟩ := b_
  obtain ⟨T0, ⟨e1, ⟨T2, ⟨T3, w_, w3⟩, w2⟩⟩, w0⟩ := d_
  subst w0
  subst w2
  subst w3
  subst w_
  have g := rxd224_0_1 hP hin hsm_ I0 I1 hinv l8 u8 l9 u9 l10 u10 l11 u11 l12 u12 e1
  refine ⟨bx_narP_ok (l := []) g.1, ?_⟩
  show rxPS224 S0 ws (bx_up (bx_up (bx_up T3 480 (0) (0)) 480 (1) ((-1))) 481 (1) (r' 12)) (some (bx_num r' (.inr (0, (0, (-1))))))
  rw [bx_xv_ok h0_]
  exact g.2
theorem rxd224_0_2 {S0 : Nat → Int → Int} {ws : List Int} {S : Nat → Int → Int} {bo de me x11 x12 : Int} (hP : rxP224 S0 ws) (hin : bx_same rxL (bx_mdl rxC224.2.2.1) S0 S) (hin2 : bx_same rxL (bx_mdl rxC224.2.2.1) S (bx_up (bx_up (bx_up S 480 0 0) 480 1 ((-1))) 481 1 x12)) (I0 : bx_Inv rxL S) (I1 : bx_Inv rxL (bx_up (bx_up (bx_up S 480 0 0) 480 1 ((-1))) 481 1 x12)) (hinv : rxI224_0 S0 ws S bo de me) (l8 : 0 ≤ bo) (u8 : bo ≤ 200) (l9 : (-2147483648) ≤ de) (u9 : de ≤ 200) (l10 : (-2147483648) ≤ me) (u10 : me ≤ 2147483647) (l11 : (-2147483648) ≤ x11) (u11 : x11 ≤ 2147483647) (l12 : (-2147483648) ≤ x12) (u12 : x12 ≤ 2147483647) (f0 : de < bo + 1) (e1 : (bx_up (bx_up S 480 0 0) 480 1 ((-1))) 481 1 = x11) : (True) ∧ rxPS224 S0 ws (bx_up (bx_up (bx_up S 480 0 0) 480 1 ((-1))) 481 1 x12) (some ((-1))) := by
  obtain ⟨rfl, hw⟩ := hinv
  have e1 := (show _ = S 481 1 from (bx_up_ne (by omega)).trans ((bx_up_ne (by omega)))).symm.trans e1
  refine ⟨trivial, bo, de, me, hw, Or.inl (⟨?_, ?_, fun j => (bx_up_ne (by omega)).trans ((bx_up_ne (by omega)).trans ((bx_up_ne (by omega))))⟩)⟩ <;> first | omega | exact hin2 | exact congrArg some (by omega) | (intro i i0 i1; simp only [bx_up]; (repeat' split) <;> first | rfl | omega | (simp_all; done) | (simp_all; omega)) | ((repeat (first | rw [bx_up_at] | rw [bx_up_ne (by omega)])); omega) | exact True.intro
theorem rxf224_0_2 {X : (Nat → Int → Int) → Prop} {S0 : Nat → Int → Int} {ws : List Int} (hP : rxP224 S0 ws) : bx_obE rxL X S0 rxC224.2.2.1 (rxI224 S0 ws) (rxPS224 S0 ws) 0 rxz224_0 rxe224_0_2 := by
  intro S S' r r' hinv hX hin hsm_ hseg
  obtain ⟨I0, I1, h0_, hr_, b_, f_, d_⟩ := bx_cl (evs := [(1, (0, 481), (0, 1), .inr (0, (12, 0))), (0, (0, 481), (0, 1), .inr (0, (11, 0))), (1, (0, 480), (0, 1), .inr (0, (0, (-1)))), (1, (0, 480), (0, 0), .inr (0, (0, 0)))]) (fvs := [(0, (9, 0), (8, 1), (0, 0))]) hseg (by decide +kernel) (by decide +kernel)
  have hinv : rxI224_0 S0 ws S (r 8) (r 9) (r 10) := hinv
  rw [← hr_ 8 (by decide), ← hr_ 9 (by decide), ← hr_ 10 (by decide)] at hinv
  obtain ⟨⟨l8, u8⟩, ⟨l9, u9⟩, ⟨l10, u10⟩, ⟨l11, u11⟩, ⟨l12, u12⟩, -⟩ := b_
  obtain ⟨f0, -⟩ := f_
  obtain ⟨T0, ⟨e1, ⟨T2, ⟨T3, w_, w3⟩, w2⟩⟩, w0⟩ := d_
  subst w0
  subst w2
  subst w3
  subst w_
  have g := rxd224_0_2 hP hin hsm_ I0 I1 hinv l8 u8 l9 u9 l10 u10 l11 u11 l12 u12 f0 e1
  refine ⟨bx_narP_ok (l := []) g.1, ?_⟩
  show rxPS224 S0 ws (bx_up (bx_up (bx_up T3 480 (0) (0)) 480 (1) ((-1))) 481 (1) (r' 12)) (some (bx_num r' (.inr (0, (0, (-1))))))
  rw [bx_xv_ok h0_]
  exact g.2
theorem rxd224_0_3 {S0 : Nat → Int → Int} {ws : List Int} {S : Nat → Int → Int} {bo de me x11 x12 : Int} (hP : rxP224 S0 ws) (hin : bx_same rxL (bx_mdl rxC224.2.2.1) S0 S) (hin2 : bx_same rxL (bx_mdl rxC224.2.2.1) S (bx_up (bx_up (bx_up S 480 0 0) 480 1 ((-1))) 481 1 x12)) (I0 : bx_Inv rxL S) (I1 : bx_Inv rxL (bx_up (bx_up (bx_up S 480 0 0) 480 1 ((-1))) 481 1 x12)) (hinv : rxI224_0 S0 ws S bo de me) (l8 : 0 ≤ bo) (u8 : bo ≤ 200) (l9 : 301 ≤ de) (u9 : de ≤ 2147483647) (l10 : (-2147483648) ≤ me) (u10 : me ≤ 2147483647) (l11 : (-2147483648) ≤ x11) (u11 : x11 ≤ 2147483647) (l12 : (-2147483648) ≤ x12) (u12 : x12 ≤ 2147483647) (f0 : bo + 1 ≤ de) (e1 : (bx_up (bx_up S 480 0 0) 480 1 ((-1))) 481 1 = x11) : (True) ∧ rxPS224 S0 ws (bx_up (bx_up (bx_up S 480 0 0) 480 1 ((-1))) 481 1 x12) (some ((-1))) := by
  obtain ⟨rfl, hw⟩ := hinv
  have e1 := (show _ = S 481 1 from (bx_up_ne (by omega)).trans ((bx_up_ne (by omega)))).symm.trans e1
  refine ⟨trivial, bo, de, me, hw, Or.inl (⟨?_, ?_, fun j => (bx_up_ne (by omega)).trans ((bx_up_ne (by omega)).trans ((bx_up_ne (by omega))))⟩)⟩ <;> first | omega | exact hin2 | exact congrArg some (by omega) | (intro i i0 i1; simp only [bx_up]; (repeat' split) <;> first | rfl | omega | (simp_all; done) | (simp_all; omega)) | ((repeat (first | rw [bx_up_at] | rw [bx_up_ne (by omega)])); omega) | exact True.intro
theorem rxf224_0_3 {X : (Nat → Int → Int) → Prop} {S0 : Nat → Int → Int} {ws : List Int} (hP : rxP224 S0 ws) : bx_obE rxL X S0 rxC224.2.2.1 (rxI224 S0 ws) (rxPS224 S0 ws) 0 rxz224_0 rxe224_0_3 := by
  intro S S' r r' hinv hX hin hsm_ hseg
  obtain ⟨I0, I1, h0_, hr_, b_, f_, d_⟩ := bx_cl (evs := [(1, (0, 481), (0, 1), .inr (0, (12, 0))), (0, (0, 481), (0, 1), .inr (0, (11, 0))), (1, (0, 480), (0, 1), .inr (0, (0, (-1)))), (1, (0, 480), (0, 0), .inr (0, (0, 0)))]) (fvs := [(1, (8, 1), (9, 0), (0, 0))]) hseg (by decide +kernel) (by decide +kernel)
  have hinv : rxI224_0 S0 ws S (r 8) (r 9) (r 10) := hinv
  rw [← hr_ 8 (by decide), ← hr_ 9 (by decide), ← hr_ 10 (by decide)] at hinv
  obtain ⟨⟨l8, u8⟩, ⟨l9, u9⟩, ⟨l10, u10⟩, ⟨l11, u11⟩, ⟨l12, u12⟩, -⟩ := b_
  obtain ⟨f0, -⟩ := f_
  obtain ⟨T0, ⟨e1, ⟨T2, ⟨T3, w_, w3⟩, w2⟩⟩, w0⟩ := d_
  subst w0
  subst w2
  subst w3
  subst w_
  have g := rxd224_0_3 hP hin hsm_ I0 I1 hinv l8 u8 l9 u9 l10 u10 l11 u11 l12 u12 f0 e1
  refine ⟨bx_narP_ok (l := []) g.1, ?_⟩
  show rxPS224 S0 ws (bx_up (bx_up (bx_up T3 480 (0) (0)) 480 (1) ((-1))) 481 (1) (r' 12)) (some (bx_num r' (.inr (0, (0, (-1))))))
  rw [bx_xv_ok h0_]
  exact g.2
theorem rxd224_0_4 {S0 : Nat → Int → Int} {ws : List Int} {S : Nat → Int → Int} {bo de me x11 x12 : Int} (hP : rxP224 S0 ws) (hin : bx_same rxL (bx_mdl rxC224.2.2.1) S0 S) (hin2 : bx_same rxL (bx_mdl rxC224.2.2.1) S (bx_up (bx_up (bx_up S 480 0 0) 480 1 ((-1))) 481 1 x12)) (I0 : bx_Inv rxL S) (I1 : bx_Inv rxL (bx_up (bx_up (bx_up S 480 0 0) 480 1 ((-1))) 481 1 x12)) (hinv : rxI224_0 S0 ws S bo de me) (l8 : 0 ≤ bo) (u8 : bo ≤ 200) (l9 : 1 ≤ de) (u9 : de ≤ 300) (l10 : (-2147483648) ≤ me) (u10 : me ≤ 0) (l11 : (-2147483648) ≤ x11) (u11 : x11 ≤ 2147483647) (l12 : (-2147483648) ≤ x12) (u12 : x12 ≤ 2147483647) (f0 : bo + 1 ≤ de) (e1 : (bx_up (bx_up S 480 0 0) 480 1 ((-1))) 481 1 = x11) : (True) ∧ rxPS224 S0 ws (bx_up (bx_up (bx_up S 480 0 0) 480 1 ((-1))) 481 1 x12) (some ((-1))) := by
  obtain ⟨rfl, hw⟩ := hinv
  have e1 := (show _ = S 481 1 from (bx_up_ne (by omega)).trans ((bx_up_ne (by omega)))).symm.trans e1
  refine ⟨trivial, bo, de, me, hw, Or.inl (⟨?_, ?_, fun j => (bx_up_ne (by omega)).trans ((bx_up_ne (by omega)).trans ((bx_up_ne (by omega))))⟩)⟩ <;> first | omega | exact hin2 | exact congrArg some (by omega) | (intro i i0 i1; simp only [bx_up]; (repeat' split) <;> first | rfl | omega | (simp_all; done) | (simp_all; omega)) | ((repeat (first | rw [bx_up_at] | rw [bx_up_ne (by omega)])); omega) | exact True.intro
theorem rxf224_0_4 {X : (Nat → Int → Int) → Prop} {S0 : Nat → Int → Int} {ws : List Int} (hP : rxP224 S0 ws) : bx_obE rxL X S0 rxC224.2.2.1 (rxI224 S0 ws) (rxPS224 S0 ws) 0 rxz224_0 rxe224_0_4 := by
  intro S S' r r' hinv hX hin hsm_ hseg
  obtain ⟨I0, I1, h0_, hr_, b_, f_, d_⟩ := bx_cl (evs := [(1, (0, 481), (0, 1), .inr (0, (12, 0))), (0, (0, 481), (0, 1), .inr (0, (11, 0))), (1, (0, 480), (0, 1), .inr (0, (0, (-1)))), (1, (0, 480), (0, 0), .inr (0, (0, 0)))]) (fvs := [(1, (8, 1), (9, 0), (0, 0))]) hseg (by decide +kernel) (by decide +kernel)
  have hinv : rxI224_0 S0 ws S (r 8) (r 9) (r 10) := hinv
  rw [← hr_ 8 (by decide), ← hr_ 9 (by decide), ← hr_ 10 (by decide)] at hinv
  obtain ⟨⟨l8, u8⟩, ⟨l9, u9⟩, ⟨l10, u10⟩, ⟨l11, u11⟩, ⟨l12, u12⟩, -⟩ := b_
  obtain ⟨f0, -⟩ := f_
  obtain ⟨T0, ⟨e1, ⟨T2, ⟨T3, w_, w3⟩, w2⟩⟩, w0⟩ := d_
  subst w0
  subst w2
  subst w3
  subst w_
  have g := rxd224_0_4 hP hin hsm_ I0 I1 hinv l8 u8 l9 u9 l10 u10 l11 u11 l12 u12 f0 e1
  refine ⟨bx_narP_ok (l := []) g.1, ?_⟩
  show rxPS224 S0 ws (bx_up (bx_up (bx_up T3 480 (0) (0)) 480 (1) ((-1))) 481 (1) (r' 12)) (some (bx_num r' (.inr (0, (0, (-1))))))
  rw [bx_xv_ok h0_]
  exact g.2
theorem rxd224_0_5 {S0 : Nat → Int → Int} {ws : List Int} {S : Nat → Int → Int} {bo de me x11 x12 : Int} (hP : rxP224 S0 ws) (hin : bx_same rxL (bx_mdl rxC224.2.2.1) S0 S) (hin2 : bx_same rxL (bx_mdl rxC224.2.2.1) S (bx_up (bx_up (bx_up S 480 0 0) 480 1 ((-1))) 481 1 x12)) (I0 : bx_Inv rxL S) (I1 : bx_Inv rxL (bx_up (bx_up (bx_up S 480 0 0) 480 1 ((-1))) 481 1 x12)) (hinv : rxI224_0 S0 ws S bo de me) (l8 : 0 ≤ bo) (u8 : bo ≤ 200) (l9 : 1 ≤ de) (u9 : de ≤ 300) (l10 : 10 ≤ me) (u10 : me ≤ 2147483647) (l11 : (-2147483648) ≤ x11) (u11 : x11 ≤ 2147483647) (l12 : (-2147483648) ≤ x12) (u12 : x12 ≤ 2147483647) (f0 : bo + 1 ≤ de) (e1 : (bx_up (bx_up S 480 0 0) 480 1 ((-1))) 481 1 = x11) : (True) ∧ rxPS224 S0 ws (bx_up (bx_up (bx_up S 480 0 0) 480 1 ((-1))) 481 1 x12) (some ((-1))) := by
  obtain ⟨rfl, hw⟩ := hinv
  have e1 := (show _ = S 481 1 from (bx_up_ne (by omega)).trans ((bx_up_ne (by omega)))).symm.trans e1
  refine ⟨trivial, bo, de, me, hw, Or.inl (⟨?_, ?_, fun j => (bx_up_ne (by omega)).trans ((bx_up_ne (by omega)).trans ((bx_up_ne (by omega))))⟩)⟩ <;> first | omega | exact hin2 | exact congrArg some (by omega) | (intro i i0 i1; simp only [bx_up]; (repeat' split) <;> first | rfl | omega | (simp_all; done) | (simp_all; omega)) | ((repeat (first | rw [bx_up_at] | rw [bx_up_ne (by omega)])); omega) | exact True.intro
theorem rxf224_0_5 {X : (Nat → Int → Int) → Prop} {S0 : Nat → Int → Int} {ws : List Int} (hP : rxP224 S0 ws) : bx_obE rxL X S0 rxC224.2.2.1 (rxI224 S0 ws) (rxPS224 S0 ws) 0 rxz224_0 rxe224_0_5 := by
  intro S S' r r' hinv hX hin hsm_ hseg
  obtain ⟨I0, I1, h0_, hr_, b_, f_, d_⟩ := bx_cl (evs := [(1, (0, 481), (0, 1), .inr (0, (12, 0))), (0, (0, 481), (0, 1), .inr (0, (11, 0))), (1, (0, 480), (0, 1), .inr (0, (0, (-1)))), (1, (0, 480), (0, 0), .inr (0, (0, 0)))]) (fvs := [(1, (8, 1), (9, 0), (0, 0))]) hseg (by decide +kernel) (by decide +kernel)
  have hinv : rxI224_0 S0 ws S (r 8) (r 9) (r 10) := hinv
  rw [← hr_ 8 (by decide), ← hr_ 9 (by decide), ← hr_ 10 (by decide)] at hinv
  obtain ⟨⟨l8, u8⟩, ⟨l9, u9⟩, ⟨l10, u10⟩, ⟨l11, u11⟩, ⟨l12, u12⟩, -⟩ := b_
  obtain ⟨f0, -⟩ := f_
  obtain ⟨T0, ⟨e1, ⟨T2, ⟨T3, w_, w3⟩, w2⟩⟩, w0⟩ := d_
  subst w0
  subst w2
  subst w3
  subst w_
  have g := rxd224_0_5 hP hin hsm_ I0 I1 hinv l8 u8 l9 u9 l10 u10 l11 u11 l12 u12 f0 e1
  refine ⟨bx_narP_ok (l := []) g.1, ?_⟩
  show rxPS224 S0 ws (bx_up (bx_up (bx_up T3 480 (0) (0)) 480 (1) ((-1))) 481 (1) (r' 12)) (some (bx_num r' (.inr (0, (0, (-1))))))
  rw [bx_xv_ok h0_]
  exact g.2
theorem rxd224_0_6 {S0 : Nat → Int → Int} {ws : List Int} {S : Nat → Int → Int} {bo de me x11 x12 x13 : Int} (hP : rxP224 S0 ws) (hin : bx_same rxL (bx_mdl rxC224.2.2.1) S0 S) (hin2 : bx_same rxL (bx_mdl rxC224.2.2.1) S (bx_up (bx_up (bx_up S 480 0 0) 480 1 ((-5))) 481 5 x13)) (I0 : bx_Inv rxL S) (I1 : bx_Inv rxL (bx_up (bx_up (bx_up S 480 0 0) 480 1 ((-5))) 481 5 x13)) (hinv : rxI224_0 S0 ws S bo de me) (l8 : 0 ≤ bo) (u8 : bo ≤ 200) (l9 : 1 ≤ de) (u9 : de ≤ 300) (l10 : 1 ≤ me) (u10 : me ≤ 9) (l11 : 8 ≤ x11) (u11 : x11 ≤ 8) (l12 : (-2147483648) ≤ x12) (u12 : x12 ≤ 2147483647) (l13 : (-2147483648) ≤ x13) (u13 : x13 ≤ 2147483647) (f0 : bo + 1 ≤ de) (e3 : (bx_up S 480 0 0) 482 1 = x11) (e1 : (bx_up (bx_up S 480 0 0) 480 1 ((-5))) 481 5 = x12) : (True) ∧ rxPS224 S0 ws (bx_up (bx_up (bx_up S 480 0 0) 480 1 ((-5))) 481 5 x13) (some ((-5))) := by
  obtain ⟨rfl, hw⟩ := hinv
  have e3 := (show _ = S 482 1 from (bx_up_ne (by omega))).symm.trans e3
  have e1 := (show _ = S 481 5 from (bx_up_ne (by omega)).trans ((bx_up_ne (by omega)))).symm.trans e1
  refine ⟨trivial, bo, de, me, hw, Or.inr (Or.inl (⟨?_, ?_, ?_, ?_, ?_, ?_, ?_, ?_, fun j => (bx_up_ne (by omega)).trans ((bx_up_ne (by omega)).trans ((bx_up_ne (by omega))))⟩))⟩ <;> first | omega | exact hin2 | exact congrArg some (by omega) | (intro i i0 i1; simp only [bx_up]; (repeat' split) <;> first | rfl | omega | (simp_all; done) | (simp_all; omega)) | ((repeat (first | rw [bx_up_at] | rw [bx_up_ne (by omega)])); omega) | exact True.intro
theorem rxf224_0_6 {X : (Nat → Int → Int) → Prop} {S0 : Nat → Int → Int} {ws : List Int} (hP : rxP224 S0 ws) : bx_obE rxL X S0 rxC224.2.2.1 (rxI224 S0 ws) (rxPS224 S0 ws) 0 rxz224_0 rxe224_0_6 := by
  intro S S' r r' hinv hX hin hsm_ hseg
  obtain ⟨I0, I1, h0_, hr_, b_, f_, d_⟩ := bx_cl (evs := [(1, (0, 481), (0, 5), .inr (0, (13, 0))), (0, (0, 481), (0, 5), .inr (0, (12, 0))), (1, (0, 480), (0, 1), .inr (0, (0, (-5)))), (0, (0, 482), (0, 1), .inr (0, (11, 0))), (1, (0, 480), (0, 0), .inr (0, (0, 0)))]) (fvs := [(1, (8, 1), (9, 0), (0, 0))]) hseg (by decide +kernel) (by decide +kernel)
  have hinv : rxI224_0 S0 ws S (r 8) (r 9) (r 10) := hinv
  rw [← hr_ 8 (by decide), ← hr_ 9 (by decide), ← hr_ 10 (by decide)] at hinv
  obtain ⟨⟨l8, u8⟩, ⟨l9, u9⟩, ⟨l10, u10⟩, ⟨l11, u11⟩, ⟨l12, u12⟩, ⟨l13, u13⟩, -⟩ := b_
  obtain ⟨f0, -⟩ := f_
  obtain ⟨T0, ⟨e1, ⟨T2, ⟨e3, ⟨T4, w_, w4⟩⟩, w2⟩⟩, w0⟩ := d_
  subst w0
  subst w2
  subst w4
  subst w_
  have g := rxd224_0_6 hP hin hsm_ I0 I1 hinv l8 u8 l9 u9 l10 u10 l11 u11 l12 u12 l13 u13 f0 e3 e1
  refine ⟨bx_narP_ok (l := []) g.1, ?_⟩
  show rxPS224 S0 ws (bx_up (bx_up (bx_up T4 480 (0) (0)) 480 (1) ((-5))) 481 (5) (r' 13)) (some (bx_num r' (.inr (0, (0, (-5))))))
  rw [bx_xv_ok h0_]
  exact g.2
theorem rxd224_0_7 {S0 : Nat → Int → Int} {ws : List Int} {S : Nat → Int → Int} {bo de me x11 x12 x13 x14 : Int} (hP : rxP224 S0 ws) (hin : bx_same rxL (bx_mdl rxC224.2.2.1) S0 S) (hin2 : bx_same rxL (bx_mdl rxC224.2.2.1) S (bx_up (bx_up (bx_up (bx_up (bx_up (bx_up S 480 0 0) 482 (x12 + 238) bo) 482 (x13 + 239) de) 482 (x14 + 240) me) 482 1 (x11 + 1)) 480 1 0)) (I0 : bx_Inv rxL S) (I1 : bx_Inv rxL (bx_up (bx_up (bx_up (bx_up (bx_up (bx_up S 480 0 0) 482 (x12 + 238) bo) 482 (x13 + 239) de) 482 (x14 + 240) me) 482 1 (x11 + 1)) 480 1 0)) (hinv : rxI224_0 S0 ws S bo de me) (l8 : 0 ≤ bo) (u8 : bo ≤ 200) (l9 : 1 ≤ de) (u9 : de ≤ 300) (l10 : 1 ≤ me) (u10 : me ≤ 9) (l11 : 0 ≤ x11) (u11 : x11 ≤ 7) (l12 : 0 ≤ x12) (u12 : x12 ≤ 21) (l13 : 0 ≤ x13) (u13 : x13 ≤ 21) (l14 : 0 ≤ x14) (u14 : x14 ≤ 21) (f0 : x14 = 3 * (x11)) (f1 : x13 = 3 * (x11)) (f2 : x12 = 3 * (x11)) (f3 : x11 ≠ 8) (f4 : bo + 1 ≤ de) (e5 : (bx_up S 480 0 0) 482 1 = x11) : (True) ∧ rxPS224 S0 ws (bx_up (bx_up (bx_up (bx_up (bx_up (bx_up S 480 0 0) 482 (x12 + 238) bo) 482 (x13 + 239) de) 482 (x14 + 240) me) 482 1 (x11 + 1)) 480 1 0) (some x11) := by
  obtain ⟨rfl, hw⟩ := hinv
  have e5 := (show _ = S 482 1 from (bx_up_ne (by omega))).symm.trans e5
  refine ⟨trivial, bo, de, me, hw, Or.inr (Or.inr (⟨?_, ?_, ?_, ?_, ?_, ?_, ?_, ?_, ((bx_up_ne (by omega)).trans (bx_up_at)).trans (by omega), ?_, ?_, ?_⟩))⟩ <;> first | omega | exact hin2 | exact congrArg some (by omega) | (intro i i0 i1; simp only [bx_up]; (repeat' split) <;> first | rfl | omega | (simp_all; done) | (simp_all; omega)) | ((repeat (first | rw [bx_up_at] | rw [bx_up_ne (by omega)])); omega) | exact True.intro
theorem rxf224_0_7 {X : (Nat → Int → Int) → Prop} {S0 : Nat → Int → Int} {ws : List Int} (hP : rxP224 S0 ws) : bx_obE rxL X S0 rxC224.2.2.1 (rxI224 S0 ws) (rxPS224 S0 ws) 0 rxz224_0 rxe224_0_7 := by
  intro S S' r r' hinv hX hin hsm_ hseg
  obtain ⟨I0, I1, h0_, hr_, b_, f_, d_⟩ := bx_cl (evs := [(1, (0, 480), (0, 1), .inr (0, (0, 0))), (1, (0, 482), (0, 1), .inr (0, (11, 1))), (1, (0, 482), (14, 240), .inr (0, (10, 0))), (1, (0, 482), (13, 239), .inr (0, (9, 0))), (1, (0, 482), (12, 238), .inr (0, (8, 0))), (0, (0, 482), (0, 1), .inr (0, (11, 0))), (1, (0, 480), (0, 0), .inr (0, (0, 0)))]) (fvs := [(4, (14, 0), (11, 0), (0, 3)), (4, (13, 0), (11, 0), (0, 3)), (4, (12, 0), (11, 0), (0, 3)), (3, (11, 0), (0, 8), (0, 0)), (1, (8, 1), (9, 0), (0, 0))]) hseg (by decide +kernel) (by decide +kernel)
  have hinv : rxI224_0 S0 ws S (r 8) (r 9) (r 10) := hinv
  rw [← hr_ 8 (by decide), ← hr_ 9 (by decide), ← hr_ 10 (by decide)] at hinv
  obtain ⟨⟨l8, u8⟩, ⟨l9, u9⟩, ⟨l10, u10⟩, ⟨l11, u11⟩, ⟨l12, u12⟩, ⟨l13, u13⟩, ⟨l14, u14⟩, -⟩ := b_
  obtain ⟨f0, f1, f2, f3, f4, -⟩ := f_
  obtain ⟨T0, ⟨T1, ⟨T2, ⟨T3, ⟨T4, ⟨e5, ⟨T6, w_, w6⟩⟩, w4⟩, w3⟩, w2⟩, w1⟩, w0⟩ := d_
  subst w0
  subst w1
  subst w2
  subst w3
  subst w4
  subst w6
  subst w_
  have g := rxd224_0_7 hP hin hsm_ I0 I1 hinv l8 u8 l9 u9 l10 u10 l11 u11 l12 u12 l13 u13 l14 u14 f0 f1 f2 f3 f4 e5
  refine ⟨bx_narP_ok (l := []) g.1, ?_⟩
  show rxPS224 S0 ws (bx_up (bx_up (bx_up (bx_up (bx_up (bx_up T6 480 (0) (0)) 482 (r' 12 + 238) (r' 8)) 482 (r' 13 + 239) (r' 9)) 482 (r' 14 + 240) (r' 10)) 482 (1) (r' 11 + 1)) 480 (1) (0)) (some (bx_num r' (.inr (0, (11, 0)))))
  rw [bx_xv_ok h0_]
  exact g.2
theorem rxgC224 {X : (Nat → Int → Int) → Prop} {S0 : Nat → Int → Int} {ws : List Int} (hP : rxP224 S0 ws) : bx_allI (fun i q => rxU224 q = true ∨ bx_allP (fun o => bx_obC rxL X S0 rxC224.2.2.1 (rxI224 S0 ws) (rxm224 S0 ws) i q.1 o) q.2.1) 0 rxY224 := ⟨Or.inr trivial, trivial⟩
theorem rxgE224 {X : (Nat → Int → Int) → Prop} {S0 : Nat → Int → Int} {ws : List Int} (hP : rxP224 S0 ws) : bx_allI (fun i q => rxU224 q = true ∨ bx_allP (fun E => bx_obE rxL X S0 rxC224.2.2.1 (rxI224 S0 ws) (rxPS224 S0 ws) i q.1 E) q.2.2) 0 rxY224 := ⟨Or.inr ⟨rxf224_0_0 hP, rxf224_0_1 hP, rxf224_0_2 hP, rxf224_0_3 hP, rxf224_0_4 hP, rxf224_0_5 hP, rxf224_0_6 hP, rxf224_0_7 hP, trivial⟩, trivial⟩
theorem rxQ224 {PX : State → Prop} {Dg : va_G} {A : Nat → Prop} {ad xa : Nat → Nat} {l : Launch} {X : (Nat → Int → Int) → Prop} (hPX : rx_PXOK rxNW A PX) (hsl : ∀ s : State, PX s → ∀ o idx n : Nat, rxSl o idx = some n → ∃ tx : String, vk_R (rxNm o) idx tx (ad n) s)
    (hX : ∀ S S' : Nat → Int → Int, X S → bx_same rxL (bx_mdl rxC224.2.2.1) S S' → X S')
    (ih : ∀ (j2 : Nat) (ct2 : bx_Ct) (M2 : rx_Mt), ct2 ∈ rxCnE j2 → ct2.2.2.2.1 + 1 ≤ rxC224.2.2.2.1 → rxT.2.2.2.2.2 j2 = some M2 → bx_Con rxG rxNW rxAO PX Dg rxL X vwCl A ad l M2 ct2) : bx_ConP rxG rxNW rxAO PX Dg rxL X vwCl A ad l rxM224 rxC224 rxP224 rxPS224 :=
  rxQof (xa := xa) (Cn := rxCnE) (f := 30000) (j := 224) (tab := rxY224) (us := rxU224) hPX hsl hX ih rfl rxYc224 rxI224 rxm224
    (fun S0 ws r I0 I ht0 ht as he he1 hX0 hI0 hP hs ha => by
      have e := he.symm.trans (show bx_ent0 rxNP rxC224.1 bx_I0 [] = some ([(0, 0), (0, 0), (0, 0), (0, 0), (0, 0), (0, 0), (0, 0), (0, 0), ((-2147483648), 2147483647), ((-2147483648), 2147483647), ((-2147483648), 2147483647)], [], [.inr (3, (0, 480)), .inr (0, (8, 0)), .inr (0, (9, 0)), .inr (0, (10, 0))]) from rfl)
      cases e
      subst ha
      have h0 : r 0 = 0 := hs.1
      show rxI224_0 S0 _ S0 (r 8) (r 9) (r 10)
      refine ⟨rfl, ?_⟩
      simp only [List.map_cons, List.map_nil, bx_xv_ok h0]
      rfl)
    (fun S0 ws hP => fun i q hq hus => absurd (show false = true from hus) Bool.false_ne_true) (fun S0 ws hP => rxgC224 hP) (fun S0 ws hP => rxgE224 hP)
set_option maxHeartbeats 1000000 in
theorem rzQ224 {PX : State → Prop} {Dg : va_G} {A : Nat → Prop} {ad : Nat → Nat} {l : Launch} (hPX : rx_PXOK rxNW A PX) (hsl : ∀ s : State, PX s → ∀ o idx n : Nat, rxSl o idx = some n → ∃ tx : String, vk_R (rxNm o) idx tx (ad n) s) : bx_ConP rxG rxNW rxAO PX Dg rxL rxX vwCl A ad l rxM224 rxC224 (fun _ _ => True) rxPS224 := by
  have q224 := rxQ224 (PX := PX) (Dg := Dg) (A := A) (ad := ad) (xa := fun n => n) (l := l) (X := rxX) hPX hsl (fun _ _ h hm => rxX_of (by decide +kernel) h hm) (fun _ _ _ h => absurd h List.not_mem_nil)
  exact fun S0 ws h1 h2 h3 _ => q224 S0 ws h1 h2 h3 trivial
