/-! CONTRACT BY HAND, by program (wip/sim/genhand.py): DeadUnderstudies.fact -/
def rxI227_0 (S0 : Nat → Int → Int) (ws : List Int) (S : Nat → Int → Int) (pe wh : Int) : Prop := S = S0 ∧ ws = [0, pe, wh]
def rxm227_0 (S0 : Nat → Int → Int) (ws : List Int) (S : Nat → Int → Int) (pe wh : Int) : Nat := 100
def rxz227_0 : rx_Z := ([(0, 0), (0, 0), (0, 0), (0, 0), (0, 0), (0, 0), (0, 0), (0, 0), ((-2147483648), 2147483647), ((-2147483648), 2147483647)], [], [], 0, 0, 0, [(0, .inr (3, (0, 0))), (1, .inr (0, (8, 0))), (2, .inr (0, (9, 0)))], [])
def rxe227_0_0 : rx_End × List (Nat × Int × Int) := (([(0, 0), (0, 0), (0, 0), (0, 0), (0, 0), (0, 0), (0, 0), (0, 0), ((-2147483648), (-1)), ((-2147483648), 2147483647)], [], [(((0, 1), 4), .inr (3, (0, 5))), (((0, 0), 0), .inr (3, (0, 1)))], some (.inr (0, (0, (-1))))), [])
def rxe227_0_1 : rx_End × List (Nat × Int × Int) := (([(0, 0), (0, 0), (0, 0), (0, 0), (0, 0), (0, 0), (0, 0), (0, 0), (0, 2147483647), ((-2147483648), 2147483647), (0, 8)], [(1, (10, 0), (8, 0))], [(((0, 0), 1851192626986356797424340330377019318111018015026043177556312064000000), .inr (0, (10, 0))), (((0, 5), 0), .inr (0, (10, 0))), (((0, 1), 4), .inr (3, (0, 5))), (((0, 0), 0), .inr (3, (0, 1)))], some (.inr (0, (0, (-1))))), [])
def rxe227_0_2 : rx_End × List (Nat × Int × Int) := (([(0, 0), (0, 0), (0, 0), (0, 0), (0, 0), (0, 0), (0, 0), (0, 0), (0, 7), (4, 2147483647), (1, 8)], [(0, (8, 0), (10, 0))], [(((0, 0), 1851192626986356797424340330377019318111018015026043177556312064000000), .inr (0, (10, 0))), (((0, 5), 0), .inr (0, (10, 0))), (((0, 1), 4), .inr (3, (0, 5))), (((0, 0), 0), .inr (3, (0, 1)))], some (.inr (0, (0, (-1))))), [])
def rxe227_0_3 : rx_End × List (Nat × Int × Int) := (([(0, 0), (0, 0), (0, 0), (0, 0), (0, 0), (0, 0), (0, 0), (0, 0), (0, 7), ((-2147483648), (-1)), (1, 8)], [(0, (8, 0), (10, 0))], [(((0, 0), 1851192626986356797424340330377019318111018015026043177556312064000000), .inr (0, (10, 0))), (((0, 5), 0), .inr (0, (10, 0))), (((0, 1), 4), .inr (3, (0, 5))), (((0, 0), 0), .inr (3, (0, 1)))], some (.inr (0, (0, (-1))))), [])
def rxe227_0_4 : rx_End × List (Nat × Int × Int) := (([(0, 0), (0, 0), (0, 0), (0, 0), (0, 0), (0, 0), (0, 0), (0, 0), (0, 7), (3, 3), (1, 8), (0, 299), (0, 200), (1, 300)], [(0, (11, 0), (13, 0)), (1, (12, 0), (11, 0)), (0, (8, 0), (10, 0)), (0, (8, 0), (10, 0))], [(((0, 0), 1851192626986356797424364830707437625680387377997778264868716544000000), .inr (0, (13, 0))), (((0, 5), 2), .inr (3, (0, 7))), (((0, 0), 1851192626986356797424364830707437625680387377997778264868126720000000), .inr (0, (12, 0))), (((0, 5), 1), .inr (3, (0, 6))), (((0, 0), 1851192626986356797424340330377019318111018015026043177564569600000000), .inr (0, (11, 0))), (((0, 19), 0), .inr (0, (11, 0))), (((0, 1), 13), .inr (3, (0, 19))), (((0, 0), 1851192626986356797424340330377019318111018015026043177556312064000000), .inr (0, (10, 0))), (((0, 5), 0), .inr (0, (10, 0))), (((0, 1), 4), .inr (3, (0, 5))), (((0, 0), 0), .inr (3, (0, 1)))], some (.inr (0, (0, 1)))), [])
def rxe227_0_5 : rx_End × List (Nat × Int × Int) := (([(0, 0), (0, 0), (0, 0), (0, 0), (0, 0), (0, 0), (0, 0), (0, 0), (0, 7), (3, 3), (1, 8), (0, 300), (0, 200), (0, 300)], [(1, (13, 0), (11, 0)), (1, (12, 0), (11, 0)), (0, (8, 0), (10, 0)), (0, (8, 0), (10, 0))], [(((0, 0), 1851192626986356797424364830707437625680387377997778264868716544000000), .inr (0, (13, 0))), (((0, 5), 2), .inr (3, (0, 7))), (((0, 0), 1851192626986356797424364830707437625680387377997778264868126720000000), .inr (0, (12, 0))), (((0, 5), 1), .inr (3, (0, 6))), (((0, 0), 1851192626986356797424340330377019318111018015026043177564569600000000), .inr (0, (11, 0))), (((0, 19), 0), .inr (0, (11, 0))), (((0, 1), 13), .inr (3, (0, 19))), (((0, 0), 1851192626986356797424340330377019318111018015026043177556312064000000), .inr (0, (10, 0))), (((0, 5), 0), .inr (0, (10, 0))), (((0, 1), 4), .inr (3, (0, 5))), (((0, 0), 0), .inr (3, (0, 1)))], some (.inr (0, (0, 0)))), [])
def rxe227_0_6 : rx_End × List (Nat × Int × Int) := (([(0, 0), (0, 0), (0, 0), (0, 0), (0, 0), (0, 0), (0, 0), (0, 0), (0, 7), (3, 3), (1, 8), (0, 199), (1, 200)], [(0, (11, 0), (12, 0)), (0, (8, 0), (10, 0)), (0, (8, 0), (10, 0))], [(((0, 0), 1851192626986356797424364830707437625680387377997778264868126720000000), .inr (0, (12, 0))), (((0, 5), 1), .inr (3, (0, 6))), (((0, 0), 1851192626986356797424340330377019318111018015026043177564569600000000), .inr (0, (11, 0))), (((0, 19), 0), .inr (0, (11, 0))), (((0, 1), 13), .inr (3, (0, 19))), (((0, 0), 1851192626986356797424340330377019318111018015026043177556312064000000), .inr (0, (10, 0))), (((0, 5), 0), .inr (0, (10, 0))), (((0, 1), 4), .inr (3, (0, 5))), (((0, 0), 0), .inr (3, (0, 1)))], some (.inr (0, (0, 0)))), [])
def rxe227_0_7 : rx_End × List (Nat × Int × Int) := (([(0, 0), (0, 0), (0, 0), (0, 0), (0, 0), (0, 0), (0, 0), (0, 0), (0, 7), (2, 2), (1, 8), (0, 9)], [(0, (8, 0), (10, 0))], [(((0, 0), 1851192626986356797424364830707437625680387377997778264869306368000000), .inr (0, (11, 0))), (((0, 5), 3), .inr (3, (0, 8))), (((0, 0), 1851192626986356797424340330377019318111018015026043177556312064000000), .inr (0, (10, 0))), (((0, 5), 0), .inr (0, (10, 0))), (((0, 1), 4), .inr (3, (0, 5))), (((0, 0), 0), .inr (3, (0, 1)))], some (.inr (0, (11, 0)))), [])
def rxe227_0_8 : rx_End × List (Nat × Int × Int) := (([(0, 0), (0, 0), (0, 0), (0, 0), (0, 0), (0, 0), (0, 0), (0, 0), (0, 7), (1, 1), (1, 8), (0, 300)], [(0, (8, 0), (10, 0))], [(((0, 0), 1851192626986356797424364830707437625680387377997778264868716544000000), .inr (0, (11, 0))), (((0, 5), 2), .inr (3, (0, 7))), (((0, 0), 1851192626986356797424340330377019318111018015026043177556312064000000), .inr (0, (10, 0))), (((0, 5), 0), .inr (0, (10, 0))), (((0, 1), 4), .inr (3, (0, 5))), (((0, 0), 0), .inr (3, (0, 1)))], some (.inr (0, (11, 0)))), [])
def rxe227_0_9 : rx_End × List (Nat × Int × Int) := (([(0, 0), (0, 0), (0, 0), (0, 0), (0, 0), (0, 0), (0, 0), (0, 0), (0, 7), (0, 0), (1, 8), (0, 200)], [(0, (8, 0), (10, 0))], [(((0, 0), 1851192626986356797424364830707437625680387377997778264868126720000000), .inr (0, (11, 0))), (((0, 5), 1), .inr (3, (0, 6))), (((0, 0), 1851192626986356797424340330377019318111018015026043177556312064000000), .inr (0, (10, 0))), (((0, 5), 0), .inr (0, (10, 0))), (((0, 1), 4), .inr (3, (0, 5))), (((0, 0), 0), .inr (3, (0, 1)))], some (.inr (0, (11, 0)))), [])
def rxY227 : List bx_HE := [(rxz227_0, [], [rxe227_0_0, rxe227_0_1, rxe227_0_2, rxe227_0_3, rxe227_0_4, rxe227_0_5, rxe227_0_6, rxe227_0_7, rxe227_0_8, rxe227_0_9])]
def rxU227 (q : bx_HE) : Bool := false
def rxYB227 : bx_B := (rxV, rxNP, rxDmf, bx_mdH rxC227.2.2.1)
set_option maxRecDepth 100000 in
theorem rxYc227 : bx_chkH rxYB227 rxM227 rxC227 rxY227 (rxU227, fun cut z => rx_ex2 (rxCT rxYB227 rxCnE) cut 30000 rxC227.2.2.2.1 227 z) = true := by decide +kernel
def rxI227 (S0 : Nat → Int → Int) (ws : List Int) (i : Nat) : bx_SP := fun S r => match i with | 0 => rxI227_0 S0 ws S (r 8) (r 9) | _ => False
def rxm227 (S0 : Nat → Int → Int) (ws : List Int) (i : Nat) (S : Nat → Int → Int) (r : Nat → Int) : Nat := match i with | 0 => rxm227_0 S0 ws S (r 8) (r 9) | _ => 0
def rxP227 (S0 : Nat → Int → Int) (ws : List Int) : Prop := True
def rxPS227 (S0 : Nat → Int → Int) (ws : List Int) (S : Nat → Int → Int) (w : Option Int) : Prop := ∃ pe wh : Int, ws = [0, pe, wh] ∧ (((pe < 0 ∨ 7 < pe ∨ S0 5 0 ≤ pe ∨ wh < 0 ∨ 3 < wh) ∧ w = some (-1) ∧ bx_same rxL (bx_mdl rxC110.2.2.1) S0 S) ∨ (wh = 0 ∧ 0 ≤ pe ∧ pe ≤ 7 ∧ pe < S0 5 0 ∧ w = some (S0 6 pe) ∧ bx_same rxL (bx_mdl rxC110.2.2.1) S0 S) ∨ (wh = 1 ∧ 0 ≤ pe ∧ pe ≤ 7 ∧ pe < S0 5 0 ∧ w = some (S0 7 pe) ∧ bx_same rxL (bx_mdl rxC110.2.2.1) S0 S) ∨ (wh = 2 ∧ 0 ≤ pe ∧ pe ≤ 7 ∧ pe < S0 5 0 ∧ w = some (S0 8 pe) ∧ bx_same rxL (bx_mdl rxC110.2.2.1) S0 S) ∨ (wh = 3 ∧ 0 ≤ pe ∧ pe ≤ 7 ∧ pe < S0 5 0 ∧ S0 6 pe ≤ S0 19 0 ∧ S0 19 0 < S0 7 pe ∧ w = some (1) ∧ bx_same rxL (bx_mdl rxC110.2.2.1) S0 S) ∨ (wh = 3 ∧ 0 ≤ pe ∧ pe ≤ 7 ∧ pe < S0 5 0 ∧ (S0 19 0 < S0 6 pe ∨ S0 7 pe ≤ S0 19 0) ∧ w = some (0) ∧ bx_same rxL (bx_mdl rxC110.2.2.1) S0 S))
theorem rxd227_0_0 {S0 : Nat → Int → Int} {ws : List Int} {S : Nat → Int → Int} {pe wh : Int} (hP : rxP227 S0 ws) (hin : bx_same rxL (bx_mdl rxC227.2.2.1) S0 S) (hin2 : bx_same rxL (bx_mdl rxC227.2.2.1) S S) (I0 : bx_Inv rxL S) (I1 : bx_Inv rxL S) (hinv : rxI227_0 S0 ws S pe wh) (l8 : (-2147483648) ≤ pe) (u8 : pe ≤ (-1)) (l9 : (-2147483648) ≤ wh) (u9 : wh ≤ 2147483647) : (True) ∧ rxPS227 S0 ws S (some ((-1))) := by
  obtain ⟨rfl, hw⟩ := hinv
  refine ⟨trivial, pe, wh, hw, Or.inl (⟨?_, ?_, ?_⟩)⟩ <;> first | omega | exact hin2 | exact congrArg some (by omega) | (intro i i0 i1; simp only [bx_up]; (repeat' split) <;> first | rfl | omega | (simp_all; done) | (simp_all; omega)) | ((repeat (first | rw [bx_up_at] | rw [bx_up_ne (by omega)])); omega) | exact True.intro
theorem rxf227_0_0 {X : (Nat → Int → Int) → Prop} {S0 : Nat → Int → Int} {ws : List Int} (hP : rxP227 S0 ws) : bx_obE rxL X S0 rxC227.2.2.1 (rxI227 S0 ws) (rxPS227 S0 ws) 0 rxz227_0 rxe227_0_0 := by
  intro S S' r r' hinv hX hin hsm_ hseg
  obtain ⟨I0, I1, h0_, hr_, b_, f_, d_⟩ := bx_cl (evs := []) (fvs := []) hseg (by decide +kernel) (by decide +kernel)
  have hinv : rxI227_0 S0 ws S (r 8) (r 9) := hinv
  rw [← hr_ 8 (by decide), ← hr_ 9 (by decide)] at hinv
  obtain ⟨⟨l8, u8⟩, ⟨l9, u9⟩, -⟩ := b_
  have w_ := d_
  subst w_
  have g := rxd227_0_0 hP hin hsm_ I0 I1 hinv l8 u8 l9 u9
  refine ⟨bx_narP_ok (l := []) g.1, ?_⟩
  show rxPS227 S0 ws S' (some (bx_num r' (.inr (0, (0, (-1))))))
  rw [bx_xv_ok h0_]
  exact g.2
theorem rxd227_0_1 {S0 : Nat → Int → Int} {ws : List Int} {S : Nat → Int → Int} {pe wh x10 : Int} (hP : rxP227 S0 ws) (hin : bx_same rxL (bx_mdl rxC227.2.2.1) S0 S) (hin2 : bx_same rxL (bx_mdl rxC227.2.2.1) S S) (I0 : bx_Inv rxL S) (I1 : bx_Inv rxL S) (hinv : rxI227_0 S0 ws S pe wh) (l8 : 0 ≤ pe) (u8 : pe ≤ 2147483647) (l9 : (-2147483648) ≤ wh) (u9 : wh ≤ 2147483647) (l10 : 0 ≤ x10) (u10 : x10 ≤ 8) (f0 : x10 ≤ pe) (e0 : S 5 0 = x10) : (True) ∧ rxPS227 S0 ws S (some ((-1))) := by
  obtain ⟨rfl, hw⟩ := hinv
  refine ⟨trivial, pe, wh, hw, Or.inl (⟨?_, ?_, ?_⟩)⟩ <;> first | omega | exact hin2 | exact congrArg some (by omega) | (intro i i0 i1; simp only [bx_up]; (repeat' split) <;> first | rfl | omega | (simp_all; done) | (simp_all; omega)) | ((repeat (first | rw [bx_up_at] | rw [bx_up_ne (by omega)])); omega) | exact True.intro
theorem rxf227_0_1 {X : (Nat → Int → Int) → Prop} {S0 : Nat → Int → Int} {ws : List Int} (hP : rxP227 S0 ws) : bx_obE rxL X S0 rxC227.2.2.1 (rxI227 S0 ws) (rxPS227 S0 ws) 0 rxz227_0 rxe227_0_1 := by
  intro S S' r r' hinv hX hin hsm_ hseg
  obtain ⟨I0, I1, h0_, hr_, b_, f_, d_⟩ := bx_cl (evs := [(0, (0, 5), (0, 0), .inr (0, (10, 0)))]) (fvs := [(1, (10, 0), (8, 0), (0, 0))]) hseg (by decide +kernel) (by decide +kernel)
  have hinv : rxI227_0 S0 ws S (r 8) (r 9) := hinv
  rw [← hr_ 8 (by decide), ← hr_ 9 (by decide)] at hinv
  obtain ⟨⟨l8, u8⟩, ⟨l9, u9⟩, ⟨l10, u10⟩, -⟩ := b_
  obtain ⟨f0, -⟩ := f_
  obtain ⟨e0, w_⟩ := d_
  subst w_
  have g := rxd227_0_1 hP hin hsm_ I0 I1 hinv l8 u8 l9 u9 l10 u10 f0 e0
  refine ⟨bx_narP_ok (l := []) g.1, ?_⟩
  show rxPS227 S0 ws S' (some (bx_num r' (.inr (0, (0, (-1))))))
  rw [bx_xv_ok h0_]
  exact g.2
theorem rxd227_0_2 {S0 : Nat → Int → Int} {ws : List Int} {S : Nat → Int → Int} {pe wh x10 : Int} (hP : rxP227 S0 ws) (hin : bx_same rxL (bx_mdl rxC227.2.2.1) S0 S) (hin2 : bx_same rxL (bx_mdl rxC227.2.2.1) S S) (I0 : bx_Inv rxL S) (I1 : bx_Inv rxL S) (hinv : rxI227_0 S0 ws S pe wh) (l8 : 0 ≤ pe) (u8 : pe ≤ 7) (l9 : 4 ≤ wh) (u9 : wh ≤ 2147483647) (l10 : 1 ≤ x10) (u10 : x10 ≤ 8) (f0 : pe < x10) (e0 : S 5 0 = x10) : (True) ∧ rxPS227 S0 ws S (some ((-1))) := by
  obtain ⟨rfl, hw⟩ := hinv
  refine ⟨trivial, pe, wh, hw, Or.inl (⟨?_, ?_, ?_⟩)⟩ <;> first | omega | exact hin2 | exact congrArg some (by omega) | (intro i i0 i1; simp only [bx_up]; (repeat' split) <;> first | rfl | omega | (simp_all; done) | (simp_all; omega)) | ((repeat (first | rw [bx_up_at] | rw [bx_up_ne (by omega)])); omega) | exact True.intro
theorem rxf227_0_2 {X : (Nat → Int → Int) → Prop} {S0 : Nat → Int → Int} {ws : List Int} (hP : rxP227 S0 ws) : bx_obE rxL X S0 rxC227.2.2.1 (rxI227 S0 ws) (rxPS227 S0 ws) 0 rxz227_0 rxe227_0_2 := by
  intro S S' r r' hinv hX hin hsm_ hseg
  obtain ⟨I0, I1, h0_, hr_, b_, f_, d_⟩ := bx_cl (evs := [(0, (0, 5), (0, 0), .inr (0, (10, 0)))]) (fvs := [(0, (8, 0), (10, 0), (0, 0))]) hseg (by decide +kernel) (by decide +kernel)
  have hinv : rxI227_0 S0 ws S (r 8) (r 9) := hinv
  rw [← hr_ 8 (by decide), ← hr_ 9 (by decide)] at hinv
  obtain ⟨⟨l8, u8⟩, ⟨l9, u9⟩, ⟨l10, u10⟩, -⟩ := b_
  obtain ⟨f0, -⟩ := f_
  obtain ⟨e0, w_⟩ := d_
  subst w_
  have g := rxd227_0_2 hP hin hsm_ I0 I1 hinv l8 u8 l9 u9 l10 u10 f0 e0
  refine ⟨bx_narP_ok (l := []) g.1, ?_⟩
  show rxPS227 S0 ws S' (some (bx_num r' (.inr (0, (0, (-1))))))
  rw [bx_xv_ok h0_]
  exact g.2
theorem rxd227_0_3 {S0 : Nat → Int → Int} {ws : List Int} {S : Nat → Int → Int} {pe wh x10 : Int} (hP : rxP227 S0 ws) (hin : bx_same rxL (bx_mdl rxC227.2.2.1) S0 S) (hin2 : bx_same rxL (bx_mdl rxC227.2.2.1) S S) (I0 : bx_Inv rxL S) (I1 : bx_Inv rxL S) (hinv : rxI227_0 S0 ws S pe wh) (l8 : 0 ≤ pe) (u8 : pe ≤ 7) (l9 : (-2147483648) ≤ wh) (u9 : wh ≤ (-1)) (l10 : 1 ≤ x10) (u10 : x10 ≤ 8) (f0 : pe < x10) (e0 : S 5 0 = x10) : (True) ∧ rxPS227 S0 ws S (some ((-1))) := by
  obtain ⟨rfl, hw⟩ := hinv
  refine ⟨trivial, pe, wh, hw, Or.inl (⟨?_, ?_, ?_⟩)⟩ <;> first | omega | exact hin2 | exact congrArg some (by omega) | (intro i i0 i1; simp only [bx_up]; (repeat' split) <;> first | rfl | omega | (simp_all; done) | (simp_all; omega)) | ((repeat (first | rw [bx_up_at] | rw [bx_up_ne (by omega)])); omega) | exact True.intro
theorem rxf227_0_3 {X : (Nat → Int → Int) → Prop} {S0 : Nat → Int → Int} {ws : List Int} (hP : rxP227 S0 ws) : bx_obE rxL X S0 rxC227.2.2.1 (rxI227 S0 ws) (rxPS227 S0 ws) 0 rxz227_0 rxe227_0_3 := by
  intro S S' r r' hinv hX hin hsm_ hseg
  obtain ⟨I0, I1, h0_, hr_, b_, f_, d_⟩ := bx_cl (evs := [(0, (0, 5), (0, 0), .inr (0, (10, 0)))]) (fvs := [(0, (8, 0), (10, 0), (0, 0))]) hseg (by decide +kernel) (by decide +kernel)
  have hinv : rxI227_0 S0 ws S (r 8) (r 9) := hinv
  rw [← hr_ 8 (by decide), ← hr_ 9 (by decide)] at hinv
  obtain ⟨⟨l8, u8⟩, ⟨l9, u9⟩, ⟨l10, u10⟩, -⟩ := b_
  obtain ⟨f0, -⟩ := f_
  obtain ⟨e0, w_⟩ := d_
  subst w_
  have g := rxd227_0_3 hP hin hsm_ I0 I1 hinv l8 u8 l9 u9 l10 u10 f0 e0
  refine ⟨bx_narP_ok (l := []) g.1, ?_⟩
  show rxPS227 S0 ws S' (some (bx_num r' (.inr (0, (0, (-1))))))
  rw [bx_xv_ok h0_]
  exact g.2
theorem rxd227_0_4 {S0 : Nat → Int → Int} {ws : List Int} {S : Nat → Int → Int} {pe wh x10 x11 x12 x13 : Int} (hP : rxP227 S0 ws) (hin : bx_same rxL (bx_mdl rxC227.2.2.1) S0 S) (hin2 : bx_same rxL (bx_mdl rxC227.2.2.1) S S) (I0 : bx_Inv rxL S) (I1 : bx_Inv rxL S) (hinv : rxI227_0 S0 ws S pe wh) (l8 : 0 ≤ pe) (u8 : pe ≤ 7) (l9 : 3 ≤ wh) (u9 : wh ≤ 3) (l10 : 1 ≤ x10) (u10 : x10 ≤ 8) (l11 : 0 ≤ x11) (u11 : x11 ≤ 299) (l12 : 0 ≤ x12) (u12 : x12 ≤ 200) (l13 : 1 ≤ x13) (u13 : x13 ≤ 300) (f0 : x11 < x13) (f1 : x12 ≤ x11) (f2 : pe < x10) (f3 : pe < x10) (e3 : S 5 0 = x10) (e2 : S 19 0 = x11) (e1 : S 6 pe = x12) (e0 : S 7 pe = x13) : (True) ∧ rxPS227 S0 ws S (some 1) := by
  obtain ⟨rfl, hw⟩ := hinv
  refine ⟨trivial, pe, wh, hw, Or.inr (Or.inr (Or.inr (Or.inr (Or.inl (⟨?_, ?_, ?_, ?_, ?_, ?_, ?_, ?_⟩)))))⟩ <;> first | omega | exact hin2 | exact congrArg some (by omega) | (intro i i0 i1; simp only [bx_up]; (repeat' split) <;> first | rfl | omega | (simp_all; done) | (simp_all; omega)) | ((repeat (first | rw [bx_up_at] | rw [bx_up_ne (by omega)])); omega) | exact True.intro
theorem rxf227_0_4 {X : (Nat → Int → Int) → Prop} {S0 : Nat → Int → Int} {ws : List Int} (hP : rxP227 S0 ws) : bx_obE rxL X S0 rxC227.2.2.1 (rxI227 S0 ws) (rxPS227 S0 ws) 0 rxz227_0 rxe227_0_4 := by
  intro S S' r r' hinv hX hin hsm_ hseg
  obtain ⟨I0, I1, h0_, hr_, b_, f_, d_⟩ := bx_cl (evs := [(0, (0, 7), (8, 0), .inr (0, (13, 0))), (0, (0, 6), (8, 0), .inr (0, (12, 0))), (0, (0, 19), (0, 0), .inr (0, (11, 0))), (0, (0, 5), (0, 0), .inr (0, (10, 0)))]) (fvs := [(0, (11, 0), (13, 0), (0, 0)), (1, (12, 0), (11, 0), (0, 0)), (0, (8, 0), (10, 0), (0, 0)), (0, (8, 0), (10, 0), (0, 0))]) hseg (by decide +kernel) (by decide +kernel)
  have hinv : rxI227_0 S0 ws S (r 8) (r 9) := hinv
  rw [← hr_ 8 (by decide), ← hr_ 9 (by decide)] at hinv
  obtain ⟨⟨l8, u8⟩, ⟨l9, u9⟩, ⟨l10, u10⟩, ⟨l11, u11⟩, ⟨l12, u12⟩, ⟨l13, u13⟩, -⟩ := b_
  obtain ⟨f0, f1, f2, f3, -⟩ := f_
  obtain ⟨e0, ⟨e1, ⟨e2, ⟨e3, w_⟩⟩⟩⟩ := d_
  subst w_
  have g := rxd227_0_4 hP hin hsm_ I0 I1 hinv l8 u8 l9 u9 l10 u10 l11 u11 l12 u12 l13 u13 f0 f1 f2 f3 e3 e2 e1 e0
  refine ⟨bx_narP_ok (l := []) g.1, ?_⟩
  show rxPS227 S0 ws S' (some (bx_num r' (.inr (0, (0, 1)))))
  rw [bx_xv_ok h0_]
  exact g.2
theorem rxd227_0_5 {S0 : Nat → Int → Int} {ws : List Int} {S : Nat → Int → Int} {pe wh x10 x11 x12 x13 : Int} (hP : rxP227 S0 ws) (hin : bx_same rxL (bx_mdl rxC227.2.2.1) S0 S) (hin2 : bx_same rxL (bx_mdl rxC227.2.2.1) S S) (I0 : bx_Inv rxL S) (I1 : bx_Inv rxL S) (hinv : rxI227_0 S0 ws S pe wh) (l8 : 0 ≤ pe) (u8 : pe ≤ 7) (l9 : 3 ≤ wh) (u9 : wh ≤ 3) (l10 : 1 ≤ x10) (u10 : x10 ≤ 8) (l11 : 0 ≤ x11) (u11 : x11 ≤ 300) (l12 : 0 ≤ x12) (u12 : x12 ≤ 200) (l13 : 0 ≤ x13) (u13 : x13 ≤ 300) (f0 : x13 ≤ x11) (f1 : x12 ≤ x11) (f2 : pe < x10) (f3 : pe < x10) (e3 : S 5 0 = x10) (e2 : S 19 0 = x11) (e1 : S 6 pe = x12) (e0 : S 7 pe = x13) : (True) ∧ rxPS227 S0 ws S (some 0) := by
  obtain ⟨rfl, hw⟩ := hinv
  refine ⟨trivial, pe, wh, hw, Or.inr (Or.inr (Or.inr (Or.inr (Or.inr (⟨?_, ?_, ?_, ?_, ?_, ?_, ?_⟩)))))⟩ <;> first | omega | exact hin2 | exact congrArg some (by omega) | (intro i i0 i1; simp only [bx_up]; (repeat' split) <;> first | rfl | omega | (simp_all; done) | (simp_all; omega)) | ((repeat (first | rw [bx_up_at] | rw [bx_up_ne (by omega)])); omega) | exact True.intro
theorem rxf227_0_5 {X : (Nat → Int → Int) → Prop} {S0 : Nat → Int → Int} {ws : List Int} (hP : rxP227 S0 ws) : bx_obE rxL X S0 rxC227.2.2.1 (rxI227 S0 ws) (rxPS227 S0 ws) 0 rxz227_0 rxe227_0_5 := by
  intro S S' r r' hinv hX hin hsm_ hseg
  obtain ⟨I0, I1, h0_, hr_, b_, f_, d_⟩ := bx_cl (evs := [(0, (0, 7), (8, 0), .inr (0, (13, 0))), (0, (0, 6), (8, 0), .inr (0, (12, 0))), (0, (0, 19), (0, 0), .inr (0, (11, 0))), (0, (0, 5), (0, 0), .inr (0, (10, 0)))]) (fvs := [(1, (13, 0), (11, 0), (0, 0)), (1, (12, 0), (11, 0), (0, 0)), (0, (8, 0), (10, 0), (0, 0)), (0, (8, 0), (10, 0), (0, 0))]) hseg (by decide +kernel) (by decide +kernel)
  have hinv : rxI227_0 S0 ws S (r 8) (r 9) := hinv
  rw [← hr_ 8 (by decide), ← hr_ 9 (by decide)] at hinv
  obtain ⟨⟨l8, u8⟩, ⟨l9, u9⟩, ⟨l10, u10⟩, ⟨l11, u11⟩, ⟨l12, u12⟩, ⟨l13, u13⟩, -⟩ := b_
  obtain ⟨f0, f1, f2, f3, -⟩ := f_
  obtain ⟨e0, ⟨e1, ⟨e2, ⟨e3, w_⟩⟩⟩⟩ := d_
  subst w_
  have g := rxd227_0_5 hP hin hsm_ I0 I1 hinv l8 u8 l9 u9 l10 u10 l11 u11 l12 u12 l13 u13 f0 f1 f2 f3 e3 e2 e1 e0
  refine ⟨bx_narP_ok (l := []) g.1, ?_⟩
  show rxPS227 S0 ws S' (some (bx_num r' (.inr (0, (0, 0)))))
  rw [bx_xv_ok h0_]
  exact g.2
theorem rxd227_0_6 {S0 : Nat → Int → Int} {ws : List Int} {S : Nat → Int → Int} {pe wh x10 x11 x12 : Int} (hP : rxP227 S0 ws) (hin : bx_same rxL (bx_mdl rxC227.2.2.1) S0 S) (hin2 : bx_same rxL (bx_mdl rxC227.2.2.1) S S) (I0 : bx_Inv rxL S) (I1 : bx_Inv rxL S) (hinv : rxI227_0 S0 ws S pe wh) (l8 : 0 ≤ pe) (u8 : pe ≤ 7) (l9 : 3 ≤ wh) (u9 : wh ≤ 3) (l10 : 1 ≤ x10) (u10 : x10 ≤ 8) (l11 : 0 ≤ x11) (u11 : x11 ≤ 199) (l12 : 1 ≤ x12) (u12 : x12 ≤ 200) (f0 : x11 < x12) (f1 : pe < x10) (f2 : pe < x10) (e2 : S 5 0 = x10) (e1 : S 19 0 = x11) (e0 : S 6 pe = x12) : (True) ∧ rxPS227 S0 ws S (some 0) := by
  obtain ⟨rfl, hw⟩ := hinv
  refine ⟨trivial, pe, wh, hw, Or.inr (Or.inr (Or.inr (Or.inr (Or.inr (⟨?_, ?_, ?_, ?_, ?_, ?_, ?_⟩)))))⟩ <;> first | omega | exact hin2 | exact congrArg some (by omega) | (intro i i0 i1; simp only [bx_up]; (repeat' split) <;> first | rfl | omega | (simp_all; done) | (simp_all; omega)) | ((repeat (first | rw [bx_up_at] | rw [bx_up_ne (by omega)])); omega) | exact True.intro
theorem rxf227_0_6 {X : (Nat → Int → Int) → Prop} {S0 : Nat → Int → Int} {ws : List Int} (hP : rxP227 S0 ws) : bx_obE rxL X S0 rxC227.2.2.1 (rxI227 S0 ws) (rxPS227 S0 ws) 0 rxz227_0 rxe227_0_6 := by
  intro S S' r r' hinv hX hin hsm_ hseg
  obtain ⟨I0, I1, h0_, hr_, b_, f_, d_⟩ := bx_cl (evs := [(0, (0, 6), (8, 0), .inr (0, (12, 0))), (0, (0, 19), (0, 0), .inr (0, (11, 0))), (0, (0, 5), (0, 0), .inr (0, (10, 0)))]) (fvs := [(0, (11, 0), (12, 0), (0, 0)), (0, (8, 0), (10, 0), (0, 0)), (0, (8, 0), (10, 0), (0, 0))]) hseg (by decide +kernel) (by decide +kernel)
  have hinv : rxI227_0 S0 ws S (r 8) (r 9) := hinv
  rw [← hr_ 8 (by decide), ← hr_ 9 (by decide)] at hinv
  obtain ⟨⟨l8, u8⟩, ⟨l9, u9⟩, ⟨l10, u10⟩, ⟨l11, u11⟩, ⟨l12, u12⟩, -⟩ := b_
  obtain ⟨f0, f1, f2, -⟩ := f_
  obtain ⟨e0, ⟨e1, ⟨e2, w_⟩⟩⟩ := d_
  subst w_
  have g := rxd227_0_6 hP hin hsm_ I0 I1 hinv l8 u8 l9 u9 l10 u10 l11 u11 l12 u12 f0 f1 f2 e2 e1 e0
  refine ⟨bx_narP_ok (l := []) g.1, ?_⟩
  show rxPS227 S0 ws S' (some (bx_num r' (.inr (0, (0, 0)))))
  rw [bx_xv_ok h0_]
  exact g.2
theorem rxd227_0_7 {S0 : Nat → Int → Int} {ws : List Int} {S : Nat → Int → Int} {pe wh x10 x11 : Int} (hP : rxP227 S0 ws) (hin : bx_same rxL (bx_mdl rxC227.2.2.1) S0 S) (hin2 : bx_same rxL (bx_mdl rxC227.2.2.1) S S) (I0 : bx_Inv rxL S) (I1 : bx_Inv rxL S) (hinv : rxI227_0 S0 ws S pe wh) (l8 : 0 ≤ pe) (u8 : pe ≤ 7) (l9 : 2 ≤ wh) (u9 : wh ≤ 2) (l10 : 1 ≤ x10) (u10 : x10 ≤ 8) (l11 : 0 ≤ x11) (u11 : x11 ≤ 9) (f0 : pe < x10) (e1 : S 5 0 = x10) (e0 : S 8 pe = x11) : (True) ∧ rxPS227 S0 ws S (some x11) := by
  obtain ⟨rfl, hw⟩ := hinv
  refine ⟨trivial, pe, wh, hw, Or.inr (Or.inr (Or.inr (Or.inl (⟨?_, ?_, ?_, ?_, ?_, ?_⟩))))⟩ <;> first | omega | exact hin2 | exact congrArg some (by omega) | (intro i i0 i1; simp only [bx_up]; (repeat' split) <;> first | rfl | omega | (simp_all; done) | (simp_all; omega)) | ((repeat (first | rw [bx_up_at] | rw [bx_up_ne (by omega)])); omega) | exact True.intro
theorem rxf227_0_7 {X : (Nat → Int → Int) → Prop} {S0 : Nat → Int → Int} {ws : List Int} (hP : rxP227 S0 ws) : bx_obE rxL X S0 rxC227.2.2.1 (rxI227 S0 ws) (rxPS227 S0 ws) 0 rxz227_0 rxe227_0_7 := by
  intro S S' r r' hinv hX hin hsm_ hseg
  obtain ⟨I0, I1, h0_, hr_, b_, f_, d_⟩ := bx_cl (evs := [(0, (0, 8), (8, 0), .inr (0, (11, 0))), (0, (0, 5), (0, 0), .inr (0, (10, 0)))]) (fvs := [(0, (8, 0), (10, 0), (0, 0))]) hseg (by decide +kernel) (by decide +kernel)
  have hinv : rxI227_0 S0 ws S (r 8) (r 9) := hinv
  rw [← hr_ 8 (by decide), ← hr_ 9 (by decide)] at hinv
  obtain ⟨⟨l8, u8⟩, ⟨l9, u9⟩, ⟨l10, u10⟩, ⟨l11, u11⟩, -⟩ := b_
  obtain ⟨f0, -⟩ := f_
  obtain ⟨e0, ⟨e1, w_⟩⟩ := d_
  subst w_
  have g := rxd227_0_7 hP hin hsm_ I0 I1 hinv l8 u8 l9 u9 l10 u10 l11 u11 f0 e1 e0
  refine ⟨bx_narP_ok (l := []) g.1, ?_⟩
  show rxPS227 S0 ws S' (some (bx_num r' (.inr (0, (11, 0)))))
  rw [bx_xv_ok h0_]
  exact g.2
theorem rxd227_0_8 {S0 : Nat → Int → Int} {ws : List Int} {S : Nat → Int → Int} {pe wh x10 x11 : Int} (hP : rxP227 S0 ws) (hin : bx_same rxL (bx_mdl rxC227.2.2.1) S0 S) (hin2 : bx_same rxL (bx_mdl rxC227.2.2.1) S S) (I0 : bx_Inv rxL S) (I1 : bx_Inv rxL S) (hinv : rxI227_0 S0 ws S pe wh) (l8 : 0 ≤ pe) (u8 : pe ≤ 7) (l9 : 1 ≤ wh) (u9 : wh ≤ 1) (l10 : 1 ≤ x10) (u10 : x10 ≤ 8) (l11 : 0 ≤ x11) (u11 : x11 ≤ 300) (f0 : pe < x10) (e1 : S 5 0 = x10) (e0 : S 7 pe = x11) : (True) ∧ rxPS227 S0 ws S (some x11) := by
  obtain ⟨rfl, hw⟩ := hinv
  refine ⟨trivial, pe, wh, hw, Or.inr (Or.inr (Or.inl (⟨?_, ?_, ?_, ?_, ?_, ?_⟩)))⟩ <;> first | omega | exact hin2 | exact congrArg some (by omega) | (intro i i0 i1; simp only [bx_up]; (repeat' split) <;> first | rfl | omega | (simp_all; done) | (simp_all; omega)) | ((repeat (first | rw [bx_up_at] | rw [bx_up_ne (by omega)])); omega) | exact True.intro
theorem rxf227_0_8 {X : (Nat → Int → Int) → Prop} {S0 : Nat → Int → Int} {ws : List Int} (hP : rxP227 S0 ws) : bx_obE rxL X S0 rxC227.2.2.1 (rxI227 S0 ws) (rxPS227 S0 ws) 0 rxz227_0 rxe227_0_8 := by
  intro S S' r r' hinv hX hin hsm_ hseg
  obtain ⟨I0, I1, h0_, hr_, b_, f_, d_⟩ := bx_cl (evs := [(0, (0, 7), (8, 0), .inr (0, (11, 0))), (0, (0, 5), (0, 0), .inr (0, (10, 0)))]) (fvs := [(0, (8, 0), (10, 0), (0, 0))]) hseg (by decide +kernel) (by decide +kernel)
  have hinv : rxI227_0 S0 ws S (r 8) (r 9) := hinv
  rw [← hr_ 8 (by decide), ← hr_ 9 (by decide)] at hinv
  obtain ⟨⟨l8, u8⟩, ⟨l9, u9⟩, ⟨l10, u10⟩, ⟨l11, u11⟩, -⟩ := b_
  obtain ⟨f0, -⟩ := f_
  obtain ⟨e0, ⟨e1, w_⟩⟩ := d_
  subst w_
  have g := rxd227_0_8 hP hin hsm_ I0 I1 hinv l8 u8 l9 u9 l10 u10 l11 u11 f0 e1 e0
  refine ⟨bx_narP_ok (l := []) g.1, ?_⟩
  show rxPS227 S0 ws S' (some (bx_num r' (.inr (0, (11, 0)))))
  rw [bx_xv_ok h0_]
  exact g.2
theorem rxd227_0_9 {S0 : Nat → Int → Int} {ws : List Int} {S : Nat → Int → Int} {pe wh x10 x11 : Int} (hP : rxP227 S0 ws) (hin : bx_same rxL (bx_mdl rxC227.2.2.1) S0 S) (hin2 : bx_same rxL (bx_mdl rxC227.2.2.1) S S) (I0 : bx_Inv rxL S) (I1 : bx_Inv rxL S) (hinv : rxI227_0 S0 ws S pe wh) (l8 : 0 ≤ pe) (u8 : pe ≤ 7) (l9 : 0 ≤ wh) (u9 : wh ≤ 0) (l10 : 1 ≤ x10) (u10 : x10 ≤ 8) (l11 : 0 ≤ x11) (u11 : x11 ≤ 200) (f0 : pe < x10) (e1 : S 5 0 = x10) (e0 : S 6 pe = x11) : (True) ∧ rxPS227 S0 ws S (some x11) := by
  obtain ⟨rfl, hw⟩ := hinv
  refine ⟨trivial, pe, wh, hw, Or.inr (Or.inl (⟨?_, ?_, ?_, ?_, ?_, ?_⟩))⟩ <;> first | omega | exact hin2 | exact congrArg some (by omega) | (intro i i0 i1; simp only [bx_up]; (repeat' split) <;> first | rfl | omega | (simp_all; done) | (simp_all; omega)) | ((repeat (first | rw [bx_up_at] | rw [bx_up_ne (by omega)])); omega) | exact True.intro
theorem rxf227_0_9 {X : (Nat → Int → Int) → Prop} {S0 : Nat → Int → Int} {ws : List Int} (hP : rxP227 S0 ws) : bx_obE rxL X S0 rxC227.2.2.1 (rxI227 S0 ws) (rxPS227 S0 ws) 0 rxz227_0 rxe227_0_9 := by
  intro S S' r r' hinv hX hin hsm_ hseg
  obtain ⟨I0, I1, h0_, hr_, b_, f_, d_⟩ := bx_cl (evs := [(0, (0, 6), (8, 0), .inr (0, (11, 0))), (0, (0, 5), (0, 0), .inr (0, (10, 0)))]) (fvs := [(0, (8, 0), (10, 0), (0, 0))]) hseg (by decide +kernel) (by decide +kernel)
  have hinv : rxI227_0 S0 ws S (r 8) (r 9) := hinv
  rw [← hr_ 8 (by decide), ← hr_ 9 (by decide)] at hinv
  obtain ⟨⟨l8, u8⟩, ⟨l9, u9⟩, ⟨l10, u10⟩, ⟨l11, u11⟩, -⟩ := b_
  obtain ⟨f0, -⟩ := f_
  obtain ⟨e0, ⟨e1, w_⟩⟩ := d_
  subst w_
  have g := rxd227_0_9 hP hin hsm_ I0 I1 hinv l8 u8 l9 u9 l10 u10 l11 u11 f0 e1 e0
  refine ⟨bx_narP_ok (l := []) g.1, ?_⟩
  show rxPS227 S0 ws S' (some (bx_num r' (.inr (0, (11, 0)))))
  rw [bx_xv_ok h0_]
  exact g.2
theorem rxgC227 {X : (Nat → Int → Int) → Prop} {S0 : Nat → Int → Int} {ws : List Int} (hP : rxP227 S0 ws) : bx_allI (fun i q => rxU227 q = true ∨ bx_allP (fun o => bx_obC rxL X S0 rxC227.2.2.1 (rxI227 S0 ws) (rxm227 S0 ws) i q.1 o) q.2.1) 0 rxY227 := ⟨Or.inr trivial, trivial⟩
theorem rxgE227 {X : (Nat → Int → Int) → Prop} {S0 : Nat → Int → Int} {ws : List Int} (hP : rxP227 S0 ws) : bx_allI (fun i q => rxU227 q = true ∨ bx_allP (fun E => bx_obE rxL X S0 rxC227.2.2.1 (rxI227 S0 ws) (rxPS227 S0 ws) i q.1 E) q.2.2) 0 rxY227 := ⟨Or.inr ⟨rxf227_0_0 hP, rxf227_0_1 hP, rxf227_0_2 hP, rxf227_0_3 hP, rxf227_0_4 hP, rxf227_0_5 hP, rxf227_0_6 hP, rxf227_0_7 hP, rxf227_0_8 hP, rxf227_0_9 hP, trivial⟩, trivial⟩
theorem rxQ227 {PX : State → Prop} {Dg : va_G} {A : Nat → Prop} {ad xa : Nat → Nat} {l : Launch} {X : (Nat → Int → Int) → Prop} (hPX : rx_PXOK rxNW A PX) (hsl : ∀ s : State, PX s → ∀ o idx n : Nat, rxSl o idx = some n → ∃ tx : String, vk_R (rxNm o) idx tx (ad n) s)
    (hX : ∀ S S' : Nat → Int → Int, X S → bx_same rxL (bx_mdl rxC227.2.2.1) S S' → X S')
    (ih : ∀ (j2 : Nat) (ct2 : bx_Ct) (M2 : rx_Mt), ct2 ∈ rxCnE j2 → ct2.2.2.2.1 + 1 ≤ rxC227.2.2.2.1 → rxT.2.2.2.2.2 j2 = some M2 → bx_Con rxG rxNW rxAO PX Dg rxL X vwCl A ad l M2 ct2) : bx_ConP rxG rxNW rxAO PX Dg rxL X vwCl A ad l rxM227 rxC227 rxP227 rxPS227 :=
  rxQof (xa := xa) (Cn := rxCnE) (f := 30000) (j := 227) (tab := rxY227) (us := rxU227) hPX hsl hX ih rfl rxYc227 rxI227 rxm227
    (fun S0 ws r I0 I ht0 ht as he he1 hX0 hI0 hP hs ha => by
      have e := he.symm.trans (show bx_ent0 rxNP rxC227.1 bx_I0 [] = some ([(0, 0), (0, 0), (0, 0), (0, 0), (0, 0), (0, 0), (0, 0), (0, 0), ((-2147483648), 2147483647), ((-2147483648), 2147483647)], [], [.inr (3, (0, 0)), .inr (0, (8, 0)), .inr (0, (9, 0))]) from rfl)
      cases e
      subst ha
      have h0 : r 0 = 0 := hs.1
      show rxI227_0 S0 _ S0 (r 8) (r 9)
      refine ⟨rfl, ?_⟩
      simp only [List.map_cons, List.map_nil, bx_xv_ok h0]
      rfl)
    (fun S0 ws hP => fun i q hq hus => absurd (show false = true from hus) Bool.false_ne_true) (fun S0 ws hP => rxgC227 hP) (fun S0 ws hP => rxgE227 hP)
set_option maxHeartbeats 1000000 in
theorem rzQ227 {PX : State → Prop} {Dg : va_G} {A : Nat → Prop} {ad : Nat → Nat} {l : Launch} (hPX : rx_PXOK rxNW A PX) (hsl : ∀ s : State, PX s → ∀ o idx n : Nat, rxSl o idx = some n → ∃ tx : String, vk_R (rxNm o) idx tx (ad n) s) (ih : ∀ (j : Nat) (ct : bx_Ct) (M : rx_Mt), ct ∈ rxCn j → rxT.2.2.2.2.2 j = some M → bx_Con rxG rxNW rxAO PX Dg rxL rxX vwCl A ad l M ct) : bx_ConP rxG rxNW rxAO PX Dg rxL rxX vwCl A ad l rxM227 rxC227 (fun _ _ => True) rxPS227 := by
  have q227 := rxQ227 (PX := PX) (Dg := Dg) (A := A) (ad := ad) (xa := fun n => n) (l := l) (X := rxX) hPX hsl (fun _ _ h hm => rxX_of (by decide +kernel) h hm) (fun _ _ _ h => absurd h List.not_mem_nil)
  exact fun S0 ws h1 h2 h3 _ => q227 S0 ws h1 h2 h3 trivial
