/-! CONTRACT BY HAND, by program (wip/sim/genhand.py): DeadUnderstudiesModel.fact -/
def rxI228_0 (S0 : Nat → Int → Int) (ws : List Int) (S : Nat → Int → Int) (pe wh : Int) : Prop := S = S0 ∧ ws = [480, pe, wh]
def rxm228_0 (S0 : Nat → Int → Int) (ws : List Int) (S : Nat → Int → Int) (pe wh : Int) : Nat := 100
def rxz228_0 : rx_Z := ([(0, 0), (0, 0), (0, 0), (0, 0), (0, 0), (0, 0), (0, 0), (0, 0), ((-2147483648), 2147483647), ((-2147483648), 2147483647)], [], [], 0, 0, 0, [(0, .inr (3, (0, 480))), (1, .inr (0, (8, 0))), (2, .inr (0, (9, 0)))], [])
def rxe228_0_0 : rx_End × List (Nat × Int × Int) := (([(0, 0), (0, 0), (0, 0), (0, 0), (0, 0), (0, 0), (0, 0), (0, 0), (0, 7), ((-2147483648), (-1)), (1, 8)], [(1, (8, 0), (10, (-1)))], [(((0, 0), 1851192626986356797625047037163794926384839479479878431391481856000000), .inr (0, (10, 0))), (((0, 482), 1), .inr (0, (10, 0))), (((0, 480), 3), .inr (3, (0, 482))), (((0, 0), 1851192626986356797424340330377019318111018015026043177836478467000000), .inr (0, (0, 0))), (((0, 480), 0), .inr (0, (0, 0)))], some (.inr (0, (0, (-1))))), [])
def rxe228_0_1 : rx_End × List (Nat × Int × Int) := (([(0, 0), (0, 0), (0, 0), (0, 0), (0, 0), (0, 0), (0, 0), (0, 0), (0, 7), (4, 2147483647), (1, 8)], [(1, (8, 0), (10, (-1)))], [(((0, 0), 1851192626986356797625047037163794926384839479479878431391481856000000), .inr (0, (10, 0))), (((0, 482), 1), .inr (0, (10, 0))), (((0, 480), 3), .inr (3, (0, 482))), (((0, 0), 1851192626986356797424340330377019318111018015026043177836478467000000), .inr (0, (0, 0))), (((0, 480), 0), .inr (0, (0, 0)))], some (.inr (0, (0, (-1))))), [])
def rxe228_0_2 : rx_End × List (Nat × Int × Int) := (([(0, 0), (0, 0), (0, 0), (0, 0), (0, 0), (0, 0), (0, 0), (0, 0), (0, 7), (0, 2), (1, 8), (0, 21), (238, 261), (0, 300)], [(604462909807314587353097000000, (12, 0), (11, 238)), (7, (11, 0), (8, 0)), (1, (8, 0), (10, (-1)))], [(((0, 0), 1851192626986356797424377080872646779465072059483645808804495360000000), .inr (0, (13, 0))), (((0, 0), 1851192626986356797625047037163794926384839479479878431391481856000000), .inr (0, (10, 0))), (((0, 482), 1), .inr (0, (10, 0))), (((0, 480), 3), .inr (3, (0, 482))), (((0, 0), 1851192626986356797424340330377019318111018015026043177836478467000000), .inr (0, (0, 0))), (((0, 480), 0), .inr (0, (0, 0)))], some (.inr (0, (13, 0)))), [])
def rxe228_0_3 : rx_End × List (Nat × Int × Int) := (([(0, 0), (0, 0), (0, 0), (0, 0), (0, 0), (0, 0), (0, 0), (0, 0), (0, 7), (3, 3), (1, 8), (0, 299), (0, 21), (0, 200), (0, 21), (1, 300)], [(1, (11, 0), (15, (-1))), (1, (13, 0), (11, 0)), (7, (14, 0), (8, 0)), (7, (12, 0), (8, 0)), (1, (8, 0), (10, (-1)))], [(((0, 0), 1851192626986356845393286127994621733800744404693205179996176384000000), .inr (0, (15, 0))), (((0, 0), 1851192626986356845192573296125241548634580599496436154614546432000000), .inr (0, (13, 0))), (((0, 0), 1851192626986356798829287277884448576027768266202889952714424320000000), .inr (0, (11, 0))), (((0, 482), 7), .inr (0, (11, 0))), (((0, 0), 1851192626986356797625047037163794926384839479479878431391481856000000), .inr (0, (10, 0))), (((0, 482), 1), .inr (0, (10, 0))), (((0, 480), 3), .inr (3, (0, 482))), (((0, 0), 1851192626986356797424340330377019318111018015026043177836478467000000), .inr (0, (0, 0))), (((0, 480), 0), .inr (0, (0, 0)))], some (.inr (0, (0, 1)))), [])
def rxe228_0_4 : rx_End × List (Nat × Int × Int) := (([(0, 0), (0, 0), (0, 0), (0, 0), (0, 0), (0, 0), (0, 0), (0, 0), (0, 7), (3, 3), (1, 8), (0, 300), (0, 21), (0, 200), (0, 21), (0, 300)], [(0, (15, (-1)), (11, 0)), (1, (13, 0), (11, 0)), (7, (14, 0), (8, 0)), (7, (12, 0), (8, 0)), (1, (8, 0), (10, (-1)))], [(((0, 0), 1851192626986356845393286127994621733800744404693205179996176384000000), .inr (0, (15, 0))), (((0, 0), 1851192626986356845192573296125241548634580599496436154614546432000000), .inr (0, (13, 0))), (((0, 0), 1851192626986356798829287277884448576027768266202889952714424320000000), .inr (0, (11, 0))), (((0, 482), 7), .inr (0, (11, 0))), (((0, 0), 1851192626986356797625047037163794926384839479479878431391481856000000), .inr (0, (10, 0))), (((0, 482), 1), .inr (0, (10, 0))), (((0, 480), 3), .inr (3, (0, 482))), (((0, 0), 1851192626986356797424340330377019318111018015026043177836478467000000), .inr (0, (0, 0))), (((0, 480), 0), .inr (0, (0, 0)))], some (.inr (0, (0, 0)))), [])
def rxe228_0_5 : rx_End × List (Nat × Int × Int) := (([(0, 0), (0, 0), (0, 0), (0, 0), (0, 0), (0, 0), (0, 0), (0, 0), (0, 7), (3, 3), (1, 8), (0, 199), (0, 21), (1, 200), (0, 21), (0, 300)], [(0, (11, 0), (13, 0)), (7, (14, 0), (8, 0)), (7, (12, 0), (8, 0)), (1, (8, 0), (10, (-1)))], [(((0, 0), 1851192626986356845393286127994621733800744404693205179996176384000000), .inr (0, (15, 0))), (((0, 0), 1851192626986356845192573296125241548634580599496436154614546432000000), .inr (0, (13, 0))), (((0, 0), 1851192626986356798829287277884448576027768266202889952714424320000000), .inr (0, (11, 0))), (((0, 482), 7), .inr (0, (11, 0))), (((0, 0), 1851192626986356797625047037163794926384839479479878431391481856000000), .inr (0, (10, 0))), (((0, 482), 1), .inr (0, (10, 0))), (((0, 480), 3), .inr (3, (0, 482))), (((0, 0), 1851192626986356797424340330377019318111018015026043177836478467000000), .inr (0, (0, 0))), (((0, 480), 0), .inr (0, (0, 0)))], some (.inr (0, (0, 0)))), [])
def rxe228_0_6 : rx_End × List (Nat × Int × Int) := (([(0, 0), (0, 0), (0, 0), (0, 0), (0, 0), (0, 0), (0, 0), (0, 0), (0, 2147483647), ((-2147483648), 2147483647), (0, 8)], [(0, (10, (-1)), (8, 0))], [(((0, 0), 1851192626986356797625047037163794926384839479479878431391481856000000), .inr (0, (10, 0))), (((0, 482), 1), .inr (0, (10, 0))), (((0, 480), 3), .inr (3, (0, 482))), (((0, 0), 1851192626986356797424340330377019318111018015026043177836478467000000), .inr (0, (0, 0))), (((0, 480), 0), .inr (0, (0, 0)))], some (.inr (0, (0, (-1))))), [])
def rxe228_0_7 : rx_End × List (Nat × Int × Int) := (([(0, 0), (0, 0), (0, 0), (0, 0), (0, 0), (0, 0), (0, 0), (0, 0), ((-2147483648), (-1)), ((-2147483648), 2147483647), (0, 8)], [], [(((0, 0), 1851192626986356797625047037163794926384839479479878431391481856000000), .inr (0, (10, 0))), (((0, 482), 1), .inr (0, (10, 0))), (((0, 480), 3), .inr (3, (0, 482))), (((0, 0), 1851192626986356797424340330377019318111018015026043177836478467000000), .inr (0, (0, 0))), (((0, 480), 0), .inr (0, (0, 0)))], some (.inr (0, (0, (-1))))), [])
def rxY228 : List bx_HE := [(rxz228_0, [], [rxe228_0_0, rxe228_0_1, rxe228_0_2, rxe228_0_3, rxe228_0_4, rxe228_0_5, rxe228_0_6, rxe228_0_7])]
def rxU228 (q : bx_HE) : Bool := false
def rxYB228 : bx_B := (rxV, rxNP, rxDmf, bx_mdH rxC228.2.2.1)
set_option maxRecDepth 100000 in
theorem rxYc228 : bx_chkH rxYB228 rxM228 rxC228 rxY228 (rxU228, fun cut z => rx_ex2 (rxCT rxYB228 rxCnE) cut 30000 rxC228.2.2.2.1 228 z) = true := by decide +kernel
def rxI228 (S0 : Nat → Int → Int) (ws : List Int) (i : Nat) : bx_SP := fun S r => match i with | 0 => rxI228_0 S0 ws S (r 8) (r 9) | _ => False
def rxm228 (S0 : Nat → Int → Int) (ws : List Int) (i : Nat) (S : Nat → Int → Int) (r : Nat → Int) : Nat := match i with | 0 => rxm228_0 S0 ws S (r 8) (r 9) | _ => 0
def rxP228 (S0 : Nat → Int → Int) (ws : List Int) : Prop := True
def rxPS228 (S0 : Nat → Int → Int) (ws : List Int) (S : Nat → Int → Int) (w : Option Int) : Prop := ∃ pe wh : Int, ws = [480, pe, wh] ∧ (((pe < 0 ∨ 7 < pe ∨ S0 482 1 ≤ pe ∨ wh < 0 ∨ 3 < wh) ∧ w = some (-1) ∧ (∀ j : Int, S 482 j = S0 482 j)) ∨ (wh = 0 ∧ 0 ≤ pe ∧ pe ≤ 7 ∧ pe < S0 482 1 ∧ w = some (S0 482 (238 + 3 * pe)) ∧ (∀ j : Int, S 482 j = S0 482 j)) ∨ (wh = 1 ∧ 0 ≤ pe ∧ pe ≤ 7 ∧ pe < S0 482 1 ∧ w = some (S0 482 (239 + 3 * pe)) ∧ (∀ j : Int, S 482 j = S0 482 j)) ∨ (wh = 2 ∧ 0 ≤ pe ∧ pe ≤ 7 ∧ pe < S0 482 1 ∧ w = some (S0 482 (240 + 3 * pe)) ∧ (∀ j : Int, S 482 j = S0 482 j)) ∨ (wh = 3 ∧ 0 ≤ pe ∧ pe ≤ 7 ∧ pe < S0 482 1 ∧ S0 482 (238 + 3 * pe) ≤ S0 482 7 ∧ S0 482 7 < S0 482 (239 + 3 * pe) ∧ w = some (1) ∧ (∀ j : Int, S 482 j = S0 482 j)) ∨ (wh = 3 ∧ 0 ≤ pe ∧ pe ≤ 7 ∧ pe < S0 482 1 ∧ (S0 482 7 < S0 482 (238 + 3 * pe) ∨ S0 482 (239 + 3 * pe) ≤ S0 482 7) ∧ w = some (0) ∧ (∀ j : Int, S 482 j = S0 482 j)))
theorem rxd228_0_0 {S0 : Nat → Int → Int} {ws : List Int} {S : Nat → Int → Int} {pe wh x10 : Int} (hP : rxP228 S0 ws) (hin : bx_same rxL (bx_mdl rxC228.2.2.1) S0 S) (hin2 : bx_same rxL (bx_mdl rxC228.2.2.1) S (bx_up S 480 0 0)) (I0 : bx_Inv rxL S) (I1 : bx_Inv rxL (bx_up S 480 0 0)) (hinv : rxI228_0 S0 ws S pe wh) (l8 : 0 ≤ pe) (u8 : pe ≤ 7) (l9 : (-2147483648) ≤ wh) (u9 : wh ≤ (-1)) (l10 : 1 ≤ x10) (u10 : x10 ≤ 8) (f0 : pe ≤ x10 + (-1)) (e0 : (bx_up S 480 0 0) 482 1 = x10) : (True) ∧ rxPS228 S0 ws (bx_up S 480 0 0) (some ((-1))) := by
  obtain ⟨rfl, hw⟩ := hinv
  have e0 := (show _ = S 482 1 from (bx_up_ne (by omega))).symm.trans e0
  refine ⟨trivial, pe, wh, hw, Or.inl (⟨?_, ?_, fun j => (bx_up_ne (by omega))⟩)⟩ <;> first | omega | exact hin2 | exact congrArg some (by omega) | (intro i i0 i1; simp only [bx_up]; (repeat' split) <;> first | rfl | omega | (simp_all; done) | (simp_all; omega)) | ((repeat (first | rw [bx_up_at] | rw [bx_up_ne (by omega)])); omega) | exact True.intro
theorem rxf228_0_0 {X : (Nat → Int → Int) → Prop} {S0 : Nat → Int → Int} {ws : List Int} (hP : rxP228 S0 ws) : bx_obE rxL X S0 rxC228.2.2.1 (rxI228 S0 ws) (rxPS228 S0 ws) 0 rxz228_0 rxe228_0_0 := by
  intro S S' r r' hinv hX hin hsm_ hseg
  obtain ⟨I0, I1, h0_, hr_, b_, f_, d_⟩ := bx_cl (evs := [(0, (0, 482), (0, 1), .inr (0, (10, 0))), (1, (0, 480), (0, 0), .inr (0, (0, 0)))]) (fvs := [(1, (8, 0), (10, (-1)), (0, 0))]) hseg (by decide +kernel) (by decide +kernel)
  have hinv : rxI228_0 S0 ws S (r 8) (r 9) := hinv
  rw [← hr_ 8 (by decide), ← hr_ 9 (by decide)] at hinv
  obtain ⟨⟨l8, u8⟩, ⟨l9, u9⟩, ⟨l10, u10⟩, -⟩ := b_
  obtain ⟨f0, -⟩ := f_
  obtain ⟨e0, ⟨T1, w_, w1⟩⟩ := d_
  subst w1
  subst w_
  have g := rxd228_0_0 hP hin hsm_ I0 I1 hinv l8 u8 l9 u9 l10 u10 f0 e0
  refine ⟨bx_narP_ok (l := []) g.1, ?_⟩
  show rxPS228 S0 ws (bx_up T1 480 (0) (0)) (some (bx_num r' (.inr (0, (0, (-1))))))
  rw [bx_xv_ok h0_]
  exact g.2
theorem rxd228_0_1 {S0 : Nat → Int → Int} {ws : List Int} {S : Nat → Int → Int} {pe wh x10 : Int} (hP : rxP228 S0 ws) (hin : bx_same rxL (bx_mdl rxC228.2.2.1) S0 S) (hin2 : bx_same rxL (bx_mdl rxC228.2.2.1) S (bx_up S 480 0 0)) (I0 : bx_Inv rxL S) (I1 : bx_Inv rxL (bx_up S 480 0 0)) (hinv : rxI228_0 S0 ws S pe wh) (l8 : 0 ≤ pe) (u8 : pe ≤ 7) (l9 : 4 ≤ wh) (u9 : wh ≤ 2147483647) (l10 : 1 ≤ x10) (u10 : x10 ≤ 8) (f0 : pe ≤ x10 + (-1)) (e0 : (bx_up S 480 0 0) 482 1 = x10) : (True) ∧ rxPS228 S0 ws (bx_up S 480 0 0) (some ((-1))) := by
  obtain ⟨rfl, hw⟩ := hinv
  have e0 := (show _ = S 482 1 from (bx_up_ne (by omega))).symm.trans e0
  refine ⟨trivial, pe, wh, hw, Or.inl (⟨?_, ?_, fun j => (bx_up_ne (by omega))⟩)⟩ <;> first | omega | exact hin2 | exact congrArg some (by omega) | (intro i i0 i1; simp only [bx_up]; (repeat' split) <;> first | rfl | omega | (simp_all; done) | (simp_all; omega)) | ((repeat (first | rw [bx_up_at] | rw [bx_up_ne (by omega)])); omega) | exact True.intro
theorem rxf228_0_1 {X : (Nat → Int → Int) → Prop} {S0 : Nat → Int → Int} {ws : List Int} (hP : rxP228 S0 ws) : bx_obE rxL X S0 rxC228.2.2.1 (rxI228 S0 ws) (rxPS228 S0 ws) 0 rxz228_0 rxe228_0_1 := by
  intro S S' r r' hinv hX hin hsm_ hseg
  obtain ⟨I0, I1, h0_, hr_, b_, f_, d_⟩ := bx_cl (evs := [(0, (0, 482), (0, 1), .inr (0, (10, 0))), (1, (0, 480), (0, 0), .inr (0, (0, 0)))]) (fvs := [(1, (8, 0), (10, (-1)), (0, 0))]) hseg (by decide +kernel) (by decide +kernel)
  have hinv : rxI228_0 S0 ws S (r 8) (r 9) := hinv
  rw [← hr_ 8 (by decide), ← hr_ 9 (by decide)] at hinv
  obtain ⟨⟨l8, u8⟩, ⟨l9, u9⟩, ⟨l10, u10⟩, -⟩ := b_
  obtain ⟨f0, -⟩ := f_
  obtain ⟨e0, ⟨T1, w_, w1⟩⟩ := d_
  subst w1
  subst w_
  have g := rxd228_0_1 hP hin hsm_ I0 I1 hinv l8 u8 l9 u9 l10 u10 f0 e0
  refine ⟨bx_narP_ok (l := []) g.1, ?_⟩
  show rxPS228 S0 ws (bx_up T1 480 (0) (0)) (some (bx_num r' (.inr (0, (0, (-1))))))
  rw [bx_xv_ok h0_]
  exact g.2
theorem rxd228_0_2 {S0 : Nat → Int → Int} {ws : List Int} {S : Nat → Int → Int} {pe wh x10 x11 x12 x13 : Int} (hP : rxP228 S0 ws) (hin : bx_same rxL (bx_mdl rxC228.2.2.1) S0 S) (hin2 : bx_same rxL (bx_mdl rxC228.2.2.1) S (bx_up S 480 0 0)) (I0 : bx_Inv rxL S) (I1 : bx_Inv rxL (bx_up S 480 0 0)) (hinv : rxI228_0 S0 ws S pe wh) (l8 : 0 ≤ pe) (u8 : pe ≤ 7) (l9 : 0 ≤ wh) (u9 : wh ≤ 2) (l10 : 1 ≤ x10) (u10 : x10 ≤ 8) (l11 : 0 ≤ x11) (u11 : x11 ≤ 21) (l12 : 238 ≤ x12) (u12 : x12 ≤ 261) (l13 : 0 ≤ x13) (u13 : x13 ≤ 300) (f0 : x12 = x11 + 238 + wh) (f1 : x11 = 3 * (pe)) (f2 : pe ≤ x10 + (-1)) (e1 : (bx_up S 480 0 0) 482 1 = x10) (e0 : (bx_up S 480 0 0) 482 x12 = x13) : (True) ∧ rxPS228 S0 ws (bx_up S 480 0 0) (some x13) := by
  rcases (show wh = 0 ∨ wh = 1 ∨ wh = 2 by omega) with rfl | rfl | rfl
  · obtain ⟨rfl, hw⟩ := hinv
    have e1 := (show _ = S 482 1 from (bx_up_ne (by omega))).symm.trans e1
    have e0 : S 482 (238 + 3 * pe) = x13 := by
      rw [show (238 + 3 * pe : Int) = x12 by omega]
      exact (show _ = S 482 x12 from (bx_up_ne (by omega))).symm.trans e0
    refine ⟨trivial, pe, 0, hw, Or.inr (Or.inl (⟨?_, ?_, ?_, ?_, ?_, fun j => (bx_up_ne (by omega))⟩))⟩ <;> first | omega | exact hin2 | exact congrArg some (by omega) | (intro i i0 i1; simp only [bx_up]; (repeat' split) <;> first | rfl | omega | (simp_all; done) | (simp_all; omega)) | ((repeat (first | rw [bx_up_at] | rw [bx_up_ne (by omega)])); omega) | exact True.intro
  · obtain ⟨rfl, hw⟩ := hinv
    have e1 := (show _ = S 482 1 from (bx_up_ne (by omega))).symm.trans e1
    have e0 : S 482 (239 + 3 * pe) = x13 := by
      rw [show (239 + 3 * pe : Int) = x12 by omega]
      exact (show _ = S 482 x12 from (bx_up_ne (by omega))).symm.trans e0
    refine ⟨trivial, pe, 1, hw, Or.inr (Or.inr (Or.inl (⟨?_, ?_, ?_, ?_, ?_, fun j => (bx_up_ne (by omega))⟩)))⟩ <;> first | omega | exact hin2 | exact congrArg some (by omega) | (intro i i0 i1; simp only [bx_up]; (repeat' split) <;> first | rfl | omega | (simp_all; done) | (simp_all; omega)) | ((repeat (first | rw [bx_up_at] | rw [bx_up_ne (by omega)])); omega) | exact True.intro
  · obtain ⟨rfl, hw⟩ := hinv
    have e1 := (show _ = S 482 1 from (bx_up_ne (by omega))).symm.trans e1
    have e0 : S 482 (240 + 3 * pe) = x13 := by
      rw [show (240 + 3 * pe : Int) = x12 by omega]
      exact (show _ = S 482 x12 from (bx_up_ne (by omega))).symm.trans e0
    refine ⟨trivial, pe, 2, hw, Or.inr (Or.inr (Or.inr (Or.inl (⟨?_, ?_, ?_, ?_, ?_, fun j => (bx_up_ne (by omega))⟩))))⟩ <;> first | omega | exact hin2 | exact congrArg some (by omega) | (intro i i0 i1; simp only [bx_up]; (repeat' split) <;> first | rfl | omega | (simp_all; done) | (simp_all; omega)) | ((repeat (first | rw [bx_up_at] | rw [bx_up_ne (by omega)])); omega) | exact True.intro
theorem rxf228_0_2 {X : (Nat → Int → Int) → Prop} {S0 : Nat → Int → Int} {ws : List Int} (hP : rxP228 S0 ws) : bx_obE rxL X S0 rxC228.2.2.1 (rxI228 S0 ws) (rxPS228 S0 ws) 0 rxz228_0 rxe228_0_2 := by
  intro S S' r r' hinv hX hin hsm_ hseg
  obtain ⟨I0, I1, h0_, hr_, b_, f_, d_⟩ := bx_cl (evs := [(0, (0, 482), (12, 0), .inr (0, (13, 0))), (0, (0, 482), (0, 1), .inr (0, (10, 0))), (1, (0, 480), (0, 0), .inr (0, (0, 0)))]) (fvs := [(5, (12, 0), (11, 238), (9, 0)), (4, (11, 0), (8, 0), (0, 3)), (1, (8, 0), (10, (-1)), (0, 0))]) hseg (by decide +kernel) (by decide +kernel)
  have hinv : rxI228_0 S0 ws S (r 8) (r 9) := hinv
  rw [← hr_ 8 (by decide), ← hr_ 9 (by decide)] at hinv
  obtain ⟨⟨l8, u8⟩, ⟨l9, u9⟩, ⟨l10, u10⟩, ⟨l11, u11⟩, ⟨l12, u12⟩, ⟨l13, u13⟩, -⟩ := b_
  obtain ⟨f0, f1, f2, -⟩ := f_
  obtain ⟨e0, ⟨e1, ⟨T2, w_, w2⟩⟩⟩ := d_
  subst w2
  subst w_
  have g := rxd228_0_2 hP hin hsm_ I0 I1 hinv l8 u8 l9 u9 l10 u10 l11 u11 l12 u12 l13 u13 f0 f1 f2 e1 e0
  refine ⟨bx_narP_ok (l := []) g.1, ?_⟩
  show rxPS228 S0 ws (bx_up T2 480 (0) (0)) (some (bx_num r' (.inr (0, (13, 0)))))
  rw [bx_xv_ok h0_]
  exact g.2
theorem rxd228_0_3 {S0 : Nat → Int → Int} {ws : List Int} {S : Nat → Int → Int} {pe wh x10 x11 x12 x13 x14 x15 : Int} (hP : rxP228 S0 ws) (hin : bx_same rxL (bx_mdl rxC228.2.2.1) S0 S) (hin2 : bx_same rxL (bx_mdl rxC228.2.2.1) S (bx_up S 480 0 0)) (I0 : bx_Inv rxL S) (I1 : bx_Inv rxL (bx_up S 480 0 0)) (hinv : rxI228_0 S0 ws S pe wh) (l8 : 0 ≤ pe) (u8 : pe ≤ 7) (l9 : 3 ≤ wh) (u9 : wh ≤ 3) (l10 : 1 ≤ x10) (u10 : x10 ≤ 8) (l11 : 0 ≤ x11) (u11 : x11 ≤ 299) (l12 : 0 ≤ x12) (u12 : x12 ≤ 21) (l13 : 0 ≤ x13) (u13 : x13 ≤ 200) (l14 : 0 ≤ x14) (u14 : x14 ≤ 21) (l15 : 1 ≤ x15) (u15 : x15 ≤ 300) (f0 : x11 ≤ x15 + (-1)) (f1 : x13 ≤ x11) (f2 : x14 = 3 * (pe)) (f3 : x12 = 3 * (pe)) (f4 : pe ≤ x10 + (-1)) (e3 : (bx_up S 480 0 0) 482 1 = x10) (e2 : (bx_up S 480 0 0) 482 7 = x11) (e1 : (bx_up S 480 0 0) 482 (x12 + 238) = x13) (e0 : (bx_up S 480 0 0) 482 (x14 + 239) = x15) : (True) ∧ rxPS228 S0 ws (bx_up S 480 0 0) (some 1) := by
  obtain ⟨rfl, hw⟩ := hinv
  have e3 := (show _ = S 482 1 from (bx_up_ne (by omega))).symm.trans e3
  have e2 := (show _ = S 482 7 from (bx_up_ne (by omega))).symm.trans e2
  have e1 : S 482 (238 + 3 * pe) = x13 := by
    rw [show (238 + 3 * pe : Int) = x12 + 238 by omega]
    exact (show _ = S 482 (x12 + 238) from (bx_up_ne (by omega))).symm.trans e1
  have e0 : S 482 (239 + 3 * pe) = x15 := by
    rw [show (239 + 3 * pe : Int) = x14 + 239 by omega]
    exact (show _ = S 482 (x14 + 239) from (bx_up_ne (by omega))).symm.trans e0
  refine ⟨trivial, pe, wh, hw, Or.inr (Or.inr (Or.inr (Or.inr (Or.inl (⟨?_, ?_, ?_, ?_, ?_, ?_, ?_, fun j => (bx_up_ne (by omega))⟩)))))⟩ <;> first | omega | exact hin2 | exact congrArg some (by omega) | (intro i i0 i1; simp only [bx_up]; (repeat' split) <;> first | rfl | omega | (simp_all; done) | (simp_all; omega)) | ((repeat (first | rw [bx_up_at] | rw [bx_up_ne (by omega)])); omega) | exact True.intro
theorem rxf228_0_3 {X : (Nat → Int → Int) → Prop} {S0 : Nat → Int → Int} {ws : List Int} (hP : rxP228 S0 ws) : bx_obE rxL X S0 rxC228.2.2.1 (rxI228 S0 ws) (rxPS228 S0 ws) 0 rxz228_0 rxe228_0_3 := by
  intro S S' r r' hinv hX hin hsm_ hseg
  obtain ⟨I0, I1, h0_, hr_, b_, f_, d_⟩ := bx_cl (evs := [(0, (0, 482), (14, 239), .inr (0, (15, 0))), (0, (0, 482), (12, 238), .inr (0, (13, 0))), (0, (0, 482), (0, 7), .inr (0, (11, 0))), (0, (0, 482), (0, 1), .inr (0, (10, 0))), (1, (0, 480), (0, 0), .inr (0, (0, 0)))]) (fvs := [(1, (11, 0), (15, (-1)), (0, 0)), (1, (13, 0), (11, 0), (0, 0)), (4, (14, 0), (8, 0), (0, 3)), (4, (12, 0), (8, 0), (0, 3)), (1, (8, 0), (10, (-1)), (0, 0))]) hseg (by decide +kernel) (by decide +kernel)
  have hinv : rxI228_0 S0 ws S (r 8) (r 9) := hinv
  rw [← hr_ 8 (by decide), ← hr_ 9 (by decide)] at hinv
  obtain ⟨⟨l8, u8⟩, ⟨l9, u9⟩, ⟨l10, u10⟩, ⟨l11, u11⟩, ⟨l12, u12⟩, ⟨l13, u13⟩, ⟨l14, u14⟩, ⟨l15, u15⟩, -⟩ := b_
  obtain ⟨f0, f1, f2, f3, f4, -⟩ := f_
  obtain ⟨e0, ⟨e1, ⟨e2, ⟨e3, ⟨T4, w_, w4⟩⟩⟩⟩⟩ := d_
  subst w4
  subst w_
  have g := rxd228_0_3 hP hin hsm_ I0 I1 hinv l8 u8 l9 u9 l10 u10 l11 u11 l12 u12 l13 u13 l14 u14 l15 u15 f0 f1 f2 f3 f4 e3 e2 e1 e0
  refine ⟨bx_narP_ok (l := []) g.1, ?_⟩
  show rxPS228 S0 ws (bx_up T4 480 (0) (0)) (some (bx_num r' (.inr (0, (0, 1)))))
  rw [bx_xv_ok h0_]
  exact g.2
theorem rxd228_0_4 {S0 : Nat → Int → Int} {ws : List Int} {S : Nat → Int → Int} {pe wh x10 x11 x12 x13 x14 x15 : Int} (hP : rxP228 S0 ws) (hin : bx_same rxL (bx_mdl rxC228.2.2.1) S0 S) (hin2 : bx_same rxL (bx_mdl rxC228.2.2.1) S (bx_up S 480 0 0)) (I0 : bx_Inv rxL S) (I1 : bx_Inv rxL (bx_up S 480 0 0)) (hinv : rxI228_0 S0 ws S pe wh) (l8 : 0 ≤ pe) (u8 : pe ≤ 7) (l9 : 3 ≤ wh) (u9 : wh ≤ 3) (l10 : 1 ≤ x10) (u10 : x10 ≤ 8) (l11 : 0 ≤ x11) (u11 : x11 ≤ 300) (l12 : 0 ≤ x12) (u12 : x12 ≤ 21) (l13 : 0 ≤ x13) (u13 : x13 ≤ 200) (l14 : 0 ≤ x14) (u14 : x14 ≤ 21) (l15 : 0 ≤ x15) (u15 : x15 ≤ 300) (f0 : x15 + (-1) < x11) (f1 : x13 ≤ x11) (f2 : x14 = 3 * (pe)) (f3 : x12 = 3 * (pe)) (f4 : pe ≤ x10 + (-1)) (e3 : (bx_up S 480 0 0) 482 1 = x10) (e2 : (bx_up S 480 0 0) 482 7 = x11) (e1 : (bx_up S 480 0 0) 482 (x12 + 238) = x13) (e0 : (bx_up S 480 0 0) 482 (x14 + 239) = x15) : (True) ∧ rxPS228 S0 ws (bx_up S 480 0 0) (some 0) := by
  obtain ⟨rfl, hw⟩ := hinv
  have e3 := (show _ = S 482 1 from (bx_up_ne (by omega))).symm.trans e3
  have e2 := (show _ = S 482 7 from (bx_up_ne (by omega))).symm.trans e2
  have e1 : S 482 (238 + 3 * pe) = x13 := by
    rw [show (238 + 3 * pe : Int) = x12 + 238 by omega]
    exact (show _ = S 482 (x12 + 238) from (bx_up_ne (by omega))).symm.trans e1
  have e0 : S 482 (239 + 3 * pe) = x15 := by
    rw [show (239 + 3 * pe : Int) = x14 + 239 by omega]
    exact (show _ = S 482 (x14 + 239) from (bx_up_ne (by omega))).symm.trans e0
  refine ⟨trivial, pe, wh, hw, Or.inr (Or.inr (Or.inr (Or.inr (Or.inr (⟨?_, ?_, ?_, ?_, ?_, ?_, fun j => (bx_up_ne (by omega))⟩)))))⟩ <;> first | omega | exact hin2 | exact congrArg some (by omega) | (intro i i0 i1; simp only [bx_up]; (repeat' split) <;> first | rfl | omega | (simp_all; done) | (simp_all; omega)) | ((repeat (first | rw [bx_up_at] | rw [bx_up_ne (by omega)])); omega) | exact True.intro
theorem rxf228_0_4 {X : (Nat → Int → Int) → Prop} {S0 : Nat → Int → Int} {ws : List Int} (hP : rxP228 S0 ws) : bx_obE rxL X S0 rxC228.2.2.1 (rxI228 S0 ws) (rxPS228 S0 ws) 0 rxz228_0 rxe228_0_4 := by
  intro S S' r r' hinv hX hin hsm_ hseg
  obtain ⟨I0, I1, h0_, hr_, b_, f_, d_⟩ := bx_cl (evs := [(0, (0, 482), (14, 239), .inr (0, (15, 0))), (0, (0, 482), (12, 238), .inr (0, (13, 0))), (0, (0, 482), (0, 7), .inr (0, (11, 0))), (0, (0, 482), (0, 1), .inr (0, (10, 0))), (1, (0, 480), (0, 0), .inr (0, (0, 0)))]) (fvs := [(0, (15, (-1)), (11, 0), (0, 0)), (1, (13, 0), (11, 0), (0, 0)), (4, (14, 0), (8, 0), (0, 3)), (4, (12, 0), (8, 0), (0, 3)), (1, (8, 0), (10, (-1)), (0, 0))]) hseg (by decide +kernel) (by decide +kernel)
  have hinv : rxI228_0 S0 ws S (r 8) (r 9) := hinv
  rw [← hr_ 8 (by decide), ← hr_ 9 (by decide)] at hinv
  obtain ⟨⟨l8, u8⟩, ⟨l9, u9⟩, ⟨l10, u10⟩, ⟨l11, u11⟩, ⟨l12, u12⟩, ⟨l13, u13⟩, ⟨l14, u14⟩, ⟨l15, u15⟩, -⟩ := b_
  obtain ⟨f0, f1, f2, f3, f4, -⟩ := f_
  obtain ⟨e0, ⟨e1, ⟨e2, ⟨e3, ⟨T4, w_, w4⟩⟩⟩⟩⟩ := d_
  subst w4
  subst w_
  have g := rxd228_0_4 hP hin hsm_ I0 I1 hinv l8 u8 l9 u9 l10 u10 l11 u11 l12 u12 l13 u13 l14 u14 l15 u15 f0 f1 f2 f3 f4 e3 e2 e1 e0
  refine ⟨bx_narP_ok (l := []) g.1, ?_⟩
  show rxPS228 S0 ws (bx_up T4 480 (0) (0)) (some (bx_num r' (.inr (0, (0, 0)))))
  rw [bx_xv_ok h0_]
  exact g.2
theorem rxd228_0_5 {S0 : Nat → Int → Int} {ws : List Int} {S : Nat → Int → Int} {pe wh x10 x11 x12 x13 x14 x15 : Int} (hP : rxP228 S0 ws) (hin : bx_same rxL (bx_mdl rxC228.2.2.1) S0 S) (hin2 : bx_same rxL (bx_mdl rxC228.2.2.1) S (bx_up S 480 0 0)) (I0 : bx_Inv rxL S) (I1 : bx_Inv rxL (bx_up S 480 0 0)) (hinv : rxI228_0 S0 ws S pe wh) (l8 : 0 ≤ pe) (u8 : pe ≤ 7) (l9 : 3 ≤ wh) (u9 : wh ≤ 3) (l10 : 1 ≤ x10) (u10 : x10 ≤ 8) (l11 : 0 ≤ x11) (u11 : x11 ≤ 199) (l12 : 0 ≤ x12) (u12 : x12 ≤ 21) (l13 : 1 ≤ x13) (u13 : x13 ≤ 200) (l14 : 0 ≤ x14) (u14 : x14 ≤ 21) (l15 : 0 ≤ x15) (u15 : x15 ≤ 300) (f0 : x11 < x13) (f1 : x14 = 3 * (pe)) (f2 : x12 = 3 * (pe)) (f3 : pe ≤ x10 + (-1)) (e3 : (bx_up S 480 0 0) 482 1 = x10) (e2 : (bx_up S 480 0 0) 482 7 = x11) (e1 : (bx_up S 480 0 0) 482 (x12 + 238) = x13) (e0 : (bx_up S 480 0 0) 482 (x14 + 239) = x15) : (True) ∧ rxPS228 S0 ws (bx_up S 480 0 0) (some 0) := by
  obtain ⟨rfl, hw⟩ := hinv
  have e3 := (show _ = S 482 1 from (bx_up_ne (by omega))).symm.trans e3
  have e2 := (show _ = S 482 7 from (bx_up_ne (by omega))).symm.trans e2
  have e1 : S 482 (238 + 3 * pe) = x13 := by
    rw [show (238 + 3 * pe : Int) = x12 + 238 by omega]
    exact (show _ = S 482 (x12 + 238) from (bx_up_ne (by omega))).symm.trans e1
  have e0 : S 482 (239 + 3 * pe) = x15 := by
    rw [show (239 + 3 * pe : Int) = x14 + 239 by omega]
    exact (show _ = S 482 (x14 + 239) from (bx_up_ne (by omega))).symm.trans e0
  refine ⟨trivial, pe, wh, hw, Or.inr (Or.inr (Or.inr (Or.inr (Or.inr (⟨?_, ?_, ?_, ?_, ?_, ?_, fun j => (bx_up_ne (by omega))⟩)))))⟩ <;> first | omega | exact hin2 | exact congrArg some (by omega) | (intro i i0 i1; simp only [bx_up]; (repeat' split) <;> first | rfl | omega | (simp_all; done) | (simp_all; omega)) | ((repeat (first | rw [bx_up_at] | rw [bx_up_ne (by omega)])); omega) | exact True.intro
theorem rxf228_0_5 {X : (Nat → Int → Int) → Prop} {S0 : Nat → Int → Int} {ws : List Int} (hP : rxP228 S0 ws) : bx_obE rxL X S0 rxC228.2.2.1 (rxI228 S0 ws) (rxPS228 S0 ws) 0 rxz228_0 rxe228_0_5 := by
  intro S S' r r' hinv hX hin hsm_ hseg
  obtain ⟨I0, I1, h0_, hr_, b_, f_, d_⟩ := bx_cl (evs := [(0, (0, 482), (14, 239), .inr (0, (15, 0))), (0, (0, 482), (12, 238), .inr (0, (13, 0))), (0, (0, 482), (0, 7), .inr (0, (11, 0))), (0, (0, 482), (0, 1), .inr (0, (10, 0))), (1, (0, 480), (0, 0), .inr (0, (0, 0)))]) (fvs := [(0, (11, 0), (13, 0), (0, 0)), (4, (14, 0), (8, 0), (0, 3)), (4, (12, 0), (8, 0), (0, 3)), (1, (8, 0), (10, (-1)), (0, 0))]) hseg (by decide +kernel) (by decide +kernel)
  have hinv : rxI228_0 S0 ws S (r 8) (r 9) := hinv
  rw [← hr_ 8 (by decide), ← hr_ 9 (by decide)] at hinv
  obtain ⟨⟨l8, u8⟩, ⟨l9, u9⟩, ⟨l10, u10⟩, ⟨l11, u11⟩, ⟨l12, u12⟩, ⟨l13, u13⟩, ⟨l14, u14⟩, ⟨l15, u15⟩, -⟩ := b_
  obtain ⟨f0, f1, f2, f3, -⟩ := f_
  obtain ⟨e0, ⟨e1, ⟨e2, ⟨e3, ⟨T4, w_, w4⟩⟩⟩⟩⟩ := d_
  subst w4
  subst w_
  have g := rxd228_0_5 hP hin hsm_ I0 I1 hinv l8 u8 l9 u9 l10 u10 l11 u11 l12 u12 l13 u13 l14 u14 l15 u15 f0 f1 f2 f3 e3 e2 e1 e0
  refine ⟨bx_narP_ok (l := []) g.1, ?_⟩
  show rxPS228 S0 ws (bx_up T4 480 (0) (0)) (some (bx_num r' (.inr (0, (0, 0)))))
  rw [bx_xv_ok h0_]
  exact g.2
theorem rxd228_0_6 {S0 : Nat → Int → Int} {ws : List Int} {S : Nat → Int → Int} {pe wh x10 : Int} (hP : rxP228 S0 ws) (hin : bx_same rxL (bx_mdl rxC228.2.2.1) S0 S) (hin2 : bx_same rxL (bx_mdl rxC228.2.2.1) S (bx_up S 480 0 0)) (I0 : bx_Inv rxL S) (I1 : bx_Inv rxL (bx_up S 480 0 0)) (hinv : rxI228_0 S0 ws S pe wh) (l8 : 0 ≤ pe) (u8 : pe ≤ 2147483647) (l9 : (-2147483648) ≤ wh) (u9 : wh ≤ 2147483647) (l10 : 0 ≤ x10) (u10 : x10 ≤ 8) (f0 : x10 + (-1) < pe) (e0 : (bx_up S 480 0 0) 482 1 = x10) : (True) ∧ rxPS228 S0 ws (bx_up S 480 0 0) (some ((-1))) := by
  obtain ⟨rfl, hw⟩ := hinv
  have e0 := (show _ = S 482 1 from (bx_up_ne (by omega))).symm.trans e0
  refine ⟨trivial, pe, wh, hw, Or.inl (⟨?_, ?_, fun j => (bx_up_ne (by omega))⟩)⟩ <;> first | omega | exact hin2 | exact congrArg some (by omega) | (intro i i0 i1; simp only [bx_up]; (repeat' split) <;> first | rfl | omega | (simp_all; done) | (simp_all; omega)) | ((repeat (first | rw [bx_up_at] | rw [bx_up_ne (by omega)])); omega) | exact True.intro
theorem rxf228_0_6 {X : (Nat → Int → Int) → Prop} {S0 : Nat → Int → Int} {ws : List Int} (hP : rxP228 S0 ws) : bx_obE rxL X S0 rxC228.2.2.1 (rxI228 S0 ws) (rxPS228 S0 ws) 0 rxz228_0 rxe228_0_6 := by
  intro S S' r r' hinv hX hin hsm_ hseg
  obtain ⟨I0, I1, h0_, hr_, b_, f_, d_⟩ := bx_cl (evs := [(0, (0, 482), (0, 1), .inr (0, (10, 0))), (1, (0, 480), (0, 0), .inr (0, (0, 0)))]) (fvs := [(0, (10, (-1)), (8, 0), (0, 0))]) hseg (by decide +kernel) (by decide +kernel)
  have hinv : rxI228_0 S0 ws S (r 8) (r 9) := hinv
  rw [← hr_ 8 (by decide), ← hr_ 9 (by decide)] at hinv
  obtain ⟨⟨l8, u8⟩, ⟨l9, u9⟩, ⟨l10, u10⟩, -⟩ := b_
  obtain ⟨f0, -⟩ := f_
  obtain ⟨e0, ⟨T1, w_, w1⟩⟩ := d_
  subst w1
  subst w_
  have g := rxd228_0_6 hP hin hsm_ I0 I1 hinv l8 u8 l9 u9 l10 u10 f0 e0
  refine ⟨bx_narP_ok (l := []) g.1, ?_⟩
  show rxPS228 S0 ws (bx_up T1 480 (0) (0)) (some (bx_num r' (.inr (0, (0, (-1))))))
  rw [bx_xv_ok h0_]
  exact g.2
theorem rxd228_0_7 {S0 : Nat → Int → Int} {ws : List Int} {S : Nat → Int → Int} {pe wh x10 : Int} (hP : rxP228 S0 ws) (hin : bx_same rxL (bx_mdl rxC228.2.2.1) S0 S) (hin2 : bx_same rxL (bx_mdl rxC228.2.2.1) S (bx_up S 480 0 0)) (I0 : bx_Inv rxL S) (I1 : bx_Inv rxL (bx_up S 480 0 0)) (hinv : rxI228_0 S0 ws S pe wh) (l8 : (-2147483648) ≤ pe) (u8 : pe ≤ (-1)) (l9 : (-2147483648) ≤ wh) (u9 : wh ≤ 2147483647) (l10 : 0 ≤ x10) (u10 : x10 ≤ 8) (e0 : (bx_up S 480 0 0) 482 1 = x10) : (True) ∧ rxPS228 S0 ws (bx_up S 480 0 0) (some ((-1))) := by
  obtain ⟨rfl, hw⟩ := hinv
  have e0 := (show _ = S 482 1 from (bx_up_ne (by omega))).symm.trans e0
  refine ⟨trivial, pe, wh, hw, Or.inl (⟨?_, ?_, fun j => (bx_up_ne (by omega))⟩)⟩ <;> first | omega | exact hin2 | exact congrArg some (by omega) | (intro i i0 i1; simp only [bx_up]; (repeat' split) <;> first | rfl | omega | (simp_all; done) | (simp_all; omega)) | ((repeat (first | rw [bx_up_at] | rw [bx_up_ne (by omega)])); omega) | exact True.intro
theorem rxf228_0_7 {X : (Nat → Int → Int) → Prop} {S0 : Nat → Int → Int} {ws : List Int} (hP : rxP228 S0 ws) : bx_obE rxL X S0 rxC228.2.2.1 (rxI228 S0 ws) (rxPS228 S0 ws) 0 rxz228_0 rxe228_0_7 := by
  intro S S' r r' hinv hX hin hsm_ hseg
  obtain ⟨I0, I1, h0_, hr_, b_, f_, d_⟩ := bx_cl (evs := [(0, (0, 482), (0, 1), .inr (0, (10, 0))), (1, (0, 480), (0, 0), .inr (0, (0, 0)))]) (fvs := []) hseg (by decide +kernel) (by decide +kernel)
  have hinv : rxI228_0 S0 ws S (r 8) (r 9) := hinv
  rw [← hr_ 8 (by decide), ← hr_ 9 (by decide)] at hinv
  obtain ⟨⟨l8, u8⟩, ⟨l9, u9⟩, ⟨l10, u10⟩, -⟩ := b_
  obtain ⟨e0, ⟨T1, w_, w1⟩⟩ := d_
  subst w1
  subst w_
  have g := rxd228_0_7 hP hin hsm_ I0 I1 hinv l8 u8 l9 u9 l10 u10 e0
  refine ⟨bx_narP_ok (l := []) g.1, ?_⟩
  show rxPS228 S0 ws (bx_up T1 480 (0) (0)) (some (bx_num r' (.inr (0, (0, (-1))))))
  rw [bx_xv_ok h0_]
  exact g.2
theorem rxgC228 {X : (Nat → Int → Int) → Prop} {S0 : Nat → Int → Int} {ws : List Int} (hP : rxP228 S0 ws) : bx_allI (fun i q => rxU228 q = true ∨ bx_allP (fun o => bx_obC rxL X S0 rxC228.2.2.1 (rxI228 S0 ws) (rxm228 S0 ws) i q.1 o) q.2.1) 0 rxY228 := ⟨Or.inr trivial, trivial⟩
theorem rxgE228 {X : (Nat → Int → Int) → Prop} {S0 : Nat → Int → Int} {ws : List Int} (hP : rxP228 S0 ws) : bx_allI (fun i q => rxU228 q = true ∨ bx_allP (fun E => bx_obE rxL X S0 rxC228.2.2.1 (rxI228 S0 ws) (rxPS228 S0 ws) i q.1 E) q.2.2) 0 rxY228 := ⟨Or.inr ⟨rxf228_0_0 hP, rxf228_0_1 hP, rxf228_0_2 hP, rxf228_0_3 hP, rxf228_0_4 hP, rxf228_0_5 hP, rxf228_0_6 hP, rxf228_0_7 hP, trivial⟩, trivial⟩
theorem rxQ228 {PX : State → Prop} {Dg : va_G} {A : Nat → Prop} {ad xa : Nat → Nat} {l : Launch} {X : (Nat → Int → Int) → Prop} (hPX : rx_PXOK rxNW A PX) (hsl : ∀ s : State, PX s → ∀ o idx n : Nat, rxSl o idx = some n → ∃ tx : String, vk_R (rxNm o) idx tx (ad n) s)
    (hX : ∀ S S' : Nat → Int → Int, X S → bx_same rxL (bx_mdl rxC228.2.2.1) S S' → X S')
    (ih : ∀ (j2 : Nat) (ct2 : bx_Ct) (M2 : rx_Mt), ct2 ∈ rxCnE j2 → ct2.2.2.2.1 + 1 ≤ rxC228.2.2.2.1 → rxT.2.2.2.2.2 j2 = some M2 → bx_Con rxG rxNW rxAO PX Dg rxL X vwCl A ad l M2 ct2) : bx_ConP rxG rxNW rxAO PX Dg rxL X vwCl A ad l rxM228 rxC228 rxP228 rxPS228 :=
  rxQof (xa := xa) (Cn := rxCnE) (f := 30000) (j := 228) (tab := rxY228) (us := rxU228) hPX hsl hX ih rfl rxYc228 rxI228 rxm228
    (fun S0 ws r I0 I ht0 ht as he he1 hX0 hI0 hP hs ha => by
      have e := he.symm.trans (show bx_ent0 rxNP rxC228.1 bx_I0 [] = some ([(0, 0), (0, 0), (0, 0), (0, 0), (0, 0), (0, 0), (0, 0), (0, 0), ((-2147483648), 2147483647), ((-2147483648), 2147483647)], [], [.inr (3, (0, 480)), .inr (0, (8, 0)), .inr (0, (9, 0))]) from rfl)
      cases e
      subst ha
      have h0 : r 0 = 0 := hs.1
      show rxI228_0 S0 _ S0 (r 8) (r 9)
      refine ⟨rfl, ?_⟩
      simp only [List.map_cons, List.map_nil, bx_xv_ok h0]
      rfl)
    (fun S0 ws hP => fun i q hq hus => absurd (show false = true from hus) Bool.false_ne_true) (fun S0 ws hP => rxgC228 hP) (fun S0 ws hP => rxgE228 hP)
set_option maxHeartbeats 1000000 in
theorem rzQ228 {PX : State → Prop} {Dg : va_G} {A : Nat → Prop} {ad : Nat → Nat} {l : Launch} (hPX : rx_PXOK rxNW A PX) (hsl : ∀ s : State, PX s → ∀ o idx n : Nat, rxSl o idx = some n → ∃ tx : String, vk_R (rxNm o) idx tx (ad n) s) : bx_ConP rxG rxNW rxAO PX Dg rxL rxX vwCl A ad l rxM228 rxC228 (fun _ _ => True) rxPS228 := by
  have q228 := rxQ228 (PX := PX) (Dg := Dg) (A := A) (ad := ad) (xa := fun n => n) (l := l) (X := rxX) hPX hsl (fun _ _ h hm => rxX_of (by decide +kernel) h hm) (fun _ _ _ h => absurd h List.not_mem_nil)
  exact fun S0 ws h1 h2 h3 _ => q228 S0 ws h1 h2 h3 trivial
