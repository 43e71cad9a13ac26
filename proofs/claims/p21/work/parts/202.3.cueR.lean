/-! CONTRACT BY HAND, by program (wip/sim/genhand.py): DeadUnderstudiesModel.cue -/
def rxI250_0 (S0 : Nat → Int → Int) (ws : List Int) (S : Nat → Int → Int) (c : Int) : Prop := S = S0 ∧ ws = [480, c]
def rxm250_0 (S0 : Nat → Int → Int) (ws : List Int) (S : Nat → Int → Int) (c : Int) : Nat := 100
def rxz250_0 : rx_Z := ([(0, 0), (0, 0), (0, 0), (0, 0), (0, 0), (0, 0), (0, 0), (0, 0), ((-2147483648), 2147483647)], [], [], 0, 0, 0, [(0, .inr (3, (0, 480))), (1, .inr (0, (8, 0)))], [])
def rxe250_0_0 : rx_End × List (Nat × Int × Int) := (([(0, 0), (0, 0), (0, 0), (0, 0), (0, 0), (0, 0), (0, 0), (0, 0), ((-2147483648), (-1)), ((-2147483648), 2147483647), ((-2147483648), 2147483647)], [], [(((0, 0), 1851192626986356797625047037163794926384839479479878431390892035000000), .inr (0, (10, 0))), (((0, 481), 1), .inr (0, (10, 0))), (((0, 0), 1851192626986356797625047037163794926384839479479878431390892032000000), .inr (0, (9, 0))), (((0, 480), 2), .inr (3, (0, 481))), (((0, 0), 1851192626986356797625047037163794926384839479479878431390302211000000), .inr (0, (0, (-1)))), (((0, 480), 1), .inr (0, (0, (-1)))), (((0, 0), 1851192626986356797424340330377019318111018015026043177836478467000000), .inr (0, (0, 0))), (((0, 480), 0), .inr (0, (0, 0)))], some (.inr (0, (0, (-1))))), [])
def rxe250_0_1 : rx_End × List (Nat × Int × Int) := (([(0, 0), (0, 0), (0, 0), (0, 0), (0, 0), (0, 0), (0, 0), (0, 0), (6, 2147483647), ((-2147483648), 2147483647), ((-2147483648), 2147483647)], [], [(((0, 0), 1851192626986356797625047037163794926384839479479878431390892035000000), .inr (0, (10, 0))), (((0, 481), 1), .inr (0, (10, 0))), (((0, 0), 1851192626986356797625047037163794926384839479479878431390892032000000), .inr (0, (9, 0))), (((0, 480), 2), .inr (3, (0, 481))), (((0, 0), 1851192626986356797625047037163794926384839479479878431390302211000000), .inr (0, (0, (-1)))), (((0, 480), 1), .inr (0, (0, (-1)))), (((0, 0), 1851192626986356797424340330377019318111018015026043177836478467000000), .inr (0, (0, 0))), (((0, 480), 0), .inr (0, (0, 0)))], some (.inr (0, (0, (-1))))), [])
def rxe250_0_2 : rx_End × List (Nat × Int × Int) := (([(0, 0), (0, 0), (0, 0), (0, 0), (0, 0), (0, 0), (0, 0), (0, 0), (0, 5), (12, 12), ((-2147483648), 2147483647), ((-2147483648), 2147483647)], [], [(((0, 0), 1851192626986356798427873864310897359480125337295219445606187011000000), .inr (0, (11, 0))), (((0, 481), 5), .inr (0, (11, 0))), (((0, 0), 1851192626986356798427873864310897359480125337295219445606187008000000), .inr (0, (10, 0))), (((0, 480), 2), .inr (3, (0, 481))), (((0, 0), 1851192626986356797625047037163794926384839479479878431390302211000000), .inr (0, (0, (-5)))), (((0, 480), 1), .inr (0, (0, (-5)))), (((0, 0), 1851192626986356798427873864310897359480125337295219445606776832000000), .inr (0, (9, 0))), (((0, 482), 5), .inr (0, (9, 0))), (((0, 480), 3), .inr (3, (0, 482))), (((0, 0), 1851192626986356797424340330377019318111018015026043177836478467000000), .inr (0, (0, 0))), (((0, 480), 0), .inr (0, (0, 0)))], some (.inr (0, (0, (-5))))), [])
def rxe250_0_3 : rx_End × List (Nat × Int × Int) := (([(0, 0), (0, 0), (0, 0), (0, 0), (0, 0), (0, 0), (0, 0), (0, 0), (0, 5), (0, 11)], [(3, (9, 0), (0, 12))], [(((0, 0), 1851192626986356797625047037163794926384839479479878431390302211000000), .inr (0, (0, 0))), (((0, 480), 1), .inr (0, (0, 0))), (((0, 0), 1851192626986356798427873864310897359480125337295219445606776835000000), .inr (0, (9, 1))), (((0, 482), 5), .inr (0, (9, 1))), (((0, 0), 1851192626986356943940263847594933954016227599668980245354119171000000), .inr (0, (8, 0))), (((0, 0), 1851192626986356798427873864310897359480125337295219445606776832000000), .inr (0, (9, 0))), (((0, 480), 3), .inr (3, (0, 482))), (((0, 0), 1851192626986356797424340330377019318111018015026043177836478467000000), .inr (0, (0, 0))), (((0, 480), 0), .inr (0, (0, 0)))], some (.inr (0, (9, 1)))), [])
def rxY250 : List bx_HE := [(rxz250_0, [], [rxe250_0_0, rxe250_0_1, rxe250_0_2, rxe250_0_3])]
def rxU250 (q : bx_HE) : Bool := false
def rxYB250 : bx_B := (rxV, rxNP, rxDmf, bx_mdH rxC250.2.2.1)
set_option maxRecDepth 100000 in
theorem rxYc250 : bx_chkH rxYB250 rxM250 rxC250 rxY250 (rxU250, fun cut z => rx_ex2 (rxCT rxYB250 rxCnE) cut 30000 rxC250.2.2.2.1 250 z) = true := by decide +kernel
def rxI250 (S0 : Nat → Int → Int) (ws : List Int) (i : Nat) : bx_SP := fun S r => match i with | 0 => rxI250_0 S0 ws S (r 8) | _ => False
def rxm250 (S0 : Nat → Int → Int) (ws : List Int) (i : Nat) (S : Nat → Int → Int) (r : Nat → Int) : Nat := match i with | 0 => rxm250_0 S0 ws S (r 8) | _ => 0
def rxP250 (S0 : Nat → Int → Int) (ws : List Int) : Prop := True
def rxPS250 (S0 : Nat → Int → Int) (ws : List Int) (S : Nat → Int → Int) (w : Option Int) : Prop := ∃ c : Int, ws = [480, c] ∧ (((c < 0 ∨ 5 < c) ∧ w = some (-1) ∧ (∀ j : Int, S 482 j = S0 482 j)) ∨ (0 ≤ c ∧ c ≤ 5 ∧ 12 ≤ S0 482 5 ∧ w = some (-5) ∧ (∀ j : Int, S 482 j = S0 482 j)) ∨ (0 ≤ c ∧ c ≤ 5 ∧ S0 482 5 < 12 ∧ w = some (S0 482 5 + 1) ∧ S 482 5 = S0 482 5 + 1))
theorem rxd250_0_0 {S0 : Nat → Int → Int} {ws : List Int} {S : Nat → Int → Int} {c x9 x10 : Int} (hP : rxP250 S0 ws) (hin : bx_same rxL (bx_mdl rxC250.2.2.1) S0 S) (hin2 : bx_same rxL (bx_mdl rxC250.2.2.1) S (bx_up (bx_up (bx_up S 480 0 0) 480 1 ((-1))) 481 1 x10)) (I0 : bx_Inv rxL S) (I1 : bx_Inv rxL (bx_up (bx_up (bx_up S 480 0 0) 480 1 ((-1))) 481 1 x10)) (hinv : rxI250_0 S0 ws S c) (l8 : (-2147483648) ≤ c) (u8 : c ≤ (-1)) (l9 : (-2147483648) ≤ x9) (u9 : x9 ≤ 2147483647) (l10 : (-2147483648) ≤ x10) (u10 : x10 ≤ 2147483647) (e1 : (bx_up (bx_up S 480 0 0) 480 1 ((-1))) 481 1 = x9) : (True) ∧ rxPS250 S0 ws (bx_up (bx_up (bx_up S 480 0 0) 480 1 ((-1))) 481 1 x10) (some ((-1))) := by
  obtain ⟨rfl, hw⟩ := hinv
  have e1 := (show _ = S 481 1 from (bx_up_ne (by omega)).trans ((bx_up_ne (by omega)))).symm.trans e1
  refine ⟨trivial, c, hw, Or.inl (⟨?_, ?_, fun j => (bx_up_ne (by omega)).trans ((bx_up_ne (by omega)).trans ((bx_up_ne (by omega))))⟩)⟩ <;> first | omega | exact hin2 | exact congrArg some (by omega) | (intro i i0 i1; simp only [bx_up]; (repeat' split) <;> first | rfl | omega | (simp_all; done) | (simp_all; omega)) | ((repeat (first | rw [bx_up_at] | rw [bx_up_ne (by omega)])); omega)
theorem rxf250_0_0 {X : (Nat → Int → Int) → Prop} {S0 : Nat → Int → Int} {ws : List Int} (hP : rxP250 S0 ws) : bx_obE rxL X S0 rxC250.2.2.1 (rxI250 S0 ws) (rxPS250 S0 ws) 0 rxz250_0 rxe250_0_0 := by
  intro S S' r r' hinv hX hin hsm_ hseg
  obtain ⟨I0, I1, h0_, hr_, b_, f_, d_⟩ := bx_cl (evs := [(1, (0, 481), (0, 1), .inr (0, (10, 0))), (0, (0, 481), (0, 1), .inr (0, (9, 0))), (1, (0, 480), (0, 1), .inr (0, (0, (-1)))), (1, (0, 480), (0, 0), .inr (0, (0, 0)))]) (fvs := []) hseg (by decide +kernel) (by decide +kernel)
  have hinv : rxI250_0 S0 ws S (r 8) := hinv
  rw [← hr_ 8 (by decide)] at hinv
  obtain ⟨⟨l8, u8⟩, ⟨l9, u9⟩, ⟨l10, u10⟩, -⟩ := b_
  obtain ⟨T0, ⟨e1, ⟨T2, ⟨T3, w_, w3⟩, w2⟩⟩, w0⟩ := d_
  subst w0
  subst w2
  subst w3
  subst w_
  have g := rxd250_0_0 hP hin hsm_ I0 I1 hinv l8 u8 l9 u9 l10 u10 e1
  refine ⟨bx_narP_ok (l := []) g.1, ?_⟩
  show rxPS250 S0 ws (bx_up (bx_up (bx_up T3 480 (0) (0)) 480 (1) ((-1))) 481 (1) (r' 10)) (some (bx_num r' (.inr (0, (0, (-1))))))
  rw [bx_xv_ok h0_]
  exact g.2
theorem rxd250_0_1 {S0 : Nat → Int → Int} {ws : List Int} {S : Nat → Int → Int} {c x9 x10 : Int} (hP : rxP250 S0 ws) (hin : bx_same rxL (bx_mdl rxC250.2.2.1) S0 S) (hin2 : bx_same rxL (bx_mdl rxC250.2.2.1) S (bx_up (bx_up (bx_up S 480 0 0) 480 1 ((-1))) 481 1 x10)) (I0 : bx_Inv rxL S) (I1 : bx_Inv rxL (bx_up (bx_up (bx_up S 480 0 0) 480 1 ((-1))) 481 1 x10)) (hinv : rxI250_0 S0 ws S c) (l8 : 6 ≤ c) (u8 : c ≤ 2147483647) (l9 : (-2147483648) ≤ x9) (u9 : x9 ≤ 2147483647) (l10 : (-2147483648) ≤ x10) (u10 : x10 ≤ 2147483647) (e1 : (bx_up (bx_up S 480 0 0) 480 1 ((-1))) 481 1 = x9) : (True) ∧ rxPS250 S0 ws (bx_up (bx_up (bx_up S 480 0 0) 480 1 ((-1))) 481 1 x10) (some ((-1))) := by
  obtain ⟨rfl, hw⟩ := hinv
  have e1 := (show _ = S 481 1 from (bx_up_ne (by omega)).trans ((bx_up_ne (by omega)))).symm.trans e1
  refine ⟨trivial, c, hw, Or.inl (⟨?_, ?_, fun j => (bx_up_ne (by omega)).trans ((bx_up_ne (by omega)).trans ((bx_up_ne (by omega))))⟩)⟩ <;> first | omega | exact hin2 | exact congrArg some (by omega) | (intro i i0 i1; simp only [bx_up]; (repeat' split) <;> first | rfl | omega | (simp_all; done) | (simp_all; omega)) | ((repeat (first | rw [bx_up_at] | rw [bx_up_ne (by omega)])); omega)
theorem rxf250_0_1 {X : (Nat → Int → Int) → Prop} {S0 : Nat → Int → Int} {ws : List Int} (hP : rxP250 S0 ws) : bx_obE rxL X S0 rxC250.2.2.1 (rxI250 S0 ws) (rxPS250 S0 ws) 0 rxz250_0 rxe250_0_1 := by
  intro S S' r r' hinv hX hin hsm_ hseg
  obtain ⟨I0, I1, h0_, hr_, b_, f_, d_⟩ := bx_cl (evs := [(1, (0, 481), (0, 1), .inr (0, (10, 0))), (0, (0, 481), (0, 1), .inr (0, (9, 0))), (1, (0, 480), (0, 1), .inr (0, (0, (-1)))), (1, (0, 480), (0, 0), .inr (0, (0, 0)))]) (fvs := []) hseg (by decide +kernel) (by decide +kernel)
  have hinv : rxI250_0 S0 ws S (r 8) := hinv
  rw [← hr_ 8 (by decide)] at hinv
  obtain ⟨⟨l8, u8⟩, ⟨l9, u9⟩, ⟨l10, u10⟩, -⟩ := b_
  obtain ⟨T0, ⟨e1, ⟨T2, ⟨T3, w_, w3⟩, w2⟩⟩, w0⟩ := d_
  subst w0
  subst w2
  subst w3
  subst w_
  have g := rxd250_0_1 hP hin hsm_ I0 I1 hinv l8 u8 l9 u9 l10 u10 e1
  refine ⟨bx_narP_ok (l := []) g.1, ?_⟩
  show rxPS250 S0 ws (bx_up (bx_up (bx_up T3 480 (0) (0)) 480 (1) ((-1))) 481 (1) (r' 10)) (some (bx_num r' (.inr (0, (0, (-1))))))
  rw [bx_xv_ok h0_]
  exact g.2
theorem rxd250_0_2 {S0 : Nat → Int → Int} {ws : List Int} {S : Nat → Int → Int} {c x9 x10 x11 : Int} (hP : rxP250 S0 ws) (hin : bx_same rxL (bx_mdl rxC250.2.2.1) S0 S) (hin2 : bx_same rxL (bx_mdl rxC250.2.2.1) S (bx_up (bx_up (bx_up S 480 0 0) 480 1 ((-5))) 481 5 x11)) (I0 : bx_Inv rxL S) (I1 : bx_Inv rxL (bx_up (bx_up (bx_up S 480 0 0) 480 1 ((-5))) 481 5 x11)) (hinv : rxI250_0 S0 ws S c) (l8 : 0 ≤ c) (u8 : c ≤ 5) (l9 : 12 ≤ x9) (u9 : x9 ≤ 12) (l10 : (-2147483648) ≤ x10) (u10 : x10 ≤ 2147483647) (l11 : (-2147483648) ≤ x11) (u11 : x11 ≤ 2147483647) (e3 : (bx_up S 480 0 0) 482 5 = x9) (e1 : (bx_up (bx_up S 480 0 0) 480 1 ((-5))) 481 5 = x10) : (True) ∧ rxPS250 S0 ws (bx_up (bx_up (bx_up S 480 0 0) 480 1 ((-5))) 481 5 x11) (some ((-5))) := by
  obtain ⟨rfl, hw⟩ := hinv
  have e3 := (show _ = S 482 5 from (bx_up_ne (by omega))).symm.trans e3
  have e1 := (show _ = S 481 5 from (bx_up_ne (by omega)).trans ((bx_up_ne (by omega)))).symm.trans e1
  refine ⟨trivial, c, hw, Or.inr (Or.inl (⟨?_, ?_, ?_, ?_, fun j => (bx_up_ne (by omega)).trans ((bx_up_ne (by omega)).trans ((bx_up_ne (by omega))))⟩))⟩ <;> first | omega | exact hin2 | exact congrArg some (by omega) | (intro i i0 i1; simp only [bx_up]; (repeat' split) <;> first | rfl | omega | (simp_all; done) | (simp_all; omega)) | ((repeat (first | rw [bx_up_at] | rw [bx_up_ne (by omega)])); omega)
theorem rxf250_0_2 {X : (Nat → Int → Int) → Prop} {S0 : Nat → Int → Int} {ws : List Int} (hP : rxP250 S0 ws) : bx_obE rxL X S0 rxC250.2.2.1 (rxI250 S0 ws) (rxPS250 S0 ws) 0 rxz250_0 rxe250_0_2 := by
  intro S S' r r' hinv hX hin hsm_ hseg
  obtain ⟨I0, I1, h0_, hr_, b_, f_, d_⟩ := bx_cl (evs := [(1, (0, 481), (0, 5), .inr (0, (11, 0))), (0, (0, 481), (0, 5), .inr (0, (10, 0))), (1, (0, 480), (0, 1), .inr (0, (0, (-5)))), (0, (0, 482), (0, 5), .inr (0, (9, 0))), (1, (0, 480), (0, 0), .inr (0, (0, 0)))]) (fvs := []) hseg (by decide +kernel) (by decide +kernel)
  have hinv : rxI250_0 S0 ws S (r 8) := hinv
  rw [← hr_ 8 (by decide)] at hinv
  obtain ⟨⟨l8, u8⟩, ⟨l9, u9⟩, ⟨l10, u10⟩, ⟨l11, u11⟩, -⟩ := b_
  obtain ⟨T0, ⟨e1, ⟨T2, ⟨e3, ⟨T4, w_, w4⟩⟩, w2⟩⟩, w0⟩ := d_
  subst w0
  subst w2
  subst w4
  subst w_
  have g := rxd250_0_2 hP hin hsm_ I0 I1 hinv l8 u8 l9 u9 l10 u10 l11 u11 e3 e1
  refine ⟨bx_narP_ok (l := []) g.1, ?_⟩
  show rxPS250 S0 ws (bx_up (bx_up (bx_up T4 480 (0) (0)) 480 (1) ((-5))) 481 (5) (r' 11)) (some (bx_num r' (.inr (0, (0, (-5))))))
  rw [bx_xv_ok h0_]
  exact g.2
theorem rxd250_0_3 {S0 : Nat → Int → Int} {ws : List Int} {S : Nat → Int → Int} {c x9 : Int} (hP : rxP250 S0 ws) (hin : bx_same rxL (bx_mdl rxC250.2.2.1) S0 S) (hin2 : bx_same rxL (bx_mdl rxC250.2.2.1) S (bx_up (bx_up (bx_up (bx_up S 480 0 0) 482 (x9 + 730) c) 482 5 (x9 + 1)) 480 1 0)) (I0 : bx_Inv rxL S) (I1 : bx_Inv rxL (bx_up (bx_up (bx_up (bx_up S 480 0 0) 482 (x9 + 730) c) 482 5 (x9 + 1)) 480 1 0)) (hinv : rxI250_0 S0 ws S c) (l8 : 0 ≤ c) (u8 : c ≤ 5) (l9 : 0 ≤ x9) (u9 : x9 ≤ 11) (f0 : x9 ≠ 12) (e3 : (bx_up S 480 0 0) 482 5 = x9) : (True) ∧ rxPS250 S0 ws (bx_up (bx_up (bx_up (bx_up S 480 0 0) 482 (x9 + 730) c) 482 5 (x9 + 1)) 480 1 0) (some (x9 + 1)) := by
  obtain ⟨rfl, hw⟩ := hinv
  have e3 := (show _ = S 482 5 from (bx_up_ne (by omega))).symm.trans e3
  refine ⟨trivial, c, hw, Or.inr (Or.inr (⟨?_, ?_, ?_, ?_, ((bx_up_ne (by omega)).trans (bx_up_at)).trans (by omega)⟩))⟩ <;> first | omega | exact hin2 | exact congrArg some (by omega) | (intro i i0 i1; simp only [bx_up]; (repeat' split) <;> first | rfl | omega | (simp_all; done) | (simp_all; omega)) | ((repeat (first | rw [bx_up_at] | rw [bx_up_ne (by omega)])); omega)
theorem rxf250_0_3 {X : (Nat → Int → Int) → Prop} {S0 : Nat → Int → Int} {ws : List Int} (hP : rxP250 S0 ws) : bx_obE rxL X S0 rxC250.2.2.1 (rxI250 S0 ws) (rxPS250 S0 ws) 0 rxz250_0 rxe250_0_3 := by
  intro S S' r r' hinv hX hin hsm_ hseg
  obtain ⟨I0, I1, h0_, hr_, b_, f_, d_⟩ := bx_cl (evs := [(1, (0, 480), (0, 1), .inr (0, (0, 0))), (1, (0, 482), (0, 5), .inr (0, (9, 1))), (1, (0, 482), (9, 730), .inr (0, (8, 0))), (0, (0, 482), (0, 5), .inr (0, (9, 0))), (1, (0, 480), (0, 0), .inr (0, (0, 0)))]) (fvs := [(3, (9, 0), (0, 12), (0, 0))]) hseg (by decide +kernel) (by decide +kernel)
  have hinv : rxI250_0 S0 ws S (r 8) := hinv
  rw [← hr_ 8 (by decide)] at hinv
  obtain ⟨⟨l8, u8⟩, ⟨l9, u9⟩, -⟩ := b_
  obtain ⟨f0, -⟩ := f_
  obtain ⟨T0, ⟨T1, ⟨T2, ⟨e3, ⟨T4, w_, w4⟩⟩, w2⟩, w1⟩, w0⟩ := d_
  subst w0
  subst w1
  subst w2
  subst w4
  subst w_
  have g := rxd250_0_3 hP hin hsm_ I0 I1 hinv l8 u8 l9 u9 f0 e3
  refine ⟨bx_narP_ok (l := []) g.1, ?_⟩
  show rxPS250 S0 ws (bx_up (bx_up (bx_up (bx_up T4 480 (0) (0)) 482 (r' 9 + 730) (r' 8)) 482 (5) (r' 9 + 1)) 480 (1) (0)) (some (bx_num r' (.inr (0, (9, 1)))))
  rw [bx_xv_ok h0_]
  exact g.2
theorem rxgC250 {X : (Nat → Int → Int) → Prop} {S0 : Nat → Int → Int} {ws : List Int} (hP : rxP250 S0 ws) : bx_allI (fun i q => rxU250 q = true ∨ bx_allP (fun o => bx_obC rxL X S0 rxC250.2.2.1 (rxI250 S0 ws) (rxm250 S0 ws) i q.1 o) q.2.1) 0 rxY250 := ⟨Or.inr trivial, trivial⟩
theorem rxgE250 {X : (Nat → Int → Int) → Prop} {S0 : Nat → Int → Int} {ws : List Int} (hP : rxP250 S0 ws) : bx_allI (fun i q => rxU250 q = true ∨ bx_allP (fun E => bx_obE rxL X S0 rxC250.2.2.1 (rxI250 S0 ws) (rxPS250 S0 ws) i q.1 E) q.2.2) 0 rxY250 := ⟨Or.inr ⟨rxf250_0_0 hP, rxf250_0_1 hP, rxf250_0_2 hP, rxf250_0_3 hP, trivial⟩, trivial⟩
theorem rxQ250 {PX : State → Prop} {Dg : va_G} {A : Nat → Prop} {ad xa : Nat → Nat} {l : Launch} {X : (Nat → Int → Int) → Prop} (hPX : rx_PXOK rxNW A PX) (hsl : ∀ s : State, PX s → ∀ o idx n : Nat, rxSl o idx = some n → ∃ tx : String, vk_R (rxNm o) idx tx (ad n) s)
    (hX : ∀ S S' : Nat → Int → Int, X S → bx_same rxL (bx_mdl rxC250.2.2.1) S S' → X S')
    (ih : ∀ (j2 : Nat) (ct2 : bx_Ct) (M2 : rx_Mt), ct2 ∈ rxCnE j2 → ct2.2.2.2.1 + 1 ≤ rxC250.2.2.2.1 → rxT.2.2.2.2.2 j2 = some M2 → bx_Con rxG rxNW rxAO PX Dg rxL X vwCl A ad l M2 ct2) : bx_ConP rxG rxNW rxAO PX Dg rxL X vwCl A ad l rxM250 rxC250 rxP250 rxPS250 :=
  rxQof (xa := xa) (Cn := rxCnE) (f := 30000) (j := 250) (tab := rxY250) (us := rxU250) hPX hsl hX ih rfl rxYc250 rxI250 rxm250
    (fun S0 ws r I0 I ht0 ht as he he1 hX0 hI0 hP hs ha => by
      have e := he.symm.trans (show bx_ent0 rxNP rxC250.1 bx_I0 [] = some ([(0, 0), (0, 0), (0, 0), (0, 0), (0, 0), (0, 0), (0, 0), (0, 0), ((-2147483648), 2147483647)], [], [.inr (3, (0, 480)), .inr (0, (8, 0))]) from rfl)
      cases e
      subst ha
      have h0 : r 0 = 0 := hs.1
      show rxI250_0 S0 _ S0 (r 8)
      refine ⟨rfl, ?_⟩
      simp only [List.map_cons, List.map_nil, bx_xv_ok h0]
      rfl)
    (fun S0 ws hP => fun i q hq hus => absurd (show false = true from hus) Bool.false_ne_true) (fun S0 ws hP => rxgC250 hP) (fun S0 ws hP => rxgE250 hP)
set_option maxHeartbeats 1000000 in
theorem rzQ250 {PX : State → Prop} {Dg : va_G} {A : Nat → Prop} {ad : Nat → Nat} {l : Launch} (hPX : rx_PXOK rxNW A PX) (hsl : ∀ s : State, PX s → ∀ o idx n : Nat, rxSl o idx = some n → ∃ tx : String, vk_R (rxNm o) idx tx (ad n) s) : bx_ConP rxG rxNW rxAO PX Dg rxL rxX vwCl A ad l rxM250 rxC250 (fun _ _ => True) rxPS250 := by
  have q := rxQ250 (PX := PX) (Dg := Dg) (A := A) (ad := ad) (xa := fun n => n) (l := l) (X := rxX) hPX hsl (fun _ _ h hm => rxX_of (by decide +kernel) h hm) (fun _ _ _ h => absurd h List.not_mem_nil)
  exact fun S0 ws h1 h2 h3 _ => q S0 ws h1 h2 h3 trivial
