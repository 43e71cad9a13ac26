/-! CONTRACT BY HAND, by program (wip/sim/genhand.py): DeadUnderstudies.refuse -/
def rxI110_0 (S0 : Nat → Int → Int) (ws : List Int) (S : Nat → Int → Int) (c : Int) : Prop := S = S0 ∧ ws = [0, c]
def rxm110_0 (S0 : Nat → Int → Int) (ws : List Int) (S : Nat → Int → Int) (c : Int) : Nat := 10
def rxz110_0 : rx_Z := ([(0, 0), (0, 0), (0, 0), (0, 0), (0, 0), (0, 0), (0, 0), (0, 0), ((-6), (-1))], [], [], 0, 0, 0, [(0, .inr (3, (0, 0))), (1, .inr (0, (8, 0)))], [])
def rxe110_0_0 : rx_End × List (Nat × Int × Int) := (([(0, 0), (0, 0), (0, 0), (0, 0), (0, 0), (0, 0), (0, 0), (0, 0), ((-6), (-6)), ((-2147483648), 2147483647), ((-2147483648), 2147483647)], [], [(((0, 0), 1851192626986356798227167157524121751206303872841384192026411011000000), .inr (0, (10, 0))), (((0, 437), 4), .inr (0, (10, 0))), (((0, 0), 1851192626986356798227167157524121751206303872841384192026411008000000), .inr (0, (9, 0))), (((0, 0), 9), .inr (3, (0, 437))), (((0, 0), 1851192626986356799029993984671224184301589730656725205983952899000000), .inr (0, (8, 0))), (((0, 0), 8), .inr (0, (8, 0)))], some (.inr (0, (8, 0)))), [])
def rxe110_0_1 : rx_End × List (Nat × Int × Int) := (([(0, 0), (0, 0), (0, 0), (0, 0), (0, 0), (0, 0), (0, 0), (0, 0), ((-1), (-1)), ((-2147483648), 2147483647), ((-2147483648), 2147483647)], [], [(((0, 0), 1851192626986356797424340330377019318111018015026043177811116035000000), .inr (0, (10, 0))), (((0, 437), 0), .inr (0, (10, 0))), (((0, 0), 1851192626986356797424340330377019318111018015026043177811116032000000), .inr (0, (9, 0))), (((0, 0), 9), .inr (3, (0, 437))), (((0, 0), 1851192626986356799029993984671224184301589730656725205983952899000000), .inr (0, (8, 0))), (((0, 0), 8), .inr (0, (8, 0)))], some (.inr (0, (8, 0)))), [])
def rxe110_0_2 : rx_End × List (Nat × Int × Int) := (([(0, 0), (0, 0), (0, 0), (0, 0), (0, 0), (0, 0), (0, 0), (0, 0), ((-2), (-2)), ((-2147483648), 2147483647), ((-2147483648), 2147483647)], [], [(((0, 0), 1851192626986356797625047037163794926384839479479878431364939779000000), .inr (0, (10, 0))), (((0, 437), 1), .inr (0, (10, 0))), (((0, 0), 1851192626986356797625047037163794926384839479479878431364939776000000), .inr (0, (9, 0))), (((0, 0), 9), .inr (3, (0, 437))), (((0, 0), 1851192626986356799029993984671224184301589730656725205983952899000000), .inr (0, (8, 0))), (((0, 0), 8), .inr (0, (8, 0)))], some (.inr (0, (8, 0)))), [])
def rxe110_0_3 : rx_End × List (Nat × Int × Int) := (([(0, 0), (0, 0), (0, 0), (0, 0), (0, 0), (0, 0), (0, 0), (0, 0), ((-3), (-3)), ((-2147483648), 2147483647), ((-2147483648), 2147483647)], [], [(((0, 0), 1851192626986356797825753743950570534658660943933713684918763523000000), .inr (0, (10, 0))), (((0, 437), 2), .inr (0, (10, 0))), (((0, 0), 1851192626986356797825753743950570534658660943933713684918763520000000), .inr (0, (9, 0))), (((0, 0), 9), .inr (3, (0, 437))), (((0, 0), 1851192626986356799029993984671224184301589730656725205983952899000000), .inr (0, (8, 0))), (((0, 0), 8), .inr (0, (8, 0)))], some (.inr (0, (8, 0)))), [])
def rxe110_0_4 : rx_End × List (Nat × Int × Int) := (([(0, 0), (0, 0), (0, 0), (0, 0), (0, 0), (0, 0), (0, 0), (0, 0), ((-4), (-4)), ((-2147483648), 2147483647), ((-2147483648), 2147483647)], [], [(((0, 0), 1851192626986356798227167157524121751206303872841384192026411011000000), .inr (0, (10, 0))), (((0, 437), 4), .inr (0, (10, 0))), (((0, 0), 1851192626986356798227167157524121751206303872841384192026411008000000), .inr (0, (9, 0))), (((0, 0), 9), .inr (3, (0, 437))), (((0, 0), 1851192626986356799029993984671224184301589730656725205983952899000000), .inr (0, (8, 0))), (((0, 0), 8), .inr (0, (8, 0)))], some (.inr (0, (8, 0)))), [])
def rxe110_0_5 : rx_End × List (Nat × Int × Int) := (([(0, 0), (0, 0), (0, 0), (0, 0), (0, 0), (0, 0), (0, 0), (0, 0), ((-5), (-5)), ((-2147483648), 2147483647), ((-2147483648), 2147483647)], [], [(((0, 0), 1851192626986356798026460450737346142932482408387548938472587267000000), .inr (0, (10, 0))), (((0, 437), 3), .inr (0, (10, 0))), (((0, 0), 1851192626986356798026460450737346142932482408387548938472587264000000), .inr (0, (9, 0))), (((0, 0), 9), .inr (3, (0, 437))), (((0, 0), 1851192626986356799029993984671224184301589730656725205983952899000000), .inr (0, (8, 0))), (((0, 0), 8), .inr (0, (8, 0)))], some (.inr (0, (8, 0)))), [])
def rxY110 : List bx_HE := [(rxz110_0, [], [rxe110_0_0, rxe110_0_1, rxe110_0_2, rxe110_0_3, rxe110_0_4, rxe110_0_5])]
def rxU110 (q : bx_HE) : Bool := false
def rxYB110 : bx_B := (rxV, rxNP, rxDmf, bx_mdH rxC110.2.2.1)
set_option maxRecDepth 100000 in
theorem rxYc110 : bx_chkH rxYB110 rxM110 rxC110 rxY110 (rxU110, fun cut z => rx_ex2 (rxCT rxYB110 rxCnE) cut 30000 rxC110.2.2.2.1 110 z) = true := by decide +kernel
def rxI110 (S0 : Nat → Int → Int) (ws : List Int) (i : Nat) : bx_SP := fun S r => match i with | 0 => rxI110_0 S0 ws S (r 8) | _ => False
def rxm110 (S0 : Nat → Int → Int) (ws : List Int) (i : Nat) (S : Nat → Int → Int) (r : Nat → Int) : Nat := match i with | 0 => rxm110_0 S0 ws S (r 8) | _ => 0
def rxP110 (S0 : Nat → Int → Int) (ws : List Int) : Prop := True
def rxPS110 (S0 : Nat → Int → Int) (ws : List Int) (S : Nat → Int → Int) (w : Option Int) : Prop := ∃ c : Int, ws = [0, c] ∧ w = some c
theorem rxd110_0_0 {S0 : Nat → Int → Int} {ws : List Int} {S : Nat → Int → Int} {c x9 x10 : Int} (hP : rxP110 S0 ws) (hin : bx_same rxL (bx_mdl rxC110.2.2.1) S0 S) (hin2 : bx_same rxL (bx_mdl rxC110.2.2.1) S (bx_up (bx_up S 0 8 c) 437 4 x10)) (I0 : bx_Inv rxL S) (I1 : bx_Inv rxL (bx_up (bx_up S 0 8 c) 437 4 x10)) (hinv : rxI110_0 S0 ws S c) (l8 : (-6) ≤ c) (u8 : c ≤ (-6)) (l9 : (-2147483648) ≤ x9) (u9 : x9 ≤ 2147483647) (l10 : (-2147483648) ≤ x10) (u10 : x10 ≤ 2147483647) (e1 : (bx_up S 0 8 c) 437 4 = x9) : (True) ∧ rxPS110 S0 ws (bx_up (bx_up S 0 8 c) 437 4 x10) (some c) := by
  obtain ⟨rfl, hw⟩ := hinv
  exact ⟨trivial, c, hw, rfl⟩
theorem rxf110_0_0 {X : (Nat → Int → Int) → Prop} {S0 : Nat → Int → Int} {ws : List Int} (hP : rxP110 S0 ws) : bx_obE rxL X S0 rxC110.2.2.1 (rxI110 S0 ws) (rxPS110 S0 ws) 0 rxz110_0 rxe110_0_0 := by
  intro S S_p r r_p hinv hX hin hsm_ hseg
  obtain ⟨I0, I1, h0_, hr_, b_, f_, d_⟩ := bx_cl (evs := [(1, (0, 437), (0, 4), .inr (0, (10, 0))), (0, (0, 437), (0, 4), .inr (0, (9, 0))), (1, (0, 0), (0, 8), .inr (0, (8, 0)))]) (fvs := []) hseg (by decide +kernel) (by decide +kernel)
  have hinv : rxI110_0 S0 ws S (r 8) := hinv
  rw [← hr_ 8 (by decide)] at hinv
  obtain ⟨⟨l8, u8⟩, ⟨l9, u9⟩, ⟨l10, u10⟩, -⟩ := b_
  obtain ⟨T0, ⟨e1, ⟨T2, w_, w2⟩⟩, w0⟩ := d_
  subst w0
  subst w2
  subst w_
  have g := rxd110_0_0 hP hin hsm_ I0 I1 hinv l8 u8 l9 u9 l10 u10 e1
  refine ⟨bx_narP_ok (l := []) g.1, ?_⟩
  show rxPS110 S0 ws (bx_up (bx_up T2 0 (8) (r_p 8)) 437 (4) (r_p 10)) (some (bx_num r_p (.inr (0, (8, 0)))))
  rw [bx_xv_ok h0_]
  exact g.2
theorem rxd110_0_1 {S0 : Nat → Int → Int} {ws : List Int} {S : Nat → Int → Int} {c x9 x10 : Int} (hP : rxP110 S0 ws) (hin : bx_same rxL (bx_mdl rxC110.2.2.1) S0 S) (hin2 : bx_same rxL (bx_mdl rxC110.2.2.1) S (bx_up (bx_up S 0 8 c) 437 0 x10)) (I0 : bx_Inv rxL S) (I1 : bx_Inv rxL (bx_up (bx_up S 0 8 c) 437 0 x10)) (hinv : rxI110_0 S0 ws S c) (l8 : (-1) ≤ c) (u8 : c ≤ (-1)) (l9 : (-2147483648) ≤ x9) (u9 : x9 ≤ 2147483647) (l10 : (-2147483648) ≤ x10) (u10 : x10 ≤ 2147483647) (e1 : (bx_up S 0 8 c) 437 0 = x9) : (True) ∧ rxPS110 S0 ws (bx_up (bx_up S 0 8 c) 437 0 x10) (some c) := by
  obtain ⟨rfl, hw⟩ := hinv
  exact ⟨trivial, c, hw, rfl⟩
theorem rxf110_0_1 {X : (Nat → Int → Int) → Prop} {S0 : Nat → Int → Int} {ws : List Int} (hP : rxP110 S0 ws) : bx_obE rxL X S0 rxC110.2.2.1 (rxI110 S0 ws) (rxPS110 S0 ws) 0 rxz110_0 rxe110_0_1 := by
  intro S S_p r r_p hinv hX hin hsm_ hseg
  obtain ⟨I0, I1, h0_, hr_, b_, f_, d_⟩ := bx_cl (evs := [(1, (0, 437), (0, 0), .inr (0, (10, 0))), (0, (0, 437), (0, 0), .inr (0, (9, 0))), (1, (0, 0), (0, 8), .inr (0, (8, 0)))]) (fvs := []) hseg (by decide +kernel) (by decide +kernel)
  have hinv : rxI110_0 S0 ws S (r 8) := hinv
  rw [← hr_ 8 (by decide)] at hinv
  obtain ⟨⟨l8, u8⟩, ⟨l9, u9⟩, ⟨l10, u10⟩, -⟩ := b_
  obtain ⟨T0, ⟨e1, ⟨T2, w_, w2⟩⟩, w0⟩ := d_
  subst w0
  subst w2
  subst w_
  have g := rxd110_0_1 hP hin hsm_ I0 I1 hinv l8 u8 l9 u9 l10 u10 e1
  refine ⟨bx_narP_ok (l := []) g.1, ?_⟩
  show rxPS110 S0 ws (bx_up (bx_up T2 0 (8) (r_p 8)) 437 (0) (r_p 10)) (some (bx_num r_p (.inr (0, (8, 0)))))
  rw [bx_xv_ok h0_]
  exact g.2
theorem rxd110_0_2 {S0 : Nat → Int → Int} {ws : List Int} {S : Nat → Int → Int} {c x9 x10 : Int} (hP : rxP110 S0 ws) (hin : bx_same rxL (bx_mdl rxC110.2.2.1) S0 S) (hin2 : bx_same rxL (bx_mdl rxC110.2.2.1) S (bx_up (bx_up S 0 8 c) 437 1 x10)) (I0 : bx_Inv rxL S) (I1 : bx_Inv rxL (bx_up (bx_up S 0 8 c) 437 1 x10)) (hinv : rxI110_0 S0 ws S c) (l8 : (-2) ≤ c) (u8 : c ≤ (-2)) (l9 : (-2147483648) ≤ x9) (u9 : x9 ≤ 2147483647) (l10 : (-2147483648) ≤ x10) (u10 : x10 ≤ 2147483647) (e1 : (bx_up S 0 8 c) 437 1 = x9) : (True) ∧ rxPS110 S0 ws (bx_up (bx_up S 0 8 c) 437 1 x10) (some c) := by
  obtain ⟨rfl, hw⟩ := hinv
  exact ⟨trivial, c, hw, rfl⟩
theorem rxf110_0_2 {X : (Nat → Int → Int) → Prop} {S0 : Nat → Int → Int} {ws : List Int} (hP : rxP110 S0 ws) : bx_obE rxL X S0 rxC110.2.2.1 (rxI110 S0 ws) (rxPS110 S0 ws) 0 rxz110_0 rxe110_0_2 := by
  intro S S_p r r_p hinv hX hin hsm_ hseg
  obtain ⟨I0, I1, h0_, hr_, b_, f_, d_⟩ := bx_cl (evs := [(1, (0, 437), (0, 1), .inr (0, (10, 0))), (0, (0, 437), (0, 1), .inr (0, (9, 0))), (1, (0, 0), (0, 8), .inr (0, (8, 0)))]) (fvs := []) hseg (by decide +kernel) (by decide +kernel)
  have hinv : rxI110_0 S0 ws S (r 8) := hinv
  rw [← hr_ 8 (by decide)] at hinv
  obtain ⟨⟨l8, u8⟩, ⟨l9, u9⟩, ⟨l10, u10⟩, -⟩ := b_
  obtain ⟨T0, ⟨e1, ⟨T2, w_, w2⟩⟩, w0⟩ := d_
  subst w0
  subst w2
  subst w_
  have g := rxd110_0_2 hP hin hsm_ I0 I1 hinv l8 u8 l9 u9 l10 u10 e1
  refine ⟨bx_narP_ok (l := []) g.1, ?_⟩
  show rxPS110 S0 ws (bx_up (bx_up T2 0 (8) (r_p 8)) 437 (1) (r_p 10)) (some (bx_num r_p (.inr (0, (8, 0)))))
  rw [bx_xv_ok h0_]
  exact g.2
theorem rxd110_0_3 {S0 : Nat → Int → Int} {ws : List Int} {S : Nat → Int → Int} {c x9 x10 : Int} (hP : rxP110 S0 ws) (hin : bx_same rxL (bx_mdl rxC110.2.2.1) S0 S) (hin2 : bx_same rxL (bx_mdl rxC110.2.2.1) S (bx_up (bx_up S 0 8 c) 437 2 x10)) (I0 : bx_Inv rxL S) (I1 : bx_Inv rxL (bx_up (bx_up S 0 8 c) 437 2 x10)) (hinv : rxI110_0 S0 ws S c) (l8 : (-3) ≤ c) (u8 : c ≤ (-3)) (l9 : (-2147483648) ≤ x9) (u9 : x9 ≤ 2147483647) (l10 : (-2147483648) ≤ x10) (u10 : x10 ≤ 2147483647) (e1 : (bx_up S 0 8 c) 437 2 = x9) : (True) ∧ rxPS110 S0 ws (bx_up (bx_up S 0 8 c) 437 2 x10) (some c) := by
  obtain ⟨rfl, hw⟩ := hinv
  exact ⟨trivial, c, hw, rfl⟩
theorem rxf110_0_3 {X : (Nat → Int → Int) → Prop} {S0 : Nat → Int → Int} {ws : List Int} (hP : rxP110 S0 ws) : bx_obE rxL X S0 rxC110.2.2.1 (rxI110 S0 ws) (rxPS110 S0 ws) 0 rxz110_0 rxe110_0_3 := by
  intro S S_p r r_p hinv hX hin hsm_ hseg
  obtain ⟨I0, I1, h0_, hr_, b_, f_, d_⟩ := bx_cl (evs := [(1, (0, 437), (0, 2), .inr (0, (10, 0))), (0, (0, 437), (0, 2), .inr (0, (9, 0))), (1, (0, 0), (0, 8), .inr (0, (8, 0)))]) (fvs := []) hseg (by decide +kernel) (by decide +kernel)
  have hinv : rxI110_0 S0 ws S (r 8) := hinv
  rw [← hr_ 8 (by decide)] at hinv
  obtain ⟨⟨l8, u8⟩, ⟨l9, u9⟩, ⟨l10, u10⟩, -⟩ := b_
  obtain ⟨T0, ⟨e1, ⟨T2, w_, w2⟩⟩, w0⟩ := d_
  subst w0
  subst w2
  subst w_
  have g := rxd110_0_3 hP hin hsm_ I0 I1 hinv l8 u8 l9 u9 l10 u10 e1
  refine ⟨bx_narP_ok (l := []) g.1, ?_⟩
  show rxPS110 S0 ws (bx_up (bx_up T2 0 (8) (r_p 8)) 437 (2) (r_p 10)) (some (bx_num r_p (.inr (0, (8, 0)))))
  rw [bx_xv_ok h0_]
  exact g.2
theorem rxd110_0_4 {S0 : Nat → Int → Int} {ws : List Int} {S : Nat → Int → Int} {c x9 x10 : Int} (hP : rxP110 S0 ws) (hin : bx_same rxL (bx_mdl rxC110.2.2.1) S0 S) (hin2 : bx_same rxL (bx_mdl rxC110.2.2.1) S (bx_up (bx_up S 0 8 c) 437 4 x10)) (I0 : bx_Inv rxL S) (I1 : bx_Inv rxL (bx_up (bx_up S 0 8 c) 437 4 x10)) (hinv : rxI110_0 S0 ws S c) (l8 : (-4) ≤ c) (u8 : c ≤ (-4)) (l9 : (-2147483648) ≤ x9) (u9 : x9 ≤ 2147483647) (l10 : (-2147483648) ≤ x10) (u10 : x10 ≤ 2147483647) (e1 : (bx_up S 0 8 c) 437 4 = x9) : (True) ∧ rxPS110 S0 ws (bx_up (bx_up S 0 8 c) 437 4 x10) (some c) := by
  obtain ⟨rfl, hw⟩ := hinv
  exact ⟨trivial, c, hw, rfl⟩
theorem rxf110_0_4 {X : (Nat → Int → Int) → Prop} {S0 : Nat → Int → Int} {ws : List Int} (hP : rxP110 S0 ws) : bx_obE rxL X S0 rxC110.2.2.1 (rxI110 S0 ws) (rxPS110 S0 ws) 0 rxz110_0 rxe110_0_4 := by
  intro S S_p r r_p hinv hX hin hsm_ hseg
  obtain ⟨I0, I1, h0_, hr_, b_, f_, d_⟩ := bx_cl (evs := [(1, (0, 437), (0, 4), .inr (0, (10, 0))), (0, (0, 437), (0, 4), .inr (0, (9, 0))), (1, (0, 0), (0, 8), .inr (0, (8, 0)))]) (fvs := []) hseg (by decide +kernel) (by decide +kernel)
  have hinv : rxI110_0 S0 ws S (r 8) := hinv
  rw [← hr_ 8 (by decide)] at hinv
  obtain ⟨⟨l8, u8⟩, ⟨l9, u9⟩, ⟨l10, u10⟩, -⟩ := b_
  obtain ⟨T0, ⟨e1, ⟨T2, w_, w2⟩⟩, w0⟩ := d_
  subst w0
  subst w2
  subst w_
  have g := rxd110_0_4 hP hin hsm_ I0 I1 hinv l8 u8 l9 u9 l10 u10 e1
  refine ⟨bx_narP_ok (l := []) g.1, ?_⟩
  show rxPS110 S0 ws (bx_up (bx_up T2 0 (8) (r_p 8)) 437 (4) (r_p 10)) (some (bx_num r_p (.inr (0, (8, 0)))))
  rw [bx_xv_ok h0_]
  exact g.2
theorem rxd110_0_5 {S0 : Nat → Int → Int} {ws : List Int} {S : Nat → Int → Int} {c x9 x10 : Int} (hP : rxP110 S0 ws) (hin : bx_same rxL (bx_mdl rxC110.2.2.1) S0 S) (hin2 : bx_same rxL (bx_mdl rxC110.2.2.1) S (bx_up (bx_up S 0 8 c) 437 3 x10)) (I0 : bx_Inv rxL S) (I1 : bx_Inv rxL (bx_up (bx_up S 0 8 c) 437 3 x10)) (hinv : rxI110_0 S0 ws S c) (l8 : (-5) ≤ c) (u8 : c ≤ (-5)) (l9 : (-2147483648) ≤ x9) (u9 : x9 ≤ 2147483647) (l10 : (-2147483648) ≤ x10) (u10 : x10 ≤ 2147483647) (e1 : (bx_up S 0 8 c) 437 3 = x9) : (True) ∧ rxPS110 S0 ws (bx_up (bx_up S 0 8 c) 437 3 x10) (some c) := by
  obtain ⟨rfl, hw⟩ := hinv
  exact ⟨trivial, c, hw, rfl⟩
theorem rxf110_0_5 {X : (Nat → Int → Int) → Prop} {S0 : Nat → Int → Int} {ws : List Int} (hP : rxP110 S0 ws) : bx_obE rxL X S0 rxC110.2.2.1 (rxI110 S0 ws) (rxPS110 S0 ws) 0 rxz110_0 rxe110_0_5 := by
  intro S S_p r r_p hinv hX hin hsm_ hseg
  obtain ⟨I0, I1, h0_, hr_, b_, f_, d_⟩ := bx_cl (evs := [(1, (0, 437), (0, 3), .inr (0, (10, 0))), (0, (0, 437), (0, 3), .inr (0, (9, 0))), (1, (0, 0), (0, 8), .inr (0, (8, 0)))]) (fvs := []) hseg (by decide +kernel) (by decide +kernel)
  have hinv : rxI110_0 S0 ws S (r 8) := hinv
  rw [← hr_ 8 (by decide)] at hinv
  obtain ⟨⟨l8, u8⟩, ⟨l9, u9⟩, ⟨l10, u10⟩, -⟩ := b_
  obtain ⟨T0, ⟨e1, ⟨T2, w_, w2⟩⟩, w0⟩ := d_
  subst w0
  subst w2
  subst w_
  have g := rxd110_0_5 hP hin hsm_ I0 I1 hinv l8 u8 l9 u9 l10 u10 e1
  refine ⟨bx_narP_ok (l := []) g.1, ?_⟩
  show rxPS110 S0 ws (bx_up (bx_up T2 0 (8) (r_p 8)) 437 (3) (r_p 10)) (some (bx_num r_p (.inr (0, (8, 0)))))
  rw [bx_xv_ok h0_]
  exact g.2
theorem rxgC110 {X : (Nat → Int → Int) → Prop} {S0 : Nat → Int → Int} {ws : List Int} (hP : rxP110 S0 ws) : bx_allI (fun i q => rxU110 q = true ∨ bx_allP (fun o => bx_obC rxL X S0 rxC110.2.2.1 (rxI110 S0 ws) (rxm110 S0 ws) i q.1 o) q.2.1) 0 rxY110 := ⟨Or.inr trivial, trivial⟩
theorem rxgE110 {X : (Nat → Int → Int) → Prop} {S0 : Nat → Int → Int} {ws : List Int} (hP : rxP110 S0 ws) : bx_allI (fun i q => rxU110 q = true ∨ bx_allP (fun E => bx_obE rxL X S0 rxC110.2.2.1 (rxI110 S0 ws) (rxPS110 S0 ws) i q.1 E) q.2.2) 0 rxY110 := ⟨Or.inr ⟨rxf110_0_0 hP, rxf110_0_1 hP, rxf110_0_2 hP, rxf110_0_3 hP, rxf110_0_4 hP, rxf110_0_5 hP, trivial⟩, trivial⟩
theorem rxQ110 {PX : State → Prop} {Dg : va_G} {A : Nat → Prop} {ad xa : Nat → Nat} {l : Launch} {X : (Nat → Int → Int) → Prop} (hPX : rx_PXOK rxNW A PX) (hsl : ∀ s : State, PX s → ∀ o idx n : Nat, rxSl o idx = some n → ∃ tx : String, vk_R (rxNm o) idx tx (ad n) s)
    (hX : ∀ S S_p : Nat → Int → Int, X S → bx_same rxL (bx_mdl rxC110.2.2.1) S S_p → X S_p)
    (ih : ∀ (j2 : Nat) (ct2 : bx_Ct) (M2 : rx_Mt), ct2 ∈ rxCnE j2 → ct2.2.2.2.1 + 1 ≤ rxC110.2.2.2.1 → rxT.2.2.2.2.2 j2 = some M2 → bx_Con rxG rxNW rxAO PX Dg rxL X vwCl A ad l M2 ct2) : bx_ConP rxG rxNW rxAO PX Dg rxL X vwCl A ad l rxM110 rxC110 rxP110 rxPS110 :=
  rxQof (xa := xa) (Cn := rxCnE) (f := 30000) (j := 110) (tab := rxY110) (us := rxU110) hPX hsl hX ih rfl rxYc110 rxI110 rxm110
    (fun S0 ws r I0 I ht0 ht as he he1 hX0 hI0 hP hs ha => by
      have e := he.symm.trans (show bx_ent0 rxNP rxC110.1 bx_I0 [] = some ([(0, 0), (0, 0), (0, 0), (0, 0), (0, 0), (0, 0), (0, 0), (0, 0), ((-6), (-1))], [], [.inr (3, (0, 0)), .inr (0, (8, 0))]) from rfl)
      cases e
      subst ha
      have h0 : r 0 = 0 := hs.1
      show rxI110_0 S0 _ S0 (r 8)
      refine ⟨rfl, ?_⟩
      simp only [List.map_cons, List.map_nil, bx_xv_ok h0]
      rfl)
    (fun S0 ws hP => fun i q hq hus => absurd (show false = true from hus) Bool.false_ne_true) (fun S0 ws hP => rxgC110 hP) (fun S0 ws hP => rxgE110 hP)
