section
noncomputable def rxI110_0 (S0 : Nat → Int → Int) (ws : List Int) (S : Nat → Int → Int) (c : Int) : Prop := S = S0 ∧ ws = [0, c]
noncomputable def rxm110_0 (S0 : Nat → Int → Int) (ws : List Int) (S : Nat → Int → Int) (c : Int) : Nat := 10
noncomputable def rxz110_0 : rx_Z := ([(0, 0), (0, 0), (0, 0), (0, 0), (0, 0), (0, 0), (0, 0), (0, 0), ((-6), (-1))], [], [], 0, 0, 0, [(0, .inr (3, (0, 0))), (1, .inr (0, (8, 0)))], [])
noncomputable def rxe110_0_0 : rx_End × List (Nat × Int × Int) := (([(0, 0), (0, 0), (0, 0), (0, 0), (0, 0), (0, 0), (0, 0), (0, 0), ((-6), (-6)), ((-2147483648), 2147483647), ((-2147483648), 2147483647)], [], [(((0, 0), 1851192626986356798227167157524121751206303872841384192026411011000000), .inr (0, (10, 0))), (((0, 437), 4), .inr (0, (10, 0))), (((0, 0), 1851192626986356798227167157524121751206303872841384192026411008000000), .inr (0, (9, 0))), (((0, 0), 9), .inr (3, (0, 437))), (((0, 0), 1851192626986356799029993984671224184301589730656725205983952899000000), .inr (0, (8, 0))), (((0, 0), 8), .inr (0, (8, 0)))], some (.inr (0, (8, 0)))), [])
noncomputable def rxe110_0_1 : rx_End × List (Nat × Int × Int) := (([(0, 0), (0, 0), (0, 0), (0, 0), (0, 0), (0, 0), (0, 0), (0, 0), ((-1), (-1)), ((-2147483648), 2147483647), ((-2147483648), 2147483647)], [], [(((0, 0), 1851192626986356797424340330377019318111018015026043177811116035000000), .inr (0, (10, 0))), (((0, 437), 0), .inr (0, (10, 0))), (((0, 0), 1851192626986356797424340330377019318111018015026043177811116032000000), .inr (0, (9, 0))), (((0, 0), 9), .inr (3, (0, 437))), (((0, 0), 1851192626986356799029993984671224184301589730656725205983952899000000), .inr (0, (8, 0))), (((0, 0), 8), .inr (0, (8, 0)))], some (.inr (0, (8, 0)))), [])
noncomputable def rxe110_0_2 : rx_End × List (Nat × Int × Int) := (([(0, 0), (0, 0), (0, 0), (0, 0), (0, 0), (0, 0), (0, 0), (0, 0), ((-2), (-2)), ((-2147483648), 2147483647), ((-2147483648), 2147483647)], [], [(((0, 0), 1851192626986356797625047037163794926384839479479878431364939779000000), .inr (0, (10, 0))), (((0, 437), 1), .inr (0, (10, 0))), (((0, 0), 1851192626986356797625047037163794926384839479479878431364939776000000), .inr (0, (9, 0))), (((0, 0), 9), .inr (3, (0, 437))), (((0, 0), 1851192626986356799029993984671224184301589730656725205983952899000000), .inr (0, (8, 0))), (((0, 0), 8), .inr (0, (8, 0)))], some (.inr (0, (8, 0)))), [])
noncomputable def rxe110_0_3 : rx_End × List (Nat × Int × Int) := (([(0, 0), (0, 0), (0, 0), (0, 0), (0, 0), (0, 0), (0, 0), (0, 0), ((-3), (-3)), ((-2147483648), 2147483647), ((-2147483648), 2147483647)], [], [(((0, 0), 1851192626986356797825753743950570534658660943933713684918763523000000), .inr (0, (10, 0))), (((0, 437), 2), .inr (0, (10, 0))), (((0, 0), 1851192626986356797825753743950570534658660943933713684918763520000000), .inr (0, (9, 0))), (((0, 0), 9), .inr (3, (0, 437))), (((0, 0), 1851192626986356799029993984671224184301589730656725205983952899000000), .inr (0, (8, 0))), (((0, 0), 8), .inr (0, (8, 0)))], some (.inr (0, (8, 0)))), [])
noncomputable def rxe110_0_4 : rx_End × List (Nat × Int × Int) := (([(0, 0), (0, 0), (0, 0), (0, 0), (0, 0), (0, 0), (0, 0), (0, 0), ((-4), (-4)), ((-2147483648), 2147483647), ((-2147483648), 2147483647)], [], [(((0, 0), 1851192626986356798227167157524121751206303872841384192026411011000000), .inr (0, (10, 0))), (((0, 437), 4), .inr (0, (10, 0))), (((0, 0), 1851192626986356798227167157524121751206303872841384192026411008000000), .inr (0, (9, 0))), (((0, 0), 9), .inr (3, (0, 437))), (((0, 0), 1851192626986356799029993984671224184301589730656725205983952899000000), .inr (0, (8, 0))), (((0, 0), 8), .inr (0, (8, 0)))], some (.inr (0, (8, 0)))), [])
noncomputable def rxe110_0_5 : rx_End × List (Nat × Int × Int) := (([(0, 0), (0, 0), (0, 0), (0, 0), (0, 0), (0, 0), (0, 0), (0, 0), ((-5), (-5)), ((-2147483648), 2147483647), ((-2147483648), 2147483647)], [], [(((0, 0), 1851192626986356798026460450737346142932482408387548938472587267000000), .inr (0, (10, 0))), (((0, 437), 3), .inr (0, (10, 0))), (((0, 0), 1851192626986356798026460450737346142932482408387548938472587264000000), .inr (0, (9, 0))), (((0, 0), 9), .inr (3, (0, 437))), (((0, 0), 1851192626986356799029993984671224184301589730656725205983952899000000), .inr (0, (8, 0))), (((0, 0), 8), .inr (0, (8, 0)))], some (.inr (0, (8, 0)))), [])
noncomputable def rxY110 : List bx_HE := [(rxz110_0, [], [rxe110_0_0, rxe110_0_1, rxe110_0_2, rxe110_0_3, rxe110_0_4, rxe110_0_5])]
noncomputable def rxU110 (q : bx_HE) : Bool := false
noncomputable def rxYB110 : bx_B := (rxV, rxNP, rxDmf, bx_mdH rxC110.2.2.1)
set_option maxRecDepth 100000 in
theorem rxYc110 : bx_chkH rxYB110 rxM110 rxC110 rxY110 (rxU110, fun cut z => rx_ex2 (rxCT rxYB110 rxCnE) cut 30000 rxC110.2.2.2.1 110 z) = true := by decide +kernel
noncomputable def rxI110 (S0 : Nat → Int → Int) (ws : List Int) (i : Nat) : bx_SP := fun S r => match i with | 0 => rxI110_0 S0 ws S (r 8) | _ => False
noncomputable def rxm110 (S0 : Nat → Int → Int) (ws : List Int) (i : Nat) (S : Nat → Int → Int) (r : Nat → Int) : Nat := match i with | 0 => rxm110_0 S0 ws S (r 8) | _ => 0
noncomputable def rxP110 (S0 : Nat → Int → Int) (ws : List Int) : Prop := True
noncomputable def rxPS110 (S0 : Nat → Int → Int) (ws : List Int) (S : Nat → Int → Int) (w : Option Int) : Prop := ∃ c : Int, ws = [0, c] ∧ w = some c
theorem rxd110_0_0 {S0 : Nat → Int → Int} {ws : List Int} {S : Nat → Int → Int} {c x9 x10 : Int} (hP : rxP110 S0 ws) (hin : bx_same rxL (bx_mdl rxC110.2.2.1) S0 S) (hin2 : bx_same rxL (bx_mdl rxC110.2.2.1) S (bx_up (bx_up S 0 8 c) 437 4 x10)) (I0 : bx_Inv rxL S) (I1 : bx_Inv rxL (bx_up (bx_up S 0 8 c) 437 4 x10)) (hinv : rxI110_0 S0 ws S c) (l8 : (-6) ≤ c) (u8 : c ≤ (-6)) (l9 : (-2147483648) ≤ x9) (u9 : x9 ≤ 2147483647) (l10 : (-2147483648) ≤ x10) (u10 : x10 ≤ 2147483647) (e1 : (bx_up S 0 8 c) 437 4 = x9) : (True) ∧ rxPS110 S0 ws (bx_up (bx_up S 0 8 c) 437 4 x10) (some c) := by
  obtain ⟨rfl, hw⟩ := hinv
  exact ⟨trivial, c, hw, rfl⟩
theorem rxf110_0_0 {X : (Nat → Int → Int) → Prop} {S0 : Nat → Int → Int} {ws : List Int} (hP : rxP110 S0 ws) : bx_obE rxL X S0 rxC110.2.2.1 (rxI110 S0 ws) (rxPS110 S0 ws) 0 rxz110_0 rxe110_0_0 := by
  intro S S_p r r_p hinv hX hin hsm_ hseg
  obtain ⟨I0, I1, h0_, hr_, b_, f_, d_⟩ := bx_cl (evs := [(1, (0, 437), (0, 4), .inr (0, (10, 0))), (0, (0, 437), (0, 4), .inr (0, (9, 0))), (1, (0, 0), (0, 8), .inr (0, (8, 0)))]) (fvs := []) hseg (by decide +kernel) (by decide +kernel)
  have hinv : rxI110_0 S0 ws S (r 8) := hinv
  rw [← hr_ 8 (by decide)] at hinv
  obtain ⟨⟨l8, u8⟩, ⟨l9, u9⟩, ⟨l10, u10⟩, -⟩ := b_
  obtain ⟨T0, ⟨e1, ⟨T2, w_, w2⟩⟩, w0⟩ := d_
  subst w0
  subst w2
  subst w_
  have g := rxd110_0_0 hP hin hsm_ I0 I1 hinv l8 u8 l9 u9 l10 u10 e1
  refine ⟨bx_narP_ok (l := []) g.1, ?_⟩
  show rxPS110 S0 ws (bx_up (bx_up T2 0 (8) (r_p 8)) 437 (4) (r_p 10)) (some (bx_num r_p (.inr (0, (8, 0)))))
  rw [bx_xv_ok h0_]
  exact g.2
theorem rxd110_0_1 {S0 : Nat → Int → Int} {ws : List Int} {S : Nat → Int → Int} {c x9 x10 : Int} (hP : rxP110 S0 ws) (hin : bx_same rxL (bx_mdl rxC110.2.2.1) S0 S) (hin2 : bx_same rxL (bx_mdl rxC110.2.2.1) S (bx_up (bx_up S 0 8 c) 437 0 x10)) (I0 : bx_Inv rxL S) (I1 : bx_Inv rxL (bx_up (bx_up S 0 8 c) 437 0 x10)) (hinv : rxI110_0 S0 ws S c) (l8 : (-1) ≤ c) (u8 : c ≤ (-1)) (l9 : (-2147483648) ≤ x9) (u9 : x9 ≤ 2147483647) (l10 : (-2147483648) ≤ x10) (u10 : x10 ≤ 2147483647) (e1 : (bx_up S 0 8 c) 437 0 = x9) : (True) ∧ rxPS110 S0 ws (bx_up (bx_up S 0 8 c) 437 0 x10) (some c) := by
  obtain ⟨rfl, hw⟩ := hinv
  exact ⟨trivial, c, hw, rfl⟩
theorem rxf110_0_1 {X : (Nat → Int → Int) → Prop} {S0 : Nat → Int → Int} {ws : List Int} (hP : rxP110 S0 ws) : bx_obE rxL X S0 rxC110.2.2.1 (rxI110 S0 ws) (rxPS110 S0 ws) 0 rxz110_0 rxe110_0_1 := by
  intro S S_p r r_p hinv hX hin hsm_ hseg
  obtain ⟨I0, I1, h0_, hr_, b_, f_, d_⟩ := bx_cl (evs := [(1, (0, 437), (0, 0), .inr (0, (10, 0))), (0, (0, 437), (0, 0), .inr (0, (9, 0))), (1, (0, 0), (0, 8), .inr (0, (8, 0)))]) (fvs := []) hseg (by decide +kernel) (by decide +kernel)
  have hinv : rxI110_0 S0 ws S (r 8) := hinv
  rw [← hr_ 8 (by decide)] at hinv
  obtain ⟨⟨l8, u8⟩, ⟨l9, u9⟩, ⟨l10, u10⟩, -⟩ := b_
  obtain ⟨T0, ⟨e1, ⟨T2, w_, w2⟩⟩, w0⟩ := d_
  subst w0
  subst w2
  subst w_
  have g := rxd110_0_1 hP hin hsm_ I0 I1 hinv l8 u8 l9 u9 l10 u10 e1
  refine ⟨bx_narP_ok (l := []) g.1, ?_⟩
  show rxPS110 S0 ws (bx_up (bx_up T2 0 (8) (r_p 8)) 437 (0) (r_p 10)) (some (bx_num r_p (.inr (0, (8, 0)))))
  rw [bx_xv_ok h0_]
  exact g.2
theorem rxd110_0_2 {S0 : Nat → Int → Int} {ws : List Int} {S : Nat → Int → Int} {c x9 x10 : Int} (hP : rxP110 S0 ws) (hin : bx_same rxL (bx_mdl rxC110.2.2.1) S0 S) (hin2 : bx_same rxL (bx_mdl rxC110.2.2.1) S (bx_up (bx_up S 0 8 c) 437 1 x10)) (I0 : bx_Inv rxL S) (I1 : bx_Inv rxL (bx_up (bx_up S 0 8 c) 437 1 x10)) (hinv : rxI110_0 S0 ws S c) (l8 : (-2) ≤ c) (u8 : c ≤ (-2)) (l9 : (-2147483648) ≤ x9) (u9 : x9 ≤ 2147483647) (l10 : (-2147483648) ≤ x10) (u10 : x10 ≤ 2147483647) (e1 : (bx_up S 0 8 c) 437 1 = x9) : (True) ∧ rxPS110 S0 ws (bx_up (bx_up S 0 8 c) 437 1 x10) (some c) := by
  obtain ⟨rfl, hw⟩ := hinv
  exact ⟨trivial, c, hw, rfl⟩
theorem rxf110_0_2 {X : (Nat → Int → Int) → Prop} {S0 : Nat → Int → Int} {ws : List Int} (hP : rxP110 S0 ws) : bx_obE rxL X S0 rxC110.2.2.1 (rxI110 S0 ws) (rxPS110 S0 ws) 0 rxz110_0 rxe110_0_2 := by
  intro S S_p r r_p hinv hX hin hsm_ hseg
  obtain ⟨I0, I1, h0_, hr_, b_, f_, d_⟩ := bx_cl (evs := [(1, (0, 437), (0, 1), .inr (0, (10, 0))), (0, (0, 437), (0, 1), .inr (0, (9, 0))), (1, (0, 0), (0, 8), .inr (0, (8, 0)))]) (fvs := []) hseg (by decide +kernel) (by decide +kernel)
  have hinv : rxI110_0 S0 ws S (r 8) := hinv
  rw [← hr_ 8 (by decide)] at hinv
  obtain ⟨⟨l8, u8⟩, ⟨l9, u9⟩, ⟨l10, u10⟩, -⟩ := b_
  obtain ⟨T0, ⟨e1, ⟨T2, w_, w2⟩⟩, w0⟩ := d_
  subst w0
  subst w2
  subst w_
  have g := rxd110_0_2 hP hin hsm_ I0 I1 hinv l8 u8 l9 u9 l10 u10 e1
  refine ⟨bx_narP_ok (l := []) g.1, ?_⟩
  show rxPS110 S0 ws (bx_up (bx_up T2 0 (8) (r_p 8)) 437 (1) (r_p 10)) (some (bx_num r_p (.inr (0, (8, 0)))))
  rw [bx_xv_ok h0_]
  exact g.2
theorem rxd110_0_3 {S0 : Nat → Int → Int} {ws : List Int} {S : Nat → Int → Int} {c x9 x10 : Int} (hP : rxP110 S0 ws) (hin : bx_same rxL (bx_mdl rxC110.2.2.1) S0 S) (hin2 : bx_same rxL (bx_mdl rxC110.2.2.1) S (bx_up (bx_up S 0 8 c) 437 2 x10)) (I0 : bx_Inv rxL S) (I1 : bx_Inv rxL (bx_up (bx_up S 0 8 c) 437 2 x10)) (hinv : rxI110_0 S0 ws S c) (l8 : (-3) ≤ c) (u8 : c ≤ (-3)) (l9 : (-2147483648) ≤ x9) (u9 : x9 ≤ 2147483647) (l10 : (-2147483648) ≤ x10) (u10 : x10 ≤ 2147483647) (e1 : (bx_up S 0 8 c) 437 2 = x9) : (True) ∧ rxPS110 S0 ws (bx_up (bx_up S 0 8 c) 437 2 x10) (some c) := by
  obtain ⟨rfl, hw⟩ := hinv
  exact ⟨trivial, c, hw, rfl⟩
theorem rxf110_0_3 {X : (Nat → Int → Int) → Prop} {S0 : Nat → Int → Int} {ws : List Int} (hP : rxP110 S0 ws) : bx_obE rxL X S0 rxC110.2.2.1 (rxI110 S0 ws) (rxPS110 S0 ws) 0 rxz110_0 rxe110_0_3 := by
  intro S S_p r r_p hinv hX hin hsm_ hseg
  obtain ⟨I0, I1, h0_, hr_, b_, f_, d_⟩ := bx_cl (evs := [(1, (0, 437), (0, 2), .inr (0, (10, 0))), (0, (0, 437), (0, 2), .inr (0, (9, 0))), (1, (0, 0), (0, 8), .inr (0, (8, 0)))]) (fvs := []) hseg (by decide +kernel) (by decide +kernel)
  have hinv : rxI110_0 S0 ws S (r 8) := hinv
  rw [← hr_ 8 (by decide)] at hinv
  obtain ⟨⟨l8, u8⟩, ⟨l9, u9⟩, ⟨l10, u10⟩, -⟩ := b_
  obtain ⟨T0, ⟨e1, ⟨T2, w_, w2⟩⟩, w0⟩ := d_
  subst w0
  subst w2
  subst w_
  have g := rxd110_0_3 hP hin hsm_ I0 I1 hinv l8 u8 l9 u9 l10 u10 e1
  refine ⟨bx_narP_ok (l := []) g.1, ?_⟩
  show rxPS110 S0 ws (bx_up (bx_up T2 0 (8) (r_p 8)) 437 (2) (r_p 10)) (some (bx_num r_p (.inr (0, (8, 0)))))
  rw [bx_xv_ok h0_]
  exact g.2
theorem rxd110_0_4 {S0 : Nat → Int → Int} {ws : List Int} {S : Nat → Int → Int} {c x9 x10 : Int} (hP : rxP110 S0 ws) (hin : bx_same rxL (bx_mdl rxC110.2.2.1) S0 S) (hin2 : bx_same rxL (bx_mdl rxC110.2.2.1) S (bx_up (bx_up S 0 8 c) 437 4 x10)) (I0 : bx_Inv rxL S) (I1 : bx_Inv rxL (bx_up (bx_up S 0 8 c) 437 4 x10)) (hinv : rxI110_0 S0 ws S c) (l8 : (-4) ≤ c) (u8 : c ≤ (-4)) (l9 : (-2147483648) ≤ x9) (u9 : x9 ≤ 2147483647) (l10 : (-2147483648) ≤ x10) (u10 : x10 ≤ 2147483647) (e1 : (bx_up S 0 8 c) 437 4 = x9) : (True) ∧ rxPS110 S0 ws (bx_up (bx_up S 0 8 c) 437 4 x10) (some c) := by
  obtain ⟨rfl, hw⟩ := hinv
  exact ⟨trivial, c, hw, rfl⟩
theorem rxf110_0_4 {X : (Nat → Int → Int) → Prop} {S0 : Nat → Int → Int} {ws : List Int} (hP : rxP110 S0 ws) : bx_obE rxL X S0 rxC110.2.2.1 (rxI110 S0 ws) (rxPS110 S0 ws) 0 rxz110_0 rxe110_0_4 := by
  intro S S_p r r_p hinv hX hin hsm_ hseg
  obtain ⟨I0, I1, h0_, hr_, b_, f_, d_⟩ := bx_cl (evs := [(1, (0, 437), (0, 4), .inr (0, (10, 0))), (0, (0, 437), (0, 4), .inr (0, (9, 0))), (1, (0, 0), (0, 8), .inr (0, (8, 0)))]) (fvs := []) hseg (by decide +kernel) (by decide +kernel)
  have hinv : rxI110_0 S0 ws S (r 8) := hinv
  rw [← hr_ 8 (by decide)] at hinv
  obtain ⟨⟨l8, u8⟩, ⟨l9, u9⟩, ⟨l10, u10⟩, -⟩ := b_
  obtain ⟨T0, ⟨e1, ⟨T2, w_, w2⟩⟩, w0⟩ := d_
  subst w0
  subst w2
  subst w_
  have g := rxd110_0_4 hP hin hsm_ I0 I1 hinv l8 u8 l9 u9 l10 u10 e1
  refine ⟨bx_narP_ok (l := []) g.1, ?_⟩
  show rxPS110 S0 ws (bx_up (bx_up T2 0 (8) (r_p 8)) 437 (4) (r_p 10)) (some (bx_num r_p (.inr (0, (8, 0)))))
  rw [bx_xv_ok h0_]
  exact g.2
theorem rxd110_0_5 {S0 : Nat → Int → Int} {ws : List Int} {S : Nat → Int → Int} {c x9 x10 : Int} (hP : rxP110 S0 ws) (hin : bx_same rxL (bx_mdl rxC110.2.2.1) S0 S) (hin2 : bx_same rxL (bx_mdl rxC110.2.2.1) S (bx_up (bx_up S 0 8 c) 437 3 x10)) (I0 : bx_Inv rxL S) (I1 : bx_Inv rxL (bx_up (bx_up S 0 8 c) 437 3 x10)) (hinv : rxI110_0 S0 ws S c) (l8 : (-5) ≤ c) (u8 : c ≤ (-5)) (l9 : (-2147483648) ≤ x9) (u9 : x9 ≤ 2147483647) (l10 : (-2147483648) ≤ x10) (u10 : x10 ≤ 2147483647) (e1 : (bx_up S 0 8 c) 437 3 = x9) : (True) ∧ rxPS110 S0 ws (bx_up (bx_up S 0 8 c) 437 3 x10) (some c) := by
  obtain ⟨rfl, hw⟩ := hinv
  exact ⟨trivial, c, hw, rfl⟩
theorem rxf110_0_5 {X : (Nat → Int → Int) → Prop} {S0 : Nat → Int → Int} {ws : List Int} (hP : rxP110 S0 ws) : bx_obE rxL X S0 rxC110.2.2.1 (rxI110 S0 ws) (rxPS110 S0 ws) 0 rxz110_0 rxe110_0_5 := by
  intro S S_p r r_p hinv hX hin hsm_ hseg
  obtain ⟨I0, I1, h0_, hr_, b_, f_, d_⟩ := bx_cl (evs := [(1, (0, 437), (0, 3), .inr (0, (10, 0))), (0, (0, 437), (0, 3), .inr (0, (9, 0))), (1, (0, 0), (0, 8), .inr (0, (8, 0)))]) (fvs := []) hseg (by decide +kernel) (by decide +kernel)
  have hinv : rxI110_0 S0 ws S (r 8) := hinv
  rw [← hr_ 8 (by decide)] at hinv
  obtain ⟨⟨l8, u8⟩, ⟨l9, u9⟩, ⟨l10, u10⟩, -⟩ := b_
  obtain ⟨T0, ⟨e1, ⟨T2, w_, w2⟩⟩, w0⟩ := d_
  subst w0
  subst w2
  subst w_
  have g := rxd110_0_5 hP hin hsm_ I0 I1 hinv l8 u8 l9 u9 l10 u10 e1
  refine ⟨bx_narP_ok (l := []) g.1, ?_⟩
  show rxPS110 S0 ws (bx_up (bx_up T2 0 (8) (r_p 8)) 437 (3) (r_p 10)) (some (bx_num r_p (.inr (0, (8, 0)))))
  rw [bx_xv_ok h0_]
  exact g.2
theorem rxgC110 {X : (Nat → Int → Int) → Prop} {S0 : Nat → Int → Int} {ws : List Int} (hP : rxP110 S0 ws) : bx_allI (fun i q => rxU110 q = true ∨ bx_allP (fun o => bx_obC rxL X S0 rxC110.2.2.1 (rxI110 S0 ws) (rxm110 S0 ws) i q.1 o) q.2.1) 0 rxY110 := ⟨Or.inr trivial, trivial⟩
theorem rxgE110 {X : (Nat → Int → Int) → Prop} {S0 : Nat → Int → Int} {ws : List Int} (hP : rxP110 S0 ws) : bx_allI (fun i q => rxU110 q = true ∨ bx_allP (fun E => bx_obE rxL X S0 rxC110.2.2.1 (rxI110 S0 ws) (rxPS110 S0 ws) i q.1 E) q.2.2) 0 rxY110 := ⟨Or.inr ⟨rxf110_0_0 hP, rxf110_0_1 hP, rxf110_0_2 hP, rxf110_0_3 hP, rxf110_0_4 hP, rxf110_0_5 hP, trivial⟩, trivial⟩
theorem rxQ110 {PX : State → Prop} {Dg : va_G} {A : Nat → Prop} {ad xa : Nat → Nat} {l : Launch} {X : (Nat → Int → Int) → Prop} (hPX : rx_PXOK rxNW A PX) (hsl : ∀ s : State, PX s → ∀ o idx n : Nat, rxSl o idx = some n → ∃ tx : String, vk_R (rxNm o) idx tx (ad n) s)
    (hX : ∀ S S_p : Nat → Int → Int, X S → bx_same rxL (bx_mdl rxC110.2.2.1) S S_p → X S_p)
    (ih : ∀ (j2 : Nat) (ct2 : bx_Ct) (M2 : rx_Mt), ct2 ∈ rxCnE j2 → ct2.2.2.2.1 + 1 ≤ rxC110.2.2.2.1 → rxT.2.2.2.2.2 j2 = some M2 → bx_Con rxG rxNW rxAO PX Dg rxL X vwCl A ad l M2 ct2) : bx_ConP rxG rxNW rxAO PX Dg rxL X vwCl A ad l rxM110 rxC110 rxP110 rxPS110 :=
  rxQof (xa := xa) (Cn := rxCnE) (f := 30000) (j := 110) (tab := rxY110) (us := rxU110) hPX hsl hX ih rfl rxYc110 rxI110 rxm110
    (fun S0 ws r I0 I ht0 ht as he he1 hX0 hI0 hP hs ha => by
      have e := he.symm.trans (show bx_ent0 rxNP rxC110.1 bx_I0 [] = some ([(0, 0), (0, 0), (0, 0), (0, 0), (0, 0), (0, 0), (0, 0), (0, 0), ((-6), (-1))], [], [.inr (3, (0, 0)), .inr (0, (8, 0))]) from rfl)
      cases e
      subst ha
      have h0 : r 0 = 0 := hs.1
      show rxI110_0 S0 _ S0 (r 8)
      refine ⟨rfl, ?_⟩
      simp only [List.map_cons, List.map_nil, bx_xv_ok h0]
      rfl)
    (fun S0 ws hP => fun i q hq hus => absurd (show false = true from hus) Bool.false_ne_true) (fun S0 ws hP => rxgC110 hP) (fun S0 ws hP => rxgE110 hP)
end
section
end
section
end
section
noncomputable def rxI208_0 (S0 : Nat → Int → Int) (ws : List Int) (S : Nat → Int → Int) (ki : Int) : Prop := S = S0 ∧ ws = [0, ki]
noncomputable def rxm208_0 (S0 : Nat → Int → Int) (ws : List Int) (S : Nat → Int → Int) (ki : Int) : Nat := 100
noncomputable def rxz208_0 : rx_Z := ([(0, 0), (0, 0), (0, 0), (0, 0), (0, 0), (0, 0), (0, 0), (0, 0), ((-2147483648), 2147483647)], [], [], 0, 0, 0, [(0, .inr (3, (0, 0))), (1, .inr (0, (8, 0)))], [])
noncomputable def rxI208_1 (S0 : Nat → Int → Int) (ws : List Int) (S : Nat → Int → Int) (ki : Int) : Prop := S = S0
noncomputable def rxm208_1 (S0 : Nat → Int → Int) (ws : List Int) (S : Nat → Int → Int) (ki : Int) : Nat := 50
noncomputable def rxz208_1 : rx_Z := ([(0, 0), (0, 0), (0, 0), (0, 0), (0, 0), (0, 0), (0, 0), (0, 0), ((-2147483648), 2147483647)], [], [], 0, 0, 11, [(0, .inr (3, (0, 0))), (1, .inr (0, (8, 0)))], [.inr (0, (0, (-1))), .inr (3, (0, 0))])
noncomputable def rxI208_2 (S0 : Nat → Int → Int) (ws : List Int) (S : Nat → Int → Int) (ki res : Int) : Prop := res = -1 ∧ bx_same rxL (bx_mdl rxC110.2.2.1) S0 S
noncomputable def rxm208_2 (S0 : Nat → Int → Int) (ws : List Int) (S : Nat → Int → Int) (ki res : Int) : Nat := 20
noncomputable def rxz208_2 : rx_Z := ([(0, 0), (0, 0), (0, 0), (0, 0), (0, 0), (0, 0), (0, 0), (0, 0), ((-2147483648), 2147483647), ((-6), (-1))], [], [], 0, 0, 14, [(0, .inr (3, (0, 0))), (1, .inr (0, (8, 0)))], [.inr (0, (9, 0))])
noncomputable def rxo208_0_0 : bx_HO := (([(0, 0), (0, 0), (0, 0), (0, 0), (0, 0), (0, 0), (0, 0), (0, 0), (2, 2147483647)], [], [], 0, 0, 11, [(0, .inr (3, (0, 0))), (1, .inr (0, (8, 0)))], [.inr (0, (0, (-1))), .inr (3, (0, 0))]), [], [], [(0, 0), (0, 0), (0, 0), (0, 0), (0, 0), (0, 0), (0, 0), (0, 0), (8, 0)], 1)
noncomputable def rxo208_0_1 : bx_HO := (([(0, 0), (0, 0), (0, 0), (0, 0), (0, 0), (0, 0), (0, 0), (0, 0), ((-2147483648), (-1))], [], [], 0, 0, 11, [(0, .inr (3, (0, 0))), (1, .inr (0, (8, 0)))], [.inr (0, (0, (-1))), .inr (3, (0, 0))]), [], [], [(0, 0), (0, 0), (0, 0), (0, 0), (0, 0), (0, 0), (0, 0), (0, 0), (8, 0)], 1)
noncomputable def rxe208_0_0 : rx_End × List (Nat × Int × Int) := (([(0, 0), (0, 0), (0, 0), (0, 0), (0, 0), (0, 0), (0, 0), (0, 0), (0, 1), (0, 1522)], [], [(((0, 0), 1851192626986356799029993984671224184301589730656725205983952899000000), .inr (0, (0, 0))), (((0, 0), 8), .inr (0, (0, 0))), (((0, 0), 1851192626986356797424364830707437625680387377997778265106415619000000), .inr (0, (0, 1))), (((0, 0), 2), .inr (3, (0, 410))), (((0, 0), 1800006000000), .inl none), (((0, 0), 4500006000000), .inl none), (((0, 0), 5400006000000), .inl none), (((0, 0), 5400042000000), .inl none), (((0, 0), 9000006000000), .inl none), (((0, 0), 9000051000000), .inl none), (((0, 0), 9000096000000), .inl none), (((0, 0), 9000132000000), .inl none), (((0, 0), 9000141000000), .inl none), (((0, 0), 900000006000000), .inl none), (((0, 0), 900900006000000), .inl none), (((0, 0), 902700006000000), .inl none), (((0, 0), 903600006000000), .inl none), (((0, 0), 904500006000000), .inl none), (((0, 0), 905400006000000), .inl none), (((0, 0), 906300006000000), .inl none), (((0, 0), 907200006000000), .inl none), (((0, 0), 909000006000000), .inl none), (((0, 0), 909900006000000), .inl none), (((0, 0), 910800006000000), .inl none), (((0, 0), 911700006000000), .inl none), (((0, 0), 913500006000000), .inl none), (((0, 0), 917100006000000), .inl none), (((0, 0), 918000006000000), .inl none), (((0, 0), 918900006000000), .inl none), (((0, 0), 919800006000000), .inl none), (((0, 0), 921600006000000), .inl none), (((0, 0), 922500006000000), .inl none), (((0, 0), 923400006000000), .inl none), (((0, 0), 924300006000000), .inl none), (((0, 0), 89999100006000000), .inl none), (((0, 0), 0), .inr (3, (0, 1))), (((0, 0), 1851192626986356797424364830707437625680387377997778264945393664000000), .inr (3, (9, 0))), (((9, 0), 1000011), .inl none), (((0, 0), 1), .inr (3, (0, 137)))], some (.inr (0, (0, 0)))), [])
noncomputable def rxe208_2_0 : rx_End × List (Nat × Int × Int) := (([(0, 0), (0, 0), (0, 0), (0, 0), (0, 0), (0, 0), (0, 0), (0, 0), ((-2147483648), 2147483647), ((-6), (-1))], [], [], some (.inr (0, (9, 0)))), [])
noncomputable def rxY208 : List bx_HE := [(rxz208_0, [rxo208_0_0, rxo208_0_1], [rxe208_0_0]), (rxz208_1, [], []), (rxz208_2, [], [rxe208_2_0])]
noncomputable def rxU208 (q : bx_HE) : Bool := Nat.beq (rx_zpc q.1) 11
noncomputable def rxYB208 : bx_B := (rxV, rxNP, rxDmf, bx_mdH rxC208.2.2.1)
set_option maxRecDepth 100000 in
theorem rxYc208 : bx_chkH rxYB208 rxM208 rxC208 rxY208 (rxU208, fun cut z => rx_ex2 (rxCT rxYB208 rxCn) cut 30000 rxC208.2.2.2.1 208 z) = true := by decide +kernel
noncomputable def rxI208 (S0 : Nat → Int → Int) (ws : List Int) (i : Nat) : bx_SP := fun S r => match i with | 0 => rxI208_0 S0 ws S (r 8) | 1 => rxI208_1 S0 ws S (r 8) | 2 => rxI208_2 S0 ws S (r 8) (r 9) | _ => False
noncomputable def rxm208 (S0 : Nat → Int → Int) (ws : List Int) (i : Nat) (S : Nat → Int → Int) (r : Nat → Int) : Nat := match i with | 0 => rxm208_0 S0 ws S (r 8) | 1 => rxm208_1 S0 ws S (r 8) | 2 => rxm208_2 S0 ws S (r 8) (r 9) | _ => 0
noncomputable def rxP208 (S0 : Nat → Int → Int) (ws : List Int) : Prop := ∃ k : Int, ws = [0, k] ∧ (k < 0 ∨ 1 < k)
noncomputable def rxPS208 (S0 : Nat → Int → Int) (ws : List Int) (S : Nat → Int → Int) (w : Option Int) : Prop := w = some (-1) ∧ bx_same rxL (bx_mdl rxC110.2.2.1) S0 S
theorem rxk208_1 {S0 : Nat → Int → Int} {ws : List Int} {S : Nat → Int → Int} {ki : Int} (hP : rxP208 S0 ws) (hin : bx_same rxL (bx_mdl rxC208.2.2.1) S0 S) (I0 : bx_Inv rxL S) (hinv : rxI208_1 S0 ws S ki) (l8 : (-2147483648) ≤ ki) (u8 : ki ≤ 2147483647) : rxP110 S [0, (-1)] ∧ ∀ (S_p : Nat → Int → Int) (res : Int), (-6) ≤ res → res ≤ (-1) → rxPS110 S [0, (-1)] S_p (some res) → bx_Inv rxL S_p → bx_same rxL (bx_mdl rxC110.2.2.1) S S_p → rxI208_2 S0 ws S_p ki res ∧ rxm208_2 S0 ws S_p ki res < rxm208_1 S0 ws S ki := by
  have hinv : S = S0 := hinv
  subst hinv
  refine ⟨trivial, fun S_p res _ _ hq _ hsm => ⟨⟨?_, hsm⟩, by unfold rxm208_1 rxm208_2; omega⟩⟩
  obtain ⟨c, hc, hr⟩ := hq
  simp only [List.cons.injEq, and_true, true_and] at hc
  simp only [Option.some.injEq] at hr
  omega
theorem rxs208_1 {X : (Nat → Int → Int) → Prop} {S0 : Nat → Int → Int} {ws : List Int} (hP : rxP208 S0 ws) : rx_obK X S0 rxC208.2.2.1 rxC110.2.2.1 (rxI208 S0 ws) (rxm208 S0 ws) 1 2 rxz208_1 rxz208_2 [.inr (3, (0, 0)), .inr (0, (0, (-1)))] (some 9) rxP110 rxPS110 := by
  intro S r hinv hXS I0 hin hs_ hf_
  have b_ := bx_bds_sat hs_
  have f_ := bx_fcl_ok hs_.1 hf_
  obtain ⟨⟨l8, u8⟩, -⟩ := b_
  have g := rxk208_1 hP hin I0 hinv l8 u8
  have ea : List.map (bx_num r) [.inr (3, (0, 0)), .inr (0, (0, (-1)))] = [0, -1] := by
    simp only [List.map_cons, List.map_nil, bx_xv_ok hs_.1]
    rfl
  rw [ea]
  refine ⟨g.1, fun S_p w r_p hPS hX_p I1 hsm hr hw hs_p => ?_⟩
  have hw := hw _ rfl
  subst hw
  have b_p := hs_p.2.2 9 _ _ rfl
  have g2 := g.2 S_p (r_p 9) b_p.1 b_p.2 hPS I1 hsm
  show rxI208_2 S0 ws S_p (r_p 8) (r_p 9) ∧ rxm208_2 S0 ws S_p (r_p 8) (r_p 9) < _
  rw [hr 8 (by decide)]
  exact g2
theorem rxc208_0_0 {S0 : Nat → Int → Int} {ws : List Int} {S : Nat → Int → Int} {ki : Int} (hP : rxP208 S0 ws) (hin : bx_same rxL (bx_mdl rxC208.2.2.1) S0 S) (I0 : bx_Inv rxL S) (hinv : rxI208_0 S0 ws S ki) (l8 : 2 ≤ ki) (u8 : ki ≤ 2147483647) : (True) ∧ (True) ∧ rxI208_1 S0 ws S ki ∧ rxm208_1 S0 ws S ki < rxm208_0 S0 ws S ki := by
  obtain ⟨rfl, hw⟩ := hinv
  exact ⟨trivial, trivial, rfl, by unfold rxm208_0 rxm208_1; omega⟩
theorem rxg208_0_0 {X : (Nat → Int → Int) → Prop} {S0 : Nat → Int → Int} {ws : List Int} (hP : rxP208 S0 ws) : bx_obC rxL X S0 rxC208.2.2.1 (rxI208 S0 ws) (rxm208 S0 ws) 0 rxz208_0 rxo208_0_0 := by
  intro S S_p r r_p hinv hX hin hsm_ hseg
  obtain ⟨I0, I1, h0_, hr_, b_, f_, d_⟩ := bx_cl (evs := []) (fvs := []) hseg (by decide +kernel) (by decide +kernel)
  have hinv : rxI208_0 S0 ws S (r 8) := hinv
  rw [← hr_ 8 (by decide)] at hinv
  obtain ⟨⟨l8, u8⟩, -⟩ := b_
  have w_ := d_
  subst w_
  have g := rxc208_0_0 hP hin I0 hinv l8 u8
  refine ⟨bx_narP_ok (l := []) g.1, bx_nfP_ok h0_ (fvs := []) (by decide +kernel) g.2.1, ?_, ?_⟩
  · show rxI208_1 S0 ws S_p (bx_val [(0, 0), (0, 0), (0, 0), (0, 0), (0, 0), (0, 0), (0, 0), (0, 0), (8, 0)] r_p 8)
    rw [bx_val_x (n := 8) (e := (8, 0)) h0_ rfl]
    exact g.2.2.1
  · show rxm208_1 S0 ws S_p (bx_val [(0, 0), (0, 0), (0, 0), (0, 0), (0, 0), (0, 0), (0, 0), (0, 0), (8, 0)] r_p 8) < rxm208_0 S0 ws S_p (r 8)
    rw [bx_val_x (n := 8) (e := (8, 0)) h0_ rfl, ← hr_ 8 (by decide)]
    exact g.2.2.2
theorem rxc208_0_1 {S0 : Nat → Int → Int} {ws : List Int} {S : Nat → Int → Int} {ki : Int} (hP : rxP208 S0 ws) (hin : bx_same rxL (bx_mdl rxC208.2.2.1) S0 S) (I0 : bx_Inv rxL S) (hinv : rxI208_0 S0 ws S ki) (l8 : (-2147483648) ≤ ki) (u8 : ki ≤ (-1)) : (True) ∧ (True) ∧ rxI208_1 S0 ws S ki ∧ rxm208_1 S0 ws S ki < rxm208_0 S0 ws S ki := by
  obtain ⟨rfl, hw⟩ := hinv
  exact ⟨trivial, trivial, rfl, by unfold rxm208_0 rxm208_1; omega⟩
theorem rxg208_0_1 {X : (Nat → Int → Int) → Prop} {S0 : Nat → Int → Int} {ws : List Int} (hP : rxP208 S0 ws) : bx_obC rxL X S0 rxC208.2.2.1 (rxI208 S0 ws) (rxm208 S0 ws) 0 rxz208_0 rxo208_0_1 := by
  intro S S_p r r_p hinv hX hin hsm_ hseg
  obtain ⟨I0, I1, h0_, hr_, b_, f_, d_⟩ := bx_cl (evs := []) (fvs := []) hseg (by decide +kernel) (by decide +kernel)
  have hinv : rxI208_0 S0 ws S (r 8) := hinv
  rw [← hr_ 8 (by decide)] at hinv
  obtain ⟨⟨l8, u8⟩, -⟩ := b_
  have w_ := d_
  subst w_
  have g := rxc208_0_1 hP hin I0 hinv l8 u8
  refine ⟨bx_narP_ok (l := []) g.1, bx_nfP_ok h0_ (fvs := []) (by decide +kernel) g.2.1, ?_, ?_⟩
  · show rxI208_1 S0 ws S_p (bx_val [(0, 0), (0, 0), (0, 0), (0, 0), (0, 0), (0, 0), (0, 0), (0, 0), (8, 0)] r_p 8)
    rw [bx_val_x (n := 8) (e := (8, 0)) h0_ rfl]
    exact g.2.2.1
  · show rxm208_1 S0 ws S_p (bx_val [(0, 0), (0, 0), (0, 0), (0, 0), (0, 0), (0, 0), (0, 0), (0, 0), (8, 0)] r_p 8) < rxm208_0 S0 ws S_p (r 8)
    rw [bx_val_x (n := 8) (e := (8, 0)) h0_ rfl, ← hr_ 8 (by decide)]
    exact g.2.2.2
theorem rxd208_0_0 {S0 : Nat → Int → Int} {ws : List Int} {S T32 T31 T30 T29 T28 T27 T26 T25 T24 T23 T22 T21 T20 T19 T18 T17 T16 T15 T14 T13 T12 T11 T10 T9 T8 T7 T6 T5 T4 T3 T2 : Nat → Int → Int} {ki x9 : Int} (hP : rxP208 S0 ws) (hin : bx_same rxL (bx_mdl rxC208.2.2.1) S0 S) (hin2 : bx_same rxL (bx_mdl rxC208.2.2.1) S (bx_up (bx_up T2 410 ki 1) 0 8 0)) (I0 : bx_Inv rxL S) (I1 : bx_Inv rxL (bx_up (bx_up T2 410 ki 1) 0 8 0)) (hinv : rxI208_0 S0 ws S ki) (l8 : 0 ≤ ki) (u8 : ki ≤ 1) (l9 : 0 ≤ x9) (u9 : x9 ≤ 1522) (e33 : S 137 ki = x9) (v32 : ∀ (p i : Nat), p < rxL.2.1 → i < bx_wd (rxL.1 p) → bx_mc (rxL.1 p) i ≠ (99999, 0) → T32 p (i : Int) = S p (i : Int)) (v31 : ∀ (p i : Nat), p < rxL.2.1 → i < bx_wd (rxL.1 p) → bx_mc (rxL.1 p) i ≠ (1027, 0) → T31 p (i : Int) = T32 p (i : Int)) (v30 : ∀ (p i : Nat), p < rxL.2.1 → i < bx_wd (rxL.1 p) → bx_mc (rxL.1 p) i ≠ (1026, 0) → T30 p (i : Int) = T31 p (i : Int)) (v29 : ∀ (p i : Nat), p < rxL.2.1 → i < bx_wd (rxL.1 p) → bx_mc (rxL.1 p) i ≠ (1025, 0) → T29 p (i : Int) = T30 p (i : Int)) (v28 : ∀ (p i : Nat), p < rxL.2.1 → i < bx_wd (rxL.1 p) → bx_mc (rxL.1 p) i ≠ (1024, 0) → T28 p (i : Int) = T29 p (i : Int)) (v27 : ∀ (p i : Nat), p < rxL.2.1 → i < bx_wd (rxL.1 p) → bx_mc (rxL.1 p) i ≠ (1022, 0) → T27 p (i : Int) = T28 p (i : Int)) (v26 : ∀ (p i : Nat), p < rxL.2.1 → i < bx_wd (rxL.1 p) → bx_mc (rxL.1 p) i ≠ (1021, 0) → T26 p (i : Int) = T27 p (i : Int)) (v25 : ∀ (p i : Nat), p < rxL.2.1 → i < bx_wd (rxL.1 p) → bx_mc (rxL.1 p) i ≠ (1020, 0) → T25 p (i : Int) = T26 p (i : Int)) (v24 : ∀ (p i : Nat), p < rxL.2.1 → i < bx_wd (rxL.1 p) → bx_mc (rxL.1 p) i ≠ (1019, 0) → T24 p (i : Int) = T25 p (i : Int)) (v23 : ∀ (p i : Nat), p < rxL.2.1 → i < bx_wd (rxL.1 p) → bx_mc (rxL.1 p) i ≠ (1015, 0) → T23 p (i : Int) = T24 p (i : Int)) (v22 : ∀ (p i : Nat), p < rxL.2.1 → i < bx_wd (rxL.1 p) → bx_mc (rxL.1 p) i ≠ (1013, 0) → T22 p (i : Int) = T23 p (i : Int)) (v21 : ∀ (p i : Nat), p < rxL.2.1 → i < bx_wd (rxL.1 p) → bx_mc (rxL.1 p) i ≠ (1012, 0) → T21 p (i : Int) = T22 p (i : Int)) (v20 : ∀ (p i : Nat), p < rxL.2.1 → i < bx_wd (rxL.1 p) → bx_mc (rxL.1 p) i ≠ (1011, 0) → T20 p (i : Int) = T21 p (i : Int)) (v19 : ∀ (p i : Nat), p < rxL.2.1 → i < bx_wd (rxL.1 p) → bx_mc (rxL.1 p) i ≠ (1010, 0) → T19 p (i : Int) = T20 p (i : Int)) (v18 : ∀ (p i : Nat), p < rxL.2.1 → i < bx_wd (rxL.1 p) → bx_mc (rxL.1 p) i ≠ (1008, 0) → T18 p (i : Int) = T19 p (i : Int)) (v17 : ∀ (p i : Nat), p < rxL.2.1 → i < bx_wd (rxL.1 p) → bx_mc (rxL.1 p) i ≠ (1007, 0) → T17 p (i : Int) = T18 p (i : Int)) (v16 : ∀ (p i : Nat), p < rxL.2.1 → i < bx_wd (rxL.1 p) → bx_mc (rxL.1 p) i ≠ (1006, 0) → T16 p (i : Int) = T17 p (i : Int)) (v15 : ∀ (p i : Nat), p < rxL.2.1 → i < bx_wd (rxL.1 p) → bx_mc (rxL.1 p) i ≠ (1005, 0) → T15 p (i : Int) = T16 p (i : Int)) (v14 : ∀ (p i : Nat), p < rxL.2.1 → i < bx_wd (rxL.1 p) → bx_mc (rxL.1 p) i ≠ (1004, 0) → T14 p (i : Int) = T15 p (i : Int)) (v13 : ∀ (p i : Nat), p < rxL.2.1 → i < bx_wd (rxL.1 p) → bx_mc (rxL.1 p) i ≠ (1003, 0) → T13 p (i : Int) = T14 p (i : Int)) (v12 : ∀ (p i : Nat), p < rxL.2.1 → i < bx_wd (rxL.1 p) → bx_mc (rxL.1 p) i ≠ (1001, 0) → T12 p (i : Int) = T13 p (i : Int)) (v11 : ∀ (p i : Nat), p < rxL.2.1 → i < bx_wd (rxL.1 p) → bx_mc (rxL.1 p) i ≠ (1000, 0) → T11 p (i : Int) = T12 p (i : Int)) (v10 : ∀ (p i : Nat), p < rxL.2.1 → i < bx_wd (rxL.1 p) → bx_mc (rxL.1 p) i ≠ (10, 15) → T10 p (i : Int) = T11 p (i : Int)) (v9 : ∀ (p i : Nat), p < rxL.2.1 → i < bx_wd (rxL.1 p) → bx_mc (rxL.1 p) i ≠ (10, 14) → T9 p (i : Int) = T10 p (i : Int)) (v8 : ∀ (p i : Nat), p < rxL.2.1 → i < bx_wd (rxL.1 p) → bx_mc (rxL.1 p) i ≠ (10, 10) → T8 p (i : Int) = T9 p (i : Int)) (v7 : ∀ (p i : Nat), p < rxL.2.1 → i < bx_wd (rxL.1 p) → bx_mc (rxL.1 p) i ≠ (10, 5) → T7 p (i : Int) = T8 p (i : Int)) (v6 : ∀ (p i : Nat), p < rxL.2.1 → i < bx_wd (rxL.1 p) → bx_mc (rxL.1 p) i ≠ (10, 0) → T6 p (i : Int) = T7 p (i : Int)) (v5 : ∀ (p i : Nat), p < rxL.2.1 → i < bx_wd (rxL.1 p) → bx_mc (rxL.1 p) i ≠ (6, 4) → T5 p (i : Int) = T6 p (i : Int)) (v4 : ∀ (p i : Nat), p < rxL.2.1 → i < bx_wd (rxL.1 p) → bx_mc (rxL.1 p) i ≠ (6, 0) → T4 p (i : Int) = T5 p (i : Int)) (v3 : ∀ (p i : Nat), p < rxL.2.1 → i < bx_wd (rxL.1 p) → bx_mc (rxL.1 p) i ≠ (5, 0) → T3 p (i : Int) = T4 p (i : Int)) (v2 : ∀ (p i : Nat), p < rxL.2.1 → i < bx_wd (rxL.1 p) → bx_mc (rxL.1 p) i ≠ (2, 0) → T2 p (i : Int) = T3 p (i : Int)) : (True) ∧ rxPS208 S0 ws (bx_up (bx_up T2 410 ki 1) 0 8 0) (some 0) := by
  obtain ⟨rfl, hw⟩ := hinv
  obtain ⟨k, hw2, hk⟩ := hP
  have e : ki = k := Option.some.inj (congrArg (fun l => l[1]?) (hw.symm.trans hw2))
  exfalso
  omega
theorem rxf208_0_0 {X : (Nat → Int → Int) → Prop} {S0 : Nat → Int → Int} {ws : List Int} (hP : rxP208 S0 ws) : bx_obE rxL X S0 rxC208.2.2.1 (rxI208 S0 ws) (rxPS208 S0 ws) 0 rxz208_0 rxe208_0_0 := by
  intro S S_p r r_p hinv hX hin hsm_ hseg
  obtain ⟨I0, I1, h0_, hr_, b_, f_, d_⟩ := bx_cl (evs := [(1, (0, 0), (0, 8), .inr (0, (0, 0))), (1, (0, 410), (8, 0), .inr (0, (0, 1))), (2, (2, 0), (0, 0), .inl none), (2, (5, 0), (0, 0), .inl none), (2, (6, 0), (0, 0), .inl none), (2, (6, 0), (4, 0), .inl none), (2, (10, 0), (0, 0), .inl none), (2, (10, 0), (5, 0), .inl none), (2, (10, 0), (10, 0), .inl none), (2, (10, 0), (14, 0), .inl none), (2, (10, 0), (15, 0), .inl none), (2, (1000, 0), (0, 0), .inl none), (2, (1001, 0), (0, 0), .inl none), (2, (1003, 0), (0, 0), .inl none), (2, (1004, 0), (0, 0), .inl none), (2, (1005, 0), (0, 0), .inl none), (2, (1006, 0), (0, 0), .inl none), (2, (1007, 0), (0, 0), .inl none), (2, (1008, 0), (0, 0), .inl none), (2, (1010, 0), (0, 0), .inl none), (2, (1011, 0), (0, 0), .inl none), (2, (1012, 0), (0, 0), .inl none), (2, (1013, 0), (0, 0), .inl none), (2, (1015, 0), (0, 0), .inl none), (2, (1019, 0), (0, 0), .inl none), (2, (1020, 0), (0, 0), .inl none), (2, (1021, 0), (0, 0), .inl none), (2, (1022, 0), (0, 0), .inl none), (2, (1024, 0), (0, 0), .inl none), (2, (1025, 0), (0, 0), .inl none), (2, (1026, 0), (0, 0), .inl none), (2, (1027, 0), (0, 0), .inl none), (2, (99999, 0), (0, 0), .inl none), (0, (0, 137), (8, 0), .inr (3, (9, 0)))]) (fvs := []) hseg (by decide +kernel) (by decide +kernel)
  have hinv : rxI208_0 S0 ws S (r 8) := hinv
  rw [← hr_ 8 (by decide)] at hinv
  obtain ⟨⟨l8, u8⟩, ⟨l9, u9⟩, -⟩ := b_
  obtain ⟨T0, ⟨T1, ⟨T2, ⟨T3, ⟨T4, ⟨T5, ⟨T6, ⟨T7, ⟨T8, ⟨T9, ⟨T10, ⟨T11, ⟨T12, ⟨T13, ⟨T14, ⟨T15, ⟨T16, ⟨T17, ⟨T18, ⟨T19, ⟨T20, ⟨T21, ⟨T22, ⟨T23, ⟨T24, ⟨T25, ⟨T26, ⟨T27, ⟨T28, ⟨T29, ⟨T30, ⟨T31, ⟨T32, ⟨e33, w_⟩, v32⟩, v31⟩, v30⟩, v29⟩, v28⟩, v27⟩, v26⟩, v25⟩, v24⟩, v23⟩, v22⟩, v21⟩, v20⟩, v19⟩, v18⟩, v17⟩, v16⟩, v15⟩, v14⟩, v13⟩, v12⟩, v11⟩, v10⟩, v9⟩, v8⟩, v7⟩, v6⟩, v5⟩, v4⟩, v3⟩, v2⟩, w1⟩, w0⟩ := d_
  subst w0
  subst w1
  subst w_
  have g := rxd208_0_0 hP hin hsm_ I0 I1 hinv l8 u8 l9 u9 e33 v32 v31 v30 v29 v28 v27 v26 v25 v24 v23 v22 v21 v20 v19 v18 v17 v16 v15 v14 v13 v12 v11 v10 v9 v8 v7 v6 v5 v4 v3 v2
  refine ⟨bx_narP_ok (l := []) g.1, ?_⟩
  show rxPS208 S0 ws (bx_up (bx_up T1 410 (r_p 8) (1)) 0 (8) (0)) (some (bx_num r_p (.inr (0, (0, 0)))))
  rw [bx_xv_ok h0_]
  exact g.2
theorem rxd208_2_0 {S0 : Nat → Int → Int} {ws : List Int} {S : Nat → Int → Int} {ki res : Int} (hP : rxP208 S0 ws) (hin : bx_same rxL (bx_mdl rxC208.2.2.1) S0 S) (hin2 : bx_same rxL (bx_mdl rxC208.2.2.1) S S) (I0 : bx_Inv rxL S) (I1 : bx_Inv rxL S) (hinv : rxI208_2 S0 ws S ki res) (l8 : (-2147483648) ≤ ki) (u8 : ki ≤ 2147483647) (l9 : (-6) ≤ res) (u9 : res ≤ (-1)) : (True) ∧ rxPS208 S0 ws S (some res) := by
  obtain ⟨h1, h2⟩ := hinv
  exact ⟨trivial, congrArg some h1, h2⟩
theorem rxf208_2_0 {X : (Nat → Int → Int) → Prop} {S0 : Nat → Int → Int} {ws : List Int} (hP : rxP208 S0 ws) : bx_obE rxL X S0 rxC208.2.2.1 (rxI208 S0 ws) (rxPS208 S0 ws) 2 rxz208_2 rxe208_2_0 := by
  intro S S_p r r_p hinv hX hin hsm_ hseg
  obtain ⟨I0, I1, h0_, hr_, b_, f_, d_⟩ := bx_cl (evs := []) (fvs := []) hseg (by decide +kernel) (by decide +kernel)
  have hinv : rxI208_2 S0 ws S (r 8) (r 9) := hinv
  rw [← hr_ 8 (by decide), ← hr_ 9 (by decide)] at hinv
  obtain ⟨⟨l8, u8⟩, ⟨l9, u9⟩, -⟩ := b_
  have w_ := d_
  subst w_
  have g := rxd208_2_0 hP hin hsm_ I0 I1 hinv l8 u8 l9 u9
  refine ⟨bx_narP_ok (l := []) g.1, ?_⟩
  show rxPS208 S0 ws S_p (some (bx_num r_p (.inr (0, (9, 0)))))
  rw [bx_xv_ok h0_]
  exact g.2
theorem rxgC208 {X : (Nat → Int → Int) → Prop} {S0 : Nat → Int → Int} {ws : List Int} (hP : rxP208 S0 ws) : bx_allI (fun i q => rxU208 q = true ∨ bx_allP (fun o => bx_obC rxL X S0 rxC208.2.2.1 (rxI208 S0 ws) (rxm208 S0 ws) i q.1 o) q.2.1) 0 rxY208 := ⟨Or.inr ⟨rxg208_0_0 hP, rxg208_0_1 hP, trivial⟩, Or.inl rfl, Or.inr trivial, trivial⟩
theorem rxgE208 {X : (Nat → Int → Int) → Prop} {S0 : Nat → Int → Int} {ws : List Int} (hP : rxP208 S0 ws) : bx_allI (fun i q => rxU208 q = true ∨ bx_allP (fun E => bx_obE rxL X S0 rxC208.2.2.1 (rxI208 S0 ws) (rxPS208 S0 ws) i q.1 E) q.2.2) 0 rxY208 := ⟨Or.inr ⟨rxf208_0_0 hP, trivial⟩, Or.inl rfl, Or.inr ⟨rxf208_2_0 hP, trivial⟩, trivial⟩
theorem rxu208 {PX : State → Prop} {Dg : va_G} {A : Nat → Prop} {ad xa : Nat → Nat} {l : Launch} {X : (Nat → Int → Int) → Prop} (hPX : rx_PXOK rxNW A PX) (hX : ∀ S S1 : Nat → Int → Int, X S → bx_same rxL (bx_mdl rxC208.2.2.1) S S1 → X S1) (hQ110 : bx_ConP rxG rxNW rxAO PX Dg rxL X vwCl A ad l rxM110 rxC110 rxP110 rxPS110) {S0 : Nat → Int → Int} {ws : List Int} (hP : rxP208 S0 ws) : ∀ (i : Nat) (q : bx_HE), rxY208[i]? = some q → rxU208 q = true → ∀ {p : Program} {e : Env} {R : Room} {s : State} {m : MethodId} {args : Array Value} {below : List Frame} {meth : Method} {c : Code} {Q : State → Prop} {H0 : Heap}, rx_Fr rxG rxNW rxAO PX p s m args meth c rxM208 → (∀ q, H0.size ≤ q → A q) → H0 = s.heap → rxM208.2.2.2.2.2.2.1 ≤ R.cells → rxM208.2.2.2.2.2.2.2 ≤ R.slots → rxC208.2.2.2.1 ≤ R.frames → rxC208.2.2.2.1 * 40 ≤ R.locals → bx_Step p l e R s m args below meth c Q Dg rxL X vwCl A xa H0 ad rxM208 rxY208 (rxI208 S0 ws) (rxm208 S0 ws) S0 rxC208.2.2.1 i q := by
  intro i q hq hus p e R s m args below meth c Q H0 hF hA hH0 hmc hms hd hdl
  match i, hq with
  | 0, hq =>
    cases hq
    exact absurd (show false = true from hus) Bool.false_ne_true
  | 1, hq =>
    cases hq
    exact rx_stepC (ins := .invokevirtual 110) (len := 3) (i_p := 2) (M_p := rxM110) (d := rxC208.2.2.2.1) (as := [.inr (3, (0, 0)), .inr (0, (0, (-1)))]) (t := []) (ct := rxC110) hPX hF rfl hA hH0 hmc hms hd hdl (by decide +kernel) rfl rfl (by decide +kernel) (by decide +kernel) hQ110 (by decide +kernel) rfl (Or.inr ⟨_, _, _, 1, rfl, rfl, by omega, rfl, rfl, rfl⟩) (rxs208_1 hP)
  | 2, hq =>
    cases hq
    exact absurd (show false = true from hus) Bool.false_ne_true
  | n + 3, hq => cases hq
theorem rxQ208 {PX : State → Prop} {Dg : va_G} {A : Nat → Prop} {ad xa : Nat → Nat} {l : Launch} {X : (Nat → Int → Int) → Prop} (hPX : rx_PXOK rxNW A PX) (hsl : ∀ s : State, PX s → ∀ o idx n : Nat, rxSl o idx = some n → ∃ tx : String, vk_R (rxNm o) idx tx (ad n) s)
    (hX : ∀ S S_p : Nat → Int → Int, X S → bx_same rxL (bx_mdl rxC208.2.2.1) S S_p → X S_p)
    (ih : ∀ (j2 : Nat) (ct2 : bx_Ct) (M2 : rx_Mt), ct2 ∈ rxCn j2 → ct2.2.2.2.1 + 1 ≤ rxC208.2.2.2.1 → rxT.2.2.2.2.2 j2 = some M2 → bx_Con rxG rxNW rxAO PX Dg rxL X vwCl A ad l M2 ct2) (hQ110 : bx_ConP rxG rxNW rxAO PX Dg rxL X vwCl A ad l rxM110 rxC110 rxP110 rxPS110) : bx_ConP rxG rxNW rxAO PX Dg rxL X vwCl A ad l rxM208 rxC208 rxP208 rxPS208 :=
  rxQof (xa := xa) (Cn := rxCn) (f := 30000) (j := 208) (tab := rxY208) (us := rxU208) hPX hsl hX ih rfl rxYc208 rxI208 rxm208
    (fun S0 ws r I0 I ht0 ht as he he1 hX0 hI0 hP hs ha => by
      have e := he.symm.trans (show bx_ent0 rxNP rxC208.1 bx_I0 [] = some ([(0, 0), (0, 0), (0, 0), (0, 0), (0, 0), (0, 0), (0, 0), (0, 0), ((-2147483648), 2147483647)], [], [.inr (3, (0, 0)), .inr (0, (8, 0))]) from rfl)
      cases e
      subst ha
      have h0 : r 0 = 0 := hs.1
      show rxI208_0 S0 _ S0 (r 8)
      refine ⟨rfl, ?_⟩
      simp only [List.map_cons, List.map_nil, bx_xv_ok h0]
      rfl)
    (fun S0 ws hP => rxu208 (xa := xa) hPX hX hQ110 hP) (fun S0 ws hP => rxgC208 hP) (fun S0 ws hP => rxgE208 hP)
end
section
end
