noncomputable def rxI245_0 (S0 : Nat → Int → Int) (ws : List Int) (S : Nat → Int → Int) (la : Int) : Prop := S = S0 ∧ ws = [0, la]
noncomputable def rxm245_0 (S0 : Nat → Int → Int) (ws : List Int) (S : Nat → Int → Int) (la : Int) : Nat := 100
noncomputable def rxz245_0 : rx_Z := ([(0, 0), (0, 0), (0, 0), (0, 0), (0, 0), (0, 0), (0, 0), (0, 0), ((-2147483648), 2147483647)], [], [], 0, 0, 0, [(0, .inr (3, (0, 0))), (1, .inr (0, (8, 0)))], [])
noncomputable def rxI245_1 (S0 : Nat → Int → Int) (ws : List Int) (S : Nat → Int → Int) (la : Int) : Prop := S = S0 ∧ ((la < -1 ∨ (0 ≤ la ∧ S 1 14 ≤ la))) ∧ ws = [0, la]
noncomputable def rxm245_1 (S0 : Nat → Int → Int) (ws : List Int) (S : Nat → Int → Int) (la : Int) : Nat := 50
noncomputable def rxz245_1 : rx_Z := ([(0, 0), (0, 0), (0, 0), (0, 0), (0, 0), (0, 0), (0, 0), (0, 0), ((-2147483648), 2147483647)], [], [], 0, 0, 19, [(0, .inr (3, (0, 0))), (1, .inr (0, (8, 0)))], [.inr (0, (0, (-2))), .inr (3, (0, 0))])
noncomputable def rxI245_2 (S0 : Nat → Int → Int) (ws : List Int) (S : Nat → Int → Int) (la res : Int) : Prop := res = (-2) ∧ ((la < -1 ∨ (0 ≤ la ∧ S0 1 14 ≤ la))) ∧ ws = [0, la] ∧ bx_same rxL (bx_mdl rxC110.2.2.1) S0 S
noncomputable def rxm245_2 (S0 : Nat → Int → Int) (ws : List Int) (S : Nat → Int → Int) (la res : Int) : Nat := 20
noncomputable def rxz245_2 : rx_Z := ([(0, 0), (0, 0), (0, 0), (0, 0), (0, 0), (0, 0), (0, 0), (0, 0), ((-2147483648), 2147483647), ((-6), (-1))], [], [], 0, 0, 22, [(0, .inr (3, (0, 0))), (1, .inr (0, (8, 0)))], [.inr (0, (9, 0))])
noncomputable def rxo245_0_0 : bx_HO := (([(0, 0), (0, 0), (0, 0), (0, 0), (0, 0), (0, 0), (0, 0), (0, 0), ((-2147483648), (-2))], [(3, (8, 0), (0, (-1)))], [(((0, 0), 0), .inr (3, (0, 1)))], 0, 0, 19, [(0, .inr (3, (0, 0))), (1, .inr (0, (8, 0)))], [.inr (0, (0, (-2))), .inr (3, (0, 0))]), [], [], [(0, 0), (0, 0), (0, 0), (0, 0), (0, 0), (0, 0), (0, 0), (0, 0), (8, 0)], 1)
noncomputable def rxo245_0_1 : bx_HO := (([(0, 0), (0, 0), (0, 0), (0, 0), (0, 0), (0, 0), (0, 0), (0, 0), (0, 2147483647), (0, 6)], [(1, (9, 0), (8, 0)), (3, (8, 0), (0, (-1)))], [(((0, 0), 1851192626986356800234234225391877833944518517379736727307485184000000), .inr (0, (9, 0))), (((0, 1), 14), .inr (0, (9, 0))), (((0, 0), 0), .inr (3, (0, 1)))], 0, 0, 19, [(0, .inr (3, (0, 0))), (1, .inr (0, (8, 0)))], [.inr (0, (0, (-2))), .inr (3, (0, 0))]), [], [], [(0, 0), (0, 0), (0, 0), (0, 0), (0, 0), (0, 0), (0, 0), (0, 0), (8, 0)], 1)
noncomputable def rxe245_0_0 : rx_End × List (Nat × Int × Int) := (([(0, 0), (0, 0), (0, 0), (0, 0), (0, 0), (0, 0), (0, 0), (0, 0), (0, 5), (1, 6), ((-1), 5)], [(0, (8, 0), (9, 0)), (3, (8, 0), (0, (-1)))], [(((0, 0), 1851192626986356799029993984671224184301589730656725205983952899000000), .inr (0, (0, 0))), (((0, 0), 8), .inr (0, (0, 0))), (((0, 0), 1851192626986356800434940932178653442218339981833571980861308931000000), .inr (0, (8, 0))), (((0, 1), 15), .inr (0, (8, 0))), (((0, 0), 1851192626986356800434940932178653442218339981833571980861308928000000), .inr (0, (10, 0))), (((0, 0), 1851192626986356800234234225391877833944518517379736727307485184000000), .inr (0, (9, 0))), (((0, 1), 14), .inr (0, (9, 0))), (((0, 0), 0), .inr (3, (0, 1)))], some (.inr (0, (10, 0)))), [])
noncomputable def rxe245_0_1 : rx_End × List (Nat × Int × Int) := (([(0, 0), (0, 0), (0, 0), (0, 0), (0, 0), (0, 0), (0, 0), (0, 0), ((-1), (-1)), ((-1), 5)], [], [(((0, 0), 1851192626986356799029993984671224184301589730656725205983952899000000), .inr (0, (0, 0))), (((0, 0), 8), .inr (0, (0, 0))), (((0, 0), 1851192626986356800434940932178653442218339981833571980861308931000000), .inr (0, (8, 0))), (((0, 1), 15), .inr (0, (8, 0))), (((0, 0), 1851192626986356800434940932178653442218339981833571980861308928000000), .inr (0, (9, 0))), (((0, 0), 0), .inr (3, (0, 1)))], some (.inr (0, (9, 0)))), [])
noncomputable def rxe245_2_0 : rx_End × List (Nat × Int × Int) := (([(0, 0), (0, 0), (0, 0), (0, 0), (0, 0), (0, 0), (0, 0), (0, 0), ((-2147483648), 2147483647), ((-6), (-1))], [], [], some (.inr (0, (9, 0)))), [])
noncomputable def rxY245 : List bx_HE := [(rxz245_0, [rxo245_0_0, rxo245_0_1], [rxe245_0_0, rxe245_0_1]), (rxz245_1, [], []), (rxz245_2, [], [rxe245_2_0])]
noncomputable def rxU245 (q : bx_HE) : Bool := Nat.beq (rx_zpc q.1) 19
noncomputable def rxYB245 : bx_B := (rxV, rxNP, rxDmf, bx_mdH rxC245.2.2.1)
set_option maxRecDepth 100000 in
theorem rxYc245 : bx_chkH rxYB245 rxM245 rxC245 rxY245 (rxU245, fun cut z => rx_ex2 (rxCT rxYB245 rxCnE) cut 30000 rxC245.2.2.2.1 245 z) = true := by decide +kernel
noncomputable def rxI245 (S0 : Nat → Int → Int) (ws : List Int) (i : Nat) : bx_SP := fun S r => match i with | 0 => rxI245_0 S0 ws S (r 8) | 1 => rxI245_1 S0 ws S (r 8) | 2 => rxI245_2 S0 ws S (r 8) (r 9) | _ => False
noncomputable def rxm245 (S0 : Nat → Int → Int) (ws : List Int) (i : Nat) (S : Nat → Int → Int) (r : Nat → Int) : Nat := match i with | 0 => rxm245_0 S0 ws S (r 8) | 1 => rxm245_1 S0 ws S (r 8) | 2 => rxm245_2 S0 ws S (r 8) (r 9) | _ => 0
noncomputable def rxP245 (S0 : Nat → Int → Int) (ws : List Int) : Prop := True
noncomputable def rxPS245 (S0 : Nat → Int → Int) (ws : List Int) (S : Nat → Int → Int) (w : Option Int) : Prop := ∃ la : Int, ws = [0, la] ∧ (((la < -1 ∨ (0 ≤ la ∧ S0 1 14 ≤ la)) ∧ w = some (-2) ∧ bx_same rxL (bx_mdl rxC110.2.2.1) S0 S) ∨ ((la = -1 ∨ (0 ≤ la ∧ la < S0 1 14)) ∧ w = some (S0 1 15) ∧ S 1 15 = la ∧ S 138 15 = S0 138 15 ∧ S 274 15 = S0 274 15))
theorem rxk245_1 {S0 : Nat → Int → Int} {ws : List Int} {S : Nat → Int → Int} {la : Int} (hP : rxP245 S0 ws) (hin : bx_same rxL (bx_mdl rxC245.2.2.1) S0 S) (I0 : bx_Inv rxL S) (hinv : rxI245_1 S0 ws S la) (l8 : (-2147483648) ≤ la) (u8 : la ≤ 2147483647) : rxP110 S [0, (-2)] ∧ ∀ (S_p : Nat → Int → Int) (res : Int), (-6) ≤ res → res ≤ (-1) → rxPS110 S [0, (-2)] S_p (some res) → bx_Inv rxL S_p → bx_same rxL (bx_mdl rxC110.2.2.1) S S_p → rxI245_2 S0 ws S_p la res ∧ rxm245_2 S0 ws S_p la res < rxm245_1 S0 ws S la := by
  obtain ⟨rfl, h1, hw⟩ := hinv
  refine ⟨trivial, fun S_p res _ _ hq _ hsm => ⟨⟨?_, h1, hw, hsm⟩, by unfold rxm245_1 rxm245_2; omega⟩⟩
  obtain ⟨c, hc, hr⟩ := hq
  simp only [List.cons.injEq, and_true, true_and] at hc
  simp only [Option.some.injEq] at hr
  omega
theorem rxs245_1 {X : (Nat → Int → Int) → Prop} {S0 : Nat → Int → Int} {ws : List Int} (hP : rxP245 S0 ws) : rx_obK X S0 rxC245.2.2.1 rxC110.2.2.1 (rxI245 S0 ws) (rxm245 S0 ws) 1 2 rxz245_1 rxz245_2 [.inr (3, (0, 0)), .inr (0, (0, (-2)))] (some 9) rxP110 rxPS110 := by
  intro S r hinv hXS I0 hin hs_ hf_
  have b_ := bx_bds_sat hs_
  have f_ := bx_fcl_ok hs_.1 hf_
  obtain ⟨⟨l8, u8⟩, -⟩ := b_
  have g := rxk245_1 hP hin I0 hinv l8 u8
  have ea : List.map (bx_num r) [.inr (3, (0, 0)), .inr (0, (0, (-2)))] = [0, -2] := by
    simp only [List.map_cons, List.map_nil, bx_xv_ok hs_.1]
    rfl
  rw [ea]
  refine ⟨g.1, fun S_p w r_p hPS hX_p I1 hsm hr hw hs_p => ?_⟩
  have hw := hw _ rfl
  subst hw
  have b_p := hs_p.2.2 9 _ _ rfl
  have g2 := g.2 S_p (r_p 9) b_p.1 b_p.2 hPS I1 hsm
  show rxI245_2 S0 ws S_p (r_p 8) (r_p 9) ∧ rxm245_2 S0 ws S_p (r_p 8) (r_p 9) < _
  rw [hr 8 (by decide)]
  exact g2
theorem rxc245_0_0 {S0 : Nat → Int → Int} {ws : List Int} {S : Nat → Int → Int} {la : Int} (hP : rxP245 S0 ws) (hin : bx_same rxL (bx_mdl rxC245.2.2.1) S0 S) (I0 : bx_Inv rxL S) (hinv : rxI245_0 S0 ws S la) (l8 : (-2147483648) ≤ la) (u8 : la ≤ (-2)) (f0 : la ≠ (-1)) : (True) ∧ (True) ∧ rxI245_1 S0 ws S la ∧ rxm245_1 S0 ws S la < rxm245_0 S0 ws S la := by
  obtain ⟨rfl, hw⟩ := hinv
  exact ⟨trivial, trivial, ⟨rfl, by omega, hw⟩, by unfold rxm245_0 rxm245_1; omega⟩
theorem rxg245_0_0 {X : (Nat → Int → Int) → Prop} {S0 : Nat → Int → Int} {ws : List Int} (hP : rxP245 S0 ws) : bx_obC rxL X S0 rxC245.2.2.1 (rxI245 S0 ws) (rxm245 S0 ws) 0 rxz245_0 rxo245_0_0 := by
  intro S S_p r r_p hinv hX hin hsm_ hseg
  obtain ⟨I0, I1, h0_, hr_, b_, f_, d_⟩ := bx_cl (evs := []) (fvs := [(3, (8, 0), (0, (-1)), (0, 0))]) hseg (by decide +kernel) (by decide +kernel)
  have hinv : rxI245_0 S0 ws S (r 8) := hinv
  rw [← hr_ 8 (by decide)] at hinv
  obtain ⟨⟨l8, u8⟩, -⟩ := b_
  obtain ⟨f0, -⟩ := f_
  have w_ := d_
  subst w_
  have g := rxc245_0_0 hP hin I0 hinv l8 u8 f0
  refine ⟨bx_narP_ok (l := []) g.1, bx_nfP_ok h0_ (fvs := []) (by decide +kernel) g.2.1, ?_, ?_⟩
  · show rxI245_1 S0 ws S_p (bx_val [(0, 0), (0, 0), (0, 0), (0, 0), (0, 0), (0, 0), (0, 0), (0, 0), (8, 0)] r_p 8)
    rw [bx_val_x (n := 8) (e := (8, 0)) h0_ rfl]
    exact g.2.2.1
  · show rxm245_1 S0 ws S_p (bx_val [(0, 0), (0, 0), (0, 0), (0, 0), (0, 0), (0, 0), (0, 0), (0, 0), (8, 0)] r_p 8) < rxm245_0 S0 ws S_p (r 8)
    rw [bx_val_x (n := 8) (e := (8, 0)) h0_ rfl, ← hr_ 8 (by decide)]
    exact g.2.2.2
theorem rxc245_0_1 {S0 : Nat → Int → Int} {ws : List Int} {S : Nat → Int → Int} {la x9 : Int} (hP : rxP245 S0 ws) (hin : bx_same rxL (bx_mdl rxC245.2.2.1) S0 S) (I0 : bx_Inv rxL S) (hinv : rxI245_0 S0 ws S la) (l8 : 0 ≤ la) (u8 : la ≤ 2147483647) (l9 : 0 ≤ x9) (u9 : x9 ≤ 6) (f0 : x9 ≤ la) (f1 : la ≠ (-1)) (e0 : S 1 14 = x9) : (True) ∧ (True) ∧ rxI245_1 S0 ws S la ∧ rxm245_1 S0 ws S la < rxm245_0 S0 ws S la := by
  obtain ⟨rfl, hw⟩ := hinv
  exact ⟨trivial, trivial, ⟨rfl, by omega, hw⟩, by unfold rxm245_0 rxm245_1; omega⟩
theorem rxg245_0_1 {X : (Nat → Int → Int) → Prop} {S0 : Nat → Int → Int} {ws : List Int} (hP : rxP245 S0 ws) : bx_obC rxL X S0 rxC245.2.2.1 (rxI245 S0 ws) (rxm245 S0 ws) 0 rxz245_0 rxo245_0_1 := by
  intro S S_p r r_p hinv hX hin hsm_ hseg
  obtain ⟨I0, I1, h0_, hr_, b_, f_, d_⟩ := bx_cl (evs := [(0, (0, 1), (0, 14), .inr (0, (9, 0)))]) (fvs := [(1, (9, 0), (8, 0), (0, 0)), (3, (8, 0), (0, (-1)), (0, 0))]) hseg (by decide +kernel) (by decide +kernel)
  have hinv : rxI245_0 S0 ws S (r 8) := hinv
  rw [← hr_ 8 (by decide)] at hinv
  obtain ⟨⟨l8, u8⟩, ⟨l9, u9⟩, -⟩ := b_
  obtain ⟨f0, f1, -⟩ := f_
  obtain ⟨e0, w_⟩ := d_
  subst w_
  have g := rxc245_0_1 hP hin I0 hinv l8 u8 l9 u9 f0 f1 e0
  refine ⟨bx_narP_ok (l := []) g.1, bx_nfP_ok h0_ (fvs := []) (by decide +kernel) g.2.1, ?_, ?_⟩
  · show rxI245_1 S0 ws S_p (bx_val [(0, 0), (0, 0), (0, 0), (0, 0), (0, 0), (0, 0), (0, 0), (0, 0), (8, 0)] r_p 8)
    rw [bx_val_x (n := 8) (e := (8, 0)) h0_ rfl]
    exact g.2.2.1
  · show rxm245_1 S0 ws S_p (bx_val [(0, 0), (0, 0), (0, 0), (0, 0), (0, 0), (0, 0), (0, 0), (0, 0), (8, 0)] r_p 8) < rxm245_0 S0 ws S_p (r 8)
    rw [bx_val_x (n := 8) (e := (8, 0)) h0_ rfl, ← hr_ 8 (by decide)]
    exact g.2.2.2
theorem rxd245_0_0 {S0 : Nat → Int → Int} {ws : List Int} {S : Nat → Int → Int} {la x9 x10 : Int} (hP : rxP245 S0 ws) (hin : bx_same rxL (bx_mdl rxC245.2.2.1) S0 S) (hin2 : bx_same rxL (bx_mdl rxC245.2.2.1) S (bx_up (bx_up S 1 15 la) 0 8 0)) (I0 : bx_Inv rxL S) (I1 : bx_Inv rxL (bx_up (bx_up S 1 15 la) 0 8 0)) (hinv : rxI245_0 S0 ws S la) (l8 : 0 ≤ la) (u8 : la ≤ 5) (l9 : 1 ≤ x9) (u9 : x9 ≤ 6) (l10 : (-1) ≤ x10) (u10 : x10 ≤ 5) (f0 : la < x9) (f1 : la ≠ (-1)) (e3 : S 1 14 = x9) (e2 : S 1 15 = x10) : (True) ∧ rxPS245 S0 ws (bx_up (bx_up S 1 15 la) 0 8 0) (some x10) := by
  obtain ⟨rfl, hw⟩ := hinv
  refine ⟨trivial, la, hw, Or.inr (⟨?_, ?_, ((bx_up_ne (by omega)).trans (bx_up_at)).trans (by omega), (bx_up_ne (by omega)).trans ((bx_up_ne (by omega))), (bx_up_ne (by omega)).trans ((bx_up_ne (by omega)))⟩)⟩ <;> first | omega | exact hin2 | exact congrArg some (by omega) | (intro i i0 i1; simp only [bx_up]; (repeat' split) <;> first | rfl | omega | (simp_all; done) | (simp_all; omega)) | ((repeat (first | rw [bx_up_at] | rw [bx_up_ne (by omega)])); omega) | exact True.intro
theorem rxf245_0_0 {X : (Nat → Int → Int) → Prop} {S0 : Nat → Int → Int} {ws : List Int} (hP : rxP245 S0 ws) : bx_obE rxL X S0 rxC245.2.2.1 (rxI245 S0 ws) (rxPS245 S0 ws) 0 rxz245_0 rxe245_0_0 := by
  intro S S_p r r_p hinv hX hin hsm_ hseg
  obtain ⟨I0, I1, h0_, hr_, b_, f_, d_⟩ := bx_cl (evs := [(1, (0, 0), (0, 8), .inr (0, (0, 0))), (1, (0, 1), (0, 15), .inr (0, (8, 0))), (0, (0, 1), (0, 15), .inr (0, (10, 0))), (0, (0, 1), (0, 14), .inr (0, (9, 0)))]) (fvs := [(0, (8, 0), (9, 0), (0, 0)), (3, (8, 0), (0, (-1)), (0, 0))]) hseg (by decide +kernel) (by decide +kernel)
  have hinv : rxI245_0 S0 ws S (r 8) := hinv
  rw [← hr_ 8 (by decide)] at hinv
  obtain ⟨⟨l8, u8⟩, ⟨l9, u9⟩, ⟨l10, u10⟩, -⟩ := b_
  obtain ⟨f0, f1, -⟩ := f_
  obtain ⟨T0, ⟨T1, ⟨e2, ⟨e3, w_⟩⟩, w1⟩, w0⟩ := d_
  subst w0
  subst w1
  subst w_
  have g := rxd245_0_0 hP hin hsm_ I0 I1 hinv l8 u8 l9 u9 l10 u10 f0 f1 e3 e2
  refine ⟨bx_narP_ok (l := []) g.1, ?_⟩
  show rxPS245 S0 ws (bx_up (bx_up T1 1 (15) (r_p 8)) 0 (8) (0)) (some (bx_num r_p (.inr (0, (10, 0)))))
  rw [bx_xv_ok h0_]
  exact g.2
theorem rxd245_0_1 {S0 : Nat → Int → Int} {ws : List Int} {S : Nat → Int → Int} {la x9 : Int} (hP : rxP245 S0 ws) (hin : bx_same rxL (bx_mdl rxC245.2.2.1) S0 S) (hin2 : bx_same rxL (bx_mdl rxC245.2.2.1) S (bx_up (bx_up S 1 15 la) 0 8 0)) (I0 : bx_Inv rxL S) (I1 : bx_Inv rxL (bx_up (bx_up S 1 15 la) 0 8 0)) (hinv : rxI245_0 S0 ws S la) (l8 : (-1) ≤ la) (u8 : la ≤ (-1)) (l9 : (-1) ≤ x9) (u9 : x9 ≤ 5) (e2 : S 1 15 = x9) : (True) ∧ rxPS245 S0 ws (bx_up (bx_up S 1 15 la) 0 8 0) (some x9) := by
  obtain ⟨rfl, hw⟩ := hinv
  refine ⟨trivial, la, hw, Or.inr (⟨?_, ?_, ((bx_up_ne (by omega)).trans (bx_up_at)).trans (by omega), (bx_up_ne (by omega)).trans ((bx_up_ne (by omega))), (bx_up_ne (by omega)).trans ((bx_up_ne (by omega)))⟩)⟩ <;> first | omega | exact hin2 | exact congrArg some (by omega) | (intro i i0 i1; simp only [bx_up]; (repeat' split) <;> first | rfl | omega | (simp_all; done) | (simp_all; omega)) | ((repeat (first | rw [bx_up_at] | rw [bx_up_ne (by omega)])); omega) | exact True.intro
theorem rxf245_0_1 {X : (Nat → Int → Int) → Prop} {S0 : Nat → Int → Int} {ws : List Int} (hP : rxP245 S0 ws) : bx_obE rxL X S0 rxC245.2.2.1 (rxI245 S0 ws) (rxPS245 S0 ws) 0 rxz245_0 rxe245_0_1 := by
  intro S S_p r r_p hinv hX hin hsm_ hseg
  obtain ⟨I0, I1, h0_, hr_, b_, f_, d_⟩ := bx_cl (evs := [(1, (0, 0), (0, 8), .inr (0, (0, 0))), (1, (0, 1), (0, 15), .inr (0, (8, 0))), (0, (0, 1), (0, 15), .inr (0, (9, 0)))]) (fvs := []) hseg (by decide +kernel) (by decide +kernel)
  have hinv : rxI245_0 S0 ws S (r 8) := hinv
  rw [← hr_ 8 (by decide)] at hinv
  obtain ⟨⟨l8, u8⟩, ⟨l9, u9⟩, -⟩ := b_
  obtain ⟨T0, ⟨T1, ⟨e2, w_⟩, w1⟩, w0⟩ := d_
  subst w0
  subst w1
  subst w_
  have g := rxd245_0_1 hP hin hsm_ I0 I1 hinv l8 u8 l9 u9 e2
  refine ⟨bx_narP_ok (l := []) g.1, ?_⟩
  show rxPS245 S0 ws (bx_up (bx_up T1 1 (15) (r_p 8)) 0 (8) (0)) (some (bx_num r_p (.inr (0, (9, 0)))))
  rw [bx_xv_ok h0_]
  exact g.2
theorem rxd245_2_0 {S0 : Nat → Int → Int} {ws : List Int} {S : Nat → Int → Int} {la res : Int} (hP : rxP245 S0 ws) (hin : bx_same rxL (bx_mdl rxC245.2.2.1) S0 S) (hin2 : bx_same rxL (bx_mdl rxC245.2.2.1) S S) (I0 : bx_Inv rxL S) (I1 : bx_Inv rxL S) (hinv : rxI245_2 S0 ws S la res) (l8 : (-2147483648) ≤ la) (u8 : la ≤ 2147483647) (l9 : (-6) ≤ res) (u9 : res ≤ (-1)) : (True) ∧ rxPS245 S0 ws S (some res) := by
  obtain ⟨h1, h2, hw, hs⟩ := hinv
  refine ⟨trivial, la, hw, Or.inl (⟨by omega, ?_, ?_⟩)⟩
  · exact congrArg some h1
  · exact hs
theorem rxf245_2_0 {X : (Nat → Int → Int) → Prop} {S0 : Nat → Int → Int} {ws : List Int} (hP : rxP245 S0 ws) : bx_obE rxL X S0 rxC245.2.2.1 (rxI245 S0 ws) (rxPS245 S0 ws) 2 rxz245_2 rxe245_2_0 := by
  intro S S_p r r_p hinv hX hin hsm_ hseg
  obtain ⟨I0, I1, h0_, hr_, b_, f_, d_⟩ := bx_cl (evs := []) (fvs := []) hseg (by decide +kernel) (by decide +kernel)
  have hinv : rxI245_2 S0 ws S (r 8) (r 9) := hinv
  rw [← hr_ 8 (by decide), ← hr_ 9 (by decide)] at hinv
  obtain ⟨⟨l8, u8⟩, ⟨l9, u9⟩, -⟩ := b_
  have w_ := d_
  subst w_
  have g := rxd245_2_0 hP hin hsm_ I0 I1 hinv l8 u8 l9 u9
  refine ⟨bx_narP_ok (l := []) g.1, ?_⟩
  show rxPS245 S0 ws S_p (some (bx_num r_p (.inr (0, (9, 0)))))
  rw [bx_xv_ok h0_]
  exact g.2
theorem rxgC245 {X : (Nat → Int → Int) → Prop} {S0 : Nat → Int → Int} {ws : List Int} (hP : rxP245 S0 ws) : bx_allI (fun i q => rxU245 q = true ∨ bx_allP (fun o => bx_obC rxL X S0 rxC245.2.2.1 (rxI245 S0 ws) (rxm245 S0 ws) i q.1 o) q.2.1) 0 rxY245 := ⟨Or.inr ⟨rxg245_0_0 hP, rxg245_0_1 hP, trivial⟩, Or.inl rfl, Or.inr trivial, trivial⟩
theorem rxgE245 {X : (Nat → Int → Int) → Prop} {S0 : Nat → Int → Int} {ws : List Int} (hP : rxP245 S0 ws) : bx_allI (fun i q => rxU245 q = true ∨ bx_allP (fun E => bx_obE rxL X S0 rxC245.2.2.1 (rxI245 S0 ws) (rxPS245 S0 ws) i q.1 E) q.2.2) 0 rxY245 := ⟨Or.inr ⟨rxf245_0_0 hP, rxf245_0_1 hP, trivial⟩, Or.inl rfl, Or.inr ⟨rxf245_2_0 hP, trivial⟩, trivial⟩
theorem rxu245 {PX : State → Prop} {Dg : va_G} {A : Nat → Prop} {ad xa : Nat → Nat} {l : Launch} {X : (Nat → Int → Int) → Prop} (hPX : rx_PXOK rxNW A PX) (hX : ∀ S S1 : Nat → Int → Int, X S → bx_same rxL (bx_mdl rxC245.2.2.1) S S1 → X S1) (hQ110 : bx_ConP rxG rxNW rxAO PX Dg rxL X vwCl A ad l rxM110 rxC110 rxP110 rxPS110) {S0 : Nat → Int → Int} {ws : List Int} (hP : rxP245 S0 ws) : ∀ (i : Nat) (q : bx_HE), rxY245[i]? = some q → rxU245 q = true → ∀ {p : Program} {e : Env} {R : Room} {s : State} {m : MethodId} {args : Array Value} {below : List Frame} {meth : Method} {c : Code} {Q : State → Prop} {H0 : Heap}, rx_Fr rxG rxNW rxAO PX p s m args meth c rxM245 → (∀ q, H0.size ≤ q → A q) → H0 = s.heap → rxM245.2.2.2.2.2.2.1 ≤ R.cells → rxM245.2.2.2.2.2.2.2 ≤ R.slots → rxC245.2.2.2.1 ≤ R.frames → rxC245.2.2.2.1 * 40 ≤ R.locals → bx_Step p l e R s m args below meth c Q Dg rxL X vwCl A xa H0 ad rxM245 rxY245 (rxI245 S0 ws) (rxm245 S0 ws) S0 rxC245.2.2.1 i q := by
  intro i q hq hus p e R s m args below meth c Q H0 hF hA hH0 hmc hms hd hdl
  match i, hq with
  | 0, hq =>
    cases hq
    exact absurd (show false = true from hus) Bool.false_ne_true
  | 1, hq =>
    cases hq
    exact rx_stepC (ins := .invokevirtual 110) (len := 3) (i_p := 2) (M_p := rxM110) (d := rxC245.2.2.2.1) (as := [.inr (3, (0, 0)), .inr (0, (0, (-2)))]) (t := []) (ct := rxC110) hPX hF rfl hA hH0 hmc hms hd hdl (by decide +kernel) rfl rfl (by decide +kernel) (by decide +kernel) hQ110 (by decide +kernel) rfl (Or.inr ⟨_, _, _, 1, rfl, rfl, by omega, rfl, rfl, rfl⟩) (rxs245_1 hP)
  | 2, hq =>
    cases hq
    exact absurd (show false = true from hus) Bool.false_ne_true
  | n + 3, hq => cases hq
theorem rxQ245 {PX : State → Prop} {Dg : va_G} {A : Nat → Prop} {ad xa : Nat → Nat} {l : Launch} {X : (Nat → Int → Int) → Prop} (hPX : rx_PXOK rxNW A PX) (hsl : ∀ s : State, PX s → ∀ o idx n : Nat, rxSl o idx = some n → ∃ tx : String, vk_R (rxNm o) idx tx (ad n) s)
    (hX : ∀ S S_p : Nat → Int → Int, X S → bx_same rxL (bx_mdl rxC245.2.2.1) S S_p → X S_p)
    (ih : ∀ (j2 : Nat) (ct2 : bx_Ct) (M2 : rx_Mt), ct2 ∈ rxCnE j2 → ct2.2.2.2.1 + 1 ≤ rxC245.2.2.2.1 → rxT.2.2.2.2.2 j2 = some M2 → bx_Con rxG rxNW rxAO PX Dg rxL X vwCl A ad l M2 ct2) (hQ110 : bx_ConP rxG rxNW rxAO PX Dg rxL X vwCl A ad l rxM110 rxC110 rxP110 rxPS110) : bx_ConP rxG rxNW rxAO PX Dg rxL X vwCl A ad l rxM245 rxC245 rxP245 rxPS245 :=
  rxQof (xa := xa) (Cn := rxCnE) (f := 30000) (j := 245) (tab := rxY245) (us := rxU245) hPX hsl hX ih rfl rxYc245 rxI245 rxm245
    (fun S0 ws r I0 I ht0 ht as he he1 hX0 hI0 hP hs ha => by
      have e := he.symm.trans (show bx_ent0 rxNP rxC245.1 bx_I0 [] = some ([(0, 0), (0, 0), (0, 0), (0, 0), (0, 0), (0, 0), (0, 0), (0, 0), ((-2147483648), 2147483647)], [], [.inr (3, (0, 0)), .inr (0, (8, 0))]) from rfl)
      cases e
      subst ha
      have h0 : r 0 = 0 := hs.1
      show rxI245_0 S0 _ S0 (r 8)
      refine ⟨rfl, ?_⟩
      simp only [List.map_cons, List.map_nil, bx_xv_ok h0]
      rfl)
    (fun S0 ws hP => rxu245 (xa := xa) hPX hX hQ110 hP) (fun S0 ws hP => rxgC245 hP) (fun S0 ws hP => rxgE245 hP)
set_option maxHeartbeats 1000000 in
theorem rzQ245 {PX : State → Prop} {Dg : va_G} {A : Nat → Prop} {ad : Nat → Nat} {l : Launch} (hPX : rx_PXOK rxNW A PX) (hsl : ∀ s : State, PX s → ∀ o idx n : Nat, rxSl o idx = some n → ∃ tx : String, vk_R (rxNm o) idx tx (ad n) s) (ih : ∀ (j : Nat) (ct : bx_Ct) (M : rx_Mt), ct ∈ rxCn j → rxT.2.2.2.2.2 j = some M → bx_Con rxG rxNW rxAO PX Dg rxL rxX vwCl A ad l M ct) : bx_ConP rxG rxNW rxAO PX Dg rxL rxX vwCl A ad l rxM245 rxC245 (fun _ _ => True) rxPS245 := by
  have q110 := rxQ110 (PX := PX) (Dg := Dg) (A := A) (ad := ad) (xa := fun n => n) (l := l) (X := rxX) hPX hsl (fun _ _ h hm => rxX_of (by decide +kernel) h hm) (fun _ _ _ h => absurd h List.not_mem_nil)
  have q245 := rxQ245 (PX := PX) (Dg := Dg) (A := A) (ad := ad) (xa := fun n => n) (l := l) (X := rxX) hPX hsl (fun _ _ h hm => rxX_of (by decide +kernel) h hm) (fun _ _ _ h => absurd h List.not_mem_nil) q110
  exact fun S0 ws h1 h2 h3 _ => q245 S0 ws h1 h2 h3 trivial
noncomputable def rxI246_0 (S0 : Nat → Int → Int) (ws : List Int) (S : Nat → Int → Int) (la : Int) : Prop := S = S0 ∧ ws = [480, la]
noncomputable def rxm246_0 (S0 : Nat → Int → Int) (ws : List Int) (S : Nat → Int → Int) (la : Int) : Nat := 100
noncomputable def rxz246_0 : rx_Z := ([(0, 0), (0, 0), (0, 0), (0, 0), (0, 0), (0, 0), (0, 0), (0, 0), ((-2147483648), 2147483647)], [], [], 0, 0, 0, [(0, .inr (3, (0, 480))), (1, .inr (0, (8, 0)))], [])
noncomputable def rxe246_0_0 : rx_End × List (Nat × Int × Int) := (([(0, 0), (0, 0), (0, 0), (0, 0), (0, 0), (0, 0), (0, 0), (0, 0), ((-2147483648), (-2)), (0, 6), ((-2147483648), 2147483647), ((-2147483648), 2147483647)], [(3, (8, 0), (0, (-1)))], [(((0, 0), 1851192626986356797825753743950570534658660943933713684944715779000000), .inr (0, (11, 0))), (((0, 481), 2), .inr (0, (11, 0))), (((0, 0), 1851192626986356797825753743950570534658660943933713684944715776000000), .inr (0, (10, 0))), (((0, 480), 2), .inr (3, (0, 481))), (((0, 0), 1851192626986356797625047037163794926384839479479878431390302211000000), .inr (0, (0, (-2)))), (((0, 480), 1), .inr (0, (0, (-2)))), (((0, 0), 1851192626986356798026460450737346142932482408387548938499129344000000), .inr (0, (9, 0))), (((0, 482), 3), .inr (0, (9, 0))), (((0, 480), 3), .inr (3, (0, 482))), (((0, 0), 1851192626986356797424340330377019318111018015026043177836478467000000), .inr (0, (0, 0))), (((0, 480), 0), .inr (0, (0, 0)))], some (.inr (0, (0, (-2))))), [])
noncomputable def rxe246_0_1 : rx_End × List (Nat × Int × Int) := (([(0, 0), (0, 0), (0, 0), (0, 0), (0, 0), (0, 0), (0, 0), (0, 0), (0, 2147483647), (0, 6), ((-2147483648), 2147483647), ((-2147483648), 2147483647)], [(0, (9, (-1)), (8, 0)), (3, (8, 0), (0, (-1)))], [(((0, 0), 1851192626986356797825753743950570534658660943933713684944715779000000), .inr (0, (11, 0))), (((0, 481), 2), .inr (0, (11, 0))), (((0, 0), 1851192626986356797825753743950570534658660943933713684944715776000000), .inr (0, (10, 0))), (((0, 480), 2), .inr (3, (0, 481))), (((0, 0), 1851192626986356797625047037163794926384839479479878431390302211000000), .inr (0, (0, (-2)))), (((0, 480), 1), .inr (0, (0, (-2)))), (((0, 0), 1851192626986356798026460450737346142932482408387548938499129344000000), .inr (0, (9, 0))), (((0, 482), 3), .inr (0, (9, 0))), (((0, 480), 3), .inr (3, (0, 482))), (((0, 0), 1851192626986356797424340330377019318111018015026043177836478467000000), .inr (0, (0, 0))), (((0, 480), 0), .inr (0, (0, 0)))], some (.inr (0, (0, (-2))))), [])
noncomputable def rxe246_0_2 : rx_End × List (Nat × Int × Int) := (([(0, 0), (0, 0), (0, 0), (0, 0), (0, 0), (0, 0), (0, 0), (0, 0), (0, 5), (1, 6), ((-1), 5)], [(1, (8, 0), (9, (-1))), (3, (8, 0), (0, (-1)))], [(((0, 0), 1851192626986356797625047037163794926384839479479878431390302211000000), .inr (0, (0, 0))), (((0, 480), 1), .inr (0, (0, 0))), (((0, 0), 1851192626986356798227167157524121751206303872841384192052953091000000), .inr (0, (8, 0))), (((0, 482), 4), .inr (0, (8, 0))), (((0, 0), 1851192626986356798227167157524121751206303872841384192052953088000000), .inr (0, (10, 0))), (((0, 0), 1851192626986356798026460450737346142932482408387548938499129344000000), .inr (0, (9, 0))), (((0, 482), 3), .inr (0, (9, 0))), (((0, 480), 3), .inr (3, (0, 482))), (((0, 0), 1851192626986356797424340330377019318111018015026043177836478467000000), .inr (0, (0, 0))), (((0, 480), 0), .inr (0, (0, 0)))], some (.inr (0, (10, 0)))), [])
noncomputable def rxe246_0_3 : rx_End × List (Nat × Int × Int) := (([(0, 0), (0, 0), (0, 0), (0, 0), (0, 0), (0, 0), (0, 0), (0, 0), ((-1), (-1)), ((-1), 5)], [], [(((0, 0), 1851192626986356797625047037163794926384839479479878431390302211000000), .inr (0, (0, 0))), (((0, 480), 1), .inr (0, (0, 0))), (((0, 0), 1851192626986356798227167157524121751206303872841384192052953091000000), .inr (0, (8, 0))), (((0, 482), 4), .inr (0, (8, 0))), (((0, 0), 1851192626986356798227167157524121751206303872841384192052953088000000), .inr (0, (9, 0))), (((0, 480), 3), .inr (3, (0, 482))), (((0, 0), 1851192626986356797424340330377019318111018015026043177836478467000000), .inr (0, (0, 0))), (((0, 480), 0), .inr (0, (0, 0)))], some (.inr (0, (9, 0)))), [])
noncomputable def rxY246 : List bx_HE := [(rxz246_0, [], [rxe246_0_0, rxe246_0_1, rxe246_0_2, rxe246_0_3])]
noncomputable def rxU246 (q : bx_HE) : Bool := false
noncomputable def rxYB246 : bx_B := (rxV, rxNP, rxDmf, bx_mdH rxC246.2.2.1)
set_option maxRecDepth 100000 in
theorem rxYc246 : bx_chkH rxYB246 rxM246 rxC246 rxY246 (rxU246, fun cut z => rx_ex2 (rxCT rxYB246 rxCnE) cut 30000 rxC246.2.2.2.1 246 z) = true := by decide +kernel
noncomputable def rxI246 (S0 : Nat → Int → Int) (ws : List Int) (i : Nat) : bx_SP := fun S r => match i with | 0 => rxI246_0 S0 ws S (r 8) | _ => False
noncomputable def rxm246 (S0 : Nat → Int → Int) (ws : List Int) (i : Nat) (S : Nat → Int → Int) (r : Nat → Int) : Nat := match i with | 0 => rxm246_0 S0 ws S (r 8) | _ => 0
noncomputable def rxP246 (S0 : Nat → Int → Int) (ws : List Int) : Prop := True
noncomputable def rxPS246 (S0 : Nat → Int → Int) (ws : List Int) (S : Nat → Int → Int) (w : Option Int) : Prop := ∃ la : Int, ws = [480, la] ∧ (((la < -1 ∨ (0 ≤ la ∧ S0 482 3 ≤ la)) ∧ w = some (-2) ∧ (∀ j : Int, S 482 j = S0 482 j)) ∨ ((la = -1 ∨ (0 ≤ la ∧ la < S0 482 3)) ∧ w = some (S0 482 4) ∧ S 482 4 = la))
theorem rxd246_0_0 {S0 : Nat → Int → Int} {ws : List Int} {S : Nat → Int → Int} {la x9 x10 x11 : Int} (hP : rxP246 S0 ws) (hin : bx_same rxL (bx_mdl rxC246.2.2.1) S0 S) (hin2 : bx_same rxL (bx_mdl rxC246.2.2.1) S (bx_up (bx_up (bx_up S 480 0 0) 480 1 ((-2))) 481 2 x11)) (I0 : bx_Inv rxL S) (I1 : bx_Inv rxL (bx_up (bx_up (bx_up S 480 0 0) 480 1 ((-2))) 481 2 x11)) (hinv : rxI246_0 S0 ws S la) (l8 : (-2147483648) ≤ la) (u8 : la ≤ (-2)) (l9 : 0 ≤ x9) (u9 : x9 ≤ 6) (l10 : (-2147483648) ≤ x10) (u10 : x10 ≤ 2147483647) (l11 : (-2147483648) ≤ x11) (u11 : x11 ≤ 2147483647) (f0 : la ≠ (-1)) (e3 : (bx_up S 480 0 0) 482 3 = x9) (e1 : (bx_up (bx_up S 480 0 0) 480 1 ((-2))) 481 2 = x10) : (True) ∧ rxPS246 S0 ws (bx_up (bx_up (bx_up S 480 0 0) 480 1 ((-2))) 481 2 x11) (some ((-2))) := by
  obtain ⟨rfl, hw⟩ := hinv
  have e3 := (show _ = S 482 3 from (bx_up_ne (by omega))).symm.trans e3
  have e1 := (show _ = S 481 2 from (bx_up_ne (by omega)).trans ((bx_up_ne (by omega)))).symm.trans e1
  refine ⟨trivial, la, hw, Or.inl (⟨?_, ?_, fun j => (bx_up_ne (by omega)).trans ((bx_up_ne (by omega)).trans ((bx_up_ne (by omega))))⟩)⟩ <;> first | omega | exact hin2 | exact congrArg some (by omega) | (intro i i0 i1; simp only [bx_up]; (repeat' split) <;> first | rfl | omega | (simp_all; done) | (simp_all; omega)) | ((repeat (first | rw [bx_up_at] | rw [bx_up_ne (by omega)])); omega) | exact True.intro
theorem rxf246_0_0 {X : (Nat → Int → Int) → Prop} {S0 : Nat → Int → Int} {ws : List Int} (hP : rxP246 S0 ws) : bx_obE rxL X S0 rxC246.2.2.1 (rxI246 S0 ws) (rxPS246 S0 ws) 0 rxz246_0 rxe246_0_0 := by
  intro S S_p r r_p hinv hX hin hsm_ hseg
  obtain ⟨I0, I1, h0_, hr_, b_, f_, d_⟩ := bx_cl (evs := [(1, (0, 481), (0, 2), .inr (0, (11, 0))), (0, (0, 481), (0, 2), .inr (0, (10, 0))), (1, (0, 480), (0, 1), .inr (0, (0, (-2)))), (0, (0, 482), (0, 3), .inr (0, (9, 0))), (1, (0, 480), (0, 0), .inr (0, (0, 0)))]) (fvs := [(3, (8, 0), (0, (-1)), (0, 0))]) hseg (by decide +kernel) (by decide +kernel)
  have hinv : rxI246_0 S0 ws S (r 8) := hinv
  rw [← hr_ 8 (by decide)] at hinv
  obtain ⟨⟨l8, u8⟩, ⟨l9, u9⟩, ⟨l10, u10⟩, ⟨l11, u11⟩, -⟩ := b_
  obtain ⟨f0, -⟩ := f_
  obtain ⟨T0, ⟨e1, ⟨T2, ⟨e3, ⟨T4, w_, w4⟩⟩, w2⟩⟩, w0⟩ := d_
  subst w0
  subst w2
  subst w4
  subst w_
  have g := rxd246_0_0 hP hin hsm_ I0 I1 hinv l8 u8 l9 u9 l10 u10 l11 u11 f0 e3 e1
  refine ⟨bx_narP_ok (l := []) g.1, ?_⟩
  show rxPS246 S0 ws (bx_up (bx_up (bx_up T4 480 (0) (0)) 480 (1) ((-2))) 481 (2) (r_p 11)) (some (bx_num r_p (.inr (0, (0, (-2))))))
  rw [bx_xv_ok h0_]
  exact g.2
theorem rxd246_0_1 {S0 : Nat → Int → Int} {ws : List Int} {S : Nat → Int → Int} {la x9 x10 x11 : Int} (hP : rxP246 S0 ws) (hin : bx_same rxL (bx_mdl rxC246.2.2.1) S0 S) (hin2 : bx_same rxL (bx_mdl rxC246.2.2.1) S (bx_up (bx_up (bx_up S 480 0 0) 480 1 ((-2))) 481 2 x11)) (I0 : bx_Inv rxL S) (I1 : bx_Inv rxL (bx_up (bx_up (bx_up S 480 0 0) 480 1 ((-2))) 481 2 x11)) (hinv : rxI246_0 S0 ws S la) (l8 : 0 ≤ la) (u8 : la ≤ 2147483647) (l9 : 0 ≤ x9) (u9 : x9 ≤ 6) (l10 : (-2147483648) ≤ x10) (u10 : x10 ≤ 2147483647) (l11 : (-2147483648) ≤ x11) (u11 : x11 ≤ 2147483647) (f0 : x9 + (-1) < la) (f1 : la ≠ (-1)) (e3 : (bx_up S 480 0 0) 482 3 = x9) (e1 : (bx_up (bx_up S 480 0 0) 480 1 ((-2))) 481 2 = x10) : (True) ∧ rxPS246 S0 ws (bx_up (bx_up (bx_up S 480 0 0) 480 1 ((-2))) 481 2 x11) (some ((-2))) := by
  obtain ⟨rfl, hw⟩ := hinv
  have e3 := (show _ = S 482 3 from (bx_up_ne (by omega))).symm.trans e3
  have e1 := (show _ = S 481 2 from (bx_up_ne (by omega)).trans ((bx_up_ne (by omega)))).symm.trans e1
  refine ⟨trivial, la, hw, Or.inl (⟨?_, ?_, fun j => (bx_up_ne (by omega)).trans ((bx_up_ne (by omega)).trans ((bx_up_ne (by omega))))⟩)⟩ <;> first | omega | exact hin2 | exact congrArg some (by omega) | (intro i i0 i1; simp only [bx_up]; (repeat' split) <;> first | rfl | omega | (simp_all; done) | (simp_all; omega)) | ((repeat (first | rw [bx_up_at] | rw [bx_up_ne (by omega)])); omega) | exact True.intro
theorem rxf246_0_1 {X : (Nat → Int → Int) → Prop} {S0 : Nat → Int → Int} {ws : List Int} (hP : rxP246 S0 ws) : bx_obE rxL X S0 rxC246.2.2.1 (rxI246 S0 ws) (rxPS246 S0 ws) 0 rxz246_0 rxe246_0_1 := by
  intro S S_p r r_p hinv hX hin hsm_ hseg
  obtain ⟨I0, I1, h0_, hr_, b_, f_, d_⟩ := bx_cl (evs := [(1, (0, 481), (0, 2), .inr (0, (11, 0))), (0, (0, 481), (0, 2), .inr (0, (10, 0))), (1, (0, 480), (0, 1), .inr (0, (0, (-2)))), (0, (0, 482), (0, 3), .inr (0, (9, 0))), (1, (0, 480), (0, 0), .inr (0, (0, 0)))]) (fvs := [(0, (9, (-1)), (8, 0), (0, 0)), (3, (8, 0), (0, (-1)), (0, 0))]) hseg (by decide +kernel) (by decide +kernel)
  have hinv : rxI246_0 S0 ws S (r 8) := hinv
  rw [← hr_ 8 (by decide)] at hinv
  obtain ⟨⟨l8, u8⟩, ⟨l9, u9⟩, ⟨l10, u10⟩, ⟨l11, u11⟩, -⟩ := b_
  obtain ⟨f0, f1, -⟩ := f_
  obtain ⟨T0, ⟨e1, ⟨T2, ⟨e3, ⟨T4, w_, w4⟩⟩, w2⟩⟩, w0⟩ := d_
  subst w0
  subst w2
  subst w4
  subst w_
  have g := rxd246_0_1 hP hin hsm_ I0 I1 hinv l8 u8 l9 u9 l10 u10 l11 u11 f0 f1 e3 e1
  refine ⟨bx_narP_ok (l := []) g.1, ?_⟩
  show rxPS246 S0 ws (bx_up (bx_up (bx_up T4 480 (0) (0)) 480 (1) ((-2))) 481 (2) (r_p 11)) (some (bx_num r_p (.inr (0, (0, (-2))))))
  rw [bx_xv_ok h0_]
  exact g.2
theorem rxd246_0_2 {S0 : Nat → Int → Int} {ws : List Int} {S : Nat → Int → Int} {la x9 x10 : Int} (hP : rxP246 S0 ws) (hin : bx_same rxL (bx_mdl rxC246.2.2.1) S0 S) (hin2 : bx_same rxL (bx_mdl rxC246.2.2.1) S (bx_up (bx_up (bx_up S 480 0 0) 482 4 la) 480 1 0)) (I0 : bx_Inv rxL S) (I1 : bx_Inv rxL (bx_up (bx_up (bx_up S 480 0 0) 482 4 la) 480 1 0)) (hinv : rxI246_0 S0 ws S la) (l8 : 0 ≤ la) (u8 : la ≤ 5) (l9 : 1 ≤ x9) (u9 : x9 ≤ 6) (l10 : (-1) ≤ x10) (u10 : x10 ≤ 5) (f0 : la ≤ x9 + (-1)) (f1 : la ≠ (-1)) (e3 : (bx_up S 480 0 0) 482 3 = x9) (e2 : (bx_up S 480 0 0) 482 4 = x10) : (True) ∧ rxPS246 S0 ws (bx_up (bx_up (bx_up S 480 0 0) 482 4 la) 480 1 0) (some x10) := by
  obtain ⟨rfl, hw⟩ := hinv
  have e3 := (show _ = S 482 3 from (bx_up_ne (by omega))).symm.trans e3
  have e2 := (show _ = S 482 4 from (bx_up_ne (by omega))).symm.trans e2
  refine ⟨trivial, la, hw, Or.inr (⟨?_, ?_, ((bx_up_ne (by omega)).trans (bx_up_at)).trans (by omega)⟩)⟩ <;> first | omega | exact hin2 | exact congrArg some (by omega) | (intro i i0 i1; simp only [bx_up]; (repeat' split) <;> first | rfl | omega | (simp_all; done) | (simp_all; omega)) | ((repeat (first | rw [bx_up_at] | rw [bx_up_ne (by omega)])); omega) | exact True.intro
theorem rxf246_0_2 {X : (Nat → Int → Int) → Prop} {S0 : Nat → Int → Int} {ws : List Int} (hP : rxP246 S0 ws) : bx_obE rxL X S0 rxC246.2.2.1 (rxI246 S0 ws) (rxPS246 S0 ws) 0 rxz246_0 rxe246_0_2 := by
  intro S S_p r r_p hinv hX hin hsm_ hseg
  obtain ⟨I0, I1, h0_, hr_, b_, f_, d_⟩ := bx_cl (evs := [(1, (0, 480), (0, 1), .inr (0, (0, 0))), (1, (0, 482), (0, 4), .inr (0, (8, 0))), (0, (0, 482), (0, 4), .inr (0, (10, 0))), (0, (0, 482), (0, 3), .inr (0, (9, 0))), (1, (0, 480), (0, 0), .inr (0, (0, 0)))]) (fvs := [(1, (8, 0), (9, (-1)), (0, 0)), (3, (8, 0), (0, (-1)), (0, 0))]) hseg (by decide +kernel) (by decide +kernel)
  have hinv : rxI246_0 S0 ws S (r 8) := hinv
  rw [← hr_ 8 (by decide)] at hinv
  obtain ⟨⟨l8, u8⟩, ⟨l9, u9⟩, ⟨l10, u10⟩, -⟩ := b_
  obtain ⟨f0, f1, -⟩ := f_
  obtain ⟨T0, ⟨T1, ⟨e2, ⟨e3, ⟨T4, w_, w4⟩⟩⟩, w1⟩, w0⟩ := d_
  subst w0
  subst w1
  subst w4
  subst w_
  have g := rxd246_0_2 hP hin hsm_ I0 I1 hinv l8 u8 l9 u9 l10 u10 f0 f1 e3 e2
  refine ⟨bx_narP_ok (l := []) g.1, ?_⟩
  show rxPS246 S0 ws (bx_up (bx_up (bx_up T4 480 (0) (0)) 482 (4) (r_p 8)) 480 (1) (0)) (some (bx_num r_p (.inr (0, (10, 0)))))
  rw [bx_xv_ok h0_]
  exact g.2
theorem rxd246_0_3 {S0 : Nat → Int → Int} {ws : List Int} {S : Nat → Int → Int} {la x9 : Int} (hP : rxP246 S0 ws) (hin : bx_same rxL (bx_mdl rxC246.2.2.1) S0 S) (hin2 : bx_same rxL (bx_mdl rxC246.2.2.1) S (bx_up (bx_up (bx_up S 480 0 0) 482 4 la) 480 1 0)) (I0 : bx_Inv rxL S) (I1 : bx_Inv rxL (bx_up (bx_up (bx_up S 480 0 0) 482 4 la) 480 1 0)) (hinv : rxI246_0 S0 ws S la) (l8 : (-1) ≤ la) (u8 : la ≤ (-1)) (l9 : (-1) ≤ x9) (u9 : x9 ≤ 5) (e2 : (bx_up S 480 0 0) 482 4 = x9) : (True) ∧ rxPS246 S0 ws (bx_up (bx_up (bx_up S 480 0 0) 482 4 la) 480 1 0) (some x9) := by
  obtain ⟨rfl, hw⟩ := hinv
  have e2 := (show _ = S 482 4 from (bx_up_ne (by omega))).symm.trans e2
  refine ⟨trivial, la, hw, Or.inr (⟨?_, ?_, ((bx_up_ne (by omega)).trans (bx_up_at)).trans (by omega)⟩)⟩ <;> first | omega | exact hin2 | exact congrArg some (by omega) | (intro i i0 i1; simp only [bx_up]; (repeat' split) <;> first | rfl | omega | (simp_all; done) | (simp_all; omega)) | ((repeat (first | rw [bx_up_at] | rw [bx_up_ne (by omega)])); omega) | exact True.intro
theorem rxf246_0_3 {X : (Nat → Int → Int) → Prop} {S0 : Nat → Int → Int} {ws : List Int} (hP : rxP246 S0 ws) : bx_obE rxL X S0 rxC246.2.2.1 (rxI246 S0 ws) (rxPS246 S0 ws) 0 rxz246_0 rxe246_0_3 := by
  intro S S_p r r_p hinv hX hin hsm_ hseg
  obtain ⟨I0, I1, h0_, hr_, b_, f_, d_⟩ := bx_cl (evs := [(1, (0, 480), (0, 1), .inr (0, (0, 0))), (1, (0, 482), (0, 4), .inr (0, (8, 0))), (0, (0, 482), (0, 4), .inr (0, (9, 0))), (1, (0, 480), (0, 0), .inr (0, (0, 0)))]) (fvs := []) hseg (by decide +kernel) (by decide +kernel)
  have hinv : rxI246_0 S0 ws S (r 8) := hinv
  rw [← hr_ 8 (by decide)] at hinv
  obtain ⟨⟨l8, u8⟩, ⟨l9, u9⟩, -⟩ := b_
  obtain ⟨T0, ⟨T1, ⟨e2, ⟨T3, w_, w3⟩⟩, w1⟩, w0⟩ := d_
  subst w0
  subst w1
  subst w3
  subst w_
  have g := rxd246_0_3 hP hin hsm_ I0 I1 hinv l8 u8 l9 u9 e2
  refine ⟨bx_narP_ok (l := []) g.1, ?_⟩
  show rxPS246 S0 ws (bx_up (bx_up (bx_up T3 480 (0) (0)) 482 (4) (r_p 8)) 480 (1) (0)) (some (bx_num r_p (.inr (0, (9, 0)))))
  rw [bx_xv_ok h0_]
  exact g.2
theorem rxgC246 {X : (Nat → Int → Int) → Prop} {S0 : Nat → Int → Int} {ws : List Int} (hP : rxP246 S0 ws) : bx_allI (fun i q => rxU246 q = true ∨ bx_allP (fun o => bx_obC rxL X S0 rxC246.2.2.1 (rxI246 S0 ws) (rxm246 S0 ws) i q.1 o) q.2.1) 0 rxY246 := ⟨Or.inr trivial, trivial⟩
theorem rxgE246 {X : (Nat → Int → Int) → Prop} {S0 : Nat → Int → Int} {ws : List Int} (hP : rxP246 S0 ws) : bx_allI (fun i q => rxU246 q = true ∨ bx_allP (fun E => bx_obE rxL X S0 rxC246.2.2.1 (rxI246 S0 ws) (rxPS246 S0 ws) i q.1 E) q.2.2) 0 rxY246 := ⟨Or.inr ⟨rxf246_0_0 hP, rxf246_0_1 hP, rxf246_0_2 hP, rxf246_0_3 hP, trivial⟩, trivial⟩
theorem rxQ246 {PX : State → Prop} {Dg : va_G} {A : Nat → Prop} {ad xa : Nat → Nat} {l : Launch} {X : (Nat → Int → Int) → Prop} (hPX : rx_PXOK rxNW A PX) (hsl : ∀ s : State, PX s → ∀ o idx n : Nat, rxSl o idx = some n → ∃ tx : String, vk_R (rxNm o) idx tx (ad n) s)
    (hX : ∀ S S_p : Nat → Int → Int, X S → bx_same rxL (bx_mdl rxC246.2.2.1) S S_p → X S_p)
    (ih : ∀ (j2 : Nat) (ct2 : bx_Ct) (M2 : rx_Mt), ct2 ∈ rxCnE j2 → ct2.2.2.2.1 + 1 ≤ rxC246.2.2.2.1 → rxT.2.2.2.2.2 j2 = some M2 → bx_Con rxG rxNW rxAO PX Dg rxL X vwCl A ad l M2 ct2) : bx_ConP rxG rxNW rxAO PX Dg rxL X vwCl A ad l rxM246 rxC246 rxP246 rxPS246 :=
  rxQof (xa := xa) (Cn := rxCnE) (f := 30000) (j := 246) (tab := rxY246) (us := rxU246) hPX hsl hX ih rfl rxYc246 rxI246 rxm246
    (fun S0 ws r I0 I ht0 ht as he he1 hX0 hI0 hP hs ha => by
      have e := he.symm.trans (show bx_ent0 rxNP rxC246.1 bx_I0 [] = some ([(0, 0), (0, 0), (0, 0), (0, 0), (0, 0), (0, 0), (0, 0), (0, 0), ((-2147483648), 2147483647)], [], [.inr (3, (0, 480)), .inr (0, (8, 0))]) from rfl)
      cases e
      subst ha
      have h0 : r 0 = 0 := hs.1
      show rxI246_0 S0 _ S0 (r 8)
      refine ⟨rfl, ?_⟩
      simp only [List.map_cons, List.map_nil, bx_xv_ok h0]
      rfl)
    (fun S0 ws hP => fun i q hq hus => absurd (show false = true from hus) Bool.false_ne_true) (fun S0 ws hP => rxgC246 hP) (fun S0 ws hP => rxgE246 hP)
set_option maxHeartbeats 1000000 in
theorem rzQ246 {PX : State → Prop} {Dg : va_G} {A : Nat → Prop} {ad : Nat → Nat} {l : Launch} (hPX : rx_PXOK rxNW A PX) (hsl : ∀ s : State, PX s → ∀ o idx n : Nat, rxSl o idx = some n → ∃ tx : String, vk_R (rxNm o) idx tx (ad n) s) : bx_ConP rxG rxNW rxAO PX Dg rxL rxX vwCl A ad l rxM246 rxC246 (fun _ _ => True) rxPS246 := by
  have q246 := rxQ246 (PX := PX) (Dg := Dg) (A := A) (ad := ad) (xa := fun n => n) (l := l) (X := rxX) hPX hsl (fun _ _ h hm => rxX_of (by decide +kernel) h hm) (fun _ _ _ h => absurd h List.not_mem_nil)
  exact fun S0 ws h1 h2 h3 _ => q246 S0 ws h1 h2 h3 trivial
