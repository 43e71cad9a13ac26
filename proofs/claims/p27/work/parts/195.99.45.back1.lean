section
end
section
noncomputable def rxI210_0 (S0 : Nat → Int → Int) (ws : List Int) (S : Nat → Int → Int) (ki : Int) : Prop := S = S0 ∧ ws = [0, ki]
noncomputable def rxm210_0 (S0 : Nat → Int → Int) (ws : List Int) (S : Nat → Int → Int) (ki : Int) : Nat := 100
noncomputable def rxz210_0 : rx_Z := ([(0, 0), (0, 0), (0, 0), (0, 0), (0, 0), (0, 0), (0, 0), (0, 0), ((-2147483648), 2147483647)], [], [], 0, 0, 0, [(0, .inr (3, (0, 0))), (1, .inr (0, (8, 0)))], [])
noncomputable def rxI210_1 (S0 : Nat → Int → Int) (ws : List Int) (S : Nat → Int → Int) (ki : Int) : Prop := S = S0
noncomputable def rxm210_1 (S0 : Nat → Int → Int) (ws : List Int) (S : Nat → Int → Int) (ki : Int) : Nat := 50
noncomputable def rxz210_1 : rx_Z := ([(0, 0), (0, 0), (0, 0), (0, 0), (0, 0), (0, 0), (0, 0), (0, 0), ((-2147483648), 2147483647)], [], [], 0, 0, 11, [(0, .inr (3, (0, 0))), (1, .inr (0, (8, 0)))], [.inr (0, (0, (-1))), .inr (3, (0, 0))])
noncomputable def rxI210_2 (S0 : Nat → Int → Int) (ws : List Int) (S : Nat → Int → Int) (ki res : Int) : Prop := res = -1 ∧ bx_same rxL (bx_mdl rxC110.2.2.1) S0 S
noncomputable def rxm210_2 (S0 : Nat → Int → Int) (ws : List Int) (S : Nat → Int → Int) (ki res : Int) : Nat := 20
noncomputable def rxz210_2 : rx_Z := ([(0, 0), (0, 0), (0, 0), (0, 0), (0, 0), (0, 0), (0, 0), (0, 0), ((-2147483648), 2147483647), ((-6), (-1))], [], [], 0, 0, 14, [(0, .inr (3, (0, 0))), (1, .inr (0, (8, 0)))], [.inr (0, (9, 0))])
noncomputable def rxo210_0_0 : bx_HO := (([(0, 0), (0, 0), (0, 0), (0, 0), (0, 0), (0, 0), (0, 0), (0, 0), (2, 2147483647)], [], [], 0, 0, 11, [(0, .inr (3, (0, 0))), (1, .inr (0, (8, 0)))], [.inr (0, (0, (-1))), .inr (3, (0, 0))]), [], [], [(0, 0), (0, 0), (0, 0), (0, 0), (0, 0), (0, 0), (0, 0), (0, 0), (8, 0)], 1)
noncomputable def rxo210_0_1 : bx_HO := (([(0, 0), (0, 0), (0, 0), (0, 0), (0, 0), (0, 0), (0, 0), (0, 0), ((-2147483648), (-1))], [], [], 0, 0, 11, [(0, .inr (3, (0, 0))), (1, .inr (0, (8, 0)))], [.inr (0, (0, (-1))), .inr (3, (0, 0))]), [], [], [(0, 0), (0, 0), (0, 0), (0, 0), (0, 0), (0, 0), (0, 0), (0, 0), (8, 0)], 1)
noncomputable def rxe210_0_0 : rx_End × List (Nat × Int × Int) := (([(0, 0), (0, 0), (0, 0), (0, 0), (0, 0), (0, 0), (0, 0), (0, 0), (0, 1), (0, 0), ((-6), (-1))], [], [(((0, 0), 9900078000000), .inl none), (((0, 0), 933300006000000), .inl none), (((0, 0), 89999100006000000), .inl none), (((0, 0), 1851192626986356797424364830707437625680387377997778265106415616000000), .inr (0, (9, 0))), (((0, 0), 2), .inr (3, (0, 410)))], some (.inr (0, (10, 0)))), [])
noncomputable def rxe210_0_1 : rx_End × List (Nat × Int × Int) := (([(0, 0), (0, 0), (0, 0), (0, 0), (0, 0), (0, 0), (0, 0), (0, 0), (0, 1), (1, 1), (0, 1522)], [(3, (9, 0), (0, 0))], [(((0, 0), 1851192626986356799029993984671224184301589730656725205983952899000000), .inr (0, (0, 0))), (((0, 0), 8), .inr (0, (0, 0))), (((0, 0), 1800006000000), .inl none), (((0, 0), 4500006000000), .inl none), (((0, 0), 5400006000000), .inl none), (((0, 0), 5400042000000), .inl none), (((0, 0), 9000006000000), .inl none), (((0, 0), 9000051000000), .inl none), (((0, 0), 9000096000000), .inl none), (((0, 0), 9000132000000), .inl none), (((0, 0), 9000141000000), .inl none), (((0, 0), 900000006000000), .inl none), (((0, 0), 900900006000000), .inl none), (((0, 0), 902700006000000), .inl none), (((0, 0), 903600006000000), .inl none), (((0, 0), 904500006000000), .inl none), (((0, 0), 905400006000000), .inl none), (((0, 0), 906300006000000), .inl none), (((0, 0), 907200006000000), .inl none), (((0, 0), 909000006000000), .inl none), (((0, 0), 909900006000000), .inl none), (((0, 0), 910800006000000), .inl none), (((0, 0), 911700006000000), .inl none), (((0, 0), 913500006000000), .inl none), (((0, 0), 917100006000000), .inl none), (((0, 0), 918000006000000), .inl none), (((0, 0), 918900006000000), .inl none), (((0, 0), 919800006000000), .inl none), (((0, 0), 921600006000000), .inl none), (((0, 0), 922500006000000), .inl none), (((0, 0), 923400006000000), .inl none), (((0, 0), 924300006000000), .inl none), (((0, 0), 89999100006000000), .inl none), (((0, 0), 1851192626986356797424364830707437625680387377997778264945393664000000), .inr (3, (10, 0))), (((10, 0), 1000011), .inl none), (((0, 0), 1), .inr (3, (0, 137))), (((0, 0), 0), .inr (3, (0, 1))), (((0, 0), 1851192626986356797424364830707437625680387377997778265106415616000000), .inr (0, (9, 0))), (((0, 0), 2), .inr (3, (0, 410)))], some (.inr (0, (0, 0)))), [])
noncomputable def rxe210_2_0 : rx_End × List (Nat × Int × Int) := (([(0, 0), (0, 0), (0, 0), (0, 0), (0, 0), (0, 0), (0, 0), (0, 0), ((-2147483648), 2147483647), ((-6), (-1))], [], [], some (.inr (0, (9, 0)))), [])
noncomputable def rxY210 : List bx_HE := [(rxz210_0, [rxo210_0_0, rxo210_0_1], [rxe210_0_0, rxe210_0_1]), (rxz210_1, [], []), (rxz210_2, [], [rxe210_2_0])]
noncomputable def rxU210 (q : bx_HE) : Bool := Nat.beq (rx_zpc q.1) 11
noncomputable def rxYB210 : bx_B := (rxV, rxNP, rxDmf, bx_mdH rxC210.2.2.1)
set_option maxRecDepth 100000 in
theorem rxYc210 : bx_chkH rxYB210 rxM210 rxC210 rxY210 (rxU210, fun cut z => rx_ex2 (rxCT rxYB210 rxCn) cut 30000 rxC210.2.2.2.1 210 z) = true := by decide +kernel
noncomputable def rxI210 (S0 : Nat → Int → Int) (ws : List Int) (i : Nat) : bx_SP := fun S r => match i with | 0 => rxI210_0 S0 ws S (r 8) | 1 => rxI210_1 S0 ws S (r 8) | 2 => rxI210_2 S0 ws S (r 8) (r 9) | _ => False
noncomputable def rxm210 (S0 : Nat → Int → Int) (ws : List Int) (i : Nat) (S : Nat → Int → Int) (r : Nat → Int) : Nat := match i with | 0 => rxm210_0 S0 ws S (r 8) | 1 => rxm210_1 S0 ws S (r 8) | 2 => rxm210_2 S0 ws S (r 8) (r 9) | _ => 0
noncomputable def rxP210 (S0 : Nat → Int → Int) (ws : List Int) : Prop := ∃ k : Int, ws = [0, k] ∧ (k < 0 ∨ 1 < k)
noncomputable def rxPS210 (S0 : Nat → Int → Int) (ws : List Int) (S : Nat → Int → Int) (w : Option Int) : Prop := w = some (-1) ∧ bx_same rxL (bx_mdl rxC110.2.2.1) S0 S
theorem rxk210_1 {S0 : Nat → Int → Int} {ws : List Int} {S : Nat → Int → Int} {ki : Int} (hP : rxP210 S0 ws) (hin : bx_same rxL (bx_mdl rxC210.2.2.1) S0 S) (I0 : bx_Inv rxL S) (hinv : rxI210_1 S0 ws S ki) (l8 : (-2147483648) ≤ ki) (u8 : ki ≤ 2147483647) : rxP110 S [0, (-1)] ∧ ∀ (S_p : Nat → Int → Int) (res : Int), (-6) ≤ res → res ≤ (-1) → rxPS110 S [0, (-1)] S_p (some res) → bx_Inv rxL S_p → bx_same rxL (bx_mdl rxC110.2.2.1) S S_p → rxI210_2 S0 ws S_p ki res ∧ rxm210_2 S0 ws S_p ki res < rxm210_1 S0 ws S ki := by
  have hinv : S = S0 := hinv
  subst hinv
  refine ⟨trivial, fun S_p res _ _ hq _ hsm => ⟨⟨?_, hsm⟩, by unfold rxm210_1 rxm210_2; omega⟩⟩
  obtain ⟨c, hc, hr⟩ := hq
  simp only [List.cons.injEq, and_true, true_and] at hc
  simp only [Option.some.injEq] at hr
  omega
theorem rxs210_1 {X : (Nat → Int → Int) → Prop} {S0 : Nat → Int → Int} {ws : List Int} (hP : rxP210 S0 ws) : rx_obK X S0 rxC210.2.2.1 rxC110.2.2.1 (rxI210 S0 ws) (rxm210 S0 ws) 1 2 rxz210_1 rxz210_2 [.inr (3, (0, 0)), .inr (0, (0, (-1)))] (some 9) rxP110 rxPS110 := by
  intro S r hinv hXS I0 hin hs_ hf_
  have b_ := bx_bds_sat hs_
  have f_ := bx_fcl_ok hs_.1 hf_
  obtain ⟨⟨l8, u8⟩, -⟩ := b_
  have g := rxk210_1 hP hin I0 hinv l8 u8
  have ea : List.map (bx_num r) [.inr (3, (0, 0)), .inr (0, (0, (-1)))] = [0, -1] := by
    simp only [List.map_cons, List.map_nil, bx_xv_ok hs_.1]
    rfl
  rw [ea]
  refine ⟨g.1, fun S_p w r_p hPS hX_p I1 hsm hr hw hs_p => ?_⟩
  have hw := hw _ rfl
  subst hw
  have b_p := hs_p.2.2 9 _ _ rfl
  have g2 := g.2 S_p (r_p 9) b_p.1 b_p.2 hPS I1 hsm
  show rxI210_2 S0 ws S_p (r_p 8) (r_p 9) ∧ rxm210_2 S0 ws S_p (r_p 8) (r_p 9) < _
  rw [hr 8 (by decide)]
  exact g2
theorem rxc210_0_0 {S0 : Nat → Int → Int} {ws : List Int} {S : Nat → Int → Int} {ki : Int} (hP : rxP210 S0 ws) (hin : bx_same rxL (bx_mdl rxC210.2.2.1) S0 S) (I0 : bx_Inv rxL S) (hinv : rxI210_0 S0 ws S ki) (l8 : 2 ≤ ki) (u8 : ki ≤ 2147483647) : (True) ∧ (True) ∧ rxI210_1 S0 ws S ki ∧ rxm210_1 S0 ws S ki < rxm210_0 S0 ws S ki := by
  obtain ⟨rfl, hw⟩ := hinv
  exact ⟨trivial, trivial, rfl, by unfold rxm210_0 rxm210_1; omega⟩
theorem rxg210_0_0 {X : (Nat → Int → Int) → Prop} {S0 : Nat → Int → Int} {ws : List Int} (hP : rxP210 S0 ws) : bx_obC rxL X S0 rxC210.2.2.1 (rxI210 S0 ws) (rxm210 S0 ws) 0 rxz210_0 rxo210_0_0 := by
  intro S S_p r r_p hinv hX hin hsm_ hseg
  obtain ⟨I0, I1, h0_, hr_, b_, f_, d_⟩ := bx_cl (evs := []) (fvs := []) hseg (by decide +kernel) (by decide +kernel)
  have hinv : rxI210_0 S0 ws S (r 8) := hinv
  rw [← hr_ 8 (by decide)] at hinv
  obtain ⟨⟨l8, u8⟩, -⟩ := b_
  have w_ := d_
  subst w_
  have g := rxc210_0_0 hP hin I0 hinv l8 u8
  refine ⟨bx_narP_ok (l := []) g.1, bx_nfP_ok h0_ (fvs := []) (by decide +kernel) g.2.1, ?_, ?_⟩
  · show rxI210_1 S0 ws S_p (bx_val [(0, 0), (0, 0), (0, 0), (0, 0), (0, 0), (0, 0), (0, 0), (0, 0), (8, 0)] r_p 8)
    rw [bx_val_x (n := 8) (e := (8, 0)) h0_ rfl]
    exact g.2.2.1
  · show rxm210_1 S0 ws S_p (bx_val [(0, 0), (0, 0), (0, 0), (0, 0), (0, 0), (0, 0), (0, 0), (0, 0), (8, 0)] r_p 8) < rxm210_0 S0 ws S_p (r 8)
    rw [bx_val_x (n := 8) (e := (8, 0)) h0_ rfl, ← hr_ 8 (by decide)]
    exact g.2.2.2
theorem rxc210_0_1 {S0 : Nat → Int → Int} {ws : List Int} {S : Nat → Int → Int} {ki : Int} (hP : rxP210 S0 ws) (hin : bx_same rxL (bx_mdl rxC210.2.2.1) S0 S) (I0 : bx_Inv rxL S) (hinv : rxI210_0 S0 ws S ki) (l8 : (-2147483648) ≤ ki) (u8 : ki ≤ (-1)) : (True) ∧ (True) ∧ rxI210_1 S0 ws S ki ∧ rxm210_1 S0 ws S ki < rxm210_0 S0 ws S ki := by
  obtain ⟨rfl, hw⟩ := hinv
  exact ⟨trivial, trivial, rfl, by unfold rxm210_0 rxm210_1; omega⟩
theorem rxg210_0_1 {X : (Nat → Int → Int) → Prop} {S0 : Nat → Int → Int} {ws : List Int} (hP : rxP210 S0 ws) : bx_obC rxL X S0 rxC210.2.2.1 (rxI210 S0 ws) (rxm210 S0 ws) 0 rxz210_0 rxo210_0_1 := by
  intro S S_p r r_p hinv hX hin hsm_ hseg
  obtain ⟨I0, I1, h0_, hr_, b_, f_, d_⟩ := bx_cl (evs := []) (fvs := []) hseg (by decide +kernel) (by decide +kernel)
  have hinv : rxI210_0 S0 ws S (r 8) := hinv
  rw [← hr_ 8 (by decide)] at hinv
  obtain ⟨⟨l8, u8⟩, -⟩ := b_
  have w_ := d_
  subst w_
  have g := rxc210_0_1 hP hin I0 hinv l8 u8
  refine ⟨bx_narP_ok (l := []) g.1, bx_nfP_ok h0_ (fvs := []) (by decide +kernel) g.2.1, ?_, ?_⟩
  · show rxI210_1 S0 ws S_p (bx_val [(0, 0), (0, 0), (0, 0), (0, 0), (0, 0), (0, 0), (0, 0), (0, 0), (8, 0)] r_p 8)
    rw [bx_val_x (n := 8) (e := (8, 0)) h0_ rfl]
    exact g.2.2.1
  · show rxm210_1 S0 ws S_p (bx_val [(0, 0), (0, 0), (0, 0), (0, 0), (0, 0), (0, 0), (0, 0), (0, 0), (8, 0)] r_p 8) < rxm210_0 S0 ws S_p (r 8)
    rw [bx_val_x (n := 8) (e := (8, 0)) h0_ rfl, ← hr_ 8 (by decide)]
    exact g.2.2.2
theorem rxd210_0_0 {S0 : Nat → Int → Int} {ws : List Int} {S T2 T1 T0 : Nat → Int → Int} {ki x9 x10 : Int} (hP : rxP210 S0 ws) (hin : bx_same rxL (bx_mdl rxC210.2.2.1) S0 S) (hin2 : bx_same rxL (bx_mdl rxC210.2.2.1) S T0) (I0 : bx_Inv rxL S) (I1 : bx_Inv rxL T0) (hinv : rxI210_0 S0 ws S ki) (l8 : 0 ≤ ki) (u8 : ki ≤ 1) (l9 : 0 ≤ x9) (u9 : x9 ≤ 0) (l10 : (-6) ≤ x10) (u10 : x10 ≤ (-1)) (e3 : S 410 ki = x9) (v2 : ∀ (p i : Nat), p < rxL.2.1 → i < bx_wd (rxL.1 p) → bx_mc (rxL.1 p) i ≠ (99999, 0) → T2 p (i : Int) = S p (i : Int)) (v1 : ∀ (p i : Nat), p < rxL.2.1 → i < bx_wd (rxL.1 p) → bx_mc (rxL.1 p) i ≠ (1037, 0) → T1 p (i : Int) = T2 p (i : Int)) (v0 : ∀ (p i : Nat), p < rxL.2.1 → i < bx_wd (rxL.1 p) → bx_mc (rxL.1 p) i ≠ (11, 8) → T0 p (i : Int) = T1 p (i : Int)) : (True) ∧ rxPS210 S0 ws T0 (some x10) := by
  obtain ⟨rfl, hw⟩ := hinv
  obtain ⟨k, hw2, hk⟩ := hP
  have e : ki = k := Option.some.inj (congrArg (fun l => l[1]?) (hw.symm.trans hw2))
  exfalso
  omega
theorem rxf210_0_0 {X : (Nat → Int → Int) → Prop} {S0 : Nat → Int → Int} {ws : List Int} (hP : rxP210 S0 ws) : bx_obE rxL X S0 rxC210.2.2.1 (rxI210 S0 ws) (rxPS210 S0 ws) 0 rxz210_0 rxe210_0_0 := by
  intro S S_p r r_p hinv hX hin hsm_ hseg
  obtain ⟨I0, I1, h0_, hr_, b_, f_, d_⟩ := bx_cl (evs := [(2, (11, 0), (8, 0), .inl none), (2, (1037, 0), (0, 0), .inl none), (2, (99999, 0), (0, 0), .inl none), (0, (0, 410), (8, 0), .inr (0, (9, 0)))]) (fvs := []) hseg (by decide +kernel) (by decide +kernel)
  have hinv : rxI210_0 S0 ws S (r 8) := hinv
  rw [← hr_ 8 (by decide)] at hinv
  obtain ⟨⟨l8, u8⟩, ⟨l9, u9⟩, ⟨l10, u10⟩, -⟩ := b_
  obtain ⟨T0, ⟨T1, ⟨T2, ⟨e3, w_⟩, v2⟩, v1⟩, v0⟩ := d_
  subst w_
  have g := rxd210_0_0 hP hin hsm_ I0 I1 hinv l8 u8 l9 u9 l10 u10 e3 v2 v1 v0
  refine ⟨bx_narP_ok (l := []) g.1, ?_⟩
  show rxPS210 S0 ws S_p (some (bx_num r_p (.inr (0, (10, 0)))))
  rw [bx_xv_ok h0_]
  exact g.2
theorem rxd210_0_1 {S0 : Nat → Int → Int} {ws : List Int} {S T31 T30 T29 T28 T27 T26 T25 T24 T23 T22 T21 T20 T19 T18 T17 T16 T15 T14 T13 T12 T11 T10 T9 T8 T7 T6 T5 T4 T3 T2 T1 : Nat → Int → Int} {ki x9 x10 : Int} (hP : rxP210 S0 ws) (hin : bx_same rxL (bx_mdl rxC210.2.2.1) S0 S) (hin2 : bx_same rxL (bx_mdl rxC210.2.2.1) S (bx_up T1 0 8 0)) (I0 : bx_Inv rxL S) (I1 : bx_Inv rxL (bx_up T1 0 8 0)) (hinv : rxI210_0 S0 ws S ki) (l8 : 0 ≤ ki) (u8 : ki ≤ 1) (l9 : 1 ≤ x9) (u9 : x9 ≤ 1) (l10 : 0 ≤ x10) (u10 : x10 ≤ 1522) (f0 : x9 ≠ 0) (e33 : S 410 ki = x9) (e32 : S 137 ki = x10) (v31 : ∀ (p i : Nat), p < rxL.2.1 → i < bx_wd (rxL.1 p) → bx_mc (rxL.1 p) i ≠ (99999, 0) → T31 p (i : Int) = S p (i : Int)) (v30 : ∀ (p i : Nat), p < rxL.2.1 → i < bx_wd (rxL.1 p) → bx_mc (rxL.1 p) i ≠ (1027, 0) → T30 p (i : Int) = T31 p (i : Int)) (v29 : ∀ (p i : Nat), p < rxL.2.1 → i < bx_wd (rxL.1 p) → bx_mc (rxL.1 p) i ≠ (1026, 0) → T29 p (i : Int) = T30 p (i : Int)) (v28 : ∀ (p i : Nat), p < rxL.2.1 → i < bx_wd (rxL.1 p) → bx_mc (rxL.1 p) i ≠ (1025, 0) → T28 p (i : Int) = T29 p (i : Int)) (v27 : ∀ (p i : Nat), p < rxL.2.1 → i < bx_wd (rxL.1 p) → bx_mc (rxL.1 p) i ≠ (1024, 0) → T27 p (i : Int) = T28 p (i : Int)) (v26 : ∀ (p i : Nat), p < rxL.2.1 → i < bx_wd (rxL.1 p) → bx_mc (rxL.1 p) i ≠ (1022, 0) → T26 p (i : Int) = T27 p (i : Int)) (v25 : ∀ (p i : Nat), p < rxL.2.1 → i < bx_wd (rxL.1 p) → bx_mc (rxL.1 p) i ≠ (1021, 0) → T25 p (i : Int) = T26 p (i : Int)) (v24 : ∀ (p i : Nat), p < rxL.2.1 → i < bx_wd (rxL.1 p) → bx_mc (rxL.1 p) i ≠ (1020, 0) → T24 p (i : Int) = T25 p (i : Int)) (v23 : ∀ (p i : Nat), p < rxL.2.1 → i < bx_wd (rxL.1 p) → bx_mc (rxL.1 p) i ≠ (1019, 0) → T23 p (i : Int) = T24 p (i : Int)) (v22 : ∀ (p i : Nat), p < rxL.2.1 → i < bx_wd (rxL.1 p) → bx_mc (rxL.1 p) i ≠ (1015, 0) → T22 p (i : Int) = T23 p (i : Int)) (v21 : ∀ (p i : Nat), p < rxL.2.1 → i < bx_wd (rxL.1 p) → bx_mc (rxL.1 p) i ≠ (1013, 0) → T21 p (i : Int) = T22 p (i : Int)) (v20 : ∀ (p i : Nat), p < rxL.2.1 → i < bx_wd (rxL.1 p) → bx_mc (rxL.1 p) i ≠ (1012, 0) → T20 p (i : Int) = T21 p (i : Int)) (v19 : ∀ (p i : Nat), p < rxL.2.1 → i < bx_wd (rxL.1 p) → bx_mc (rxL.1 p) i ≠ (1011, 0) → T19 p (i : Int) = T20 p (i : Int)) (v18 : ∀ (p i : Nat), p < rxL.2.1 → i < bx_wd (rxL.1 p) → bx_mc (rxL.1 p) i ≠ (1010, 0) → T18 p (i : Int) = T19 p (i : Int)) (v17 : ∀ (p i : Nat), p < rxL.2.1 → i < bx_wd (rxL.1 p) → bx_mc (rxL.1 p) i ≠ (1008, 0) → T17 p (i : Int) = T18 p (i : Int)) (v16 : ∀ (p i : Nat), p < rxL.2.1 → i < bx_wd (rxL.1 p) → bx_mc (rxL.1 p) i ≠ (1007, 0) → T16 p (i : Int) = T17 p (i : Int)) (v15 : ∀ (p i : Nat), p < rxL.2.1 → i < bx_wd (rxL.1 p) → bx_mc (rxL.1 p) i ≠ (1006, 0) → T15 p (i : Int) = T16 p (i : Int)) (v14 : ∀ (p i : Nat), p < rxL.2.1 → i < bx_wd (rxL.1 p) → bx_mc (rxL.1 p) i ≠ (1005, 0) → T14 p (i : Int) = T15 p (i : Int)) (v13 : ∀ (p i : Nat), p < rxL.2.1 → i < bx_wd (rxL.1 p) → bx_mc (rxL.1 p) i ≠ (1004, 0) → T13 p (i : Int) = T14 p (i : Int)) (v12 : ∀ (p i : Nat), p < rxL.2.1 → i < bx_wd (rxL.1 p) → bx_mc (rxL.1 p) i ≠ (1003, 0) → T12 p (i : Int) = T13 p (i : Int)) (v11 : ∀ (p i : Nat), p < rxL.2.1 → i < bx_wd (rxL.1 p) → bx_mc (rxL.1 p) i ≠ (1001, 0) → T11 p (i : Int) = T12 p (i : Int)) (v10 : ∀ (p i : Nat), p < rxL.2.1 → i < bx_wd (rxL.1 p) → bx_mc (rxL.1 p) i ≠ (1000, 0) → T10 p (i : Int) = T11 p (i : Int)) (v9 : ∀ (p i : Nat), p < rxL.2.1 → i < bx_wd (rxL.1 p) → bx_mc (rxL.1 p) i ≠ (10, 15) → T9 p (i : Int) = T10 p (i : Int)) (v8 : ∀ (p i : Nat), p < rxL.2.1 → i < bx_wd (rxL.1 p) → bx_mc (rxL.1 p) i ≠ (10, 14) → T8 p (i : Int) = T9 p (i : Int)) (v7 : ∀ (p i : Nat), p < rxL.2.1 → i < bx_wd (rxL.1 p) → bx_mc (rxL.1 p) i ≠ (10, 10) → T7 p (i : Int) = T8 p (i : Int)) (v6 : ∀ (p i : Nat), p < rxL.2.1 → i < bx_wd (rxL.1 p) → bx_mc (rxL.1 p) i ≠ (10, 5) → T6 p (i : Int) = T7 p (i : Int)) (v5 : ∀ (p i : Nat), p < rxL.2.1 → i < bx_wd (rxL.1 p) → bx_mc (rxL.1 p) i ≠ (10, 0) → T5 p (i : Int) = T6 p (i : Int)) (v4 : ∀ (p i : Nat), p < rxL.2.1 → i < bx_wd (rxL.1 p) → bx_mc (rxL.1 p) i ≠ (6, 4) → T4 p (i : Int) = T5 p (i : Int)) (v3 : ∀ (p i : Nat), p < rxL.2.1 → i < bx_wd (rxL.1 p) → bx_mc (rxL.1 p) i ≠ (6, 0) → T3 p (i : Int) = T4 p (i : Int)) (v2 : ∀ (p i : Nat), p < rxL.2.1 → i < bx_wd (rxL.1 p) → bx_mc (rxL.1 p) i ≠ (5, 0) → T2 p (i : Int) = T3 p (i : Int)) (v1 : ∀ (p i : Nat), p < rxL.2.1 → i < bx_wd (rxL.1 p) → bx_mc (rxL.1 p) i ≠ (2, 0) → T1 p (i : Int) = T2 p (i : Int)) : (True) ∧ rxPS210 S0 ws (bx_up T1 0 8 0) (some 0) := by
  obtain ⟨rfl, hw⟩ := hinv
  obtain ⟨k, hw2, hk⟩ := hP
  have e : ki = k := Option.some.inj (congrArg (fun l => l[1]?) (hw.symm.trans hw2))
  exfalso
  omega
theorem rxf210_0_1 {X : (Nat → Int → Int) → Prop} {S0 : Nat → Int → Int} {ws : List Int} (hP : rxP210 S0 ws) : bx_obE rxL X S0 rxC210.2.2.1 (rxI210 S0 ws) (rxPS210 S0 ws) 0 rxz210_0 rxe210_0_1 := by
  intro S S_p r r_p hinv hX hin hsm_ hseg
  obtain ⟨I0, I1, h0_, hr_, b_, f_, d_⟩ := bx_cl (evs := [(1, (0, 0), (0, 8), .inr (0, (0, 0))), (2, (2, 0), (0, 0), .inl none), (2, (5, 0), (0, 0), .inl none), (2, (6, 0), (0, 0), .inl none), (2, (6, 0), (4, 0), .inl none), (2, (10, 0), (0, 0), .inl none), (2, (10, 0), (5, 0), .inl none), (2, (10, 0), (10, 0), .inl none), (2, (10, 0), (14, 0), .inl none), (2, (10, 0), (15, 0), .inl none), (2, (1000, 0), (0, 0), .inl none), (2, (1001, 0), (0, 0), .inl none), (2, (1003, 0), (0, 0), .inl none), (2, (1004, 0), (0, 0), .inl none), (2, (1005, 0), (0, 0), .inl none), (2, (1006, 0), (0, 0), .inl none), (2, (1007, 0), (0, 0), .inl none), (2, (1008, 0), (0, 0), .inl none), (2, (1010, 0), (0, 0), .inl none), (2, (1011, 0), (0, 0), .inl none), (2, (1012, 0), (0, 0), .inl none), (2, (1013, 0), (0, 0), .inl none), (2, (1015, 0), (0, 0), .inl none), (2, (1019, 0), (0, 0), .inl none), (2, (1020, 0), (0, 0), .inl none), (2, (1021, 0), (0, 0), .inl none), (2, (1022, 0), (0, 0), .inl none), (2, (1024, 0), (0, 0), .inl none), (2, (1025, 0), (0, 0), .inl none), (2, (1026, 0), (0, 0), .inl none), (2, (1027, 0), (0, 0), .inl none), (2, (99999, 0), (0, 0), .inl none), (0, (0, 137), (8, 0), .inr (3, (10, 0))), (0, (0, 410), (8, 0), .inr (0, (9, 0)))]) (fvs := [(3, (9, 0), (0, 0), (0, 0))]) hseg (by decide +kernel) (by decide +kernel)
  have hinv : rxI210_0 S0 ws S (r 8) := hinv
  rw [← hr_ 8 (by decide)] at hinv
  obtain ⟨⟨l8, u8⟩, ⟨l9, u9⟩, ⟨l10, u10⟩, -⟩ := b_
  obtain ⟨f0, -⟩ := f_
  obtain ⟨T0, ⟨T1, ⟨T2, ⟨T3, ⟨T4, ⟨T5, ⟨T6, ⟨T7, ⟨T8, ⟨T9, ⟨T10, ⟨T11, ⟨T12, ⟨T13, ⟨T14, ⟨T15, ⟨T16, ⟨T17, ⟨T18, ⟨T19, ⟨T20, ⟨T21, ⟨T22, ⟨T23, ⟨T24, ⟨T25, ⟨T26, ⟨T27, ⟨T28, ⟨T29, ⟨T30, ⟨T31, ⟨e32, ⟨e33, w_⟩⟩, v31⟩, v30⟩, v29⟩, v28⟩, v27⟩, v26⟩, v25⟩, v24⟩, v23⟩, v22⟩, v21⟩, v20⟩, v19⟩, v18⟩, v17⟩, v16⟩, v15⟩, v14⟩, v13⟩, v12⟩, v11⟩, v10⟩, v9⟩, v8⟩, v7⟩, v6⟩, v5⟩, v4⟩, v3⟩, v2⟩, v1⟩, w0⟩ := d_
  subst w0
  subst w_
  have g := rxd210_0_1 hP hin hsm_ I0 I1 hinv l8 u8 l9 u9 l10 u10 f0 e33 e32 v31 v30 v29 v28 v27 v26 v25 v24 v23 v22 v21 v20 v19 v18 v17 v16 v15 v14 v13 v12 v11 v10 v9 v8 v7 v6 v5 v4 v3 v2 v1
  refine ⟨bx_narP_ok (l := []) g.1, ?_⟩
  show rxPS210 S0 ws (bx_up T0 0 (8) (0)) (some (bx_num r_p (.inr (0, (0, 0)))))
  rw [bx_xv_ok h0_]
  exact g.2
theorem rxd210_2_0 {S0 : Nat → Int → Int} {ws : List Int} {S : Nat → Int → Int} {ki res : Int} (hP : rxP210 S0 ws) (hin : bx_same rxL (bx_mdl rxC210.2.2.1) S0 S) (hin2 : bx_same rxL (bx_mdl rxC210.2.2.1) S S) (I0 : bx_Inv rxL S) (I1 : bx_Inv rxL S) (hinv : rxI210_2 S0 ws S ki res) (l8 : (-2147483648) ≤ ki) (u8 : ki ≤ 2147483647) (l9 : (-6) ≤ res) (u9 : res ≤ (-1)) : (True) ∧ rxPS210 S0 ws S (some res) := by
  obtain ⟨h1, h2⟩ := hinv
  exact ⟨trivial, congrArg some h1, h2⟩
theorem rxf210_2_0 {X : (Nat → Int → Int) → Prop} {S0 : Nat → Int → Int} {ws : List Int} (hP : rxP210 S0 ws) : bx_obE rxL X S0 rxC210.2.2.1 (rxI210 S0 ws) (rxPS210 S0 ws) 2 rxz210_2 rxe210_2_0 := by
  intro S S_p r r_p hinv hX hin hsm_ hseg
  obtain ⟨I0, I1, h0_, hr_, b_, f_, d_⟩ := bx_cl (evs := []) (fvs := []) hseg (by decide +kernel) (by decide +kernel)
  have hinv : rxI210_2 S0 ws S (r 8) (r 9) := hinv
  rw [← hr_ 8 (by decide), ← hr_ 9 (by decide)] at hinv
  obtain ⟨⟨l8, u8⟩, ⟨l9, u9⟩, -⟩ := b_
  have w_ := d_
  subst w_
  have g := rxd210_2_0 hP hin hsm_ I0 I1 hinv l8 u8 l9 u9
  refine ⟨bx_narP_ok (l := []) g.1, ?_⟩
  show rxPS210 S0 ws S_p (some (bx_num r_p (.inr (0, (9, 0)))))
  rw [bx_xv_ok h0_]
  exact g.2
theorem rxgC210 {X : (Nat → Int → Int) → Prop} {S0 : Nat → Int → Int} {ws : List Int} (hP : rxP210 S0 ws) : bx_allI (fun i q => rxU210 q = true ∨ bx_allP (fun o => bx_obC rxL X S0 rxC210.2.2.1 (rxI210 S0 ws) (rxm210 S0 ws) i q.1 o) q.2.1) 0 rxY210 := ⟨Or.inr ⟨rxg210_0_0 hP, rxg210_0_1 hP, trivial⟩, Or.inl rfl, Or.inr trivial, trivial⟩
theorem rxgE210 {X : (Nat → Int → Int) → Prop} {S0 : Nat → Int → Int} {ws : List Int} (hP : rxP210 S0 ws) : bx_allI (fun i q => rxU210 q = true ∨ bx_allP (fun E => bx_obE rxL X S0 rxC210.2.2.1 (rxI210 S0 ws) (rxPS210 S0 ws) i q.1 E) q.2.2) 0 rxY210 := ⟨Or.inr ⟨rxf210_0_0 hP, rxf210_0_1 hP, trivial⟩, Or.inl rfl, Or.inr ⟨rxf210_2_0 hP, trivial⟩, trivial⟩
theorem rxu210 {PX : State → Prop} {Dg : va_G} {A : Nat → Prop} {ad xa : Nat → Nat} {l : Launch} {X : (Nat → Int → Int) → Prop} (hPX : rx_PXOK rxNW A PX) (hX : ∀ S S1 : Nat → Int → Int, X S → bx_same rxL (bx_mdl rxC210.2.2.1) S S1 → X S1) (hQ110 : bx_ConP rxG rxNW rxAO PX Dg rxL X vwCl A ad l rxM110 rxC110 rxP110 rxPS110) {S0 : Nat → Int → Int} {ws : List Int} (hP : rxP210 S0 ws) : ∀ (i : Nat) (q : bx_HE), rxY210[i]? = some q → rxU210 q = true → ∀ {p : Program} {e : Env} {R : Room} {s : State} {m : MethodId} {args : Array Value} {below : List Frame} {meth : Method} {c : Code} {Q : State → Prop} {H0 : Heap}, rx_Fr rxG rxNW rxAO PX p s m args meth c rxM210 → (∀ q, H0.size ≤ q → A q) → H0 = s.heap → rxM210.2.2.2.2.2.2.1 ≤ R.cells → rxM210.2.2.2.2.2.2.2 ≤ R.slots → rxC210.2.2.2.1 ≤ R.frames → rxC210.2.2.2.1 * 40 ≤ R.locals → bx_Step p l e R s m args below meth c Q Dg rxL X vwCl A xa H0 ad rxM210 rxY210 (rxI210 S0 ws) (rxm210 S0 ws) S0 rxC210.2.2.1 i q := by
  intro i q hq hus p e R s m args below meth c Q H0 hF hA hH0 hmc hms hd hdl
  match i, hq with
  | 0, hq =>
    cases hq
    exact absurd (show false = true from hus) Bool.false_ne_true
  | 1, hq =>
    cases hq
    exact rx_stepC (ins := .invokevirtual 110) (len := 3) (i_p := 2) (M_p := rxM110) (d := rxC210.2.2.2.1) (as := [.inr (3, (0, 0)), .inr (0, (0, (-1)))]) (t := []) (ct := rxC110) hPX hF rfl hA hH0 hmc hms hd hdl (by decide +kernel) rfl rfl (by decide +kernel) (by decide +kernel) hQ110 (by decide +kernel) rfl (Or.inr ⟨_, _, _, 1, rfl, rfl, by omega, rfl, rfl, rfl⟩) (rxs210_1 hP)
  | 2, hq =>
    cases hq
    exact absurd (show false = true from hus) Bool.false_ne_true
  | n + 3, hq => cases hq
theorem rxQ210 {PX : State → Prop} {Dg : va_G} {A : Nat → Prop} {ad xa : Nat → Nat} {l : Launch} {X : (Nat → Int → Int) → Prop} (hPX : rx_PXOK rxNW A PX) (hsl : ∀ s : State, PX s → ∀ o idx n : Nat, rxSl o idx = some n → ∃ tx : String, vk_R (rxNm o) idx tx (ad n) s)
    (hX : ∀ S S_p : Nat → Int → Int, X S → bx_same rxL (bx_mdl rxC210.2.2.1) S S_p → X S_p)
    (ih : ∀ (j2 : Nat) (ct2 : bx_Ct) (M2 : rx_Mt), ct2 ∈ rxCn j2 → ct2.2.2.2.1 + 1 ≤ rxC210.2.2.2.1 → rxT.2.2.2.2.2 j2 = some M2 → bx_Con rxG rxNW rxAO PX Dg rxL X vwCl A ad l M2 ct2) (hQ110 : bx_ConP rxG rxNW rxAO PX Dg rxL X vwCl A ad l rxM110 rxC110 rxP110 rxPS110) : bx_ConP rxG rxNW rxAO PX Dg rxL X vwCl A ad l rxM210 rxC210 rxP210 rxPS210 :=
  rxQof (xa := xa) (Cn := rxCn) (f := 30000) (j := 210) (tab := rxY210) (us := rxU210) hPX hsl hX ih rfl rxYc210 rxI210 rxm210
    (fun S0 ws r I0 I ht0 ht as he he1 hX0 hI0 hP hs ha => by
      have e := he.symm.trans (show bx_ent0 rxNP rxC210.1 bx_I0 [] = some ([(0, 0), (0, 0), (0, 0), (0, 0), (0, 0), (0, 0), (0, 0), (0, 0), ((-2147483648), 2147483647)], [], [.inr (3, (0, 0)), .inr (0, (8, 0))]) from rfl)
      cases e
      subst ha
      have h0 : r 0 = 0 := hs.1
      show rxI210_0 S0 _ S0 (r 8)
      refine ⟨rfl, ?_⟩
      simp only [List.map_cons, List.map_nil, bx_xv_ok h0]
      rfl)
    (fun S0 ws hP => rxu210 (xa := xa) hPX hX hQ110 hP) (fun S0 ws hP => rxgC210 hP) (fun S0 ws hP => rxgE210 hP)
end
section
noncomputable def R_law : String := "DeadUnderstudiesLaw"
noncomputable def lw_P (b : Addr) (xs : List Int32) (args : Array Value) (s : State) : Prop := args = #[.ref b] ∧ s.IntsAt b xs ∧ xs.length ≤ 3072 ∧ (Jvm.Cond.and given_1 narrow_1).before args s = true
noncomputable def lw_Q (_ : Array Value) (s : State) (o : Outcome) (t : State) : Prop := o = .returned (some (.int 1)) ∧ Framed s o t [] 600000 7302250
noncomputable def lw_Z (below : List Frame) (a : Array Value) (s : State) : State → Prop := fun t => ∃ o, t.status = .running ∧ Ended t below o ∧ lw_Q a s o t
theorem lw_ret {p : Program} {l : Launch} {e : Env} {s : State} {m : MethodId} {below : List Frame} {meth : Method} {c : Code} {b : Nat} (hx : p.tables.exec = Jvm.exec) (hb : c.code = code) (hr : meth.sig.returnType = ret) (hlocks : meth.locks = false) {pc : Nat} {H : Heap} {ls : Array Slot} (hdg : decode code pc = .ok (.ireturn, 1)) : W p l e room_1 s m #[Value.ref b] below meth c H [] 600000 7302250 (lw_Z below #[Value.ref b] s) (F0 m pc ls [.int 1]) := by
  intro T hT X
  obtain ⟨fs, hret, hrun, hended, hW, hframe⟩ := X.leave (v := some (.int 1)) (hlocks := hlocks) (fun h => by rw [hr] at h; cases h)
  have hmeth_p : T.vm.method? m = some meth := X.method'
  refine ⟨T.setFrames fs, ?_, .returned (some (.int 1)), hrun, hended, rfl, ⟨_, rfl⟩, hW, hframe⟩
  jvm_step X.here [X.here.top, hx, hb, hdg, hmeth_p, hr, ret, narrow_b1]
  (try refine ⟨rfl, ?_⟩); (try refine ⟨rfl, ?_⟩)
  first | (intro acts; rw [hret _ acts rfl rfl rfl]) | rw [hret _ _ rfl rfl rfl]
  exact Steps.refl _
noncomputable def lw_At (p : Program) (s : State) (m : MethodId) (meth : Method) (c : Code) (b L : Nat) (xs : Nat → Int32) : Prop :=
  p.tables.exec = Jvm.exec ∧ c.code = code ∧ meth.sig.returnType = ret ∧ c.maxLocals = 4 ∧ s.vm.findClass R_law = some m.cls ∧ (∀ w ∈ lw_tbl, w.before #[Value.ref b] s = true) ∧ va_X b L xs s s.heap ∧ b < s.heap.size ∧ meth.locks = false ∧ (Jvm.Cond.and given_1 narrow_1).before #[Value.ref b] s = true
end
section
theorem rxNW_in : ∀ w ∈ rxNW, w ∈ lw_tbl := rx_all_cons (rx_at1 (n := 165) rfl) (rx_all_cons (rx_at1 (n := 176) rfl) (rx_all_cons (rx_at1 (n := 45) rfl) (rx_all_cons (rx_at1 (n := 168) rfl) (rx_all_cons (rx_at1 (n := 171) rfl) (rx_all_cons (rx_at1 (n := 175) rfl) (rx_all_cons (rx_at1 (n := 52) rfl) (rx_all_cons (rx_at1 (n := 46) rfl) (rx_all_cons (rx_at1 (n := 75) rfl) (rx_all_cons (rx_at1 (n := 78) rfl) (rx_all_cons (rx_at1 (n := 80) rfl) (rx_all_cons (rx_at1 (n := 82) rfl) (rx_all_cons (rx_at1 (n := 133) rfl) (rx_all_cons (rx_at1 (n := 136) rfl) (rx_all_cons (rx_at1 (n := 139) rfl) (rx_all_cons (rx_at1 (n := 122) rfl) (rx_all_cons (rx_at1 (n := 57) rfl) (rx_all_cons (rx_at1 (n := 50) rfl) (rx_all_cons (rx_at1 (n := 54) rfl) (rx_all_cons (rx_at1 (n := 127) rfl) (rx_all_cons (rx_at1 (n := 129) rfl) (rx_all_cons (rx_at1 (n := 134) rfl) (rx_all_cons (rx_at1 (n := 137) rfl) (rx_all_cons (rx_at1 (n := 166) rfl) (rx_all_cons (rx_at1 (n := 169) rfl) (rx_all_cons (rx_at1 (n := 172) rfl) (rx_all_cons (rx_at1 (n := 177) rfl) (rx_all_cons (rx_at1 (n := 47) rfl) (rx_all_cons (rx_at1 (n := 49) rfl) (rx_all_cons (rx_at1 (n := 53) rfl) (rx_all_cons (rx_at1 (n := 56) rfl) (rx_all_cons (rx_at1 (n := 193) rfl) (rx_all_cons (rx_at1 (n := 195) rfl) (rx_all_cons (rx_at2 (n := 15) rfl) (rx_all_cons (rx_at1 (n := 197) rfl) (rx_all_cons (rx_at1 (n := 200) rfl) (rx_all_cons (rx_at1 (n := 188) rfl) (rx_all_cons (rx_at1 (n := 179) rfl) (rx_all_cons (rx_at1 (n := 181) rfl) (rx_all_cons (rx_at1 (n := 183) rfl) (rx_all_cons (rx_at1 (n := 185) rfl) (rx_all_cons (rx_at2 (n := 100) rfl) (rx_all_cons (rx_at2 (n := 102) rfl) (rx_all_cons (rx_at2 (n := 104) rfl) (rx_all_cons (rx_at2 (n := 106) rfl) (rx_all_cons (rx_at2 (n := 108) rfl) (rx_all_cons (rx_at2 (n := 110) rfl) (rx_all_cons (rx_at2 (n := 207) rfl) (rx_all_cons (rx_at2 (n := 209) rfl) (rx_all_cons (rx_at3 (n := 4) rfl) (rx_all_cons (rx_at3 (n := 6) rfl) (rx_all_cons (rx_at1 (n := 191) rfl) (rx_all_cons (rx_at1 (n := 76) rfl) (rx_all_cons (rx_at3 (n := 127) rfl) (rx_all_cons (rx_at5 (n := 8) rfl) (rx_all_cons (rx_at5 (n := 120) rfl) (rx_all_nil))))))))))))))))))))))))))))))))))))))))))))))))))))))))
theorem rxNW_ok : ∀ w ∈ rxNW, w.onTables = true ∧ ∀ (s U : State), s.WarmedH U.vm → va_Nw w s → va_Nw w U := rx_all_cons (⟨rfl, fun _ _ => va_Nw.warmF⟩) (rx_all_cons (⟨rfl, fun _ _ => va_Nw.warmF⟩) (rx_all_cons (⟨rfl, fun _ _ => va_Nw.warmF⟩) (rx_all_cons (⟨rfl, fun _ _ => va_Nw.warmF⟩) (rx_all_cons (⟨rfl, fun _ _ => va_Nw.warmF⟩) (rx_all_cons (⟨rfl, fun _ _ => va_Nw.warmF⟩) (rx_all_cons (⟨rfl, fun _ _ => va_Nw.warmF⟩) (rx_all_cons (⟨rfl, fun _ _ => va_Nw.warmF⟩) (rx_all_cons (⟨rfl, fun _ _ => va_Nw.warmF⟩) (rx_all_cons (⟨rfl, fun _ _ => va_Nw.warmF⟩) (rx_all_cons (⟨rfl, fun _ _ => va_Nw.warmF⟩) (rx_all_cons (⟨rfl, fun _ _ => va_Nw.warmF⟩) (rx_all_cons (⟨rfl, fun _ _ => va_Nw.warmF⟩) (rx_all_cons (⟨rfl, fun _ _ => va_Nw.warmF⟩) (rx_all_cons (⟨rfl, fun _ _ => va_Nw.warmF⟩) (rx_all_cons (⟨rfl, fun _ _ => va_Nw.warmF⟩) (rx_all_cons (⟨rfl, fun _ _ => va_Nw.warmF⟩) (rx_all_cons (⟨rfl, fun _ _ => va_Nw.warmF⟩) (rx_all_cons (⟨rfl, fun _ _ => va_Nw.warmF⟩) (rx_all_cons (⟨rfl, fun _ _ => va_Nw.warmF⟩) (rx_all_cons (⟨rfl, fun _ _ => va_Nw.warmF⟩) (rx_all_cons (⟨rfl, fun _ _ => va_Nw.warmF⟩) (rx_all_cons (⟨rfl, fun _ _ => va_Nw.warmF⟩) (rx_all_cons (⟨rfl, fun _ _ => va_Nw.warmF⟩) (rx_all_cons (⟨rfl, fun _ _ => va_Nw.warmF⟩) (rx_all_cons (⟨rfl, fun _ _ => va_Nw.warmF⟩) (rx_all_cons (⟨rfl, fun _ _ => va_Nw.warmF⟩) (rx_all_cons (⟨rfl, fun _ _ => va_Nw.warmF⟩) (rx_all_cons (⟨rfl, fun _ _ => va_Nw.warmF⟩) (rx_all_cons (⟨rfl, fun _ _ => va_Nw.warmF⟩) (rx_all_cons (⟨rfl, fun _ _ => va_Nw.warmF⟩) (rx_all_cons (⟨rfl, fun _ _ => va_Nw.warmF⟩) (rx_all_cons (⟨rfl, fun _ _ => va_Nw.warmF⟩) (rx_all_cons (⟨rfl, fun _ _ => va_Nw.warmF⟩) (rx_all_cons (⟨rfl, fun _ _ => va_Nw.warmF⟩) (rx_all_cons (⟨rfl, fun _ _ => va_Nw.warmF⟩) (rx_all_cons (⟨rfl, fun _ _ => va_Nw.warmF⟩) (rx_all_cons (⟨rfl, fun _ _ => va_Nw.warmF⟩) (rx_all_cons (⟨rfl, fun _ _ => va_Nw.warmF⟩) (rx_all_cons (⟨rfl, fun _ _ => va_Nw.warmF⟩) (rx_all_cons (⟨rfl, fun _ _ => va_Nw.warmF⟩) (rx_all_cons (⟨rfl, fun _ _ => va_Nw.warmF⟩) (rx_all_cons (⟨rfl, fun _ _ => va_Nw.warmF⟩) (rx_all_cons (⟨rfl, fun _ _ => va_Nw.warmF⟩) (rx_all_cons (⟨rfl, fun _ _ => va_Nw.warmF⟩) (rx_all_cons (⟨rfl, fun _ _ => va_Nw.warmF⟩) (rx_all_cons (⟨rfl, fun _ _ => va_Nw.warmF⟩) (rx_all_cons (⟨rfl, fun _ _ => va_Nw.warmF⟩) (rx_all_cons (⟨rfl, fun _ _ => va_Nw.warmF⟩) (rx_all_cons (⟨rfl, fun _ _ => va_Nw.warmF⟩) (rx_all_cons (⟨rfl, fun _ _ => va_Nw.warmF⟩) (rx_all_cons (⟨rfl, fun _ _ => va_Nw.warmF⟩) (rx_all_cons (⟨rfl, fun _ _ => va_Nw.warmF⟩) (rx_all_cons (⟨rfl, fun _ _ => va_Nw.warmM⟩) (rx_all_cons (⟨rfl, fun _ _ => va_Nw.warmM⟩) (rx_all_cons (⟨rfl, fun _ _ => va_Nw.warmM⟩) (rx_all_nil))))))))))))))))))))))))))))))))))))))))))))))))))))))))
theorem rxAO_in : ∀ C ∈ rxAO, Jvm.Cond.arrayOver (.object C) ∈ lw_tbl := rx_all_cons (rx_at1 (n := 37) rfl) (rx_all_cons (rx_at1 (n := 96) rfl) (rx_all_cons (rx_at2 (n := 1) rfl) (rx_all_nil)))
end
section
set_option maxHeartbeats 1000000 in
theorem rzQ211 {PX : State → Prop} {Dg : va_G} {A : Nat → Prop} {ad : Nat → Nat} {l : Launch} (hPX : rx_PXOK rxNW A PX) (hsl : ∀ s : State, PX s → ∀ o idx n : Nat, rxSl o idx = some n → ∃ tx : String, vk_R (rxNm o) idx tx (ad n) s) : bx_ConP rxG rxNW rxAO PX Dg rxL rxX vwCl A ad l rxM211 rxC211 (fun _ _ => True) rxPS211 := by
  have q211 := rxQ211 (PX := PX) (Dg := Dg) (A := A) (ad := ad) (xa := fun n => n) (l := l) (X := (fun _ => True)) hPX hsl (fun _ _ h _ => h) (fun _ _ _ h => absurd h List.not_mem_nil)
  exact rx_conX q211 (fun _ _ _ => trivial) (fun S0 ws S w h hm hp => rxX211 h hm hp)
theorem rx_conW {PX : State → Prop} {Dg : va_G} {A : Nat → Prop} {ad : Nat → Nat} {l : Launch} {X : (Nat → Int → Int) → Prop} {M : rx_Mt} {ct : bx_Ct} {P : (Nat → Int → Int) → List Int → Prop} {PS PS_p : (Nat → Int → Int) → List Int → (Nat → Int → Int) → Option Int → Prop} (h : bx_ConP rxG rxNW rxAO PX Dg rxL X vwCl A ad l M ct P PS) (hw : ∀ S0 ws S w, PS S0 ws S w → PS_p S0 ws S w) : bx_ConP rxG rxNW rxAO PX Dg rxL X vwCl A ad l M ct P PS_p := by
  intro S0 ws hX0 hvs hpr hp Qc hQc
  refine h S0 ws hX0 hvs hpr hp Qc fun x st oc t hq => hQc x st oc t ?_
  obtain ⟨⟨S_p, rv, g1, g2, g3, g4, gX, w, g5, g6⟩, g7⟩ := hq
  exact ⟨⟨S_p, rv, g1, g2, g3, g4, gX, w, hw _ _ _ _ g5, g6⟩, g7⟩
end
