section
noncomputable def rxICNF_0 (S0 : Nat → Int → Int) (ws : List Int) (S : Nat → Int → Int) (se pa n : Int) : Prop := S = S0 ∧ ws = [0, se, pa, n]
noncomputable def rxmCNF_0 (S0 : Nat → Int → Int) (ws : List Int) (S : Nat → Int → Int) (se pa n : Int) : Nat := 100
noncomputable def rxzCNF_0 : rx_Z := ([(0, 0), (0, 0), (0, 0), (0, 0), (0, 0), (0, 0), (0, 0), (0, 0), ((-2147483648), 2147483647), ((-2147483648), 2147483647), ((-2147483648), 2147483647)], [], [], 0, 0, 0, [(0, .inr (3, (0, 0))), (1, .inr (0, (8, 0))), (2, .inr (0, (9, 0))), (3, .inr (0, (10, 0)))], [])
noncomputable def rxICNF_1 (S0 : Nat → Int → Int) (ws : List Int) (S : Nat → Int → Int) (se pa n : Int) : Prop := rjdSm S0 S
noncomputable def rxmCNF_1 (S0 : Nat → Int → Int) (ws : List Int) (S : Nat → Int → Int) (se pa n : Int) : Nat := 90
noncomputable def rxzCNF_1 : rx_Z := ([(0, 0), (0, 0), (0, 0), (0, 0), (0, 0), (0, 0), (0, 0), (0, 0), (0, 1000000), (0, 5), (0, 100)], [], [], 0, 0, 49, [(0, .inr (3, (0, 0))), (1, .inr (0, (8, 0))), (2, .inr (0, (9, 0))), (3, .inr (0, (10, 0)))], [.inr (0, (10, 0)), .inr (0, (9, 0)), .inr (0, (8, 0)), .inr (3, (0, 0))])
noncomputable def rxICNF_2 (S0 : Nat → Int → Int) (ws : List Int) (S : Nat → Int → Int) (se pa n : Int) : Prop := rjdSm S0 S
noncomputable def rxmCNF_2 (S0 : Nat → Int → Int) (ws : List Int) (S : Nat → Int → Int) (se pa n : Int) : Nat := 80
noncomputable def rxzCNF_2 : rx_Z := ([(0, 0), (0, 0), (0, 0), (0, 0), (0, 0), (0, 0), (0, 0), (0, 0), (0, 1000000), (0, 5), (0, 100)], [], [], 0, 0, 52, [(0, .inr (3, (0, 0))), (1, .inr (0, (8, 0))), (2, .inr (0, (9, 0))), (3, .inr (0, (10, 0)))], [])
noncomputable def rxoCNF_0_0 : bx_HO := (([(0, 0), (0, 0), (0, 0), (0, 0), (0, 0), (0, 0), (0, 0), (0, 0), (0, 1000000), (0, 5), (0, 100), (1, 6)], [(0, (9, 0), (11, 0))], [(((0, 0), 1851192626986356797424340330377019318111018015026043177553952768000000), .inr (0, (11, 0))), (((0, 1), 0), .inr (0, (11, 0))), (((0, 0), 0), .inr (3, (0, 1)))], 0, 0, 49, [(0, .inr (3, (0, 0))), (1, .inr (0, (8, 0))), (2, .inr (0, (9, 0))), (3, .inr (0, (10, 0)))], [.inr (0, (10, 0)), .inr (0, (9, 0)), .inr (0, (8, 0)), .inr (3, (0, 0))]), [], [], [(0, 0), (0, 0), (0, 0), (0, 0), (0, 0), (0, 0), (0, 0), (0, 0), (8, 0), (9, 0), (10, 0)], 1)
noncomputable def rxeCNF_0_0 : rx_End × List (Nat × Int × Int) := (([(0, 0), (0, 0), (0, 0), (0, 0), (0, 0), (0, 0), (0, 0), (0, 0), (0, 1000000), ((-2147483648), 2147483647), (101, 2147483647), ((-6), (-1))], [], [(((0, 0), 9900078000000), .inl none), (((0, 0), 933300006000000), .inl none), (((0, 0), 89999100006000000), .inl none)], some (.inr (0, (11, 0)))), [])
noncomputable def rxeCNF_0_1 : rx_End × List (Nat × Int × Int) := (([(0, 0), (0, 0), (0, 0), (0, 0), (0, 0), (0, 0), (0, 0), (0, 0), (0, 1000000), ((-2147483648), (-1)), (0, 100), ((-6), (-1))], [], [(((0, 0), 9900078000000), .inl none), (((0, 0), 933300006000000), .inl none), (((0, 0), 89999100006000000), .inl none), (((0, 0), 0), .inr (3, (0, 1)))], some (.inr (0, (11, 0)))), [])
noncomputable def rxeCNF_0_2 : rx_End × List (Nat × Int × Int) := (([(0, 0), (0, 0), (0, 0), (0, 0), (0, 0), (0, 0), (0, 0), (0, 0), (0, 1000000), (0, 2147483647), (0, 100), (0, 6), ((-6), (-1))], [(1, (11, 0), (9, 0))], [(((0, 0), 9900078000000), .inl none), (((0, 0), 933300006000000), .inl none), (((0, 0), 89999100006000000), .inl none), (((0, 0), 1851192626986356797424340330377019318111018015026043177553952768000000), .inr (0, (11, 0))), (((0, 1), 0), .inr (0, (11, 0))), (((0, 0), 0), .inr (3, (0, 1)))], some (.inr (0, (12, 0)))), [])
noncomputable def rxeCNF_0_3 : rx_End × List (Nat × Int × Int) := (([(0, 0), (0, 0), (0, 0), (0, 0), (0, 0), (0, 0), (0, 0), (0, 0), (0, 1000000), ((-2147483648), 2147483647), ((-2147483648), (-1)), ((-6), (-1))], [], [(((0, 0), 9900078000000), .inl none), (((0, 0), 933300006000000), .inl none), (((0, 0), 89999100006000000), .inl none)], some (.inr (0, (11, 0)))), [])
noncomputable def rxeCNF_0_4 : rx_End × List (Nat × Int × Int) := (([(0, 0), (0, 0), (0, 0), (0, 0), (0, 0), (0, 0), (0, 0), (0, 0), (1000001, 2147483647), ((-2147483648), 2147483647), ((-2147483648), 2147483647), ((-6), (-1))], [], [(((0, 0), 9900078000000), .inl none), (((0, 0), 933300006000000), .inl none), (((0, 0), 89999100006000000), .inl none)], some (.inr (0, (11, 0)))), [])
noncomputable def rxeCNF_0_5 : rx_End × List (Nat × Int × Int) := (([(0, 0), (0, 0), (0, 0), (0, 0), (0, 0), (0, 0), (0, 0), (0, 0), ((-2147483648), (-1)), ((-2147483648), 2147483647), ((-2147483648), 2147483647), ((-6), (-1))], [], [(((0, 0), 9900078000000), .inl none), (((0, 0), 933300006000000), .inl none), (((0, 0), 89999100006000000), .inl none)], some (.inr (0, (11, 0)))), [])
noncomputable def rxeCNF_2_0 : rx_End × List (Nat × Int × Int) := (([(0, 0), (0, 0), (0, 0), (0, 0), (0, 0), (0, 0), (0, 0), (0, 0), (0, 1000000), (0, 5), (0, 100), (0, 1522), ((-2147483648), 2147483647)], [], [(((0, 0), 1851192626986356799029993984671224184301589730656725205983952899000000), .inr (0, (0, 0))), (((0, 0), 8), .inr (0, (0, 0))), (((0, 0), 89999100006000000), .inl none), (((0, 0), 1851192626986356797424367893248739914126558548369245150780850176000000), .inr (3, (11, 0))), (((11, 0), 1000010), .inl none), (((0, 1), 3), .inr (3, (0, 4))), (((0, 0), 0), .inr (3, (0, 1))), (((0, 0), 17), .inr (3, (0, 476)))], some (.inr (0, (12, 0)))), [])
noncomputable def rxYCNF : List bx_HE := [(rxzCNF_0, [rxoCNF_0_0], [rxeCNF_0_0, rxeCNF_0_1, rxeCNF_0_2, rxeCNF_0_3, rxeCNF_0_4, rxeCNF_0_5]), (rxzCNF_1, [], []), (rxzCNF_2, [], [rxeCNF_2_0])]
noncomputable def rxUCNF (q : bx_HE) : Bool := Nat.beq (rx_zpc q.1) 49
noncomputable def rxYBCNF : bx_B := (rxV, rxNP, rxDmf, bx_mdH rxC204.2.2.1)
set_option maxRecDepth 100000 in
theorem rxYcCNF : bx_chkH rxYBCNF rxM204 rxC204 rxYCNF (rxUCNF, fun cut z => rx_ex2 (rxCT rxYBCNF rxCn) cut 30000 rxC204.2.2.2.1 204 z) = true := by decide +kernel
noncomputable def rxICNF (S0 : Nat → Int → Int) (ws : List Int) (i : Nat) : bx_SP := fun S r => match i with | 0 => rxICNF_0 S0 ws S (r 8) (r 9) (r 10) | 1 => rxICNF_1 S0 ws S (r 8) (r 9) (r 10) | 2 => rxICNF_2 S0 ws S (r 8) (r 9) (r 10) | _ => False
noncomputable def rxmCNF (S0 : Nat → Int → Int) (ws : List Int) (i : Nat) (S : Nat → Int → Int) (r : Nat → Int) : Nat := match i with | 0 => rxmCNF_0 S0 ws S (r 8) (r 9) (r 10) | 1 => rxmCNF_1 S0 ws S (r 8) (r 9) (r 10) | 2 => rxmCNF_2 S0 ws S (r 8) (r 9) (r 10) | _ => 0
noncomputable def rxPCNF (S0 : Nat → Int → Int) (ws : List Int) : Prop := rkPl S0 ∧ rkDu S0
noncomputable def rxPSCNF (S0 : Nat → Int → Int) (ws : List Int) (S : Nat → Int → Int) (w : Option Int) : Prop := rjdSm S0 S
theorem rxkCNF_1 {S0 : Nat → Int → Int} {ws : List Int} {S : Nat → Int → Int} {se pa n : Int} (hP : rxPCNF S0 ws) (hin : bx_same rxL (bx_mdl rxC204.2.2.1) S0 S) (I0 : bx_Inv rxL S) (hinv : rxICNF_1 S0 ws S se pa n) (l8 : 0 ≤ se) (u8 : se ≤ 1000000) (l9 : 0 ≤ pa) (u9 : pa ≤ 5) (l10 : 0 ≤ n) (u10 : n ≤ 100) : rxPRCF S [0, se, pa, n] ∧ ∀ (S_p : Nat → Int → Int), rxPSRCF S [0, se, pa, n] S_p none → bx_Inv rxL S_p → bx_same rxL (bx_mdl rxCRCF.2.2.1) S S_p → rxICNF_2 S0 ws S_p se pa n ∧ rxmCNF_2 S0 ws S_p se pa n < rxmCNF_1 S0 ws S se pa n := by
  have hf : rjdSm S0 S := hinv
  exact ⟨⟨rkPl_sm hin (by decide +kernel) hP.1, rkDu_sm hin (by decide +kernel) hP.2⟩, fun S_p hq _ hsm => ⟨rjdSm_t hf hq.2, by unfold rxmCNF_1 rxmCNF_2; omega⟩⟩
theorem rxsCNF_1 {X : (Nat → Int → Int) → Prop} {S0 : Nat → Int → Int} {ws : List Int} (hP : rxPCNF S0 ws) : rx_obK X S0 rxC204.2.2.1 rxCRCF.2.2.1 (rxICNF S0 ws) (rxmCNF S0 ws) 1 2 rxzCNF_1 rxzCNF_2 [.inr (3, (0, 0)), .inr (0, (8, 0)), .inr (0, (9, 0)), .inr (0, (10, 0))] none rxPRCF rxPSRCF := by
  intro S r hinv hXS I0 hin hs_ hf_
  have b_ := bx_bds_sat hs_
  have f_ := bx_fcl_ok hs_.1 hf_
  obtain ⟨⟨l8, u8⟩, ⟨l9, u9⟩, ⟨l10, u10⟩, -⟩ := b_
  have g := rxkCNF_1 hP hin I0 hinv l8 u8 l9 u9 l10 u10
  have ea : List.map (bx_num r) [.inr (3, (0, 0)), .inr (0, (8, 0)), .inr (0, (9, 0)), .inr (0, (10, 0))] = [0, (r 8), (r 9), (r 10)] := by
    simp only [List.map_cons, List.map_nil, bx_xv_ok hs_.1]
    rfl
  rw [ea]
  refine ⟨g.1, fun S_p w r_p hPS hX_p I1 hsm hr hw hs_p => ?_⟩
  have hw : w = none := hPS.1
  subst hw
  have g2 := g.2 S_p hPS I1 hsm
  show rxICNF_2 S0 ws S_p (r_p 8) (r_p 9) (r_p 10) ∧ rxmCNF_2 S0 ws S_p (r_p 8) (r_p 9) (r_p 10) < _
  rw [hr 8 (by decide), hr 9 (by decide), hr 10 (by decide)]
  exact g2
theorem rxcCNF_0_0 {S0 : Nat → Int → Int} {ws : List Int} {S : Nat → Int → Int} {se pa n x11 : Int} (hP : rxPCNF S0 ws) (hin : bx_same rxL (bx_mdl rxC204.2.2.1) S0 S) (I0 : bx_Inv rxL S) (hinv : rxICNF_0 S0 ws S se pa n) (l8 : 0 ≤ se) (u8 : se ≤ 1000000) (l9 : 0 ≤ pa) (u9 : pa ≤ 5) (l10 : 0 ≤ n) (u10 : n ≤ 100) (l11 : 1 ≤ x11) (u11 : x11 ≤ 6) (f0 : pa < x11) (e0 : S 1 0 = x11) : (True) ∧ (True) ∧ rxICNF_1 S0 ws S se pa n ∧ rxmCNF_1 S0 ws S se pa n < rxmCNF_0 S0 ws S se pa n := by
  obtain ⟨rfl, hw⟩ := hinv
  exact ⟨trivial, trivial, rjdSm_r, by unfold rxmCNF_0 rxmCNF_1; omega⟩
theorem rxgCNF_0_0 {X : (Nat → Int → Int) → Prop} {S0 : Nat → Int → Int} {ws : List Int} (hP : rxPCNF S0 ws) : bx_obC rxL X S0 rxC204.2.2.1 (rxICNF S0 ws) (rxmCNF S0 ws) 0 rxzCNF_0 rxoCNF_0_0 := by
  intro S S_p r r_p hinv hX hin hsm_ hseg
  obtain ⟨I0, I1, h0_, hr_, b_, f_, d_⟩ := bx_cl (evs := [(0, (0, 1), (0, 0), .inr (0, (11, 0)))]) (fvs := [(0, (9, 0), (11, 0), (0, 0))]) hseg (by decide +kernel) (by decide +kernel)
  have hinv : rxICNF_0 S0 ws S (r 8) (r 9) (r 10) := hinv
  rw [← hr_ 8 (by decide), ← hr_ 9 (by decide), ← hr_ 10 (by decide)] at hinv
  obtain ⟨⟨l8, u8⟩, ⟨l9, u9⟩, ⟨l10, u10⟩, ⟨l11, u11⟩, -⟩ := b_
  obtain ⟨f0, -⟩ := f_
  obtain ⟨e0, w_⟩ := d_
  subst w_
  have g := rxcCNF_0_0 hP hin I0 hinv l8 u8 l9 u9 l10 u10 l11 u11 f0 e0
  refine ⟨bx_narP_ok (l := []) g.1, bx_nfP_ok h0_ (fvs := []) (by decide +kernel) g.2.1, ?_, ?_⟩
  · show rxICNF_1 S0 ws S_p (bx_val [(0, 0), (0, 0), (0, 0), (0, 0), (0, 0), (0, 0), (0, 0), (0, 0), (8, 0), (9, 0), (10, 0)] r_p 8) (bx_val [(0, 0), (0, 0), (0, 0), (0, 0), (0, 0), (0, 0), (0, 0), (0, 0), (8, 0), (9, 0), (10, 0)] r_p 9) (bx_val [(0, 0), (0, 0), (0, 0), (0, 0), (0, 0), (0, 0), (0, 0), (0, 0), (8, 0), (9, 0), (10, 0)] r_p 10)
    rw [bx_val_x (n := 8) (e := (8, 0)) h0_ rfl, bx_val_x (n := 9) (e := (9, 0)) h0_ rfl, bx_val_x (n := 10) (e := (10, 0)) h0_ rfl]
    exact g.2.2.1
  · show rxmCNF_1 S0 ws S_p (bx_val [(0, 0), (0, 0), (0, 0), (0, 0), (0, 0), (0, 0), (0, 0), (0, 0), (8, 0), (9, 0), (10, 0)] r_p 8) (bx_val [(0, 0), (0, 0), (0, 0), (0, 0), (0, 0), (0, 0), (0, 0), (0, 0), (8, 0), (9, 0), (10, 0)] r_p 9) (bx_val [(0, 0), (0, 0), (0, 0), (0, 0), (0, 0), (0, 0), (0, 0), (0, 0), (8, 0), (9, 0), (10, 0)] r_p 10) < rxmCNF_0 S0 ws S_p (r 8) (r 9) (r 10)
    rw [bx_val_x (n := 8) (e := (8, 0)) h0_ rfl, bx_val_x (n := 9) (e := (9, 0)) h0_ rfl, bx_val_x (n := 10) (e := (10, 0)) h0_ rfl, ← hr_ 8 (by decide), ← hr_ 9 (by decide), ← hr_ 10 (by decide)]
    exact g.2.2.2
theorem rxdCNF_0_0 {S0 : Nat → Int → Int} {ws : List Int} {S T2 T1 T0 : Nat → Int → Int} {se pa n x11 : Int} (hP : rxPCNF S0 ws) (hin : bx_same rxL (bx_mdl rxC204.2.2.1) S0 S) (hin2 : bx_same rxL (bx_mdl rxC204.2.2.1) S T0) (I0 : bx_Inv rxL S) (I1 : bx_Inv rxL T0) (hinv : rxICNF_0 S0 ws S se pa n) (l8 : 0 ≤ se) (u8 : se ≤ 1000000) (l9 : (-2147483648) ≤ pa) (u9 : pa ≤ 2147483647) (l10 : 101 ≤ n) (u10 : n ≤ 2147483647) (l11 : (-6) ≤ x11) (u11 : x11 ≤ (-1)) (v2 : ∀ (p i : Nat), p < rxL.2.1 → i < bx_wd (rxL.1 p) → bx_mc (rxL.1 p) i ≠ (99999, 0) → T2 p (i : Int) = S p (i : Int)) (v1 : ∀ (p i : Nat), p < rxL.2.1 → i < bx_wd (rxL.1 p) → bx_mc (rxL.1 p) i ≠ (1037, 0) → T1 p (i : Int) = T2 p (i : Int)) (v0 : ∀ (p i : Nat), p < rxL.2.1 → i < bx_wd (rxL.1 p) → bx_mc (rxL.1 p) i ≠ (11, 8) → T0 p (i : Int) = T1 p (i : Int)) : (True) ∧ rxPSCNF S0 ws T0 (some x11) := by
  obtain ⟨rfl, hw⟩ := hinv
  exact ⟨trivial, (rjdSm_t (rjdSm_t (rjdSm_v v2 (by decide) (by decide)) (rjdSm_v v1 (by decide) (by decide))) (rjdSm_v v0 (by decide) (by decide)))⟩
theorem rxfCNF_0_0 {X : (Nat → Int → Int) → Prop} {S0 : Nat → Int → Int} {ws : List Int} (hP : rxPCNF S0 ws) : bx_obE rxL X S0 rxC204.2.2.1 (rxICNF S0 ws) (rxPSCNF S0 ws) 0 rxzCNF_0 rxeCNF_0_0 := by
  intro S S_p r r_p hinv hX hin hsm_ hseg
  obtain ⟨I0, I1, h0_, hr_, b_, f_, d_⟩ := bx_cl (evs := [(2, (11, 0), (8, 0), .inl none), (2, (1037, 0), (0, 0), .inl none), (2, (99999, 0), (0, 0), .inl none)]) (fvs := []) hseg (by decide +kernel) (by decide +kernel)
  have hinv : rxICNF_0 S0 ws S (r 8) (r 9) (r 10) := hinv
  rw [← hr_ 8 (by decide), ← hr_ 9 (by decide), ← hr_ 10 (by decide)] at hinv
  obtain ⟨⟨l8, u8⟩, ⟨l9, u9⟩, ⟨l10, u10⟩, ⟨l11, u11⟩, -⟩ := b_
  obtain ⟨T0, ⟨T1, ⟨T2, w_, v2⟩, v1⟩, v0⟩ := d_
  subst w_
  have g := rxdCNF_0_0 hP hin hsm_ I0 I1 hinv l8 u8 l9 u9 l10 u10 l11 u11 v2 v1 v0
  refine ⟨bx_narP_ok (l := []) g.1, ?_⟩
  show rxPSCNF S0 ws S_p (some (bx_num r_p (.inr (0, (11, 0)))))
  rw [bx_xv_ok h0_]
  exact g.2
theorem rxdCNF_0_1 {S0 : Nat → Int → Int} {ws : List Int} {S T2 T1 T0 : Nat → Int → Int} {se pa n x11 : Int} (hP : rxPCNF S0 ws) (hin : bx_same rxL (bx_mdl rxC204.2.2.1) S0 S) (hin2 : bx_same rxL (bx_mdl rxC204.2.2.1) S T0) (I0 : bx_Inv rxL S) (I1 : bx_Inv rxL T0) (hinv : rxICNF_0 S0 ws S se pa n) (l8 : 0 ≤ se) (u8 : se ≤ 1000000) (l9 : (-2147483648) ≤ pa) (u9 : pa ≤ (-1)) (l10 : 0 ≤ n) (u10 : n ≤ 100) (l11 : (-6) ≤ x11) (u11 : x11 ≤ (-1)) (v2 : ∀ (p i : Nat), p < rxL.2.1 → i < bx_wd (rxL.1 p) → bx_mc (rxL.1 p) i ≠ (99999, 0) → T2 p (i : Int) = S p (i : Int)) (v1 : ∀ (p i : Nat), p < rxL.2.1 → i < bx_wd (rxL.1 p) → bx_mc (rxL.1 p) i ≠ (1037, 0) → T1 p (i : Int) = T2 p (i : Int)) (v0 : ∀ (p i : Nat), p < rxL.2.1 → i < bx_wd (rxL.1 p) → bx_mc (rxL.1 p) i ≠ (11, 8) → T0 p (i : Int) = T1 p (i : Int)) : (True) ∧ rxPSCNF S0 ws T0 (some x11) := by
  obtain ⟨rfl, hw⟩ := hinv
  exact ⟨trivial, (rjdSm_t (rjdSm_t (rjdSm_v v2 (by decide) (by decide)) (rjdSm_v v1 (by decide) (by decide))) (rjdSm_v v0 (by decide) (by decide)))⟩
theorem rxfCNF_0_1 {X : (Nat → Int → Int) → Prop} {S0 : Nat → Int → Int} {ws : List Int} (hP : rxPCNF S0 ws) : bx_obE rxL X S0 rxC204.2.2.1 (rxICNF S0 ws) (rxPSCNF S0 ws) 0 rxzCNF_0 rxeCNF_0_1 := by
  intro S S_p r r_p hinv hX hin hsm_ hseg
  obtain ⟨I0, I1, h0_, hr_, b_, f_, d_⟩ := bx_cl (evs := [(2, (11, 0), (8, 0), .inl none), (2, (1037, 0), (0, 0), .inl none), (2, (99999, 0), (0, 0), .inl none)]) (fvs := []) hseg (by decide +kernel) (by decide +kernel)
  have hinv : rxICNF_0 S0 ws S (r 8) (r 9) (r 10) := hinv
  rw [← hr_ 8 (by decide), ← hr_ 9 (by decide), ← hr_ 10 (by decide)] at hinv
  obtain ⟨⟨l8, u8⟩, ⟨l9, u9⟩, ⟨l10, u10⟩, ⟨l11, u11⟩, -⟩ := b_
  obtain ⟨T0, ⟨T1, ⟨T2, w_, v2⟩, v1⟩, v0⟩ := d_
  subst w_
  have g := rxdCNF_0_1 hP hin hsm_ I0 I1 hinv l8 u8 l9 u9 l10 u10 l11 u11 v2 v1 v0
  refine ⟨bx_narP_ok (l := []) g.1, ?_⟩
  show rxPSCNF S0 ws S_p (some (bx_num r_p (.inr (0, (11, 0)))))
  rw [bx_xv_ok h0_]
  exact g.2
theorem rxdCNF_0_2 {S0 : Nat → Int → Int} {ws : List Int} {S T2 T1 T0 : Nat → Int → Int} {se pa n x11 x12 : Int} (hP : rxPCNF S0 ws) (hin : bx_same rxL (bx_mdl rxC204.2.2.1) S0 S) (hin2 : bx_same rxL (bx_mdl rxC204.2.2.1) S T0) (I0 : bx_Inv rxL S) (I1 : bx_Inv rxL T0) (hinv : rxICNF_0 S0 ws S se pa n) (l8 : 0 ≤ se) (u8 : se ≤ 1000000) (l9 : 0 ≤ pa) (u9 : pa ≤ 2147483647) (l10 : 0 ≤ n) (u10 : n ≤ 100) (l11 : 0 ≤ x11) (u11 : x11 ≤ 6) (l12 : (-6) ≤ x12) (u12 : x12 ≤ (-1)) (f0 : x11 ≤ pa) (e3 : S 1 0 = x11) (v2 : ∀ (p i : Nat), p < rxL.2.1 → i < bx_wd (rxL.1 p) → bx_mc (rxL.1 p) i ≠ (99999, 0) → T2 p (i : Int) = S p (i : Int)) (v1 : ∀ (p i : Nat), p < rxL.2.1 → i < bx_wd (rxL.1 p) → bx_mc (rxL.1 p) i ≠ (1037, 0) → T1 p (i : Int) = T2 p (i : Int)) (v0 : ∀ (p i : Nat), p < rxL.2.1 → i < bx_wd (rxL.1 p) → bx_mc (rxL.1 p) i ≠ (11, 8) → T0 p (i : Int) = T1 p (i : Int)) : (True) ∧ rxPSCNF S0 ws T0 (some x12) := by
  obtain ⟨rfl, hw⟩ := hinv
  exact ⟨trivial, (rjdSm_t (rjdSm_t (rjdSm_v v2 (by decide) (by decide)) (rjdSm_v v1 (by decide) (by decide))) (rjdSm_v v0 (by decide) (by decide)))⟩
theorem rxfCNF_0_2 {X : (Nat → Int → Int) → Prop} {S0 : Nat → Int → Int} {ws : List Int} (hP : rxPCNF S0 ws) : bx_obE rxL X S0 rxC204.2.2.1 (rxICNF S0 ws) (rxPSCNF S0 ws) 0 rxzCNF_0 rxeCNF_0_2 := by
  intro S S_p r r_p hinv hX hin hsm_ hseg
  obtain ⟨I0, I1, h0_, hr_, b_, f_, d_⟩ := bx_cl (evs := [(2, (11, 0), (8, 0), .inl none), (2, (1037, 0), (0, 0), .inl none), (2, (99999, 0), (0, 0), .inl none), (0, (0, 1), (0, 0), .inr (0, (11, 0)))]) (fvs := [(1, (11, 0), (9, 0), (0, 0))]) hseg (by decide +kernel) (by decide +kernel)
  have hinv : rxICNF_0 S0 ws S (r 8) (r 9) (r 10) := hinv
  rw [← hr_ 8 (by decide), ← hr_ 9 (by decide), ← hr_ 10 (by decide)] at hinv
  obtain ⟨⟨l8, u8⟩, ⟨l9, u9⟩, ⟨l10, u10⟩, ⟨l11, u11⟩, ⟨l12, u12⟩, -⟩ := b_
  obtain ⟨f0, -⟩ := f_
  obtain ⟨T0, ⟨T1, ⟨T2, ⟨e3, w_⟩, v2⟩, v1⟩, v0⟩ := d_
  subst w_
  have g := rxdCNF_0_2 hP hin hsm_ I0 I1 hinv l8 u8 l9 u9 l10 u10 l11 u11 l12 u12 f0 e3 v2 v1 v0
  refine ⟨bx_narP_ok (l := []) g.1, ?_⟩
  show rxPSCNF S0 ws S_p (some (bx_num r_p (.inr (0, (12, 0)))))
  rw [bx_xv_ok h0_]
  exact g.2
theorem rxdCNF_0_3 {S0 : Nat → Int → Int} {ws : List Int} {S T2 T1 T0 : Nat → Int → Int} {se pa n x11 : Int} (hP : rxPCNF S0 ws) (hin : bx_same rxL (bx_mdl rxC204.2.2.1) S0 S) (hin2 : bx_same rxL (bx_mdl rxC204.2.2.1) S T0) (I0 : bx_Inv rxL S) (I1 : bx_Inv rxL T0) (hinv : rxICNF_0 S0 ws S se pa n) (l8 : 0 ≤ se) (u8 : se ≤ 1000000) (l9 : (-2147483648) ≤ pa) (u9 : pa ≤ 2147483647) (l10 : (-2147483648) ≤ n) (u10 : n ≤ (-1)) (l11 : (-6) ≤ x11) (u11 : x11 ≤ (-1)) (v2 : ∀ (p i : Nat), p < rxL.2.1 → i < bx_wd (rxL.1 p) → bx_mc (rxL.1 p) i ≠ (99999, 0) → T2 p (i : Int) = S p (i : Int)) (v1 : ∀ (p i : Nat), p < rxL.2.1 → i < bx_wd (rxL.1 p) → bx_mc (rxL.1 p) i ≠ (1037, 0) → T1 p (i : Int) = T2 p (i : Int)) (v0 : ∀ (p i : Nat), p < rxL.2.1 → i < bx_wd (rxL.1 p) → bx_mc (rxL.1 p) i ≠ (11, 8) → T0 p (i : Int) = T1 p (i : Int)) : (True) ∧ rxPSCNF S0 ws T0 (some x11) := by
  obtain ⟨rfl, hw⟩ := hinv
  exact ⟨trivial, (rjdSm_t (rjdSm_t (rjdSm_v v2 (by decide) (by decide)) (rjdSm_v v1 (by decide) (by decide))) (rjdSm_v v0 (by decide) (by decide)))⟩
theorem rxfCNF_0_3 {X : (Nat → Int → Int) → Prop} {S0 : Nat → Int → Int} {ws : List Int} (hP : rxPCNF S0 ws) : bx_obE rxL X S0 rxC204.2.2.1 (rxICNF S0 ws) (rxPSCNF S0 ws) 0 rxzCNF_0 rxeCNF_0_3 := by
  intro S S_p r r_p hinv hX hin hsm_ hseg
  obtain ⟨I0, I1, h0_, hr_, b_, f_, d_⟩ := bx_cl (evs := [(2, (11, 0), (8, 0), .inl none), (2, (1037, 0), (0, 0), .inl none), (2, (99999, 0), (0, 0), .inl none)]) (fvs := []) hseg (by decide +kernel) (by decide +kernel)
  have hinv : rxICNF_0 S0 ws S (r 8) (r 9) (r 10) := hinv
  rw [← hr_ 8 (by decide), ← hr_ 9 (by decide), ← hr_ 10 (by decide)] at hinv
  obtain ⟨⟨l8, u8⟩, ⟨l9, u9⟩, ⟨l10, u10⟩, ⟨l11, u11⟩, -⟩ := b_
  obtain ⟨T0, ⟨T1, ⟨T2, w_, v2⟩, v1⟩, v0⟩ := d_
  subst w_
  have g := rxdCNF_0_3 hP hin hsm_ I0 I1 hinv l8 u8 l9 u9 l10 u10 l11 u11 v2 v1 v0
  refine ⟨bx_narP_ok (l := []) g.1, ?_⟩
  show rxPSCNF S0 ws S_p (some (bx_num r_p (.inr (0, (11, 0)))))
  rw [bx_xv_ok h0_]
  exact g.2
theorem rxdCNF_0_4 {S0 : Nat → Int → Int} {ws : List Int} {S T2 T1 T0 : Nat → Int → Int} {se pa n x11 : Int} (hP : rxPCNF S0 ws) (hin : bx_same rxL (bx_mdl rxC204.2.2.1) S0 S) (hin2 : bx_same rxL (bx_mdl rxC204.2.2.1) S T0) (I0 : bx_Inv rxL S) (I1 : bx_Inv rxL T0) (hinv : rxICNF_0 S0 ws S se pa n) (l8 : 1000001 ≤ se) (u8 : se ≤ 2147483647) (l9 : (-2147483648) ≤ pa) (u9 : pa ≤ 2147483647) (l10 : (-2147483648) ≤ n) (u10 : n ≤ 2147483647) (l11 : (-6) ≤ x11) (u11 : x11 ≤ (-1)) (v2 : ∀ (p i : Nat), p < rxL.2.1 → i < bx_wd (rxL.1 p) → bx_mc (rxL.1 p) i ≠ (99999, 0) → T2 p (i : Int) = S p (i : Int)) (v1 : ∀ (p i : Nat), p < rxL.2.1 → i < bx_wd (rxL.1 p) → bx_mc (rxL.1 p) i ≠ (1037, 0) → T1 p (i : Int) = T2 p (i : Int)) (v0 : ∀ (p i : Nat), p < rxL.2.1 → i < bx_wd (rxL.1 p) → bx_mc (rxL.1 p) i ≠ (11, 8) → T0 p (i : Int) = T1 p (i : Int)) : (True) ∧ rxPSCNF S0 ws T0 (some x11) := by
  obtain ⟨rfl, hw⟩ := hinv
  exact ⟨trivial, (rjdSm_t (rjdSm_t (rjdSm_v v2 (by decide) (by decide)) (rjdSm_v v1 (by decide) (by decide))) (rjdSm_v v0 (by decide) (by decide)))⟩
theorem rxfCNF_0_4 {X : (Nat → Int → Int) → Prop} {S0 : Nat → Int → Int} {ws : List Int} (hP : rxPCNF S0 ws) : bx_obE rxL X S0 rxC204.2.2.1 (rxICNF S0 ws) (rxPSCNF S0 ws) 0 rxzCNF_0 rxeCNF_0_4 := by
  intro S S_p r r_p hinv hX hin hsm_ hseg
  obtain ⟨I0, I1, h0_, hr_, b_, f_, d_⟩ := bx_cl (evs := [(2, (11, 0), (8, 0), .inl none), (2, (1037, 0), (0, 0), .inl none), (2, (99999, 0), (0, 0), .inl none)]) (fvs := []) hseg (by decide +kernel) (by decide +kernel)
  have hinv : rxICNF_0 S0 ws S (r 8) (r 9) (r 10) := hinv
  rw [← hr_ 8 (by decide), ← hr_ 9 (by decide), ← hr_ 10 (by decide)] at hinv
  obtain ⟨⟨l8, u8⟩, ⟨l9, u9⟩, ⟨l10, u10⟩, ⟨l11, u11⟩, -⟩ := b_
  obtain ⟨T0, ⟨T1, ⟨T2, w_, v2⟩, v1⟩, v0⟩ := d_
  subst w_
  have g := rxdCNF_0_4 hP hin hsm_ I0 I1 hinv l8 u8 l9 u9 l10 u10 l11 u11 v2 v1 v0
  refine ⟨bx_narP_ok (l := []) g.1, ?_⟩
  show rxPSCNF S0 ws S_p (some (bx_num r_p (.inr (0, (11, 0)))))
  rw [bx_xv_ok h0_]
  exact g.2
theorem rxdCNF_0_5 {S0 : Nat → Int → Int} {ws : List Int} {S T2 T1 T0 : Nat → Int → Int} {se pa n x11 : Int} (hP : rxPCNF S0 ws) (hin : bx_same rxL (bx_mdl rxC204.2.2.1) S0 S) (hin2 : bx_same rxL (bx_mdl rxC204.2.2.1) S T0) (I0 : bx_Inv rxL S) (I1 : bx_Inv rxL T0) (hinv : rxICNF_0 S0 ws S se pa n) (l8 : (-2147483648) ≤ se) (u8 : se ≤ (-1)) (l9 : (-2147483648) ≤ pa) (u9 : pa ≤ 2147483647) (l10 : (-2147483648) ≤ n) (u10 : n ≤ 2147483647) (l11 : (-6) ≤ x11) (u11 : x11 ≤ (-1)) (v2 : ∀ (p i : Nat), p < rxL.2.1 → i < bx_wd (rxL.1 p) → bx_mc (rxL.1 p) i ≠ (99999, 0) → T2 p (i : Int) = S p (i : Int)) (v1 : ∀ (p i : Nat), p < rxL.2.1 → i < bx_wd (rxL.1 p) → bx_mc (rxL.1 p) i ≠ (1037, 0) → T1 p (i : Int) = T2 p (i : Int)) (v0 : ∀ (p i : Nat), p < rxL.2.1 → i < bx_wd (rxL.1 p) → bx_mc (rxL.1 p) i ≠ (11, 8) → T0 p (i : Int) = T1 p (i : Int)) : (True) ∧ rxPSCNF S0 ws T0 (some x11) := by
  obtain ⟨rfl, hw⟩ := hinv
  exact ⟨trivial, (rjdSm_t (rjdSm_t (rjdSm_v v2 (by decide) (by decide)) (rjdSm_v v1 (by decide) (by decide))) (rjdSm_v v0 (by decide) (by decide)))⟩
theorem rxfCNF_0_5 {X : (Nat → Int → Int) → Prop} {S0 : Nat → Int → Int} {ws : List Int} (hP : rxPCNF S0 ws) : bx_obE rxL X S0 rxC204.2.2.1 (rxICNF S0 ws) (rxPSCNF S0 ws) 0 rxzCNF_0 rxeCNF_0_5 := by
  intro S S_p r r_p hinv hX hin hsm_ hseg
  obtain ⟨I0, I1, h0_, hr_, b_, f_, d_⟩ := bx_cl (evs := [(2, (11, 0), (8, 0), .inl none), (2, (1037, 0), (0, 0), .inl none), (2, (99999, 0), (0, 0), .inl none)]) (fvs := []) hseg (by decide +kernel) (by decide +kernel)
  have hinv : rxICNF_0 S0 ws S (r 8) (r 9) (r 10) := hinv
  rw [← hr_ 8 (by decide), ← hr_ 9 (by decide), ← hr_ 10 (by decide)] at hinv
  obtain ⟨⟨l8, u8⟩, ⟨l9, u9⟩, ⟨l10, u10⟩, ⟨l11, u11⟩, -⟩ := b_
  obtain ⟨T0, ⟨T1, ⟨T2, w_, v2⟩, v1⟩, v0⟩ := d_
  subst w_
  have g := rxdCNF_0_5 hP hin hsm_ I0 I1 hinv l8 u8 l9 u9 l10 u10 l11 u11 v2 v1 v0
  refine ⟨bx_narP_ok (l := []) g.1, ?_⟩
  show rxPSCNF S0 ws S_p (some (bx_num r_p (.inr (0, (11, 0)))))
  rw [bx_xv_ok h0_]
  exact g.2
theorem rxdCNF_2_0 {S0 : Nat → Int → Int} {ws : List Int} {S T1 : Nat → Int → Int} {se pa n x11 x12 : Int} (hP : rxPCNF S0 ws) (hin : bx_same rxL (bx_mdl rxC204.2.2.1) S0 S) (hin2 : bx_same rxL (bx_mdl rxC204.2.2.1) S (bx_up T1 0 8 0)) (I0 : bx_Inv rxL S) (I1 : bx_Inv rxL (bx_up T1 0 8 0)) (hinv : rxICNF_2 S0 ws S se pa n) (l8 : 0 ≤ se) (u8 : se ≤ 1000000) (l9 : 0 ≤ pa) (u9 : pa ≤ 5) (l10 : 0 ≤ n) (u10 : n ≤ 100) (l11 : 0 ≤ x11) (u11 : x11 ≤ 1522) (l12 : (-2147483648) ≤ x12) (u12 : x12 ≤ 2147483647) (e2 : S 4 pa = x11) (v1 : ∀ (p i : Nat), p < rxL.2.1 → i < bx_wd (rxL.1 p) → bx_mc (rxL.1 p) i ≠ (99999, 0) → T1 p (i : Int) = S p (i : Int)) : (True) ∧ rxPSCNF S0 ws (bx_up T1 0 8 0) (some x12) := by
  have hf : rjdSm S0 S := hinv
  exact ⟨trivial, rjdSm_t hf (rjdSm_t (rjdSm_v v1 (by decide) (by decide)) (fun p t a b c => bx_up_ne (by omega)))⟩
theorem rxfCNF_2_0 {X : (Nat → Int → Int) → Prop} {S0 : Nat → Int → Int} {ws : List Int} (hP : rxPCNF S0 ws) : bx_obE rxL X S0 rxC204.2.2.1 (rxICNF S0 ws) (rxPSCNF S0 ws) 2 rxzCNF_2 rxeCNF_2_0 := by
  intro S S_p r r_p hinv hX hin hsm_ hseg
  obtain ⟨I0, I1, h0_, hr_, b_, f_, d_⟩ := bx_cl (evs := [(1, (0, 0), (0, 8), .inr (0, (0, 0))), (2, (99999, 0), (0, 0), .inl none), (0, (0, 4), (9, 0), .inr (3, (11, 0)))]) (fvs := []) hseg (by decide +kernel) (by decide +kernel)
  have hinv : rxICNF_2 S0 ws S (r 8) (r 9) (r 10) := hinv
  rw [← hr_ 8 (by decide), ← hr_ 9 (by decide), ← hr_ 10 (by decide)] at hinv
  obtain ⟨⟨l8, u8⟩, ⟨l9, u9⟩, ⟨l10, u10⟩, ⟨l11, u11⟩, ⟨l12, u12⟩, -⟩ := b_
  obtain ⟨T0, ⟨T1, ⟨e2, w_⟩, v1⟩, w0⟩ := d_
  subst w0
  subst w_
  have g := rxdCNF_2_0 hP hin hsm_ I0 I1 hinv l8 u8 l9 u9 l10 u10 l11 u11 l12 u12 e2 v1
  refine ⟨bx_narP_ok (l := []) g.1, ?_⟩
  show rxPSCNF S0 ws (bx_up T0 0 (8) (0)) (some (bx_num r_p (.inr (0, (12, 0)))))
  rw [bx_xv_ok h0_]
  exact g.2
theorem rxgCCNF {X : (Nat → Int → Int) → Prop} {S0 : Nat → Int → Int} {ws : List Int} (hP : rxPCNF S0 ws) : bx_allI (fun i q => rxUCNF q = true ∨ bx_allP (fun o => bx_obC rxL X S0 rxC204.2.2.1 (rxICNF S0 ws) (rxmCNF S0 ws) i q.1 o) q.2.1) 0 rxYCNF := ⟨Or.inr ⟨rxgCNF_0_0 hP, trivial⟩, Or.inl rfl, Or.inr trivial, trivial⟩
theorem rxgECNF {X : (Nat → Int → Int) → Prop} {S0 : Nat → Int → Int} {ws : List Int} (hP : rxPCNF S0 ws) : bx_allI (fun i q => rxUCNF q = true ∨ bx_allP (fun E => bx_obE rxL X S0 rxC204.2.2.1 (rxICNF S0 ws) (rxPSCNF S0 ws) i q.1 E) q.2.2) 0 rxYCNF := ⟨Or.inr ⟨rxfCNF_0_0 hP, rxfCNF_0_1 hP, rxfCNF_0_2 hP, rxfCNF_0_3 hP, rxfCNF_0_4 hP, rxfCNF_0_5 hP, trivial⟩, Or.inl rfl, Or.inr ⟨rxfCNF_2_0 hP, trivial⟩, trivial⟩
theorem rxuCNF {PX : State → Prop} {Dg : va_G} {A : Nat → Prop} {ad xa : Nat → Nat} {l : Launch} {X : (Nat → Int → Int) → Prop} (hPX : rx_PXOK rxNW A PX) (hX : ∀ S S1 : Nat → Int → Int, X S → bx_same rxL (bx_mdl rxC204.2.2.1) S S1 → X S1) (hQRCF : bx_ConP rxG rxNW rxAO PX Dg rxL X vwCl A ad l rxM151 rxCRCF rxPRCF rxPSRCF) {S0 : Nat → Int → Int} {ws : List Int} (hP : rxPCNF S0 ws) : ∀ (i : Nat) (q : bx_HE), rxYCNF[i]? = some q → rxUCNF q = true → ∀ {p : Program} {e : Env} {R : Room} {s : State} {m : MethodId} {args : Array Value} {below : List Frame} {meth : Method} {c : Code} {Q : State → Prop} {H0 : Heap}, rx_Fr rxG rxNW rxAO PX p s m args meth c rxM204 → (∀ q, H0.size ≤ q → A q) → H0 = s.heap → rxM204.2.2.2.2.2.2.1 ≤ R.cells → rxM204.2.2.2.2.2.2.2 ≤ R.slots → rxC204.2.2.2.1 ≤ R.frames → rxC204.2.2.2.1 * 40 ≤ R.locals → bx_Step p l e R s m args below meth c Q Dg rxL X vwCl A xa H0 ad rxM204 rxYCNF (rxICNF S0 ws) (rxmCNF S0 ws) S0 rxC204.2.2.1 i q := by
  intro i q hq hus p e R s m args below meth c Q H0 hF hA hH0 hmc hms hd hdl
  match i, hq with
  | 0, hq =>
    cases hq
    exact absurd (show false = true from hus) Bool.false_ne_true
  | 1, hq =>
    cases hq
    exact rx_stepC (ins := .invokevirtual 421) (len := 3) (i_p := 2) (M_p := rxM151) (d := rxC204.2.2.2.1) (as := [.inr (3, (0, 0)), .inr (0, (8, 0)), .inr (0, (9, 0)), .inr (0, (10, 0))]) (t := []) (ct := rxCRCF) hPX hF rfl hA hH0 hmc hms hd hdl (by decide +kernel) rfl rfl (by decide +kernel) (by decide +kernel) hQRCF (by decide +kernel) rfl (Or.inl ⟨rfl, rfl, rfl⟩) (rxsCNF_1 hP)
  | 2, hq =>
    cases hq
    exact absurd (show false = true from hus) Bool.false_ne_true
  | n + 3, hq => cases hq
theorem rxQCNF {PX : State → Prop} {Dg : va_G} {A : Nat → Prop} {ad xa : Nat → Nat} {l : Launch} {X : (Nat → Int → Int) → Prop} (hPX : rx_PXOK rxNW A PX) (hsl : ∀ s : State, PX s → ∀ o idx n : Nat, rxSl o idx = some n → ∃ tx : String, vk_R (rxNm o) idx tx (ad n) s)
    (hX : ∀ S S_p : Nat → Int → Int, X S → bx_same rxL (bx_mdl rxC204.2.2.1) S S_p → X S_p)
    (ih : ∀ (j2 : Nat) (ct2 : bx_Ct) (M2 : rx_Mt), ct2 ∈ rxCn j2 → ct2.2.2.2.1 + 1 ≤ rxC204.2.2.2.1 → rxT.2.2.2.2.2 j2 = some M2 → bx_Con rxG rxNW rxAO PX Dg rxL X vwCl A ad l M2 ct2) (hQRCF : bx_ConP rxG rxNW rxAO PX Dg rxL X vwCl A ad l rxM151 rxCRCF rxPRCF rxPSRCF) : bx_ConP rxG rxNW rxAO PX Dg rxL X vwCl A ad l rxM204 rxC204 rxPCNF rxPSCNF :=
  rxQof (xa := xa) (Cn := rxCn) (f := 30000) (j := 204) (tab := rxYCNF) (us := rxUCNF) hPX hsl hX ih rfl rxYcCNF rxICNF rxmCNF
    (fun S0 ws r I0 I ht0 ht as he he1 hX0 hI0 hP hs ha => by
      have e := he.symm.trans (show bx_ent0 rxNP rxC204.1 bx_I0 [] = some ([(0, 0), (0, 0), (0, 0), (0, 0), (0, 0), (0, 0), (0, 0), (0, 0), ((-2147483648), 2147483647), ((-2147483648), 2147483647), ((-2147483648), 2147483647)], [], [.inr (3, (0, 0)), .inr (0, (8, 0)), .inr (0, (9, 0)), .inr (0, (10, 0))]) from rfl)
      cases e
      subst ha
      have h0 : r 0 = 0 := hs.1
      show rxICNF_0 S0 _ S0 (r 8) (r 9) (r 10)
      refine ⟨rfl, ?_⟩
      simp only [List.map_cons, List.map_nil, bx_xv_ok h0]
      rfl)
    (fun S0 ws hP => rxuCNF (xa := xa) hPX hX hQRCF hP) (fun S0 ws hP => rxgCCNF hP) (fun S0 ws hP => rxgECNF hP)
end
section
noncomputable def rjdRb (S : Nat → Int → Int) (b : Nat) (s : Int → Int) : Prop := ∀ t : Int, 0 ≤ t → t < 36 → (-1 ≤ s t ∧ s t ≤ 59) ∧ S (b + 1) t = rjWo (s t) ∧ S (b + 2) t = rjNx (s t)
theorem rjdRb_w {S : Nat → Int → Int} {k : Nat} {s : Int → Int} (h : rjdRb S (23 + 3 * k) s) : rjdRw S (k : Int) s := fun t t0 t1 => by
  obtain ⟨a, b, c⟩ := h t t0 t1
  refine ⟨a, ?_, ?_⟩
  · rw [show (24 + 3 * (k : Int)).toNat = 23 + 3 * k + 1 by omega]
    exact b
  · rw [show (25 + 3 * (k : Int)).toNat = 23 + 3 * k + 2 by omega]
    exact c
theorem rjdRw_b {S : Nat → Int → Int} {k : Nat} {s : Int → Int} (h : rjdRw S (k : Int) s) : rjdRb S (23 + 3 * k) s := fun t t0 t1 => by
  obtain ⟨a, b, c⟩ := h t t0 t1
  rw [show (24 + 3 * (k : Int)).toNat = 23 + 3 * k + 1 by omega] at b
  rw [show (25 + 3 * (k : Int)).toNat = 23 + 3 * k + 2 by omega] at c
  exact ⟨a, b, c⟩
theorem rjdRb_cg {S S_p : Nat → Int → Int} {b : Nat} {s s_p : Int → Int} (h : rjdRb S b s) (e : ∀ t : Int, 0 ≤ t → t < 36 → S_p (b + 1) t = S (b + 1) t ∧ S_p (b + 2) t = S (b + 2) t) (es : s_p = s) : rjdRb S_p b s_p := fun t t0 t1 => by
  obtain ⟨a, b, c⟩ := h t t0 t1
  obtain ⟨x, y⟩ := e t t0 t1
  rw [es]
  exact ⟨a, x.trans b, y.trans c⟩
theorem rjdRb_q {S0 S : Nat → Int → Int} {t s : Nat} {f : Int → Int} (h : rjdRb S0 s f) (q : rkSq S0 S t s) : rjdRb S t f := fun j j0 j1 => by
  obtain ⟨a, b, c⟩ := h j j0 j1
  obtain ⟨x, y⟩ := q j j0 j1
  exact ⟨a, x.trans b, y.trans c⟩
noncomputable def rjdKa (S : Nat → Int → Int) (b : Nat) (R : Int → Int) : Prop := ∀ k : Nat, (k : Int) < R 0 → k < 6 → rjdRb S (b + 3 * k) (rjSc R (22 + 36 * (k : Int)))
noncomputable def rjdKv (S : Nat → Int → Int) (b : Nat) (R : Int → Int) : Prop := ∀ k : Nat, (k : Int) < R 2 → k < 12 → rjdRb S (b + 18 + 3 * k) (rjSc R (298 + 36 * (k : Int)))
noncomputable def rjdKb (x : Bool) (S : Nat → Int → Int) (b : Nat) (R : Int → Int) : Prop := rjdKa S b R ∧ (x = true → rjdKv S b R)
noncomputable def rjHy (S : Nat → Int → Int) (j : Int) : Int := S 483 (6180 + j)
noncomputable def rjdK (x : Bool) (S : Nat → Int → Int) : Prop := (rkPl S ∧ rkDu S) ∧ rjdKb x S 23 (S 482) ∧ (S 410 0 = 0 ∨ rjdKb x S 160 (S 483)) ∧ (S 410 1 = 0 ∨ rjdKb x S 296 (rjHy S))
theorem rjSc_eq {R R_p : Int → Int} {b : Int} (b0 : 0 ≤ b) (b1 : b + 36 ≤ 6180) (e : ∀ j : Int, 0 ≤ j → j < 6180 → R_p j = R j) : rjSc R_p b = rjSc R b := rjSc_cg fun t t0 t1 => e (b + t) (by omega) (by omega)
theorem rjdKb_r {x : Bool} {S : Nat → Int → Int} {b : Nat} {R R_p : Int → Int} (h : rjdKb x S b R) (e : ∀ j : Int, 0 ≤ j → j < 6180 → R_p j = R j) : rjdKb x S b R_p := by
  refine ⟨fun k c c6 => ?_, fun hx k c c12 => ?_⟩
  · rw [e 0 (by omega) (by omega)] at c
    rw [rjSc_eq (R := R) (by omega) (by omega) e]
    exact h.1 k c c6
  · rw [e 2 (by omega) (by omega)] at c
    rw [rjSc_eq (R := R) (by omega) (by omega) e]
    exact h.2 hx k c c12
theorem rjdKb_p {x : Bool} {S : Nat → Int → Int} {b : Nat} {R R_p : Int → Int} (h : rjdKb x S b R) (e0 : R_p 0 = R 0) (e2 : x = true → R_p 2 = R 2) (ea : ∀ j : Int, 22 ≤ j → j < 238 → R_p j = R j) (ev : x = true → ∀ j : Int, 298 ≤ j → j < 730 → R_p j = R j) : rjdKb x S b R_p := by
  refine ⟨fun k c c6 => ?_, fun hx k c c12 => ?_⟩
  · rw [e0] at c
    rw [rjSc_cg (R := R) fun t t0 t1 => ea _ (by omega) (by omega)]
    exact h.1 k c c6
  · rw [e2 hx] at c
    rw [rjSc_cg (R := R) fun t t0 t1 => ev hx _ (by omega) (by omega)]
    exact h.2 hx k c c12
theorem rjdKb_s {x : Bool} {S S_p : Nat → Int → Int} {b : Nat} {R : Int → Int} (h : rjdKb x S b R) (e : ∀ (p : Nat) (t : Int), b ≤ p → p < b + 54 → (p - b) % 3 ≠ 0 → 0 ≤ t → t < 36 → S_p p t = S p t) : rjdKb x S_p b R := by
  refine ⟨fun k c c6 => ?_, fun hx k c c12 => ?_⟩
  · exact rjdRb_cg (h.1 k c c6) (fun t t0 t1 => ⟨e _ t (by omega) (by omega) (by omega) t0 t1, e _ t (by omega) (by omega) (by omega) t0 t1⟩) rfl
  · exact rjdRb_cg (h.2 hx k c c12) (fun t t0 t1 => ⟨e _ t (by omega) (by omega) (by omega) t0 t1, e _ t (by omega) (by omega) (by omega) t0 t1⟩) rfl
theorem rjdKb_m {x : Bool} {S S_p : Nat → Int → Int} {b : Nat} {R : Int → Int} (hb : rkTb b) (h : rjdKb x S b R) (e : rjdSm S S_p) : rjdKb x S_p b R := rjdKb_s h fun p t p0 p1 p2 t0 t1 => e p t (by
  unfold rkTb at hb
  unfold rjdRg
  omega) t0 t1
noncomputable def rjdKk0 : List (Nat × Nat) := [(1019, 0), (1020, 0), (6, 8), (6, 9), (6, 10), (1016, 0), (9, 0), (9, 1), (1002, 0), (1009, 0), (1031, 0), (1063, 2), (1063, 13), (1064, 0), (1064, 1)]
noncomputable def rjdKk (x : Bool) : List (Nat × Nat) := rjdKk0 ++ (if x then [(1063, 4), (1063, 16)] else [])
theorem rjdKf {ms l : List (Nat × Nat)} (hk : l.all (fun q => !(bx_mdl ms q.1 q.2)) = true) {a b : Nat} (hm : (a, b) ∈ l) : bx_mdl ms a b = false := by
  have := List.all_eq_true.mp hk (a, b) hm
  rw [Bool.not_eq_true'] at this
  exact this
theorem rjdKl {ms l l_p : List (Nat × Nat)} (hk : l.all (fun q => !(bx_mdl ms q.1 q.2)) = true) (hl : l_p.all (fun q => l.contains q) = true) : l_p.all (fun q => !(bx_mdl ms q.1 q.2)) = true := List.all_eq_true.mpr fun x hm => List.all_eq_true.mp hk x (List.contains_iff_mem.mp (List.all_eq_true.mp hl x hm))
section RJK
variable {x : Bool} {S0 S1 S S_p : Nat → Int → Int} {ms : List (Nat × Nat)}
theorem rjdK_kp (hs : bx_same rxL (bx_mdl ms) S S_p) (hk : bx_mdl ms 1031 0 = false) : ∀ i : Nat, i < 2 → S_p 410 (i : Int) = S 410 (i : Int) := fun i hi => hs 410 i (by decide) (by
  show i < 2
  exact hi) (by
  have e : bx_mc (rxL.1 410) i = (1031, if i < 780 then 0 else 1) := rfl
  rw [e, if_pos (by omega)]
  exact hk)
theorem rjdK_rw (hs : bx_same rxL (bx_mdl ms) S S_p) {k lo hi : Nat} (hk : bx_mdl ms 1063 k = false) (h : ∀ i : Nat, lo ≤ i → i < hi → bx_s63 i = k) (h2 : hi ≤ 6180) {j : Int} (a : (lo : Int) ≤ j) (b : j < (hi : Int)) : S_p 482 j = S 482 j := by
  have hw := rxW482
  have q := hs 482 j.toNat (by decide) (by omega) (by
    have e : bx_mc (rxL.1 482) j.toNat = (1063, bx_s63 j.toNat) := rfl
    rw [e, h j.toNat (by omega) (by omega)]
    exact hk)
  rw [Int.toNat_of_nonneg (by omega)] at q
  exact q
theorem rjdK_ra (hs : bx_same rxL (bx_mdl ms) S S_p) (hk : bx_mdl ms 1063 13 = false) : ∀ j : Int, 22 ≤ j → j < 238 → S_p 482 j = S 482 j := fun j a b =>
  rjdK_rw hs hk (lo := 22) (hi := 238) (fun i a b => by
    unfold bx_s63
    rw [if_pos (by omega), if_neg (by omega), if_neg (by omega), if_pos (by omega)]) (by decide) (by omega) (by omega)
theorem rjdK_rv (hs : bx_same rxL (bx_mdl ms) S S_p) (hk : bx_mdl ms 1063 16 = false) : ∀ j : Int, 298 ≤ j → j < 730 → S_p 482 j = S 482 j := fun j a b =>
  rjdK_rw hs hk (lo := 298) (hi := 730) (fun i a b => by
    unfold bx_s63
    rw [if_pos (by omega), if_neg (by omega), if_neg (by omega), if_neg (by omega), if_neg (by omega), if_neg (by omega), if_pos (by omega)]) (by decide) (by omega) (by omega)
theorem rjdK_u (hl : rkPl S_p) (hd : rkDu S_p) (h : rjdK x S) (u : rjdKb x S_p 23 (S_p 482)) (e : ∀ (p : Nat) (t : Int), rjdRg p → 160 ≤ p → 0 ≤ t → t < 36 → S_p p t = S p t) (r3 : ∀ j : Int, 0 ≤ j → j < 12360 → S_p 483 j = S 483 j) (k0 : S_p 410 0 = S 410 0) (k1 : S_p 410 1 = S 410 1) : rjdK x S_p := by
  obtain ⟨-, -, h2, h3⟩ := h
  refine ⟨⟨hl, hd⟩, u, ?_, ?_⟩
  · rw [k0]
    exact h2.imp id fun g => rjdKb_r (rjdKb_s g fun p t p0 p1 p2 t0 t1 => e p t (by unfold rjdRg; omega) (by omega) t0 t1) fun j a b => r3 j a (by omega)
  · rw [k1]
    exact h3.imp id fun g => rjdKb_r (rjdKb_s g fun p t p0 p1 p2 t0 t1 => e p t (by unfold rjdRg; omega) (by omega) t0 t1) fun j a b => r3 (6180 + j) (by omega) (by omega)
theorem rjdK_sm (hs : bx_same rxL (bx_mdl ms) S S_p) (hk : (rjdKk x).all (fun q => !(bx_mdl ms q.1 q.2)) = true) (h : rjdK x S) : rjdK x S_p := by
  have m : ∀ q : Nat × Nat, q ∈ rjdKk0 → bx_mdl ms q.1 q.2 = false := fun q hm => rjdKf hk (a := q.1) (b := q.2) (List.mem_append_left _ hm)
  have l : ∀ l_p : List (Nat × Nat), l_p.all (fun q => rjdKk0.contains q) = true → l_p.all (fun q => !(bx_mdl ms q.1 q.2)) = true := fun l_p hl => List.all_eq_true.mpr fun y hm => by
    have := m y (List.contains_iff_mem.mp (List.all_eq_true.mp hl y hm))
    rw [this]
    rfl
  have es : rjdSm S S_p := rjdSm_sm hs (l _ (by decide))
  have e0 : S_p 482 0 = S 482 0 := hs 482 0 (by decide) (by decide) (m (1063, 2) (by decide))
  refine rjdK_u (rkPl_sm hs (l _ (by decide)) h.1.1) (rkDu_sm hs (l _ (by decide)) h.1.2) h ?_ (fun p t a _ c d => es p t a c d) (fun j a b => rx_same64 (m (1064, 0) (by decide)) (m (1064, 1) (by decide)) hs a b) (rjdK_kp hs (m (1031, 0) (by decide)) 0 (by decide)) (rjdK_kp hs (m (1031, 0) (by decide)) 1 (by decide))
  refine rjdKb_p (rjdKb_m (Or.inl rfl) h.2.1 es) e0 (fun hx => ?_) (rjdK_ra hs (m (1063, 13) (by decide))) (fun hx => ?_)
  · subst hx
    exact hs 482 2 (by decide) (by decide) (rjdKf hk (by decide))
  · subst hx
    exact rjdK_rv hs (rjdKf hk (by decide))
theorem rjdK_dv (hs : bx_same rxL (bx_mdl ms) S S_p) (hk : [(6, 8), (6, 9), (6, 10), (1016, 0), (9, 0), (9, 1), (1002, 0), (1009, 0), (1031, 0), (1063, 2), (1063, 4), (1063, 13), (1063, 16), (1064, 0), (1064, 1)].all (fun q => !(bx_mdl ms q.1 q.2)) = true) (es : rjdSm S S_p) (h : rjdK x S) : rjdK x S_p := by
  have e0 : S_p 482 0 = S 482 0 := hs 482 0 (by decide) (by decide) (rjdKf hk (a := 1063) (b := 2) (by decide))
  refine rjdK_u (rkPl_sm hs (rjdKl hk (by decide)) h.1.1) (rkDu_sm hs (rjdKl hk (by decide)) h.1.2) h ?_ (fun p t a _ c d => es p t a c d) (fun j a b => rx_same64 (rjdKf hk (by decide)) (rjdKf hk (by decide)) hs a b) (rjdK_kp hs (rjdKf hk (by decide)) 0 (by decide)) (rjdK_kp hs (rjdKf hk (by decide)) 1 (by decide))
  exact rjdKb_p (rjdKb_m (Or.inl rfl) h.2.1 es) e0 (fun _ => hs 482 2 (by decide) (by decide) (rjdKf hk (a := 1063) (b := 4) (by decide))) (rjdK_ra hs (rjdKf hk (by decide))) (fun _ => rjdK_rv hs (rjdKf hk (by decide)))
noncomputable def rjdKm (x : Bool) (i : Nat) (f : Int → Int) (S : Nat → Int → Int) : Prop := (rkPl S ∧ rkDu S) ∧ ((∀ k : Nat, (k : Int) < S 482 0 → k < 6 → k ≠ i → rjdRb S (23 + 3 * k) (rjSc (S 482) (22 + 36 * (k : Int)))) ∧ (x = true → ∀ k : Nat, (k : Int) < S 482 2 → k < 12 → 6 + k ≠ i → rjdRb S (41 + 3 * k) (rjSc (S 482) (298 + 36 * (k : Int)))) ∧ rjdRb S (23 + 3 * i) f) ∧ (S 410 0 = 0 ∨ rjdKb x S 160 (S 483)) ∧ (S 410 1 = 0 ∨ rjdKb x S 296 (rjHy S))
theorem rjdK_dm {i : Nat} {f : Int → Int} (hs : bx_same rxL (bx_mdl ms) S S_p) (hk : [(6, 8), (6, 9), (6, 10), (1016, 0), (9, 0), (9, 1), (1002, 0), (1009, 0), (1031, 0), (1063, 2), (1063, 4), (1063, 13), (1063, 16), (1064, 0), (1064, 1)].all (fun q => !(bx_mdl ms q.1 q.2)) = true) (i18 : i < 18) (ho : rjdOp S S_p (i : Int)) (hf : rjdRw S_p (i : Int) f) (h : rjdK x S) : rjdKm x i f S_p := by
  have e0 : S_p 482 0 = S 482 0 := hs 482 0 (by decide) (by decide) (rjdKf hk (a := 1063) (b := 2) (by decide))
  have e2 : S_p 482 2 = S 482 2 := hs 482 2 (by decide) (by decide) (rjdKf hk (a := 1063) (b := 4) (by decide))
  have ra := rjdK_ra hs (rjdKf hk (by decide))
  have rv := rjdK_rv hs (rjdKf hk (by decide))
  have r3 : ∀ j : Int, 0 ≤ j → j < 12360 → S_p 483 j = S 483 j := fun j a b => rx_same64 (rjdKf hk (by decide)) (rjdKf hk (by decide)) hs a b
  have im : ∀ (p : Nat) (t : Int), rjdRg p → 160 ≤ p → 0 ≤ t → t < 36 → S_p p t = S p t := fun p t a b c d => ho p t a c d (by omega) (by omega)
  obtain ⟨h1, h2, h3, h4⟩ := h
  refine ⟨⟨rkPl_sm hs (rjdKl hk (by decide)) h1.1, rkDu_sm hs (rjdKl hk (by decide)) h1.2⟩, ⟨fun k c c6 n => ?_, fun hx k c c12 n => ?_, rjdRw_b hf⟩, ?_, ?_⟩
  · rw [e0] at c
    exact rjdRb_cg (h2.1 k c c6) (fun t t0 t1 => ⟨ho _ t (by unfold rjdRg; omega) t0 t1 (by omega) (by omega), ho _ t (by unfold rjdRg; omega) t0 t1 (by omega) (by omega)⟩) (rjSc_cg fun t t0 t1 => ra _ (by omega) (by omega))
  · rw [e2] at c
    have z := h2.2 hx k c c12
    rw [show 23 + 18 + 3 * k = 41 + 3 * k by omega] at z
    exact rjdRb_cg z (fun t t0 t1 => ⟨ho _ t (by unfold rjdRg; omega) t0 t1 (by omega) (by omega), ho _ t (by unfold rjdRg; omega) t0 t1 (by omega) (by omega)⟩) (rjSc_cg fun t t0 t1 => rv _ (by omega) (by omega))
  · rw [show S_p 410 0 = S 410 0 from rjdK_kp hs (rjdKf hk (by decide)) 0 (by decide)]
    exact h3.imp id fun g => rjdKb_r (rjdKb_s g fun p t p0 p1 p2 t0 t1 => im p t (by unfold rjdRg; omega) (by omega) t0 t1) fun j a b => r3 j a (by omega)
  · rw [show S_p 410 1 = S 410 1 from rjdK_kp hs (rjdKf hk (by decide)) 1 (by decide)]
    exact h4.imp id fun g => rjdKb_r (rjdKb_s g fun p t p0 p1 p2 t0 t1 => im p t (by unfold rjdRg; omega) (by omega) t0 t1) fun j a b => r3 (6180 + j) (by omega) (by omega)
theorem rjdK_rm {i : Nat} {f : Int → Int} (hs : bx_same rxL (bx_mdl ms) S S_p) (hk : [(1019, 0), (1020, 0), (6, 8), (6, 9), (6, 10), (1016, 0), (9, 0), (9, 1), (1002, 0), (1009, 0), (1031, 0), (1064, 0), (1064, 1)].all (fun q => !(bx_mdl ms q.1 q.2)) = true) (h : rjdKm x i f S)
    (ha : ∀ k : Nat, (k : Int) < S_p 482 0 → k < 6 → (k ≠ i ∧ (k : Int) < S 482 0 ∧ rjSc (S_p 482) (22 + 36 * (k : Int)) = rjSc (S 482) (22 + 36 * (k : Int))) ∨ (k = i ∧ rjSc (S_p 482) (22 + 36 * (k : Int)) = f))
    (hv : x = true → ∀ k : Nat, (k : Int) < S_p 482 2 → k < 12 → (6 + k ≠ i ∧ (k : Int) < S 482 2 ∧ rjSc (S_p 482) (298 + 36 * (k : Int)) = rjSc (S 482) (298 + 36 * (k : Int))) ∨ (6 + k = i ∧ rjSc (S_p 482) (298 + 36 * (k : Int)) = f)) : rjdK x S_p := by
  have es : rjdSm S S_p := rjdSm_sm hs (rjdKl hk (by decide))
  have r3 : ∀ j : Int, 0 ≤ j → j < 12360 → S_p 483 j = S 483 j := fun j a b => rx_same64 (rjdKf hk (by decide)) (rjdKf hk (by decide)) hs a b
  obtain ⟨h1, ⟨h2, h2v, h2f⟩, h3, h4⟩ := h
  have sf : ∀ {k : Nat} {g g_p : Int → Int}, k < 18 → rjdRb S (23 + 3 * k) g → g_p = g → rjdRb S_p (23 + 3 * k) g_p := fun hk18 z e => rjdRb_cg z (fun t t0 t1 => ⟨es _ t (by unfold rjdRg; omega) t0 t1, es _ t (by unfold rjdRg; omega) t0 t1⟩) e
  refine ⟨⟨rkPl_sm hs (rjdKl hk (by decide)) h1.1, rkDu_sm hs (rjdKl hk (by decide)) h1.2⟩, ⟨fun k c c6 => ?_, fun hx k c c12 => ?_⟩, ?_, ?_⟩
  · rcases ha k c c6 with ⟨n, c0, e⟩ | ⟨n, e⟩
    · exact sf (by omega) (h2 k c0 c6 n) e
    · subst n
      exact sf (by omega) h2f e
  · rw [show 23 + 18 + 3 * k = 23 + 3 * (6 + k) by omega]
    rcases hv hx k c c12 with ⟨n, c0, e⟩ | ⟨n, e⟩
    · have z := h2v hx k c0 c12 n
      rw [show 41 + 3 * k = 23 + 3 * (6 + k) by omega] at z
      exact sf (by omega) z e
    · rw [n]
      exact sf (by omega) h2f e
  · rw [show S_p 410 0 = S 410 0 from rjdK_kp hs (rjdKf hk (by decide)) 0 (by decide)]
    exact h3.imp id fun g => rjdKb_r (rjdKb_m (Or.inr (Or.inl rfl)) g es) fun j a b => r3 j a (by omega)
  · rw [show S_p 410 1 = S 410 1 from rjdK_kp hs (rjdKf hk (by decide)) 1 (by decide)]
    exact h4.imp id fun g => rjdKb_r (rjdKb_m (Or.inr (Or.inr rfl)) g es) fun j a b => r3 (6180 + j) (by omega) (by omega)
noncomputable def rjdKi0 (x : Bool) (S : Nat → Int → Int) : Prop := (rkPl S ∧ rkDu S) ∧ rjdKb x S 23 (S 482) ∧ rjdKb x S 160 (S 482) ∧ (S 410 1 = 0 ∨ rjdKb x S 296 (rjHy S))
noncomputable def rjdKi1 (x : Bool) (S : Nat → Int → Int) : Prop := (rkPl S ∧ rkDu S) ∧ rjdKb x S 23 (S 482) ∧ (S 410 0 = 0 ∨ rjdKb x S 160 (S 483)) ∧ rjdKb x S 296 (S 482)
noncomputable def rjdKb0 (x : Bool) (S : Nat → Int → Int) : Prop := (rkPl S ∧ rkDu S) ∧ rjdKb x S 23 (S 483) ∧ (S 410 0 = 0 ∨ rjdKb x S 160 (S 483)) ∧ (S 410 1 = 0 ∨ rjdKb x S 296 (rjHy S))
noncomputable def rjdKb1 (x : Bool) (S : Nat → Int → Int) : Prop := (rkPl S ∧ rkDu S) ∧ rjdKb x S 23 (rjHy S) ∧ (S 410 0 = 0 ∨ rjdKb x S 160 (S 483)) ∧ (S 410 1 = 0 ∨ rjdKb x S 296 (rjHy S))
theorem rjdKb_c {R : Int → Int} {tb sb : Nat} {n : Int} (h : rjdKb x S0 sb R) (hb : rkTb tb) (hW : rkWt4 S0 S1 tb sb 6 12 n) (e : ∀ (p : Nat) (j : Int), rkRgn p → S p j = S1 p j) : rjdKb x S tb R :=
  ⟨fun k c c6 => rjdRb_q (h.1 k c c6) (rkSq_cg (hW.1 k (by omega) c6) fun p j p0 p1 => e p j (rkTb_re hb (by omega) (by omega))), fun hx k c c12 => rjdRb_q (h.2 hx k c c12) (rkSq_cg (hW.2.1 k (by omega) c12) fun p j p0 p1 => e p j (rkTb_re hb (by omega) (by omega)))⟩
theorem rjdKb_w {R : Int → Int} {b tb : Nat} (h : rjdKb x S0 b R) (hW : rkW4 S0 S1 tb) (e : ∀ (p : Nat) (j : Int), rkRgn p → S p j = S1 p j) (hb : rkTb b) (ht : rkTb tb) (n : tb ≠ b) : rjdKb x S b R := rjdKb_s h fun p t p0 p1 _ _ _ => (e p t (rkTb_re hb p0 (by omega))).trans (hW p t (rkTb_re hb p0 (by omega)) (by
  unfold rkTb at hb ht
  omega))
theorem rjdK_i0 {n : Int} (h : rjdK x S0) (hl : rkPl S ∧ rkDu S) (hW : rkWt4 S0 S1 160 23 6 12 n) (e : ∀ (p : Nat) (j : Int), rkRgn p → S p j = S1 p j) (r : ∀ j : Int, 0 ≤ j → j < 6180 → S 482 j = S0 482 j) (r3 : ∀ j : Int, 0 ≤ j → j < 12360 → S 483 j = S0 483 j) (k1 : S 410 1 = S0 410 1) : rjdKi0 x S := by
  obtain ⟨-, h1, h2, h3⟩ := h
  refine ⟨hl, rjdKb_r (rjdKb_w h1 hW.2.2.2 e (Or.inl rfl) (Or.inr (Or.inl rfl)) (by decide)) r, rjdKb_r (rjdKb_c h1 (Or.inr (Or.inl rfl)) hW e) r, ?_⟩
  rw [k1]
  exact h3.imp id fun g => rjdKb_r (rjdKb_w g hW.2.2.2 e (Or.inr (Or.inr rfl)) (Or.inr (Or.inl rfl)) (by decide)) fun j a b => r3 (6180 + j) (by omega) (by omega)
theorem rjdK_i1 {n : Int} (h : rjdK x S0) (hl : rkPl S ∧ rkDu S) (hW : rkWt4 S0 S1 296 23 6 12 n) (e : ∀ (p : Nat) (j : Int), rkRgn p → S p j = S1 p j) (r : ∀ j : Int, 0 ≤ j → j < 6180 → S 482 j = S0 482 j) (r3 : ∀ j : Int, 0 ≤ j → j < 12360 → S 483 j = S0 483 j) (k0 : S 410 0 = S0 410 0) : rjdKi1 x S := by
  obtain ⟨-, h1, h2, h3⟩ := h
  refine ⟨hl, rjdKb_r (rjdKb_w h1 hW.2.2.2 e (Or.inl rfl) (Or.inr (Or.inr rfl)) (by decide)) r, ?_, rjdKb_r (rjdKb_c h1 (Or.inr (Or.inr rfl)) hW e) r⟩
  rw [k0]
  exact h2.imp id fun g => rjdKb_r (rjdKb_w g hW.2.2.2 e (Or.inr (Or.inl rfl)) (Or.inr (Or.inr rfl)) (by decide)) fun j a b => r3 j a (by omega)
theorem rjdK_b0 {n : Int} (h : rjdK x S0) (hl : rkPl S ∧ rkDu S) (z : S0 410 0 ≠ 0) (hW : rkWt4 S0 S1 23 160 6 12 n) (e : ∀ (p : Nat) (j : Int), rkRgn p → S p j = S1 p j) (r3 : ∀ j : Int, 0 ≤ j → j < 12360 → S 483 j = S0 483 j) (k0 : S 410 0 = S0 410 0) (k1 : S 410 1 = S0 410 1) : rjdKb0 x S := by
  obtain ⟨-, h1, h2, h3⟩ := h
  have h2 := h2.resolve_left z
  refine ⟨hl, rjdKb_r (rjdKb_c h2 (Or.inl rfl) hW e) fun j a b => r3 j a (by omega), Or.inr (rjdKb_r (rjdKb_w h2 hW.2.2.2 e (Or.inr (Or.inl rfl)) (Or.inl rfl) (by decide)) fun j a b => r3 j a (by omega)), ?_⟩
  rw [k1]
  exact h3.imp id fun g => rjdKb_r (rjdKb_w g hW.2.2.2 e (Or.inr (Or.inr rfl)) (Or.inl rfl) (by decide)) fun j a b => r3 (6180 + j) (by omega) (by omega)
theorem rjdK_b1 {n : Int} (h : rjdK x S0) (hl : rkPl S ∧ rkDu S) (z : S0 410 1 ≠ 0) (hW : rkWt4 S0 S1 23 296 6 12 n) (e : ∀ (p : Nat) (j : Int), rkRgn p → S p j = S1 p j) (r3 : ∀ j : Int, 0 ≤ j → j < 12360 → S 483 j = S0 483 j) (k0 : S 410 0 = S0 410 0) (k1 : S 410 1 = S0 410 1) : rjdKb1 x S := by
  obtain ⟨-, h1, h2, h3⟩ := h
  have h3 := h3.resolve_left z
  refine ⟨hl, rjdKb_r (rjdKb_c h3 (Or.inl rfl) hW e) fun j a b => r3 (6180 + j) (by omega) (by omega), ?_, Or.inr (rjdKb_r (rjdKb_w h3 hW.2.2.2 e (Or.inr (Or.inr rfl)) (Or.inl rfl) (by decide)) fun j a b => r3 (6180 + j) (by omega) (by omega))⟩
  rw [k0]
  exact h2.imp id fun g => rjdKb_r (rjdKb_w g hW.2.2.2 e (Or.inr (Or.inl rfl)) (Or.inl rfl) (by decide)) fun j a b => r3 j a (by omega)
theorem rjdK_j (hs : bx_same rxL (bx_mdl ms) S S_p) (hk : [(1019, 0), (1020, 0), (6, 8), (6, 9), (6, 10), (1016, 0), (9, 0), (9, 1), (1002, 0), (1009, 0)].all (fun q => !(bx_mdl ms q.1 q.2)) = true) : (rkPl S ∧ rkDu S → rkPl S_p ∧ rkDu S_p) ∧ ∀ {R R_p : Int → Int} {b : Nat}, rkTb b → rjdKb x S b R → (∀ j : Int, 0 ≤ j → j < 6180 → R_p j = R j) → rjdKb x S_p b R_p :=
  ⟨fun h => ⟨rkPl_sm hs (rjdKl hk (by decide)) h.1, rkDu_sm hs (rjdKl hk (by decide)) h.2⟩, fun hb h e => rjdKb_r (rjdKb_m hb h (rjdSm_sm hs (rjdKl hk (by decide)))) e⟩
theorem rjdK_j0 (hl : rkPl S ∧ rkDu S → rkPl S_p ∧ rkDu S_p) (hq : ∀ {R R_p : Int → Int} {b : Nat}, rkTb b → rjdKb x S b R → (∀ j : Int, 0 ≤ j → j < 6180 → R_p j = R j) → rjdKb x S_p b R_p) (h : rjdKi0 x S) (r : ∀ j : Int, 0 ≤ j → j < 6180 → S_p 482 j = S 482 j) (c1 : ∀ j : Int, 0 ≤ j → j < 6180 → S_p 483 j = S 482 j) (c2 : ∀ j : Int, 6180 ≤ j → S_p 483 j = S 483 j) (k1 : S_p 410 1 = S 410 1) : rjdK x S_p := by
  obtain ⟨h0, h1, h2, h3⟩ := h
  refine ⟨hl h0, hq (Or.inl rfl) h1 r, Or.inr (hq (Or.inr (Or.inl rfl)) h2 c1), ?_⟩
  rw [k1]
  exact h3.imp id fun g => hq (Or.inr (Or.inr rfl)) g fun j a b => c2 (6180 + j) (by omega)
theorem rjdK_j1 (hl : rkPl S ∧ rkDu S → rkPl S_p ∧ rkDu S_p) (hq : ∀ {R R_p : Int → Int} {b : Nat}, rkTb b → rjdKb x S b R → (∀ j : Int, 0 ≤ j → j < 6180 → R_p j = R j) → rjdKb x S_p b R_p) (h : rjdKi1 x S) (r : ∀ j : Int, 0 ≤ j → j < 6180 → S_p 482 j = S 482 j) (c1 : ∀ j : Int, 0 ≤ j → j < 6180 → S_p 483 (6180 + j) = S 482 j) (c2 : ∀ j : Int, j < 6180 → S_p 483 j = S 483 j) (k0 : S_p 410 0 = S 410 0) : rjdK x S_p := by
  obtain ⟨h0, h1, h2, h3⟩ := h
  refine ⟨hl h0, hq (Or.inl rfl) h1 r, ?_, Or.inr (hq (Or.inr (Or.inr rfl)) h3 c1)⟩
  rw [k0]
  exact h2.imp id fun g => hq (Or.inr (Or.inl rfl)) g fun j a b => c2 _ b
theorem rjdK_j2 (hl : rkPl S ∧ rkDu S → rkPl S_p ∧ rkDu S_p) (hq : ∀ {R R_p : Int → Int} {b : Nat}, rkTb b → rjdKb x S b R → (∀ j : Int, 0 ≤ j → j < 6180 → R_p j = R j) → rjdKb x S_p b R_p) (h : rjdK x S) (r : ∀ j : Int, 0 ≤ j → j < 6180 → S_p 482 j = S 482 j) (c3 : ∀ j : Int, 0 ≤ j → j < 12360 → S_p 483 j = S 483 j) (k0 : S_p 410 0 = S 410 0) (k1 : S_p 410 1 = S 410 1) : rjdK x S_p := by
  obtain ⟨h0, h1, h2, h3⟩ := h
  refine ⟨hl h0, hq (Or.inl rfl) h1 r, ?_, ?_⟩
  · rw [k0]
    exact h2.imp id fun g => hq (Or.inr (Or.inl rfl)) g fun j a b => c3 _ (by omega) (by omega)
  · rw [k1]
    exact h3.imp id fun g => hq (Or.inr (Or.inr rfl)) g fun j a b => c3 (6180 + j) (by omega) (by omega)
theorem rjdK_k0 (hl : rkPl S ∧ rkDu S → rkPl S_p ∧ rkDu S_p) (hq : ∀ {R R_p : Int → Int} {b : Nat}, rkTb b → rjdKb x S b R → (∀ j : Int, 0 ≤ j → j < 6180 → R_p j = R j) → rjdKb x S_p b R_p) (h : rjdKb0 x S) (r : ∀ j : Int, 0 ≤ j → j < 6180 → S_p 482 j = S 483 j) (c3 : ∀ j : Int, 0 ≤ j → j < 12360 → S_p 483 j = S 483 j) (k0 : S_p 410 0 = S 410 0) (k1 : S_p 410 1 = S 410 1) : rjdK x S_p := by
  obtain ⟨h0, h1, h2, h3⟩ := h
  refine ⟨hl h0, hq (Or.inl rfl) h1 r, ?_, ?_⟩
  · rw [k0]
    exact h2.imp id fun g => hq (Or.inr (Or.inl rfl)) g fun j a b => c3 _ (by omega) (by omega)
  · rw [k1]
    exact h3.imp id fun g => hq (Or.inr (Or.inr rfl)) g fun j a b => c3 (6180 + j) (by omega) (by omega)
theorem rjdK_k1 (hl : rkPl S ∧ rkDu S → rkPl S_p ∧ rkDu S_p) (hq : ∀ {R R_p : Int → Int} {b : Nat}, rkTb b → rjdKb x S b R → (∀ j : Int, 0 ≤ j → j < 6180 → R_p j = R j) → rjdKb x S_p b R_p) (h : rjdKb1 x S) (r : ∀ j : Int, 0 ≤ j → j < 6180 → S_p 482 j = S 483 (6180 + j)) (c3 : ∀ j : Int, 0 ≤ j → j < 12360 → S_p 483 j = S 483 j) (k0 : S_p 410 0 = S 410 0) (k1 : S_p 410 1 = S 410 1) : rjdK x S_p := by
  obtain ⟨h0, h1, h2, h3⟩ := h
  refine ⟨hl h0, hq (Or.inl rfl) h1 r, ?_, ?_⟩
  · rw [k0]
    exact h2.imp id fun g => hq (Or.inr (Or.inl rfl)) g fun j a b => c3 _ (by omega) (by omega)
  · rw [k1]
    exact h3.imp id fun g => hq (Or.inr (Or.inr rfl)) g fun j a b => c3 (6180 + j) (by omega) (by omega)
theorem rjdK_st : rjdK x rzS := by
  have e0 : rzS 482 0 = 0 := by decide +kernel
  have e2 : rzS 482 2 = 0 := by decide +kernel
  refine ⟨⟨rkPl_st, rkDu_st⟩, ⟨fun k c _ => ?_, fun _ k c _ => ?_⟩, Or.inl (by decide +kernel), Or.inl (by decide +kernel)⟩
  · rw [e0] at c
    omega
  · rw [e2] at c
    omega
end RJK
theorem rjdOp_r {S : Nat → Int → Int} {pa : Int} : rjdOp S S pa := fun _ _ _ _ _ _ _ => rfl
noncomputable def rjdKd : List (Nat × Nat) := [(6, 8), (6, 9), (6, 10), (1016, 0), (9, 0), (9, 1), (1002, 0), (1009, 0), (1031, 0), (1063, 2), (1063, 4), (1063, 13), (1063, 16), (1064, 0), (1064, 1)]
noncomputable def rjdKr : List (Nat × Nat) := [(1019, 0), (1020, 0), (6, 8), (6, 9), (6, 10), (1016, 0), (9, 0), (9, 1), (1002, 0), (1009, 0), (1031, 0), (1064, 0), (1064, 1)]
section RJK2
variable {x : Bool} {S S_p : Nat → Int → Int} {ms : List (Nat × Nat)} {pa ix r : Int} {f : Int → Int}
theorem rjdK_rwp (h : rjdK x S) (p0 : 0 ≤ pa) (p1 : pa < S 482 0) (p5 : pa ≤ 5) : rjdRw S pa (rjSc (S 482) (22 + 36 * pa)) := by
  have g := rjdRb_w (h.2.1.1 pa.toNat (by omega) (by omega))
  rw [Int.toNat_of_nonneg p0] at g
  exact g
theorem rjdK_rwv (h : rjdK true S) (p0 : 0 ≤ pa) (p1 : pa < S 482 2) (p11 : pa ≤ 11) : rjdRw S (6 + pa) (rjSc (S 482) (298 + 36 * pa)) := by
  have g := h.2.1.2 rfl pa.toNat (by omega) (by omega)
  rw [show 23 + 18 + 3 * pa.toNat = 23 + 3 * (6 + pa.toNat) by omega] at g
  have g := rjdRb_w g
  rw [show ((6 + pa.toNat : Nat) : Int) = 6 + pa by omega, Int.toNat_of_nonneg p0] at g
  exact g
theorem rjdK_es (hs : bx_same rxL (bx_mdl ms) S S_p) (hk : rjdKd.all (fun q => !(bx_mdl ms q.1 q.2)) = true) (p0 : 0 ≤ pa) (p5 : pa ≤ 5) : rjSc (S_p 482) (22 + 36 * pa) = rjSc (S 482) (22 + 36 * pa) := rjSc_cg fun t t0 t1 => rjdK_ra hs (rjdKf hk (by decide)) _ (by omega) (by omega)
theorem rjdK_ev (hs : bx_same rxL (bx_mdl ms) S S_p) (hk : rjdKd.all (fun q => !(bx_mdl ms q.1 q.2)) = true) (p0 : 0 ≤ pa) (p11 : pa ≤ 11) : rjSc (S_p 482) (298 + 36 * pa) = rjSc (S 482) (298 + 36 * pa) := rjSc_cg fun t t0 t1 => rjdK_rv hs (rjdKf hk (by decide)) _ (by omega) (by omega)
theorem rjdK_dg (hs : bx_same rxL (bx_mdl ms) S S_p) (hk : rjdKd.all (fun q => !(bx_mdl ms q.1 q.2)) = true) (h : rjdK x S) (p0 : 0 ≤ pa) (p17 : pa ≤ 17) (hop : rjdOp S S_p pa) (hf : rjdRw S_p pa f) : rjdKm x pa.toNat f S_p := by
  refine rjdK_dm hs hk (by omega) ?_ ?_ h
  · rw [Int.toNat_of_nonneg p0]
    exact hop
  · rw [Int.toNat_of_nonneg p0]
    exact hf
theorem rjdK_d1 (hs : bx_same rxL (bx_mdl ms) S S_p) (hk : rjdKd.all (fun q => !(bx_mdl ms q.1 q.2)) = true) (h : rjdK x S) (p0 : 0 ≤ pa) (p1 : pa < S 482 0) (p5 : pa ≤ 5) (h0 : -1 ≤ r) (h1 : r ≤ 59) (hsl : rjdSl S_p pa ix r) (hot : rjdOt S S_p pa ix) : rjdKm x pa.toNat (rkUp (rjSc (S_p 482) (22 + 36 * pa)) ix r) S_p := by
  rw [rjdK_es hs hk p0 p5]
  exact rjdK_dg hs hk h p0 (by omega) (rjdOp_o rjdOp_r hot) (rjdRw_up p0 (by omega) (rjdK_rwp h p0 p1 p5) hsl hot h0 h1)
theorem rjdK_wo (h : rjdK x S) (p0 : 0 ≤ pa) (p1 : pa < S 482 0) (p5 : pa ≤ 5) (i0 : 0 ≤ ix) (i1 : ix < 36) : S (24 + 3 * pa).toNat ix = rjWo (S 482 (22 + 36 * pa + ix)) ∧ S (25 + 3 * pa).toNat ix = rjNx (S 482 (22 + 36 * pa + ix)) := by
  obtain ⟨-, a, b⟩ := rjdK_rwp h p0 p1 p5 ix i0 i1
  rw [rjSc_in i0 i1] at a b
  exact ⟨a, b⟩
theorem rjdK_rg (hs : bx_same rxL (bx_mdl ms) S S_p) (hk : rjdKr.all (fun q => !(bx_mdl ms q.1 q.2)) = true) (h : rjdKm x pa.toNat f S) (p0 : 0 ≤ pa) (p5 : pa ≤ 5) (e0 : S_p 482 0 = S 482 0) (e2 : x = true → S_p 482 2 = S 482 2) (hf : rjSc (S_p 482) (22 + 36 * pa) = f) (ho : ∀ j : Int, 22 ≤ j → j < 238 → (j < 22 + 36 * pa ∨ 58 + 36 * pa ≤ j) → S_p 482 j = S 482 j) (hv : x = true → ∀ j : Int, 298 ≤ j → j < 730 → S_p 482 j = S 482 j) : rjdK x S_p := by
  refine rjdK_rm hs hk h (fun k c c6 => ?_) (fun hx k c c12 => ?_)
  · by_cases e : k = pa.toNat
    · refine Or.inr ⟨e, ?_⟩
      rw [show (k : Int) = pa by omega]
      exact hf
    · exact Or.inl ⟨e, by omega, rjSc_cg fun t t0 t1 => ho _ (by omega) (by omega) (by omega)⟩
  · refine Or.inl ⟨by omega, ?_, rjSc_cg fun t t0 t1 => hv hx _ (by omega) (by omega)⟩
    rw [← e2 hx]
    exact c
theorem rjdK_rn (hs : bx_same rxL (bx_mdl ms) S S_p) (hk : rjdKr.all (fun q => !(bx_mdl ms q.1 q.2)) = true) (h : rjdKm x (S 482 0).toNat f S) (p0 : 0 ≤ S 482 0) (p5 : S 482 0 ≤ 5) (e0 : S_p 482 0 = S 482 0 + 1) (e2 : x = true → S_p 482 2 = S 482 2) (hf : rjSc (S_p 482) (22 + 36 * S 482 0) = f) (ho : ∀ j : Int, 22 ≤ j → j < 238 → (j < 22 + 36 * S 482 0 ∨ 58 + 36 * S 482 0 ≤ j) → S_p 482 j = S 482 j) (hv : x = true → ∀ j : Int, 298 ≤ j → j < 730 → S_p 482 j = S 482 j) : rjdK x S_p := by
  refine rjdK_rm hs hk h (fun k c c6 => ?_) (fun hx k c c12 => ?_)
  · by_cases e : k = (S 482 0).toNat
    · refine Or.inr ⟨e, ?_⟩
      rw [show (k : Int) = S 482 0 by omega]
      exact hf
    · exact Or.inl ⟨e, by omega, rjSc_cg fun t t0 t1 => ho _ (by omega) (by omega) (by omega)⟩
  · refine Or.inl ⟨by omega, ?_, rjSc_cg fun t t0 t1 => hv hx _ (by omega) (by omega)⟩
    rw [← e2 hx]
    exact c
theorem rjdK_rx (hs : bx_same rxL (bx_mdl ms) S S_p) (hk : rjdKr.all (fun q => !(bx_mdl ms q.1 q.2)) = true) (h : rjdKm true (6 + S 482 2).toNat f S) (p0 : 0 ≤ S 482 2) (p11 : S 482 2 ≤ 11) (e0 : S_p 482 0 = S 482 0) (e2 : S_p 482 2 = S 482 2 + 1) (hf : rjSc (S_p 482) (298 + 36 * S 482 2) = f) (ho : ∀ j : Int, 22 ≤ j → j < 238 → S_p 482 j = S 482 j) (hv : ∀ j : Int, 298 ≤ j → j < 730 → ¬ (298 + 36 * S 482 2 ≤ j ∧ j < 334 + 36 * S 482 2) → S_p 482 j = S 482 j) (h6 : S 482 0 ≤ 6) : rjdK true S_p := by
  refine rjdK_rm hs hk h (fun k c c6 => ?_) (fun hx k c c12 => ?_)
  · exact Or.inl ⟨by omega, by omega, rjSc_cg fun t t0 t1 => ho _ (by omega) (by omega)⟩
  · by_cases e : 6 + k = (6 + S 482 2).toNat
    · refine Or.inr ⟨e, ?_⟩
      rw [show (k : Int) = S 482 2 by omega]
      exact hf
    · exact Or.inl ⟨e, by omega, rjSc_cg fun t t0 t1 => hv _ (by omega) (by omega) (by omega)⟩
end RJK2
theorem rx_conXP {PX : State → Prop} {Dg : va_G} {A : Nat → Prop} {ad : Nat → Nat} {l : Launch} {M : rx_Mt} {ct : bx_Ct} {P P_p : (Nat → Int → Int) → List Int → Prop} {PS : (Nat → Int → Int) → List Int → (Nat → Int → Int) → Option Int → Prop} (h : bx_ConP rxG rxNW rxAO PX Dg rxL (fun _ => True) vwCl A ad l M ct P PS) (hP : ∀ S0 ws, rxX S0 → P_p S0 ws → P S0 ws) (hPS : ∀ S0 ws S w, rxX S0 → bx_same rxL (bx_mdl ct.2.2.1) S0 S → PS S0 ws S w → rxX S) : bx_ConP rxG rxNW rxAO PX Dg rxL rxX vwCl A ad l M ct P_p PS := by
  intro S0 ws hX0 hvs hpr hp Qc hQc
  refine h S0 ws trivial hvs hpr (hP _ _ hX0 hp) Qc fun x st oc t hq => hQc x st oc t ?_
  obtain ⟨⟨S_p, rv, g1, g2, g3, g4, -, w, g5, g6⟩, g7⟩ := hq
  exact ⟨⟨S_p, rv, g1, g2, g3, g4, hPS _ _ _ _ hX0 g4 g5, w, g5, g6⟩, g7⟩
end
section
set_option maxHeartbeats 1000000 in
theorem rzQ240T {PX : State → Prop} {Dg : va_G} {A : Nat → Prop} {ad : Nat → Nat} {l : Launch} (hPX : rx_PXOK rxNW A PX) (hsl : ∀ s : State, PX s → ∀ o idx n : Nat, rxSl o idx = some n → ∃ tx : String, vk_R (rxNm o) idx tx (ad n) s) : bx_ConP rxG rxNW rxAO PX Dg rxL rxX vwCl A ad l rxM240 rxC240 (fun S0 _ => rzCk S0 ∧ S0 494 7 = 0 ∧ S0 494 8 = 0) rxPSPLAYR := by
  have qNXX := rxQNXX (PX := PX) (Dg := Dg) (A := A) (ad := ad) (xa := fun n => n) (l := l) (X := (fun _ => True)) hPX hsl (fun _ _ h _ => h) (fun _ _ _ h => absurd h List.not_mem_nil)
  have qBGW := rxQBGW (PX := PX) (Dg := Dg) (A := A) (ad := ad) (xa := fun n => n) (l := l) (X := (fun _ => True)) hPX hsl (fun _ _ h _ => h) (fun _ _ _ h => absurd h List.not_mem_nil) qNXX
  have qBXW := rxQBXW (PX := PX) (Dg := Dg) (A := A) (ad := ad) (xa := fun n => n) (l := l) (X := (fun _ => True)) hPX hsl (fun _ _ h _ => h) (fun _ _ _ h => absurd h List.not_mem_nil) qBGW
  have qMUW := rxQMUW (PX := PX) (Dg := Dg) (A := A) (ad := ad) (xa := fun n => n) (l := l) (X := (fun _ => True)) hPX hsl (fun _ _ h _ => h) (fun _ _ _ h => absurd h List.not_mem_nil) qNXX
  have qNUK := rxQNUK (PX := PX) (Dg := Dg) (A := A) (ad := ad) (xa := fun n => n) (l := l) (X := (fun _ => True)) hPX hsl (fun _ _ h _ => h) (fun _ _ _ h => absurd h List.not_mem_nil) qMUW
  have qRPLK := rxQRPLK (PX := PX) (Dg := Dg) (A := A) (ad := ad) (xa := fun n => n) (l := l) (X := (fun _ => True)) hPX hsl (fun _ _ h _ => h) (fun _ _ _ h => absurd h List.not_mem_nil) qNXX qNUK
  have qIWW := rxQIWW (PX := PX) (Dg := Dg) (A := A) (ad := ad) (xa := fun n => n) (l := l) (X := (fun _ => True)) hPX hsl (fun _ _ h _ => h) (fun _ _ _ h => absurd h List.not_mem_nil)
  have qPU := rxQPU (PX := PX) (Dg := Dg) (A := A) (ad := ad) (xa := fun n => n) (l := l) (X := (fun _ => True)) hPX hsl (fun _ _ h _ => h) (fun _ _ _ h => absurd h List.not_mem_nil)
  have qOBK := rxQOBK (PX := PX) (Dg := Dg) (A := A) (ad := ad) (xa := fun n => n) (l := l) (X := (fun _ => True)) hPX hsl (fun _ _ h _ => h) (fun _ _ _ h => absurd h List.not_mem_nil) qMUW qPU
  have qPPW := rxQPPW (PX := PX) (Dg := Dg) (A := A) (ad := ad) (xa := fun n => n) (l := l) (X := (fun _ => True)) hPX hsl (fun _ _ h _ => h) (fun _ _ _ h => absurd h List.not_mem_nil)
  have qPAW := rxQPAW (PX := PX) (Dg := Dg) (A := A) (ad := ad) (xa := fun n => n) (l := l) (X := (fun _ => True)) hPX hsl (fun _ _ h _ => h) (fun _ _ _ h => absurd h List.not_mem_nil)
  have qEM := rxQEM (PX := PX) (Dg := Dg) (A := A) (ad := ad) (xa := fun n => n) (l := l) (X := (fun _ => True)) hPX hsl (fun _ _ h _ => h) (fun _ _ _ h => absurd h List.not_mem_nil)
  have qLFK := rxQLFK (PX := PX) (Dg := Dg) (A := A) (ad := ad) (xa := fun n => n) (l := l) (X := (fun _ => True)) hPX hsl (fun _ _ h _ => h) (fun _ _ _ h => absurd h List.not_mem_nil) qMUW qEM
  have qRPK := rxQRPK (PX := PX) (Dg := Dg) (A := A) (ad := ad) (xa := fun n => n) (l := l) (X := (fun _ => True)) hPX hsl (fun _ _ h _ => h) (fun _ _ _ h => absurd h List.not_mem_nil) qOBK qPPW qPAW qLFK
  have qRNK := rxQRNK (PX := PX) (Dg := Dg) (A := A) (ad := ad) (xa := fun n => n) (l := l) (X := (fun _ => True)) hPX hsl (fun _ _ h _ => h) (fun _ _ _ h => absurd h List.not_mem_nil) qPU qNXX qOBK qRPK
  have qBIK := rxQBIK (PX := PX) (Dg := Dg) (A := A) (ad := ad) (xa := fun n => n) (l := l) (X := (fun _ => True)) hPX hsl (fun _ _ h _ => h) (fun _ _ _ h => absurd h List.not_mem_nil)
  have qSTK := rxQSTK (PX := PX) (Dg := Dg) (A := A) (ad := ad) (xa := fun n => n) (l := l) (X := (fun _ => True)) hPX hsl (fun _ _ h _ => h) (fun _ _ _ h => absurd h List.not_mem_nil) qEM
  have qIN := rxQIN (PX := PX) (Dg := Dg) (A := A) (ad := ad) (xa := fun n => n) (l := l) (X := (fun _ => True)) hPX hsl (fun _ _ h _ => h) (fun _ _ _ h => absurd h List.not_mem_nil)
  have qISW := rxQISW (PX := PX) (Dg := Dg) (A := A) (ad := ad) (xa := fun n => n) (l := l) (X := (fun _ => True)) hPX hsl (fun _ _ h _ => h) (fun _ _ _ h => absurd h List.not_mem_nil)
  have qICW := rxQICW (PX := PX) (Dg := Dg) (A := A) (ad := ad) (xa := fun n => n) (l := l) (X := (fun _ => True)) hPX hsl (fun _ _ h _ => h) (fun _ _ _ h => absurd h List.not_mem_nil)
  have qBSK := rxQBSK (PX := PX) (Dg := Dg) (A := A) (ad := ad) (xa := fun n => n) (l := l) (X := (fun _ => True)) hPX hsl (fun _ _ h _ => h) (fun _ _ _ h => absurd h List.not_mem_nil) qBIK qSTK qPU qNXX qIN qISW qMUW qICW
  have qBTK := rxQBTK (PX := PX) (Dg := Dg) (A := A) (ad := ad) (xa := fun n => n) (l := l) (X := (fun _ => True)) hPX hsl (fun _ _ h _ => h) (fun _ _ _ h => absurd h List.not_mem_nil) qSTK qPU qEM qNXX qIN qISW qMUW
  have qREXK := rxQREXK (PX := PX) (Dg := Dg) (A := A) (ad := ad) (xa := fun n => n) (l := l) (X := (fun _ => True)) hPX hsl (fun _ _ h _ => h) (fun _ _ _ h => absurd h List.not_mem_nil) qRNK qRPK qBSK qBTK qSTK
  have qRYK := rxQRYK (PX := PX) (Dg := Dg) (A := A) (ad := ad) (xa := fun n => n) (l := l) (X := (fun _ => True)) hPX hsl (fun _ _ h _ => h) (fun _ _ _ h => absurd h List.not_mem_nil) qMUW qRPLK qIWW qREXK qNXX
  have qETW := rxQETW (PX := PX) (Dg := Dg) (A := A) (ad := ad) (xa := fun n => n) (l := l) (X := (fun _ => True)) hPX hsl (fun _ _ h _ => h) (fun _ _ _ h => absurd h List.not_mem_nil) qMUW
  have qWOK := rxQWOK (PX := PX) (Dg := Dg) (A := A) (ad := ad) (xa := fun n => n) (l := l) (X := (fun _ => True)) hPX hsl (fun _ _ h _ => h) (fun _ _ _ h => absurd h List.not_mem_nil)
  have qNOK := rxQNOK (PX := PX) (Dg := Dg) (A := A) (ad := ad) (xa := fun n => n) (l := l) (X := (fun _ => True)) hPX hsl (fun _ _ h _ => h) (fun _ _ _ h => absurd h List.not_mem_nil)
  have qRKN := rxQRKN (PX := PX) (Dg := Dg) (A := A) (ad := ad) (xa := fun n => n) (l := l) (X := (fun _ => True)) hPX hsl (fun _ _ h _ => h) (fun _ _ _ h => absurd h List.not_mem_nil)
  have qRAX := rxQRAX (PX := PX) (Dg := Dg) (A := A) (ad := ad) (xa := fun n => n) (l := l) (X := (fun _ => True)) hPX hsl (fun _ _ h _ => h) (fun _ _ _ h => absurd h List.not_mem_nil) qRKN
  have qIPX := rxQIPX (PX := PX) (Dg := Dg) (A := A) (ad := ad) (xa := fun n => n) (l := l) (X := (fun _ => True)) hPX hsl (fun _ _ h _ => h) (fun _ _ _ h => absurd h List.not_mem_nil) qWOK qNOK qRAX
  have qPLAYR := rxQPLAYR (PX := PX) (Dg := Dg) (A := A) (ad := ad) (xa := fun n => n) (l := l) (X := (fun _ => True)) hPX hsl (fun _ _ h _ => h) (fun _ _ _ h => absurd h List.not_mem_nil) qBXW qRYK qNXX qETW qIPX
  exact rx_conXP qPLAYR (fun S0 ws hX hp => ⟨hX, hp⟩) (fun S0 ws S w _ _ h => h.1)
end
section
set_option maxHeartbeats 1000000 in
theorem rzQ239T {PX : State → Prop} {Dg : va_G} {A : Nat → Prop} {ad : Nat → Nat} {l : Launch} (hPX : rx_PXOK rxNW A PX) (hsl : ∀ s : State, PX s → ∀ o idx n : Nat, rxSl o idx = some n → ∃ tx : String, vk_R (rxNm o) idx tx (ad n) s) (ih : ∀ (j : Nat) (ct : bx_Ct) (M : rx_Mt), ct ∈ rxCn j → rxT.2.2.2.2.2 j = some M → bx_Con rxG rxNW rxAO PX Dg rxL rxX vwCl A ad l M ct) {av : Nat → Nat} (hstr : rx_hstr PX A ad av) (hstr3 : rx_hstr3 PX A ad av) : bx_ConP rxG rxNW rxAO PX Dg rxL rxX vwCl A ad l rxM239 rxC239 (fun S0 _ => rkPl S0 ∧ ∀ pa : Int, 0 ≤ pa → pa < S0 1 0 → ∃ s0 : Int → Int, rjdRw S0 pa s0) rxPSPLP := by
  have q110 := rxQ110 (PX := PX) (Dg := Dg) (A := A) (ad := ad) (xa := fun n => n) (l := l) (X := rxX) hPX hsl (fun _ _ h hm => rxX_of (by decide +kernel) h hm) (fun _ _ _ h => absurd h List.not_mem_nil)
  have qAD := rxQAD (PX := PX) (Dg := Dg) (A := A) (ad := ad) (xa := fun n => n) (l := l) (X := rxX) hPX hsl (fun _ _ h hm => rxX_of (by decide +kernel) h hm) (fun _ _ _ h => absurd h List.not_mem_nil)
  have qIWX := rxQIWX (PX := PX) (Dg := Dg) (A := A) (ad := ad) (xa := fun n => n) (l := l) (X := rxX) hPX hsl (fun _ _ h hm => rxX_of (by decide +kernel) h hm) (fun _ _ _ h => absurd h List.not_mem_nil) hstr hstr3
  have qTKW := rxQTKW (PX := PX) (Dg := Dg) (A := A) (ad := ad) (xa := fun n => n) (l := l) (X := rxX) hPX hsl (fun _ _ h hm => rxX_of (by decide +kernel) h hm) (fun _ _ _ h => absurd h List.not_mem_nil) qIWX qAD
  have qNUM := rxQNUM (PX := PX) (Dg := Dg) (A := A) (ad := ad) (xa := fun n => n) (l := l) (X := rxX) hPX hsl (fun _ _ h hm => rxX_of (by decide +kernel) h hm) (fun _ _ _ h => absurd h List.not_mem_nil)
  have qPLH := rxQPLH (PX := PX) (Dg := Dg) (A := A) (ad := ad) (xa := fun n => n) (l := l) (X := rxX) hPX hsl (fun _ _ h hm => rxX_of (by decide +kernel) h hm) (fun _ _ _ h => absurd h List.not_mem_nil) qIWX qNUM
  have qOCO := rxQOCO (PX := PX) (Dg := Dg) (A := A) (ad := ad) (xa := fun n => n) (l := l) (X := rxX) hPX hsl (fun _ _ h hm => rxX_of (by decide +kernel) h hm) (fun _ _ _ h => absurd h List.not_mem_nil)
  have qSHO := rxQSHO (PX := PX) (Dg := Dg) (A := A) (ad := ad) (xa := fun n => n) (l := l) (X := rxX) hPX hsl (fun _ _ h hm => rxX_of (by decide +kernel) h hm) (fun _ _ _ h => absurd h List.not_mem_nil)
  have qNMH := rxQNMH (PX := PX) (Dg := Dg) (A := A) (ad := ad) (xa := fun n => n) (l := l) (X := rxX) hPX hsl (fun _ _ h hm => rxX_of (by decide +kernel) h hm) (fun _ _ _ h => absurd h List.not_mem_nil) qIWX
  have qIPT := rxQIPT (PX := PX) (Dg := Dg) (A := A) (ad := ad) (xa := fun n => n) (l := l) (X := rxX) hPX hsl (fun _ _ h hm => rxX_of (by decide +kernel) h hm) (fun _ _ _ h => absurd h List.not_mem_nil) qNMH
  have qRPDO := rxQRPDO (PX := PX) (Dg := Dg) (A := A) (ad := ad) (xa := fun n => n) (l := l) (X := rxX) hPX hsl (fun _ _ h hm => rxX_of (by decide +kernel) h hm) (fun _ _ _ h => absurd h List.not_mem_nil) qNUM qNMH qAD
  have qRODO := rxQRODO (PX := PX) (Dg := Dg) (A := A) (ad := ad) (xa := fun n => n) (l := l) (X := rxX) hPX hsl (fun _ _ h hm => rxX_of (by decide +kernel) h hm) (fun _ _ _ h => absurd h List.not_mem_nil) qIWX qAD
  have qSTD := rxQSTD (PX := PX) (Dg := Dg) (A := A) (ad := ad) (xa := fun n => n) (l := l) (X := rxX) hPX hsl (fun _ _ h hm => rxX_of (by decide +kernel) h hm) (fun _ _ _ h => absurd h List.not_mem_nil)
  have qRDDO := rxQRDDO (PX := PX) (Dg := Dg) (A := A) (ad := ad) (xa := fun n => n) (l := l) (X := rxX) hPX hsl (fun _ _ h hm => rxX_of (by decide +kernel) h hm) (fun _ _ _ h => absurd h List.not_mem_nil) qSTD
  have qRCDO := rxQRCDO (PX := PX) (Dg := Dg) (A := A) (ad := ad) (xa := fun n => n) (l := l) (X := rxX) hPX hsl (fun _ _ h hm => rxX_of (by decide +kernel) h hm) (fun _ _ _ h => absurd h List.not_mem_nil) qRDDO qAD
  have qOPH := rxQOPH (PX := PX) (Dg := Dg) (A := A) (ad := ad) (xa := fun n => n) (l := l) (X := rxX) hPX hsl (fun _ _ h hm => rxX_of (by decide +kernel) h hm) (fun _ _ _ h => absurd h List.not_mem_nil) qIWX
  have qCEDO := rxQCEDO (PX := PX) (Dg := Dg) (A := A) (ad := ad) (xa := fun n => n) (l := l) (X := rxX) hPX hsl (fun _ _ h hm => rxX_of (by decide +kernel) h hm) (fun _ _ _ h => absurd h List.not_mem_nil) qRDDO
  have qROPO := rxQROPO (PX := PX) (Dg := Dg) (A := A) (ad := ad) (xa := fun n => n) (l := l) (X := rxX) hPX hsl (fun _ _ h hm => rxX_of (by decide +kernel) h hm) (fun _ _ _ h => absurd h List.not_mem_nil) qSTD qRDDO qAD
  have qREDO := rxQREDO (PX := PX) (Dg := Dg) (A := A) (ad := ad) (xa := fun n => n) (l := l) (X := rxX) hPX hsl (fun _ _ h hm => rxX_of (by decide +kernel) h hm) (fun _ _ _ h => absurd h List.not_mem_nil) qSHO qIPT qRPDO qRODO qRCDO qOPH qCEDO qROPO
  have qRPCO := rxQRPCO (PX := PX) (Dg := Dg) (A := A) (ad := ad) (xa := fun n => n) (l := l) (X := rxX) hPX hsl (fun _ _ h hm => rxX_of (by decide +kernel) h hm) (fun _ _ _ h => absurd h List.not_mem_nil) qTKW qPLH qAD qIWX qOCO qREDO
  have qRLCO := rxQRLCO (PX := PX) (Dg := Dg) (A := A) (ad := ad) (xa := fun n => n) (l := l) (X := rxX) hPX hsl (fun _ _ h hm => rxX_of (by decide +kernel) h hm) (fun _ _ _ h => absurd h List.not_mem_nil) qIWX qAD qOCO qREDO
  have qRIFO := rxQRIFO (PX := PX) (Dg := Dg) (A := A) (ad := ad) (xa := fun n => n) (l := l) (X := rxX) hPX hsl (fun _ _ h hm => rxX_of (by decide +kernel) h hm) (fun _ _ _ h => absurd h List.not_mem_nil) qIWX qAD qREDO
  have qRDXO := rxQRDXO (PX := PX) (Dg := Dg) (A := A) (ad := ad) (xa := fun n => n) (l := l) (X := rxX) hPX hsl (fun _ _ h hm => rxX_of (by decide +kernel) h hm) (fun _ _ _ h => absurd h List.not_mem_nil) qAD qRPCO qRLCO qRIFO
  have qCMB := rxQCMB (PX := PX) (Dg := Dg) (A := A) (ad := ad) (xa := fun n => n) (l := l) (X := rxX) hPX hsl (fun _ _ h hm => rxX_of (by decide +kernel) h hm) (fun _ _ _ h => absurd h List.not_mem_nil)
  have qTEL := rxQTEL (PX := PX) (Dg := Dg) (A := A) (ad := ad) (xa := fun n => n) (l := l) (X := rxX) hPX hsl (fun _ _ h hm => rxX_of (by decide +kernel) h hm) (fun _ _ _ h => absurd h List.not_mem_nil) qCMB
  have qISD := rxQISD (PX := PX) (Dg := Dg) (A := A) (ad := ad) (xa := fun n => n) (l := l) (X := rxX) hPX hsl (fun _ _ h hm => rxX_of (by decide +kernel) h hm) (fun _ _ _ h => absurd h List.not_mem_nil) qTEL
  have qPFA := rxQPFA (PX := PX) (Dg := Dg) (A := A) (ad := ad) (xa := fun n => n) (l := l) (X := rxX) hPX hsl (fun _ _ h hm => rxX_of (by decide +kernel) h hm) (fun _ _ _ h => absurd h List.not_mem_nil) qISD qTEL
  have qPFM := rxQPFM (PX := PX) (Dg := Dg) (A := A) (ad := ad) (xa := fun n => n) (l := l) (X := rxX) hPX hsl (fun _ _ h hm => rxX_of (by decide +kernel) h hm) (fun _ _ _ h => absurd h List.not_mem_nil) qPFA
  have qPLP := rxQPLP (PX := PX) (Dg := Dg) (A := A) (ad := ad) (xa := fun n => n) (l := l) (X := rxX) hPX hsl (fun _ _ h hm => rxX_of (by decide +kernel) h hm) (fun _ _ _ h => absurd h List.not_mem_nil) q110 qRDXO qPFM
  exact fun S0 ws h1 h2 h3 hp => qPLP S0 ws h1 h2 h3 hp
end
section
set_option maxHeartbeats 1000000 in
theorem rzQ172T {PX : State → Prop} {Dg : va_G} {A : Nat → Prop} {ad : Nat → Nat} {l : Launch} (hPX : rx_PXOK rxNW A PX) (hsl : ∀ s : State, PX s → ∀ o idx n : Nat, rxSl o idx = some n → ∃ tx : String, vk_R (rxNm o) idx tx (ad n) s) (ih : ∀ (j : Nat) (ct : bx_Ct) (M : rx_Mt), ct ∈ rxCn j → rxT.2.2.2.2.2 j = some M → bx_Con rxG rxNW rxAO PX Dg rxL rxX vwCl A ad l M ct) : bx_ConP rxG rxNW rxAO PX Dg rxL rxX vwCl A ad l rxM172 rxC172 (fun S0 _ => rkPl S0) rxPSPADX := by
  have q110 := rxQ110 (PX := PX) (Dg := Dg) (A := A) (ad := ad) (xa := fun n => n) (l := l) (X := rxX) hPX hsl (fun _ _ h hm => rxX_of (by decide +kernel) h hm) (fun _ _ _ h => absurd h List.not_mem_nil)
  have qFLW := rxQFLW (PX := PX) (Dg := Dg) (A := A) (ad := ad) (xa := fun n => n) (l := l) (X := rxX) hPX hsl (fun _ _ h hm => rxX_of (by decide +kernel) h hm) (fun _ _ _ h => absurd h List.not_mem_nil)
  have qFLN := rxQFLN (PX := PX) (Dg := Dg) (A := A) (ad := ad) (xa := fun n => n) (l := l) (X := rxX) hPX hsl (fun _ _ h hm => rxX_of (by decide +kernel) h hm) (fun _ _ _ h => absurd h List.not_mem_nil)
  have qCLR := rxQCLR (PX := PX) (Dg := Dg) (A := A) (ad := ad) (xa := fun n => n) (l := l) (X := rxX) hPX hsl (fun _ _ h hm => rxX_of (by decide +kernel) h hm) (fun _ _ _ h => absurd h List.not_mem_nil) qFLW qFLN
  have qAPD := rxQAPD (PX := PX) (Dg := Dg) (A := A) (ad := ad) (xa := fun n => n) (l := l) (X := rxX) hPX hsl (fun _ _ h hm => rxX_of (by decide +kernel) h hm) (fun _ _ _ h => absurd h List.not_mem_nil) qCLR
  have qPADX := rxQPADX (PX := PX) (Dg := Dg) (A := A) (ad := ad) (xa := fun n => n) (l := l) (X := rxX) hPX hsl (fun _ _ h hm => rxX_of (by decide +kernel) h hm) (fun _ _ _ h => absurd h List.not_mem_nil) q110 qAPD
  exact fun S0 ws h1 h2 h3 hp => qPADX S0 ws h1 h2 h3 hp
set_option maxHeartbeats 1000000 in
theorem rzQ193 {PX : State → Prop} {Dg : va_G} {A : Nat → Prop} {ad : Nat → Nat} {l : Launch} (hPX : rx_PXOK rxNW A PX) (hsl : ∀ s : State, PX s → ∀ o idx n : Nat, rxSl o idx = some n → ∃ tx : String, vk_R (rxNm o) idx tx (ad n) s) : bx_ConP rxG rxNW rxAO PX Dg rxL rxX vwCl A ad l rxM193 rxC193 (fun _ _ => True) rxPSPARX := by
  have qPARX := rxQPARX (PX := PX) (Dg := Dg) (A := A) (ad := ad) (xa := fun n => n) (l := l) (X := rxX) hPX hsl (fun _ _ h hm => rxX_of (by decide +kernel) h hm) (fun _ _ _ h => absurd h List.not_mem_nil)
  exact fun S0 ws h1 h2 h3 _ => qPARX S0 ws h1 h2 h3 trivial
end
section
set_option maxHeartbeats 1000000 in
theorem rzQ199T {PX : State → Prop} {Dg : va_G} {A : Nat → Prop} {ad : Nat → Nat} {l : Launch} (hPX : rx_PXOK rxNW A PX) (hsl : ∀ s : State, PX s → ∀ o idx n : Nat, rxSl o idx = some n → ∃ tx : String, vk_R (rxNm o) idx tx (ad n) s) (ih : ∀ (j : Nat) (ct : bx_Ct) (M : rx_Mt), ct ∈ rxCn j → rxT.2.2.2.2.2 j = some M → bx_Con rxG rxNW rxAO PX Dg rxL rxX vwCl A ad l M ct) : bx_ConP rxG rxNW rxAO PX Dg rxL rxX vwCl A ad l rxM199 rxC199 (fun S0 _ => rkPl S0) rxPSDRU := by
  have q110 := rxQ110 (PX := PX) (Dg := Dg) (A := A) (ad := ad) (xa := fun n => n) (l := l) (X := rxX) hPX hsl (fun _ _ h hm => rxX_of (by decide +kernel) h hm) (fun _ _ _ h => absurd h List.not_mem_nil)
  have qDRU := rxQDRU (PX := PX) (Dg := Dg) (A := A) (ad := ad) (xa := fun n => n) (l := l) (X := rxX) hPX hsl (fun _ _ h hm => rxX_of (by decide +kernel) h hm) (fun _ _ _ h => absurd h List.not_mem_nil) q110
  exact fun S0 ws h1 h2 h3 hp => qDRU S0 ws h1 h2 h3 hp
set_option maxHeartbeats 1000000 in
theorem rzQ216 {PX : State → Prop} {Dg : va_G} {A : Nat → Prop} {ad : Nat → Nat} {l : Launch} (hPX : rx_PXOK rxNW A PX) (hsl : ∀ s : State, PX s → ∀ o idx n : Nat, rxSl o idx = some n → ∃ tx : String, vk_R (rxNm o) idx tx (ad n) s) : bx_ConP rxG rxNW rxAO PX Dg rxL rxX vwCl A ad l rxM216 rxC216 (fun _ _ => True) rxPSRRU := by
  have qWOK := rxQWOK (PX := PX) (Dg := Dg) (A := A) (ad := ad) (xa := fun n => n) (l := l) (X := rxX) hPX hsl (fun _ _ h hm => rxX_of (by decide +kernel) h hm) (fun _ _ _ h => absurd h List.not_mem_nil)
  have qCHG := rxQCHG (PX := PX) (Dg := Dg) (A := A) (ad := ad) (xa := fun n => n) (l := l) (X := rxX) hPX hsl (fun _ _ h hm => rxX_of (by decide +kernel) h hm) (fun _ _ _ h => absurd h List.not_mem_nil) qWOK
  have qRRU := rxQRRU (PX := PX) (Dg := Dg) (A := A) (ad := ad) (xa := fun n => n) (l := l) (X := rxX) hPX hsl (fun _ _ h hm => rxX_of (by decide +kernel) h hm) (fun _ _ _ h => absurd h List.not_mem_nil) qCHG
  exact fun S0 ws h1 h2 h3 _ => qRRU S0 ws h1 h2 h3 trivial
set_option maxHeartbeats 1000000 in
theorem rzQ217T {PX : State → Prop} {Dg : va_G} {A : Nat → Prop} {ad : Nat → Nat} {l : Launch} (hPX : rx_PXOK rxNW A PX) (hsl : ∀ s : State, PX s → ∀ o idx n : Nat, rxSl o idx = some n → ∃ tx : String, vk_R (rxNm o) idx tx (ad n) s) (ih : ∀ (j : Nat) (ct : bx_Ct) (M : rx_Mt), ct ∈ rxCn j → rxT.2.2.2.2.2 j = some M → bx_Con rxG rxNW rxAO PX Dg rxL rxX vwCl A ad l M ct) : bx_ConP rxG rxNW rxAO PX Dg rxL rxX vwCl A ad l rxM217 rxC217 (fun S0 _ => rkPl S0) rxPSDHU := by
  have q110 := rxQ110 (PX := PX) (Dg := Dg) (A := A) (ad := ad) (xa := fun n => n) (l := l) (X := rxX) hPX hsl (fun _ _ h hm => rxX_of (by decide +kernel) h hm) (fun _ _ _ h => absurd h List.not_mem_nil)
  have qDHU := rxQDHU (PX := PX) (Dg := Dg) (A := A) (ad := ad) (xa := fun n => n) (l := l) (X := rxX) hPX hsl (fun _ _ h hm => rxX_of (by decide +kernel) h hm) (fun _ _ _ h => absurd h List.not_mem_nil) q110
  exact fun S0 ws h1 h2 h3 hp => qDHU S0 ws h1 h2 h3 hp
set_option maxHeartbeats 1000000 in
theorem rzQ218 {PX : State → Prop} {Dg : va_G} {A : Nat → Prop} {ad : Nat → Nat} {l : Launch} (hPX : rx_PXOK rxNW A PX) (hsl : ∀ s : State, PX s → ∀ o idx n : Nat, rxSl o idx = some n → ∃ tx : String, vk_R (rxNm o) idx tx (ad n) s) : bx_ConP rxG rxNW rxAO PX Dg rxL rxX vwCl A ad l rxM218 rxC218 (fun _ _ => True) rxPSRHU := by
  have qWOK := rxQWOK (PX := PX) (Dg := Dg) (A := A) (ad := ad) (xa := fun n => n) (l := l) (X := rxX) hPX hsl (fun _ _ h hm => rxX_of (by decide +kernel) h hm) (fun _ _ _ h => absurd h List.not_mem_nil)
  have qCHG := rxQCHG (PX := PX) (Dg := Dg) (A := A) (ad := ad) (xa := fun n => n) (l := l) (X := rxX) hPX hsl (fun _ _ h hm => rxX_of (by decide +kernel) h hm) (fun _ _ _ h => absurd h List.not_mem_nil) qWOK
  have qRHU := rxQRHU (PX := PX) (Dg := Dg) (A := A) (ad := ad) (xa := fun n => n) (l := l) (X := rxX) hPX hsl (fun _ _ h hm => rxX_of (by decide +kernel) h hm) (fun _ _ _ h => absurd h List.not_mem_nil) qCHG
  exact fun S0 ws h1 h2 h3 _ => qRHU S0 ws h1 h2 h3 trivial
end
section
set_option maxHeartbeats 1000000 in
theorem rzQ235T {PX : State → Prop} {Dg : va_G} {A : Nat → Prop} {ad : Nat → Nat} {l : Launch} (hPX : rx_PXOK rxNW A PX) (hsl : ∀ s : State, PX s → ∀ o idx n : Nat, rxSl o idx = some n → ∃ tx : String, vk_R (rxNm o) idx tx (ad n) s) (ih : ∀ (j : Nat) (ct : bx_Ct) (M : rx_Mt), ct ∈ rxCn j → rxT.2.2.2.2.2 j = some M → bx_Con rxG rxNW rxAO PX Dg rxL rxX vwCl A ad l M ct) : bx_ConP rxG rxNW rxAO PX Dg rxL rxX vwCl A ad l rxM235 rxC235 (fun S0 _ => rkPl S0) rxPSROWX := by
  have q110 := rxQ110 (PX := PX) (Dg := Dg) (A := A) (ad := ad) (xa := fun n => n) (l := l) (X := rxX) hPX hsl (fun _ _ h hm => rxX_of (by decide +kernel) h hm) (fun _ _ _ h => absurd h List.not_mem_nil)
  have qTRAX := rxQTRAX (PX := PX) (Dg := Dg) (A := A) (ad := ad) (xa := fun n => n) (l := l) (X := rxX) hPX hsl (fun _ _ h hm => rxX_of (by decide +kernel) h hm) (fun _ _ _ h => absurd h List.not_mem_nil)
  have qROWX := rxQROWX (PX := PX) (Dg := Dg) (A := A) (ad := ad) (xa := fun n => n) (l := l) (X := rxX) hPX hsl (fun _ _ h hm => rxX_of (by decide +kernel) h hm) (fun _ _ _ h => absurd h List.not_mem_nil) q110 qTRAX
  exact fun S0 ws h1 h2 h3 hp => qROWX S0 ws h1 h2 h3 ⟨trivial, hp⟩
set_option maxHeartbeats 1000000 in
theorem rzQ236 {PX : State → Prop} {Dg : va_G} {A : Nat → Prop} {ad : Nat → Nat} {l : Launch} (hPX : rx_PXOK rxNW A PX) (hsl : ∀ s : State, PX s → ∀ o idx n : Nat, rxSl o idx = some n → ∃ tx : String, vk_R (rxNm o) idx tx (ad n) s) : bx_ConP rxG rxNW rxAO PX Dg rxL rxX vwCl A ad l rxM236 rxC236 (fun _ _ => True) rxPSROWY := by
  have qROWY := rxQROWY (PX := PX) (Dg := Dg) (A := A) (ad := ad) (xa := fun n => n) (l := l) (X := rxX) hPX hsl (fun _ _ h hm => rxX_of (by decide +kernel) h hm) (fun _ _ _ h => absurd h List.not_mem_nil)
  exact fun S0 ws h1 h2 h3 _ => qROWY S0 ws h1 h2 h3 trivial
end
section
set_option maxHeartbeats 1000000 in
theorem rzQ176T {PX : State → Prop} {Dg : va_G} {A : Nat → Prop} {ad : Nat → Nat} {l : Launch} (hPX : rx_PXOK rxNW A PX) (hsl : ∀ s : State, PX s → ∀ o idx n : Nat, rxSl o idx = some n → ∃ tx : String, vk_R (rxNm o) idx tx (ad n) s) (ih : ∀ (j : Nat) (ct : bx_Ct) (M : rx_Mt), ct ∈ rxCn j → rxT.2.2.2.2.2 j = some M → bx_Con rxG rxNW rxAO PX Dg rxL rxX vwCl A ad l M ct) : bx_ConP rxG rxNW rxAO PX Dg rxL rxX vwCl A ad l rxM176 rxC176 (fun S0 _ => rkPl S0 ∧ rkDu S0) rxPSTLF := by
  have qSCZ := rxQSCZ (PX := PX) (Dg := Dg) (A := A) (ad := ad) (xa := fun n => n) (l := l) (X := rxX) hPX hsl (fun _ _ h hm => rxX_of (by decide +kernel) h hm) (fun _ _ _ h => absurd h List.not_mem_nil)
  have qSEAT := rxQSEAT (PX := PX) (Dg := Dg) (A := A) (ad := ad) (xa := fun n => n) (l := l) (X := rxX) hPX hsl (fun _ _ h hm => rxX_of (by decide +kernel) h hm) (fun _ _ _ h => absurd h List.not_mem_nil) qSCZ
  have qSDT := rxQSDT (PX := PX) (Dg := Dg) (A := A) (ad := ad) (xa := fun n => n) (l := l) (X := rxX) hPX hsl (fun _ _ h hm => rxX_of (by decide +kernel) h hm) (fun _ _ _ h => absurd h List.not_mem_nil) qSEAT
  have qTLF := rxQTLF (PX := PX) (Dg := Dg) (A := A) (ad := ad) (xa := fun n => n) (l := l) (X := rxX) hPX hsl (fun _ _ h hm => rxX_of (by decide +kernel) h hm) (fun j2 ct2 M2 hc hd hM => ih j2 ct2 M2 hc hM) qSDT
  exact fun S0 ws h1 h2 h3 hp => qTLF S0 ws h1 h2 h3 hp
set_option maxHeartbeats 1000000 in
theorem rzQ178T {PX : State → Prop} {Dg : va_G} {A : Nat → Prop} {ad : Nat → Nat} {l : Launch} (hPX : rx_PXOK rxNW A PX) (hsl : ∀ s : State, PX s → ∀ o idx n : Nat, rxSl o idx = some n → ∃ tx : String, vk_R (rxNm o) idx tx (ad n) s) (ih : ∀ (j : Nat) (ct : bx_Ct) (M : rx_Mt), ct ∈ rxCn j → rxT.2.2.2.2.2 j = some M → bx_Con rxG rxNW rxAO PX Dg rxL rxX vwCl A ad l M ct) : bx_ConP rxG rxNW rxAO PX Dg rxL rxX vwCl A ad l rxM178 rxC178 (fun S0 _ => rkPl S0 ∧ rkDu S0) rxPSMNF := by
  have qSCZ := rxQSCZ (PX := PX) (Dg := Dg) (A := A) (ad := ad) (xa := fun n => n) (l := l) (X := rxX) hPX hsl (fun _ _ h hm => rxX_of (by decide +kernel) h hm) (fun _ _ _ h => absurd h List.not_mem_nil)
  have qSEAT := rxQSEAT (PX := PX) (Dg := Dg) (A := A) (ad := ad) (xa := fun n => n) (l := l) (X := rxX) hPX hsl (fun _ _ h hm => rxX_of (by decide +kernel) h hm) (fun _ _ _ h => absurd h List.not_mem_nil) qSCZ
  have qSDT := rxQSDT (PX := PX) (Dg := Dg) (A := A) (ad := ad) (xa := fun n => n) (l := l) (X := rxX) hPX hsl (fun _ _ h hm => rxX_of (by decide +kernel) h hm) (fun _ _ _ h => absurd h List.not_mem_nil) qSEAT
  have qMDF := rxQMDF (PX := PX) (Dg := Dg) (A := A) (ad := ad) (xa := fun n => n) (l := l) (X := rxX) hPX hsl (fun _ _ h hm => rxX_of (by decide +kernel) h hm) (fun j2 ct2 M2 hc hd hM => ih j2 ct2 M2 hc hM)
  have qMNF := rxQMNF (PX := PX) (Dg := Dg) (A := A) (ad := ad) (xa := fun n => n) (l := l) (X := rxX) hPX hsl (fun _ _ h hm => rxX_of (by decide +kernel) h hm) (fun _ _ _ h => absurd h List.not_mem_nil) qSDT qMDF
  exact fun S0 ws h1 h2 h3 hp => qMNF S0 ws h1 h2 h3 hp
set_option maxHeartbeats 1000000 in
theorem rzQ204T {PX : State → Prop} {Dg : va_G} {A : Nat → Prop} {ad : Nat → Nat} {l : Launch} (hPX : rx_PXOK rxNW A PX) (hsl : ∀ s : State, PX s → ∀ o idx n : Nat, rxSl o idx = some n → ∃ tx : String, vk_R (rxNm o) idx tx (ad n) s) (ih : ∀ (j : Nat) (ct : bx_Ct) (M : rx_Mt), ct ∈ rxCn j → rxT.2.2.2.2.2 j = some M → bx_Con rxG rxNW rxAO PX Dg rxL rxX vwCl A ad l M ct) : bx_ConP rxG rxNW rxAO PX Dg rxL rxX vwCl A ad l rxM204 rxC204 (fun S0 _ => rkPl S0 ∧ rkDu S0) rxPSCNF := by
  have qSOP := rxQSOP (PX := PX) (Dg := Dg) (A := A) (ad := ad) (xa := fun n => n) (l := l) (X := rxX) hPX hsl (fun _ _ h hm => rxX_of (by decide +kernel) h hm) (fun _ _ _ h => absurd h List.not_mem_nil)
  have qSCZ := rxQSCZ (PX := PX) (Dg := Dg) (A := A) (ad := ad) (xa := fun n => n) (l := l) (X := rxX) hPX hsl (fun _ _ h hm => rxX_of (by decide +kernel) h hm) (fun _ _ _ h => absurd h List.not_mem_nil)
  have qFLP := rxQFLP (PX := PX) (Dg := Dg) (A := A) (ad := ad) (xa := fun n => n) (l := l) (X := rxX) hPX hsl (fun _ _ h hm => rxX_of (by decide +kernel) h hm) (fun _ _ _ h => absurd h List.not_mem_nil)
  have qSBF := rxQSBF (PX := PX) (Dg := Dg) (A := A) (ad := ad) (xa := fun n => n) (l := l) (X := rxX) hPX hsl (fun _ _ h hm => rxX_of (by decide +kernel) h hm) (fun _ _ _ h => absurd h List.not_mem_nil)
  have qRCF := rxQRCF (PX := PX) (Dg := Dg) (A := A) (ad := ad) (xa := fun n => n) (l := l) (X := rxX) hPX hsl (fun _ _ h hm => rxX_of (by decide +kernel) h hm) (fun j2 ct2 M2 hc hd hM => ih j2 ct2 M2 hc hM) qSOP qSCZ qFLP qSBF
  have qCNF := rxQCNF (PX := PX) (Dg := Dg) (A := A) (ad := ad) (xa := fun n => n) (l := l) (X := rxX) hPX hsl (fun _ _ h hm => rxX_of (by decide +kernel) h hm) (fun j2 ct2 M2 hc hd hM => ih j2 ct2 M2 hc hM) qRCF
  exact fun S0 ws h1 h2 h3 hp => qCNF S0 ws h1 h2 h3 hp
end
