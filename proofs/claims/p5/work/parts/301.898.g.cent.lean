/-! CONTRACT BY HAND, by program (wip/sim/genhand.py): DeadUnderstudies.century -/
def rxICNF_0 (S0 : Nat → Int → Int) (ws : List Int) (S : Nat → Int → Int) (se pa n : Int) : Prop := S = S0 ∧ ws = [0, se, pa, n]
def rxmCNF_0 (S0 : Nat → Int → Int) (ws : List Int) (S : Nat → Int → Int) (se pa n : Int) : Nat := 100
def rxzCNF_0 : rx_Z := ([(0, 0), (0, 0), (0, 0), (0, 0), (0, 0), (0, 0), (0, 0), (0, 0), ((-2147483648), 2147483647), ((-2147483648), 2147483647), ((-2147483648), 2147483647)], [], [], 0, 0, 0, [(0, .inr (3, (0, 0))), (1, .inr (0, (8, 0))), (2, .inr (0, (9, 0))), (3, .inr (0, (10, 0)))], [])
def rxICNF_1 (S0 : Nat → Int → Int) (ws : List Int) (S : Nat → Int → Int) (se pa n : Int) : Prop := rjdSm S0 S
def rxmCNF_1 (S0 : Nat → Int → Int) (ws : List Int) (S : Nat → Int → Int) (se pa n : Int) : Nat := 90
def rxzCNF_1 : rx_Z := ([(0, 0), (0, 0), (0, 0), (0, 0), (0, 0), (0, 0), (0, 0), (0, 0), (0, 1000000), (0, 5), (0, 100)], [], [], 0, 0, 49, [(0, .inr (3, (0, 0))), (1, .inr (0, (8, 0))), (2, .inr (0, (9, 0))), (3, .inr (0, (10, 0)))], [.inr (0, (10, 0)), .inr (0, (9, 0)), .inr (0, (8, 0)), .inr (3, (0, 0))])
def rxICNF_2 (S0 : Nat → Int → Int) (ws : List Int) (S : Nat → Int → Int) (se pa n : Int) : Prop := rjdSm S0 S
def rxmCNF_2 (S0 : Nat → Int → Int) (ws : List Int) (S : Nat → Int → Int) (se pa n : Int) : Nat := 80
def rxzCNF_2 : rx_Z := ([(0, 0), (0, 0), (0, 0), (0, 0), (0, 0), (0, 0), (0, 0), (0, 0), (0, 1000000), (0, 5), (0, 100)], [], [], 0, 0, 52, [(0, .inr (3, (0, 0))), (1, .inr (0, (8, 0))), (2, .inr (0, (9, 0))), (3, .inr (0, (10, 0)))], [])
def rxoCNF_0_0 : bx_HO := (([(0, 0), (0, 0), (0, 0), (0, 0), (0, 0), (0, 0), (0, 0), (0, 0), (0, 1000000), (0, 5), (0, 100), (1, 6)], [(0, (9, 0), (11, 0))], [(((0, 0), 1851192626986356797424340330377019318111018015026043177553952768000000), .inr (0, (11, 0))), (((0, 1), 0), .inr (0, (11, 0))), (((0, 0), 0), .inr (3, (0, 1)))], 0, 0, 49, [(0, .inr (3, (0, 0))), (1, .inr (0, (8, 0))), (2, .inr (0, (9, 0))), (3, .inr (0, (10, 0)))], [.inr (0, (10, 0)), .inr (0, (9, 0)), .inr (0, (8, 0)), .inr (3, (0, 0))]), [], [], [(0, 0), (0, 0), (0, 0), (0, 0), (0, 0), (0, 0), (0, 0), (0, 0), (8, 0), (9, 0), (10, 0)], 1)
def rxeCNF_0_0 : rx_End × List (Nat × Int × Int) := (([(0, 0), (0, 0), (0, 0), (0, 0), (0, 0), (0, 0), (0, 0), (0, 0), (0, 1000000), ((-2147483648), 2147483647), (101, 2147483647), ((-6), (-1))], [], [(((0, 0), 9900078000000), .inl none), (((0, 0), 933300006000000), .inl none), (((0, 0), 89999100006000000), .inl none)], some (.inr (0, (11, 0)))), [])
def rxeCNF_0_1 : rx_End × List (Nat × Int × Int) := (([(0, 0), (0, 0), (0, 0), (0, 0), (0, 0), (0, 0), (0, 0), (0, 0), (0, 1000000), ((-2147483648), (-1)), (0, 100), ((-6), (-1))], [], [(((0, 0), 9900078000000), .inl none), (((0, 0), 933300006000000), .inl none), (((0, 0), 89999100006000000), .inl none), (((0, 0), 0), .inr (3, (0, 1)))], some (.inr (0, (11, 0)))), [])
def rxeCNF_0_2 : rx_End × List (Nat × Int × Int) := (([(0, 0), (0, 0), (0, 0), (0, 0), (0, 0), (0, 0), (0, 0), (0, 0), (0, 1000000), (0, 2147483647), (0, 100), (0, 6), ((-6), (-1))], [(1, (11, 0), (9, 0))], [(((0, 0), 9900078000000), .inl none), (((0, 0), 933300006000000), .inl none), (((0, 0), 89999100006000000), .inl none), (((0, 0), 1851192626986356797424340330377019318111018015026043177553952768000000), .inr (0, (11, 0))), (((0, 1), 0), .inr (0, (11, 0))), (((0, 0), 0), .inr (3, (0, 1)))], some (.inr (0, (12, 0)))), [])
def rxeCNF_0_3 : rx_End × List (Nat × Int × Int) := (([(0, 0), (0, 0), (0, 0), (0, 0), (0, 0), (0, 0), (0, 0), (0, 0), (0, 1000000), ((-2147483648), 2147483647), ((-2147483648), (-1)), ((-6), (-1))], [], [(((0, 0), 9900078000000), .inl none), (((0, 0), 933300006000000), .inl none), (((0, 0), 89999100006000000), .inl none)], some (.inr (0, (11, 0)))), [])
def rxeCNF_0_4 : rx_End × List (Nat × Int × Int) := (([(0, 0), (0, 0), (0, 0), (0, 0), (0, 0), (0, 0), (0, 0), (0, 0), (1000001, 2147483647), ((-2147483648), 2147483647), ((-2147483648), 2147483647), ((-6), (-1))], [], [(((0, 0), 9900078000000), .inl none), (((0, 0), 933300006000000), .inl none), (((0, 0), 89999100006000000), .inl none)], some (.inr (0, (11, 0)))), [])
def rxeCNF_0_5 : rx_End × List (Nat × Int × Int) := (([(0, 0), (0, 0), (0, 0), (0, 0), (0, 0), (0, 0), (0, 0), (0, 0), ((-2147483648), (-1)), ((-2147483648), 2147483647), ((-2147483648), 2147483647), ((-6), (-1))], [], [(((0, 0), 9900078000000), .inl none), (((0, 0), 933300006000000), .inl none), (((0, 0), 89999100006000000), .inl none)], some (.inr (0, (11, 0)))), [])
def rxeCNF_2_0 : rx_End × List (Nat × Int × Int) := (([(0, 0), (0, 0), (0, 0), (0, 0), (0, 0), (0, 0), (0, 0), (0, 0), (0, 1000000), (0, 5), (0, 100), (0, 1522), ((-2147483648), 2147483647)], [], [(((0, 0), 1851192626986356799029993984671224184301589730656725205983952899000000), .inr (0, (0, 0))), (((0, 0), 8), .inr (0, (0, 0))), (((0, 0), 89999100006000000), .inl none), (((0, 0), 1851192626986356797424367893248739914126558548369245150780850176000000), .inr (3, (11, 0))), (((11, 0), 1000010), .inl none), (((0, 1), 3), .inr (3, (0, 4))), (((0, 0), 0), .inr (3, (0, 1))), (((0, 0), 17), .inr (3, (0, 476)))], some (.inr (0, (12, 0)))), [])
def rxYCNF : List bx_HE := [(rxzCNF_0, [rxoCNF_0_0], [rxeCNF_0_0, rxeCNF_0_1, rxeCNF_0_2, rxeCNF_0_3, rxeCNF_0_4, rxeCNF_0_5]), (rxzCNF_1, [], []), (rxzCNF_2, [], [rxeCNF_2_0])]
def rxUCNF (q : bx_HE) : Bool := Nat.beq (rx_zpc q.1) 49
def rxYBCNF : bx_B := (rxV, rxNP, rxDmf, bx_mdH rxC204.2.2.1)
set_option maxRecDepth 100000 in
theorem rxYcCNF : bx_chkH rxYBCNF rxM204 rxC204 rxYCNF (rxUCNF, fun cut z => rx_ex2 (rxCT rxYBCNF rxCn) cut 30000 rxC204.2.2.2.1 204 z) = true := by decide +kernel
def rxICNF (S0 : Nat → Int → Int) (ws : List Int) (i : Nat) : bx_SP := fun S r => match i with | 0 => rxICNF_0 S0 ws S (r 8) (r 9) (r 10) | 1 => rxICNF_1 S0 ws S (r 8) (r 9) (r 10) | 2 => rxICNF_2 S0 ws S (r 8) (r 9) (r 10) | _ => False
def rxmCNF (S0 : Nat → Int → Int) (ws : List Int) (i : Nat) (S : Nat → Int → Int) (r : Nat → Int) : Nat := match i with | 0 => rxmCNF_0 S0 ws S (r 8) (r 9) (r 10) | 1 => rxmCNF_1 S0 ws S (r 8) (r 9) (r 10) | 2 => rxmCNF_2 S0 ws S (r 8) (r 9) (r 10) | _ => 0
def rxPCNF (S0 : Nat → Int → Int) (ws : List Int) : Prop := rkPl S0 ∧ rkDu S0
def rxPSCNF (S0 : Nat → Int → Int) (ws : List Int) (S : Nat → Int → Int) (w : Option Int) : Prop := rjdSm S0 S
theorem rxkCNF_1 {S0 : Nat → Int → Int} {ws : List Int} {S : Nat → Int → Int} {se pa n : Int} (hP : rxPCNF S0 ws) (hin : bx_same rxL (bx_mdl rxC204.2.2.1) S0 S) (I0 : bx_Inv rxL S) (hinv : rxICNF_1 S0 ws S se pa n) (l8 : 0 ≤ se) (u8 : se ≤ 1000000) (l9 : 0 ≤ pa) (u9 : pa ≤ 5) (l10 : 0 ≤ n) (u10 : n ≤ 100) : rxPRCF S [0, se, pa, n] ∧ ∀ (S_p : Nat → Int → Int), rxPSRCF S [0, se, pa, n] S_p none → bx_Inv rxL S_p → bx_same rxL (bx_mdl rxCRCF.2.2.1) S S_p → rxICNF_2 S0 ws S_p se pa n ∧ rxmCNF_2 S0 ws S_p se pa n < rxmCNF_1 S0 ws S se pa n := by
  have hf : rjdSm S0 S := hinv
  exact ⟨⟨rkPl_sm hin (by decide +kernel) hP.1, rkDu_sm hin (by decide +kernel) hP.2⟩, fun S_p hq _ hsm => ⟨rjdSm_t hf hq.2, by unfold rxmCNF_1 rxmCNF_2; omega⟩⟩
theorem rxsCNF_1 {X : (Nat → Int → Int) → Prop} {S0 : Nat → Int → Int} {ws : List Int} (hP : rxPCNF S0 ws) : rx_obK X S0 rxC204.2.2.1 rxCRCF.2.2.1 (rxICNF S0 ws) (rxmCNF S0 ws) 1 2 rxzCNF_1 rxzCNF_2 [.inr (3, (0, 0)), .inr (0, (8, 0)), .inr (0, (9, 0)), .inr (0, (10, 0))] none rxPRCF rxPSRCF := by
  intro S r hinv hXS I0 hin hs_ hf_
  have b_ := bx_bds_sat hs_
  have f_ := bx_fcl_ok hs_.1 hf_
  obtain ⟨⟨l8, u8⟩, ⟨l9, u9⟩, ⟨l10, u10⟩, -⟩ := b_
  have g := rxkCNF_1 hP hin I0 hinv l8 u8 l9 u9 l10 u10
  have ea : List.map (bx_num r) [.inr (3, (0, 0)), .inr (0, (8, 0)), .inr (0, (9, 0)), .inr (0, (10, 0))] = [0, (r 8), (r 9), (r 10)] := by
    simp only [List.map_cons, List.map_nil, bx_xv_ok hs_.1]
    rfl
  rw [ea]
  refine ⟨g.1, fun S_p w r_p hPS hX_p I1 hsm hr hw hs_p => ?_⟩
  have hw : w = none := hPS.1
  subst hw
  have g2 := g.2 S_p hPS I1 hsm
  show rxICNF_2 S0 ws S_p (r_p 8) (r_p 9) (r_p 10) ∧ rxmCNF_2 S0 ws S_p (r_p 8) (r_p 9) (r_p 10) < _
  rw [hr 8 (by decide), hr 9 (by decide), hr 10 (by decide)]
  exact g2
theorem rxcCNF_0_0 {S0 : Nat → Int → Int} {ws : List Int} {S : Nat → Int → Int} {se pa n x11 : Int} (hP : rxPCNF S0 ws) (hin : bx_same rxL (bx_mdl rxC204.2.2.1) S0 S) (I0 : bx_Inv rxL S) (hinv : rxICNF_0 S0 ws S se pa n) (l8 : 0 ≤ se) (u8 : se ≤ 1000000) (l9 : 0 ≤ pa) (u9 : pa ≤ 5) (l10 : 0 ≤ n) (u10 : n ≤ 100) (l11 : 1 ≤ x11) (u11 : x11 ≤ 6) (f0 : pa < x11) (e0 : S 1 0 = x11) : (True) ∧ (True) ∧ rxICNF_1 S0 ws S se pa n ∧ rxmCNF_1 S0 ws S se pa n < rxmCNF_0 S0 ws S se pa n := by
  obtain ⟨rfl, hw⟩ := hinv
  exact ⟨trivial, trivial, rjdSm_r, by unfold rxmCNF_0 rxmCNF_1; omega⟩
theorem rxgCNF_0_0 {X : (Nat → Int → Int) → Prop} {S0 : Nat → Int → Int} {ws : List Int} (hP : rxPCNF S0 ws) : bx_obC rxL X S0 rxC204.2.2.1 (rxICNF S0 ws) (rxmCNF S0 ws) 0 rxzCNF_0 rxoCNF_0_0 := by
  intro S S_p r r_p hinv hX hin hsm_ hseg
  obtain ⟨I0, I1, h0_, hr_, b_, f_, d_⟩ := bx_cl (evs := [(0, (0, 1), (0, 0), .inr (0, (11, 0)))]) (fvs := [(0, (9, 0), (11, 0), (0, 0))]) hseg (by decide +kernel) (by decide +kernel)
  have hinv : rxICNF_0 S0 ws S (r 8) (r 9) (r 10) := hinv
  rw [← hr_ 8 (by decide), ← hr_ 9 (by decide), ← hr_ 10 (by decide)] at hinv
  obtain ⟨⟨l8, u8⟩, ⟨l9, u9⟩, ⟨l10, u10⟩, ⟨l11, u11⟩, -⟩ := b_
  obtain ⟨f0, -⟩ := f_
  obtain ⟨e0, w_⟩ := d_
  subst w_
  have g := rxcCNF_0_0 hP hin I0 hinv l8 u8 l9 u9 l10 u10 l11 u11 f0 e0
  refine ⟨bx_narP_ok (l := []) g.1, bx_nfP_ok h0_ (fvs := []) (by decide +kernel) g.2.1, ?_, ?_⟩
  · show rxICNF_1 S0 ws S_p (bx_val [(0, 0), (0, 0), (0, 0), (0, 0), (0, 0), (0, 0), (0, 0), (0, 0), (8, 0), (9, 0), (10, 0)] r_p 8) (bx_val [(0, 0), (0, 0), (0, 0), (0, 0), (0, 0), (0, 0), (0, 0), (0, 0), (8, 0), (9, 0), (10, 0)] r_p 9) (bx_val [(0, 0), (0, 0), (0, 0), (0, 0), (0, 0), (0, 0), (0, 0), (0, 0), (8, 0), (9, 0), (10, 0)] r_p 10)
    rw [bx_val_x (n := 8) (e := (8, 0)) h0_ rfl, bx_val_x (n := 9) (e := (9, 0)) h0_ rfl, bx_val_x (n := 10) (e := (10, 0)) h0_ rfl]
    exact g.2.2.1
  · show rxmCNF_1 S0 ws S_p (bx_val [(0, 0), (0, 0), (0, 0), (0, 0), (0, 0), (0, 0), (0, 0), (0, 0), (8, 0), (9, 0), (10, 0)] r_p 8) (bx_val [(0, 0), (0, 0), (0, 0), (0, 0), (0, 0), (0, 0), (0, 0), (0, 0), (8, 0), (9, 0), (10, 0)] r_p 9) (bx_val [(0, 0), (0, 0), (0, 0), (0, 0), (0, 0), (0, 0), (0, 0), (0, 0), (8, 0), (9, 0), (10, 0)] r_p 10) < rxmCNF_0 S0 ws S_p (r 8) (r 9) (r 10)
    rw [bx_val_x (n := 8) (e := (8, 0)) h0_ rfl, bx_val_x (n := 9) (e := (9, 0)) h0_ rfl, bx_val_x (n := 10) (e := (10, 0)) h0_ rfl, ← hr_ 8 (by decide), ← hr_ 9 (by decide), ← hr_ 10 (by decide)]
    exact g.2.2.2
theorem rxdCNF_0_0 {S0 : Nat → Int → Int} {ws : List Int} {S T2 T1 T0 : Nat → Int → Int} {se pa n x11 : Int} (hP : rxPCNF S0 ws) (hin : bx_same rxL (bx_mdl rxC204.2.2.1) S0 S) (hin2 : bx_same rxL (bx_mdl rxC204.2.2.1) S T0) (I0 : bx_Inv rxL S) (I1 : bx_Inv rxL T0) (hinv : rxICNF_0 S0 ws S se pa n) (l8 : 0 ≤ se) (u8 : se ≤ 1000000) (l9 : (-2147483648) ≤ pa) (u9 : pa ≤ 2147483647) (l10 : 101 ≤ n) (u10 : n ≤ 2147483647) (l11 : (-6) ≤ x11) (u11 : x11 ≤ (-1)) (v2 : ∀ (p i : Nat), p < rxL.2.1 → i < bx_wd (rxL.1 p) → bx_mc (rxL.1 p) i ≠ (99999, 0) → T2 p (i : Int) = S p (i : Int)) (v1 : ∀ (p i : Nat), p < rxL.2.1 → i < bx_wd (rxL.1 p) → bx_mc (rxL.1 p) i ≠ (1037, 0) → T1 p (i : Int) = T2 p (i : Int)) (v0 : ∀ (p i : Nat), p < rxL.2.1 → i < bx_wd (rxL.1 p) → bx_mc (rxL.1 p) i ≠ (11, 8) → T0 p (i : Int) = T1 p (i : Int)) : (True) ∧ rxPSCNF S0 ws T0 (some x11) := by
  obtain ⟨rfl, hw⟩ := hinv
  exact ⟨trivial, (rjdSm_t (rjdSm_t (rjdSm_v v2 (by decide) (by decide)) (rjdSm_v v1 (by decide) (by decide))) (rjdSm_v v0 (by decide) (by decide)))⟩
theorem rxfCNF_0_0 {X : (Nat → Int → Int) → Prop} {S0 : Nat → Int → Int} {ws : List Int} (hP : rxPCNF S0 ws) : bx_obE rxL X S0 rxC204.2.2.1 (rxICNF S0 ws) (rxPSCNF S0 ws) 0 rxzCNF_0 rxeCNF_0_0 := by
  intro S S_p r r_p hinv hX hin hsm_ hseg
  obtain ⟨I0, I1, h0_, hr_, b_, f_, d_⟩ := bx_cl (evs := [(2, (11, 0), (8, 0), .inl none), (2, (1037, 0), (0, 0), .inl none), (2, (99999, 0), (0, 0), .inl none)]) (fvs := []) hseg (by decide +kernel) (by decide +kernel)
  have hinv : rxICNF_0 S0 ws S (r 8) (r 9) (r 10) := hinv
  rw [← hr_ 8 (by decide), ← hr_ 9 (by decide), ← hr_ 10 (by decide)] at hinv
  obtain ⟨⟨l8, u8⟩, ⟨l9, u9⟩, ⟨l10, u10⟩, ⟨l11, u11⟩, -⟩ := b_
  obtain ⟨T0, ⟨T1, ⟨T2, w_, v2⟩, v1⟩, v0⟩ := d_
  subst w_
  have g := rxdCNF_0_0 hP hin hsm_ I0 I1 hinv l8 u8 l9 u9 l10 u10 l11 u11 v2 v1 v0
  refine ⟨bx_narP_ok (l := []) g.1, ?_⟩
  show rxPSCNF S0 ws S_p (some (bx_num r_p (.inr (0, (11, 0)))))
  rw [bx_xv_ok h0_]
  exact g.2
theorem rxdCNF_0_1 {S0 : Nat → Int → Int} {ws : List Int} {S T2 T1 T0 : Nat → Int → Int} {se pa n x11 : Int} (hP : rxPCNF S0 ws) (hin : bx_same rxL (bx_mdl rxC204.2.2.1) S0 S) (hin2 : bx_same rxL (bx_mdl rxC204.2.2.1) S T0) (I0 : bx_Inv rxL S) (I1 : bx_Inv rxL T0) (hinv : rxICNF_0 S0 ws S se pa n) (l8 : 0 ≤ se) (u8 : se ≤ 1000000) (l9 : (-2147483648) ≤ pa) (u9 : pa ≤ (-1)) (l10 : 0 ≤ n) (u10 : n ≤ 100) (l11 : (-6) ≤ x11) (u11 : x11 ≤ (-1)) (v2 : ∀ (p i : Nat), p < rxL.2.1 → i < bx_wd (rxL.1 p) → bx_mc (rxL.1 p) i ≠ (99999, 0) → T2 p (i : Int) = S p (i : Int)) (v1 : ∀ (p i : Nat), p < rxL.2.1 → i < bx_wd (rxL.1 p) → bx_mc (rxL.1 p) i ≠ (1037, 0) → T1 p (i : Int) = T2 p (i : Int)) (v0 : ∀ (p i : Nat), p < rxL.2.1 → i < bx_wd (rxL.1 p) → bx_mc (rxL.1 p) i ≠ (11, 8) → T0 p (i : Int) = T1 p (i : Int)) : (True) ∧ rxPSCNF S0 ws T0 (some x11) := by
  obtain ⟨rfl, hw⟩ := hinv
  exact ⟨trivial, (rjdSm_t (rjdSm_t (rjdSm_v v2 (by decide) (by decide)) (rjdSm_v v1 (by decide) (by decide))) (rjdSm_v v0 (by decide) (by decide)))⟩
theorem rxfCNF_0_1 {X : (Nat → Int → Int) → Prop} {S0 : Nat → Int → Int} {ws : List Int} (hP : rxPCNF S0 ws) : bx_obE rxL X S0 rxC204.2.2.1 (rxICNF S0 ws) (rxPSCNF S0 ws) 0 rxzCNF_0 rxeCNF_0_1 := by
  intro S S_p r r_p hinv hX hin hsm_ hseg
  obtain ⟨I0, I1, h0_, hr_, b_, f_, d_⟩ := bx_cl (evs := [(2, (11, 0), (8, 0), .inl none), (2, (1037, 0), (0, 0), .inl none), (2, (99999, 0), (0, 0), .inl none)]) (fvs := []) hseg (by decide +kernel) (by decide +kernel)
  have hinv : rxICNF_0 S0 ws S (r 8) (r 9) (r 10) := hinv
  rw [← hr_ 8 (by decide), ← hr_ 9 (by decide), ← hr_ 10 (by decide)] at hinv
  obtain ⟨⟨l8, u8⟩, ⟨l9, u9⟩, ⟨l10, u10⟩, ⟨l11, u11⟩, -⟩ := b_
  obtain ⟨T0, ⟨T1, ⟨T2, w_, v2⟩, v1⟩, v0⟩ := d_
  subst w_
  have g := rxdCNF_0_1 hP hin hsm_ I0 I1 hinv l8 u8 l9 u9 l10 u10 l11 u11 v2 v1 v0
  refine ⟨bx_narP_ok (l := []) g.1, ?_⟩
  show rxPSCNF S0 ws S_p (some (bx_num r_p (.inr (0, (11, 0)))))
  rw [bx_xv_ok h0_]
  exact g.2
theorem rxdCNF_0_2 {S0 : Nat → Int → Int} {ws : List Int} {S T2 T1 T0 : Nat → Int → Int} {se pa n x11 x12 : Int} (hP : rxPCNF S0 ws) (hin : bx_same rxL (bx_mdl rxC204.2.2.1) S0 S) (hin2 : bx_same rxL (bx_mdl rxC204.2.2.1) S T0) (I0 : bx_Inv rxL S) (I1 : bx_Inv rxL T0) (hinv : rxICNF_0 S0 ws S se pa n) (l8 : 0 ≤ se) (u8 : se ≤ 1000000) (l9 : 0 ≤ pa) (u9 : pa ≤ 2147483647) (l10 : 0 ≤ n) (u10 : n ≤ 100) (l11 : 0 ≤ x11) (u11 : x11 ≤ 6) (l12 : (-6) ≤ x12) (u12 : x12 ≤ (-1)) (f0 : x11 ≤ pa) (e3 : S 1 0 = x11) (v2 : ∀ (p i : Nat), p < rxL.2.1 → i < bx_wd (rxL.1 p) → bx_mc (rxL.1 p) i ≠ (99999, 0) → T2 p (i : Int) = S p (i : Int)) (v1 : ∀ (p i : Nat), p < rxL.2.1 → i < bx_wd (rxL.1 p) → bx_mc (rxL.1 p) i ≠ (1037, 0) → T1 p (i : Int) = T2 p (i : Int)) (v0 : ∀ (p i : Nat), p < rxL.2.1 → i < bx_wd (rxL.1 p) → bx_mc (rxL.1 p) i ≠ (11, 8) → T0 p (i : Int) = T1 p (i : Int)) : (True) ∧ rxPSCNF S0 ws T0 (some x12) := by
  obtain ⟨rfl, hw⟩ := hinv
  exact ⟨trivial, (rjdSm_t (rjdSm_t (rjdSm_v v2 (by decide) (by decide)) (rjdSm_v v1 (by decide) (by decide))) (rjdSm_v v0 (by decide) (by decide)))⟩
theorem rxfCNF_0_2 {X : (Nat → Int → Int) → Prop} {S0 : Nat → Int → Int} {ws : List Int} (hP : rxPCNF S0 ws) : bx_obE rxL X S0 rxC204.2.2.1 (rxICNF S0 ws) (rxPSCNF S0 ws) 0 rxzCNF_0 rxeCNF_0_2 := by
  intro S S_p r r_p hinv hX hin hsm_ hseg
  obtain ⟨I0, I1, h0_, hr_, b_, f_, d_⟩ := bx_cl (evs := [(2, (11, 0), (8, 0), .inl none), (2, (1037, 0), (0, 0), .inl none), (2, (99999, 0), (0, 0), .inl none), (0, (0, 1), (0, 0), .inr (0, (11, 0)))]) (fvs := [(1, (11, 0), (9, 0), (0, 0))]) hseg (by decide +kernel) (by decide +kernel)
  have hinv : rxICNF_0 S0 ws S (r 8) (r 9) (r 10) := hinv
  rw [← hr_ 8 (by decide), ← hr_ 9 (by decide), ← hr_ 10 (by decide)] at hinv
  obtain ⟨⟨l8, u8⟩, ⟨l9, u9⟩, ⟨l10, u10⟩, ⟨l11, u11⟩, ⟨l12, u12⟩, -⟩ := b_
  obtain ⟨f0, -⟩ := f_
  obtain ⟨T0, ⟨T1, ⟨T2, ⟨e3, w_⟩, v2⟩, v1⟩, v0⟩ := d_
  subst w_
  have g := rxdCNF_0_2 hP hin hsm_ I0 I1 hinv l8 u8 l9 u9 l10 u10 l11 u11 l12 u12 f0 e3 v2 v1 v0
  refine ⟨bx_narP_ok (l := []) g.1, ?_⟩
  show rxPSCNF S0 ws S_p (some (bx_num r_p (.inr (0, (12, 0)))))
  rw [bx_xv_ok h0_]
  exact g.2
theorem rxdCNF_0_3 {S0 : Nat → Int → Int} {ws : List Int} {S T2 T1 T0 : Nat → Int → Int} {se pa n x11 : Int} (hP : rxPCNF S0 ws) (hin : bx_same rxL (bx_mdl rxC204.2.2.1) S0 S) (hin2 : bx_same rxL (bx_mdl rxC204.2.2.1) S T0) (I0 : bx_Inv rxL S) (I1 : bx_Inv rxL T0) (hinv : rxICNF_0 S0 ws S se pa n) (l8 : 0 ≤ se) (u8 : se ≤ 1000000) (l9 : (-2147483648) ≤ pa) (u9 : pa ≤ 2147483647) (l10 : (-2147483648) ≤ n) (u10 : n ≤ (-1)) (l11 : (-6) ≤ x11) (u11 : x11 ≤ (-1)) (v2 : ∀ (p i : Nat), p < rxL.2.1 → i < bx_wd (rxL.1 p) → bx_mc (rxL.1 p) i ≠ (99999, 0) → T2 p (i : Int) = S p (i : Int)) (v1 : ∀ (p i : Nat), p < rxL.2.1 → i < bx_wd (rxL.1 p) → bx_mc (rxL.1 p) i ≠ (1037, 0) → T1 p (i : Int) = T2 p (i : Int)) (v0 : ∀ (p i : Nat), p < rxL.2.1 → i < bx_wd (rxL.1 p) → bx_mc (rxL.1 p) i ≠ (11, 8) → T0 p (i : Int) = T1 p (i : Int)) : (True) ∧ rxPSCNF S0 ws T0 (some x11) := by
  obtain ⟨rfl, hw⟩ := hinv
  exact ⟨trivial, (rjdSm_t (rjdSm_t (rjdSm_v v2 (by decide) (by decide)) (rjdSm_v v1 (by decide) (by decide))) (rjdSm_v v0 (by decide) (by decide)))⟩
theorem rxfCNF_0_3 {X : (Nat → Int → Int) → Prop} {S0 : Nat → Int → Int} {ws : List Int} (hP : rxPCNF S0 ws) : bx_obE rxL X S0 rxC204.2.2.1 (rxICNF S0 ws) (rxPSCNF S0 ws) 0 rxzCNF_0 rxeCNF_0_3 := by
  intro S S_p r r_p hinv hX hin hsm_ hseg
  obtain ⟨I0, I1, h0_, hr_, b_, f_, d_⟩ := bx_cl (evs := [(2, (11, 0), (8, 0), .inl none), (2, (1037, 0), (0, 0), .inl none), (2, (99999, 0), (0, 0), .inl none)]) (fvs := []) hseg (by decide +kernel) (by decide +kernel)
  have hinv : rxICNF_0 S0 ws S (r 8) (r 9) (r 10) := hinv
  rw [← hr_ 8 (by decide), ← hr_ 9 (by decide), ← hr_ 10 (by decide)] at hinv
  obtain ⟨⟨l8, u8⟩, ⟨l9, u9⟩, ⟨l10, u10⟩, ⟨l11, u11⟩, -⟩ := b_
  obtain ⟨T0, ⟨T1, ⟨T2, w_, v2⟩, v1⟩, v0⟩ := d_
  subst w_
  have g := rxdCNF_0_3 hP hin hsm_ I0 I1 hinv l8 u8 l9 u9 l10 u10 l11 u11 v2 v1 v0
  refine ⟨bx_narP_ok (l := []) g.1, ?_⟩
  show rxPSCNF S0 ws S_p (some (bx_num r_p (.inr (0, (11, 0)))))
  rw [bx_xv_ok h0_]
  exact g.2
theorem rxdCNF_0_4 {S0 : Nat → Int → Int} {ws : List Int} {S T2 T1 T0 : Nat → Int → Int} {se pa n x11 : Int} (hP : rxPCNF S0 ws) (hin : bx_same rxL (bx_mdl rxC204.2.2.1) S0 S) (hin2 : bx_same rxL (bx_mdl rxC204.2.2.1) S T0) (I0 : bx_Inv rxL S) (I1 : bx_Inv rxL T0) (hinv : rxICNF_0 S0 ws S se pa n) (l8 : 1000001 ≤ se) (u8 : se ≤ 2147483647) (l9 : (-2147483648) ≤ pa) (u9 : pa ≤ 2147483647) (l10 : (-2147483648) ≤ n) (u10 : n ≤ 2147483647) (l11 : (-6) ≤ x11) (u11 : x11 ≤ (-1)) (v2 : ∀ (p i : Nat), p < rxL.2.1 → i < bx_wd (rxL.1 p) → bx_mc (rxL.1 p) i ≠ (99999, 0) → T2 p (i : Int) = S p (i : Int)) (v1 : ∀ (p i : Nat), p < rxL.2.1 → i < bx_wd (rxL.1 p) → bx_mc (rxL.1 p) i ≠ (1037, 0) → T1 p (i : Int) = T2 p (i : Int)) (v0 : ∀ (p i : Nat), p < rxL.2.1 → i < bx_wd (rxL.1 p) → bx_mc (rxL.1 p) i ≠ (11, 8) → T0 p (i : Int) = T1 p (i : Int)) : (True) ∧ rxPSCNF S0 ws T0 (some x11) := by
  obtain ⟨rfl, hw⟩ := hinv
  exact ⟨trivial, (rjdSm_t (rjdSm_t (rjdSm_v v2 (by decide) (by decide)) (rjdSm_v v1 (by decide) (by decide))) (rjdSm_v v0 (by decide) (by decide)))⟩
theorem rxfCNF_0_4 {X : (Nat → Int → Int) → Prop} {S0 : Nat → Int → Int} {ws : List Int} (hP : rxPCNF S0 ws) : bx_obE rxL X S0 rxC204.2.2.1 (rxICNF S0 ws) (rxPSCNF S0 ws) 0 rxzCNF_0 rxeCNF_0_4 := by
  intro S S_p r r_p hinv hX hin hsm_ hseg
  obtain ⟨I0, I1, h0_, hr_, b_, f_, d_⟩ := bx_cl (evs := [(2, (11, 0), (8, 0), .inl none), (2, (1037, 0), (0, 0), .inl none), (2, (99999, 0), (0, 0), .inl none)]) (fvs := []) hseg (by decide +kernel) (by decide +kernel)
  have hinv : rxICNF_0 S0 ws S (r 8) (r 9) (r 10) := hinv
  rw [← hr_ 8 (by decide), ← hr_ 9 (by decide), ← hr_ 10 (by decide)] at hinv
  obtain ⟨⟨l8, u8⟩, ⟨l9, u9⟩, ⟨l10, u10⟩, ⟨l11, u11⟩, -⟩ := b_
  obtain ⟨T0, ⟨T1, ⟨T2, w_, v2⟩, v1⟩, v0⟩ := d_
  subst w_
  have g := rxdCNF_0_4 hP hin hsm_ I0 I1 hinv l8 u8 l9 u9 l10 u10 l11 u11 v2 v1 v0
  refine ⟨bx_narP_ok (l := []) g.1, ?_⟩
  show rxPSCNF S0 ws S_p (some (bx_num r_p (.inr (0, (11, 0)))))
  rw [bx_xv_ok h0_]
  exact g.2
theorem rxdCNF_0_5 {S0 : Nat → Int → Int} {ws : List Int} {S T2 T1 T0 : Nat → Int → Int} {se pa n x11 : Int} (hP : rxPCNF S0 ws) (hin : bx_same rxL (bx_mdl rxC204.2.2.1) S0 S) (hin2 : bx_same rxL (bx_mdl rxC204.2.2.1) S T0) (I0 : bx_Inv rxL S) (I1 : bx_Inv rxL T0) (hinv : rxICNF_0 S0 ws S se pa n) (l8 : (-2147483648) ≤ se) (u8 : se ≤ (-1)) (l9 : (-2147483648) ≤ pa) (u9 : pa ≤ 2147483647) (l10 : (-2147483648) ≤ n) (u10 : n ≤ 2147483647) (l11 : (-6) ≤ x11) (u11 : x11 ≤ (-1)) (v2 : ∀ (p i : Nat), p < rxL.2.1 → i < bx_wd (rxL.1 p) → bx_mc (rxL.1 p) i ≠ (99999, 0) → T2 p (i : Int) = S p (i : Int)) (v1 : ∀ (p i : Nat), p < rxL.2.1 → i < bx_wd (rxL.1 p) → bx_mc (rxL.1 p) i ≠ (1037, 0) → T1 p (i : Int) = T2 p (i : Int)) (v0 : ∀ (p i : Nat), p < rxL.2.1 → i < bx_wd (rxL.1 p) → bx_mc (rxL.1 p) i ≠ (11, 8) → T0 p (i : Int) = T1 p (i : Int)) : (True) ∧ rxPSCNF S0 ws T0 (some x11) := by
  obtain ⟨rfl, hw⟩ := hinv
  exact ⟨trivial, (rjdSm_t (rjdSm_t (rjdSm_v v2 (by decide) (by decide)) (rjdSm_v v1 (by decide) (by decide))) (rjdSm_v v0 (by decide) (by decide)))⟩
theorem rxfCNF_0_5 {X : (Nat → Int → Int) → Prop} {S0 : Nat → Int → Int} {ws : List Int} (hP : rxPCNF S0 ws) : bx_obE rxL X S0 rxC204.2.2.1 (rxICNF S0 ws) (rxPSCNF S0 ws) 0 rxzCNF_0 rxeCNF_0_5 := by
  intro S S_p r r_p hinv hX hin hsm_ hseg
  obtain ⟨I0, I1, h0_, hr_, b_, f_, d_⟩ := bx_cl (evs := [(2, (11, 0), (8, 0), .inl none), (2, (1037, 0), (0, 0), .inl none), (2, (99999, 0), (0, 0), .inl none)]) (fvs := []) hseg (by decide +kernel) (by decide +kernel)
  have hinv : rxICNF_0 S0 ws S (r 8) (r 9) (r 10) := hinv
  rw [← hr_ 8 (by decide), ← hr_ 9 (by decide), ← hr_ 10 (by decide)] at hinv
  obtain ⟨⟨l8, u8⟩, ⟨l9, u9⟩, ⟨l10, u10⟩, ⟨l11, u11⟩, -⟩ := b_
  obtain ⟨T0, ⟨T1, ⟨T2, w_, v2⟩, v1⟩, v0⟩ := d_
  subst w_
  have g := rxdCNF_0_5 hP hin hsm_ I0 I1 hinv l8 u8 l9 u9 l10 u10 l11 u11 v2 v1 v0
  refine ⟨bx_narP_ok (l := []) g.1, ?_⟩
  show rxPSCNF S0 ws S_p (some (bx_num r_p (.inr (0, (11, 0)))))
  rw [bx_xv_ok h0_]
  exact g.2
theorem rxdCNF_2_0 {S0 : Nat → Int → Int} {ws : List Int} {S T1 : Nat → Int → Int} {se pa n x11 x12 : Int} (hP : rxPCNF S0 ws) (hin : bx_same rxL (bx_mdl rxC204.2.2.1) S0 S) (hin2 : bx_same rxL (bx_mdl rxC204.2.2.1) S (bx_up T1 0 8 0)) (I0 : bx_Inv rxL S) (I1 : bx_Inv rxL (bx_up T1 0 8 0)) (hinv : rxICNF_2 S0 ws S se pa n) (l8 : 0 ≤ se) (u8 : se ≤ 1000000) (l9 : 0 ≤ pa) (u9 : pa ≤ 5) (l10 : 0 ≤ n) (u10 : n ≤ 100) (l11 : 0 ≤ x11) (u11 : x11 ≤ 1522) (l12 : (-2147483648) ≤ x12) (u12 : x12 ≤ 2147483647) (e2 : S 4 pa = x11) (v1 : ∀ (p i : Nat), p < rxL.2.1 → i < bx_wd (rxL.1 p) → bx_mc (rxL.1 p) i ≠ (99999, 0) → T1 p (i : Int) = S p (i : Int)) : (True) ∧ rxPSCNF S0 ws (bx_up T1 0 8 0) (some x12) := by
  have hf : rjdSm S0 S := hinv
  exact ⟨trivial, rjdSm_t hf (rjdSm_t (rjdSm_v v1 (by decide) (by decide)) (fun p t a b c => bx_up_ne (by omega)))⟩
theorem rxfCNF_2_0 {X : (Nat → Int → Int) → Prop} {S0 : Nat → Int → Int} {ws : List Int} (hP : rxPCNF S0 ws) : bx_obE rxL X S0 rxC204.2.2.1 (rxICNF S0 ws) (rxPSCNF S0 ws) 2 rxzCNF_2 rxeCNF_2_0 := by
  intro S S_p r r_p hinv hX hin hsm_ hseg
  obtain ⟨I0, I1, h0_, hr_, b_, f_, d_⟩ := bx_cl (evs := [(1, (0, 0), (0, 8), .inr (0, (0, 0))), (2, (99999, 0), (0, 0), .inl none), (0, (0, 4), (9, 0), .inr (3, (11, 0)))]) (fvs := []) hseg (by decide +kernel) (by decide +kernel)
  have hinv : rxICNF_2 S0 ws S (r 8) (r 9) (r 10) := hinv
  rw [← hr_ 8 (by decide), ← hr_ 9 (by decide), ← hr_ 10 (by decide)] at hinv
  obtain ⟨⟨l8, u8⟩, ⟨l9, u9⟩, ⟨l10, u10⟩, ⟨l11, u11⟩, ⟨l12, u12⟩, -⟩ := b_
  obtain ⟨T0, ⟨T1, ⟨e2, w_⟩, v1⟩, w0⟩ := d_
  subst w0
  subst w_
  have g := rxdCNF_2_0 hP hin hsm_ I0 I1 hinv l8 u8 l9 u9 l10 u10 l11 u11 l12 u12 e2 v1
  refine ⟨bx_narP_ok (l := []) g.1, ?_⟩
  show rxPSCNF S0 ws (bx_up T0 0 (8) (0)) (some (bx_num r_p (.inr (0, (12, 0)))))
  rw [bx_xv_ok h0_]
  exact g.2
theorem rxgCCNF {X : (Nat → Int → Int) → Prop} {S0 : Nat → Int → Int} {ws : List Int} (hP : rxPCNF S0 ws) : bx_allI (fun i q => rxUCNF q = true ∨ bx_allP (fun o => bx_obC rxL X S0 rxC204.2.2.1 (rxICNF S0 ws) (rxmCNF S0 ws) i q.1 o) q.2.1) 0 rxYCNF := ⟨Or.inr ⟨rxgCNF_0_0 hP, trivial⟩, Or.inl rfl, Or.inr trivial, trivial⟩
theorem rxgECNF {X : (Nat → Int → Int) → Prop} {S0 : Nat → Int → Int} {ws : List Int} (hP : rxPCNF S0 ws) : bx_allI (fun i q => rxUCNF q = true ∨ bx_allP (fun E => bx_obE rxL X S0 rxC204.2.2.1 (rxICNF S0 ws) (rxPSCNF S0 ws) i q.1 E) q.2.2) 0 rxYCNF := ⟨Or.inr ⟨rxfCNF_0_0 hP, rxfCNF_0_1 hP, rxfCNF_0_2 hP, rxfCNF_0_3 hP, rxfCNF_0_4 hP, rxfCNF_0_5 hP, trivial⟩, Or.inl rfl, Or.inr ⟨rxfCNF_2_0 hP, trivial⟩, trivial⟩
theorem rxuCNF {PX : State → Prop} {Dg : va_G} {A : Nat → Prop} {ad xa : Nat → Nat} {l : Launch} {X : (Nat → Int → Int) → Prop} (hPX : rx_PXOK rxNW A PX) (hX : ∀ S S1 : Nat → Int → Int, X S → bx_same rxL (bx_mdl rxC204.2.2.1) S S1 → X S1) (hQRCF : bx_ConP rxG rxNW rxAO PX Dg rxL X vwCl A ad l rxM151 rxCRCF rxPRCF rxPSRCF) {S0 : Nat → Int → Int} {ws : List Int} (hP : rxPCNF S0 ws) : ∀ (i : Nat) (q : bx_HE), rxYCNF[i]? = some q → rxUCNF q = true → ∀ {p : Program} {e : Env} {R : Room} {s : State} {m : MethodId} {args : Array Value} {below : List Frame} {meth : Method} {c : Code} {Q : State → Prop} {H0 : Heap}, rx_Fr rxG rxNW rxAO PX p s m args meth c rxM204 → (∀ q, H0.size ≤ q → A q) → H0 = s.heap → rxM204.2.2.2.2.2.2.1 ≤ R.cells → rxM204.2.2.2.2.2.2.2 ≤ R.slots → rxC204.2.2.2.1 ≤ R.frames → rxC204.2.2.2.1 * 40 ≤ R.locals → bx_Step p l e R s m args below meth c Q Dg rxL X vwCl A xa H0 ad rxM204 rxYCNF (rxICNF S0 ws) (rxmCNF S0 ws) S0 rxC204.2.2.1 i q := by
  intro i q hq hus p e R s m args below meth c Q H0 hF hA hH0 hmc hms hd hdl
  match i, hq with
  | 0, hq =>
    cases hq
    exact absurd (show false = true from hus) Bool.false_ne_true
  | 1, hq =>
    cases hq
    exact rx_stepC (ins := .invokevirtual 421) (len := 3) (i_p := 2) (M_p := rxM151) (d := rxC204.2.2.2.1) (as := [.inr (3, (0, 0)), .inr (0, (8, 0)), .inr (0, (9, 0)), .inr (0, (10, 0))]) (t := []) (ct := rxCRCF) hPX hF rfl hA hH0 hmc hms hd hdl (by decide +kernel) rfl rfl (by decide +kernel) (by decide +kernel) hQRCF (by decide +kernel) rfl (Or.inl ⟨rfl, rfl, rfl⟩) (rxsCNF_1 hP)
  | 2, hq =>
    cases hq
    exact absurd (show false = true from hus) Bool.false_ne_true
  | n + 3, hq => cases hq
theorem rxQCNF {PX : State → Prop} {Dg : va_G} {A : Nat → Prop} {ad xa : Nat → Nat} {l : Launch} {X : (Nat → Int → Int) → Prop} (hPX : rx_PXOK rxNW A PX) (hsl : ∀ s : State, PX s → ∀ o idx n : Nat, rxSl o idx = some n → ∃ tx : String, vk_R (rxNm o) idx tx (ad n) s)
    (hX : ∀ S S_p : Nat → Int → Int, X S → bx_same rxL (bx_mdl rxC204.2.2.1) S S_p → X S_p)
    (ih : ∀ (j2 : Nat) (ct2 : bx_Ct) (M2 : rx_Mt), ct2 ∈ rxCn j2 → ct2.2.2.2.1 + 1 ≤ rxC204.2.2.2.1 → rxT.2.2.2.2.2 j2 = some M2 → bx_Con rxG rxNW rxAO PX Dg rxL X vwCl A ad l M2 ct2) (hQRCF : bx_ConP rxG rxNW rxAO PX Dg rxL X vwCl A ad l rxM151 rxCRCF rxPRCF rxPSRCF) : bx_ConP rxG rxNW rxAO PX Dg rxL X vwCl A ad l rxM204 rxC204 rxPCNF rxPSCNF :=
  rxQof (xa := xa) (Cn := rxCn) (f := 30000) (j := 204) (tab := rxYCNF) (us := rxUCNF) hPX hsl hX ih rfl rxYcCNF rxICNF rxmCNF
    (fun S0 ws r I0 I ht0 ht as he he1 hX0 hI0 hP hs ha => by
      have e := he.symm.trans (show bx_ent0 rxNP rxC204.1 bx_I0 [] = some ([(0, 0), (0, 0), (0, 0), (0, 0), (0, 0), (0, 0), (0, 0), (0, 0), ((-2147483648), 2147483647), ((-2147483648), 2147483647), ((-2147483648), 2147483647)], [], [.inr (3, (0, 0)), .inr (0, (8, 0)), .inr (0, (9, 0)), .inr (0, (10, 0))]) from rfl)
      cases e
      subst ha
      have h0 : r 0 = 0 := hs.1
      show rxICNF_0 S0 _ S0 (r 8) (r 9) (r 10)
      refine ⟨rfl, ?_⟩
      simp only [List.map_cons, List.map_nil, bx_xv_ok h0]
      rfl)
    (fun S0 ws hP => rxuCNF (xa := xa) hPX hX hQRCF hP) (fun S0 ws hP => rxgCCNF hP) (fun S0 ws hP => rxgECNF hP)
